set_option maxRecDepth 20000 in
theorem in_X6_stage_X6 : ∀ w ∈ wsX60, w ∈ wsX6_stage := by decide +kernel
def f_X6_stage (a1 : Int32) (a2 : Int32) (a3 : Int32) (M_ : tM_) : Option (Int32 × tM_) :=
match M_ with
| (mg, mkept, mspare, mhasKept, mwas, mwasMany, manew, mthrown, mtext, mlength, mspot, mvalue, merror, mtold, mtolds) =>
bd_ (f_X6_isKey a1) (fun r1 =>
if r1 = 0 then
some ((0 : Int32), (mg, mkept, mspare, mhasKept, mwas, mwasMany, manew, 1, mtext, mlength, mspot, mvalue, merror, mtold, mtolds))
else
bd_ (f_X6_isDay a2) (fun r8 =>
if r8 = 0 then
some ((0 : Int32), (mg, mkept, mspare, mhasKept, mwas, mwasMany, manew, 2, mtext, mlength, mspot, mvalue, merror, mtold, mtolds))
else
gd_ (2 : Int32) 610 (
if (mg ((2 : Int32).toNatClampNeg)) = 20 then
some ((0 : Int32), (mg, mkept, mspare, mhasKept, mwas, mwasMany, manew, 3, mtext, mlength, mspot, mvalue, merror, mtold, mtolds))
else
gd_ (2 : Int32) 610 (
gd_ (2 : Int32) 610 (
gd_ (2 : Int32) 610 (nm_ (upd mg ((2 : Int32).toNatClampNeg) ((mg ((2 : Int32).toNatClampNeg)) + 1)) (fun u22 =>
gd_ (550 + (mg ((2 : Int32).toNatClampNeg))) 610 (nm_ (upd u22 ((550 + (mg ((2 : Int32).toNatClampNeg))).toNatClampNeg) a1) (fun u26 =>
gd_ (570 + (mg ((2 : Int32).toNatClampNeg))) 610 (nm_ (upd u26 ((570 + (mg ((2 : Int32).toNatClampNeg))).toNatClampNeg) a2) (fun u30 =>
gd_ (590 + (mg ((2 : Int32).toNatClampNeg))) 610 (nm_ (upd u30 ((590 + (mg ((2 : Int32).toNatClampNeg))).toNatClampNeg) a3) (fun u34 =>
gd_ (2 : Int32) 610 (
some (u34 ((2 : Int32).toNatClampNeg), (u34, mkept, mspare, mhasKept, mwas, mwasMany, manew, 0, mtext, mlength, mspot, mvalue, merror, mtold, mtolds))))))))))))))))
abbrev rm_X6_stage : Room := { frames := 2, cells := 0, slots := 0, locals := 42 }
set_option maxHeartbeats 4000000 in
set_option maxRecDepth 100000 in
theorem c_X6_stage (l : Launch) (dC : Nat → ClassId) (dI : Nat → Nat → Nat) (cI cZ cC cJ cD : ClassId) (m0 m_g m_kept m_spare m_was m_text m_told : Nat) (sz : Nat) (mg : Nat → Int32) (mkept : Nat → Int32) (mspare : Nat → Int32) (mhasKept : Int32) (mwas : Nat → Int32) (mwasMany : Int32) (manew : Int32) (mthrown : Int32) (mtext : Nat → Int32) (mlength : Int32) (mspot : Int32) (mvalue : Int32) (merror : Int32) (mtold : Nat → Int32) (mtolds : Int32) (a1 : Int32) (a2 : Int32) (a3 : Int32) (R : Int32 × tM_) (hf : f_X6_stage a1 a2 a3 (mg, mkept, mspare, mhasKept, mwas, mwasMany, manew, mthrown, mtext, mlength, mspot, mvalue, merror, mtold, mtolds) = some R) : Met l yX6_stage wsX6_stage rm_X6_stage (Pc_ (dC, dI) (ty_ cI cZ cC cJ cD) (wM_ m0 m_g m_kept m_spare m_was m_text m_told cI mg mkept mspare mhasKept mwas mwasMany manew mthrown mtext mlength mspot mvalue merror mtold mtolds) sz [.ref m0, .int a1, .int a2, .int a3]) (Qi_ (dC, dI) (ty_ cI cZ cC cJ cD) R.1 (wM_ m0 m_g m_kept m_spare m_was m_text m_told cI R.2.1 R.2.2.1 R.2.2.2.1 R.2.2.2.2.1 R.2.2.2.2.2.1 R.2.2.2.2.2.2.1 R.2.2.2.2.2.2.2.1 R.2.2.2.2.2.2.2.2.1 R.2.2.2.2.2.2.2.2.2.1 R.2.2.2.2.2.2.2.2.2.2.1 R.2.2.2.2.2.2.2.2.2.2.2.1 R.2.2.2.2.2.2.2.2.2.2.2.2.1 R.2.2.2.2.2.2.2.2.2.2.2.2.2.1 R.2.2.2.2.2.2.2.2.2.2.2.2.2.2.1 R.2.2.2.2.2.2.2.2.2.2.2.2.2.2.2) (va_A (wM_ m0 m_g m_kept m_spare m_was m_text m_told cI mg mkept mspare mhasKept mwas mwasMany manew mthrown mtext mlength mspot mvalue merror mtold mtolds) sz)) 0 0 (va_A (wM_ m0 m_g m_kept m_spare m_was m_text m_told cI mg mkept mspare mhasKept mwas mwasMany manew mthrown mtext mlength mspot mvalue merror mtold mtolds) sz) := by
  refine met_ (cc := cX6_stage) (maxL := 5) (ret := (some .int)) (Qcf := fun A => Qi_ (dC, dI) (ty_ cI cZ cC cJ cD) R.1 (wM_ m0 m_g m_kept m_spare m_was m_text m_told cI R.2.1 R.2.2.1 R.2.2.2.1 R.2.2.2.2.1 R.2.2.2.2.2.1 R.2.2.2.2.2.2.1 R.2.2.2.2.2.2.2.1 R.2.2.2.2.2.2.2.2.1 R.2.2.2.2.2.2.2.2.2.1 R.2.2.2.2.2.2.2.2.2.2.1 R.2.2.2.2.2.2.2.2.2.2.2.1 R.2.2.2.2.2.2.2.2.2.2.2.2.1 R.2.2.2.2.2.2.2.2.2.2.2.2.2.1 R.2.2.2.2.2.2.2.2.2.2.2.2.2.2.1 R.2.2.2.2.2.2.2.2.2.2.2.2.2.2.2) A) (by decide) rfl (Nat.le_of_ble_eq_true rfl) ?_
  intro p e s m args below meth c A ls hx hb hr hts hown hlocks hml hA hP hK hD hl
  have hown : s.vm.findClass RX6 = some m.cls := hown
  have hl : lv_has ls 5 [(0, .ref m0), (1, .int a1), (2, .int a2), (3, .int a3)] := hl
  have hS : va_S A s.heap s.heap [] := va_S.rf
  have fl7_ : (Cond.fieldLink RX6 7 "DimensionLoaderModel" "g" "[I").before args s = true := hts _ (List.mem_of_getElem? (i := 1) rfl)
  have fl32_ : (Cond.fieldLink RX6 32 "DimensionLoaderModel" "thrown" "I").before args s = true := hts _ (List.mem_of_getElem? (i := 2) rfl)
  have inX6_ : ∀ w ∈ wsX60, w ∈ wsX6_stage := in_X6_stage_X6
  unfold f_X6_stage at hf
  dsimp only at hf
  refine lv_aload_n hx hb dX6_stage_0 rfl (lv_at hl 0 rfl) ?_
  refine lv_iload_n hx hb dX6_stage_1 rfl (lv_at hl 1 rfl) ?_
  obtain ⟨R2, g3, hf⟩ := bd_B hf
  obtain ⟨r1, rfl⟩ : ∃ z, z = R2 := ⟨_, rfl⟩
  have hPc := hP.sub (ws' := []) [] rfl
  have hDc := hD.sub (ws' := []) [] (by decide) rfl
  have hFc := va_free (wc := []) hD hS hA [] rfl
  refine va_calli (va_runS (As := [.int a1]) (rest := [.ref m0]) ⟨hx, hb, hml, hown, hts⟩ (c_X6_isKey l dC dI cI cZ cC cJ cD s.heap.size a1 r1 g3) (cwS 1 hts gX6_stage_X6_isKey rfl rfl rfl hs_X6_isKey ⟨Nat.le_of_ble_eq_true rfl, Nat.le_of_ble_eq_true rfl⟩) (preS_ hPc hK hDc rfl) rfl rfl hl.1 rfl (lv_room (Nat.le_of_ble_eq_true rfl)) dX6_stage_2 ⟨Nat.le_of_ble_eq_true rfl, Nat.le_of_ble_eq_true rfl⟩) hS (fun q _ h => hFc q h) hFc (fun z5 u t H4 locs ht hvm hw hB hz1 hk1 hS => ?_)
  have hw : r1 = z5 := hw.symm
  subst hw
  obtain ⟨hP, hD⟩ := aft_ (Wr := wM_ m0 m_g m_kept m_spare m_was m_text m_told cI mg mkept mspare mhasKept mwas mwasMany manew mthrown mtext mlength mspot mvalue merror mtold mtolds) (Wc' := []) (W2 := wM_ m0 m_g m_kept m_spare m_was m_text m_told cI mg mkept mspare mhasKept mwas mwasMany manew mthrown mtext mlength mspot mvalue merror mtold mtolds) hP hD [] [0, 1, 2, 3, 4, 5, 6] [0, 1, 2, 3, 4, 5, 6] rfl rfl (by decide) (by decide) (by decide) hk1 hFc hB ht rfl
  refine lv_if_eq (tgt := 38) hx hb dX6_stage_5 (by decide) (fun c6 => ?_) (fun c6 => ?_)
  · have hf := ite_T c6 hf
    refine lv_iconst (v := 1) hx hb dX6_stage_38 (by decide) ?_
    refine va_put (D := (dC, dI)) (ci := 8) (v := .int 1) (ty := .int) (C := RX6) (T := TX6) (N := 15) hx hb hts inX6_ tyX6 tyX6_ok nmX6 hown hK hP hD hS 0 rfl rfl 7 (by decide) fl32_ (fun _ h9 => h9) rfl (by decide +kernel) (by first | rfl | decide) (by first | rfl | decide) (Nat.le_of_ble_eq_true rfl) dX6_stage_39 (fun H7 locs hP hD hS => ?_)
    have hP : va_P (dC, dI) vwCl (wM_ m0 m_g m_kept m_spare m_was m_text m_told cI mg mkept mspare mhasKept mwas mwasMany manew 1 mtext mlength mspot mvalue merror mtold mtolds) H7 := hP
    have hD : va_D A (wM_ m0 m_g m_kept m_spare m_was m_text m_told cI mg mkept mspare mhasKept mwas mwasMany manew 1 mtext mlength mspot mvalue merror mtold mtolds) := hD
    refine lv_aload_n hx hb dX6_stage_42 rfl (lv_at hl 0 rfl) ?_
    refine va_get (D := (dC, dI)) (ci := 8) (v := .int 1) (C := RX6) (T := TX6) (N := 15) hx hb hts inX6_ hown hK hP 0 rfl rfl 7 (by decide) fl32_ (fun _ h9 => h9) rfl dX6_stage_43 ?_
    refine lv_if_le (tgt := 51) hx hb dX6_stage_46 (by decide) (fun c9 => absurd c9 (by decide)) (fun _ => ?_)
    refine lv_iconst (v := 0) hx hb dX6_stage_49 (by decide) ?_
    have hR := Option.some.inj hf
    subst hR
    exact W.iret (v := (0 : Int32)) hx hb hr (fun t ht hW => ⟨⟨(0 : Int32), (), rfl, rfl, by rw [ht]; exact hP, va_K.moved hW.alike hK, hD⟩, hS.F ht⟩) hS.2.2 dX6_stage_50
  · have hf := ite_F c6 hf
    refine lv_iload_n hx hb dX6_stage_8 rfl (lv_at hl 2 rfl) ?_
    obtain ⟨R9, g10, hf⟩ := bd_B hf
    obtain ⟨r8, rfl⟩ : ∃ z, z = R9 := ⟨_, rfl⟩
    have hPc := hP.sub (ws' := []) [] rfl
    have hDc := hD.sub (ws' := []) [] (by decide) rfl
    have hFc := va_free (wc := []) hD hS hA [] rfl
    refine va_calli (va_runS (As := [.int a2]) (rest := [.ref m0]) ⟨hx, hb, hml, hown, hts⟩ (c_X6_isDay l dC dI cI cZ cC cJ cD H4.size a2 r8 g10) (cwS 1 hts gX6_stage_X6_isDay rfl rfl rfl hs_X6_isDay ⟨Nat.le_of_ble_eq_true rfl, Nat.le_of_ble_eq_true rfl⟩) (preS_ hPc hK hDc rfl) rfl rfl hl.1 rfl (lv_room (Nat.le_of_ble_eq_true rfl)) dX6_stage_9 ⟨Nat.le_of_ble_eq_true rfl, Nat.le_of_ble_eq_true rfl⟩) hS (fun q _ h => hFc q h) hFc (fun z12 u t H11 locs ht hvm hw hB hz1 hk1 hS => ?_)
    have hw : r8 = z12 := hw.symm
    subst hw
    obtain ⟨hP, hD⟩ := aft_ (Wr := wM_ m0 m_g m_kept m_spare m_was m_text m_told cI mg mkept mspare mhasKept mwas mwasMany manew mthrown mtext mlength mspot mvalue merror mtold mtolds) (Wc' := []) (W2 := wM_ m0 m_g m_kept m_spare m_was m_text m_told cI mg mkept mspare mhasKept mwas mwasMany manew mthrown mtext mlength mspot mvalue merror mtold mtolds) hP hD [] [0, 1, 2, 3, 4, 5, 6] [0, 1, 2, 3, 4, 5, 6] rfl rfl (by decide) (by decide) (by decide) hk1 hFc hB ht rfl
    refine lv_if_eq (tgt := 34) hx hb dX6_stage_12 (by decide) (fun c13 => ?_) (fun c13 => ?_)
    · have hf := ite_T c13 hf
      refine lv_iconst (v := 2) hx hb dX6_stage_34 (by decide) ?_
      refine lv_goto (tgt := 39) hx hb dX6_stage_35 (by decide) ?_
      refine va_put (D := (dC, dI)) (ci := 8) (v := .int 2) (ty := .int) (C := RX6) (T := TX6) (N := 15) hx hb hts inX6_ tyX6 tyX6_ok nmX6 hown hK hP hD hS 0 rfl rfl 7 (by decide) fl32_ (fun _ h9 => h9) rfl (by decide +kernel) (by first | rfl | decide) (by first | rfl | decide) (Nat.le_of_ble_eq_true rfl) dX6_stage_39 (fun H14 locs hP hD hS => ?_)
      have hP : va_P (dC, dI) vwCl (wM_ m0 m_g m_kept m_spare m_was m_text m_told cI mg mkept mspare mhasKept mwas mwasMany manew 2 mtext mlength mspot mvalue merror mtold mtolds) H14 := hP
      have hD : va_D A (wM_ m0 m_g m_kept m_spare m_was m_text m_told cI mg mkept mspare mhasKept mwas mwasMany manew 2 mtext mlength mspot mvalue merror mtold mtolds) := hD
      refine lv_aload_n hx hb dX6_stage_42 rfl (lv_at hl 0 rfl) ?_
      refine va_get (D := (dC, dI)) (ci := 8) (v := .int 2) (C := RX6) (T := TX6) (N := 15) hx hb hts inX6_ hown hK hP 0 rfl rfl 7 (by decide) fl32_ (fun _ h9 => h9) rfl dX6_stage_43 ?_
      refine lv_if_le (tgt := 51) hx hb dX6_stage_46 (by decide) (fun c9 => absurd c9 (by decide)) (fun _ => ?_)
      refine lv_iconst (v := 0) hx hb dX6_stage_49 (by decide) ?_
      have hR := Option.some.inj hf
      subst hR
      exact W.iret (v := (0 : Int32)) hx hb hr (fun t ht hW => ⟨⟨(0 : Int32), (), rfl, rfl, by rw [ht]; exact hP, va_K.moved hW.alike hK, hD⟩, hS.F ht⟩) hS.2.2 dX6_stage_50
    · have hf := ite_F c13 hf
      refine lv_aload_n hx hb dX6_stage_15 rfl (lv_at hl 0 rfl) ?_
      refine va_get (D := (dC, dI)) (ci := 8) (v := .ref m_g) (C := RX6) (T := TX6) (N := 15) hx hb hts inX6_ hown hK hP 0 rfl rfl 0 (by decide) fl7_ (fun _ h9 => h9) rfl dX6_stage_16 ?_
      refine lv_iconst (v := 2) hx hb dX6_stage_19 (by decide) ?_
      obtain ⟨h15, hf⟩ := gd_T hf
      refine va_iald hx hb hK hP 1 0 rfl rfl h15 dX6_stage_20 ?_
      refine lv_bipush (v := 20) hx hb dX6_stage_21 (by decide) ?_
      refine lv_icmp_ne (tgt := 30) hx hb dX6_stage_23 (by decide) (fun c16 => ?_) (fun c16 => ?_)
      · have hf := ite_F c16 hf
        refine lv_iconst (v := 0) hx hb dX6_stage_30 (by decide) ?_
        refine lv_goto (tgt := 39) hx hb dX6_stage_31 (by decide) ?_
        refine va_put (D := (dC, dI)) (ci := 8) (v := .int 0) (ty := .int) (C := RX6) (T := TX6) (N := 15) hx hb hts inX6_ tyX6 tyX6_ok nmX6 hown hK hP hD hS 0 rfl rfl 7 (by decide) fl32_ (fun _ h9 => h9) rfl (by decide +kernel) (by first | rfl | decide) (by first | rfl | decide) (Nat.le_of_ble_eq_true rfl) dX6_stage_39 (fun H17 locs hP hD hS => ?_)
        have hP : va_P (dC, dI) vwCl (wM_ m0 m_g m_kept m_spare m_was m_text m_told cI mg mkept mspare mhasKept mwas mwasMany manew 0 mtext mlength mspot mvalue merror mtold mtolds) H17 := hP
        have hD : va_D A (wM_ m0 m_g m_kept m_spare m_was m_text m_told cI mg mkept mspare mhasKept mwas mwasMany manew 0 mtext mlength mspot mvalue merror mtold mtolds) := hD
        refine lv_aload_n hx hb dX6_stage_42 rfl (lv_at hl 0 rfl) ?_
        refine va_get (D := (dC, dI)) (ci := 8) (v := .int 0) (C := RX6) (T := TX6) (N := 15) hx hb hts inX6_ hown hK hP 0 rfl rfl 7 (by decide) fl32_ (fun _ h9 => h9) rfl dX6_stage_43 ?_
        refine lv_if_le (tgt := 51) hx hb dX6_stage_46 (by decide) (fun _ => ?_) (fun c9 => absurd (by decide) c9)
        refine lv_aload_n hx hb dX6_stage_51 rfl (lv_at hl 0 rfl) ?_
        refine va_get (D := (dC, dI)) (ci := 8) (v := .ref m_g) (C := RX6) (T := TX6) (N := 15) hx hb hts inX6_ hown hK hP 0 rfl rfl 0 (by decide) fl7_ (fun _ h9 => h9) rfl dX6_stage_52 ?_
        refine lv_iconst (v := 2) hx hb dX6_stage_55 (by decide) ?_
        obtain ⟨h18, hf⟩ := gd_T hf
        refine va_iald hx hb hK hP 1 0 rfl rfl h18 dX6_stage_56 ?_
        refine lv_istore (lv' := [(4, .int (mg ((2 : Int32).toNatClampNeg))), (0, .ref m0), (1, .int a1), (2, .int a2), (3, .int a3)]) hx hb dX6_stage_57 hl (by decide) rfl (fun ls hl => ?_)
        refine lv_aload_n hx hb dX6_stage_59 rfl (lv_at hl 1 rfl) ?_
        refine va_get (D := (dC, dI)) (ci := 8) (v := .ref m_g) (C := RX6) (T := TX6) (N := 15) hx hb hts inX6_ hown hK hP 0 rfl rfl 0 (by decide) fl7_ (fun _ h9 => h9) rfl dX6_stage_60 ?_
        refine lv_iconst (v := 2) hx hb dX6_stage_63 (by decide) ?_
        refine lv_dup2_11 hx hb dX6_stage_64 rfl rfl ?_
        obtain ⟨h19, hf⟩ := gd_T hf
        refine va_iald hx hb hK hP 1 0 rfl rfl h19 dX6_stage_65 ?_
        refine lv_iconst (v := 1) hx hb dX6_stage_66 (by decide) ?_
        refine lv_iadd hx hb dX6_stage_67 ?_
        obtain ⟨h20, hf⟩ := gd_T hf
        refine va_iast hx hb hK hP hD hS 1 0 rfl rfl h20 dX6_stage_68 (fun H21 locs hP hD hS => ?_)
        have hP : va_P (dC, dI) vwCl (wM_ m0 m_g m_kept m_spare m_was m_text m_told cI (upd mg ((2 : Int32).toNatClampNeg) ((mg ((2 : Int32).toNatClampNeg)) + 1)) mkept mspare mhasKept mwas mwasMany manew 0 mtext mlength mspot mvalue merror mtold mtolds) H21 := hP
        have hD : va_D A (wM_ m0 m_g m_kept m_spare m_was m_text m_told cI (upd mg ((2 : Int32).toNatClampNeg) ((mg ((2 : Int32).toNatClampNeg)) + 1)) mkept mspare mhasKept mwas mwasMany manew 0 mtext mlength mspot mvalue merror mtold mtolds) := hD
        obtain ⟨u22, e23, hf⟩ := nm_T hf
        rw [← e23] at hP hD
        refine lv_aload_n hx hb dX6_stage_69 rfl (lv_at hl 1 rfl) ?_
        refine va_get (D := (dC, dI)) (ci := 8) (v := .ref m_g) (C := RX6) (T := TX6) (N := 15) hx hb hts inX6_ hown hK hP 0 rfl rfl 0 (by decide) fl7_ (fun _ h9 => h9) rfl dX6_stage_70 ?_
        refine lv_sipush (v := 550) hx hb dX6_stage_73 (by decide) ?_
        refine lv_iload hx hb dX6_stage_76 (lv_at hl 0 rfl) ?_
        refine lv_iadd hx hb dX6_stage_78 ?_
        refine lv_iload_n hx hb dX6_stage_79 rfl (lv_at hl 2 rfl) ?_
        obtain ⟨h24, hf⟩ := gd_T hf
        refine va_iast hx hb hK hP hD hS 1 0 rfl rfl h24 dX6_stage_80 (fun H25 locs hP hD hS => ?_)
        have hP : va_P (dC, dI) vwCl (wM_ m0 m_g m_kept m_spare m_was m_text m_told cI (upd u22 ((550 + (mg ((2 : Int32).toNatClampNeg))).toNatClampNeg) a1) mkept mspare mhasKept mwas mwasMany manew 0 mtext mlength mspot mvalue merror mtold mtolds) H25 := hP
        have hD : va_D A (wM_ m0 m_g m_kept m_spare m_was m_text m_told cI (upd u22 ((550 + (mg ((2 : Int32).toNatClampNeg))).toNatClampNeg) a1) mkept mspare mhasKept mwas mwasMany manew 0 mtext mlength mspot mvalue merror mtold mtolds) := hD
        obtain ⟨u26, e27, hf⟩ := nm_T hf
        rw [← e27] at hP hD
        refine lv_aload_n hx hb dX6_stage_81 rfl (lv_at hl 1 rfl) ?_
        refine va_get (D := (dC, dI)) (ci := 8) (v := .ref m_g) (C := RX6) (T := TX6) (N := 15) hx hb hts inX6_ hown hK hP 0 rfl rfl 0 (by decide) fl7_ (fun _ h9 => h9) rfl dX6_stage_82 ?_
        refine lv_sipush (v := 570) hx hb dX6_stage_85 (by decide) ?_
        refine lv_iload hx hb dX6_stage_88 (lv_at hl 0 rfl) ?_
        refine lv_iadd hx hb dX6_stage_90 ?_
        refine lv_iload_n hx hb dX6_stage_91 rfl (lv_at hl 3 rfl) ?_
        obtain ⟨h28, hf⟩ := gd_T hf
        refine va_iast hx hb hK hP hD hS 1 0 rfl rfl h28 dX6_stage_92 (fun H29 locs hP hD hS => ?_)
        have hP : va_P (dC, dI) vwCl (wM_ m0 m_g m_kept m_spare m_was m_text m_told cI (upd u26 ((570 + (mg ((2 : Int32).toNatClampNeg))).toNatClampNeg) a2) mkept mspare mhasKept mwas mwasMany manew 0 mtext mlength mspot mvalue merror mtold mtolds) H29 := hP
        have hD : va_D A (wM_ m0 m_g m_kept m_spare m_was m_text m_told cI (upd u26 ((570 + (mg ((2 : Int32).toNatClampNeg))).toNatClampNeg) a2) mkept mspare mhasKept mwas mwasMany manew 0 mtext mlength mspot mvalue merror mtold mtolds) := hD
        obtain ⟨u30, e31, hf⟩ := nm_T hf
        rw [← e31] at hP hD
        refine lv_aload_n hx hb dX6_stage_93 rfl (lv_at hl 1 rfl) ?_
        refine va_get (D := (dC, dI)) (ci := 8) (v := .ref m_g) (C := RX6) (T := TX6) (N := 15) hx hb hts inX6_ hown hK hP 0 rfl rfl 0 (by decide) fl7_ (fun _ h9 => h9) rfl dX6_stage_94 ?_
        refine lv_sipush (v := 590) hx hb dX6_stage_97 (by decide) ?_
        refine lv_iload hx hb dX6_stage_100 (lv_at hl 0 rfl) ?_
        refine lv_iadd hx hb dX6_stage_102 ?_
        refine lv_iload_n hx hb dX6_stage_103 rfl (lv_at hl 4 rfl) ?_
        obtain ⟨h32, hf⟩ := gd_T hf
        refine va_iast hx hb hK hP hD hS 1 0 rfl rfl h32 dX6_stage_104 (fun H33 locs hP hD hS => ?_)
        have hP : va_P (dC, dI) vwCl (wM_ m0 m_g m_kept m_spare m_was m_text m_told cI (upd u30 ((590 + (mg ((2 : Int32).toNatClampNeg))).toNatClampNeg) a3) mkept mspare mhasKept mwas mwasMany manew 0 mtext mlength mspot mvalue merror mtold mtolds) H33 := hP
        have hD : va_D A (wM_ m0 m_g m_kept m_spare m_was m_text m_told cI (upd u30 ((590 + (mg ((2 : Int32).toNatClampNeg))).toNatClampNeg) a3) mkept mspare mhasKept mwas mwasMany manew 0 mtext mlength mspot mvalue merror mtold mtolds) := hD
        obtain ⟨u34, e35, hf⟩ := nm_T hf
        rw [← e35] at hP hD
        refine lv_aload_n hx hb dX6_stage_105 rfl (lv_at hl 1 rfl) ?_
        refine va_get (D := (dC, dI)) (ci := 8) (v := .ref m_g) (C := RX6) (T := TX6) (N := 15) hx hb hts inX6_ hown hK hP 0 rfl rfl 0 (by decide) fl7_ (fun _ h9 => h9) rfl dX6_stage_106 ?_
        refine lv_iconst (v := 2) hx hb dX6_stage_109 (by decide) ?_
        obtain ⟨h36, hf⟩ := gd_T hf
        refine va_iald hx hb hK hP 1 0 rfl rfl h36 dX6_stage_110 ?_
        have hR := Option.some.inj hf
        subst hR
        exact W.iret (v := u34 ((2 : Int32).toNatClampNeg)) hx hb hr (fun t ht hW => ⟨⟨u34 ((2 : Int32).toNatClampNeg), (), rfl, rfl, by rw [ht]; exact hP, va_K.moved hW.alike hK, hD⟩, hS.F ht⟩) hS.2.2 dX6_stage_111
      · have hf := ite_T c16 hf
        refine lv_iconst (v := 3) hx hb dX6_stage_26 (by decide) ?_
        refine lv_goto (tgt := 39) hx hb dX6_stage_27 (by decide) ?_
        refine va_put (D := (dC, dI)) (ci := 8) (v := .int 3) (ty := .int) (C := RX6) (T := TX6) (N := 15) hx hb hts inX6_ tyX6 tyX6_ok nmX6 hown hK hP hD hS 0 rfl rfl 7 (by decide) fl32_ (fun _ h9 => h9) rfl (by decide +kernel) (by first | rfl | decide) (by first | rfl | decide) (Nat.le_of_ble_eq_true rfl) dX6_stage_39 (fun H37 locs hP hD hS => ?_)
        have hP : va_P (dC, dI) vwCl (wM_ m0 m_g m_kept m_spare m_was m_text m_told cI mg mkept mspare mhasKept mwas mwasMany manew 3 mtext mlength mspot mvalue merror mtold mtolds) H37 := hP
        have hD : va_D A (wM_ m0 m_g m_kept m_spare m_was m_text m_told cI mg mkept mspare mhasKept mwas mwasMany manew 3 mtext mlength mspot mvalue merror mtold mtolds) := hD
        refine lv_aload_n hx hb dX6_stage_42 rfl (lv_at hl 0 rfl) ?_
        refine va_get (D := (dC, dI)) (ci := 8) (v := .int 3) (C := RX6) (T := TX6) (N := 15) hx hb hts inX6_ hown hK hP 0 rfl rfl 7 (by decide) fl32_ (fun _ h9 => h9) rfl dX6_stage_43 ?_
        refine lv_if_le (tgt := 51) hx hb dX6_stage_46 (by decide) (fun c9 => absurd c9 (by decide)) (fun _ => ?_)
        refine lv_iconst (v := 0) hx hb dX6_stage_49 (by decide) ?_
        have hR := Option.some.inj hf
        subst hR
        exact W.iret (v := (0 : Int32)) hx hb hr (fun t ht hW => ⟨⟨(0 : Int32), (), rfl, rfl, by rw [ht]; exact hP, va_K.moved hW.alike hK, hD⟩, hS.F ht⟩) hS.2.2 dX6_stage_50
theorem hs_X6_stage : yX6_stage.cls = RX6 ∧ yX6_stage.cls ≠ "java/lang/invoke/MethodHandle" ∧ yX6_stage.cls ≠ "java/lang/invoke/VarHandle" ∧ (parseMethodDescriptor yX6_stage.desc).map (fun d => d.parameters.length) = some 3 := by decide +kernel
set_option maxRecDepth 20000 in
theorem in_X6_staged_X6 : ∀ w ∈ wsX60, w ∈ wsX6_staged := by decide +kernel
def f_X6_staged  (M_ : tM_) : Option (Int32 × tM_) :=
match M_ with
| (mg, mkept, mspare, mhasKept, mwas, mwasMany, manew, mthrown, mtext, mlength, mspot, mvalue, merror, mtold, mtolds) =>
gd_ (2 : Int32) 610 (
some (mg ((2 : Int32).toNatClampNeg), (mg, mkept, mspare, mhasKept, mwas, mwasMany, manew, 0, mtext, mlength, mspot, mvalue, merror, mtold, mtolds)))
abbrev rm_X6_staged : Room := { frames := 0, cells := 0, slots := 0, locals := 0 }
set_option maxHeartbeats 4000000 in
set_option maxRecDepth 100000 in
theorem c_X6_staged (l : Launch) (dC : Nat → ClassId) (dI : Nat → Nat → Nat) (cI cZ cC cJ cD : ClassId) (m0 m_g m_kept m_spare m_was m_text m_told : Nat) (sz : Nat) (mg : Nat → Int32) (mkept : Nat → Int32) (mspare : Nat → Int32) (mhasKept : Int32) (mwas : Nat → Int32) (mwasMany : Int32) (manew : Int32) (mthrown : Int32) (mtext : Nat → Int32) (mlength : Int32) (mspot : Int32) (mvalue : Int32) (merror : Int32) (mtold : Nat → Int32) (mtolds : Int32)  (R : Int32 × tM_) (hf : f_X6_staged  (mg, mkept, mspare, mhasKept, mwas, mwasMany, manew, mthrown, mtext, mlength, mspot, mvalue, merror, mtold, mtolds) = some R) : Met l yX6_staged wsX6_staged rm_X6_staged (Pc_ (dC, dI) (ty_ cI cZ cC cJ cD) (wM_ m0 m_g m_kept m_spare m_was m_text m_told cI mg mkept mspare mhasKept mwas mwasMany manew mthrown mtext mlength mspot mvalue merror mtold mtolds) sz [.ref m0]) (Qi_ (dC, dI) (ty_ cI cZ cC cJ cD) R.1 (wM_ m0 m_g m_kept m_spare m_was m_text m_told cI R.2.1 R.2.2.1 R.2.2.2.1 R.2.2.2.2.1 R.2.2.2.2.2.1 R.2.2.2.2.2.2.1 R.2.2.2.2.2.2.2.1 R.2.2.2.2.2.2.2.2.1 R.2.2.2.2.2.2.2.2.2.1 R.2.2.2.2.2.2.2.2.2.2.1 R.2.2.2.2.2.2.2.2.2.2.2.1 R.2.2.2.2.2.2.2.2.2.2.2.2.1 R.2.2.2.2.2.2.2.2.2.2.2.2.2.1 R.2.2.2.2.2.2.2.2.2.2.2.2.2.2.1 R.2.2.2.2.2.2.2.2.2.2.2.2.2.2.2) (va_A (wM_ m0 m_g m_kept m_spare m_was m_text m_told cI mg mkept mspare mhasKept mwas mwasMany manew mthrown mtext mlength mspot mvalue merror mtold mtolds) sz)) 0 0 (va_A (wM_ m0 m_g m_kept m_spare m_was m_text m_told cI mg mkept mspare mhasKept mwas mwasMany manew mthrown mtext mlength mspot mvalue merror mtold mtolds) sz) := by
  refine met_ (cc := cX6_staged) (maxL := 1) (ret := (some .int)) (Qcf := fun A => Qi_ (dC, dI) (ty_ cI cZ cC cJ cD) R.1 (wM_ m0 m_g m_kept m_spare m_was m_text m_told cI R.2.1 R.2.2.1 R.2.2.2.1 R.2.2.2.2.1 R.2.2.2.2.2.1 R.2.2.2.2.2.2.1 R.2.2.2.2.2.2.2.1 R.2.2.2.2.2.2.2.2.1 R.2.2.2.2.2.2.2.2.2.1 R.2.2.2.2.2.2.2.2.2.2.1 R.2.2.2.2.2.2.2.2.2.2.2.1 R.2.2.2.2.2.2.2.2.2.2.2.2.1 R.2.2.2.2.2.2.2.2.2.2.2.2.2.1 R.2.2.2.2.2.2.2.2.2.2.2.2.2.2.1 R.2.2.2.2.2.2.2.2.2.2.2.2.2.2.2) A) (by decide) rfl (Nat.le_of_ble_eq_true rfl) ?_
  intro p e s m args below meth c A ls hx hb hr hts hown hlocks hml hA hP hK hD hl
  have hown : s.vm.findClass RX6 = some m.cls := hown
  have hl : lv_has ls 1 [(0, .ref m0)] := hl
  have hS : va_S A s.heap s.heap [] := va_S.rf
  have fl7_ : (Cond.fieldLink RX6 7 "DimensionLoaderModel" "g" "[I").before args s = true := hts _ (List.mem_of_getElem? (i := 2) rfl)
  have fl32_ : (Cond.fieldLink RX6 32 "DimensionLoaderModel" "thrown" "I").before args s = true := hts _ (List.mem_of_getElem? (i := 1) rfl)
  have inX6_ : ∀ w ∈ wsX60, w ∈ wsX6_staged := in_X6_staged_X6
  unfold f_X6_staged at hf
  dsimp only at hf
  refine lv_aload_n hx hb dX6_staged_0 rfl (lv_at hl 0 rfl) ?_
  refine lv_iconst (v := 0) hx hb dX6_staged_1 (by decide) ?_
  refine va_put (D := (dC, dI)) (ci := 8) (v := .int 0) (ty := .int) (C := RX6) (T := TX6) (N := 15) hx hb hts inX6_ tyX6 tyX6_ok nmX6 hown hK hP hD hS 0 rfl rfl 7 (by decide) fl32_ (fun _ h9 => h9) rfl (by decide +kernel) (by first | rfl | decide) (by first | rfl | decide) (Nat.le_of_ble_eq_true rfl) dX6_staged_2 (fun H1 locs hP hD hS => ?_)
  have hP : va_P (dC, dI) vwCl (wM_ m0 m_g m_kept m_spare m_was m_text m_told cI mg mkept mspare mhasKept mwas mwasMany manew 0 mtext mlength mspot mvalue merror mtold mtolds) H1 := hP
  have hD : va_D A (wM_ m0 m_g m_kept m_spare m_was m_text m_told cI mg mkept mspare mhasKept mwas mwasMany manew 0 mtext mlength mspot mvalue merror mtold mtolds) := hD
  refine lv_aload_n hx hb dX6_staged_5 rfl (lv_at hl 0 rfl) ?_
  refine va_get (D := (dC, dI)) (ci := 8) (v := .ref m_g) (C := RX6) (T := TX6) (N := 15) hx hb hts inX6_ hown hK hP 0 rfl rfl 0 (by decide) fl7_ (fun _ h9 => h9) rfl dX6_staged_6 ?_
  refine lv_iconst (v := 2) hx hb dX6_staged_9 (by decide) ?_
  obtain ⟨h2, hf⟩ := gd_T hf
  refine va_iald hx hb hK hP 1 0 rfl rfl h2 dX6_staged_10 ?_
  have hR := Option.some.inj hf
  subst hR
  exact W.iret (v := mg ((2 : Int32).toNatClampNeg)) hx hb hr (fun t ht hW => ⟨⟨mg ((2 : Int32).toNatClampNeg), (), rfl, rfl, by rw [ht]; exact hP, va_K.moved hW.alike hK, hD⟩, hS.F ht⟩) hS.2.2 dX6_staged_11
theorem hs_X6_staged : yX6_staged.cls = RX6 ∧ yX6_staged.cls ≠ "java/lang/invoke/MethodHandle" ∧ yX6_staged.cls ≠ "java/lang/invoke/VarHandle" ∧ (parseMethodDescriptor yX6_staged.desc).map (fun d => d.parameters.length) = some 0 := by decide +kernel
set_option maxRecDepth 20000 in
theorem in_X6_firstRow_X6 : ∀ w ∈ wsX60, w ∈ wsX6_firstRow := by decide +kernel
def f_X6_firstRow_S4 (k_ : Int32 → Int32 → tM_ → Option (Int32)) (l2 : Int32) (l1 : Int32) (M_ : tM_) : Option (Int32) :=
match M_ with
| (mg, mkept, mspare, mhasKept, mwas, mwasMany, manew, mthrown, mtext, mlength, mspot, mvalue, merror, mtold, mtolds) =>
gd_ (2 : Int32) 610 (
if (mg ((2 : Int32).toNatClampNeg)) ≤ l2 then
some l1
else
gd_ (570 + l2) 610 (
gd_ (570 + l1) 610 (
if (mg ((570 + l2).toNatClampNeg)) < (mg ((570 + l1).toNatClampNeg)) then
k_ (l2 + 1) l2 (mg, mkept, mspare, mhasKept, mwas, mwasMany, manew, mthrown, mtext, mlength, mspot, mvalue, merror, mtold, mtolds)
else
gd_ (570 + l2) 610 (
gd_ (570 + l1) 610 (
if (mg ((570 + l2).toNatClampNeg)) = (mg ((570 + l1).toNatClampNeg)) then
gd_ (550 + l2) 610 (
gd_ (550 + l1) 610 (
if (mg ((550 + l1).toNatClampNeg)) ≤ (mg ((550 + l2).toNatClampNeg)) then
k_ (l2 + 1) l1 (mg, mkept, mspare, mhasKept, mwas, mwasMany, manew, mthrown, mtext, mlength, mspot, mvalue, merror, mtold, mtolds)
else
k_ (l2 + 1) l2 (mg, mkept, mspare, mhasKept, mwas, mwasMany, manew, mthrown, mtext, mlength, mspot, mvalue, merror, mtold, mtolds)))
else
k_ (l2 + 1) l1 (mg, mkept, mspare, mhasKept, mwas, mwasMany, manew, mthrown, mtext, mlength, mspot, mvalue, merror, mtold, mtolds))))))
def f_X6_firstRow_L4 : Nat → Int32 → Int32 → tM_ → Option (Int32)
  | 0 => fun _ _ _ => none
  | n + 1 => fun l2 l1 M_ => f_X6_firstRow_S4 (f_X6_firstRow_L4 n) l2 l1 M_
def f_X6_firstRow  (M_ : tM_) : Option (Int32) :=
match M_ with
| (mg, mkept, mspare, mhasKept, mwas, mwasMany, manew, mthrown, mtext, mlength, mspot, mvalue, merror, mtold, mtolds) =>
f_X6_firstRow_L4 fu_ (1 : Int32) (0 : Int32) (mg, mkept, mspare, mhasKept, mwas, mwasMany, manew, mthrown, mtext, mlength, mspot, mvalue, merror, mtold, mtolds)
abbrev rm_X6_firstRow : Room := { frames := 0, cells := 0, slots := 0, locals := 0 }
set_option maxHeartbeats 4000000 in
set_option maxRecDepth 100000 in
theorem c_X6_firstRow (l : Launch) (dC : Nat → ClassId) (dI : Nat → Nat → Nat) (cI cZ cC cJ cD : ClassId) (m0 m_g m_kept m_spare m_was m_text m_told : Nat) (sz : Nat) (mg : Nat → Int32) (mkept : Nat → Int32) (mspare : Nat → Int32) (mhasKept : Int32) (mwas : Nat → Int32) (mwasMany : Int32) (manew : Int32) (mthrown : Int32) (mtext : Nat → Int32) (mlength : Int32) (mspot : Int32) (mvalue : Int32) (merror : Int32) (mtold : Nat → Int32) (mtolds : Int32)  (R : Int32) (hf : f_X6_firstRow  (mg, mkept, mspare, mhasKept, mwas, mwasMany, manew, mthrown, mtext, mlength, mspot, mvalue, merror, mtold, mtolds) = some R) : Met l yX6_firstRow wsX6_firstRow rm_X6_firstRow (Pc_ (dC, dI) (ty_ cI cZ cC cJ cD) (wM_ m0 m_g m_kept m_spare m_was m_text m_told cI mg mkept mspare mhasKept mwas mwasMany manew mthrown mtext mlength mspot mvalue merror mtold mtolds) sz [.ref m0]) (Qi_ (dC, dI) (ty_ cI cZ cC cJ cD) R (wM_ m0 m_g m_kept m_spare m_was m_text m_told cI mg mkept mspare mhasKept mwas mwasMany manew mthrown mtext mlength mspot mvalue merror mtold mtolds) (va_A (wM_ m0 m_g m_kept m_spare m_was m_text m_told cI mg mkept mspare mhasKept mwas mwasMany manew mthrown mtext mlength mspot mvalue merror mtold mtolds) sz)) 0 0 (va_A (wM_ m0 m_g m_kept m_spare m_was m_text m_told cI mg mkept mspare mhasKept mwas mwasMany manew mthrown mtext mlength mspot mvalue merror mtold mtolds) sz) := by
  refine met_ (cc := cX6_firstRow) (maxL := 4) (ret := (some .int)) (Qcf := fun A => Qi_ (dC, dI) (ty_ cI cZ cC cJ cD) R (wM_ m0 m_g m_kept m_spare m_was m_text m_told cI mg mkept mspare mhasKept mwas mwasMany manew mthrown mtext mlength mspot mvalue merror mtold mtolds) A) (by decide) rfl (Nat.le_of_ble_eq_true rfl) ?_
  intro p e s m args below meth c A ls hx hb hr hts hown hlocks hml hA hP hK hD hl
  have hown : s.vm.findClass RX6 = some m.cls := hown
  have hl : lv_has ls 4 [(0, .ref m0)] := hl
  have hS : va_S A s.heap s.heap [] := va_S.rf
  have fl7_ : (Cond.fieldLink RX6 7 "DimensionLoaderModel" "g" "[I").before args s = true := hts _ (List.mem_of_getElem? (i := 1) rfl)
  have inX6_ : ∀ w ∈ wsX60, w ∈ wsX6_firstRow := in_X6_firstRow_X6
  unfold f_X6_firstRow at hf
  dsimp only at hf
  refine lv_iconst (v := 0) hx hb dX6_firstRow_0 (by decide) ?_
  refine lv_istore_n (lv' := [(1, .int 0), (0, .ref m0)]) hx hb dX6_firstRow_1 rfl hl (by decide) rfl (fun ls hl => ?_)
  refine lv_iconst (v := 1) hx hb dX6_firstRow_2 (by decide) ?_
  refine lv_istore_n (lv' := [(2, .int 1), (1, .int 0), (0, .ref m0)]) hx hb dX6_firstRow_3 rfl hl (by decide) rfl (fun ls hl => ?_)
  have lp4 : ∀ (n : Nat) (l2 : Int32) (l1 : Int32) (mg : Nat → Int32) (mkept : Nat → Int32) (mspare : Nat → Int32) (mhasKept : Int32) (mwas : Nat → Int32) (mwasMany : Int32) (manew : Int32) (mthrown : Int32) (mtext : Nat → Int32) (mlength : Int32) (mspot : Int32) (mvalue : Int32) (merror : Int32) (mtold : Nat → Int32) (mtolds : Int32) (H1 : Heap) (locs : List Loc) (ls : Array Slot), f_X6_firstRow_L4 n l2 l1 (mg, mkept, mspare, mhasKept, mwas, mwasMany, manew, mthrown, mtext, mlength, mspot, mvalue, merror, mtold, mtolds) = some R → va_P (dC, dI) vwCl (wM_ m0 m_g m_kept m_spare m_was m_text m_told cI mg mkept mspare mhasKept mwas mwasMany manew mthrown mtext mlength mspot mvalue merror mtold mtolds) H1 → va_D A (wM_ m0 m_g m_kept m_spare m_was m_text m_told cI mg mkept mspare mhasKept mwas mwasMany manew mthrown mtext mlength mspot mvalue merror mtold mtolds) → va_S A s.heap H1 locs → lv_has ls 4 [(2, .int l2), (1, .int l1), (0, .ref m0)] → W p l e (headSpec wsX6_firstRow rm_X6_firstRow).room s m args below meth c H1 locs 0 0 (MQ below (Qi_ (dC, dI) (ty_ cI cZ cC cJ cD) R (wM_ m0 m_g m_kept m_spare m_was m_text m_told cI mg mkept mspare mhasKept mwas mwasMany manew mthrown mtext mlength mspot mvalue merror mtold mtolds) A) args s 0 0 A) (F0 m 4 ls []) := by
    intro n
    induction n with
    | zero => intro l2 l1 mg mkept mspare mhasKept mwas mwasMany manew mthrown mtext mlength mspot mvalue merror mtold mtolds H1 locs ls hf hP hD hS hl; exact absurd hf (by simp [f_X6_firstRow_L4])
    | succ n ih =>
      intro l2 l1 mg mkept mspare mhasKept mwas mwasMany manew mthrown mtext mlength mspot mvalue merror mtold mtolds H1 locs ls hf hP hD hS hl
      have hf : f_X6_firstRow_S4 (f_X6_firstRow_L4 n) l2 l1 (mg, mkept, mspare, mhasKept, mwas, mwasMany, manew, mthrown, mtext, mlength, mspot, mvalue, merror, mtold, mtolds) = some R := hf
      unfold f_X6_firstRow_S4 at hf
      dsimp only at hf
      refine lv_iload_n hx hb dX6_firstRow_4 rfl (lv_at hl 0 rfl) ?_
      refine lv_aload_n hx hb dX6_firstRow_5 rfl (lv_at hl 2 rfl) ?_
      refine va_get (D := (dC, dI)) (ci := 8) (v := .ref m_g) (C := RX6) (T := TX6) (N := 15) hx hb hts inX6_ hown hK hP 0 rfl rfl 0 (by decide) fl7_ (fun _ h9 => h9) rfl dX6_firstRow_6 ?_
      refine lv_iconst (v := 2) hx hb dX6_firstRow_9 (by decide) ?_
      obtain ⟨h2, hf⟩ := gd_T hf
      refine va_iald hx hb hK hP 1 0 rfl rfl h2 dX6_firstRow_10 ?_
      refine lv_icmp_ge (tgt := 105) hx hb dX6_firstRow_11 (by decide) (fun c3 => ?_) (fun c3 => ?_)
      · have hf := ite_T c3 hf
        refine lv_iload_n hx hb dX6_firstRow_105 rfl (lv_at hl 1 rfl) ?_
        have hR := Option.some.inj hf
        subst hR
        exact W.iret (v := l1) hx hb hr (fun t ht hW => ⟨⟨l1, (), rfl, rfl, by rw [ht]; exact hP, va_K.moved hW.alike hK, hD⟩, hS.F ht⟩) hS.2.2 dX6_firstRow_106
      · have hf := ite_F c3 hf
        refine lv_aload_n hx hb dX6_firstRow_14 rfl (lv_at hl 2 rfl) ?_
        refine va_get (D := (dC, dI)) (ci := 8) (v := .ref m_g) (C := RX6) (T := TX6) (N := 15) hx hb hts inX6_ hown hK hP 0 rfl rfl 0 (by decide) fl7_ (fun _ h9 => h9) rfl dX6_firstRow_15 ?_
        refine lv_sipush (v := 570) hx hb dX6_firstRow_18 (by decide) ?_
        refine lv_iload_n hx hb dX6_firstRow_21 rfl (lv_at hl 0 rfl) ?_
        refine lv_iadd hx hb dX6_firstRow_22 ?_
        obtain ⟨h4, hf⟩ := gd_T hf
        refine va_iald hx hb hK hP 1 0 rfl rfl h4 dX6_firstRow_23 ?_
        refine lv_aload_n hx hb dX6_firstRow_24 rfl (lv_at hl 2 rfl) ?_
        refine va_get (D := (dC, dI)) (ci := 8) (v := .ref m_g) (C := RX6) (T := TX6) (N := 15) hx hb hts inX6_ hown hK hP 0 rfl rfl 0 (by decide) fl7_ (fun _ h9 => h9) rfl dX6_firstRow_25 ?_
        refine lv_sipush (v := 570) hx hb dX6_firstRow_28 (by decide) ?_
        refine lv_iload_n hx hb dX6_firstRow_31 rfl (lv_at hl 1 rfl) ?_
        refine lv_iadd hx hb dX6_firstRow_32 ?_
        obtain ⟨h5, hf⟩ := gd_T hf
        refine va_iald hx hb hK hP 1 0 rfl rfl h5 dX6_firstRow_33 ?_
        refine lv_icmp_lt (tgt := 83) hx hb dX6_firstRow_34 (by decide) (fun c6 => ?_) (fun c6 => ?_)
        · have hf := ite_T c6 hf
          refine lv_iconst (v := 1) hx hb dX6_firstRow_83 (by decide) ?_
          refine lv_goto (tgt := 88) hx hb dX6_firstRow_84 (by decide) ?_
          refine lv_istore_n (lv' := [(3, .int 1), (2, .int l2), (1, .int l1), (0, .ref m0)]) hx hb dX6_firstRow_88 rfl hl (by decide) rfl (fun ls hl => ?_)
          refine lv_iload_n hx hb dX6_firstRow_89 rfl (lv_at hl 0 rfl) ?_
          refine lv_if_eq (tgt := 97) hx hb dX6_firstRow_90 (by decide) (fun c9 => absurd c9 (by decide)) (fun _ => ?_)
          refine lv_iload_n hx hb dX6_firstRow_93 rfl (lv_at hl 1 rfl) ?_
          refine lv_goto (tgt := 98) hx hb dX6_firstRow_94 (by decide) ?_
          refine lv_istore_n (lv' := [(1, .int l2), (3, .int 1), (2, .int l2), (0, .ref m0)]) hx hb dX6_firstRow_98 rfl hl (by decide) rfl (fun ls hl => ?_)
          refine lv_iinc (v := l2 + 1) (lv' := [(2, .int (l2 + 1)), (1, .int l2), (3, .int 1), (0, .ref m0)]) hx hb dX6_firstRow_99 hl (k := 2) rfl (by first | rfl | decide) (by decide) rfl (fun ls hl => ?_)
          refine lv_goto (tgt := 4) hx hb dX6_firstRow_102 (by decide) ?_
          exact ih (l2 + 1) l2 mg mkept mspare mhasKept mwas mwasMany manew mthrown mtext mlength mspot mvalue merror mtold mtolds _ _ _ hf hP hD hS (lv_sub hl [0, 1, 3] rfl)
        · have hf := ite_F c6 hf
          refine lv_aload_n hx hb dX6_firstRow_37 rfl (lv_at hl 2 rfl) ?_
          refine va_get (D := (dC, dI)) (ci := 8) (v := .ref m_g) (C := RX6) (T := TX6) (N := 15) hx hb hts inX6_ hown hK hP 0 rfl rfl 0 (by decide) fl7_ (fun _ h9 => h9) rfl dX6_firstRow_38 ?_
          refine lv_sipush (v := 570) hx hb dX6_firstRow_41 (by decide) ?_
          refine lv_iload_n hx hb dX6_firstRow_44 rfl (lv_at hl 0 rfl) ?_
          refine lv_iadd hx hb dX6_firstRow_45 ?_
          obtain ⟨h7, hf⟩ := gd_T hf
          refine va_iald hx hb hK hP 1 0 rfl rfl h7 dX6_firstRow_46 ?_
          refine lv_aload_n hx hb dX6_firstRow_47 rfl (lv_at hl 2 rfl) ?_
          refine va_get (D := (dC, dI)) (ci := 8) (v := .ref m_g) (C := RX6) (T := TX6) (N := 15) hx hb hts inX6_ hown hK hP 0 rfl rfl 0 (by decide) fl7_ (fun _ h9 => h9) rfl dX6_firstRow_48 ?_
          refine lv_sipush (v := 570) hx hb dX6_firstRow_51 (by decide) ?_
          refine lv_iload_n hx hb dX6_firstRow_54 rfl (lv_at hl 1 rfl) ?_
          refine lv_iadd hx hb dX6_firstRow_55 ?_
          obtain ⟨h8, hf⟩ := gd_T hf
          refine va_iald hx hb hK hP 1 0 rfl rfl h8 dX6_firstRow_56 ?_
          refine lv_icmp_ne (tgt := 87) hx hb dX6_firstRow_57 (by decide) (fun c9 => ?_) (fun c9 => ?_)
          · have hf := ite_F c9 hf
            refine lv_iconst (v := 0) hx hb dX6_firstRow_87 (by decide) ?_
            refine lv_istore_n (lv' := [(3, .int 0), (2, .int l2), (1, .int l1), (0, .ref m0)]) hx hb dX6_firstRow_88 rfl hl (by decide) rfl (fun ls hl => ?_)
            refine lv_iload_n hx hb dX6_firstRow_89 rfl (lv_at hl 0 rfl) ?_
            refine lv_if_eq (tgt := 97) hx hb dX6_firstRow_90 (by decide) (fun _ => ?_) (fun c9 => absurd (by decide) c9)
            refine lv_iload_n hx hb dX6_firstRow_97 rfl (lv_at hl 2 rfl) ?_
            refine lv_istore_n (lv' := [(1, .int l1), (3, .int 0), (2, .int l2), (0, .ref m0)]) hx hb dX6_firstRow_98 rfl hl (by decide) rfl (fun ls hl => ?_)
            refine lv_iinc (v := l2 + 1) (lv' := [(2, .int (l2 + 1)), (1, .int l1), (3, .int 0), (0, .ref m0)]) hx hb dX6_firstRow_99 hl (k := 2) rfl (by first | rfl | decide) (by decide) rfl (fun ls hl => ?_)
            refine lv_goto (tgt := 4) hx hb dX6_firstRow_102 (by decide) ?_
            exact ih (l2 + 1) l1 mg mkept mspare mhasKept mwas mwasMany manew mthrown mtext mlength mspot mvalue merror mtold mtolds _ _ _ hf hP hD hS (lv_sub hl [0, 1, 3] rfl)
          · have hf := ite_T c9 hf
            refine lv_aload_n hx hb dX6_firstRow_60 rfl (lv_at hl 2 rfl) ?_
            refine va_get (D := (dC, dI)) (ci := 8) (v := .ref m_g) (C := RX6) (T := TX6) (N := 15) hx hb hts inX6_ hown hK hP 0 rfl rfl 0 (by decide) fl7_ (fun _ h9 => h9) rfl dX6_firstRow_61 ?_
            refine lv_sipush (v := 550) hx hb dX6_firstRow_64 (by decide) ?_
            refine lv_iload_n hx hb dX6_firstRow_67 rfl (lv_at hl 0 rfl) ?_
            refine lv_iadd hx hb dX6_firstRow_68 ?_
            obtain ⟨h10, hf⟩ := gd_T hf
            refine va_iald hx hb hK hP 1 0 rfl rfl h10 dX6_firstRow_69 ?_
            refine lv_aload_n hx hb dX6_firstRow_70 rfl (lv_at hl 2 rfl) ?_
            refine va_get (D := (dC, dI)) (ci := 8) (v := .ref m_g) (C := RX6) (T := TX6) (N := 15) hx hb hts inX6_ hown hK hP 0 rfl rfl 0 (by decide) fl7_ (fun _ h9 => h9) rfl dX6_firstRow_71 ?_
            refine lv_sipush (v := 550) hx hb dX6_firstRow_74 (by decide) ?_
            refine lv_iload_n hx hb dX6_firstRow_77 rfl (lv_at hl 1 rfl) ?_
            refine lv_iadd hx hb dX6_firstRow_78 ?_
            obtain ⟨h11, hf⟩ := gd_T hf
            refine va_iald hx hb hK hP 1 0 rfl rfl h11 dX6_firstRow_79 ?_
            refine lv_icmp_ge (tgt := 87) hx hb dX6_firstRow_80 (by decide) (fun c12 => ?_) (fun c12 => ?_)
            · have hf := ite_T c12 hf
              refine lv_iconst (v := 0) hx hb dX6_firstRow_87 (by decide) ?_
              refine lv_istore_n (lv' := [(3, .int 0), (2, .int l2), (1, .int l1), (0, .ref m0)]) hx hb dX6_firstRow_88 rfl hl (by decide) rfl (fun ls hl => ?_)
              refine lv_iload_n hx hb dX6_firstRow_89 rfl (lv_at hl 0 rfl) ?_
              refine lv_if_eq (tgt := 97) hx hb dX6_firstRow_90 (by decide) (fun _ => ?_) (fun c9 => absurd (by decide) c9)
              refine lv_iload_n hx hb dX6_firstRow_97 rfl (lv_at hl 2 rfl) ?_
              refine lv_istore_n (lv' := [(1, .int l1), (3, .int 0), (2, .int l2), (0, .ref m0)]) hx hb dX6_firstRow_98 rfl hl (by decide) rfl (fun ls hl => ?_)
              refine lv_iinc (v := l2 + 1) (lv' := [(2, .int (l2 + 1)), (1, .int l1), (3, .int 0), (0, .ref m0)]) hx hb dX6_firstRow_99 hl (k := 2) rfl (by first | rfl | decide) (by decide) rfl (fun ls hl => ?_)
              refine lv_goto (tgt := 4) hx hb dX6_firstRow_102 (by decide) ?_
              exact ih (l2 + 1) l1 mg mkept mspare mhasKept mwas mwasMany manew mthrown mtext mlength mspot mvalue merror mtold mtolds _ _ _ hf hP hD hS (lv_sub hl [0, 1, 3] rfl)
            · have hf := ite_F c12 hf
              refine lv_iconst (v := 1) hx hb dX6_firstRow_83 (by decide) ?_
              refine lv_goto (tgt := 88) hx hb dX6_firstRow_84 (by decide) ?_
              refine lv_istore_n (lv' := [(3, .int 1), (2, .int l2), (1, .int l1), (0, .ref m0)]) hx hb dX6_firstRow_88 rfl hl (by decide) rfl (fun ls hl => ?_)
              refine lv_iload_n hx hb dX6_firstRow_89 rfl (lv_at hl 0 rfl) ?_
              refine lv_if_eq (tgt := 97) hx hb dX6_firstRow_90 (by decide) (fun c9 => absurd c9 (by decide)) (fun _ => ?_)
              refine lv_iload_n hx hb dX6_firstRow_93 rfl (lv_at hl 1 rfl) ?_
              refine lv_goto (tgt := 98) hx hb dX6_firstRow_94 (by decide) ?_
              refine lv_istore_n (lv' := [(1, .int l2), (3, .int 1), (2, .int l2), (0, .ref m0)]) hx hb dX6_firstRow_98 rfl hl (by decide) rfl (fun ls hl => ?_)
              refine lv_iinc (v := l2 + 1) (lv' := [(2, .int (l2 + 1)), (1, .int l2), (3, .int 1), (0, .ref m0)]) hx hb dX6_firstRow_99 hl (k := 2) rfl (by first | rfl | decide) (by decide) rfl (fun ls hl => ?_)
              refine lv_goto (tgt := 4) hx hb dX6_firstRow_102 (by decide) ?_
              exact ih (l2 + 1) l2 mg mkept mspare mhasKept mwas mwasMany manew mthrown mtext mlength mspot mvalue merror mtold mtolds _ _ _ hf hP hD hS (lv_sub hl [0, 1, 3] rfl)
  exact lp4 fu_ (1 : Int32) (0 : Int32) mg mkept mspare mhasKept mwas mwasMany manew mthrown mtext mlength mspot mvalue merror mtold mtolds _ _ _ hf hP hD hS hl
theorem hs_X6_firstRow : yX6_firstRow.cls = RX6 ∧ yX6_firstRow.cls ≠ "java/lang/invoke/MethodHandle" ∧ yX6_firstRow.cls ≠ "java/lang/invoke/VarHandle" ∧ (parseMethodDescriptor yX6_firstRow.desc).map (fun d => d.parameters.length) = some 0 := by decide +kernel
set_option maxRecDepth 20000 in
theorem in_X6_nextRow_X6 : ∀ w ∈ wsX60, w ∈ wsX6_nextRow := by decide +kernel
def f_X6_nextRow (a1 : Int32) (M_ : tM_) : Option (Int32 × tM_) :=
match M_ with
| (mg, mkept, mspare, mhasKept, mwas, mwasMany, manew, mthrown, mtext, mlength, mspot, mvalue, merror, mtold, mtolds) =>
bd_ (f_X6_in a1 (0 : Int32) (2 : Int32)) (fun r1 =>
if r1 = 0 then
some ((0 : Int32), (mg, mkept, mspare, mhasKept, mwas, mwasMany, manew, 1, mtext, mlength, mspot, mvalue, merror, mtold, mtolds))
else
gd_ (2 : Int32) 610 (
if (mg ((2 : Int32).toNatClampNeg)) = 0 then
some ((0 : Int32), (mg, mkept, mspare, mhasKept, mwas, mwasMany, manew, 2, mtext, mlength, mspot, mvalue, merror, mtold, mtolds))
else
bd_ (f_X6_firstRow (mg, mkept, mspare, mhasKept, mwas, mwasMany, manew, 0, mtext, mlength, mspot, mvalue, merror, mtold, mtolds)) (fun r11 =>
if a1 = 0 then
gd_ (550 + r11) 610 (
some (mg ((550 + r11).toNatClampNeg), (mg, mkept, mspare, mhasKept, mwas, mwasMany, manew, 0, mtext, mlength, mspot, mvalue, merror, mtold, mtolds)))
else
if a1 = 1 then
gd_ (570 + r11) 610 (
some (mg ((570 + r11).toNatClampNeg), (mg, mkept, mspare, mhasKept, mwas, mwasMany, manew, 0, mtext, mlength, mspot, mvalue, merror, mtold, mtolds)))
else
gd_ (590 + r11) 610 (
some (mg ((590 + r11).toNatClampNeg), (mg, mkept, mspare, mhasKept, mwas, mwasMany, manew, 0, mtext, mlength, mspot, mvalue, merror, mtold, mtolds))))))
abbrev rm_X6_nextRow : Room := { frames := 1, cells := 0, slots := 0, locals := 23 }
set_option maxHeartbeats 4000000 in
set_option maxRecDepth 100000 in
theorem c_X6_nextRow (l : Launch) (dC : Nat → ClassId) (dI : Nat → Nat → Nat) (cI cZ cC cJ cD : ClassId) (m0 m_g m_kept m_spare m_was m_text m_told : Nat) (sz : Nat) (mg : Nat → Int32) (mkept : Nat → Int32) (mspare : Nat → Int32) (mhasKept : Int32) (mwas : Nat → Int32) (mwasMany : Int32) (manew : Int32) (mthrown : Int32) (mtext : Nat → Int32) (mlength : Int32) (mspot : Int32) (mvalue : Int32) (merror : Int32) (mtold : Nat → Int32) (mtolds : Int32) (a1 : Int32) (R : Int32 × tM_) (hf : f_X6_nextRow a1 (mg, mkept, mspare, mhasKept, mwas, mwasMany, manew, mthrown, mtext, mlength, mspot, mvalue, merror, mtold, mtolds) = some R) : Met l yX6_nextRow wsX6_nextRow rm_X6_nextRow (Pc_ (dC, dI) (ty_ cI cZ cC cJ cD) (wM_ m0 m_g m_kept m_spare m_was m_text m_told cI mg mkept mspare mhasKept mwas mwasMany manew mthrown mtext mlength mspot mvalue merror mtold mtolds) sz [.ref m0, .int a1]) (Qi_ (dC, dI) (ty_ cI cZ cC cJ cD) R.1 (wM_ m0 m_g m_kept m_spare m_was m_text m_told cI R.2.1 R.2.2.1 R.2.2.2.1 R.2.2.2.2.1 R.2.2.2.2.2.1 R.2.2.2.2.2.2.1 R.2.2.2.2.2.2.2.1 R.2.2.2.2.2.2.2.2.1 R.2.2.2.2.2.2.2.2.2.1 R.2.2.2.2.2.2.2.2.2.2.1 R.2.2.2.2.2.2.2.2.2.2.2.1 R.2.2.2.2.2.2.2.2.2.2.2.2.1 R.2.2.2.2.2.2.2.2.2.2.2.2.2.1 R.2.2.2.2.2.2.2.2.2.2.2.2.2.2.1 R.2.2.2.2.2.2.2.2.2.2.2.2.2.2.2) (va_A (wM_ m0 m_g m_kept m_spare m_was m_text m_told cI mg mkept mspare mhasKept mwas mwasMany manew mthrown mtext mlength mspot mvalue merror mtold mtolds) sz)) 0 0 (va_A (wM_ m0 m_g m_kept m_spare m_was m_text m_told cI mg mkept mspare mhasKept mwas mwasMany manew mthrown mtext mlength mspot mvalue merror mtold mtolds) sz) := by
  refine met_ (cc := cX6_nextRow) (maxL := 3) (ret := (some .int)) (Qcf := fun A => Qi_ (dC, dI) (ty_ cI cZ cC cJ cD) R.1 (wM_ m0 m_g m_kept m_spare m_was m_text m_told cI R.2.1 R.2.2.1 R.2.2.2.1 R.2.2.2.2.1 R.2.2.2.2.2.1 R.2.2.2.2.2.2.1 R.2.2.2.2.2.2.2.1 R.2.2.2.2.2.2.2.2.1 R.2.2.2.2.2.2.2.2.2.1 R.2.2.2.2.2.2.2.2.2.2.1 R.2.2.2.2.2.2.2.2.2.2.2.1 R.2.2.2.2.2.2.2.2.2.2.2.2.1 R.2.2.2.2.2.2.2.2.2.2.2.2.2.1 R.2.2.2.2.2.2.2.2.2.2.2.2.2.2.1 R.2.2.2.2.2.2.2.2.2.2.2.2.2.2.2) A) (by decide) rfl (Nat.le_of_ble_eq_true rfl) ?_
  intro p e s m args below meth c A ls hx hb hr hts hown hlocks hml hA hP hK hD hl
  have hown : s.vm.findClass RX6 = some m.cls := hown
  have hl : lv_has ls 3 [(0, .ref m0), (1, .int a1)] := hl
  have hS : va_S A s.heap s.heap [] := va_S.rf
  have fl7_ : (Cond.fieldLink RX6 7 "DimensionLoaderModel" "g" "[I").before args s = true := hts _ (List.mem_of_getElem? (i := 1) rfl)
  have fl32_ : (Cond.fieldLink RX6 32 "DimensionLoaderModel" "thrown" "I").before args s = true := hts _ (List.mem_of_getElem? (i := 2) rfl)
  have inX6_ : ∀ w ∈ wsX60, w ∈ wsX6_nextRow := in_X6_nextRow_X6
  unfold f_X6_nextRow at hf
  dsimp only at hf
  refine lv_aload_n hx hb dX6_nextRow_0 rfl (lv_at hl 0 rfl) ?_
  refine lv_iload_n hx hb dX6_nextRow_1 rfl (lv_at hl 1 rfl) ?_
  refine lv_iconst (v := 0) hx hb dX6_nextRow_2 (by decide) ?_
  refine lv_iconst (v := 2) hx hb dX6_nextRow_3 (by decide) ?_
  obtain ⟨R2, g3, hf⟩ := bd_B hf
  obtain ⟨r1, rfl⟩ : ∃ z, z = R2 := ⟨_, rfl⟩
  have hPc := hP.sub (ws' := []) [] rfl
  have hDc := hD.sub (ws' := []) [] (by decide) rfl
  have hFc := va_free (wc := []) hD hS hA [] rfl
  refine va_calli (va_runS (As := [.int a1, .int 0, .int 2]) (rest := [.ref m0]) ⟨hx, hb, hml, hown, hts⟩ (c_X6_in l dC dI cI cZ cC cJ cD s.heap.size a1 (0 : Int32) (2 : Int32) r1 g3) (cwS 3 hts gX6_nextRow_X6_in rfl rfl rfl hs_X6_in ⟨Nat.le_of_ble_eq_true rfl, Nat.le_of_ble_eq_true rfl⟩) (preS_ hPc hK hDc rfl) rfl rfl hl.1 rfl (lv_room (Nat.le_of_ble_eq_true rfl)) dX6_nextRow_4 ⟨Nat.le_of_ble_eq_true rfl, Nat.le_of_ble_eq_true rfl⟩) hS (fun q _ h => hFc q h) hFc (fun z5 u t H4 locs ht hvm hw hB hz1 hk1 hS => ?_)
  have hw : r1 = z5 := hw.symm
  subst hw
  obtain ⟨hP, hD⟩ := aft_ (Wr := wM_ m0 m_g m_kept m_spare m_was m_text m_told cI mg mkept mspare mhasKept mwas mwasMany manew mthrown mtext mlength mspot mvalue merror mtold mtolds) (Wc' := []) (W2 := wM_ m0 m_g m_kept m_spare m_was m_text m_told cI mg mkept mspare mhasKept mwas mwasMany manew mthrown mtext mlength mspot mvalue merror mtold mtolds) hP hD [] [0, 1, 2, 3, 4, 5, 6] [0, 1, 2, 3, 4, 5, 6] rfl rfl (by decide) (by decide) (by decide) hk1 hFc hB ht rfl
  refine lv_if_eq (tgt := 27) hx hb dX6_nextRow_7 (by decide) (fun c6 => ?_) (fun c6 => ?_)
  · have hf := ite_T c6 hf
    refine lv_iconst (v := 1) hx hb dX6_nextRow_27 (by decide) ?_
    refine va_put (D := (dC, dI)) (ci := 8) (v := .int 1) (ty := .int) (C := RX6) (T := TX6) (N := 15) hx hb hts inX6_ tyX6 tyX6_ok nmX6 hown hK hP hD hS 0 rfl rfl 7 (by decide) fl32_ (fun _ h9 => h9) rfl (by decide +kernel) (by first | rfl | decide) (by first | rfl | decide) (Nat.le_of_ble_eq_true rfl) dX6_nextRow_28 (fun H7 locs hP hD hS => ?_)
    have hP : va_P (dC, dI) vwCl (wM_ m0 m_g m_kept m_spare m_was m_text m_told cI mg mkept mspare mhasKept mwas mwasMany manew 1 mtext mlength mspot mvalue merror mtold mtolds) H7 := hP
    have hD : va_D A (wM_ m0 m_g m_kept m_spare m_was m_text m_told cI mg mkept mspare mhasKept mwas mwasMany manew 1 mtext mlength mspot mvalue merror mtold mtolds) := hD
    refine lv_aload_n hx hb dX6_nextRow_31 rfl (lv_at hl 0 rfl) ?_
    refine va_get (D := (dC, dI)) (ci := 8) (v := .int 1) (C := RX6) (T := TX6) (N := 15) hx hb hts inX6_ hown hK hP 0 rfl rfl 7 (by decide) fl32_ (fun _ h9 => h9) rfl dX6_nextRow_32 ?_
    refine lv_if_le (tgt := 40) hx hb dX6_nextRow_35 (by decide) (fun c9 => absurd c9 (by decide)) (fun _ => ?_)
    refine lv_iconst (v := 0) hx hb dX6_nextRow_38 (by decide) ?_
    have hR := Option.some.inj hf
    subst hR
    exact W.iret (v := (0 : Int32)) hx hb hr (fun t ht hW => ⟨⟨(0 : Int32), (), rfl, rfl, by rw [ht]; exact hP, va_K.moved hW.alike hK, hD⟩, hS.F ht⟩) hS.2.2 dX6_nextRow_39
  · have hf := ite_F c6 hf
    refine lv_aload_n hx hb dX6_nextRow_10 rfl (lv_at hl 0 rfl) ?_
    refine va_get (D := (dC, dI)) (ci := 8) (v := .ref m_g) (C := RX6) (T := TX6) (N := 15) hx hb hts inX6_ hown hK hP 0 rfl rfl 0 (by decide) fl7_ (fun _ h9 => h9) rfl dX6_nextRow_11 ?_
    refine lv_iconst (v := 2) hx hb dX6_nextRow_14 (by decide) ?_
    obtain ⟨h8, hf⟩ := gd_T hf
    refine va_iald hx hb hK hP 1 0 rfl rfl h8 dX6_nextRow_15 ?_
    refine lv_if_ne (tgt := 23) hx hb dX6_nextRow_16 (by decide) (fun c9 => ?_) (fun c9 => ?_)
    · have hf := ite_F c9 hf
      refine lv_iconst (v := 0) hx hb dX6_nextRow_23 (by decide) ?_
      refine lv_goto (tgt := 28) hx hb dX6_nextRow_24 (by decide) ?_
      refine va_put (D := (dC, dI)) (ci := 8) (v := .int 0) (ty := .int) (C := RX6) (T := TX6) (N := 15) hx hb hts inX6_ tyX6 tyX6_ok nmX6 hown hK hP hD hS 0 rfl rfl 7 (by decide) fl32_ (fun _ h9 => h9) rfl (by decide +kernel) (by first | rfl | decide) (by first | rfl | decide) (Nat.le_of_ble_eq_true rfl) dX6_nextRow_28 (fun H10 locs hP hD hS => ?_)
      have hP : va_P (dC, dI) vwCl (wM_ m0 m_g m_kept m_spare m_was m_text m_told cI mg mkept mspare mhasKept mwas mwasMany manew 0 mtext mlength mspot mvalue merror mtold mtolds) H10 := hP
      have hD : va_D A (wM_ m0 m_g m_kept m_spare m_was m_text m_told cI mg mkept mspare mhasKept mwas mwasMany manew 0 mtext mlength mspot mvalue merror mtold mtolds) := hD
      refine lv_aload_n hx hb dX6_nextRow_31 rfl (lv_at hl 0 rfl) ?_
      refine va_get (D := (dC, dI)) (ci := 8) (v := .int 0) (C := RX6) (T := TX6) (N := 15) hx hb hts inX6_ hown hK hP 0 rfl rfl 7 (by decide) fl32_ (fun _ h9 => h9) rfl dX6_nextRow_32 ?_
      refine lv_if_le (tgt := 40) hx hb dX6_nextRow_35 (by decide) (fun _ => ?_) (fun c9 => absurd (by decide) c9)
      refine lv_aload_n hx hb dX6_nextRow_40 rfl (lv_at hl 0 rfl) ?_
      obtain ⟨R12, g13, hf⟩ := bd_B hf
      obtain ⟨r11, rfl⟩ : ∃ z, z = R12 := ⟨_, rfl⟩
      have hPc := hP
      have hDc := hD
      have hFc := va_free (wc := wM_ m0 m_g m_kept m_spare m_was m_text m_told cI mg mkept mspare mhasKept mwas mwasMany manew 0 mtext mlength mspot mvalue merror mtold mtolds) hD hS hA [0, 1, 2, 3, 4, 5, 6] rfl
      refine va_calli (va_runV (As := []) (rest := []) ⟨hx, hb, hml, hown, hts⟩ (c_X6_firstRow l dC dI cI cZ cC cJ cD m0 m_g m_kept m_spare m_was m_text m_told H10.size mg mkept mspare mhasKept mwas mwasMany manew (0 : Int32) mtext mlength mspot mvalue merror mtold mtolds r11 g13) (cwV 0 hts gX6_nextRow_X6_firstRow rfl rfl rfl hs_X6_firstRow ⟨Nat.le_of_ble_eq_true rfl, Nat.le_of_ble_eq_true rfl⟩) (preV_ (ci := 8) (q0 := 0) hPc hK hDc rfl rfl rfl rfl) rfl rfl hl.1 rfl (lv_room (Nat.le_of_ble_eq_true rfl)) dX6_nextRow_41 ⟨Nat.le_of_ble_eq_true rfl, Nat.le_of_ble_eq_true rfl⟩) hS (fun q _ h => hFc q h) hFc (fun z15 u t H14 locs ht hvm hw hB hz1 hk1 hS => ?_)
      have hw : r11 = z15 := hw.symm
      subst hw
      obtain ⟨hP, hD⟩ := aft_ (Wr := []) (Wc' := wM_ m0 m_g m_kept m_spare m_was m_text m_told cI mg mkept mspare mhasKept mwas mwasMany manew 0 mtext mlength mspot mvalue merror mtold mtolds) (W2 := wM_ m0 m_g m_kept m_spare m_was m_text m_told cI mg mkept mspare mhasKept mwas mwasMany manew 0 mtext mlength mspot mvalue merror mtold mtolds) hP hD [0, 1, 2, 3, 4, 5, 6] [] [0, 1, 2, 3, 4, 5, 6] rfl rfl (by decide) (by decide) (by decide) hk1 hFc hB ht rfl
      refine lv_istore_n (lv' := [(2, .int r11), (0, .ref m0), (1, .int a1)]) hx hb dX6_nextRow_44 rfl hl (by decide) rfl (fun ls hl => ?_)
      refine lv_iload_n hx hb dX6_nextRow_45 rfl (lv_at hl 2 rfl) ?_
      refine lv_if_ne (tgt := 62) hx hb dX6_nextRow_46 (by decide) (fun c16 => ?_) (fun c16 => ?_)
      · have hf := ite_F c16 hf
        refine lv_iload_n hx hb dX6_nextRow_62 rfl (lv_at hl 2 rfl) ?_
        refine lv_iconst (v := 1) hx hb dX6_nextRow_63 (by decide) ?_
        refine lv_icmp_ne (tgt := 80) hx hb dX6_nextRow_64 (by decide) (fun c17 => ?_) (fun c17 => ?_)
        · have hf := ite_F c17 hf
          refine lv_aload_n hx hb dX6_nextRow_80 rfl (lv_at hl 1 rfl) ?_
          refine va_get (D := (dC, dI)) (ci := 8) (v := .ref m_g) (C := RX6) (T := TX6) (N := 15) hx hb hts inX6_ hown hK hP 0 rfl rfl 0 (by decide) fl7_ (fun _ h9 => h9) rfl dX6_nextRow_81 ?_
          refine lv_sipush (v := 590) hx hb dX6_nextRow_84 (by decide) ?_
          refine lv_iload_n hx hb dX6_nextRow_87 rfl (lv_at hl 0 rfl) ?_
          refine lv_iadd hx hb dX6_nextRow_88 ?_
          obtain ⟨h18, hf⟩ := gd_T hf
          refine va_iald hx hb hK hP 1 0 rfl rfl h18 dX6_nextRow_89 ?_
          have hR := Option.some.inj hf
          subst hR
          exact W.iret (v := mg ((590 + r11).toNatClampNeg)) hx hb hr (fun t ht hW => ⟨⟨mg ((590 + r11).toNatClampNeg), (), rfl, rfl, by rw [ht]; exact hP, va_K.moved hW.alike hK, hD⟩, hS.F ht⟩) hS.2.2 dX6_nextRow_90
        · have hf := ite_T c17 hf
          refine lv_aload_n hx hb dX6_nextRow_67 rfl (lv_at hl 1 rfl) ?_
          refine va_get (D := (dC, dI)) (ci := 8) (v := .ref m_g) (C := RX6) (T := TX6) (N := 15) hx hb hts inX6_ hown hK hP 0 rfl rfl 0 (by decide) fl7_ (fun _ h9 => h9) rfl dX6_nextRow_68 ?_
          refine lv_sipush (v := 570) hx hb dX6_nextRow_71 (by decide) ?_
          refine lv_iload_n hx hb dX6_nextRow_74 rfl (lv_at hl 0 rfl) ?_
          refine lv_iadd hx hb dX6_nextRow_75 ?_
          obtain ⟨h19, hf⟩ := gd_T hf
          refine va_iald hx hb hK hP 1 0 rfl rfl h19 dX6_nextRow_76 ?_
          refine lv_goto (tgt := 90) hx hb dX6_nextRow_77 (by decide) ?_
          have hR := Option.some.inj hf
          subst hR
          exact W.iret (v := mg ((570 + r11).toNatClampNeg)) hx hb hr (fun t ht hW => ⟨⟨mg ((570 + r11).toNatClampNeg), (), rfl, rfl, by rw [ht]; exact hP, va_K.moved hW.alike hK, hD⟩, hS.F ht⟩) hS.2.2 dX6_nextRow_90
      · have hf := ite_T c16 hf
        refine lv_aload_n hx hb dX6_nextRow_49 rfl (lv_at hl 1 rfl) ?_
        refine va_get (D := (dC, dI)) (ci := 8) (v := .ref m_g) (C := RX6) (T := TX6) (N := 15) hx hb hts inX6_ hown hK hP 0 rfl rfl 0 (by decide) fl7_ (fun _ h9 => h9) rfl dX6_nextRow_50 ?_
        refine lv_sipush (v := 550) hx hb dX6_nextRow_53 (by decide) ?_
        refine lv_iload_n hx hb dX6_nextRow_56 rfl (lv_at hl 0 rfl) ?_
        refine lv_iadd hx hb dX6_nextRow_57 ?_
        obtain ⟨h20, hf⟩ := gd_T hf
        refine va_iald hx hb hK hP 1 0 rfl rfl h20 dX6_nextRow_58 ?_
        refine lv_goto (tgt := 90) hx hb dX6_nextRow_59 (by decide) ?_
        have hR := Option.some.inj hf
        subst hR
        exact W.iret (v := mg ((550 + r11).toNatClampNeg)) hx hb hr (fun t ht hW => ⟨⟨mg ((550 + r11).toNatClampNeg), (), rfl, rfl, by rw [ht]; exact hP, va_K.moved hW.alike hK, hD⟩, hS.F ht⟩) hS.2.2 dX6_nextRow_90
    · have hf := ite_T c9 hf
      refine lv_iconst (v := 2) hx hb dX6_nextRow_19 (by decide) ?_
      refine lv_goto (tgt := 28) hx hb dX6_nextRow_20 (by decide) ?_
      refine va_put (D := (dC, dI)) (ci := 8) (v := .int 2) (ty := .int) (C := RX6) (T := TX6) (N := 15) hx hb hts inX6_ tyX6 tyX6_ok nmX6 hown hK hP hD hS 0 rfl rfl 7 (by decide) fl32_ (fun _ h9 => h9) rfl (by decide +kernel) (by first | rfl | decide) (by first | rfl | decide) (Nat.le_of_ble_eq_true rfl) dX6_nextRow_28 (fun H21 locs hP hD hS => ?_)
      have hP : va_P (dC, dI) vwCl (wM_ m0 m_g m_kept m_spare m_was m_text m_told cI mg mkept mspare mhasKept mwas mwasMany manew 2 mtext mlength mspot mvalue merror mtold mtolds) H21 := hP
      have hD : va_D A (wM_ m0 m_g m_kept m_spare m_was m_text m_told cI mg mkept mspare mhasKept mwas mwasMany manew 2 mtext mlength mspot mvalue merror mtold mtolds) := hD
      refine lv_aload_n hx hb dX6_nextRow_31 rfl (lv_at hl 0 rfl) ?_
      refine va_get (D := (dC, dI)) (ci := 8) (v := .int 2) (C := RX6) (T := TX6) (N := 15) hx hb hts inX6_ hown hK hP 0 rfl rfl 7 (by decide) fl32_ (fun _ h9 => h9) rfl dX6_nextRow_32 ?_
      refine lv_if_le (tgt := 40) hx hb dX6_nextRow_35 (by decide) (fun c9 => absurd c9 (by decide)) (fun _ => ?_)
      refine lv_iconst (v := 0) hx hb dX6_nextRow_38 (by decide) ?_
      have hR := Option.some.inj hf
      subst hR
      exact W.iret (v := (0 : Int32)) hx hb hr (fun t ht hW => ⟨⟨(0 : Int32), (), rfl, rfl, by rw [ht]; exact hP, va_K.moved hW.alike hK, hD⟩, hS.F ht⟩) hS.2.2 dX6_nextRow_39
theorem hs_X6_nextRow : yX6_nextRow.cls = RX6 ∧ yX6_nextRow.cls ≠ "java/lang/invoke/MethodHandle" ∧ yX6_nextRow.cls ≠ "java/lang/invoke/VarHandle" ∧ (parseMethodDescriptor yX6_nextRow.desc).map (fun d => d.parameters.length) = some 1 := by decide +kernel
set_option maxRecDepth 20000 in
theorem in_X6_remembers_X6 : ∀ w ∈ wsX60, w ∈ wsX6_remembers := by decide +kernel
def f_X6_remembers_S2 (k_ : Int32 → tM_ → Option (tM_)) (l1 : Int32) (M_ : tM_) : Option (tM_) :=
match M_ with
| (mg, mkept, mspare, mhasKept, mwas, mwasMany, manew, mthrown, mtext, mlength, mspot, mvalue, merror, mtold, mtolds) =>
if 610 ≤ l1 then
some (mg, mkept, mspare, mhasKept, mwas, mwasMany, manew, mthrown, mtext, mlength, mspot, mvalue, merror, mtold, mtolds)
else
gd_ l1 610 (
gd_ l1 610 (nm_ (upd mspare l1.toNatClampNeg (mg l1.toNatClampNeg)) (fun u6 =>
k_ (l1 + 1) (mg, mkept, u6, mhasKept, mwas, mwasMany, manew, mthrown, mtext, mlength, mspot, mvalue, merror, mtold, mtolds))))
def f_X6_remembers_L2 : Nat → Int32 → tM_ → Option (tM_)
  | 0 => fun _ _ => none
  | n + 1 => fun l1 M_ => f_X6_remembers_S2 (f_X6_remembers_L2 n) l1 M_
def f_X6_remembers  (M_ : tM_) : Option (tM_) :=
match M_ with
| (mg, mkept, mspare, mhasKept, mwas, mwasMany, manew, mthrown, mtext, mlength, mspot, mvalue, merror, mtold, mtolds) =>
f_X6_remembers_L2 fu_ (0 : Int32) (mg, mkept, mspare, mhasKept, mwas, mwasMany, manew, mthrown, mtext, mlength, mspot, mvalue, merror, mtold, mtolds)
abbrev rm_X6_remembers : Room := { frames := 0, cells := 0, slots := 0, locals := 0 }
set_option maxHeartbeats 4000000 in
set_option maxRecDepth 100000 in
theorem c_X6_remembers (l : Launch) (dC : Nat → ClassId) (dI : Nat → Nat → Nat) (cI cZ cC cJ cD : ClassId) (m0 m_g m_kept m_spare m_was m_text m_told : Nat) (sz : Nat) (mg : Nat → Int32) (mkept : Nat → Int32) (mspare : Nat → Int32) (mhasKept : Int32) (mwas : Nat → Int32) (mwasMany : Int32) (manew : Int32) (mthrown : Int32) (mtext : Nat → Int32) (mlength : Int32) (mspot : Int32) (mvalue : Int32) (merror : Int32) (mtold : Nat → Int32) (mtolds : Int32)  (R : tM_) (hf : f_X6_remembers  (mg, mkept, mspare, mhasKept, mwas, mwasMany, manew, mthrown, mtext, mlength, mspot, mvalue, merror, mtold, mtolds) = some R) : Met l yX6_remembers wsX6_remembers rm_X6_remembers (Pc_ (dC, dI) (ty_ cI cZ cC cJ cD) (wM_ m0 m_g m_kept m_spare m_was m_text m_told cI mg mkept mspare mhasKept mwas mwasMany manew mthrown mtext mlength mspot mvalue merror mtold mtolds) sz [.ref m0]) (Qv_ (dC, dI) (ty_ cI cZ cC cJ cD) (wM_ m0 m_g m_kept m_spare m_was m_text m_told cI R.1 R.2.1 R.2.2.1 R.2.2.2.1 R.2.2.2.2.1 R.2.2.2.2.2.1 R.2.2.2.2.2.2.1 R.2.2.2.2.2.2.2.1 R.2.2.2.2.2.2.2.2.1 R.2.2.2.2.2.2.2.2.2.1 R.2.2.2.2.2.2.2.2.2.2.1 R.2.2.2.2.2.2.2.2.2.2.2.1 R.2.2.2.2.2.2.2.2.2.2.2.2.1 R.2.2.2.2.2.2.2.2.2.2.2.2.2.1 R.2.2.2.2.2.2.2.2.2.2.2.2.2.2) (va_A (wM_ m0 m_g m_kept m_spare m_was m_text m_told cI mg mkept mspare mhasKept mwas mwasMany manew mthrown mtext mlength mspot mvalue merror mtold mtolds) sz)) 0 0 (va_A (wM_ m0 m_g m_kept m_spare m_was m_text m_told cI mg mkept mspare mhasKept mwas mwasMany manew mthrown mtext mlength mspot mvalue merror mtold mtolds) sz) := by
  refine met_ (cc := cX6_remembers) (maxL := 2) (ret := none) (Qcf := fun A => Qv_ (dC, dI) (ty_ cI cZ cC cJ cD) (wM_ m0 m_g m_kept m_spare m_was m_text m_told cI R.1 R.2.1 R.2.2.1 R.2.2.2.1 R.2.2.2.2.1 R.2.2.2.2.2.1 R.2.2.2.2.2.2.1 R.2.2.2.2.2.2.2.1 R.2.2.2.2.2.2.2.2.1 R.2.2.2.2.2.2.2.2.2.1 R.2.2.2.2.2.2.2.2.2.2.1 R.2.2.2.2.2.2.2.2.2.2.2.1 R.2.2.2.2.2.2.2.2.2.2.2.2.1 R.2.2.2.2.2.2.2.2.2.2.2.2.2.1 R.2.2.2.2.2.2.2.2.2.2.2.2.2.2) A) (by decide) rfl (Nat.le_of_ble_eq_true rfl) ?_
  intro p e s m args below meth c A ls hx hb hr hts hown hlocks hml hA hP hK hD hl
  have hown : s.vm.findClass RX6 = some m.cls := hown
  have hl : lv_has ls 2 [(0, .ref m0)] := hl
  have hS : va_S A s.heap s.heap [] := va_S.rf
  have fl7_ : (Cond.fieldLink RX6 7 "DimensionLoaderModel" "g" "[I").before args s = true := hts _ (List.mem_of_getElem? (i := 2) rfl)
  have fl16_ : (Cond.fieldLink RX6 16 "DimensionLoaderModel" "spare" "[I").before args s = true := hts _ (List.mem_of_getElem? (i := 1) rfl)
  have inX6_ : ∀ w ∈ wsX60, w ∈ wsX6_remembers := in_X6_remembers_X6
  unfold f_X6_remembers at hf
  dsimp only at hf
  refine lv_iconst (v := 0) hx hb dX6_remembers_0 (by decide) ?_
  refine lv_istore_n (lv' := [(1, .int 0), (0, .ref m0)]) hx hb dX6_remembers_1 rfl hl (by decide) rfl (fun ls hl => ?_)
  have lp2 : ∀ (n : Nat) (l1 : Int32) (mg : Nat → Int32) (mkept : Nat → Int32) (mspare : Nat → Int32) (mhasKept : Int32) (mwas : Nat → Int32) (mwasMany : Int32) (manew : Int32) (mthrown : Int32) (mtext : Nat → Int32) (mlength : Int32) (mspot : Int32) (mvalue : Int32) (merror : Int32) (mtold : Nat → Int32) (mtolds : Int32) (H1 : Heap) (locs : List Loc) (ls : Array Slot), f_X6_remembers_L2 n l1 (mg, mkept, mspare, mhasKept, mwas, mwasMany, manew, mthrown, mtext, mlength, mspot, mvalue, merror, mtold, mtolds) = some R → va_P (dC, dI) vwCl (wM_ m0 m_g m_kept m_spare m_was m_text m_told cI mg mkept mspare mhasKept mwas mwasMany manew mthrown mtext mlength mspot mvalue merror mtold mtolds) H1 → va_D A (wM_ m0 m_g m_kept m_spare m_was m_text m_told cI mg mkept mspare mhasKept mwas mwasMany manew mthrown mtext mlength mspot mvalue merror mtold mtolds) → va_S A s.heap H1 locs → lv_has ls 2 [(1, .int l1), (0, .ref m0)] → W p l e (headSpec wsX6_remembers rm_X6_remembers).room s m args below meth c H1 locs 0 0 (MQ below (Qv_ (dC, dI) (ty_ cI cZ cC cJ cD) (wM_ m0 m_g m_kept m_spare m_was m_text m_told cI R.1 R.2.1 R.2.2.1 R.2.2.2.1 R.2.2.2.2.1 R.2.2.2.2.2.1 R.2.2.2.2.2.2.1 R.2.2.2.2.2.2.2.1 R.2.2.2.2.2.2.2.2.1 R.2.2.2.2.2.2.2.2.2.1 R.2.2.2.2.2.2.2.2.2.2.1 R.2.2.2.2.2.2.2.2.2.2.2.1 R.2.2.2.2.2.2.2.2.2.2.2.2.1 R.2.2.2.2.2.2.2.2.2.2.2.2.2.1 R.2.2.2.2.2.2.2.2.2.2.2.2.2.2) A) args s 0 0 A) (F0 m 2 ls []) := by
    intro n
    induction n with
    | zero => intro l1 mg mkept mspare mhasKept mwas mwasMany manew mthrown mtext mlength mspot mvalue merror mtold mtolds H1 locs ls hf hP hD hS hl; exact absurd hf (by simp [f_X6_remembers_L2])
    | succ n ih =>
      intro l1 mg mkept mspare mhasKept mwas mwasMany manew mthrown mtext mlength mspot mvalue merror mtold mtolds H1 locs ls hf hP hD hS hl
      have hf : f_X6_remembers_S2 (f_X6_remembers_L2 n) l1 (mg, mkept, mspare, mhasKept, mwas, mwasMany, manew, mthrown, mtext, mlength, mspot, mvalue, merror, mtold, mtolds) = some R := hf
      unfold f_X6_remembers_S2 at hf
      dsimp only at hf
      refine lv_iload_n hx hb dX6_remembers_2 rfl (lv_at hl 0 rfl) ?_
      refine lv_sipush (v := 610) hx hb dX6_remembers_3 (by decide) ?_
      refine lv_icmp_ge (tgt := 27) hx hb dX6_remembers_6 (by decide) (fun c2 => ?_) (fun c2 => ?_)
      · have hf := ite_T c2 hf
        have hR := Option.some.inj hf
        subst hR
        exact W.vret hx hb hr (fun t ht hW => ⟨⟨(), rfl, trivial, by rw [ht]; exact hP, va_K.moved hW.alike hK, hD⟩, hS.F ht⟩) hS.2.2 dX6_remembers_27
      · have hf := ite_F c2 hf
        refine lv_aload_n hx hb dX6_remembers_9 rfl (lv_at hl 1 rfl) ?_
        refine va_get (D := (dC, dI)) (ci := 8) (v := .ref m_spare) (C := RX6) (T := TX6) (N := 15) hx hb hts inX6_ hown hK hP 0 rfl rfl 2 (by decide) fl16_ (fun _ h9 => h9) rfl dX6_remembers_10 ?_
        refine lv_iload_n hx hb dX6_remembers_13 rfl (lv_at hl 0 rfl) ?_
        refine lv_aload_n hx hb dX6_remembers_14 rfl (lv_at hl 1 rfl) ?_
        refine va_get (D := (dC, dI)) (ci := 8) (v := .ref m_g) (C := RX6) (T := TX6) (N := 15) hx hb hts inX6_ hown hK hP 0 rfl rfl 0 (by decide) fl7_ (fun _ h9 => h9) rfl dX6_remembers_15 ?_
        refine lv_iload_n hx hb dX6_remembers_18 rfl (lv_at hl 0 rfl) ?_
        obtain ⟨h3, hf⟩ := gd_T hf
        refine va_iald hx hb hK hP 1 0 rfl rfl h3 dX6_remembers_19 ?_
        obtain ⟨h4, hf⟩ := gd_T hf
        refine va_iast hx hb hK hP hD hS 3 0 rfl rfl h4 dX6_remembers_20 (fun H5 locs hP hD hS => ?_)
        have hP : va_P (dC, dI) vwCl (wM_ m0 m_g m_kept m_spare m_was m_text m_told cI mg mkept (upd mspare l1.toNatClampNeg (mg l1.toNatClampNeg)) mhasKept mwas mwasMany manew mthrown mtext mlength mspot mvalue merror mtold mtolds) H5 := hP
        have hD : va_D A (wM_ m0 m_g m_kept m_spare m_was m_text m_told cI mg mkept (upd mspare l1.toNatClampNeg (mg l1.toNatClampNeg)) mhasKept mwas mwasMany manew mthrown mtext mlength mspot mvalue merror mtold mtolds) := hD
        obtain ⟨u6, e7, hf⟩ := nm_T hf
        rw [← e7] at hP hD
        refine lv_iinc (v := l1 + 1) (lv' := [(1, .int (l1 + 1)), (0, .ref m0)]) hx hb dX6_remembers_21 hl (k := 0) rfl (by first | rfl | decide) (by decide) rfl (fun ls hl => ?_)
        refine lv_goto (tgt := 2) hx hb dX6_remembers_24 (by decide) ?_
        exact ih (l1 + 1) mg mkept u6 mhasKept mwas mwasMany manew mthrown mtext mlength mspot mvalue merror mtold mtolds _ _ _ hf hP hD hS (lv_sub hl [0, 1] rfl)
  exact lp2 fu_ (0 : Int32) mg mkept mspare mhasKept mwas mwasMany manew mthrown mtext mlength mspot mvalue merror mtold mtolds _ _ _ hf hP hD hS hl
theorem hs_X6_remembers : yX6_remembers.cls = RX6 ∧ yX6_remembers.cls ≠ "java/lang/invoke/MethodHandle" ∧ yX6_remembers.cls ≠ "java/lang/invoke/VarHandle" ∧ (parseMethodDescriptor yX6_remembers.desc).map (fun d => d.parameters.length) = some 0 := by decide +kernel
set_option maxRecDepth 20000 in
theorem in_X6_goesBack_X6 : ∀ w ∈ wsX60, w ∈ wsX6_goesBack := by decide +kernel
def f_X6_goesBack_S2 (k_ : Int32 → tM_ → Option (tM_)) (l1 : Int32) (M_ : tM_) : Option (tM_) :=
match M_ with
| (mg, mkept, mspare, mhasKept, mwas, mwasMany, manew, mthrown, mtext, mlength, mspot, mvalue, merror, mtold, mtolds) =>
if 610 ≤ l1 then
some (mg, mkept, mspare, mhasKept, mwas, mwasMany, manew, mthrown, mtext, mlength, mspot, mvalue, merror, mtold, mtolds)
else
gd_ l1 610 (
gd_ l1 610 (nm_ (upd mg l1.toNatClampNeg (mspare l1.toNatClampNeg)) (fun u6 =>
k_ (l1 + 1) (u6, mkept, mspare, mhasKept, mwas, mwasMany, manew, mthrown, mtext, mlength, mspot, mvalue, merror, mtold, mtolds))))
def f_X6_goesBack_L2 : Nat → Int32 → tM_ → Option (tM_)
  | 0 => fun _ _ => none
  | n + 1 => fun l1 M_ => f_X6_goesBack_S2 (f_X6_goesBack_L2 n) l1 M_
def f_X6_goesBack  (M_ : tM_) : Option (tM_) :=
match M_ with
| (mg, mkept, mspare, mhasKept, mwas, mwasMany, manew, mthrown, mtext, mlength, mspot, mvalue, merror, mtold, mtolds) =>
f_X6_goesBack_L2 fu_ (0 : Int32) (mg, mkept, mspare, mhasKept, mwas, mwasMany, manew, mthrown, mtext, mlength, mspot, mvalue, merror, mtold, mtolds)
abbrev rm_X6_goesBack : Room := { frames := 0, cells := 0, slots := 0, locals := 0 }
set_option maxHeartbeats 4000000 in
set_option maxRecDepth 100000 in
theorem c_X6_goesBack (l : Launch) (dC : Nat → ClassId) (dI : Nat → Nat → Nat) (cI cZ cC cJ cD : ClassId) (m0 m_g m_kept m_spare m_was m_text m_told : Nat) (sz : Nat) (mg : Nat → Int32) (mkept : Nat → Int32) (mspare : Nat → Int32) (mhasKept : Int32) (mwas : Nat → Int32) (mwasMany : Int32) (manew : Int32) (mthrown : Int32) (mtext : Nat → Int32) (mlength : Int32) (mspot : Int32) (mvalue : Int32) (merror : Int32) (mtold : Nat → Int32) (mtolds : Int32)  (R : tM_) (hf : f_X6_goesBack  (mg, mkept, mspare, mhasKept, mwas, mwasMany, manew, mthrown, mtext, mlength, mspot, mvalue, merror, mtold, mtolds) = some R) : Met l yX6_goesBack wsX6_goesBack rm_X6_goesBack (Pc_ (dC, dI) (ty_ cI cZ cC cJ cD) (wM_ m0 m_g m_kept m_spare m_was m_text m_told cI mg mkept mspare mhasKept mwas mwasMany manew mthrown mtext mlength mspot mvalue merror mtold mtolds) sz [.ref m0]) (Qv_ (dC, dI) (ty_ cI cZ cC cJ cD) (wM_ m0 m_g m_kept m_spare m_was m_text m_told cI R.1 R.2.1 R.2.2.1 R.2.2.2.1 R.2.2.2.2.1 R.2.2.2.2.2.1 R.2.2.2.2.2.2.1 R.2.2.2.2.2.2.2.1 R.2.2.2.2.2.2.2.2.1 R.2.2.2.2.2.2.2.2.2.1 R.2.2.2.2.2.2.2.2.2.2.1 R.2.2.2.2.2.2.2.2.2.2.2.1 R.2.2.2.2.2.2.2.2.2.2.2.2.1 R.2.2.2.2.2.2.2.2.2.2.2.2.2.1 R.2.2.2.2.2.2.2.2.2.2.2.2.2.2) (va_A (wM_ m0 m_g m_kept m_spare m_was m_text m_told cI mg mkept mspare mhasKept mwas mwasMany manew mthrown mtext mlength mspot mvalue merror mtold mtolds) sz)) 0 0 (va_A (wM_ m0 m_g m_kept m_spare m_was m_text m_told cI mg mkept mspare mhasKept mwas mwasMany manew mthrown mtext mlength mspot mvalue merror mtold mtolds) sz) := by
  refine met_ (cc := cX6_goesBack) (maxL := 2) (ret := none) (Qcf := fun A => Qv_ (dC, dI) (ty_ cI cZ cC cJ cD) (wM_ m0 m_g m_kept m_spare m_was m_text m_told cI R.1 R.2.1 R.2.2.1 R.2.2.2.1 R.2.2.2.2.1 R.2.2.2.2.2.1 R.2.2.2.2.2.2.1 R.2.2.2.2.2.2.2.1 R.2.2.2.2.2.2.2.2.1 R.2.2.2.2.2.2.2.2.2.1 R.2.2.2.2.2.2.2.2.2.2.1 R.2.2.2.2.2.2.2.2.2.2.2.1 R.2.2.2.2.2.2.2.2.2.2.2.2.1 R.2.2.2.2.2.2.2.2.2.2.2.2.2.1 R.2.2.2.2.2.2.2.2.2.2.2.2.2.2) A) (by decide) rfl (Nat.le_of_ble_eq_true rfl) ?_
  intro p e s m args below meth c A ls hx hb hr hts hown hlocks hml hA hP hK hD hl
  have hown : s.vm.findClass RX6 = some m.cls := hown
  have hl : lv_has ls 2 [(0, .ref m0)] := hl
  have hS : va_S A s.heap s.heap [] := va_S.rf
  have fl7_ : (Cond.fieldLink RX6 7 "DimensionLoaderModel" "g" "[I").before args s = true := hts _ (List.mem_of_getElem? (i := 1) rfl)
  have fl16_ : (Cond.fieldLink RX6 16 "DimensionLoaderModel" "spare" "[I").before args s = true := hts _ (List.mem_of_getElem? (i := 2) rfl)
  have inX6_ : ∀ w ∈ wsX60, w ∈ wsX6_goesBack := in_X6_goesBack_X6
  unfold f_X6_goesBack at hf
  dsimp only at hf
  refine lv_iconst (v := 0) hx hb dX6_goesBack_0 (by decide) ?_
  refine lv_istore_n (lv' := [(1, .int 0), (0, .ref m0)]) hx hb dX6_goesBack_1 rfl hl (by decide) rfl (fun ls hl => ?_)
  have lp2 : ∀ (n : Nat) (l1 : Int32) (mg : Nat → Int32) (mkept : Nat → Int32) (mspare : Nat → Int32) (mhasKept : Int32) (mwas : Nat → Int32) (mwasMany : Int32) (manew : Int32) (mthrown : Int32) (mtext : Nat → Int32) (mlength : Int32) (mspot : Int32) (mvalue : Int32) (merror : Int32) (mtold : Nat → Int32) (mtolds : Int32) (H1 : Heap) (locs : List Loc) (ls : Array Slot), f_X6_goesBack_L2 n l1 (mg, mkept, mspare, mhasKept, mwas, mwasMany, manew, mthrown, mtext, mlength, mspot, mvalue, merror, mtold, mtolds) = some R → va_P (dC, dI) vwCl (wM_ m0 m_g m_kept m_spare m_was m_text m_told cI mg mkept mspare mhasKept mwas mwasMany manew mthrown mtext mlength mspot mvalue merror mtold mtolds) H1 → va_D A (wM_ m0 m_g m_kept m_spare m_was m_text m_told cI mg mkept mspare mhasKept mwas mwasMany manew mthrown mtext mlength mspot mvalue merror mtold mtolds) → va_S A s.heap H1 locs → lv_has ls 2 [(1, .int l1), (0, .ref m0)] → W p l e (headSpec wsX6_goesBack rm_X6_goesBack).room s m args below meth c H1 locs 0 0 (MQ below (Qv_ (dC, dI) (ty_ cI cZ cC cJ cD) (wM_ m0 m_g m_kept m_spare m_was m_text m_told cI R.1 R.2.1 R.2.2.1 R.2.2.2.1 R.2.2.2.2.1 R.2.2.2.2.2.1 R.2.2.2.2.2.2.1 R.2.2.2.2.2.2.2.1 R.2.2.2.2.2.2.2.2.1 R.2.2.2.2.2.2.2.2.2.1 R.2.2.2.2.2.2.2.2.2.2.1 R.2.2.2.2.2.2.2.2.2.2.2.1 R.2.2.2.2.2.2.2.2.2.2.2.2.1 R.2.2.2.2.2.2.2.2.2.2.2.2.2.1 R.2.2.2.2.2.2.2.2.2.2.2.2.2.2) A) args s 0 0 A) (F0 m 2 ls []) := by
    intro n
    induction n with
    | zero => intro l1 mg mkept mspare mhasKept mwas mwasMany manew mthrown mtext mlength mspot mvalue merror mtold mtolds H1 locs ls hf hP hD hS hl; exact absurd hf (by simp [f_X6_goesBack_L2])
    | succ n ih =>
      intro l1 mg mkept mspare mhasKept mwas mwasMany manew mthrown mtext mlength mspot mvalue merror mtold mtolds H1 locs ls hf hP hD hS hl
      have hf : f_X6_goesBack_S2 (f_X6_goesBack_L2 n) l1 (mg, mkept, mspare, mhasKept, mwas, mwasMany, manew, mthrown, mtext, mlength, mspot, mvalue, merror, mtold, mtolds) = some R := hf
      unfold f_X6_goesBack_S2 at hf
      dsimp only at hf
      refine lv_iload_n hx hb dX6_goesBack_2 rfl (lv_at hl 0 rfl) ?_
      refine lv_sipush (v := 610) hx hb dX6_goesBack_3 (by decide) ?_
      refine lv_icmp_ge (tgt := 27) hx hb dX6_goesBack_6 (by decide) (fun c2 => ?_) (fun c2 => ?_)
      · have hf := ite_T c2 hf
        have hR := Option.some.inj hf
        subst hR
        exact W.vret hx hb hr (fun t ht hW => ⟨⟨(), rfl, trivial, by rw [ht]; exact hP, va_K.moved hW.alike hK, hD⟩, hS.F ht⟩) hS.2.2 dX6_goesBack_27
      · have hf := ite_F c2 hf
        refine lv_aload_n hx hb dX6_goesBack_9 rfl (lv_at hl 1 rfl) ?_
        refine va_get (D := (dC, dI)) (ci := 8) (v := .ref m_g) (C := RX6) (T := TX6) (N := 15) hx hb hts inX6_ hown hK hP 0 rfl rfl 0 (by decide) fl7_ (fun _ h9 => h9) rfl dX6_goesBack_10 ?_
        refine lv_iload_n hx hb dX6_goesBack_13 rfl (lv_at hl 0 rfl) ?_
        refine lv_aload_n hx hb dX6_goesBack_14 rfl (lv_at hl 1 rfl) ?_
        refine va_get (D := (dC, dI)) (ci := 8) (v := .ref m_spare) (C := RX6) (T := TX6) (N := 15) hx hb hts inX6_ hown hK hP 0 rfl rfl 2 (by decide) fl16_ (fun _ h9 => h9) rfl dX6_goesBack_15 ?_
        refine lv_iload_n hx hb dX6_goesBack_18 rfl (lv_at hl 0 rfl) ?_
        obtain ⟨h3, hf⟩ := gd_T hf
        refine va_iald hx hb hK hP 3 0 rfl rfl h3 dX6_goesBack_19 ?_
        obtain ⟨h4, hf⟩ := gd_T hf
        refine va_iast hx hb hK hP hD hS 1 0 rfl rfl h4 dX6_goesBack_20 (fun H5 locs hP hD hS => ?_)
        have hP : va_P (dC, dI) vwCl (wM_ m0 m_g m_kept m_spare m_was m_text m_told cI (upd mg l1.toNatClampNeg (mspare l1.toNatClampNeg)) mkept mspare mhasKept mwas mwasMany manew mthrown mtext mlength mspot mvalue merror mtold mtolds) H5 := hP
        have hD : va_D A (wM_ m0 m_g m_kept m_spare m_was m_text m_told cI (upd mg l1.toNatClampNeg (mspare l1.toNatClampNeg)) mkept mspare mhasKept mwas mwasMany manew mthrown mtext mlength mspot mvalue merror mtold mtolds) := hD
        obtain ⟨u6, e7, hf⟩ := nm_T hf
        rw [← e7] at hP hD
        refine lv_iinc (v := l1 + 1) (lv' := [(1, .int (l1 + 1)), (0, .ref m0)]) hx hb dX6_goesBack_21 hl (k := 0) rfl (by first | rfl | decide) (by decide) rfl (fun ls hl => ?_)
        refine lv_goto (tgt := 2) hx hb dX6_goesBack_24 (by decide) ?_
        exact ih (l1 + 1) u6 mkept mspare mhasKept mwas mwasMany manew mthrown mtext mlength mspot mvalue merror mtold mtolds _ _ _ hf hP hD hS (lv_sub hl [0, 1] rfl)
  exact lp2 fu_ (0 : Int32) mg mkept mspare mhasKept mwas mwasMany manew mthrown mtext mlength mspot mvalue merror mtold mtolds _ _ _ hf hP hD hS hl
theorem hs_X6_goesBack : yX6_goesBack.cls = RX6 ∧ yX6_goesBack.cls ≠ "java/lang/invoke/MethodHandle" ∧ yX6_goesBack.cls ≠ "java/lang/invoke/VarHandle" ∧ (parseMethodDescriptor yX6_goesBack.desc).map (fun d => d.parameters.length) = some 0 := by decide +kernel
set_option maxRecDepth 20000 in
theorem in_X6_loads_X6 : ∀ w ∈ wsX60, w ∈ wsX6_loads := by decide +kernel
def f_X6_loads_S56 (k_ : Int32 → Int32 → tM_ → Option (Int32 × tM_)) (l2 : Int32) (l1 : Int32) (M_ : tM_) : Option (Int32 × tM_) :=
match M_ with
| (mg, mkept, mspare, mhasKept, mwas, mwasMany, manew, mthrown, mtext, mlength, mspot, mvalue, merror, mtold, mtolds) =>
gd_ (2 : Int32) 610 (
if (mg ((2 : Int32).toNatClampNeg)) ≤ l2 then
some ((1 : Int32), (mg, mkept, mspare, mhasKept, mwas, mwasMany, manew, mthrown, mtext, mlength, mspot, mvalue, merror, mtold, mtolds))
else
gd_ ((550 + l2) + 1) 610 (
gd_ (550 + l2) 610 (nm_ (upd mg ((550 + l2).toNatClampNeg) (mg (((550 + l2) + 1).toNatClampNeg))) (fun u41 =>
gd_ ((570 + l2) + 1) 610 (
gd_ (570 + l2) 610 (nm_ (upd u41 ((570 + l2).toNatClampNeg) (u41 (((570 + l2) + 1).toNatClampNeg))) (fun u46 =>
gd_ ((590 + l2) + 1) 610 (
gd_ (590 + l2) 610 (nm_ (upd u46 ((590 + l2).toNatClampNeg) (u46 (((590 + l2) + 1).toNatClampNeg))) (fun u51 =>
k_ (l2 + 1) l1 (u51, mkept, mspare, mhasKept, mwas, mwasMany, manew, mthrown, mtext, mlength, mspot, mvalue, merror, mtold, mtolds)))))))))))
def f_X6_loads_L56 : Nat → Int32 → Int32 → tM_ → Option (Int32 × tM_)
  | 0 => fun _ _ _ => none
  | n + 1 => fun l2 l1 M_ => f_X6_loads_S56 (f_X6_loads_L56 n) l2 l1 M_
def f_X6_loads  (M_ : tM_) : Option (Int32 × tM_) :=
match M_ with
| (mg, mkept, mspare, mhasKept, mwas, mwasMany, manew, mthrown, mtext, mlength, mspot, mvalue, merror, mtold, mtolds) =>
bd_ (f_X6_firstRow (mg, mkept, mspare, mhasKept, mwas, mwasMany, manew, mthrown, mtext, mlength, mspot, mvalue, merror, mtold, mtolds)) (fun r1 =>
gd_ (550 + r1) 610 (
gd_ (570 + r1) 610 (
gd_ (590 + r1) 610 (
bd_ (f_X6_changes (mg ((550 + r1).toNatClampNeg)) (mg ((570 + r1).toNatClampNeg)) (mg ((590 + r1).toNatClampNeg)) (mg, mkept, mspare, mhasKept, mwas, mwasMany, manew, mthrown, mtext, mlength, mspot, mvalue, merror, mtold, mtolds)) (fun (r9, (mg10, mk11, ms12, mh13, mw14, mw15, ma16, mt17, mt18, ml19, ms20, mv21, me22, mt23, mt24)) =>
if 0 ≤ r9 then
gd_ (2 : Int32) 610 (
gd_ (2 : Int32) 610 (nm_ (upd mg10 ((2 : Int32).toNatClampNeg) ((mg10 ((2 : Int32).toNatClampNeg)) - 1)) (fun u33 =>
f_X6_loads_L56 fu_ r1 r1 (u33, mk11, ms12, mh13, mw14, mw15, ma16, mt17, mt18, ml19, ms20, mv21, me22, mt23, mt24))))
else
some ((0 : Int32), (mg10, mk11, ms12, mh13, mw14, mw15, ma16, mt17, mt18, ml19, ms20, mv21, me22, mt23, mt24)))))))
abbrev rm_X6_loads : Room := { frames := 3, cells := 0, slots := 0, locals := 72 }
set_option maxHeartbeats 4000000 in
set_option maxRecDepth 100000 in
theorem c_X6_loads (l : Launch) (dC : Nat → ClassId) (dI : Nat → Nat → Nat) (cI cZ cC cJ cD : ClassId) (m0 m_g m_kept m_spare m_was m_text m_told : Nat) (sz : Nat) (mg : Nat → Int32) (mkept : Nat → Int32) (mspare : Nat → Int32) (mhasKept : Int32) (mwas : Nat → Int32) (mwasMany : Int32) (manew : Int32) (mthrown : Int32) (mtext : Nat → Int32) (mlength : Int32) (mspot : Int32) (mvalue : Int32) (merror : Int32) (mtold : Nat → Int32) (mtolds : Int32)  (R : Int32 × tM_) (hf : f_X6_loads  (mg, mkept, mspare, mhasKept, mwas, mwasMany, manew, mthrown, mtext, mlength, mspot, mvalue, merror, mtold, mtolds) = some R) : Met l yX6_loads wsX6_loads rm_X6_loads (Pc_ (dC, dI) (ty_ cI cZ cC cJ cD) (wM_ m0 m_g m_kept m_spare m_was m_text m_told cI mg mkept mspare mhasKept mwas mwasMany manew mthrown mtext mlength mspot mvalue merror mtold mtolds) sz [.ref m0]) (Qi_ (dC, dI) (ty_ cI cZ cC cJ cD) R.1 (wM_ m0 m_g m_kept m_spare m_was m_text m_told cI R.2.1 R.2.2.1 R.2.2.2.1 R.2.2.2.2.1 R.2.2.2.2.2.1 R.2.2.2.2.2.2.1 R.2.2.2.2.2.2.2.1 R.2.2.2.2.2.2.2.2.1 R.2.2.2.2.2.2.2.2.2.1 R.2.2.2.2.2.2.2.2.2.2.1 R.2.2.2.2.2.2.2.2.2.2.2.1 R.2.2.2.2.2.2.2.2.2.2.2.2.1 R.2.2.2.2.2.2.2.2.2.2.2.2.2.1 R.2.2.2.2.2.2.2.2.2.2.2.2.2.2.1 R.2.2.2.2.2.2.2.2.2.2.2.2.2.2.2) (va_A (wM_ m0 m_g m_kept m_spare m_was m_text m_told cI mg mkept mspare mhasKept mwas mwasMany manew mthrown mtext mlength mspot mvalue merror mtold mtolds) sz)) 0 0 (va_A (wM_ m0 m_g m_kept m_spare m_was m_text m_told cI mg mkept mspare mhasKept mwas mwasMany manew mthrown mtext mlength mspot mvalue merror mtold mtolds) sz) := by
  refine met_ (cc := cX6_loads) (maxL := 3) (ret := (some .boolean)) (Qcf := fun A => Qi_ (dC, dI) (ty_ cI cZ cC cJ cD) R.1 (wM_ m0 m_g m_kept m_spare m_was m_text m_told cI R.2.1 R.2.2.1 R.2.2.2.1 R.2.2.2.2.1 R.2.2.2.2.2.1 R.2.2.2.2.2.2.1 R.2.2.2.2.2.2.2.1 R.2.2.2.2.2.2.2.2.1 R.2.2.2.2.2.2.2.2.2.1 R.2.2.2.2.2.2.2.2.2.2.1 R.2.2.2.2.2.2.2.2.2.2.2.1 R.2.2.2.2.2.2.2.2.2.2.2.2.1 R.2.2.2.2.2.2.2.2.2.2.2.2.2.1 R.2.2.2.2.2.2.2.2.2.2.2.2.2.2.1 R.2.2.2.2.2.2.2.2.2.2.2.2.2.2.2) A) (by decide) rfl (Nat.le_of_ble_eq_true rfl) ?_
  intro p e s m args below meth c A ls hx hb hr hts hown hlocks hml hA hP hK hD hl
  have hown : s.vm.findClass RX6 = some m.cls := hown
  have hl : lv_has ls 3 [(0, .ref m0)] := hl
  have hS : va_S A s.heap s.heap [] := va_S.rf
  have fl7_ : (Cond.fieldLink RX6 7 "DimensionLoaderModel" "g" "[I").before args s = true := hts _ (List.mem_of_getElem? (i := 1) rfl)
  have inX6_ : ∀ w ∈ wsX60, w ∈ wsX6_loads := in_X6_loads_X6
  unfold f_X6_loads at hf
  dsimp only at hf
  refine lv_aload_n hx hb dX6_loads_0 rfl (lv_at hl 0 rfl) ?_
  obtain ⟨R2, g3, hf⟩ := bd_B hf
  obtain ⟨r1, rfl⟩ : ∃ z, z = R2 := ⟨_, rfl⟩
  have hPc := hP
  have hDc := hD
  have hFc := va_free (wc := wM_ m0 m_g m_kept m_spare m_was m_text m_told cI mg mkept mspare mhasKept mwas mwasMany manew mthrown mtext mlength mspot mvalue merror mtold mtolds) hD hS hA [0, 1, 2, 3, 4, 5, 6] rfl
  refine va_calli (va_runV (As := []) (rest := []) ⟨hx, hb, hml, hown, hts⟩ (c_X6_firstRow l dC dI cI cZ cC cJ cD m0 m_g m_kept m_spare m_was m_text m_told s.heap.size mg mkept mspare mhasKept mwas mwasMany manew mthrown mtext mlength mspot mvalue merror mtold mtolds r1 g3) (cwV 0 hts gX6_loads_X6_firstRow rfl rfl rfl hs_X6_firstRow ⟨Nat.le_of_ble_eq_true rfl, Nat.le_of_ble_eq_true rfl⟩) (preV_ (ci := 8) (q0 := 0) hPc hK hDc rfl rfl rfl rfl) rfl rfl hl.1 rfl (lv_room (Nat.le_of_ble_eq_true rfl)) dX6_loads_1 ⟨Nat.le_of_ble_eq_true rfl, Nat.le_of_ble_eq_true rfl⟩) hS (fun q _ h => hFc q h) hFc (fun z5 u t H4 locs ht hvm hw hB hz1 hk1 hS => ?_)
  have hw : r1 = z5 := hw.symm
  subst hw
  obtain ⟨hP, hD⟩ := aft_ (Wr := []) (Wc' := wM_ m0 m_g m_kept m_spare m_was m_text m_told cI mg mkept mspare mhasKept mwas mwasMany manew mthrown mtext mlength mspot mvalue merror mtold mtolds) (W2 := wM_ m0 m_g m_kept m_spare m_was m_text m_told cI mg mkept mspare mhasKept mwas mwasMany manew mthrown mtext mlength mspot mvalue merror mtold mtolds) hP hD [0, 1, 2, 3, 4, 5, 6] [] [0, 1, 2, 3, 4, 5, 6] rfl rfl (by decide) (by decide) (by decide) hk1 hFc hB ht rfl
  refine lv_istore_n (lv' := [(1, .int r1), (0, .ref m0)]) hx hb dX6_loads_4 rfl hl (by decide) rfl (fun ls hl => ?_)
  refine lv_aload_n hx hb dX6_loads_5 rfl (lv_at hl 1 rfl) ?_
  refine lv_aload_n hx hb dX6_loads_6 rfl (lv_at hl 1 rfl) ?_
  refine va_get (D := (dC, dI)) (ci := 8) (v := .ref m_g) (C := RX6) (T := TX6) (N := 15) hx hb hts inX6_ hown hK hP 0 rfl rfl 0 (by decide) fl7_ (fun _ h9 => h9) rfl dX6_loads_7 ?_
  refine lv_sipush (v := 550) hx hb dX6_loads_10 (by decide) ?_
  refine lv_iload_n hx hb dX6_loads_13 rfl (lv_at hl 0 rfl) ?_
  refine lv_iadd hx hb dX6_loads_14 ?_
  obtain ⟨h6, hf⟩ := gd_T hf
  refine va_iald hx hb hK hP 1 0 rfl rfl h6 dX6_loads_15 ?_
  refine lv_aload_n hx hb dX6_loads_16 rfl (lv_at hl 1 rfl) ?_
  refine va_get (D := (dC, dI)) (ci := 8) (v := .ref m_g) (C := RX6) (T := TX6) (N := 15) hx hb hts inX6_ hown hK hP 0 rfl rfl 0 (by decide) fl7_ (fun _ h9 => h9) rfl dX6_loads_17 ?_
  refine lv_sipush (v := 570) hx hb dX6_loads_20 (by decide) ?_
  refine lv_iload_n hx hb dX6_loads_23 rfl (lv_at hl 0 rfl) ?_
  refine lv_iadd hx hb dX6_loads_24 ?_
  obtain ⟨h7, hf⟩ := gd_T hf
  refine va_iald hx hb hK hP 1 0 rfl rfl h7 dX6_loads_25 ?_
  refine lv_aload_n hx hb dX6_loads_26 rfl (lv_at hl 1 rfl) ?_
  refine va_get (D := (dC, dI)) (ci := 8) (v := .ref m_g) (C := RX6) (T := TX6) (N := 15) hx hb hts inX6_ hown hK hP 0 rfl rfl 0 (by decide) fl7_ (fun _ h9 => h9) rfl dX6_loads_27 ?_
  refine lv_sipush (v := 590) hx hb dX6_loads_30 (by decide) ?_
  refine lv_iload_n hx hb dX6_loads_33 rfl (lv_at hl 0 rfl) ?_
  refine lv_iadd hx hb dX6_loads_34 ?_
  obtain ⟨h8, hf⟩ := gd_T hf
  refine va_iald hx hb hK hP 1 0 rfl rfl h8 dX6_loads_35 ?_
  obtain ⟨R25, g26, hf⟩ := bd_B hf
  obtain ⟨r9, ⟨mg10, mk11, ms12, mh13, mw14, mw15, ma16, mt17, mt18, ml19, ms20, mv21, me22, mt23, mt24⟩⟩ := R25
  dsimp only at hf
  have hPc := hP
  have hDc := hD
  have hFc := va_free (wc := wM_ m0 m_g m_kept m_spare m_was m_text m_told cI mg mkept mspare mhasKept mwas mwasMany manew mthrown mtext mlength mspot mvalue merror mtold mtolds) hD hS hA [0, 1, 2, 3, 4, 5, 6] rfl
  refine va_calli (va_runV (As := [.int (mg ((550 + r1).toNatClampNeg)), .int (mg ((570 + r1).toNatClampNeg)), .int (mg ((590 + r1).toNatClampNeg))]) (rest := []) ⟨hx, hb, hml, hown, hts⟩ (c_X6_changes l dC dI cI cZ cC cJ cD m0 m_g m_kept m_spare m_was m_text m_told H4.size mg mkept mspare mhasKept mwas mwasMany manew mthrown mtext mlength mspot mvalue merror mtold mtolds (mg ((550 + r1).toNatClampNeg)) (mg ((570 + r1).toNatClampNeg)) (mg ((590 + r1).toNatClampNeg)) (r9, (mg10, mk11, ms12, mh13, mw14, mw15, ma16, mt17, mt18, ml19, ms20, mv21, me22, mt23, mt24)) g26) (cwV 3 hts gX6_loads_X6_changes rfl rfl rfl hs_X6_changes ⟨Nat.le_of_ble_eq_true rfl, Nat.le_of_ble_eq_true rfl⟩) (preV_ (ci := 8) (q0 := 0) hPc hK hDc rfl rfl rfl rfl) rfl rfl hl.1 rfl (lv_room (Nat.le_of_ble_eq_true rfl)) dX6_loads_36 ⟨Nat.le_of_ble_eq_true rfl, Nat.le_of_ble_eq_true rfl⟩) hS (fun q _ h => hFc q h) hFc (fun z28 u t H27 locs ht hvm hw hB hz1 hk1 hS => ?_)
  have hw : r9 = z28 := hw.symm
  subst hw
  obtain ⟨hP, hD⟩ := aft_ (Wr := []) (Wc' := wM_ m0 m_g m_kept m_spare m_was m_text m_told cI mg10 mk11 ms12 mh13 mw14 mw15 ma16 mt17 mt18 ml19 ms20 mv21 me22 mt23 mt24) (W2 := wM_ m0 m_g m_kept m_spare m_was m_text m_told cI mg10 mk11 ms12 mh13 mw14 mw15 ma16 mt17 mt18 ml19 ms20 mv21 me22 mt23 mt24) hP hD [0, 1, 2, 3, 4, 5, 6] [] [0, 1, 2, 3, 4, 5, 6] rfl rfl (by decide) (by decide) (by decide) hk1 hFc hB ht rfl
  refine lv_if_ge (tgt := 44) hx hb dX6_loads_39 (by decide) (fun c29 => ?_) (fun c29 => ?_)
  · have hf := ite_T c29 hf
    refine lv_aload_n hx hb dX6_loads_44 rfl (lv_at hl 1 rfl) ?_
    refine va_get (D := (dC, dI)) (ci := 8) (v := .ref m_g) (C := RX6) (T := TX6) (N := 15) hx hb hts inX6_ hown hK hP 0 rfl rfl 0 (by decide) fl7_ (fun _ h9 => h9) rfl dX6_loads_45 ?_
    refine lv_iconst (v := 2) hx hb dX6_loads_48 (by decide) ?_
    refine lv_dup2_11 hx hb dX6_loads_49 rfl rfl ?_
    obtain ⟨h30, hf⟩ := gd_T hf
    refine va_iald hx hb hK hP 1 0 rfl rfl h30 dX6_loads_50 ?_
    refine lv_iconst (v := 1) hx hb dX6_loads_51 (by decide) ?_
    refine lv_isub hx hb dX6_loads_52 ?_
    obtain ⟨h31, hf⟩ := gd_T hf
    refine va_iast hx hb hK hP hD hS 1 0 rfl rfl h31 dX6_loads_53 (fun H32 locs hP hD hS => ?_)
    have hP : va_P (dC, dI) vwCl (wM_ m0 m_g m_kept m_spare m_was m_text m_told cI (upd mg10 ((2 : Int32).toNatClampNeg) ((mg10 ((2 : Int32).toNatClampNeg)) - 1)) mk11 ms12 mh13 mw14 mw15 ma16 mt17 mt18 ml19 ms20 mv21 me22 mt23 mt24) H32 := hP
    have hD : va_D A (wM_ m0 m_g m_kept m_spare m_was m_text m_told cI (upd mg10 ((2 : Int32).toNatClampNeg) ((mg10 ((2 : Int32).toNatClampNeg)) - 1)) mk11 ms12 mh13 mw14 mw15 ma16 mt17 mt18 ml19 ms20 mv21 me22 mt23 mt24) := hD
    obtain ⟨u33, e34, hf⟩ := nm_T hf
    rw [← e34] at hP hD
    refine lv_iload_n hx hb dX6_loads_54 rfl (lv_at hl 0 rfl) ?_
    refine lv_istore_n (lv' := [(2, .int r1), (1, .int r1), (0, .ref m0)]) hx hb dX6_loads_55 rfl hl (by decide) rfl (fun ls hl => ?_)
    have lp56 : ∀ (n : Nat) (l2 : Int32) (l1 : Int32) (mg : Nat → Int32) (mkept : Nat → Int32) (mspare : Nat → Int32) (mhasKept : Int32) (mwas : Nat → Int32) (mwasMany : Int32) (manew : Int32) (mthrown : Int32) (mtext : Nat → Int32) (mlength : Int32) (mspot : Int32) (mvalue : Int32) (merror : Int32) (mtold : Nat → Int32) (mtolds : Int32) (H35 : Heap) (locs : List Loc) (ls : Array Slot), f_X6_loads_L56 n l2 l1 (mg, mkept, mspare, mhasKept, mwas, mwasMany, manew, mthrown, mtext, mlength, mspot, mvalue, merror, mtold, mtolds) = some R → va_P (dC, dI) vwCl (wM_ m0 m_g m_kept m_spare m_was m_text m_told cI mg mkept mspare mhasKept mwas mwasMany manew mthrown mtext mlength mspot mvalue merror mtold mtolds) H35 → va_D A (wM_ m0 m_g m_kept m_spare m_was m_text m_told cI mg mkept mspare mhasKept mwas mwasMany manew mthrown mtext mlength mspot mvalue merror mtold mtolds) → va_S A s.heap H35 locs → lv_has ls 3 [(2, .int l2), (1, .int l1), (0, .ref m0)] → W p l e (headSpec wsX6_loads rm_X6_loads).room s m args below meth c H35 locs 0 0 (MQ below (Qi_ (dC, dI) (ty_ cI cZ cC cJ cD) R.1 (wM_ m0 m_g m_kept m_spare m_was m_text m_told cI R.2.1 R.2.2.1 R.2.2.2.1 R.2.2.2.2.1 R.2.2.2.2.2.1 R.2.2.2.2.2.2.1 R.2.2.2.2.2.2.2.1 R.2.2.2.2.2.2.2.2.1 R.2.2.2.2.2.2.2.2.2.1 R.2.2.2.2.2.2.2.2.2.2.1 R.2.2.2.2.2.2.2.2.2.2.2.1 R.2.2.2.2.2.2.2.2.2.2.2.2.1 R.2.2.2.2.2.2.2.2.2.2.2.2.2.1 R.2.2.2.2.2.2.2.2.2.2.2.2.2.2.1 R.2.2.2.2.2.2.2.2.2.2.2.2.2.2.2) A) args s 0 0 A) (F0 m 56 ls []) := by
      intro n
      induction n with
      | zero => intro l2 l1 mg mkept mspare mhasKept mwas mwasMany manew mthrown mtext mlength mspot mvalue merror mtold mtolds H35 locs ls hf hP hD hS hl; exact absurd hf (by simp [f_X6_loads_L56])
      | succ n ih =>
        intro l2 l1 mg mkept mspare mhasKept mwas mwasMany manew mthrown mtext mlength mspot mvalue merror mtold mtolds H35 locs ls hf hP hD hS hl
        have hf : f_X6_loads_S56 (f_X6_loads_L56 n) l2 l1 (mg, mkept, mspare, mhasKept, mwas, mwasMany, manew, mthrown, mtext, mlength, mspot, mvalue, merror, mtold, mtolds) = some R := hf
        unfold f_X6_loads_S56 at hf
        dsimp only at hf
        refine lv_iload_n hx hb dX6_loads_56 rfl (lv_at hl 0 rfl) ?_
        refine lv_aload_n hx hb dX6_loads_57 rfl (lv_at hl 2 rfl) ?_
        refine va_get (D := (dC, dI)) (ci := 8) (v := .ref m_g) (C := RX6) (T := TX6) (N := 15) hx hb hts inX6_ hown hK hP 0 rfl rfl 0 (by decide) fl7_ (fun _ h9 => h9) rfl dX6_loads_58 ?_
        refine lv_iconst (v := 2) hx hb dX6_loads_61 (by decide) ?_
        obtain ⟨h36, hf⟩ := gd_T hf
        refine va_iald hx hb hK hP 1 0 rfl rfl h36 dX6_loads_62 ?_
        refine lv_icmp_ge (tgt := 138) hx hb dX6_loads_63 (by decide) (fun c37 => ?_) (fun c37 => ?_)
        · have hf := ite_T c37 hf
          refine lv_iconst (v := 1) hx hb dX6_loads_138 (by decide) ?_
          have hR := Option.some.inj hf
          subst hR
          exact W.zret (v := (1 : Int32)) hx hb hr (by decide) (fun t ht hW => ⟨⟨(1 : Int32), (), rfl, rfl, by rw [ht]; exact hP, va_K.moved hW.alike hK, hD⟩, hS.F ht⟩) hS.2.2 dX6_loads_139
        · have hf := ite_F c37 hf
          refine lv_aload_n hx hb dX6_loads_66 rfl (lv_at hl 2 rfl) ?_
          refine va_get (D := (dC, dI)) (ci := 8) (v := .ref m_g) (C := RX6) (T := TX6) (N := 15) hx hb hts inX6_ hown hK hP 0 rfl rfl 0 (by decide) fl7_ (fun _ h9 => h9) rfl dX6_loads_67 ?_
          refine lv_sipush (v := 550) hx hb dX6_loads_70 (by decide) ?_
          refine lv_iload_n hx hb dX6_loads_73 rfl (lv_at hl 0 rfl) ?_
          refine lv_iadd hx hb dX6_loads_74 ?_
          refine lv_aload_n hx hb dX6_loads_75 rfl (lv_at hl 2 rfl) ?_
          refine va_get (D := (dC, dI)) (ci := 8) (v := .ref m_g) (C := RX6) (T := TX6) (N := 15) hx hb hts inX6_ hown hK hP 0 rfl rfl 0 (by decide) fl7_ (fun _ h9 => h9) rfl dX6_loads_76 ?_
          refine lv_sipush (v := 550) hx hb dX6_loads_79 (by decide) ?_
          refine lv_iload_n hx hb dX6_loads_82 rfl (lv_at hl 0 rfl) ?_
          refine lv_iadd hx hb dX6_loads_83 ?_
          refine lv_iconst (v := 1) hx hb dX6_loads_84 (by decide) ?_
          refine lv_iadd hx hb dX6_loads_85 ?_
          obtain ⟨h38, hf⟩ := gd_T hf
          refine va_iald hx hb hK hP 1 0 rfl rfl h38 dX6_loads_86 ?_
          obtain ⟨h39, hf⟩ := gd_T hf
          refine va_iast hx hb hK hP hD hS 1 0 rfl rfl h39 dX6_loads_87 (fun H40 locs hP hD hS => ?_)
          have hP : va_P (dC, dI) vwCl (wM_ m0 m_g m_kept m_spare m_was m_text m_told cI (upd mg ((550 + l2).toNatClampNeg) (mg (((550 + l2) + 1).toNatClampNeg))) mkept mspare mhasKept mwas mwasMany manew mthrown mtext mlength mspot mvalue merror mtold mtolds) H40 := hP
          have hD : va_D A (wM_ m0 m_g m_kept m_spare m_was m_text m_told cI (upd mg ((550 + l2).toNatClampNeg) (mg (((550 + l2) + 1).toNatClampNeg))) mkept mspare mhasKept mwas mwasMany manew mthrown mtext mlength mspot mvalue merror mtold mtolds) := hD
          obtain ⟨u41, e42, hf⟩ := nm_T hf
          rw [← e42] at hP hD
          refine lv_aload_n hx hb dX6_loads_88 rfl (lv_at hl 2 rfl) ?_
          refine va_get (D := (dC, dI)) (ci := 8) (v := .ref m_g) (C := RX6) (T := TX6) (N := 15) hx hb hts inX6_ hown hK hP 0 rfl rfl 0 (by decide) fl7_ (fun _ h9 => h9) rfl dX6_loads_89 ?_
          refine lv_sipush (v := 570) hx hb dX6_loads_92 (by decide) ?_
          refine lv_iload_n hx hb dX6_loads_95 rfl (lv_at hl 0 rfl) ?_
          refine lv_iadd hx hb dX6_loads_96 ?_
          refine lv_aload_n hx hb dX6_loads_97 rfl (lv_at hl 2 rfl) ?_
          refine va_get (D := (dC, dI)) (ci := 8) (v := .ref m_g) (C := RX6) (T := TX6) (N := 15) hx hb hts inX6_ hown hK hP 0 rfl rfl 0 (by decide) fl7_ (fun _ h9 => h9) rfl dX6_loads_98 ?_
          refine lv_sipush (v := 570) hx hb dX6_loads_101 (by decide) ?_
          refine lv_iload_n hx hb dX6_loads_104 rfl (lv_at hl 0 rfl) ?_
          refine lv_iadd hx hb dX6_loads_105 ?_
          refine lv_iconst (v := 1) hx hb dX6_loads_106 (by decide) ?_
          refine lv_iadd hx hb dX6_loads_107 ?_
          obtain ⟨h43, hf⟩ := gd_T hf
          refine va_iald hx hb hK hP 1 0 rfl rfl h43 dX6_loads_108 ?_
          obtain ⟨h44, hf⟩ := gd_T hf
          refine va_iast hx hb hK hP hD hS 1 0 rfl rfl h44 dX6_loads_109 (fun H45 locs hP hD hS => ?_)
          have hP : va_P (dC, dI) vwCl (wM_ m0 m_g m_kept m_spare m_was m_text m_told cI (upd u41 ((570 + l2).toNatClampNeg) (u41 (((570 + l2) + 1).toNatClampNeg))) mkept mspare mhasKept mwas mwasMany manew mthrown mtext mlength mspot mvalue merror mtold mtolds) H45 := hP
          have hD : va_D A (wM_ m0 m_g m_kept m_spare m_was m_text m_told cI (upd u41 ((570 + l2).toNatClampNeg) (u41 (((570 + l2) + 1).toNatClampNeg))) mkept mspare mhasKept mwas mwasMany manew mthrown mtext mlength mspot mvalue merror mtold mtolds) := hD
          obtain ⟨u46, e47, hf⟩ := nm_T hf
          rw [← e47] at hP hD
          refine lv_aload_n hx hb dX6_loads_110 rfl (lv_at hl 2 rfl) ?_
          refine va_get (D := (dC, dI)) (ci := 8) (v := .ref m_g) (C := RX6) (T := TX6) (N := 15) hx hb hts inX6_ hown hK hP 0 rfl rfl 0 (by decide) fl7_ (fun _ h9 => h9) rfl dX6_loads_111 ?_
          refine lv_sipush (v := 590) hx hb dX6_loads_114 (by decide) ?_
          refine lv_iload_n hx hb dX6_loads_117 rfl (lv_at hl 0 rfl) ?_
          refine lv_iadd hx hb dX6_loads_118 ?_
          refine lv_aload_n hx hb dX6_loads_119 rfl (lv_at hl 2 rfl) ?_
          refine va_get (D := (dC, dI)) (ci := 8) (v := .ref m_g) (C := RX6) (T := TX6) (N := 15) hx hb hts inX6_ hown hK hP 0 rfl rfl 0 (by decide) fl7_ (fun _ h9 => h9) rfl dX6_loads_120 ?_
          refine lv_sipush (v := 590) hx hb dX6_loads_123 (by decide) ?_
          refine lv_iload_n hx hb dX6_loads_126 rfl (lv_at hl 0 rfl) ?_
          refine lv_iadd hx hb dX6_loads_127 ?_
          refine lv_iconst (v := 1) hx hb dX6_loads_128 (by decide) ?_
          refine lv_iadd hx hb dX6_loads_129 ?_
          obtain ⟨h48, hf⟩ := gd_T hf
          refine va_iald hx hb hK hP 1 0 rfl rfl h48 dX6_loads_130 ?_
          obtain ⟨h49, hf⟩ := gd_T hf
          refine va_iast hx hb hK hP hD hS 1 0 rfl rfl h49 dX6_loads_131 (fun H50 locs hP hD hS => ?_)
          have hP : va_P (dC, dI) vwCl (wM_ m0 m_g m_kept m_spare m_was m_text m_told cI (upd u46 ((590 + l2).toNatClampNeg) (u46 (((590 + l2) + 1).toNatClampNeg))) mkept mspare mhasKept mwas mwasMany manew mthrown mtext mlength mspot mvalue merror mtold mtolds) H50 := hP
          have hD : va_D A (wM_ m0 m_g m_kept m_spare m_was m_text m_told cI (upd u46 ((590 + l2).toNatClampNeg) (u46 (((590 + l2) + 1).toNatClampNeg))) mkept mspare mhasKept mwas mwasMany manew mthrown mtext mlength mspot mvalue merror mtold mtolds) := hD
          obtain ⟨u51, e52, hf⟩ := nm_T hf
          rw [← e52] at hP hD
          refine lv_iinc (v := l2 + 1) (lv' := [(2, .int (l2 + 1)), (1, .int l1), (0, .ref m0)]) hx hb dX6_loads_132 hl (k := 0) rfl (by first | rfl | decide) (by decide) rfl (fun ls hl => ?_)
          refine lv_goto (tgt := 56) hx hb dX6_loads_135 (by decide) ?_
          exact ih (l2 + 1) l1 u51 mkept mspare mhasKept mwas mwasMany manew mthrown mtext mlength mspot mvalue merror mtold mtolds _ _ _ hf hP hD hS (lv_sub hl [0, 1, 2] rfl)
    exact lp56 fu_ r1 r1 u33 mk11 ms12 mh13 mw14 mw15 ma16 mt17 mt18 ml19 ms20 mv21 me22 mt23 mt24 _ _ _ hf hP hD hS hl
  · have hf := ite_F c29 hf
    refine lv_iconst (v := 0) hx hb dX6_loads_42 (by decide) ?_
    have hR := Option.some.inj hf
    subst hR
    exact W.zret (v := (0 : Int32)) hx hb hr (by decide) (fun t ht hW => ⟨⟨(0 : Int32), (), rfl, rfl, by rw [ht]; exact hP, va_K.moved hW.alike hK, hD⟩, hS.F ht⟩) hS.2.2 dX6_loads_43
theorem hs_X6_loads : yX6_loads.cls = RX6 ∧ yX6_loads.cls ≠ "java/lang/invoke/MethodHandle" ∧ yX6_loads.cls ≠ "java/lang/invoke/VarHandle" ∧ (parseMethodDescriptor yX6_loads.desc).map (fun d => d.parameters.length) = some 0 := by decide +kernel
set_option maxRecDepth 20000 in
theorem in_X6_loadRows_X6 : ∀ w ∈ wsX60, w ∈ wsX6_loadRows := by decide +kernel
def f_X6_loadRows_S31 (k_ : Int32 → Int32 → tM_ → Option (Int32 × tM_)) (l2 : Int32) (l1 : Int32) (M_ : tM_) : Option (Int32 × tM_) :=
match M_ with
| (mg, mkept, mspare, mhasKept, mwas, mwasMany, manew, mthrown, mtext, mlength, mspot, mvalue, merror, mtold, mtolds) =>
if l1 ≤ l2 then
bd_ (f_X6_ends (mg, mkept, mspare, mhasKept, mwas, mwasMany, manew, mthrown, mtext, mlength, mspot, mvalue, merror, mtold, mtolds)) (fun (mg48, mk49, ms50, mh51, mw52, mw53, ma54, mt55, mt56, ml57, ms58, mv59, me60, mt61, mt62) =>
some (l2, (mg48, mk49, ms50, mh51, mw52, mw53, ma54, mt55, mt56, ml57, ms58, mv59, me60, mt61, mt62)))
else
gd_ (2 : Int32) 610 (
if (mg ((2 : Int32).toNatClampNeg)) ≤ 0 then
bd_ (f_X6_ends (mg, mkept, mspare, mhasKept, mwas, mwasMany, manew, mthrown, mtext, mlength, mspot, mvalue, merror, mtold, mtolds)) (fun (mg69, mk70, ms71, mh72, mw73, mw74, ma75, mt76, mt77, ml78, ms79, mv80, me81, mt82, mt83) =>
some (l2, (mg69, mk70, ms71, mh72, mw73, mw74, ma75, mt76, mt77, ml78, ms79, mv80, me81, mt82, mt83)))
else
bd_ (f_X6_loads (mg, mkept, mspare, mhasKept, mwas, mwasMany, manew, mthrown, mtext, mlength, mspot, mvalue, merror, mtold, mtolds)) (fun (r88, (mg89, mk90, ms91, mh92, mw93, mw94, ma95, mt96, mt97, ml98, ms99, mv100, me101, mt102, mt103)) =>
if r88 = 0 then
bd_ (f_X6_goesBack (mg89, mk90, ms91, mh92, mw93, mw94, ma95, mt96, mt97, ml98, ms99, mv100, me101, mt102, mt103)) (fun (mg109, mk110, ms111, mh112, mw113, mw114, ma115, mt116, mt117, ml118, ms119, mv120, me121, mt122, mt123) =>
bd_ (f_X6_fails (2 : Int32) (mg109, mk110, ms111, mh112, mw113, mw114, ma115, mt116, mt117, ml118, ms119, mv120, me121, mt122, mt123)) (fun (r128, (mg129, mk130, ms131, mh132, mw133, mw134, ma135, mt136, mt137, ml138, ms139, mv140, me141, mt142, mt143)) =>
some (r128, (mg129, mk130, ms131, mh132, mw133, mw134, ma135, mt136, mt137, ml138, ms139, mv140, me141, mt142, mt143))))
else
k_ (l2 + 1) l1 (mg89, mk90, ms91, mh92, mw93, mw94, ma95, mt96, mt97, ml98, ms99, mv100, me101, mt102, mt103)))
def f_X6_loadRows_L31 : Nat → Int32 → Int32 → tM_ → Option (Int32 × tM_)
  | 0 => fun _ _ _ => none
  | n + 1 => fun l2 l1 M_ => f_X6_loadRows_S31 (f_X6_loadRows_L31 n) l2 l1 M_
def f_X6_loadRows (a1 : Int32) (M_ : tM_) : Option (Int32 × tM_) :=
match M_ with
| (mg, mkept, mspare, mhasKept, mwas, mwasMany, manew, mthrown, mtext, mlength, mspot, mvalue, merror, mtold, mtolds) =>
bd_ (f_X6_in a1 (1 : Int32) (20 : Int32)) (fun r2 =>
if r2 = 0 then
bd_ (f_X6_fails (1 : Int32) (mg, mkept, mspare, mhasKept, mwas, mwasMany, manew, 0, mtext, mlength, mspot, mvalue, merror, mtold, mtolds)) (fun (r148, (mg149, mk150, ms151, mh152, mw153, mw154, ma155, mt156, mt157, ml158, ms159, mv160, me161, mt162, mt163)) =>
some (r148, (mg149, mk150, ms151, mh152, mw153, mw154, ma155, mt156, mt157, ml158, ms159, mv160, me161, mt162, mt163)))
else
bd_ (f_X6_begins (mg, mkept, mspare, mhasKept, mwas, mwasMany, manew, 0, mtext, mlength, mspot, mvalue, merror, mtold, mtolds)) (fun (mg8, mk9, ms10, mh11, mw12, mw13, ma14, mt15, mt16, ml17, ms18, mv19, me20, mt21, mt22) =>
bd_ (f_X6_remembers (mg8, mk9, ms10, mh11, mw12, mw13, ma14, mt15, mt16, ml17, ms18, mv19, me20, mt21, mt22)) (fun (mg27, mk28, ms29, mh30, mw31, mw32, ma33, mt34, mt35, ml36, ms37, mv38, me39, mt40, mt41) =>
f_X6_loadRows_L31 fu_ (0 : Int32) a1 (mg27, mk28, ms29, mh30, mw31, mw32, ma33, mt34, mt35, ml36, ms37, mv38, me39, mt40, mt41))))
abbrev rm_X6_loadRows : Room := { frames := 4, cells := 0, slots := 0, locals := 94 }
set_option maxHeartbeats 4000000 in
set_option maxRecDepth 100000 in
theorem c_X6_loadRows (l : Launch) (dC : Nat → ClassId) (dI : Nat → Nat → Nat) (cI cZ cC cJ cD : ClassId) (m0 m_g m_kept m_spare m_was m_text m_told : Nat) (sz : Nat) (mg : Nat → Int32) (mkept : Nat → Int32) (mspare : Nat → Int32) (mhasKept : Int32) (mwas : Nat → Int32) (mwasMany : Int32) (manew : Int32) (mthrown : Int32) (mtext : Nat → Int32) (mlength : Int32) (mspot : Int32) (mvalue : Int32) (merror : Int32) (mtold : Nat → Int32) (mtolds : Int32) (a1 : Int32) (R : Int32 × tM_) (hf : f_X6_loadRows a1 (mg, mkept, mspare, mhasKept, mwas, mwasMany, manew, mthrown, mtext, mlength, mspot, mvalue, merror, mtold, mtolds) = some R) : Met l yX6_loadRows wsX6_loadRows rm_X6_loadRows (Pc_ (dC, dI) (ty_ cI cZ cC cJ cD) (wM_ m0 m_g m_kept m_spare m_was m_text m_told cI mg mkept mspare mhasKept mwas mwasMany manew mthrown mtext mlength mspot mvalue merror mtold mtolds) sz [.ref m0, .int a1]) (Qi_ (dC, dI) (ty_ cI cZ cC cJ cD) R.1 (wM_ m0 m_g m_kept m_spare m_was m_text m_told cI R.2.1 R.2.2.1 R.2.2.2.1 R.2.2.2.2.1 R.2.2.2.2.2.1 R.2.2.2.2.2.2.1 R.2.2.2.2.2.2.2.1 R.2.2.2.2.2.2.2.2.1 R.2.2.2.2.2.2.2.2.2.1 R.2.2.2.2.2.2.2.2.2.2.1 R.2.2.2.2.2.2.2.2.2.2.2.1 R.2.2.2.2.2.2.2.2.2.2.2.2.1 R.2.2.2.2.2.2.2.2.2.2.2.2.2.1 R.2.2.2.2.2.2.2.2.2.2.2.2.2.2.1 R.2.2.2.2.2.2.2.2.2.2.2.2.2.2.2) (va_A (wM_ m0 m_g m_kept m_spare m_was m_text m_told cI mg mkept mspare mhasKept mwas mwasMany manew mthrown mtext mlength mspot mvalue merror mtold mtolds) sz)) 0 0 (va_A (wM_ m0 m_g m_kept m_spare m_was m_text m_told cI mg mkept mspare mhasKept mwas mwasMany manew mthrown mtext mlength mspot mvalue merror mtold mtolds) sz) := by
  refine met_ (cc := cX6_loadRows) (maxL := 3) (ret := (some .int)) (Qcf := fun A => Qi_ (dC, dI) (ty_ cI cZ cC cJ cD) R.1 (wM_ m0 m_g m_kept m_spare m_was m_text m_told cI R.2.1 R.2.2.1 R.2.2.2.1 R.2.2.2.2.1 R.2.2.2.2.2.1 R.2.2.2.2.2.2.1 R.2.2.2.2.2.2.2.1 R.2.2.2.2.2.2.2.2.1 R.2.2.2.2.2.2.2.2.2.1 R.2.2.2.2.2.2.2.2.2.2.1 R.2.2.2.2.2.2.2.2.2.2.2.1 R.2.2.2.2.2.2.2.2.2.2.2.2.1 R.2.2.2.2.2.2.2.2.2.2.2.2.2.1 R.2.2.2.2.2.2.2.2.2.2.2.2.2.2.1 R.2.2.2.2.2.2.2.2.2.2.2.2.2.2.2) A) (by decide) rfl (Nat.le_of_ble_eq_true rfl) ?_
  intro p e s m args below meth c A ls hx hb hr hts hown hlocks hml hA hP hK hD hl
  have hown : s.vm.findClass RX6 = some m.cls := hown
  have hl : lv_has ls 3 [(0, .ref m0), (1, .int a1)] := hl
  have hS : va_S A s.heap s.heap [] := va_S.rf
  have fl7_ : (Cond.fieldLink RX6 7 "DimensionLoaderModel" "g" "[I").before args s = true := hts _ (List.mem_of_getElem? (i := 2) rfl)
  have fl32_ : (Cond.fieldLink RX6 32 "DimensionLoaderModel" "thrown" "I").before args s = true := hts _ (List.mem_of_getElem? (i := 1) rfl)
  have inX6_ : ∀ w ∈ wsX60, w ∈ wsX6_loadRows := in_X6_loadRows_X6
  unfold f_X6_loadRows at hf
  dsimp only at hf
  refine lv_aload_n hx hb dX6_loadRows_0 rfl (lv_at hl 0 rfl) ?_
  refine lv_iconst (v := 0) hx hb dX6_loadRows_1 (by decide) ?_
  refine va_put (D := (dC, dI)) (ci := 8) (v := .int 0) (ty := .int) (C := RX6) (T := TX6) (N := 15) hx hb hts inX6_ tyX6 tyX6_ok nmX6 hown hK hP hD hS 0 rfl rfl 7 (by decide) fl32_ (fun _ h9 => h9) rfl (by decide +kernel) (by first | rfl | decide) (by first | rfl | decide) (Nat.le_of_ble_eq_true rfl) dX6_loadRows_2 (fun H1 locs hP hD hS => ?_)
  have hP : va_P (dC, dI) vwCl (wM_ m0 m_g m_kept m_spare m_was m_text m_told cI mg mkept mspare mhasKept mwas mwasMany manew 0 mtext mlength mspot mvalue merror mtold mtolds) H1 := hP
  have hD : va_D A (wM_ m0 m_g m_kept m_spare m_was m_text m_told cI mg mkept mspare mhasKept mwas mwasMany manew 0 mtext mlength mspot mvalue merror mtold mtolds) := hD
  refine lv_iload_n hx hb dX6_loadRows_5 rfl (lv_at hl 1 rfl) ?_
  refine lv_iconst (v := 1) hx hb dX6_loadRows_6 (by decide) ?_
  refine lv_bipush (v := 20) hx hb dX6_loadRows_7 (by decide) ?_
  obtain ⟨R3, g4, hf⟩ := bd_B hf
  obtain ⟨r2, rfl⟩ : ∃ z, z = R3 := ⟨_, rfl⟩
  have hPc := hP.sub (ws' := []) [] rfl
  have hDc := hD.sub (ws' := []) [] (by decide) rfl
  have hFc := va_free (wc := []) hD hS hA [] rfl
  refine va_calli (va_runS (As := [.int a1, .int 1, .int 20]) (rest := []) ⟨hx, hb, hml, hown, hts⟩ (c_X6_in l dC dI cI cZ cC cJ cD H1.size a1 (1 : Int32) (20 : Int32) r2 g4) (cwS 3 hts gX6_loadRows_X6_in rfl rfl rfl hs_X6_in ⟨Nat.le_of_ble_eq_true rfl, Nat.le_of_ble_eq_true rfl⟩) (preS_ hPc hK hDc rfl) rfl rfl hl.1 rfl (lv_room (Nat.le_of_ble_eq_true rfl)) dX6_loadRows_9 ⟨Nat.le_of_ble_eq_true rfl, Nat.le_of_ble_eq_true rfl⟩) hS (fun q _ h => hFc q h) hFc (fun z6 u t H5 locs ht hvm hw hB hz1 hk1 hS => ?_)
  have hw : r2 = z6 := hw.symm
  subst hw
  obtain ⟨hP, hD⟩ := aft_ (Wr := wM_ m0 m_g m_kept m_spare m_was m_text m_told cI mg mkept mspare mhasKept mwas mwasMany manew 0 mtext mlength mspot mvalue merror mtold mtolds) (Wc' := []) (W2 := wM_ m0 m_g m_kept m_spare m_was m_text m_told cI mg mkept mspare mhasKept mwas mwasMany manew 0 mtext mlength mspot mvalue merror mtold mtolds) hP hD [] [0, 1, 2, 3, 4, 5, 6] [0, 1, 2, 3, 4, 5, 6] rfl rfl (by decide) (by decide) (by decide) hk1 hFc hB ht rfl
  refine lv_if_ne (tgt := 21) hx hb dX6_loadRows_12 (by decide) (fun c7 => ?_) (fun c7 => ?_)
  · have hf := ite_F c7 hf
    refine lv_aload_n hx hb dX6_loadRows_21 rfl (lv_at hl 0 rfl) ?_
    obtain ⟨R23, g24, hf⟩ := bd_B hf
    obtain ⟨mg8, mk9, ms10, mh11, mw12, mw13, ma14, mt15, mt16, ml17, ms18, mv19, me20, mt21, mt22⟩ := R23
    dsimp only at hf
    have hPc := hP
    have hDc := hD
    have hFc := va_free (wc := wM_ m0 m_g m_kept m_spare m_was m_text m_told cI mg mkept mspare mhasKept mwas mwasMany manew 0 mtext mlength mspot mvalue merror mtold mtolds) hD hS hA [0, 1, 2, 3, 4, 5, 6] rfl
    refine va_callv (va_runV (As := []) (rest := []) ⟨hx, hb, hml, hown, hts⟩ (c_X6_begins l dC dI cI cZ cC cJ cD m0 m_g m_kept m_spare m_was m_text m_told H5.size mg mkept mspare mhasKept mwas mwasMany manew (0 : Int32) mtext mlength mspot mvalue merror mtold mtolds (mg8, mk9, ms10, mh11, mw12, mw13, ma14, mt15, mt16, ml17, ms18, mv19, me20, mt21, mt22) g24) (cwV 0 hts gX6_loadRows_X6_begins rfl rfl rfl hs_X6_begins ⟨Nat.le_of_ble_eq_true rfl, Nat.le_of_ble_eq_true rfl⟩) (preV_ (ci := 8) (q0 := 0) hPc hK hDc rfl rfl rfl rfl) rfl rfl hl.1 rfl (lv_room (Nat.le_of_ble_eq_true rfl)) dX6_loadRows_22 ⟨Nat.le_of_ble_eq_true rfl, Nat.le_of_ble_eq_true rfl⟩) hS (fun q _ h => hFc q h) hFc (fun u t H25 locs ht hvm hw hB hz1 hk1 hS => ?_)
    obtain ⟨hP, hD⟩ := aft_ (Wr := []) (Wc' := wM_ m0 m_g m_kept m_spare m_was m_text m_told cI mg8 mk9 ms10 mh11 mw12 mw13 ma14 mt15 mt16 ml17 ms18 mv19 me20 mt21 mt22) (W2 := wM_ m0 m_g m_kept m_spare m_was m_text m_told cI mg8 mk9 ms10 mh11 mw12 mw13 ma14 mt15 mt16 ml17 ms18 mv19 me20 mt21 mt22) hP hD [0, 1, 2, 3, 4, 5, 6] [] [0, 1, 2, 3, 4, 5, 6] rfl rfl (by decide) (by decide) (by decide) hk1 hFc hB ht rfl
    refine lv_aload_n hx hb dX6_loadRows_25 rfl (lv_at hl 0 rfl) ?_
    obtain ⟨R42, g43, hf⟩ := bd_B hf
    obtain ⟨mg27, mk28, ms29, mh30, mw31, mw32, ma33, mt34, mt35, ml36, ms37, mv38, me39, mt40, mt41⟩ := R42
    dsimp only at hf
    have hPc := hP
    have hDc := hD
    have hFc := va_free (wc := wM_ m0 m_g m_kept m_spare m_was m_text m_told cI mg8 mk9 ms10 mh11 mw12 mw13 ma14 mt15 mt16 ml17 ms18 mv19 me20 mt21 mt22) hD hS hA [0, 1, 2, 3, 4, 5, 6] rfl
    refine va_callv (va_runV (As := []) (rest := []) ⟨hx, hb, hml, hown, hts⟩ (c_X6_remembers l dC dI cI cZ cC cJ cD m0 m_g m_kept m_spare m_was m_text m_told H25.size mg8 mk9 ms10 mh11 mw12 mw13 ma14 mt15 mt16 ml17 ms18 mv19 me20 mt21 mt22 (mg27, mk28, ms29, mh30, mw31, mw32, ma33, mt34, mt35, ml36, ms37, mv38, me39, mt40, mt41) g43) (cwV 0 hts gX6_loadRows_X6_remembers rfl rfl rfl hs_X6_remembers ⟨Nat.le_of_ble_eq_true rfl, Nat.le_of_ble_eq_true rfl⟩) (preV_ (ci := 8) (q0 := 0) hPc hK hDc rfl rfl rfl rfl) rfl rfl hl.1 rfl (lv_room (Nat.le_of_ble_eq_true rfl)) dX6_loadRows_26 ⟨Nat.le_of_ble_eq_true rfl, Nat.le_of_ble_eq_true rfl⟩) hS (fun q _ h => hFc q h) hFc (fun u t H44 locs ht hvm hw hB hz1 hk1 hS => ?_)
    obtain ⟨hP, hD⟩ := aft_ (Wr := []) (Wc' := wM_ m0 m_g m_kept m_spare m_was m_text m_told cI mg27 mk28 ms29 mh30 mw31 mw32 ma33 mt34 mt35 ml36 ms37 mv38 me39 mt40 mt41) (W2 := wM_ m0 m_g m_kept m_spare m_was m_text m_told cI mg27 mk28 ms29 mh30 mw31 mw32 ma33 mt34 mt35 ml36 ms37 mv38 me39 mt40 mt41) hP hD [0, 1, 2, 3, 4, 5, 6] [] [0, 1, 2, 3, 4, 5, 6] rfl rfl (by decide) (by decide) (by decide) hk1 hFc hB ht rfl
    refine lv_iconst (v := 0) hx hb dX6_loadRows_29 (by decide) ?_
    refine lv_istore_n (lv' := [(2, .int 0), (0, .ref m0), (1, .int a1)]) hx hb dX6_loadRows_30 rfl hl (by decide) rfl (fun ls hl => ?_)
    have lp31 : ∀ (n : Nat) (l2 : Int32) (l1 : Int32) (mg : Nat → Int32) (mkept : Nat → Int32) (mspare : Nat → Int32) (mhasKept : Int32) (mwas : Nat → Int32) (mwasMany : Int32) (manew : Int32) (mthrown : Int32) (mtext : Nat → Int32) (mlength : Int32) (mspot : Int32) (mvalue : Int32) (merror : Int32) (mtold : Nat → Int32) (mtolds : Int32) (H46 : Heap) (locs : List Loc) (ls : Array Slot), f_X6_loadRows_L31 n l2 l1 (mg, mkept, mspare, mhasKept, mwas, mwasMany, manew, mthrown, mtext, mlength, mspot, mvalue, merror, mtold, mtolds) = some R → va_P (dC, dI) vwCl (wM_ m0 m_g m_kept m_spare m_was m_text m_told cI mg mkept mspare mhasKept mwas mwasMany manew mthrown mtext mlength mspot mvalue merror mtold mtolds) H46 → va_D A (wM_ m0 m_g m_kept m_spare m_was m_text m_told cI mg mkept mspare mhasKept mwas mwasMany manew mthrown mtext mlength mspot mvalue merror mtold mtolds) → va_S A s.heap H46 locs → lv_has ls 3 [(2, .int l2), (0, .ref m0), (1, .int l1)] → W p l e (headSpec wsX6_loadRows rm_X6_loadRows).room s m args below meth c H46 locs 0 0 (MQ below (Qi_ (dC, dI) (ty_ cI cZ cC cJ cD) R.1 (wM_ m0 m_g m_kept m_spare m_was m_text m_told cI R.2.1 R.2.2.1 R.2.2.2.1 R.2.2.2.2.1 R.2.2.2.2.2.1 R.2.2.2.2.2.2.1 R.2.2.2.2.2.2.2.1 R.2.2.2.2.2.2.2.2.1 R.2.2.2.2.2.2.2.2.2.1 R.2.2.2.2.2.2.2.2.2.2.1 R.2.2.2.2.2.2.2.2.2.2.2.1 R.2.2.2.2.2.2.2.2.2.2.2.2.1 R.2.2.2.2.2.2.2.2.2.2.2.2.2.1 R.2.2.2.2.2.2.2.2.2.2.2.2.2.2.1 R.2.2.2.2.2.2.2.2.2.2.2.2.2.2.2) A) args s 0 0 A) (F0 m 31 ls []) := by
      intro n
      induction n with
      | zero => intro l2 l1 mg mkept mspare mhasKept mwas mwasMany manew mthrown mtext mlength mspot mvalue merror mtold mtolds H46 locs ls hf hP hD hS hl; exact absurd hf (by simp [f_X6_loadRows_L31])
      | succ n ih =>
        intro l2 l1 mg mkept mspare mhasKept mwas mwasMany manew mthrown mtext mlength mspot mvalue merror mtold mtolds H46 locs ls hf hP hD hS hl
        have hf : f_X6_loadRows_S31 (f_X6_loadRows_L31 n) l2 l1 (mg, mkept, mspare, mhasKept, mwas, mwasMany, manew, mthrown, mtext, mlength, mspot, mvalue, merror, mtold, mtolds) = some R := hf
        unfold f_X6_loadRows_S31 at hf
        dsimp only at hf
        refine lv_iload_n hx hb dX6_loadRows_31 rfl (lv_at hl 0 rfl) ?_
        refine lv_iload_n hx hb dX6_loadRows_32 rfl (lv_at hl 2 rfl) ?_
        refine lv_icmp_ge (tgt := 68) hx hb dX6_loadRows_33 (by decide) (fun c47 => ?_) (fun c47 => ?_)
        · have hf := ite_T c47 hf
          refine lv_aload_n hx hb dX6_loadRows_68 rfl (lv_at hl 1 rfl) ?_
          obtain ⟨R63, g64, hf⟩ := bd_B hf
          obtain ⟨mg48, mk49, ms50, mh51, mw52, mw53, ma54, mt55, mt56, ml57, ms58, mv59, me60, mt61, mt62⟩ := R63
          dsimp only at hf
          have hPc := hP
          have hDc := hD
          have hFc := va_free (wc := wM_ m0 m_g m_kept m_spare m_was m_text m_told cI mg mkept mspare mhasKept mwas mwasMany manew mthrown mtext mlength mspot mvalue merror mtold mtolds) hD hS hA [0, 1, 2, 3, 4, 5, 6] rfl
          refine va_callv (va_runV (As := []) (rest := []) ⟨hx, hb, hml, hown, hts⟩ (c_X6_ends l dC dI cI cZ cC cJ cD m0 m_g m_kept m_spare m_was m_text m_told H46.size mg mkept mspare mhasKept mwas mwasMany manew mthrown mtext mlength mspot mvalue merror mtold mtolds (mg48, mk49, ms50, mh51, mw52, mw53, ma54, mt55, mt56, ml57, ms58, mv59, me60, mt61, mt62) g64) (cwV 0 hts gX6_loadRows_X6_ends rfl rfl rfl hs_X6_ends ⟨Nat.le_of_ble_eq_true rfl, Nat.le_of_ble_eq_true rfl⟩) (preV_ (ci := 8) (q0 := 0) hPc hK hDc rfl rfl rfl rfl) rfl rfl hl.1 rfl (lv_room (Nat.le_of_ble_eq_true rfl)) dX6_loadRows_69 ⟨Nat.le_of_ble_eq_true rfl, Nat.le_of_ble_eq_true rfl⟩) hS (fun q _ h => hFc q h) hFc (fun u t H65 locs ht hvm hw hB hz1 hk1 hS => ?_)
          obtain ⟨hP, hD⟩ := aft_ (Wr := []) (Wc' := wM_ m0 m_g m_kept m_spare m_was m_text m_told cI mg48 mk49 ms50 mh51 mw52 mw53 ma54 mt55 mt56 ml57 ms58 mv59 me60 mt61 mt62) (W2 := wM_ m0 m_g m_kept m_spare m_was m_text m_told cI mg48 mk49 ms50 mh51 mw52 mw53 ma54 mt55 mt56 ml57 ms58 mv59 me60 mt61 mt62) hP hD [0, 1, 2, 3, 4, 5, 6] [] [0, 1, 2, 3, 4, 5, 6] rfl rfl (by decide) (by decide) (by decide) hk1 hFc hB ht rfl
          refine lv_iload_n hx hb dX6_loadRows_72 rfl (lv_at hl 0 rfl) ?_
          have hR := Option.some.inj hf
          subst hR
          exact W.iret (v := l2) hx hb hr (fun t ht hW => ⟨⟨l2, (), rfl, rfl, by rw [ht]; exact hP, va_K.moved hW.alike hK, hD⟩, hS.F ht⟩) hS.2.2 dX6_loadRows_73
        · have hf := ite_F c47 hf
          refine lv_aload_n hx hb dX6_loadRows_36 rfl (lv_at hl 1 rfl) ?_
          refine va_get (D := (dC, dI)) (ci := 8) (v := .ref m_g) (C := RX6) (T := TX6) (N := 15) hx hb hts inX6_ hown hK hP 0 rfl rfl 0 (by decide) fl7_ (fun _ h9 => h9) rfl dX6_loadRows_37 ?_
          refine lv_iconst (v := 2) hx hb dX6_loadRows_40 (by decide) ?_
          obtain ⟨h67, hf⟩ := gd_T hf
          refine va_iald hx hb hK hP 1 0 rfl rfl h67 dX6_loadRows_41 ?_
          refine lv_if_le (tgt := 68) hx hb dX6_loadRows_42 (by decide) (fun c68 => ?_) (fun c68 => ?_)
          · have hf := ite_T c68 hf
            refine lv_aload_n hx hb dX6_loadRows_68 rfl (lv_at hl 1 rfl) ?_
            obtain ⟨R84, g85, hf⟩ := bd_B hf
            obtain ⟨mg69, mk70, ms71, mh72, mw73, mw74, ma75, mt76, mt77, ml78, ms79, mv80, me81, mt82, mt83⟩ := R84
            dsimp only at hf
            have hPc := hP
            have hDc := hD
            have hFc := va_free (wc := wM_ m0 m_g m_kept m_spare m_was m_text m_told cI mg mkept mspare mhasKept mwas mwasMany manew mthrown mtext mlength mspot mvalue merror mtold mtolds) hD hS hA [0, 1, 2, 3, 4, 5, 6] rfl
            refine va_callv (va_runV (As := []) (rest := []) ⟨hx, hb, hml, hown, hts⟩ (c_X6_ends l dC dI cI cZ cC cJ cD m0 m_g m_kept m_spare m_was m_text m_told H46.size mg mkept mspare mhasKept mwas mwasMany manew mthrown mtext mlength mspot mvalue merror mtold mtolds (mg69, mk70, ms71, mh72, mw73, mw74, ma75, mt76, mt77, ml78, ms79, mv80, me81, mt82, mt83) g85) (cwV 0 hts gX6_loadRows_X6_ends rfl rfl rfl hs_X6_ends ⟨Nat.le_of_ble_eq_true rfl, Nat.le_of_ble_eq_true rfl⟩) (preV_ (ci := 8) (q0 := 0) hPc hK hDc rfl rfl rfl rfl) rfl rfl hl.1 rfl (lv_room (Nat.le_of_ble_eq_true rfl)) dX6_loadRows_69 ⟨Nat.le_of_ble_eq_true rfl, Nat.le_of_ble_eq_true rfl⟩) hS (fun q _ h => hFc q h) hFc (fun u t H86 locs ht hvm hw hB hz1 hk1 hS => ?_)
            obtain ⟨hP, hD⟩ := aft_ (Wr := []) (Wc' := wM_ m0 m_g m_kept m_spare m_was m_text m_told cI mg69 mk70 ms71 mh72 mw73 mw74 ma75 mt76 mt77 ml78 ms79 mv80 me81 mt82 mt83) (W2 := wM_ m0 m_g m_kept m_spare m_was m_text m_told cI mg69 mk70 ms71 mh72 mw73 mw74 ma75 mt76 mt77 ml78 ms79 mv80 me81 mt82 mt83) hP hD [0, 1, 2, 3, 4, 5, 6] [] [0, 1, 2, 3, 4, 5, 6] rfl rfl (by decide) (by decide) (by decide) hk1 hFc hB ht rfl
            refine lv_iload_n hx hb dX6_loadRows_72 rfl (lv_at hl 0 rfl) ?_
            have hR := Option.some.inj hf
            subst hR
            exact W.iret (v := l2) hx hb hr (fun t ht hW => ⟨⟨l2, (), rfl, rfl, by rw [ht]; exact hP, va_K.moved hW.alike hK, hD⟩, hS.F ht⟩) hS.2.2 dX6_loadRows_73
          · have hf := ite_F c68 hf
            refine lv_aload_n hx hb dX6_loadRows_45 rfl (lv_at hl 1 rfl) ?_
            obtain ⟨R104, g105, hf⟩ := bd_B hf
            obtain ⟨r88, ⟨mg89, mk90, ms91, mh92, mw93, mw94, ma95, mt96, mt97, ml98, ms99, mv100, me101, mt102, mt103⟩⟩ := R104
            dsimp only at hf
            have hPc := hP
            have hDc := hD
            have hFc := va_free (wc := wM_ m0 m_g m_kept m_spare m_was m_text m_told cI mg mkept mspare mhasKept mwas mwasMany manew mthrown mtext mlength mspot mvalue merror mtold mtolds) hD hS hA [0, 1, 2, 3, 4, 5, 6] rfl
            refine va_calli (va_runV (As := []) (rest := []) ⟨hx, hb, hml, hown, hts⟩ (c_X6_loads l dC dI cI cZ cC cJ cD m0 m_g m_kept m_spare m_was m_text m_told H46.size mg mkept mspare mhasKept mwas mwasMany manew mthrown mtext mlength mspot mvalue merror mtold mtolds (r88, (mg89, mk90, ms91, mh92, mw93, mw94, ma95, mt96, mt97, ml98, ms99, mv100, me101, mt102, mt103)) g105) (cwV 0 hts gX6_loadRows_X6_loads rfl rfl rfl hs_X6_loads ⟨Nat.le_of_ble_eq_true rfl, Nat.le_of_ble_eq_true rfl⟩) (preV_ (ci := 8) (q0 := 0) hPc hK hDc rfl rfl rfl rfl) rfl rfl hl.1 rfl (lv_room (Nat.le_of_ble_eq_true rfl)) dX6_loadRows_46 ⟨Nat.le_of_ble_eq_true rfl, Nat.le_of_ble_eq_true rfl⟩) hS (fun q _ h => hFc q h) hFc (fun z107 u t H106 locs ht hvm hw hB hz1 hk1 hS => ?_)
            have hw : r88 = z107 := hw.symm
            subst hw
            obtain ⟨hP, hD⟩ := aft_ (Wr := []) (Wc' := wM_ m0 m_g m_kept m_spare m_was m_text m_told cI mg89 mk90 ms91 mh92 mw93 mw94 ma95 mt96 mt97 ml98 ms99 mv100 me101 mt102 mt103) (W2 := wM_ m0 m_g m_kept m_spare m_was m_text m_told cI mg89 mk90 ms91 mh92 mw93 mw94 ma95 mt96 mt97 ml98 ms99 mv100 me101 mt102 mt103) hP hD [0, 1, 2, 3, 4, 5, 6] [] [0, 1, 2, 3, 4, 5, 6] rfl rfl (by decide) (by decide) (by decide) hk1 hFc hB ht rfl
            refine lv_if_ne (tgt := 62) hx hb dX6_loadRows_49 (by decide) (fun c108 => ?_) (fun c108 => ?_)
            · have hf := ite_F c108 hf
              refine lv_iinc (v := l2 + 1) (lv' := [(2, .int (l2 + 1)), (0, .ref m0), (1, .int l1)]) hx hb dX6_loadRows_62 hl (k := 0) rfl (by first | rfl | decide) (by decide) rfl (fun ls hl => ?_)
              refine lv_goto (tgt := 31) hx hb dX6_loadRows_65 (by decide) ?_
              exact ih (l2 + 1) l1 mg89 mk90 ms91 mh92 mw93 mw94 ma95 mt96 mt97 ml98 ms99 mv100 me101 mt102 mt103 _ _ _ hf hP hD hS (lv_sub hl [0, 1, 2] rfl)
            · have hf := ite_T c108 hf
              refine lv_aload_n hx hb dX6_loadRows_52 rfl (lv_at hl 1 rfl) ?_
              obtain ⟨R124, g125, hf⟩ := bd_B hf
              obtain ⟨mg109, mk110, ms111, mh112, mw113, mw114, ma115, mt116, mt117, ml118, ms119, mv120, me121, mt122, mt123⟩ := R124
              dsimp only at hf
              have hPc := hP
              have hDc := hD
              have hFc := va_free (wc := wM_ m0 m_g m_kept m_spare m_was m_text m_told cI mg89 mk90 ms91 mh92 mw93 mw94 ma95 mt96 mt97 ml98 ms99 mv100 me101 mt102 mt103) hD hS hA [0, 1, 2, 3, 4, 5, 6] rfl
              refine va_callv (va_runV (As := []) (rest := []) ⟨hx, hb, hml, hown, hts⟩ (c_X6_goesBack l dC dI cI cZ cC cJ cD m0 m_g m_kept m_spare m_was m_text m_told H106.size mg89 mk90 ms91 mh92 mw93 mw94 ma95 mt96 mt97 ml98 ms99 mv100 me101 mt102 mt103 (mg109, mk110, ms111, mh112, mw113, mw114, ma115, mt116, mt117, ml118, ms119, mv120, me121, mt122, mt123) g125) (cwV 0 hts gX6_loadRows_X6_goesBack rfl rfl rfl hs_X6_goesBack ⟨Nat.le_of_ble_eq_true rfl, Nat.le_of_ble_eq_true rfl⟩) (preV_ (ci := 8) (q0 := 0) hPc hK hDc rfl rfl rfl rfl) rfl rfl hl.1 rfl (lv_room (Nat.le_of_ble_eq_true rfl)) dX6_loadRows_53 ⟨Nat.le_of_ble_eq_true rfl, Nat.le_of_ble_eq_true rfl⟩) hS (fun q _ h => hFc q h) hFc (fun u t H126 locs ht hvm hw hB hz1 hk1 hS => ?_)
              obtain ⟨hP, hD⟩ := aft_ (Wr := []) (Wc' := wM_ m0 m_g m_kept m_spare m_was m_text m_told cI mg109 mk110 ms111 mh112 mw113 mw114 ma115 mt116 mt117 ml118 ms119 mv120 me121 mt122 mt123) (W2 := wM_ m0 m_g m_kept m_spare m_was m_text m_told cI mg109 mk110 ms111 mh112 mw113 mw114 ma115 mt116 mt117 ml118 ms119 mv120 me121 mt122 mt123) hP hD [0, 1, 2, 3, 4, 5, 6] [] [0, 1, 2, 3, 4, 5, 6] rfl rfl (by decide) (by decide) (by decide) hk1 hFc hB ht rfl
              refine lv_aload_n hx hb dX6_loadRows_56 rfl (lv_at hl 1 rfl) ?_
              refine lv_iconst (v := 2) hx hb dX6_loadRows_57 (by decide) ?_
              obtain ⟨R144, g145, hf⟩ := bd_B hf
              obtain ⟨r128, ⟨mg129, mk130, ms131, mh132, mw133, mw134, ma135, mt136, mt137, ml138, ms139, mv140, me141, mt142, mt143⟩⟩ := R144
              dsimp only at hf
              have hPc := hP
              have hDc := hD
              have hFc := va_free (wc := wM_ m0 m_g m_kept m_spare m_was m_text m_told cI mg109 mk110 ms111 mh112 mw113 mw114 ma115 mt116 mt117 ml118 ms119 mv120 me121 mt122 mt123) hD hS hA [0, 1, 2, 3, 4, 5, 6] rfl
              refine va_calli (va_runV (As := [.int 2]) (rest := []) ⟨hx, hb, hml, hown, hts⟩ (c_X6_fails l dC dI cI cZ cC cJ cD m0 m_g m_kept m_spare m_was m_text m_told H126.size mg109 mk110 ms111 mh112 mw113 mw114 ma115 mt116 mt117 ml118 ms119 mv120 me121 mt122 mt123 (2 : Int32) (r128, (mg129, mk130, ms131, mh132, mw133, mw134, ma135, mt136, mt137, ml138, ms139, mv140, me141, mt142, mt143)) g145) (cwV 1 hts gX6_loadRows_X6_fails rfl rfl rfl hs_X6_fails ⟨Nat.le_of_ble_eq_true rfl, Nat.le_of_ble_eq_true rfl⟩) (preV_ (ci := 8) (q0 := 0) hPc hK hDc rfl rfl rfl rfl) rfl rfl hl.1 rfl (lv_room (Nat.le_of_ble_eq_true rfl)) dX6_loadRows_58 ⟨Nat.le_of_ble_eq_true rfl, Nat.le_of_ble_eq_true rfl⟩) hS (fun q _ h => hFc q h) hFc (fun z147 u t H146 locs ht hvm hw hB hz1 hk1 hS => ?_)
              have hw : r128 = z147 := hw.symm
              subst hw
              obtain ⟨hP, hD⟩ := aft_ (Wr := []) (Wc' := wM_ m0 m_g m_kept m_spare m_was m_text m_told cI mg129 mk130 ms131 mh132 mw133 mw134 ma135 mt136 mt137 ml138 ms139 mv140 me141 mt142 mt143) (W2 := wM_ m0 m_g m_kept m_spare m_was m_text m_told cI mg129 mk130 ms131 mh132 mw133 mw134 ma135 mt136 mt137 ml138 ms139 mv140 me141 mt142 mt143) hP hD [0, 1, 2, 3, 4, 5, 6] [] [0, 1, 2, 3, 4, 5, 6] rfl rfl (by decide) (by decide) (by decide) hk1 hFc hB ht rfl
              have hR := Option.some.inj hf
              subst hR
              exact W.iret (v := r128) hx hb hr (fun t ht hW => ⟨⟨r128, (), rfl, rfl, by rw [ht]; exact hP, va_K.moved hW.alike hK, hD⟩, hS.F ht⟩) hS.2.2 dX6_loadRows_61
    exact lp31 fu_ (0 : Int32) a1 mg27 mk28 ms29 mh30 mw31 mw32 ma33 mt34 mt35 ml36 ms37 mv38 me39 mt40 mt41 _ _ _ hf hP hD hS hl
  · have hf := ite_T c7 hf
    refine lv_aload_n hx hb dX6_loadRows_15 rfl (lv_at hl 0 rfl) ?_
    refine lv_iconst (v := 1) hx hb dX6_loadRows_16 (by decide) ?_
    obtain ⟨R164, g165, hf⟩ := bd_B hf
    obtain ⟨r148, ⟨mg149, mk150, ms151, mh152, mw153, mw154, ma155, mt156, mt157, ml158, ms159, mv160, me161, mt162, mt163⟩⟩ := R164
    dsimp only at hf
    have hPc := hP
    have hDc := hD
    have hFc := va_free (wc := wM_ m0 m_g m_kept m_spare m_was m_text m_told cI mg mkept mspare mhasKept mwas mwasMany manew 0 mtext mlength mspot mvalue merror mtold mtolds) hD hS hA [0, 1, 2, 3, 4, 5, 6] rfl
    refine va_calli (va_runV (As := [.int 1]) (rest := []) ⟨hx, hb, hml, hown, hts⟩ (c_X6_fails l dC dI cI cZ cC cJ cD m0 m_g m_kept m_spare m_was m_text m_told H5.size mg mkept mspare mhasKept mwas mwasMany manew (0 : Int32) mtext mlength mspot mvalue merror mtold mtolds (1 : Int32) (r148, (mg149, mk150, ms151, mh152, mw153, mw154, ma155, mt156, mt157, ml158, ms159, mv160, me161, mt162, mt163)) g165) (cwV 1 hts gX6_loadRows_X6_fails rfl rfl rfl hs_X6_fails ⟨Nat.le_of_ble_eq_true rfl, Nat.le_of_ble_eq_true rfl⟩) (preV_ (ci := 8) (q0 := 0) hPc hK hDc rfl rfl rfl rfl) rfl rfl hl.1 rfl (lv_room (Nat.le_of_ble_eq_true rfl)) dX6_loadRows_17 ⟨Nat.le_of_ble_eq_true rfl, Nat.le_of_ble_eq_true rfl⟩) hS (fun q _ h => hFc q h) hFc (fun z167 u t H166 locs ht hvm hw hB hz1 hk1 hS => ?_)
    have hw : r148 = z167 := hw.symm
    subst hw
    obtain ⟨hP, hD⟩ := aft_ (Wr := []) (Wc' := wM_ m0 m_g m_kept m_spare m_was m_text m_told cI mg149 mk150 ms151 mh152 mw153 mw154 ma155 mt156 mt157 ml158 ms159 mv160 me161 mt162 mt163) (W2 := wM_ m0 m_g m_kept m_spare m_was m_text m_told cI mg149 mk150 ms151 mh152 mw153 mw154 ma155 mt156 mt157 ml158 ms159 mv160 me161 mt162 mt163) hP hD [0, 1, 2, 3, 4, 5, 6] [] [0, 1, 2, 3, 4, 5, 6] rfl rfl (by decide) (by decide) (by decide) hk1 hFc hB ht rfl
    have hR := Option.some.inj hf
    subst hR
    exact W.iret (v := r148) hx hb hr (fun t ht hW => ⟨⟨r148, (), rfl, rfl, by rw [ht]; exact hP, va_K.moved hW.alike hK, hD⟩, hS.F ht⟩) hS.2.2 dX6_loadRows_20
theorem hs_X6_loadRows : yX6_loadRows.cls = RX6 ∧ yX6_loadRows.cls ≠ "java/lang/invoke/MethodHandle" ∧ yX6_loadRows.cls ≠ "java/lang/invoke/VarHandle" ∧ (parseMethodDescriptor yX6_loadRows.desc).map (fun d => d.parameters.length) = some 1 := by decide +kernel
set_option maxRecDepth 20000 in
theorem in_X6_append_X6 : ∀ w ∈ wsX60, w ∈ wsX6_append := by decide +kernel
def f_X6_append (a1 : Int32) (M_ : tM_) : Option (Int32 × tM_) :=
match M_ with
| (mg, mkept, mspare, mhasKept, mwas, mwasMany, manew, mthrown, mtext, mlength, mspot, mvalue, merror, mtold, mtolds) =>
bd_ (f_X6_in a1 (32 : Int32) (126 : Int32)) (fun r1 =>
if r1 = 0 then
some ((0 : Int32), (mg, mkept, mspare, mhasKept, mwas, mwasMany, manew, 1, mtext, mlength, mspot, mvalue, merror, mtold, mtolds))
else
if mlength = 30 then
some ((0 : Int32), (mg, mkept, mspare, mhasKept, mwas, mwasMany, manew, 2, mtext, mlength, mspot, mvalue, merror, mtold, mtolds))
else
gd_ mlength 30 (nm_ (upd mtext mlength.toNatClampNeg a1) (fun u12 =>
some (mlength + 1, (mg, mkept, mspare, mhasKept, mwas, mwasMany, manew, 0, u12, mlength + 1, mspot, mvalue, merror, mtold, mtolds)))))
abbrev rm_X6_append : Room := { frames := 1, cells := 0, slots := 0, locals := 22 }
set_option maxHeartbeats 4000000 in
set_option maxRecDepth 100000 in
theorem c_X6_append (l : Launch) (dC : Nat → ClassId) (dI : Nat → Nat → Nat) (cI cZ cC cJ cD : ClassId) (m0 m_g m_kept m_spare m_was m_text m_told : Nat) (sz : Nat) (mg : Nat → Int32) (mkept : Nat → Int32) (mspare : Nat → Int32) (mhasKept : Int32) (mwas : Nat → Int32) (mwasMany : Int32) (manew : Int32) (mthrown : Int32) (mtext : Nat → Int32) (mlength : Int32) (mspot : Int32) (mvalue : Int32) (merror : Int32) (mtold : Nat → Int32) (mtolds : Int32) (a1 : Int32) (R : Int32 × tM_) (hf : f_X6_append a1 (mg, mkept, mspare, mhasKept, mwas, mwasMany, manew, mthrown, mtext, mlength, mspot, mvalue, merror, mtold, mtolds) = some R) : Met l yX6_append wsX6_append rm_X6_append (Pc_ (dC, dI) (ty_ cI cZ cC cJ cD) (wM_ m0 m_g m_kept m_spare m_was m_text m_told cI mg mkept mspare mhasKept mwas mwasMany manew mthrown mtext mlength mspot mvalue merror mtold mtolds) sz [.ref m0, .int a1]) (Qi_ (dC, dI) (ty_ cI cZ cC cJ cD) R.1 (wM_ m0 m_g m_kept m_spare m_was m_text m_told cI R.2.1 R.2.2.1 R.2.2.2.1 R.2.2.2.2.1 R.2.2.2.2.2.1 R.2.2.2.2.2.2.1 R.2.2.2.2.2.2.2.1 R.2.2.2.2.2.2.2.2.1 R.2.2.2.2.2.2.2.2.2.1 R.2.2.2.2.2.2.2.2.2.2.1 R.2.2.2.2.2.2.2.2.2.2.2.1 R.2.2.2.2.2.2.2.2.2.2.2.2.1 R.2.2.2.2.2.2.2.2.2.2.2.2.2.1 R.2.2.2.2.2.2.2.2.2.2.2.2.2.2.1 R.2.2.2.2.2.2.2.2.2.2.2.2.2.2.2) (va_A (wM_ m0 m_g m_kept m_spare m_was m_text m_told cI mg mkept mspare mhasKept mwas mwasMany manew mthrown mtext mlength mspot mvalue merror mtold mtolds) sz)) 0 0 (va_A (wM_ m0 m_g m_kept m_spare m_was m_text m_told cI mg mkept mspare mhasKept mwas mwasMany manew mthrown mtext mlength mspot mvalue merror mtold mtolds) sz) := by
  refine met_ (cc := cX6_append) (maxL := 2) (ret := (some .int)) (Qcf := fun A => Qi_ (dC, dI) (ty_ cI cZ cC cJ cD) R.1 (wM_ m0 m_g m_kept m_spare m_was m_text m_told cI R.2.1 R.2.2.1 R.2.2.2.1 R.2.2.2.2.1 R.2.2.2.2.2.1 R.2.2.2.2.2.2.1 R.2.2.2.2.2.2.2.1 R.2.2.2.2.2.2.2.2.1 R.2.2.2.2.2.2.2.2.2.1 R.2.2.2.2.2.2.2.2.2.2.1 R.2.2.2.2.2.2.2.2.2.2.2.1 R.2.2.2.2.2.2.2.2.2.2.2.2.1 R.2.2.2.2.2.2.2.2.2.2.2.2.2.1 R.2.2.2.2.2.2.2.2.2.2.2.2.2.2.1 R.2.2.2.2.2.2.2.2.2.2.2.2.2.2.2) A) (by decide) rfl (Nat.le_of_ble_eq_true rfl) ?_
  intro p e s m args below meth c A ls hx hb hr hts hown hlocks hml hA hP hK hD hl
  have hown : s.vm.findClass RX6 = some m.cls := hown
  have hl : lv_has ls 2 [(0, .ref m0), (1, .int a1)] := hl
  have hS : va_S A s.heap s.heap [] := va_S.rf
  have fl22_ : (Cond.fieldLink RX6 22 "DimensionLoaderModel" "text" "[I").before args s = true := hts _ (List.mem_of_getElem? (i := 3) rfl)
  have fl32_ : (Cond.fieldLink RX6 32 "DimensionLoaderModel" "thrown" "I").before args s = true := hts _ (List.mem_of_getElem? (i := 2) rfl)
  have fl141_ : (Cond.fieldLink RX6 141 "DimensionLoaderModel" "length" "I").before args s = true := hts _ (List.mem_of_getElem? (i := 1) rfl)
  have inX6_ : ∀ w ∈ wsX60, w ∈ wsX6_append := in_X6_append_X6
  unfold f_X6_append at hf
  dsimp only at hf
  refine lv_aload_n hx hb dX6_append_0 rfl (lv_at hl 0 rfl) ?_
  refine lv_iload_n hx hb dX6_append_1 rfl (lv_at hl 1 rfl) ?_
  refine lv_bipush (v := 32) hx hb dX6_append_2 (by decide) ?_
  refine lv_bipush (v := 126) hx hb dX6_append_4 (by decide) ?_
  obtain ⟨R2, g3, hf⟩ := bd_B hf
  obtain ⟨r1, rfl⟩ : ∃ z, z = R2 := ⟨_, rfl⟩
  have hPc := hP.sub (ws' := []) [] rfl
  have hDc := hD.sub (ws' := []) [] (by decide) rfl
  have hFc := va_free (wc := []) hD hS hA [] rfl
  refine va_calli (va_runS (As := [.int a1, .int 32, .int 126]) (rest := [.ref m0]) ⟨hx, hb, hml, hown, hts⟩ (c_X6_in l dC dI cI cZ cC cJ cD s.heap.size a1 (32 : Int32) (126 : Int32) r1 g3) (cwS 3 hts gX6_append_X6_in rfl rfl rfl hs_X6_in ⟨Nat.le_of_ble_eq_true rfl, Nat.le_of_ble_eq_true rfl⟩) (preS_ hPc hK hDc rfl) rfl rfl hl.1 rfl (lv_room (Nat.le_of_ble_eq_true rfl)) dX6_append_6 ⟨Nat.le_of_ble_eq_true rfl, Nat.le_of_ble_eq_true rfl⟩) hS (fun q _ h => hFc q h) hFc (fun z5 u t H4 locs ht hvm hw hB hz1 hk1 hS => ?_)
  have hw : r1 = z5 := hw.symm
  subst hw
  obtain ⟨hP, hD⟩ := aft_ (Wr := wM_ m0 m_g m_kept m_spare m_was m_text m_told cI mg mkept mspare mhasKept mwas mwasMany manew mthrown mtext mlength mspot mvalue merror mtold mtolds) (Wc' := []) (W2 := wM_ m0 m_g m_kept m_spare m_was m_text m_told cI mg mkept mspare mhasKept mwas mwasMany manew mthrown mtext mlength mspot mvalue merror mtold mtolds) hP hD [] [0, 1, 2, 3, 4, 5, 6] [0, 1, 2, 3, 4, 5, 6] rfl rfl (by decide) (by decide) (by decide) hk1 hFc hB ht rfl
  refine lv_if_eq (tgt := 29) hx hb dX6_append_9 (by decide) (fun c6 => ?_) (fun c6 => ?_)
  · have hf := ite_T c6 hf
    refine lv_iconst (v := 1) hx hb dX6_append_29 (by decide) ?_
    refine va_put (D := (dC, dI)) (ci := 8) (v := .int 1) (ty := .int) (C := RX6) (T := TX6) (N := 15) hx hb hts inX6_ tyX6 tyX6_ok nmX6 hown hK hP hD hS 0 rfl rfl 7 (by decide) fl32_ (fun _ h9 => h9) rfl (by decide +kernel) (by first | rfl | decide) (by first | rfl | decide) (Nat.le_of_ble_eq_true rfl) dX6_append_30 (fun H7 locs hP hD hS => ?_)
    have hP : va_P (dC, dI) vwCl (wM_ m0 m_g m_kept m_spare m_was m_text m_told cI mg mkept mspare mhasKept mwas mwasMany manew 1 mtext mlength mspot mvalue merror mtold mtolds) H7 := hP
    have hD : va_D A (wM_ m0 m_g m_kept m_spare m_was m_text m_told cI mg mkept mspare mhasKept mwas mwasMany manew 1 mtext mlength mspot mvalue merror mtold mtolds) := hD
    refine lv_aload_n hx hb dX6_append_33 rfl (lv_at hl 0 rfl) ?_
    refine va_get (D := (dC, dI)) (ci := 8) (v := .int 1) (C := RX6) (T := TX6) (N := 15) hx hb hts inX6_ hown hK hP 0 rfl rfl 7 (by decide) fl32_ (fun _ h9 => h9) rfl dX6_append_34 ?_
    refine lv_if_le (tgt := 42) hx hb dX6_append_37 (by decide) (fun c9 => absurd c9 (by decide)) (fun _ => ?_)
    refine lv_iconst (v := 0) hx hb dX6_append_40 (by decide) ?_
    have hR := Option.some.inj hf
    subst hR
    exact W.iret (v := (0 : Int32)) hx hb hr (fun t ht hW => ⟨⟨(0 : Int32), (), rfl, rfl, by rw [ht]; exact hP, va_K.moved hW.alike hK, hD⟩, hS.F ht⟩) hS.2.2 dX6_append_41
  · have hf := ite_F c6 hf
    refine lv_aload_n hx hb dX6_append_12 rfl (lv_at hl 0 rfl) ?_
    refine va_get (D := (dC, dI)) (ci := 8) (v := .int mlength) (C := RX6) (T := TX6) (N := 15) hx hb hts inX6_ hown hK hP 0 rfl rfl 9 (by decide) fl141_ (fun _ h9 => h9) rfl dX6_append_13 ?_
    refine lv_bipush (v := 30) hx hb dX6_append_16 (by decide) ?_
    refine lv_icmp_ne (tgt := 25) hx hb dX6_append_18 (by decide) (fun c8 => ?_) (fun c8 => ?_)
    · have hf := ite_F c8 hf
      refine lv_iconst (v := 0) hx hb dX6_append_25 (by decide) ?_
      refine lv_goto (tgt := 30) hx hb dX6_append_26 (by decide) ?_
      refine va_put (D := (dC, dI)) (ci := 8) (v := .int 0) (ty := .int) (C := RX6) (T := TX6) (N := 15) hx hb hts inX6_ tyX6 tyX6_ok nmX6 hown hK hP hD hS 0 rfl rfl 7 (by decide) fl32_ (fun _ h9 => h9) rfl (by decide +kernel) (by first | rfl | decide) (by first | rfl | decide) (Nat.le_of_ble_eq_true rfl) dX6_append_30 (fun H9 locs hP hD hS => ?_)
      have hP : va_P (dC, dI) vwCl (wM_ m0 m_g m_kept m_spare m_was m_text m_told cI mg mkept mspare mhasKept mwas mwasMany manew 0 mtext mlength mspot mvalue merror mtold mtolds) H9 := hP
      have hD : va_D A (wM_ m0 m_g m_kept m_spare m_was m_text m_told cI mg mkept mspare mhasKept mwas mwasMany manew 0 mtext mlength mspot mvalue merror mtold mtolds) := hD
      refine lv_aload_n hx hb dX6_append_33 rfl (lv_at hl 0 rfl) ?_
      refine va_get (D := (dC, dI)) (ci := 8) (v := .int 0) (C := RX6) (T := TX6) (N := 15) hx hb hts inX6_ hown hK hP 0 rfl rfl 7 (by decide) fl32_ (fun _ h9 => h9) rfl dX6_append_34 ?_
      refine lv_if_le (tgt := 42) hx hb dX6_append_37 (by decide) (fun _ => ?_) (fun c9 => absurd (by decide) c9)
      refine lv_aload_n hx hb dX6_append_42 rfl (lv_at hl 0 rfl) ?_
      refine va_get (D := (dC, dI)) (ci := 8) (v := .ref m_text) (C := RX6) (T := TX6) (N := 15) hx hb hts inX6_ hown hK hP 0 rfl rfl 8 (by decide) fl22_ (fun _ h9 => h9) rfl dX6_append_43 ?_
      refine lv_aload_n hx hb dX6_append_46 rfl (lv_at hl 0 rfl) ?_
      refine va_get (D := (dC, dI)) (ci := 8) (v := .int mlength) (C := RX6) (T := TX6) (N := 15) hx hb hts inX6_ hown hK hP 0 rfl rfl 9 (by decide) fl141_ (fun _ h9 => h9) rfl dX6_append_47 ?_
      refine lv_iload_n hx hb dX6_append_50 rfl (lv_at hl 1 rfl) ?_
      obtain ⟨h10, hf⟩ := gd_T hf
      refine va_iast hx hb hK hP hD hS 5 0 rfl rfl h10 dX6_append_51 (fun H11 locs hP hD hS => ?_)
      have hP : va_P (dC, dI) vwCl (wM_ m0 m_g m_kept m_spare m_was m_text m_told cI mg mkept mspare mhasKept mwas mwasMany manew 0 (upd mtext mlength.toNatClampNeg a1) mlength mspot mvalue merror mtold mtolds) H11 := hP
      have hD : va_D A (wM_ m0 m_g m_kept m_spare m_was m_text m_told cI mg mkept mspare mhasKept mwas mwasMany manew 0 (upd mtext mlength.toNatClampNeg a1) mlength mspot mvalue merror mtold mtolds) := hD
      obtain ⟨u12, e13, hf⟩ := nm_T hf
      rw [← e13] at hP hD
      refine lv_aload_n hx hb dX6_append_52 rfl (lv_at hl 0 rfl) ?_
      refine lv_dup hx hb dX6_append_53 rfl ?_
      refine va_get (D := (dC, dI)) (ci := 8) (v := .int mlength) (C := RX6) (T := TX6) (N := 15) hx hb hts inX6_ hown hK hP 0 rfl rfl 9 (by decide) fl141_ (fun _ h9 => h9) rfl dX6_append_54 ?_
      refine lv_iconst (v := 1) hx hb dX6_append_57 (by decide) ?_
      refine lv_iadd hx hb dX6_append_58 ?_
      refine va_put (D := (dC, dI)) (ci := 8) (v := .int (mlength + 1)) (ty := .int) (C := RX6) (T := TX6) (N := 15) hx hb hts inX6_ tyX6 tyX6_ok nmX6 hown hK hP hD hS 0 rfl rfl 9 (by decide) fl141_ (fun _ h9 => h9) rfl (by decide +kernel) (by first | rfl | decide) (by first | rfl | decide) (Nat.le_of_ble_eq_true rfl) dX6_append_59 (fun H14 locs hP hD hS => ?_)
      have hP : va_P (dC, dI) vwCl (wM_ m0 m_g m_kept m_spare m_was m_text m_told cI mg mkept mspare mhasKept mwas mwasMany manew 0 u12 (mlength + 1) mspot mvalue merror mtold mtolds) H14 := hP
      have hD : va_D A (wM_ m0 m_g m_kept m_spare m_was m_text m_told cI mg mkept mspare mhasKept mwas mwasMany manew 0 u12 (mlength + 1) mspot mvalue merror mtold mtolds) := hD
      refine lv_aload_n hx hb dX6_append_62 rfl (lv_at hl 0 rfl) ?_
      refine va_get (D := (dC, dI)) (ci := 8) (v := .int (mlength + 1)) (C := RX6) (T := TX6) (N := 15) hx hb hts inX6_ hown hK hP 0 rfl rfl 9 (by decide) fl141_ (fun _ h9 => h9) rfl dX6_append_63 ?_
      have hR := Option.some.inj hf
      subst hR
      exact W.iret (v := mlength + 1) hx hb hr (fun t ht hW => ⟨⟨mlength + 1, (), rfl, rfl, by rw [ht]; exact hP, va_K.moved hW.alike hK, hD⟩, hS.F ht⟩) hS.2.2 dX6_append_66
    · have hf := ite_T c8 hf
      refine lv_iconst (v := 2) hx hb dX6_append_21 (by decide) ?_
      refine lv_goto (tgt := 30) hx hb dX6_append_22 (by decide) ?_
      refine va_put (D := (dC, dI)) (ci := 8) (v := .int 2) (ty := .int) (C := RX6) (T := TX6) (N := 15) hx hb hts inX6_ tyX6 tyX6_ok nmX6 hown hK hP hD hS 0 rfl rfl 7 (by decide) fl32_ (fun _ h9 => h9) rfl (by decide +kernel) (by first | rfl | decide) (by first | rfl | decide) (Nat.le_of_ble_eq_true rfl) dX6_append_30 (fun H15 locs hP hD hS => ?_)
      have hP : va_P (dC, dI) vwCl (wM_ m0 m_g m_kept m_spare m_was m_text m_told cI mg mkept mspare mhasKept mwas mwasMany manew 2 mtext mlength mspot mvalue merror mtold mtolds) H15 := hP
      have hD : va_D A (wM_ m0 m_g m_kept m_spare m_was m_text m_told cI mg mkept mspare mhasKept mwas mwasMany manew 2 mtext mlength mspot mvalue merror mtold mtolds) := hD
      refine lv_aload_n hx hb dX6_append_33 rfl (lv_at hl 0 rfl) ?_
      refine va_get (D := (dC, dI)) (ci := 8) (v := .int 2) (C := RX6) (T := TX6) (N := 15) hx hb hts inX6_ hown hK hP 0 rfl rfl 7 (by decide) fl32_ (fun _ h9 => h9) rfl dX6_append_34 ?_
      refine lv_if_le (tgt := 42) hx hb dX6_append_37 (by decide) (fun c9 => absurd c9 (by decide)) (fun _ => ?_)
      refine lv_iconst (v := 0) hx hb dX6_append_40 (by decide) ?_
      have hR := Option.some.inj hf
      subst hR
      exact W.iret (v := (0 : Int32)) hx hb hr (fun t ht hW => ⟨⟨(0 : Int32), (), rfl, rfl, by rw [ht]; exact hP, va_K.moved hW.alike hK, hD⟩, hS.F ht⟩) hS.2.2 dX6_append_41
theorem hs_X6_append : yX6_append.cls = RX6 ∧ yX6_append.cls ≠ "java/lang/invoke/MethodHandle" ∧ yX6_append.cls ≠ "java/lang/invoke/VarHandle" ∧ (parseMethodDescriptor yX6_append.desc).map (fun d => d.parameters.length) = some 1 := by decide +kernel
set_option maxRecDepth 20000 in
theorem in_X6_here_X6 : ∀ w ∈ wsX60, w ∈ wsX6_here := by decide +kernel
def f_X6_here  (M_ : tM_) : Option (Int32) :=
match M_ with
| (mg, mkept, mspare, mhasKept, mwas, mwasMany, manew, mthrown, mtext, mlength, mspot, mvalue, merror, mtold, mtolds) =>
if mlength ≤ mspot then
some (-1 : Int32)
else
gd_ mspot 30 (
some (mtext mspot.toNatClampNeg))
abbrev rm_X6_here : Room := { frames := 0, cells := 0, slots := 0, locals := 0 }
set_option maxHeartbeats 4000000 in
set_option maxRecDepth 100000 in
theorem c_X6_here (l : Launch) (dC : Nat → ClassId) (dI : Nat → Nat → Nat) (cI cZ cC cJ cD : ClassId) (m0 m_g m_kept m_spare m_was m_text m_told : Nat) (sz : Nat) (mg : Nat → Int32) (mkept : Nat → Int32) (mspare : Nat → Int32) (mhasKept : Int32) (mwas : Nat → Int32) (mwasMany : Int32) (manew : Int32) (mthrown : Int32) (mtext : Nat → Int32) (mlength : Int32) (mspot : Int32) (mvalue : Int32) (merror : Int32) (mtold : Nat → Int32) (mtolds : Int32)  (R : Int32) (hf : f_X6_here  (mg, mkept, mspare, mhasKept, mwas, mwasMany, manew, mthrown, mtext, mlength, mspot, mvalue, merror, mtold, mtolds) = some R) : Met l yX6_here wsX6_here rm_X6_here (Pc_ (dC, dI) (ty_ cI cZ cC cJ cD) (wM_ m0 m_g m_kept m_spare m_was m_text m_told cI mg mkept mspare mhasKept mwas mwasMany manew mthrown mtext mlength mspot mvalue merror mtold mtolds) sz [.ref m0]) (Qi_ (dC, dI) (ty_ cI cZ cC cJ cD) R (wM_ m0 m_g m_kept m_spare m_was m_text m_told cI mg mkept mspare mhasKept mwas mwasMany manew mthrown mtext mlength mspot mvalue merror mtold mtolds) (va_A (wM_ m0 m_g m_kept m_spare m_was m_text m_told cI mg mkept mspare mhasKept mwas mwasMany manew mthrown mtext mlength mspot mvalue merror mtold mtolds) sz)) 0 0 (va_A (wM_ m0 m_g m_kept m_spare m_was m_text m_told cI mg mkept mspare mhasKept mwas mwasMany manew mthrown mtext mlength mspot mvalue merror mtold mtolds) sz) := by
  refine met_ (cc := cX6_here) (maxL := 1) (ret := (some .int)) (Qcf := fun A => Qi_ (dC, dI) (ty_ cI cZ cC cJ cD) R (wM_ m0 m_g m_kept m_spare m_was m_text m_told cI mg mkept mspare mhasKept mwas mwasMany manew mthrown mtext mlength mspot mvalue merror mtold mtolds) A) (by decide) rfl (Nat.le_of_ble_eq_true rfl) ?_
  intro p e s m args below meth c A ls hx hb hr hts hown hlocks hml hA hP hK hD hl
  have hown : s.vm.findClass RX6 = some m.cls := hown
  have hl : lv_has ls 1 [(0, .ref m0)] := hl
  have hS : va_S A s.heap s.heap [] := va_S.rf
  have fl22_ : (Cond.fieldLink RX6 22 "DimensionLoaderModel" "text" "[I").before args s = true := hts _ (List.mem_of_getElem? (i := 3) rfl)
  have fl141_ : (Cond.fieldLink RX6 141 "DimensionLoaderModel" "length" "I").before args s = true := hts _ (List.mem_of_getElem? (i := 2) rfl)
  have fl144_ : (Cond.fieldLink RX6 144 "DimensionLoaderModel" "spot" "I").before args s = true := hts _ (List.mem_of_getElem? (i := 1) rfl)
  have inX6_ : ∀ w ∈ wsX60, w ∈ wsX6_here := in_X6_here_X6
  unfold f_X6_here at hf
  dsimp only at hf
  refine lv_aload_n hx hb dX6_here_0 rfl (lv_at hl 0 rfl) ?_
  refine va_get (D := (dC, dI)) (ci := 8) (v := .int mspot) (C := RX6) (T := TX6) (N := 15) hx hb hts inX6_ hown hK hP 0 rfl rfl 10 (by decide) fl144_ (fun _ h9 => h9) rfl dX6_here_1 ?_
  refine lv_aload_n hx hb dX6_here_4 rfl (lv_at hl 0 rfl) ?_
  refine va_get (D := (dC, dI)) (ci := 8) (v := .int mlength) (C := RX6) (T := TX6) (N := 15) hx hb hts inX6_ hown hK hP 0 rfl rfl 9 (by decide) fl141_ (fun _ h9 => h9) rfl dX6_here_5 ?_
  refine lv_icmp_ge (tgt := 23) hx hb dX6_here_8 (by decide) (fun c1 => ?_) (fun c1 => ?_)
  · have hf := ite_T c1 hf
    refine lv_iconst (v := (-1)) hx hb dX6_here_23 (by decide) ?_
    have hR := Option.some.inj hf
    subst hR
    exact W.iret (v := (-1 : Int32)) hx hb hr (fun t ht hW => ⟨⟨(-1 : Int32), (), rfl, rfl, by rw [ht]; exact hP, va_K.moved hW.alike hK, hD⟩, hS.F ht⟩) hS.2.2 dX6_here_24
  · have hf := ite_F c1 hf
    refine lv_aload_n hx hb dX6_here_11 rfl (lv_at hl 0 rfl) ?_
    refine va_get (D := (dC, dI)) (ci := 8) (v := .ref m_text) (C := RX6) (T := TX6) (N := 15) hx hb hts inX6_ hown hK hP 0 rfl rfl 8 (by decide) fl22_ (fun _ h9 => h9) rfl dX6_here_12 ?_
    refine lv_aload_n hx hb dX6_here_15 rfl (lv_at hl 0 rfl) ?_
    refine va_get (D := (dC, dI)) (ci := 8) (v := .int mspot) (C := RX6) (T := TX6) (N := 15) hx hb hts inX6_ hown hK hP 0 rfl rfl 10 (by decide) fl144_ (fun _ h9 => h9) rfl dX6_here_16 ?_
    obtain ⟨h2, hf⟩ := gd_T hf
    refine va_iald hx hb hK hP 5 0 rfl rfl h2 dX6_here_19 ?_
    refine lv_goto (tgt := 24) hx hb dX6_here_20 (by decide) ?_
    have hR := Option.some.inj hf
    subst hR
    exact W.iret (v := mtext mspot.toNatClampNeg) hx hb hr (fun t ht hW => ⟨⟨mtext mspot.toNatClampNeg, (), rfl, rfl, by rw [ht]; exact hP, va_K.moved hW.alike hK, hD⟩, hS.F ht⟩) hS.2.2 dX6_here_24
theorem hs_X6_here : yX6_here.cls = RX6 ∧ yX6_here.cls ≠ "java/lang/invoke/MethodHandle" ∧ yX6_here.cls ≠ "java/lang/invoke/VarHandle" ∧ (parseMethodDescriptor yX6_here.desc).map (fun d => d.parameters.length) = some 0 := by decide +kernel
set_option maxRecDepth 20000 in
theorem in_X6_skips_X6 : ∀ w ∈ wsX60, w ∈ wsX6_skips := by decide +kernel
def f_X6_skips (a1 : Int32) (M_ : tM_) : Option (Int32 × tM_) :=
match M_ with
| (mg, mkept, mspare, mhasKept, mwas, mwasMany, manew, mthrown, mtext, mlength, mspot, mvalue, merror, mtold, mtolds) =>
bd_ (f_X6_here (mg, mkept, mspare, mhasKept, mwas, mwasMany, manew, mthrown, mtext, mlength, mspot, mvalue, merror, mtold, mtolds)) (fun r1 =>
if r1 = a1 then
some ((1 : Int32), (mg, mkept, mspare, mhasKept, mwas, mwasMany, manew, mthrown, mtext, mlength, mspot + 1, mvalue, merror, mtold, mtolds))
else
some ((0 : Int32), (mg, mkept, mspare, mhasKept, mwas, mwasMany, manew, mthrown, mtext, mlength, mspot, mvalue, merror, mtold, mtolds)))
abbrev rm_X6_skips : Room := { frames := 1, cells := 0, slots := 0, locals := 20 }
set_option maxHeartbeats 4000000 in
set_option maxRecDepth 100000 in
theorem c_X6_skips (l : Launch) (dC : Nat → ClassId) (dI : Nat → Nat → Nat) (cI cZ cC cJ cD : ClassId) (m0 m_g m_kept m_spare m_was m_text m_told : Nat) (sz : Nat) (mg : Nat → Int32) (mkept : Nat → Int32) (mspare : Nat → Int32) (mhasKept : Int32) (mwas : Nat → Int32) (mwasMany : Int32) (manew : Int32) (mthrown : Int32) (mtext : Nat → Int32) (mlength : Int32) (mspot : Int32) (mvalue : Int32) (merror : Int32) (mtold : Nat → Int32) (mtolds : Int32) (a1 : Int32) (R : Int32 × tM_) (hf : f_X6_skips a1 (mg, mkept, mspare, mhasKept, mwas, mwasMany, manew, mthrown, mtext, mlength, mspot, mvalue, merror, mtold, mtolds) = some R) : Met l yX6_skips wsX6_skips rm_X6_skips (Pc_ (dC, dI) (ty_ cI cZ cC cJ cD) (wM_ m0 m_g m_kept m_spare m_was m_text m_told cI mg mkept mspare mhasKept mwas mwasMany manew mthrown mtext mlength mspot mvalue merror mtold mtolds) sz [.ref m0, .int a1]) (Qi_ (dC, dI) (ty_ cI cZ cC cJ cD) R.1 (wM_ m0 m_g m_kept m_spare m_was m_text m_told cI R.2.1 R.2.2.1 R.2.2.2.1 R.2.2.2.2.1 R.2.2.2.2.2.1 R.2.2.2.2.2.2.1 R.2.2.2.2.2.2.2.1 R.2.2.2.2.2.2.2.2.1 R.2.2.2.2.2.2.2.2.2.1 R.2.2.2.2.2.2.2.2.2.2.1 R.2.2.2.2.2.2.2.2.2.2.2.1 R.2.2.2.2.2.2.2.2.2.2.2.2.1 R.2.2.2.2.2.2.2.2.2.2.2.2.2.1 R.2.2.2.2.2.2.2.2.2.2.2.2.2.2.1 R.2.2.2.2.2.2.2.2.2.2.2.2.2.2.2) (va_A (wM_ m0 m_g m_kept m_spare m_was m_text m_told cI mg mkept mspare mhasKept mwas mwasMany manew mthrown mtext mlength mspot mvalue merror mtold mtolds) sz)) 0 0 (va_A (wM_ m0 m_g m_kept m_spare m_was m_text m_told cI mg mkept mspare mhasKept mwas mwasMany manew mthrown mtext mlength mspot mvalue merror mtold mtolds) sz) := by
  refine met_ (cc := cX6_skips) (maxL := 2) (ret := (some .boolean)) (Qcf := fun A => Qi_ (dC, dI) (ty_ cI cZ cC cJ cD) R.1 (wM_ m0 m_g m_kept m_spare m_was m_text m_told cI R.2.1 R.2.2.1 R.2.2.2.1 R.2.2.2.2.1 R.2.2.2.2.2.1 R.2.2.2.2.2.2.1 R.2.2.2.2.2.2.2.1 R.2.2.2.2.2.2.2.2.1 R.2.2.2.2.2.2.2.2.2.1 R.2.2.2.2.2.2.2.2.2.2.1 R.2.2.2.2.2.2.2.2.2.2.2.1 R.2.2.2.2.2.2.2.2.2.2.2.2.1 R.2.2.2.2.2.2.2.2.2.2.2.2.2.1 R.2.2.2.2.2.2.2.2.2.2.2.2.2.2.1 R.2.2.2.2.2.2.2.2.2.2.2.2.2.2.2) A) (by decide) rfl (Nat.le_of_ble_eq_true rfl) ?_
  intro p e s m args below meth c A ls hx hb hr hts hown hlocks hml hA hP hK hD hl
  have hown : s.vm.findClass RX6 = some m.cls := hown
  have hl : lv_has ls 2 [(0, .ref m0), (1, .int a1)] := hl
  have hS : va_S A s.heap s.heap [] := va_S.rf
  have fl144_ : (Cond.fieldLink RX6 144 "DimensionLoaderModel" "spot" "I").before args s = true := hts _ (List.mem_of_getElem? (i := 1) rfl)
  have inX6_ : ∀ w ∈ wsX60, w ∈ wsX6_skips := in_X6_skips_X6
  unfold f_X6_skips at hf
  dsimp only at hf
  refine lv_aload_n hx hb dX6_skips_0 rfl (lv_at hl 0 rfl) ?_
  obtain ⟨R2, g3, hf⟩ := bd_B hf
  obtain ⟨r1, rfl⟩ : ∃ z, z = R2 := ⟨_, rfl⟩
  have hPc := hP
  have hDc := hD
  have hFc := va_free (wc := wM_ m0 m_g m_kept m_spare m_was m_text m_told cI mg mkept mspare mhasKept mwas mwasMany manew mthrown mtext mlength mspot mvalue merror mtold mtolds) hD hS hA [0, 1, 2, 3, 4, 5, 6] rfl
  refine va_calli (va_runV (As := []) (rest := []) ⟨hx, hb, hml, hown, hts⟩ (c_X6_here l dC dI cI cZ cC cJ cD m0 m_g m_kept m_spare m_was m_text m_told s.heap.size mg mkept mspare mhasKept mwas mwasMany manew mthrown mtext mlength mspot mvalue merror mtold mtolds r1 g3) (cwV 0 hts gX6_skips_X6_here rfl rfl rfl hs_X6_here ⟨Nat.le_of_ble_eq_true rfl, Nat.le_of_ble_eq_true rfl⟩) (preV_ (ci := 8) (q0 := 0) hPc hK hDc rfl rfl rfl rfl) rfl rfl hl.1 rfl (lv_room (Nat.le_of_ble_eq_true rfl)) dX6_skips_1 ⟨Nat.le_of_ble_eq_true rfl, Nat.le_of_ble_eq_true rfl⟩) hS (fun q _ h => hFc q h) hFc (fun z5 u t H4 locs ht hvm hw hB hz1 hk1 hS => ?_)
  have hw : r1 = z5 := hw.symm
  subst hw
  obtain ⟨hP, hD⟩ := aft_ (Wr := []) (Wc' := wM_ m0 m_g m_kept m_spare m_was m_text m_told cI mg mkept mspare mhasKept mwas mwasMany manew mthrown mtext mlength mspot mvalue merror mtold mtolds) (W2 := wM_ m0 m_g m_kept m_spare m_was m_text m_told cI mg mkept mspare mhasKept mwas mwasMany manew mthrown mtext mlength mspot mvalue merror mtold mtolds) hP hD [0, 1, 2, 3, 4, 5, 6] [] [0, 1, 2, 3, 4, 5, 6] rfl rfl (by decide) (by decide) (by decide) hk1 hFc hB ht rfl
  refine lv_iload_n hx hb dX6_skips_4 rfl (lv_at hl 1 rfl) ?_
  refine lv_icmp_eq (tgt := 10) hx hb dX6_skips_5 (by decide) (fun c6 => ?_) (fun c6 => ?_)
  · have hf := ite_T c6 hf
    refine lv_aload_n hx hb dX6_skips_10 rfl (lv_at hl 0 rfl) ?_
    refine lv_dup hx hb dX6_skips_11 rfl ?_
    refine va_get (D := (dC, dI)) (ci := 8) (v := .int mspot) (C := RX6) (T := TX6) (N := 15) hx hb hts inX6_ hown hK hP 0 rfl rfl 10 (by decide) fl144_ (fun _ h9 => h9) rfl dX6_skips_12 ?_
    refine lv_iconst (v := 1) hx hb dX6_skips_15 (by decide) ?_
    refine lv_iadd hx hb dX6_skips_16 ?_
    refine va_put (D := (dC, dI)) (ci := 8) (v := .int (mspot + 1)) (ty := .int) (C := RX6) (T := TX6) (N := 15) hx hb hts inX6_ tyX6 tyX6_ok nmX6 hown hK hP hD hS 0 rfl rfl 10 (by decide) fl144_ (fun _ h9 => h9) rfl (by decide +kernel) (by first | rfl | decide) (by first | rfl | decide) (Nat.le_of_ble_eq_true rfl) dX6_skips_17 (fun H7 locs hP hD hS => ?_)
    have hP : va_P (dC, dI) vwCl (wM_ m0 m_g m_kept m_spare m_was m_text m_told cI mg mkept mspare mhasKept mwas mwasMany manew mthrown mtext mlength (mspot + 1) mvalue merror mtold mtolds) H7 := hP
    have hD : va_D A (wM_ m0 m_g m_kept m_spare m_was m_text m_told cI mg mkept mspare mhasKept mwas mwasMany manew mthrown mtext mlength (mspot + 1) mvalue merror mtold mtolds) := hD
    refine lv_iconst (v := 1) hx hb dX6_skips_20 (by decide) ?_
    have hR := Option.some.inj hf
    subst hR
    exact W.zret (v := (1 : Int32)) hx hb hr (by decide) (fun t ht hW => ⟨⟨(1 : Int32), (), rfl, rfl, by rw [ht]; exact hP, va_K.moved hW.alike hK, hD⟩, hS.F ht⟩) hS.2.2 dX6_skips_21
  · have hf := ite_F c6 hf
    refine lv_iconst (v := 0) hx hb dX6_skips_8 (by decide) ?_
    have hR := Option.some.inj hf
    subst hR
    exact W.zret (v := (0 : Int32)) hx hb hr (by decide) (fun t ht hW => ⟨⟨(0 : Int32), (), rfl, rfl, by rw [ht]; exact hP, va_K.moved hW.alike hK, hD⟩, hS.F ht⟩) hS.2.2 dX6_skips_9
theorem hs_X6_skips : yX6_skips.cls = RX6 ∧ yX6_skips.cls ≠ "java/lang/invoke/MethodHandle" ∧ yX6_skips.cls ≠ "java/lang/invoke/VarHandle" ∧ (parseMethodDescriptor yX6_skips.desc).map (fun d => d.parameters.length) = some 1 := by decide +kernel
set_option maxRecDepth 20000 in
theorem in_X6_number_X6 : ∀ w ∈ wsX60, w ∈ wsX6_number := by decide +kernel
def f_X6_number_S7 (k_ : Int32 → Int32 → tM_ → Option (Int32 × tM_)) (l2 : Int32) (l1 : Int32) (M_ : tM_) : Option (Int32 × tM_) :=
match M_ with
| (mg, mkept, mspare, mhasKept, mwas, mwasMany, manew, mthrown, mtext, mlength, mspot, mvalue, merror, mtold, mtolds) =>
if l1 ≤ l2 then
if l2 ≤ 0 then
some ((0 : Int32), (mg, mkept, mspare, mhasKept, mwas, mwasMany, manew, mthrown, mtext, mlength, mspot, mvalue, merror, mtold, mtolds))
else
some ((1 : Int32), (mg, mkept, mspare, mhasKept, mwas, mwasMany, manew, mthrown, mtext, mlength, mspot, mvalue, merror, mtold, mtolds))
else
bd_ (f_X6_here (mg, mkept, mspare, mhasKept, mwas, mwasMany, manew, mthrown, mtext, mlength, mspot, mvalue, merror, mtold, mtolds)) (fun r5 =>
bd_ (f_X6_in r5 (48 : Int32) (57 : Int32)) (fun r10 =>
if r10 = 0 then
if l2 ≤ 0 then
some ((0 : Int32), (mg, mkept, mspare, mhasKept, mwas, mwasMany, manew, mthrown, mtext, mlength, mspot, mvalue, merror, mtold, mtolds))
else
some ((1 : Int32), (mg, mkept, mspare, mhasKept, mwas, mwasMany, manew, mthrown, mtext, mlength, mspot, mvalue, merror, mtold, mtolds))
else
bd_ (f_X6_here (mg, mkept, mspare, mhasKept, mwas, mwasMany, manew, mthrown, mtext, mlength, mspot, mvalue, merror, mtold, mtolds)) (fun r17 =>
k_ (l2 + 1) l1 (mg, mkept, mspare, mhasKept, mwas, mwasMany, manew, mthrown, mtext, mlength, mspot + 1, ((10 * mvalue) + r17) - 48, merror, mtold, mtolds))))
def f_X6_number_L7 : Nat → Int32 → Int32 → tM_ → Option (Int32 × tM_)
  | 0 => fun _ _ _ => none
  | n + 1 => fun l2 l1 M_ => f_X6_number_S7 (f_X6_number_L7 n) l2 l1 M_
def f_X6_number (a1 : Int32) (M_ : tM_) : Option (Int32 × tM_) :=
match M_ with
| (mg, mkept, mspare, mhasKept, mwas, mwasMany, manew, mthrown, mtext, mlength, mspot, mvalue, merror, mtold, mtolds) =>
f_X6_number_L7 fu_ (0 : Int32) a1 (mg, mkept, mspare, mhasKept, mwas, mwasMany, manew, mthrown, mtext, mlength, mspot, 0, merror, mtold, mtolds)
abbrev rm_X6_number : Room := { frames := 1, cells := 0, slots := 0, locals := 22 }
set_option maxHeartbeats 4000000 in
set_option maxRecDepth 100000 in
theorem c_X6_number (l : Launch) (dC : Nat → ClassId) (dI : Nat → Nat → Nat) (cI cZ cC cJ cD : ClassId) (m0 m_g m_kept m_spare m_was m_text m_told : Nat) (sz : Nat) (mg : Nat → Int32) (mkept : Nat → Int32) (mspare : Nat → Int32) (mhasKept : Int32) (mwas : Nat → Int32) (mwasMany : Int32) (manew : Int32) (mthrown : Int32) (mtext : Nat → Int32) (mlength : Int32) (mspot : Int32) (mvalue : Int32) (merror : Int32) (mtold : Nat → Int32) (mtolds : Int32) (a1 : Int32) (R : Int32 × tM_) (hf : f_X6_number a1 (mg, mkept, mspare, mhasKept, mwas, mwasMany, manew, mthrown, mtext, mlength, mspot, mvalue, merror, mtold, mtolds) = some R) : Met l yX6_number wsX6_number rm_X6_number (Pc_ (dC, dI) (ty_ cI cZ cC cJ cD) (wM_ m0 m_g m_kept m_spare m_was m_text m_told cI mg mkept mspare mhasKept mwas mwasMany manew mthrown mtext mlength mspot mvalue merror mtold mtolds) sz [.ref m0, .int a1]) (Qi_ (dC, dI) (ty_ cI cZ cC cJ cD) R.1 (wM_ m0 m_g m_kept m_spare m_was m_text m_told cI R.2.1 R.2.2.1 R.2.2.2.1 R.2.2.2.2.1 R.2.2.2.2.2.1 R.2.2.2.2.2.2.1 R.2.2.2.2.2.2.2.1 R.2.2.2.2.2.2.2.2.1 R.2.2.2.2.2.2.2.2.2.1 R.2.2.2.2.2.2.2.2.2.2.1 R.2.2.2.2.2.2.2.2.2.2.2.1 R.2.2.2.2.2.2.2.2.2.2.2.2.1 R.2.2.2.2.2.2.2.2.2.2.2.2.2.1 R.2.2.2.2.2.2.2.2.2.2.2.2.2.2.1 R.2.2.2.2.2.2.2.2.2.2.2.2.2.2.2) (va_A (wM_ m0 m_g m_kept m_spare m_was m_text m_told cI mg mkept mspare mhasKept mwas mwasMany manew mthrown mtext mlength mspot mvalue merror mtold mtolds) sz)) 0 0 (va_A (wM_ m0 m_g m_kept m_spare m_was m_text m_told cI mg mkept mspare mhasKept mwas mwasMany manew mthrown mtext mlength mspot mvalue merror mtold mtolds) sz) := by
  refine met_ (cc := cX6_number) (maxL := 3) (ret := (some .boolean)) (Qcf := fun A => Qi_ (dC, dI) (ty_ cI cZ cC cJ cD) R.1 (wM_ m0 m_g m_kept m_spare m_was m_text m_told cI R.2.1 R.2.2.1 R.2.2.2.1 R.2.2.2.2.1 R.2.2.2.2.2.1 R.2.2.2.2.2.2.1 R.2.2.2.2.2.2.2.1 R.2.2.2.2.2.2.2.2.1 R.2.2.2.2.2.2.2.2.2.1 R.2.2.2.2.2.2.2.2.2.2.1 R.2.2.2.2.2.2.2.2.2.2.2.1 R.2.2.2.2.2.2.2.2.2.2.2.2.1 R.2.2.2.2.2.2.2.2.2.2.2.2.2.1 R.2.2.2.2.2.2.2.2.2.2.2.2.2.2.1 R.2.2.2.2.2.2.2.2.2.2.2.2.2.2.2) A) (by decide) rfl (Nat.le_of_ble_eq_true rfl) ?_
  intro p e s m args below meth c A ls hx hb hr hts hown hlocks hml hA hP hK hD hl
  have hown : s.vm.findClass RX6 = some m.cls := hown
  have hl : lv_has ls 3 [(0, .ref m0), (1, .int a1)] := hl
  have hS : va_S A s.heap s.heap [] := va_S.rf
  have fl144_ : (Cond.fieldLink RX6 144 "DimensionLoaderModel" "spot" "I").before args s = true := hts _ (List.mem_of_getElem? (i := 2) rfl)
  have fl150_ : (Cond.fieldLink RX6 150 "DimensionLoaderModel" "value" "I").before args s = true := hts _ (List.mem_of_getElem? (i := 1) rfl)
  have inX6_ : ∀ w ∈ wsX60, w ∈ wsX6_number := in_X6_number_X6
  unfold f_X6_number at hf
  dsimp only at hf
  refine lv_aload_n hx hb dX6_number_0 rfl (lv_at hl 0 rfl) ?_
  refine lv_iconst (v := 0) hx hb dX6_number_1 (by decide) ?_
  refine va_put (D := (dC, dI)) (ci := 8) (v := .int 0) (ty := .int) (C := RX6) (T := TX6) (N := 15) hx hb hts inX6_ tyX6 tyX6_ok nmX6 hown hK hP hD hS 0 rfl rfl 11 (by decide) fl150_ (fun _ h9 => h9) rfl (by decide +kernel) (by first | rfl | decide) (by first | rfl | decide) (Nat.le_of_ble_eq_true rfl) dX6_number_2 (fun H1 locs hP hD hS => ?_)
  have hP : va_P (dC, dI) vwCl (wM_ m0 m_g m_kept m_spare m_was m_text m_told cI mg mkept mspare mhasKept mwas mwasMany manew mthrown mtext mlength mspot 0 merror mtold mtolds) H1 := hP
  have hD : va_D A (wM_ m0 m_g m_kept m_spare m_was m_text m_told cI mg mkept mspare mhasKept mwas mwasMany manew mthrown mtext mlength mspot 0 merror mtold mtolds) := hD
  refine lv_iconst (v := 0) hx hb dX6_number_5 (by decide) ?_
  refine lv_istore_n (lv' := [(2, .int 0), (0, .ref m0), (1, .int a1)]) hx hb dX6_number_6 rfl hl (by decide) rfl (fun ls hl => ?_)
  have lp7 : ∀ (n : Nat) (l2 : Int32) (l1 : Int32) (mg : Nat → Int32) (mkept : Nat → Int32) (mspare : Nat → Int32) (mhasKept : Int32) (mwas : Nat → Int32) (mwasMany : Int32) (manew : Int32) (mthrown : Int32) (mtext : Nat → Int32) (mlength : Int32) (mspot : Int32) (mvalue : Int32) (merror : Int32) (mtold : Nat → Int32) (mtolds : Int32) (H2 : Heap) (locs : List Loc) (ls : Array Slot), f_X6_number_L7 n l2 l1 (mg, mkept, mspare, mhasKept, mwas, mwasMany, manew, mthrown, mtext, mlength, mspot, mvalue, merror, mtold, mtolds) = some R → va_P (dC, dI) vwCl (wM_ m0 m_g m_kept m_spare m_was m_text m_told cI mg mkept mspare mhasKept mwas mwasMany manew mthrown mtext mlength mspot mvalue merror mtold mtolds) H2 → va_D A (wM_ m0 m_g m_kept m_spare m_was m_text m_told cI mg mkept mspare mhasKept mwas mwasMany manew mthrown mtext mlength mspot mvalue merror mtold mtolds) → va_S A s.heap H2 locs → lv_has ls 3 [(2, .int l2), (0, .ref m0), (1, .int l1)] → W p l e (headSpec wsX6_number rm_X6_number).room s m args below meth c H2 locs 0 0 (MQ below (Qi_ (dC, dI) (ty_ cI cZ cC cJ cD) R.1 (wM_ m0 m_g m_kept m_spare m_was m_text m_told cI R.2.1 R.2.2.1 R.2.2.2.1 R.2.2.2.2.1 R.2.2.2.2.2.1 R.2.2.2.2.2.2.1 R.2.2.2.2.2.2.2.1 R.2.2.2.2.2.2.2.2.1 R.2.2.2.2.2.2.2.2.2.1 R.2.2.2.2.2.2.2.2.2.2.1 R.2.2.2.2.2.2.2.2.2.2.2.1 R.2.2.2.2.2.2.2.2.2.2.2.2.1 R.2.2.2.2.2.2.2.2.2.2.2.2.2.1 R.2.2.2.2.2.2.2.2.2.2.2.2.2.2.1 R.2.2.2.2.2.2.2.2.2.2.2.2.2.2.2) A) args s 0 0 A) (F0 m 7 ls []) := by
    intro n
    induction n with
    | zero => intro l2 l1 mg mkept mspare mhasKept mwas mwasMany manew mthrown mtext mlength mspot mvalue merror mtold mtolds H2 locs ls hf hP hD hS hl; exact absurd hf (by simp [f_X6_number_L7])
    | succ n ih =>
      intro l2 l1 mg mkept mspare mhasKept mwas mwasMany manew mthrown mtext mlength mspot mvalue merror mtold mtolds H2 locs ls hf hP hD hS hl
      have hf : f_X6_number_S7 (f_X6_number_L7 n) l2 l1 (mg, mkept, mspare, mhasKept, mwas, mwasMany, manew, mthrown, mtext, mlength, mspot, mvalue, merror, mtold, mtolds) = some R := hf
      unfold f_X6_number_S7 at hf
      dsimp only at hf
      refine lv_iload_n hx hb dX6_number_7 rfl (lv_at hl 0 rfl) ?_
      refine lv_iload_n hx hb dX6_number_8 rfl (lv_at hl 2 rfl) ?_
      refine lv_icmp_ge (tgt := 61) hx hb dX6_number_9 (by decide) (fun c3 => ?_) (fun c3 => ?_)
      · have hf := ite_T c3 hf
        refine lv_iload_n hx hb dX6_number_61 rfl (lv_at hl 0 rfl) ?_
        refine lv_if_le (tgt := 69) hx hb dX6_number_62 (by decide) (fun c4 => ?_) (fun c4 => ?_)
        · have hf := ite_T c4 hf
          refine lv_iconst (v := 0) hx hb dX6_number_69 (by decide) ?_
          have hR := Option.some.inj hf
          subst hR
          exact W.zret (v := (0 : Int32)) hx hb hr (by decide) (fun t ht hW => ⟨⟨(0 : Int32), (), rfl, rfl, by rw [ht]; exact hP, va_K.moved hW.alike hK, hD⟩, hS.F ht⟩) hS.2.2 dX6_number_70
        · have hf := ite_F c4 hf
          refine lv_iconst (v := 1) hx hb dX6_number_65 (by decide) ?_
          refine lv_goto (tgt := 70) hx hb dX6_number_66 (by decide) ?_
          have hR := Option.some.inj hf
          subst hR
          exact W.zret (v := (1 : Int32)) hx hb hr (by decide) (fun t ht hW => ⟨⟨(1 : Int32), (), rfl, rfl, by rw [ht]; exact hP, va_K.moved hW.alike hK, hD⟩, hS.F ht⟩) hS.2.2 dX6_number_70
      · have hf := ite_F c3 hf
        refine lv_aload_n hx hb dX6_number_12 rfl (lv_at hl 1 rfl) ?_
        obtain ⟨R6, g7, hf⟩ := bd_B hf
        obtain ⟨r5, rfl⟩ : ∃ z, z = R6 := ⟨_, rfl⟩
        have hPc := hP
        have hDc := hD
        have hFc := va_free (wc := wM_ m0 m_g m_kept m_spare m_was m_text m_told cI mg mkept mspare mhasKept mwas mwasMany manew mthrown mtext mlength mspot mvalue merror mtold mtolds) hD hS hA [0, 1, 2, 3, 4, 5, 6] rfl
        refine va_calli (va_runV (As := []) (rest := []) ⟨hx, hb, hml, hown, hts⟩ (c_X6_here l dC dI cI cZ cC cJ cD m0 m_g m_kept m_spare m_was m_text m_told H2.size mg mkept mspare mhasKept mwas mwasMany manew mthrown mtext mlength mspot mvalue merror mtold mtolds r5 g7) (cwV 0 hts gX6_number_X6_here rfl rfl rfl hs_X6_here ⟨Nat.le_of_ble_eq_true rfl, Nat.le_of_ble_eq_true rfl⟩) (preV_ (ci := 8) (q0 := 0) hPc hK hDc rfl rfl rfl rfl) rfl rfl hl.1 rfl (lv_room (Nat.le_of_ble_eq_true rfl)) dX6_number_13 ⟨Nat.le_of_ble_eq_true rfl, Nat.le_of_ble_eq_true rfl⟩) hS (fun q _ h => hFc q h) hFc (fun z9 u t H8 locs ht hvm hw hB hz1 hk1 hS => ?_)
        have hw : r5 = z9 := hw.symm
        subst hw
        obtain ⟨hP, hD⟩ := aft_ (Wr := []) (Wc' := wM_ m0 m_g m_kept m_spare m_was m_text m_told cI mg mkept mspare mhasKept mwas mwasMany manew mthrown mtext mlength mspot mvalue merror mtold mtolds) (W2 := wM_ m0 m_g m_kept m_spare m_was m_text m_told cI mg mkept mspare mhasKept mwas mwasMany manew mthrown mtext mlength mspot mvalue merror mtold mtolds) hP hD [0, 1, 2, 3, 4, 5, 6] [] [0, 1, 2, 3, 4, 5, 6] rfl rfl (by decide) (by decide) (by decide) hk1 hFc hB ht rfl
        refine lv_bipush (v := 48) hx hb dX6_number_16 (by decide) ?_
        refine lv_bipush (v := 57) hx hb dX6_number_18 (by decide) ?_
        obtain ⟨R11, g12, hf⟩ := bd_B hf
        obtain ⟨r10, rfl⟩ : ∃ z, z = R11 := ⟨_, rfl⟩
        have hPc := hP.sub (ws' := []) [] rfl
        have hDc := hD.sub (ws' := []) [] (by decide) rfl
        have hFc := va_free (wc := []) hD hS hA [] rfl
        refine va_calli (va_runS (As := [.int r5, .int 48, .int 57]) (rest := []) ⟨hx, hb, hml, hown, hts⟩ (c_X6_in l dC dI cI cZ cC cJ cD H8.size r5 (48 : Int32) (57 : Int32) r10 g12) (cwS 3 hts gX6_number_X6_in rfl rfl rfl hs_X6_in ⟨Nat.le_of_ble_eq_true rfl, Nat.le_of_ble_eq_true rfl⟩) (preS_ hPc hK hDc rfl) rfl rfl hl.1 rfl (lv_room (Nat.le_of_ble_eq_true rfl)) dX6_number_20 ⟨Nat.le_of_ble_eq_true rfl, Nat.le_of_ble_eq_true rfl⟩) hS (fun q _ h => hFc q h) hFc (fun z14 u t H13 locs ht hvm hw hB hz1 hk1 hS => ?_)
        have hw : r10 = z14 := hw.symm
        subst hw
        obtain ⟨hP, hD⟩ := aft_ (Wr := wM_ m0 m_g m_kept m_spare m_was m_text m_told cI mg mkept mspare mhasKept mwas mwasMany manew mthrown mtext mlength mspot mvalue merror mtold mtolds) (Wc' := []) (W2 := wM_ m0 m_g m_kept m_spare m_was m_text m_told cI mg mkept mspare mhasKept mwas mwasMany manew mthrown mtext mlength mspot mvalue merror mtold mtolds) hP hD [] [0, 1, 2, 3, 4, 5, 6] [0, 1, 2, 3, 4, 5, 6] rfl rfl (by decide) (by decide) (by decide) hk1 hFc hB ht rfl
        refine lv_if_eq (tgt := 61) hx hb dX6_number_23 (by decide) (fun c15 => ?_) (fun c15 => ?_)
        · have hf := ite_T c15 hf
          refine lv_iload_n hx hb dX6_number_61 rfl (lv_at hl 0 rfl) ?_
          refine lv_if_le (tgt := 69) hx hb dX6_number_62 (by decide) (fun c16 => ?_) (fun c16 => ?_)
          · have hf := ite_T c16 hf
            refine lv_iconst (v := 0) hx hb dX6_number_69 (by decide) ?_
            have hR := Option.some.inj hf
            subst hR
            exact W.zret (v := (0 : Int32)) hx hb hr (by decide) (fun t ht hW => ⟨⟨(0 : Int32), (), rfl, rfl, by rw [ht]; exact hP, va_K.moved hW.alike hK, hD⟩, hS.F ht⟩) hS.2.2 dX6_number_70
          · have hf := ite_F c16 hf
            refine lv_iconst (v := 1) hx hb dX6_number_65 (by decide) ?_
            refine lv_goto (tgt := 70) hx hb dX6_number_66 (by decide) ?_
            have hR := Option.some.inj hf
            subst hR
            exact W.zret (v := (1 : Int32)) hx hb hr (by decide) (fun t ht hW => ⟨⟨(1 : Int32), (), rfl, rfl, by rw [ht]; exact hP, va_K.moved hW.alike hK, hD⟩, hS.F ht⟩) hS.2.2 dX6_number_70
        · have hf := ite_F c15 hf
          refine lv_aload_n hx hb dX6_number_26 rfl (lv_at hl 1 rfl) ?_
          refine lv_bipush (v := 10) hx hb dX6_number_27 (by decide) ?_
          refine lv_aload_n hx hb dX6_number_29 rfl (lv_at hl 1 rfl) ?_
          refine va_get (D := (dC, dI)) (ci := 8) (v := .int mvalue) (C := RX6) (T := TX6) (N := 15) hx hb hts inX6_ hown hK hP 0 rfl rfl 11 (by decide) fl150_ (fun _ h9 => h9) rfl dX6_number_30 ?_
          refine lv_imul hx hb dX6_number_33 ?_
          refine lv_aload_n hx hb dX6_number_34 rfl (lv_at hl 1 rfl) ?_
          obtain ⟨R18, g19, hf⟩ := bd_B hf
          obtain ⟨r17, rfl⟩ : ∃ z, z = R18 := ⟨_, rfl⟩
          have hPc := hP
          have hDc := hD
          have hFc := va_free (wc := wM_ m0 m_g m_kept m_spare m_was m_text m_told cI mg mkept mspare mhasKept mwas mwasMany manew mthrown mtext mlength mspot mvalue merror mtold mtolds) hD hS hA [0, 1, 2, 3, 4, 5, 6] rfl
          refine va_calli (va_runV (As := []) (rest := [.int (10 * mvalue), .ref m0]) ⟨hx, hb, hml, hown, hts⟩ (c_X6_here l dC dI cI cZ cC cJ cD m0 m_g m_kept m_spare m_was m_text m_told H13.size mg mkept mspare mhasKept mwas mwasMany manew mthrown mtext mlength mspot mvalue merror mtold mtolds r17 g19) (cwV 0 hts gX6_number_X6_here rfl rfl rfl hs_X6_here ⟨Nat.le_of_ble_eq_true rfl, Nat.le_of_ble_eq_true rfl⟩) (preV_ (ci := 8) (q0 := 0) hPc hK hDc rfl rfl rfl rfl) rfl rfl hl.1 rfl (lv_room (Nat.le_of_ble_eq_true rfl)) dX6_number_35 ⟨Nat.le_of_ble_eq_true rfl, Nat.le_of_ble_eq_true rfl⟩) hS (fun q _ h => hFc q h) hFc (fun z21 u t H20 locs ht hvm hw hB hz1 hk1 hS => ?_)
          have hw : r17 = z21 := hw.symm
          subst hw
          obtain ⟨hP, hD⟩ := aft_ (Wr := []) (Wc' := wM_ m0 m_g m_kept m_spare m_was m_text m_told cI mg mkept mspare mhasKept mwas mwasMany manew mthrown mtext mlength mspot mvalue merror mtold mtolds) (W2 := wM_ m0 m_g m_kept m_spare m_was m_text m_told cI mg mkept mspare mhasKept mwas mwasMany manew mthrown mtext mlength mspot mvalue merror mtold mtolds) hP hD [0, 1, 2, 3, 4, 5, 6] [] [0, 1, 2, 3, 4, 5, 6] rfl rfl (by decide) (by decide) (by decide) hk1 hFc hB ht rfl
          refine lv_iadd hx hb dX6_number_38 ?_
          refine lv_bipush (v := 48) hx hb dX6_number_39 (by decide) ?_
          refine lv_isub hx hb dX6_number_41 ?_
          refine va_put (D := (dC, dI)) (ci := 8) (v := .int (((10 * mvalue) + r17) - 48)) (ty := .int) (C := RX6) (T := TX6) (N := 15) hx hb hts inX6_ tyX6 tyX6_ok nmX6 hown hK hP hD hS 0 rfl rfl 11 (by decide) fl150_ (fun _ h9 => h9) rfl (by decide +kernel) (by first | rfl | decide) (by first | rfl | decide) (Nat.le_of_ble_eq_true rfl) dX6_number_42 (fun H22 locs hP hD hS => ?_)
          have hP : va_P (dC, dI) vwCl (wM_ m0 m_g m_kept m_spare m_was m_text m_told cI mg mkept mspare mhasKept mwas mwasMany manew mthrown mtext mlength mspot (((10 * mvalue) + r17) - 48) merror mtold mtolds) H22 := hP
          have hD : va_D A (wM_ m0 m_g m_kept m_spare m_was m_text m_told cI mg mkept mspare mhasKept mwas mwasMany manew mthrown mtext mlength mspot (((10 * mvalue) + r17) - 48) merror mtold mtolds) := hD
          refine lv_aload_n hx hb dX6_number_45 rfl (lv_at hl 1 rfl) ?_
          refine lv_dup hx hb dX6_number_46 rfl ?_
          refine va_get (D := (dC, dI)) (ci := 8) (v := .int mspot) (C := RX6) (T := TX6) (N := 15) hx hb hts inX6_ hown hK hP 0 rfl rfl 10 (by decide) fl144_ (fun _ h9 => h9) rfl dX6_number_47 ?_
          refine lv_iconst (v := 1) hx hb dX6_number_50 (by decide) ?_
          refine lv_iadd hx hb dX6_number_51 ?_
          refine va_put (D := (dC, dI)) (ci := 8) (v := .int (mspot + 1)) (ty := .int) (C := RX6) (T := TX6) (N := 15) hx hb hts inX6_ tyX6 tyX6_ok nmX6 hown hK hP hD hS 0 rfl rfl 10 (by decide) fl144_ (fun _ h9 => h9) rfl (by decide +kernel) (by first | rfl | decide) (by first | rfl | decide) (Nat.le_of_ble_eq_true rfl) dX6_number_52 (fun H23 locs hP hD hS => ?_)
          have hP : va_P (dC, dI) vwCl (wM_ m0 m_g m_kept m_spare m_was m_text m_told cI mg mkept mspare mhasKept mwas mwasMany manew mthrown mtext mlength (mspot + 1) (((10 * mvalue) + r17) - 48) merror mtold mtolds) H23 := hP
          have hD : va_D A (wM_ m0 m_g m_kept m_spare m_was m_text m_told cI mg mkept mspare mhasKept mwas mwasMany manew mthrown mtext mlength (mspot + 1) (((10 * mvalue) + r17) - 48) merror mtold mtolds) := hD
          refine lv_iinc (v := l2 + 1) (lv' := [(2, .int (l2 + 1)), (0, .ref m0), (1, .int l1)]) hx hb dX6_number_55 hl (k := 0) rfl (by first | rfl | decide) (by decide) rfl (fun ls hl => ?_)
          refine lv_goto (tgt := 7) hx hb dX6_number_58 (by decide) ?_
          exact ih (l2 + 1) l1 mg mkept mspare mhasKept mwas mwasMany manew mthrown mtext mlength (mspot + 1) (((10 * mvalue) + r17) - 48) merror mtold mtolds _ _ _ hf hP hD hS (lv_sub hl [0, 1, 2] rfl)
  exact lp7 fu_ (0 : Int32) a1 mg mkept mspare mhasKept mwas mwasMany manew mthrown mtext mlength mspot (0 : Int32) merror mtold mtolds _ _ _ hf hP hD hS hl
theorem hs_X6_number : yX6_number.cls = RX6 ∧ yX6_number.cls ≠ "java/lang/invoke/MethodHandle" ∧ yX6_number.cls ≠ "java/lang/invoke/VarHandle" ∧ (parseMethodDescriptor yX6_number.desc).map (fun d => d.parameters.length) = some 1 := by decide +kernel
set_option maxRecDepth 20000 in
theorem in_X6_isRow_X6 : ∀ w ∈ wsX60, w ∈ wsX6_isRow := by decide +kernel
def f_X6_isRow  (M_ : tM_) : Option (Int32 × tM_) :=
match M_ with
| (mg, mkept, mspare, mhasKept, mwas, mwasMany, manew, mthrown, mtext, mlength, mspot, mvalue, merror, mtold, mtolds) =>
bd_ (f_X6_skips (107 : Int32) (mg, mkept, mspare, mhasKept, mwas, mwasMany, manew, mthrown, mtext, mlength, mspot, mvalue, merror, mtold, mtolds)) (fun (r1, (mg2, mk3, ms4, mh5, mw6, mw7, ma8, mt9, mt10, ml11, ms12, mv13, me14, mt15, mt16)) =>
if r1 = 0 then
some ((0 : Int32), (mg2, mk3, ms4, mh5, mw6, mw7, ma8, mt9, mt10, ml11, ms12, mv13, me14, mt15, mt16))
else
bd_ (f_X6_here (mg2, mk3, ms4, mh5, mw6, mw7, ma8, mt9, mt10, ml11, ms12, mv13, me14, mt15, mt16)) (fun r22 =>
bd_ (f_X6_in r22 (48 : Int32) (55 : Int32)) (fun r27 =>
if r27 = 0 then
some ((0 : Int32), (mg2, mk3, ms4, mh5, mw6, mw7, ma8, mt9, mt10, ml11, ms12, mv13, me14, mt15, mt16))
else
bd_ (f_X6_here (mg2, mk3, ms4, mh5, mw6, mw7, ma8, mt9, mt10, ml11, ms12, mv13, me14, mt15, mt16)) (fun r33 =>
gd_ (3 * mt16) 30 (nm_ (upd mt15 ((3 * mt16).toNatClampNeg) (r33 - 48)) (fun u40 =>
bd_ (f_X6_skips (64 : Int32) (mg2, mk3, ms4, mh5, mw6, mw7, ma8, mt9, mt10, ml11, ms12 + 1, mv13, me14, u40, mt16)) (fun (r43, (mg44, mk45, ms46, mh47, mw48, mw49, ma50, mt51, mt52, ml53, ms54, mv55, me56, mt57, mt58)) =>
if r43 = 0 then
some ((0 : Int32), (mg44, mk45, ms46, mh47, mw48, mw49, ma50, mt51, mt52, ml53, ms54, mv55, me56, mt57, mt58))
else
bd_ (f_X6_number (3 : Int32) (mg44, mk45, ms46, mh47, mw48, mw49, ma50, mt51, mt52, ml53, ms54, mv55, me56, mt57, mt58)) (fun (r64, (mg65, mk66, ms67, mh68, mw69, mw70, ma71, mt72, mt73, ml74, ms75, mv76, me77, mt78, mt79)) =>
if r64 = 0 then
some ((0 : Int32), (mg65, mk66, ms67, mh68, mw69, mw70, ma71, mt72, mt73, ml74, ms75, mv76, me77, mt78, mt79))
else
gd_ ((3 * mt79) + 1) 30 (nm_ (upd mt78 (((3 * mt79) + 1).toNatClampNeg) mv76) (fun u87 =>
bd_ (f_X6_skips (61 : Int32) (mg65, mk66, ms67, mh68, mw69, mw70, ma71, mt72, mt73, ml74, ms75, mv76, me77, u87, mt79)) (fun (r89, (mg90, mk91, ms92, mh93, mw94, mw95, ma96, mt97, mt98, ml99, ms100, mv101, me102, mt103, mt104)) =>
if r89 = 0 then
some ((0 : Int32), (mg90, mk91, ms92, mh93, mw94, mw95, ma96, mt97, mt98, ml99, ms100, mv101, me102, mt103, mt104))
else
bd_ (f_X6_skips (45 : Int32) (mg90, mk91, ms92, mh93, mw94, mw95, ma96, mt97, mt98, ml99, ms100, mv101, me102, mt103, mt104)) (fun (r110, (mg111, mk112, ms113, mh114, mw115, mw116, ma117, mt118, mt119, ml120, ms121, mv122, me123, mt124, mt125)) =>
bd_ (f_X6_number (3 : Int32) (mg111, mk112, ms113, mh114, mw115, mw116, ma117, mt118, mt119, ml120, ms121, mv122, me123, mt124, mt125)) (fun (r130, (mg131, mk132, ms133, mh134, mw135, mw136, ma137, mt138, mt139, ml140, ms141, mv142, me143, mt144, mt145)) =>
if r130 = 0 then
some ((0 : Int32), (mg131, mk132, ms133, mh134, mw135, mw136, ma137, mt138, mt139, ml140, ms141, mv142, me143, mt144, mt145))
else
if r110 = 0 then
gd_ ((3 * mt145) + 2) 30 (nm_ (upd mt144 (((3 * mt145) + 2).toNatClampNeg) mv142) (fun u154 =>
some ((1 : Int32), (mg131, mk132, ms133, mh134, mw135, mw136, ma137, mt138, mt139, ml140, ms141, mv142, me143, u154, mt145 + 1))))
else
gd_ ((3 * mt145) + 2) 30 (nm_ (upd mt144 (((3 * mt145) + 2).toNatClampNeg) (-mv142)) (fun u159 =>
some ((1 : Int32), (mg131, mk132, ms133, mh134, mw135, mw136, ma137, mt138, mt139, ml140, ms141, mv142, me143, u159, mt145 + 1)))))))))))))))))
abbrev rm_X6_isRow : Room := { frames := 2, cells := 0, slots := 0, locals := 44 }
set_option maxHeartbeats 4000000 in
set_option maxRecDepth 100000 in
theorem c_X6_isRow (l : Launch) (dC : Nat → ClassId) (dI : Nat → Nat → Nat) (cI cZ cC cJ cD : ClassId) (m0 m_g m_kept m_spare m_was m_text m_told : Nat) (sz : Nat) (mg : Nat → Int32) (mkept : Nat → Int32) (mspare : Nat → Int32) (mhasKept : Int32) (mwas : Nat → Int32) (mwasMany : Int32) (manew : Int32) (mthrown : Int32) (mtext : Nat → Int32) (mlength : Int32) (mspot : Int32) (mvalue : Int32) (merror : Int32) (mtold : Nat → Int32) (mtolds : Int32)  (R : Int32 × tM_) (hf : f_X6_isRow  (mg, mkept, mspare, mhasKept, mwas, mwasMany, manew, mthrown, mtext, mlength, mspot, mvalue, merror, mtold, mtolds) = some R) : Met l yX6_isRow wsX6_isRow rm_X6_isRow (Pc_ (dC, dI) (ty_ cI cZ cC cJ cD) (wM_ m0 m_g m_kept m_spare m_was m_text m_told cI mg mkept mspare mhasKept mwas mwasMany manew mthrown mtext mlength mspot mvalue merror mtold mtolds) sz [.ref m0]) (Qi_ (dC, dI) (ty_ cI cZ cC cJ cD) R.1 (wM_ m0 m_g m_kept m_spare m_was m_text m_told cI R.2.1 R.2.2.1 R.2.2.2.1 R.2.2.2.2.1 R.2.2.2.2.2.1 R.2.2.2.2.2.2.1 R.2.2.2.2.2.2.2.1 R.2.2.2.2.2.2.2.2.1 R.2.2.2.2.2.2.2.2.2.1 R.2.2.2.2.2.2.2.2.2.2.1 R.2.2.2.2.2.2.2.2.2.2.2.1 R.2.2.2.2.2.2.2.2.2.2.2.2.1 R.2.2.2.2.2.2.2.2.2.2.2.2.2.1 R.2.2.2.2.2.2.2.2.2.2.2.2.2.2.1 R.2.2.2.2.2.2.2.2.2.2.2.2.2.2.2) (va_A (wM_ m0 m_g m_kept m_spare m_was m_text m_told cI mg mkept mspare mhasKept mwas mwasMany manew mthrown mtext mlength mspot mvalue merror mtold mtolds) sz)) 0 0 (va_A (wM_ m0 m_g m_kept m_spare m_was m_text m_told cI mg mkept mspare mhasKept mwas mwasMany manew mthrown mtext mlength mspot mvalue merror mtold mtolds) sz) := by
  refine met_ (cc := cX6_isRow) (maxL := 2) (ret := (some .boolean)) (Qcf := fun A => Qi_ (dC, dI) (ty_ cI cZ cC cJ cD) R.1 (wM_ m0 m_g m_kept m_spare m_was m_text m_told cI R.2.1 R.2.2.1 R.2.2.2.1 R.2.2.2.2.1 R.2.2.2.2.2.1 R.2.2.2.2.2.2.1 R.2.2.2.2.2.2.2.1 R.2.2.2.2.2.2.2.2.1 R.2.2.2.2.2.2.2.2.2.1 R.2.2.2.2.2.2.2.2.2.2.1 R.2.2.2.2.2.2.2.2.2.2.2.1 R.2.2.2.2.2.2.2.2.2.2.2.2.1 R.2.2.2.2.2.2.2.2.2.2.2.2.2.1 R.2.2.2.2.2.2.2.2.2.2.2.2.2.2.1 R.2.2.2.2.2.2.2.2.2.2.2.2.2.2.2) A) (by decide) rfl (Nat.le_of_ble_eq_true rfl) ?_
  intro p e s m args below meth c A ls hx hb hr hts hown hlocks hml hA hP hK hD hl
  have hown : s.vm.findClass RX6 = some m.cls := hown
  have hl : lv_has ls 2 [(0, .ref m0)] := hl
  have hS : va_S A s.heap s.heap [] := va_S.rf
  have fl29_ : (Cond.fieldLink RX6 29 "DimensionLoaderModel" "told" "[I").before args s = true := hts _ (List.mem_of_getElem? (i := 1) rfl)
  have fl144_ : (Cond.fieldLink RX6 144 "DimensionLoaderModel" "spot" "I").before args s = true := hts _ (List.mem_of_getElem? (i := 3) rfl)
  have fl150_ : (Cond.fieldLink RX6 150 "DimensionLoaderModel" "value" "I").before args s = true := hts _ (List.mem_of_getElem? (i := 4) rfl)
  have fl156_ : (Cond.fieldLink RX6 156 "DimensionLoaderModel" "tolds" "I").before args s = true := hts _ (List.mem_of_getElem? (i := 2) rfl)
  have inX6_ : ∀ w ∈ wsX60, w ∈ wsX6_isRow := in_X6_isRow_X6
  unfold f_X6_isRow at hf
  dsimp only at hf
  refine lv_aload_n hx hb dX6_isRow_0 rfl (lv_at hl 0 rfl) ?_
  refine lv_bipush (v := 107) hx hb dX6_isRow_1 (by decide) ?_
  obtain ⟨R17, g18, hf⟩ := bd_B hf
  obtain ⟨r1, ⟨mg2, mk3, ms4, mh5, mw6, mw7, ma8, mt9, mt10, ml11, ms12, mv13, me14, mt15, mt16⟩⟩ := R17
  dsimp only at hf
  have hPc := hP
  have hDc := hD
  have hFc := va_free (wc := wM_ m0 m_g m_kept m_spare m_was m_text m_told cI mg mkept mspare mhasKept mwas mwasMany manew mthrown mtext mlength mspot mvalue merror mtold mtolds) hD hS hA [0, 1, 2, 3, 4, 5, 6] rfl
  refine va_calli (va_runV (As := [.int 107]) (rest := []) ⟨hx, hb, hml, hown, hts⟩ (c_X6_skips l dC dI cI cZ cC cJ cD m0 m_g m_kept m_spare m_was m_text m_told s.heap.size mg mkept mspare mhasKept mwas mwasMany manew mthrown mtext mlength mspot mvalue merror mtold mtolds (107 : Int32) (r1, (mg2, mk3, ms4, mh5, mw6, mw7, ma8, mt9, mt10, ml11, ms12, mv13, me14, mt15, mt16)) g18) (cwV 1 hts gX6_isRow_X6_skips rfl rfl rfl hs_X6_skips ⟨Nat.le_of_ble_eq_true rfl, Nat.le_of_ble_eq_true rfl⟩) (preV_ (ci := 8) (q0 := 0) hPc hK hDc rfl rfl rfl rfl) rfl rfl hl.1 rfl (lv_room (Nat.le_of_ble_eq_true rfl)) dX6_isRow_3 ⟨Nat.le_of_ble_eq_true rfl, Nat.le_of_ble_eq_true rfl⟩) hS (fun q _ h => hFc q h) hFc (fun z20 u t H19 locs ht hvm hw hB hz1 hk1 hS => ?_)
  have hw : r1 = z20 := hw.symm
  subst hw
  obtain ⟨hP, hD⟩ := aft_ (Wr := []) (Wc' := wM_ m0 m_g m_kept m_spare m_was m_text m_told cI mg2 mk3 ms4 mh5 mw6 mw7 ma8 mt9 mt10 ml11 ms12 mv13 me14 mt15 mt16) (W2 := wM_ m0 m_g m_kept m_spare m_was m_text m_told cI mg2 mk3 ms4 mh5 mw6 mw7 ma8 mt9 mt10 ml11 ms12 mv13 me14 mt15 mt16) hP hD [0, 1, 2, 3, 4, 5, 6] [] [0, 1, 2, 3, 4, 5, 6] rfl rfl (by decide) (by decide) (by decide) hk1 hFc hB ht rfl
  refine lv_if_eq (tgt := 23) hx hb dX6_isRow_6 (by decide) (fun c21 => ?_) (fun c21 => ?_)
  · have hf := ite_T c21 hf
    refine lv_iconst (v := 0) hx hb dX6_isRow_23 (by decide) ?_
    have hR := Option.some.inj hf
    subst hR
    exact W.zret (v := (0 : Int32)) hx hb hr (by decide) (fun t ht hW => ⟨⟨(0 : Int32), (), rfl, rfl, by rw [ht]; exact hP, va_K.moved hW.alike hK, hD⟩, hS.F ht⟩) hS.2.2 dX6_isRow_24
  · have hf := ite_F c21 hf
    refine lv_aload_n hx hb dX6_isRow_9 rfl (lv_at hl 0 rfl) ?_
    obtain ⟨R23, g24, hf⟩ := bd_B hf
    obtain ⟨r22, rfl⟩ : ∃ z, z = R23 := ⟨_, rfl⟩
    have hPc := hP
    have hDc := hD
    have hFc := va_free (wc := wM_ m0 m_g m_kept m_spare m_was m_text m_told cI mg2 mk3 ms4 mh5 mw6 mw7 ma8 mt9 mt10 ml11 ms12 mv13 me14 mt15 mt16) hD hS hA [0, 1, 2, 3, 4, 5, 6] rfl
    refine va_calli (va_runV (As := []) (rest := []) ⟨hx, hb, hml, hown, hts⟩ (c_X6_here l dC dI cI cZ cC cJ cD m0 m_g m_kept m_spare m_was m_text m_told H19.size mg2 mk3 ms4 mh5 mw6 mw7 ma8 mt9 mt10 ml11 ms12 mv13 me14 mt15 mt16 r22 g24) (cwV 0 hts gX6_isRow_X6_here rfl rfl rfl hs_X6_here ⟨Nat.le_of_ble_eq_true rfl, Nat.le_of_ble_eq_true rfl⟩) (preV_ (ci := 8) (q0 := 0) hPc hK hDc rfl rfl rfl rfl) rfl rfl hl.1 rfl (lv_room (Nat.le_of_ble_eq_true rfl)) dX6_isRow_10 ⟨Nat.le_of_ble_eq_true rfl, Nat.le_of_ble_eq_true rfl⟩) hS (fun q _ h => hFc q h) hFc (fun z26 u t H25 locs ht hvm hw hB hz1 hk1 hS => ?_)
    have hw : r22 = z26 := hw.symm
    subst hw
    obtain ⟨hP, hD⟩ := aft_ (Wr := []) (Wc' := wM_ m0 m_g m_kept m_spare m_was m_text m_told cI mg2 mk3 ms4 mh5 mw6 mw7 ma8 mt9 mt10 ml11 ms12 mv13 me14 mt15 mt16) (W2 := wM_ m0 m_g m_kept m_spare m_was m_text m_told cI mg2 mk3 ms4 mh5 mw6 mw7 ma8 mt9 mt10 ml11 ms12 mv13 me14 mt15 mt16) hP hD [0, 1, 2, 3, 4, 5, 6] [] [0, 1, 2, 3, 4, 5, 6] rfl rfl (by decide) (by decide) (by decide) hk1 hFc hB ht rfl
    refine lv_bipush (v := 48) hx hb dX6_isRow_13 (by decide) ?_
    refine lv_bipush (v := 55) hx hb dX6_isRow_15 (by decide) ?_
    obtain ⟨R28, g29, hf⟩ := bd_B hf
    obtain ⟨r27, rfl⟩ : ∃ z, z = R28 := ⟨_, rfl⟩
    have hPc := hP.sub (ws' := []) [] rfl
    have hDc := hD.sub (ws' := []) [] (by decide) rfl
    have hFc := va_free (wc := []) hD hS hA [] rfl
    refine va_calli (va_runS (As := [.int r22, .int 48, .int 55]) (rest := []) ⟨hx, hb, hml, hown, hts⟩ (c_X6_in l dC dI cI cZ cC cJ cD H25.size r22 (48 : Int32) (55 : Int32) r27 g29) (cwS 3 hts gX6_isRow_X6_in rfl rfl rfl hs_X6_in ⟨Nat.le_of_ble_eq_true rfl, Nat.le_of_ble_eq_true rfl⟩) (preS_ hPc hK hDc rfl) rfl rfl hl.1 rfl (lv_room (Nat.le_of_ble_eq_true rfl)) dX6_isRow_17 ⟨Nat.le_of_ble_eq_true rfl, Nat.le_of_ble_eq_true rfl⟩) hS (fun q _ h => hFc q h) hFc (fun z31 u t H30 locs ht hvm hw hB hz1 hk1 hS => ?_)
    have hw : r27 = z31 := hw.symm
    subst hw
    obtain ⟨hP, hD⟩ := aft_ (Wr := wM_ m0 m_g m_kept m_spare m_was m_text m_told cI mg2 mk3 ms4 mh5 mw6 mw7 ma8 mt9 mt10 ml11 ms12 mv13 me14 mt15 mt16) (Wc' := []) (W2 := wM_ m0 m_g m_kept m_spare m_was m_text m_told cI mg2 mk3 ms4 mh5 mw6 mw7 ma8 mt9 mt10 ml11 ms12 mv13 me14 mt15 mt16) hP hD [] [0, 1, 2, 3, 4, 5, 6] [0, 1, 2, 3, 4, 5, 6] rfl rfl (by decide) (by decide) (by decide) hk1 hFc hB ht rfl
    refine lv_if_ne (tgt := 25) hx hb dX6_isRow_20 (by decide) (fun c32 => ?_) (fun c32 => ?_)
    · have hf := ite_F c32 hf
      refine lv_aload_n hx hb dX6_isRow_25 rfl (lv_at hl 0 rfl) ?_
      refine va_get (D := (dC, dI)) (ci := 8) (v := .ref m_told) (C := RX6) (T := TX6) (N := 15) hx hb hts inX6_ hown hK hP 0 rfl rfl 13 (by decide) fl29_ (fun _ h9 => h9) rfl dX6_isRow_26 ?_
      refine lv_iconst (v := 3) hx hb dX6_isRow_29 (by decide) ?_
      refine lv_aload_n hx hb dX6_isRow_30 rfl (lv_at hl 0 rfl) ?_
      refine va_get (D := (dC, dI)) (ci := 8) (v := .int mt16) (C := RX6) (T := TX6) (N := 15) hx hb hts inX6_ hown hK hP 0 rfl rfl 14 (by decide) fl156_ (fun _ h9 => h9) rfl dX6_isRow_31 ?_
      refine lv_imul hx hb dX6_isRow_34 ?_
      refine lv_aload_n hx hb dX6_isRow_35 rfl (lv_at hl 0 rfl) ?_
      obtain ⟨R34, g35, hf⟩ := bd_B hf
      obtain ⟨r33, rfl⟩ : ∃ z, z = R34 := ⟨_, rfl⟩
      have hPc := hP
      have hDc := hD
      have hFc := va_free (wc := wM_ m0 m_g m_kept m_spare m_was m_text m_told cI mg2 mk3 ms4 mh5 mw6 mw7 ma8 mt9 mt10 ml11 ms12 mv13 me14 mt15 mt16) hD hS hA [0, 1, 2, 3, 4, 5, 6] rfl
      refine va_calli (va_runV (As := []) (rest := [.int (3 * mt16), .ref m_told]) ⟨hx, hb, hml, hown, hts⟩ (c_X6_here l dC dI cI cZ cC cJ cD m0 m_g m_kept m_spare m_was m_text m_told H30.size mg2 mk3 ms4 mh5 mw6 mw7 ma8 mt9 mt10 ml11 ms12 mv13 me14 mt15 mt16 r33 g35) (cwV 0 hts gX6_isRow_X6_here rfl rfl rfl hs_X6_here ⟨Nat.le_of_ble_eq_true rfl, Nat.le_of_ble_eq_true rfl⟩) (preV_ (ci := 8) (q0 := 0) hPc hK hDc rfl rfl rfl rfl) rfl rfl hl.1 rfl (lv_room (Nat.le_of_ble_eq_true rfl)) dX6_isRow_36 ⟨Nat.le_of_ble_eq_true rfl, Nat.le_of_ble_eq_true rfl⟩) hS (fun q _ h => hFc q h) hFc (fun z37 u t H36 locs ht hvm hw hB hz1 hk1 hS => ?_)
      have hw : r33 = z37 := hw.symm
      subst hw
      obtain ⟨hP, hD⟩ := aft_ (Wr := []) (Wc' := wM_ m0 m_g m_kept m_spare m_was m_text m_told cI mg2 mk3 ms4 mh5 mw6 mw7 ma8 mt9 mt10 ml11 ms12 mv13 me14 mt15 mt16) (W2 := wM_ m0 m_g m_kept m_spare m_was m_text m_told cI mg2 mk3 ms4 mh5 mw6 mw7 ma8 mt9 mt10 ml11 ms12 mv13 me14 mt15 mt16) hP hD [0, 1, 2, 3, 4, 5, 6] [] [0, 1, 2, 3, 4, 5, 6] rfl rfl (by decide) (by decide) (by decide) hk1 hFc hB ht rfl
      refine lv_bipush (v := 48) hx hb dX6_isRow_39 (by decide) ?_
      refine lv_isub hx hb dX6_isRow_41 ?_
      obtain ⟨h38, hf⟩ := gd_T hf
      refine va_iast hx hb hK hP hD hS 6 0 rfl rfl h38 dX6_isRow_42 (fun H39 locs hP hD hS => ?_)
      have hP : va_P (dC, dI) vwCl (wM_ m0 m_g m_kept m_spare m_was m_text m_told cI mg2 mk3 ms4 mh5 mw6 mw7 ma8 mt9 mt10 ml11 ms12 mv13 me14 (upd mt15 ((3 * mt16).toNatClampNeg) (r33 - 48)) mt16) H39 := hP
      have hD : va_D A (wM_ m0 m_g m_kept m_spare m_was m_text m_told cI mg2 mk3 ms4 mh5 mw6 mw7 ma8 mt9 mt10 ml11 ms12 mv13 me14 (upd mt15 ((3 * mt16).toNatClampNeg) (r33 - 48)) mt16) := hD
      obtain ⟨u40, e41, hf⟩ := nm_T hf
      rw [← e41] at hP hD
      refine lv_aload_n hx hb dX6_isRow_43 rfl (lv_at hl 0 rfl) ?_
      refine lv_dup hx hb dX6_isRow_44 rfl ?_
      refine va_get (D := (dC, dI)) (ci := 8) (v := .int ms12) (C := RX6) (T := TX6) (N := 15) hx hb hts inX6_ hown hK hP 0 rfl rfl 10 (by decide) fl144_ (fun _ h9 => h9) rfl dX6_isRow_45 ?_
      refine lv_iconst (v := 1) hx hb dX6_isRow_48 (by decide) ?_
      refine lv_iadd hx hb dX6_isRow_49 ?_
      refine va_put (D := (dC, dI)) (ci := 8) (v := .int (ms12 + 1)) (ty := .int) (C := RX6) (T := TX6) (N := 15) hx hb hts inX6_ tyX6 tyX6_ok nmX6 hown hK hP hD hS 0 rfl rfl 10 (by decide) fl144_ (fun _ h9 => h9) rfl (by decide +kernel) (by first | rfl | decide) (by first | rfl | decide) (Nat.le_of_ble_eq_true rfl) dX6_isRow_50 (fun H42 locs hP hD hS => ?_)
      have hP : va_P (dC, dI) vwCl (wM_ m0 m_g m_kept m_spare m_was m_text m_told cI mg2 mk3 ms4 mh5 mw6 mw7 ma8 mt9 mt10 ml11 (ms12 + 1) mv13 me14 u40 mt16) H42 := hP
      have hD : va_D A (wM_ m0 m_g m_kept m_spare m_was m_text m_told cI mg2 mk3 ms4 mh5 mw6 mw7 ma8 mt9 mt10 ml11 (ms12 + 1) mv13 me14 u40 mt16) := hD
      refine lv_aload_n hx hb dX6_isRow_53 rfl (lv_at hl 0 rfl) ?_
      refine lv_bipush (v := 64) hx hb dX6_isRow_54 (by decide) ?_
      obtain ⟨R59, g60, hf⟩ := bd_B hf
      obtain ⟨r43, ⟨mg44, mk45, ms46, mh47, mw48, mw49, ma50, mt51, mt52, ml53, ms54, mv55, me56, mt57, mt58⟩⟩ := R59
      dsimp only at hf
      have hPc := hP
      have hDc := hD
      have hFc := va_free (wc := wM_ m0 m_g m_kept m_spare m_was m_text m_told cI mg2 mk3 ms4 mh5 mw6 mw7 ma8 mt9 mt10 ml11 (ms12 + 1) mv13 me14 u40 mt16) hD hS hA [0, 1, 2, 3, 4, 5, 6] rfl
      refine va_calli (va_runV (As := [.int 64]) (rest := []) ⟨hx, hb, hml, hown, hts⟩ (c_X6_skips l dC dI cI cZ cC cJ cD m0 m_g m_kept m_spare m_was m_text m_told H42.size mg2 mk3 ms4 mh5 mw6 mw7 ma8 mt9 mt10 ml11 (ms12 + 1) mv13 me14 u40 mt16 (64 : Int32) (r43, (mg44, mk45, ms46, mh47, mw48, mw49, ma50, mt51, mt52, ml53, ms54, mv55, me56, mt57, mt58)) g60) (cwV 1 hts gX6_isRow_X6_skips rfl rfl rfl hs_X6_skips ⟨Nat.le_of_ble_eq_true rfl, Nat.le_of_ble_eq_true rfl⟩) (preV_ (ci := 8) (q0 := 0) hPc hK hDc rfl rfl rfl rfl) rfl rfl hl.1 rfl (lv_room (Nat.le_of_ble_eq_true rfl)) dX6_isRow_56 ⟨Nat.le_of_ble_eq_true rfl, Nat.le_of_ble_eq_true rfl⟩) hS (fun q _ h => hFc q h) hFc (fun z62 u t H61 locs ht hvm hw hB hz1 hk1 hS => ?_)
      have hw : r43 = z62 := hw.symm
      subst hw
      obtain ⟨hP, hD⟩ := aft_ (Wr := []) (Wc' := wM_ m0 m_g m_kept m_spare m_was m_text m_told cI mg44 mk45 ms46 mh47 mw48 mw49 ma50 mt51 mt52 ml53 ms54 mv55 me56 mt57 mt58) (W2 := wM_ m0 m_g m_kept m_spare m_was m_text m_told cI mg44 mk45 ms46 mh47 mw48 mw49 ma50 mt51 mt52 ml53 ms54 mv55 me56 mt57 mt58) hP hD [0, 1, 2, 3, 4, 5, 6] [] [0, 1, 2, 3, 4, 5, 6] rfl rfl (by decide) (by decide) (by decide) hk1 hFc hB ht rfl
      refine lv_if_eq (tgt := 70) hx hb dX6_isRow_59 (by decide) (fun c63 => ?_) (fun c63 => ?_)
      · have hf := ite_T c63 hf
        refine lv_iconst (v := 0) hx hb dX6_isRow_70 (by decide) ?_
        have hR := Option.some.inj hf
        subst hR
        exact W.zret (v := (0 : Int32)) hx hb hr (by decide) (fun t ht hW => ⟨⟨(0 : Int32), (), rfl, rfl, by rw [ht]; exact hP, va_K.moved hW.alike hK, hD⟩, hS.F ht⟩) hS.2.2 dX6_isRow_71
      · have hf := ite_F c63 hf
        refine lv_aload_n hx hb dX6_isRow_62 rfl (lv_at hl 0 rfl) ?_
        refine lv_iconst (v := 3) hx hb dX6_isRow_63 (by decide) ?_
        obtain ⟨R80, g81, hf⟩ := bd_B hf
        obtain ⟨r64, ⟨mg65, mk66, ms67, mh68, mw69, mw70, ma71, mt72, mt73, ml74, ms75, mv76, me77, mt78, mt79⟩⟩ := R80
        dsimp only at hf
        have hPc := hP
        have hDc := hD
        have hFc := va_free (wc := wM_ m0 m_g m_kept m_spare m_was m_text m_told cI mg44 mk45 ms46 mh47 mw48 mw49 ma50 mt51 mt52 ml53 ms54 mv55 me56 mt57 mt58) hD hS hA [0, 1, 2, 3, 4, 5, 6] rfl
        refine va_calli (va_runV (As := [.int 3]) (rest := []) ⟨hx, hb, hml, hown, hts⟩ (c_X6_number l dC dI cI cZ cC cJ cD m0 m_g m_kept m_spare m_was m_text m_told H61.size mg44 mk45 ms46 mh47 mw48 mw49 ma50 mt51 mt52 ml53 ms54 mv55 me56 mt57 mt58 (3 : Int32) (r64, (mg65, mk66, ms67, mh68, mw69, mw70, ma71, mt72, mt73, ml74, ms75, mv76, me77, mt78, mt79)) g81) (cwV 1 hts gX6_isRow_X6_number rfl rfl rfl hs_X6_number ⟨Nat.le_of_ble_eq_true rfl, Nat.le_of_ble_eq_true rfl⟩) (preV_ (ci := 8) (q0 := 0) hPc hK hDc rfl rfl rfl rfl) rfl rfl hl.1 rfl (lv_room (Nat.le_of_ble_eq_true rfl)) dX6_isRow_64 ⟨Nat.le_of_ble_eq_true rfl, Nat.le_of_ble_eq_true rfl⟩) hS (fun q _ h => hFc q h) hFc (fun z83 u t H82 locs ht hvm hw hB hz1 hk1 hS => ?_)
        have hw : r64 = z83 := hw.symm
        subst hw
        obtain ⟨hP, hD⟩ := aft_ (Wr := []) (Wc' := wM_ m0 m_g m_kept m_spare m_was m_text m_told cI mg65 mk66 ms67 mh68 mw69 mw70 ma71 mt72 mt73 ml74 ms75 mv76 me77 mt78 mt79) (W2 := wM_ m0 m_g m_kept m_spare m_was m_text m_told cI mg65 mk66 ms67 mh68 mw69 mw70 ma71 mt72 mt73 ml74 ms75 mv76 me77 mt78 mt79) hP hD [0, 1, 2, 3, 4, 5, 6] [] [0, 1, 2, 3, 4, 5, 6] rfl rfl (by decide) (by decide) (by decide) hk1 hFc hB ht rfl
        refine lv_if_ne (tgt := 72) hx hb dX6_isRow_67 (by decide) (fun c84 => ?_) (fun c84 => ?_)
        · have hf := ite_F c84 hf
          refine lv_aload_n hx hb dX6_isRow_72 rfl (lv_at hl 0 rfl) ?_
          refine va_get (D := (dC, dI)) (ci := 8) (v := .ref m_told) (C := RX6) (T := TX6) (N := 15) hx hb hts inX6_ hown hK hP 0 rfl rfl 13 (by decide) fl29_ (fun _ h9 => h9) rfl dX6_isRow_73 ?_
          refine lv_iconst (v := 3) hx hb dX6_isRow_76 (by decide) ?_
          refine lv_aload_n hx hb dX6_isRow_77 rfl (lv_at hl 0 rfl) ?_
          refine va_get (D := (dC, dI)) (ci := 8) (v := .int mt79) (C := RX6) (T := TX6) (N := 15) hx hb hts inX6_ hown hK hP 0 rfl rfl 14 (by decide) fl156_ (fun _ h9 => h9) rfl dX6_isRow_78 ?_
          refine lv_imul hx hb dX6_isRow_81 ?_
          refine lv_iconst (v := 1) hx hb dX6_isRow_82 (by decide) ?_
          refine lv_iadd hx hb dX6_isRow_83 ?_
          refine lv_aload_n hx hb dX6_isRow_84 rfl (lv_at hl 0 rfl) ?_
          refine va_get (D := (dC, dI)) (ci := 8) (v := .int mv76) (C := RX6) (T := TX6) (N := 15) hx hb hts inX6_ hown hK hP 0 rfl rfl 11 (by decide) fl150_ (fun _ h9 => h9) rfl dX6_isRow_85 ?_
          obtain ⟨h85, hf⟩ := gd_T hf
          refine va_iast hx hb hK hP hD hS 6 0 rfl rfl h85 dX6_isRow_88 (fun H86 locs hP hD hS => ?_)
          have hP : va_P (dC, dI) vwCl (wM_ m0 m_g m_kept m_spare m_was m_text m_told cI mg65 mk66 ms67 mh68 mw69 mw70 ma71 mt72 mt73 ml74 ms75 mv76 me77 (upd mt78 (((3 * mt79) + 1).toNatClampNeg) mv76) mt79) H86 := hP
          have hD : va_D A (wM_ m0 m_g m_kept m_spare m_was m_text m_told cI mg65 mk66 ms67 mh68 mw69 mw70 ma71 mt72 mt73 ml74 ms75 mv76 me77 (upd mt78 (((3 * mt79) + 1).toNatClampNeg) mv76) mt79) := hD
          obtain ⟨u87, e88, hf⟩ := nm_T hf
          rw [← e88] at hP hD
          refine lv_aload_n hx hb dX6_isRow_89 rfl (lv_at hl 0 rfl) ?_
          refine lv_bipush (v := 61) hx hb dX6_isRow_90 (by decide) ?_
          obtain ⟨R105, g106, hf⟩ := bd_B hf
          obtain ⟨r89, ⟨mg90, mk91, ms92, mh93, mw94, mw95, ma96, mt97, mt98, ml99, ms100, mv101, me102, mt103, mt104⟩⟩ := R105
          dsimp only at hf
          have hPc := hP
          have hDc := hD
          have hFc := va_free (wc := wM_ m0 m_g m_kept m_spare m_was m_text m_told cI mg65 mk66 ms67 mh68 mw69 mw70 ma71 mt72 mt73 ml74 ms75 mv76 me77 u87 mt79) hD hS hA [0, 1, 2, 3, 4, 5, 6] rfl
          refine va_calli (va_runV (As := [.int 61]) (rest := []) ⟨hx, hb, hml, hown, hts⟩ (c_X6_skips l dC dI cI cZ cC cJ cD m0 m_g m_kept m_spare m_was m_text m_told H86.size mg65 mk66 ms67 mh68 mw69 mw70 ma71 mt72 mt73 ml74 ms75 mv76 me77 u87 mt79 (61 : Int32) (r89, (mg90, mk91, ms92, mh93, mw94, mw95, ma96, mt97, mt98, ml99, ms100, mv101, me102, mt103, mt104)) g106) (cwV 1 hts gX6_isRow_X6_skips rfl rfl rfl hs_X6_skips ⟨Nat.le_of_ble_eq_true rfl, Nat.le_of_ble_eq_true rfl⟩) (preV_ (ci := 8) (q0 := 0) hPc hK hDc rfl rfl rfl rfl) rfl rfl hl.1 rfl (lv_room (Nat.le_of_ble_eq_true rfl)) dX6_isRow_92 ⟨Nat.le_of_ble_eq_true rfl, Nat.le_of_ble_eq_true rfl⟩) hS (fun q _ h => hFc q h) hFc (fun z108 u t H107 locs ht hvm hw hB hz1 hk1 hS => ?_)
          have hw : r89 = z108 := hw.symm
          subst hw
          obtain ⟨hP, hD⟩ := aft_ (Wr := []) (Wc' := wM_ m0 m_g m_kept m_spare m_was m_text m_told cI mg90 mk91 ms92 mh93 mw94 mw95 ma96 mt97 mt98 ml99 ms100 mv101 me102 mt103 mt104) (W2 := wM_ m0 m_g m_kept m_spare m_was m_text m_told cI mg90 mk91 ms92 mh93 mw94 mw95 ma96 mt97 mt98 ml99 ms100 mv101 me102 mt103 mt104) hP hD [0, 1, 2, 3, 4, 5, 6] [] [0, 1, 2, 3, 4, 5, 6] rfl rfl (by decide) (by decide) (by decide) hk1 hFc hB ht rfl
          refine lv_if_ne (tgt := 100) hx hb dX6_isRow_95 (by decide) (fun c109 => ?_) (fun c109 => ?_)
          · have hf := ite_F c109 hf
            refine lv_aload_n hx hb dX6_isRow_100 rfl (lv_at hl 0 rfl) ?_
            refine lv_bipush (v := 45) hx hb dX6_isRow_101 (by decide) ?_
            obtain ⟨R126, g127, hf⟩ := bd_B hf
            obtain ⟨r110, ⟨mg111, mk112, ms113, mh114, mw115, mw116, ma117, mt118, mt119, ml120, ms121, mv122, me123, mt124, mt125⟩⟩ := R126
            dsimp only at hf
            have hPc := hP
            have hDc := hD
            have hFc := va_free (wc := wM_ m0 m_g m_kept m_spare m_was m_text m_told cI mg90 mk91 ms92 mh93 mw94 mw95 ma96 mt97 mt98 ml99 ms100 mv101 me102 mt103 mt104) hD hS hA [0, 1, 2, 3, 4, 5, 6] rfl
            refine va_calli (va_runV (As := [.int 45]) (rest := []) ⟨hx, hb, hml, hown, hts⟩ (c_X6_skips l dC dI cI cZ cC cJ cD m0 m_g m_kept m_spare m_was m_text m_told H107.size mg90 mk91 ms92 mh93 mw94 mw95 ma96 mt97 mt98 ml99 ms100 mv101 me102 mt103 mt104 (45 : Int32) (r110, (mg111, mk112, ms113, mh114, mw115, mw116, ma117, mt118, mt119, ml120, ms121, mv122, me123, mt124, mt125)) g127) (cwV 1 hts gX6_isRow_X6_skips rfl rfl rfl hs_X6_skips ⟨Nat.le_of_ble_eq_true rfl, Nat.le_of_ble_eq_true rfl⟩) (preV_ (ci := 8) (q0 := 0) hPc hK hDc rfl rfl rfl rfl) rfl rfl hl.1 rfl (lv_room (Nat.le_of_ble_eq_true rfl)) dX6_isRow_103 ⟨Nat.le_of_ble_eq_true rfl, Nat.le_of_ble_eq_true rfl⟩) hS (fun q _ h => hFc q h) hFc (fun z129 u t H128 locs ht hvm hw hB hz1 hk1 hS => ?_)
            have hw : r110 = z129 := hw.symm
            subst hw
            obtain ⟨hP, hD⟩ := aft_ (Wr := []) (Wc' := wM_ m0 m_g m_kept m_spare m_was m_text m_told cI mg111 mk112 ms113 mh114 mw115 mw116 ma117 mt118 mt119 ml120 ms121 mv122 me123 mt124 mt125) (W2 := wM_ m0 m_g m_kept m_spare m_was m_text m_told cI mg111 mk112 ms113 mh114 mw115 mw116 ma117 mt118 mt119 ml120 ms121 mv122 me123 mt124 mt125) hP hD [0, 1, 2, 3, 4, 5, 6] [] [0, 1, 2, 3, 4, 5, 6] rfl rfl (by decide) (by decide) (by decide) hk1 hFc hB ht rfl
            refine lv_istore_n (lv' := [(1, .int r110), (0, .ref m0)]) hx hb dX6_isRow_106 rfl hl (by decide) rfl (fun ls hl => ?_)
            refine lv_aload_n hx hb dX6_isRow_107 rfl (lv_at hl 1 rfl) ?_
            refine lv_iconst (v := 3) hx hb dX6_isRow_108 (by decide) ?_
            obtain ⟨R146, g147, hf⟩ := bd_B hf
            obtain ⟨r130, ⟨mg131, mk132, ms133, mh134, mw135, mw136, ma137, mt138, mt139, ml140, ms141, mv142, me143, mt144, mt145⟩⟩ := R146
            dsimp only at hf
            have hPc := hP
            have hDc := hD
            have hFc := va_free (wc := wM_ m0 m_g m_kept m_spare m_was m_text m_told cI mg111 mk112 ms113 mh114 mw115 mw116 ma117 mt118 mt119 ml120 ms121 mv122 me123 mt124 mt125) hD hS hA [0, 1, 2, 3, 4, 5, 6] rfl
            refine va_calli (va_runV (As := [.int 3]) (rest := []) ⟨hx, hb, hml, hown, hts⟩ (c_X6_number l dC dI cI cZ cC cJ cD m0 m_g m_kept m_spare m_was m_text m_told H128.size mg111 mk112 ms113 mh114 mw115 mw116 ma117 mt118 mt119 ml120 ms121 mv122 me123 mt124 mt125 (3 : Int32) (r130, (mg131, mk132, ms133, mh134, mw135, mw136, ma137, mt138, mt139, ml140, ms141, mv142, me143, mt144, mt145)) g147) (cwV 1 hts gX6_isRow_X6_number rfl rfl rfl hs_X6_number ⟨Nat.le_of_ble_eq_true rfl, Nat.le_of_ble_eq_true rfl⟩) (preV_ (ci := 8) (q0 := 0) hPc hK hDc rfl rfl rfl rfl) rfl rfl hl.1 rfl (lv_room (Nat.le_of_ble_eq_true rfl)) dX6_isRow_109 ⟨Nat.le_of_ble_eq_true rfl, Nat.le_of_ble_eq_true rfl⟩) hS (fun q _ h => hFc q h) hFc (fun z149 u t H148 locs ht hvm hw hB hz1 hk1 hS => ?_)
            have hw : r130 = z149 := hw.symm
            subst hw
            obtain ⟨hP, hD⟩ := aft_ (Wr := []) (Wc' := wM_ m0 m_g m_kept m_spare m_was m_text m_told cI mg131 mk132 ms133 mh134 mw135 mw136 ma137 mt138 mt139 ml140 ms141 mv142 me143 mt144 mt145) (W2 := wM_ m0 m_g m_kept m_spare m_was m_text m_told cI mg131 mk132 ms133 mh134 mw135 mw136 ma137 mt138 mt139 ml140 ms141 mv142 me143 mt144 mt145) hP hD [0, 1, 2, 3, 4, 5, 6] [] [0, 1, 2, 3, 4, 5, 6] rfl rfl (by decide) (by decide) (by decide) hk1 hFc hB ht rfl
            refine lv_if_ne (tgt := 117) hx hb dX6_isRow_112 (by decide) (fun c150 => ?_) (fun c150 => ?_)
            · have hf := ite_F c150 hf
              refine lv_aload_n hx hb dX6_isRow_117 rfl (lv_at hl 1 rfl) ?_
              refine va_get (D := (dC, dI)) (ci := 8) (v := .ref m_told) (C := RX6) (T := TX6) (N := 15) hx hb hts inX6_ hown hK hP 0 rfl rfl 13 (by decide) fl29_ (fun _ h9 => h9) rfl dX6_isRow_118 ?_
              refine lv_iconst (v := 3) hx hb dX6_isRow_121 (by decide) ?_
              refine lv_aload_n hx hb dX6_isRow_122 rfl (lv_at hl 1 rfl) ?_
              refine va_get (D := (dC, dI)) (ci := 8) (v := .int mt145) (C := RX6) (T := TX6) (N := 15) hx hb hts inX6_ hown hK hP 0 rfl rfl 14 (by decide) fl156_ (fun _ h9 => h9) rfl dX6_isRow_123 ?_
              refine lv_imul hx hb dX6_isRow_126 ?_
              refine lv_iconst (v := 2) hx hb dX6_isRow_127 (by decide) ?_
              refine lv_iadd hx hb dX6_isRow_128 ?_
              refine lv_iload_n hx hb dX6_isRow_129 rfl (lv_at hl 0 rfl) ?_
              refine lv_if_eq (tgt := 141) hx hb dX6_isRow_130 (by decide) (fun c151 => ?_) (fun c151 => ?_)
              · have hf := ite_T c151 hf
                refine lv_aload_n hx hb dX6_isRow_141 rfl (lv_at hl 1 rfl) ?_
                refine va_get (D := (dC, dI)) (ci := 8) (v := .int mv142) (C := RX6) (T := TX6) (N := 15) hx hb hts inX6_ hown hK hP 0 rfl rfl 11 (by decide) fl150_ (fun _ h9 => h9) rfl dX6_isRow_142 ?_
                obtain ⟨h152, hf⟩ := gd_T hf
                refine va_iast hx hb hK hP hD hS 6 0 rfl rfl h152 dX6_isRow_145 (fun H153 locs hP hD hS => ?_)
                have hP : va_P (dC, dI) vwCl (wM_ m0 m_g m_kept m_spare m_was m_text m_told cI mg131 mk132 ms133 mh134 mw135 mw136 ma137 mt138 mt139 ml140 ms141 mv142 me143 (upd mt144 (((3 * mt145) + 2).toNatClampNeg) mv142) mt145) H153 := hP
                have hD : va_D A (wM_ m0 m_g m_kept m_spare m_was m_text m_told cI mg131 mk132 ms133 mh134 mw135 mw136 ma137 mt138 mt139 ml140 ms141 mv142 me143 (upd mt144 (((3 * mt145) + 2).toNatClampNeg) mv142) mt145) := hD
                obtain ⟨u154, e155, hf⟩ := nm_T hf
                rw [← e155] at hP hD
                refine lv_aload_n hx hb dX6_isRow_146 rfl (lv_at hl 1 rfl) ?_
                refine lv_dup hx hb dX6_isRow_147 rfl ?_
                refine va_get (D := (dC, dI)) (ci := 8) (v := .int mt145) (C := RX6) (T := TX6) (N := 15) hx hb hts inX6_ hown hK hP 0 rfl rfl 14 (by decide) fl156_ (fun _ h9 => h9) rfl dX6_isRow_148 ?_
                refine lv_iconst (v := 1) hx hb dX6_isRow_151 (by decide) ?_
                refine lv_iadd hx hb dX6_isRow_152 ?_
                refine va_put (D := (dC, dI)) (ci := 8) (v := .int (mt145 + 1)) (ty := .int) (C := RX6) (T := TX6) (N := 15) hx hb hts inX6_ tyX6 tyX6_ok nmX6 hown hK hP hD hS 0 rfl rfl 14 (by decide) fl156_ (fun _ h9 => h9) rfl (by decide +kernel) (by first | rfl | decide) (by first | rfl | decide) (Nat.le_of_ble_eq_true rfl) dX6_isRow_153 (fun H156 locs hP hD hS => ?_)
                have hP : va_P (dC, dI) vwCl (wM_ m0 m_g m_kept m_spare m_was m_text m_told cI mg131 mk132 ms133 mh134 mw135 mw136 ma137 mt138 mt139 ml140 ms141 mv142 me143 u154 (mt145 + 1)) H156 := hP
                have hD : va_D A (wM_ m0 m_g m_kept m_spare m_was m_text m_told cI mg131 mk132 ms133 mh134 mw135 mw136 ma137 mt138 mt139 ml140 ms141 mv142 me143 u154 (mt145 + 1)) := hD
                refine lv_iconst (v := 1) hx hb dX6_isRow_156 (by decide) ?_
                have hR := Option.some.inj hf
                subst hR
                exact W.zret (v := (1 : Int32)) hx hb hr (by decide) (fun t ht hW => ⟨⟨(1 : Int32), (), rfl, rfl, by rw [ht]; exact hP, va_K.moved hW.alike hK, hD⟩, hS.F ht⟩) hS.2.2 dX6_isRow_157
              · have hf := ite_F c151 hf
                refine lv_aload_n hx hb dX6_isRow_133 rfl (lv_at hl 1 rfl) ?_
                refine va_get (D := (dC, dI)) (ci := 8) (v := .int mv142) (C := RX6) (T := TX6) (N := 15) hx hb hts inX6_ hown hK hP 0 rfl rfl 11 (by decide) fl150_ (fun _ h9 => h9) rfl dX6_isRow_134 ?_
                refine lv_ineg hx hb dX6_isRow_137 ?_
                refine lv_goto (tgt := 145) hx hb dX6_isRow_138 (by decide) ?_
                obtain ⟨h157, hf⟩ := gd_T hf
                refine va_iast hx hb hK hP hD hS 6 0 rfl rfl h157 dX6_isRow_145 (fun H158 locs hP hD hS => ?_)
                have hP : va_P (dC, dI) vwCl (wM_ m0 m_g m_kept m_spare m_was m_text m_told cI mg131 mk132 ms133 mh134 mw135 mw136 ma137 mt138 mt139 ml140 ms141 mv142 me143 (upd mt144 (((3 * mt145) + 2).toNatClampNeg) (-mv142)) mt145) H158 := hP
                have hD : va_D A (wM_ m0 m_g m_kept m_spare m_was m_text m_told cI mg131 mk132 ms133 mh134 mw135 mw136 ma137 mt138 mt139 ml140 ms141 mv142 me143 (upd mt144 (((3 * mt145) + 2).toNatClampNeg) (-mv142)) mt145) := hD
                obtain ⟨u159, e160, hf⟩ := nm_T hf
                rw [← e160] at hP hD
                refine lv_aload_n hx hb dX6_isRow_146 rfl (lv_at hl 1 rfl) ?_
                refine lv_dup hx hb dX6_isRow_147 rfl ?_
                refine va_get (D := (dC, dI)) (ci := 8) (v := .int mt145) (C := RX6) (T := TX6) (N := 15) hx hb hts inX6_ hown hK hP 0 rfl rfl 14 (by decide) fl156_ (fun _ h9 => h9) rfl dX6_isRow_148 ?_
                refine lv_iconst (v := 1) hx hb dX6_isRow_151 (by decide) ?_
                refine lv_iadd hx hb dX6_isRow_152 ?_
                refine va_put (D := (dC, dI)) (ci := 8) (v := .int (mt145 + 1)) (ty := .int) (C := RX6) (T := TX6) (N := 15) hx hb hts inX6_ tyX6 tyX6_ok nmX6 hown hK hP hD hS 0 rfl rfl 14 (by decide) fl156_ (fun _ h9 => h9) rfl (by decide +kernel) (by first | rfl | decide) (by first | rfl | decide) (Nat.le_of_ble_eq_true rfl) dX6_isRow_153 (fun H161 locs hP hD hS => ?_)
                have hP : va_P (dC, dI) vwCl (wM_ m0 m_g m_kept m_spare m_was m_text m_told cI mg131 mk132 ms133 mh134 mw135 mw136 ma137 mt138 mt139 ml140 ms141 mv142 me143 u159 (mt145 + 1)) H161 := hP
                have hD : va_D A (wM_ m0 m_g m_kept m_spare m_was m_text m_told cI mg131 mk132 ms133 mh134 mw135 mw136 ma137 mt138 mt139 ml140 ms141 mv142 me143 u159 (mt145 + 1)) := hD
                refine lv_iconst (v := 1) hx hb dX6_isRow_156 (by decide) ?_
                have hR := Option.some.inj hf
                subst hR
                exact W.zret (v := (1 : Int32)) hx hb hr (by decide) (fun t ht hW => ⟨⟨(1 : Int32), (), rfl, rfl, by rw [ht]; exact hP, va_K.moved hW.alike hK, hD⟩, hS.F ht⟩) hS.2.2 dX6_isRow_157
            · have hf := ite_T c150 hf
              refine lv_iconst (v := 0) hx hb dX6_isRow_115 (by decide) ?_
              have hR := Option.some.inj hf
              subst hR
              exact W.zret (v := (0 : Int32)) hx hb hr (by decide) (fun t ht hW => ⟨⟨(0 : Int32), (), rfl, rfl, by rw [ht]; exact hP, va_K.moved hW.alike hK, hD⟩, hS.F ht⟩) hS.2.2 dX6_isRow_116
          · have hf := ite_T c109 hf
            refine lv_iconst (v := 0) hx hb dX6_isRow_98 (by decide) ?_
            have hR := Option.some.inj hf
            subst hR
            exact W.zret (v := (0 : Int32)) hx hb hr (by decide) (fun t ht hW => ⟨⟨(0 : Int32), (), rfl, rfl, by rw [ht]; exact hP, va_K.moved hW.alike hK, hD⟩, hS.F ht⟩) hS.2.2 dX6_isRow_99
        · have hf := ite_T c84 hf
          refine lv_iconst (v := 0) hx hb dX6_isRow_70 (by decide) ?_
          have hR := Option.some.inj hf
          subst hR
          exact W.zret (v := (0 : Int32)) hx hb hr (by decide) (fun t ht hW => ⟨⟨(0 : Int32), (), rfl, rfl, by rw [ht]; exact hP, va_K.moved hW.alike hK, hD⟩, hS.F ht⟩) hS.2.2 dX6_isRow_71
    · have hf := ite_T c32 hf
      refine lv_iconst (v := 0) hx hb dX6_isRow_23 (by decide) ?_
      have hR := Option.some.inj hf
      subst hR
      exact W.zret (v := (0 : Int32)) hx hb hr (by decide) (fun t ht hW => ⟨⟨(0 : Int32), (), rfl, rfl, by rw [ht]; exact hP, va_K.moved hW.alike hK, hD⟩, hS.F ht⟩) hS.2.2 dX6_isRow_24
theorem hs_X6_isRow : yX6_isRow.cls = RX6 ∧ yX6_isRow.cls ≠ "java/lang/invoke/MethodHandle" ∧ yX6_isRow.cls ≠ "java/lang/invoke/VarHandle" ∧ (parseMethodDescriptor yX6_isRow.desc).map (fun d => d.parameters.length) = some 0 := by decide +kernel
