set_option maxRecDepth 20000 in
theorem in_X6_faultOf_X6 : ∀ w ∈ wsX60, w ∈ wsX6_faultOf := by decide +kernel
def f_X6_faultOf_S10 (k_ : tM_ → Option (Int32 × tM_))  (M_ : tM_) : Option (Int32 × tM_) :=
match M_ with
| (mg, mkept, mspare, mhasKept, mwas, mwasMany, manew, mthrown, mtext, mlength, mspot, mvalue, merror, mtold, mtolds) =>
bd_ (f_X6_isRow (mg, mkept, mspare, mhasKept, mwas, mwasMany, manew, mthrown, mtext, mlength, mspot, mvalue, merror, mtold, mtolds)) (fun (r4, (mg5, mk6, ms7, mh8, mw9, mw10, ma11, mt12, mt13, ml14, ms15, mv16, me17, mt18, mt19)) =>
if r4 = 0 then
some (ms15, (mg5, mk6, ms7, mh8, mw9, mw10, ma11, mt12, mt13, ml14, ms15, mv16, me17, mt18, mt19))
else
bd_ (f_X6_skips (44 : Int32) (mg5, mk6, ms7, mh8, mw9, mw10, ma11, mt12, mt13, ml14, ms15, mv16, me17, mt18, mt19)) (fun (r25, (mg26, mk27, ms28, mh29, mw30, mw31, ma32, mt33, mt34, ml35, ms36, mv37, me38, mt39, mt40)) =>
if r25 = 0 then
if ml35 ≤ ms36 then
some ((-1 : Int32), (mg26, mk27, ms28, mh29, mw30, mw31, ma32, mt33, mt34, ml35, ms36, mv37, me38, mt39, mt40))
else
some (ms36, (mg26, mk27, ms28, mh29, mw30, mw31, ma32, mt33, mt34, ml35, ms36, mv37, me38, mt39, mt40))
else
k_ (mg26, mk27, ms28, mh29, mw30, mw31, ma32, mt33, mt34, ml35, ms36, mv37, me38, mt39, mt40)))
def f_X6_faultOf_L10 : Nat → tM_ → Option (Int32 × tM_)
  | 0 => fun _ => none
  | n + 1 => fun M_ => f_X6_faultOf_S10 (f_X6_faultOf_L10 n) M_
def f_X6_faultOf  (M_ : tM_) : Option (Int32 × tM_) :=
match M_ with
| (mg, mkept, mspare, mhasKept, mwas, mwasMany, manew, mthrown, mtext, mlength, mspot, mvalue, merror, mtold, mtolds) =>
f_X6_faultOf_L10 fu_ (mg, mkept, mspare, mhasKept, mwas, mwasMany, manew, mthrown, mtext, mlength, 0, mvalue, merror, mtold, 0)
abbrev rm_X6_faultOf : Room := { frames := 3, cells := 0, slots := 0, locals := 65 }
set_option maxHeartbeats 4000000 in
set_option maxRecDepth 100000 in
theorem c_X6_faultOf (l : Launch) (dC : Nat → ClassId) (dI : Nat → Nat → Nat) (cI cZ cC cJ cD : ClassId) (m0 m_g m_kept m_spare m_was m_text m_told : Nat) (sz : Nat) (mg : Nat → Int32) (mkept : Nat → Int32) (mspare : Nat → Int32) (mhasKept : Int32) (mwas : Nat → Int32) (mwasMany : Int32) (manew : Int32) (mthrown : Int32) (mtext : Nat → Int32) (mlength : Int32) (mspot : Int32) (mvalue : Int32) (merror : Int32) (mtold : Nat → Int32) (mtolds : Int32)  (R : Int32 × tM_) (hf : f_X6_faultOf  (mg, mkept, mspare, mhasKept, mwas, mwasMany, manew, mthrown, mtext, mlength, mspot, mvalue, merror, mtold, mtolds) = some R) : Met l yX6_faultOf wsX6_faultOf rm_X6_faultOf (Pc_ (dC, dI) (ty_ cI cZ cC cJ cD) (wM_ m0 m_g m_kept m_spare m_was m_text m_told cI mg mkept mspare mhasKept mwas mwasMany manew mthrown mtext mlength mspot mvalue merror mtold mtolds) sz [.ref m0]) (Qi_ (dC, dI) (ty_ cI cZ cC cJ cD) R.1 (wM_ m0 m_g m_kept m_spare m_was m_text m_told cI R.2.1 R.2.2.1 R.2.2.2.1 R.2.2.2.2.1 R.2.2.2.2.2.1 R.2.2.2.2.2.2.1 R.2.2.2.2.2.2.2.1 R.2.2.2.2.2.2.2.2.1 R.2.2.2.2.2.2.2.2.2.1 R.2.2.2.2.2.2.2.2.2.2.1 R.2.2.2.2.2.2.2.2.2.2.2.1 R.2.2.2.2.2.2.2.2.2.2.2.2.1 R.2.2.2.2.2.2.2.2.2.2.2.2.2.1 R.2.2.2.2.2.2.2.2.2.2.2.2.2.2.1 R.2.2.2.2.2.2.2.2.2.2.2.2.2.2.2) (va_A (wM_ m0 m_g m_kept m_spare m_was m_text m_told cI mg mkept mspare mhasKept mwas mwasMany manew mthrown mtext mlength mspot mvalue merror mtold mtolds) sz)) 0 0 (va_A (wM_ m0 m_g m_kept m_spare m_was m_text m_told cI mg mkept mspare mhasKept mwas mwasMany manew mthrown mtext mlength mspot mvalue merror mtold mtolds) sz) := by
  refine met_ (cc := cX6_faultOf) (maxL := 1) (ret := (some .int)) (Qcf := fun A => Qi_ (dC, dI) (ty_ cI cZ cC cJ cD) R.1 (wM_ m0 m_g m_kept m_spare m_was m_text m_told cI R.2.1 R.2.2.1 R.2.2.2.1 R.2.2.2.2.1 R.2.2.2.2.2.1 R.2.2.2.2.2.2.1 R.2.2.2.2.2.2.2.1 R.2.2.2.2.2.2.2.2.1 R.2.2.2.2.2.2.2.2.2.1 R.2.2.2.2.2.2.2.2.2.2.1 R.2.2.2.2.2.2.2.2.2.2.2.1 R.2.2.2.2.2.2.2.2.2.2.2.2.1 R.2.2.2.2.2.2.2.2.2.2.2.2.2.1 R.2.2.2.2.2.2.2.2.2.2.2.2.2.2.1 R.2.2.2.2.2.2.2.2.2.2.2.2.2.2.2) A) (by decide) rfl (Nat.le_of_ble_eq_true rfl) ?_
  intro p e s m args below meth c A ls hx hb hr hts hown hlocks hml hA hP hK hD hl
  have hown : s.vm.findClass RX6 = some m.cls := hown
  have hl : lv_has ls 1 [(0, .ref m0)] := hl
  have hS : va_S A s.heap s.heap [] := va_S.rf
  have fl141_ : (Cond.fieldLink RX6 141 "DimensionLoaderModel" "length" "I").before args s = true := hts _ (List.mem_of_getElem? (i := 3) rfl)
  have fl144_ : (Cond.fieldLink RX6 144 "DimensionLoaderModel" "spot" "I").before args s = true := hts _ (List.mem_of_getElem? (i := 1) rfl)
  have fl156_ : (Cond.fieldLink RX6 156 "DimensionLoaderModel" "tolds" "I").before args s = true := hts _ (List.mem_of_getElem? (i := 2) rfl)
  have inX6_ : ∀ w ∈ wsX60, w ∈ wsX6_faultOf := in_X6_faultOf_X6
  unfold f_X6_faultOf at hf
  dsimp only at hf
  refine lv_aload_n hx hb dX6_faultOf_0 rfl (lv_at hl 0 rfl) ?_
  refine lv_iconst (v := 0) hx hb dX6_faultOf_1 (by decide) ?_
  refine va_put (D := (dC, dI)) (ci := 8) (v := .int 0) (ty := .int) (C := RX6) (T := TX6) (N := 15) hx hb hts inX6_ tyX6 tyX6_ok nmX6 hown hK hP hD hS 0 rfl rfl 10 (by decide) fl144_ (fun _ h9 => h9) rfl (by decide +kernel) (by first | rfl | decide) (by first | rfl | decide) (Nat.le_of_ble_eq_true rfl) dX6_faultOf_2 (fun H1 locs hP hD hS => ?_)
  have hP : va_P (dC, dI) vwCl (wM_ m0 m_g m_kept m_spare m_was m_text m_told cI mg mkept mspare mhasKept mwas mwasMany manew mthrown mtext mlength 0 mvalue merror mtold mtolds) H1 := hP
  have hD : va_D A (wM_ m0 m_g m_kept m_spare m_was m_text m_told cI mg mkept mspare mhasKept mwas mwasMany manew mthrown mtext mlength 0 mvalue merror mtold mtolds) := hD
  refine lv_aload_n hx hb dX6_faultOf_5 rfl (lv_at hl 0 rfl) ?_
  refine lv_iconst (v := 0) hx hb dX6_faultOf_6 (by decide) ?_
  refine va_put (D := (dC, dI)) (ci := 8) (v := .int 0) (ty := .int) (C := RX6) (T := TX6) (N := 15) hx hb hts inX6_ tyX6 tyX6_ok nmX6 hown hK hP hD hS 0 rfl rfl 14 (by decide) fl156_ (fun _ h9 => h9) rfl (by decide +kernel) (by first | rfl | decide) (by first | rfl | decide) (Nat.le_of_ble_eq_true rfl) dX6_faultOf_7 (fun H2 locs hP hD hS => ?_)
  have hP : va_P (dC, dI) vwCl (wM_ m0 m_g m_kept m_spare m_was m_text m_told cI mg mkept mspare mhasKept mwas mwasMany manew mthrown mtext mlength 0 mvalue merror mtold 0) H2 := hP
  have hD : va_D A (wM_ m0 m_g m_kept m_spare m_was m_text m_told cI mg mkept mspare mhasKept mwas mwasMany manew mthrown mtext mlength 0 mvalue merror mtold 0) := hD
  have lp10 : ∀ (n : Nat)  (mg : Nat → Int32) (mkept : Nat → Int32) (mspare : Nat → Int32) (mhasKept : Int32) (mwas : Nat → Int32) (mwasMany : Int32) (manew : Int32) (mthrown : Int32) (mtext : Nat → Int32) (mlength : Int32) (mspot : Int32) (mvalue : Int32) (merror : Int32) (mtold : Nat → Int32) (mtolds : Int32) (H3 : Heap) (locs : List Loc) (ls : Array Slot), f_X6_faultOf_L10 n  (mg, mkept, mspare, mhasKept, mwas, mwasMany, manew, mthrown, mtext, mlength, mspot, mvalue, merror, mtold, mtolds) = some R → va_P (dC, dI) vwCl (wM_ m0 m_g m_kept m_spare m_was m_text m_told cI mg mkept mspare mhasKept mwas mwasMany manew mthrown mtext mlength mspot mvalue merror mtold mtolds) H3 → va_D A (wM_ m0 m_g m_kept m_spare m_was m_text m_told cI mg mkept mspare mhasKept mwas mwasMany manew mthrown mtext mlength mspot mvalue merror mtold mtolds) → va_S A s.heap H3 locs → lv_has ls 1 [(0, .ref m0)] → W p l e (headSpec wsX6_faultOf rm_X6_faultOf).room s m args below meth c H3 locs 0 0 (MQ below (Qi_ (dC, dI) (ty_ cI cZ cC cJ cD) R.1 (wM_ m0 m_g m_kept m_spare m_was m_text m_told cI R.2.1 R.2.2.1 R.2.2.2.1 R.2.2.2.2.1 R.2.2.2.2.2.1 R.2.2.2.2.2.2.1 R.2.2.2.2.2.2.2.1 R.2.2.2.2.2.2.2.2.1 R.2.2.2.2.2.2.2.2.2.1 R.2.2.2.2.2.2.2.2.2.2.1 R.2.2.2.2.2.2.2.2.2.2.2.1 R.2.2.2.2.2.2.2.2.2.2.2.2.1 R.2.2.2.2.2.2.2.2.2.2.2.2.2.1 R.2.2.2.2.2.2.2.2.2.2.2.2.2.2.1 R.2.2.2.2.2.2.2.2.2.2.2.2.2.2.2) A) args s 0 0 A) (F0 m 10 ls []) := by
    intro n
    induction n with
    | zero => intro  mg mkept mspare mhasKept mwas mwasMany manew mthrown mtext mlength mspot mvalue merror mtold mtolds H3 locs ls hf hP hD hS hl; exact absurd hf (by simp [f_X6_faultOf_L10])
    | succ n ih =>
      intro  mg mkept mspare mhasKept mwas mwasMany manew mthrown mtext mlength mspot mvalue merror mtold mtolds H3 locs ls hf hP hD hS hl
      have hf : f_X6_faultOf_S10 (f_X6_faultOf_L10 n)  (mg, mkept, mspare, mhasKept, mwas, mwasMany, manew, mthrown, mtext, mlength, mspot, mvalue, merror, mtold, mtolds) = some R := hf
      unfold f_X6_faultOf_S10 at hf
      dsimp only at hf
      refine lv_aload_n hx hb dX6_faultOf_10 rfl (lv_at hl 0 rfl) ?_
      obtain ⟨R20, g21, hf⟩ := bd_B hf
      obtain ⟨r4, ⟨mg5, mk6, ms7, mh8, mw9, mw10, ma11, mt12, mt13, ml14, ms15, mv16, me17, mt18, mt19⟩⟩ := R20
      dsimp only at hf
      have hPc := hP
      have hDc := hD
      have hFc := va_free (wc := wM_ m0 m_g m_kept m_spare m_was m_text m_told cI mg mkept mspare mhasKept mwas mwasMany manew mthrown mtext mlength mspot mvalue merror mtold mtolds) hD hS hA [0, 1, 2, 3, 4, 5, 6] rfl
      refine va_calli (va_runV (As := []) (rest := []) ⟨hx, hb, hml, hown, hts⟩ (c_X6_isRow l dC dI cI cZ cC cJ cD m0 m_g m_kept m_spare m_was m_text m_told H3.size mg mkept mspare mhasKept mwas mwasMany manew mthrown mtext mlength mspot mvalue merror mtold mtolds (r4, (mg5, mk6, ms7, mh8, mw9, mw10, ma11, mt12, mt13, ml14, ms15, mv16, me17, mt18, mt19)) g21) (cwV 0 hts gX6_faultOf_X6_isRow rfl rfl rfl hs_X6_isRow ⟨Nat.le_of_ble_eq_true rfl, Nat.le_of_ble_eq_true rfl⟩) (preV_ (ci := 8) (q0 := 0) hPc hK hDc rfl rfl rfl rfl) rfl rfl hl.1 rfl (lv_room (Nat.le_of_ble_eq_true rfl)) dX6_faultOf_11 ⟨Nat.le_of_ble_eq_true rfl, Nat.le_of_ble_eq_true rfl⟩) hS (fun q _ h => hFc q h) hFc (fun z23 u t H22 locs ht hvm hw hB hz1 hk1 hS => ?_)
      have hw : r4 = z23 := hw.symm
      subst hw
      obtain ⟨hP, hD⟩ := aft_ (Wr := []) (Wc' := wM_ m0 m_g m_kept m_spare m_was m_text m_told cI mg5 mk6 ms7 mh8 mw9 mw10 ma11 mt12 mt13 ml14 ms15 mv16 me17 mt18 mt19) (W2 := wM_ m0 m_g m_kept m_spare m_was m_text m_told cI mg5 mk6 ms7 mh8 mw9 mw10 ma11 mt12 mt13 ml14 ms15 mv16 me17 mt18 mt19) hP hD [0, 1, 2, 3, 4, 5, 6] [] [0, 1, 2, 3, 4, 5, 6] rfl rfl (by decide) (by decide) (by decide) hk1 hFc hB ht rfl
      refine lv_if_ne (tgt := 22) hx hb dX6_faultOf_14 (by decide) (fun c24 => ?_) (fun c24 => ?_)
      · have hf := ite_F c24 hf
        refine lv_aload_n hx hb dX6_faultOf_22 rfl (lv_at hl 0 rfl) ?_
        refine lv_bipush (v := 44) hx hb dX6_faultOf_23 (by decide) ?_
        obtain ⟨R41, g42, hf⟩ := bd_B hf
        obtain ⟨r25, ⟨mg26, mk27, ms28, mh29, mw30, mw31, ma32, mt33, mt34, ml35, ms36, mv37, me38, mt39, mt40⟩⟩ := R41
        dsimp only at hf
        have hPc := hP
        have hDc := hD
        have hFc := va_free (wc := wM_ m0 m_g m_kept m_spare m_was m_text m_told cI mg5 mk6 ms7 mh8 mw9 mw10 ma11 mt12 mt13 ml14 ms15 mv16 me17 mt18 mt19) hD hS hA [0, 1, 2, 3, 4, 5, 6] rfl
        refine va_calli (va_runV (As := [.int 44]) (rest := []) ⟨hx, hb, hml, hown, hts⟩ (c_X6_skips l dC dI cI cZ cC cJ cD m0 m_g m_kept m_spare m_was m_text m_told H22.size mg5 mk6 ms7 mh8 mw9 mw10 ma11 mt12 mt13 ml14 ms15 mv16 me17 mt18 mt19 (44 : Int32) (r25, (mg26, mk27, ms28, mh29, mw30, mw31, ma32, mt33, mt34, ml35, ms36, mv37, me38, mt39, mt40)) g42) (cwV 1 hts gX6_faultOf_X6_skips rfl rfl rfl hs_X6_skips ⟨Nat.le_of_ble_eq_true rfl, Nat.le_of_ble_eq_true rfl⟩) (preV_ (ci := 8) (q0 := 0) hPc hK hDc rfl rfl rfl rfl) rfl rfl hl.1 rfl (lv_room (Nat.le_of_ble_eq_true rfl)) dX6_faultOf_25 ⟨Nat.le_of_ble_eq_true rfl, Nat.le_of_ble_eq_true rfl⟩) hS (fun q _ h => hFc q h) hFc (fun z44 u t H43 locs ht hvm hw hB hz1 hk1 hS => ?_)
        have hw : r25 = z44 := hw.symm
        subst hw
        obtain ⟨hP, hD⟩ := aft_ (Wr := []) (Wc' := wM_ m0 m_g m_kept m_spare m_was m_text m_told cI mg26 mk27 ms28 mh29 mw30 mw31 ma32 mt33 mt34 ml35 ms36 mv37 me38 mt39 mt40) (W2 := wM_ m0 m_g m_kept m_spare m_was m_text m_told cI mg26 mk27 ms28 mh29 mw30 mw31 ma32 mt33 mt34 ml35 ms36 mv37 me38 mt39 mt40) hP hD [0, 1, 2, 3, 4, 5, 6] [] [0, 1, 2, 3, 4, 5, 6] rfl rfl (by decide) (by decide) (by decide) hk1 hFc hB ht rfl
        refine lv_if_ne (tgt := 10) hx hb dX6_faultOf_28 (by decide) (fun c45 => ?_) (fun c45 => ?_)
        · have hf := ite_F c45 hf
          exact ih mg26 mk27 ms28 mh29 mw30 mw31 ma32 mt33 mt34 ml35 ms36 mv37 me38 mt39 mt40 _ _ _ hf hP hD hS (lv_sub hl [0] rfl)
        · have hf := ite_T c45 hf
          refine lv_aload_n hx hb dX6_faultOf_31 rfl (lv_at hl 0 rfl) ?_
          refine va_get (D := (dC, dI)) (ci := 8) (v := .int ms36) (C := RX6) (T := TX6) (N := 15) hx hb hts inX6_ hown hK hP 0 rfl rfl 10 (by decide) fl144_ (fun _ h9 => h9) rfl dX6_faultOf_32 ?_
          refine lv_aload_n hx hb dX6_faultOf_35 rfl (lv_at hl 0 rfl) ?_
          refine va_get (D := (dC, dI)) (ci := 8) (v := .int ml35) (C := RX6) (T := TX6) (N := 15) hx hb hts inX6_ hown hK hP 0 rfl rfl 9 (by decide) fl141_ (fun _ h9 => h9) rfl dX6_faultOf_36 ?_
          refine lv_icmp_ge (tgt := 49) hx hb dX6_faultOf_39 (by decide) (fun c46 => ?_) (fun c46 => ?_)
          · have hf := ite_T c46 hf
            refine lv_iconst (v := (-1)) hx hb dX6_faultOf_49 (by decide) ?_
            have hR := Option.some.inj hf
            subst hR
            exact W.iret (v := (-1 : Int32)) hx hb hr (fun t ht hW => ⟨⟨(-1 : Int32), (), rfl, rfl, by rw [ht]; exact hP, va_K.moved hW.alike hK, hD⟩, hS.F ht⟩) hS.2.2 dX6_faultOf_50
          · have hf := ite_F c46 hf
            refine lv_aload_n hx hb dX6_faultOf_42 rfl (lv_at hl 0 rfl) ?_
            refine va_get (D := (dC, dI)) (ci := 8) (v := .int ms36) (C := RX6) (T := TX6) (N := 15) hx hb hts inX6_ hown hK hP 0 rfl rfl 10 (by decide) fl144_ (fun _ h9 => h9) rfl dX6_faultOf_43 ?_
            refine lv_goto (tgt := 50) hx hb dX6_faultOf_46 (by decide) ?_
            have hR := Option.some.inj hf
            subst hR
            exact W.iret (v := ms36) hx hb hr (fun t ht hW => ⟨⟨ms36, (), rfl, rfl, by rw [ht]; exact hP, va_K.moved hW.alike hK, hD⟩, hS.F ht⟩) hS.2.2 dX6_faultOf_50
      · have hf := ite_T c24 hf
        refine lv_aload_n hx hb dX6_faultOf_17 rfl (lv_at hl 0 rfl) ?_
        refine va_get (D := (dC, dI)) (ci := 8) (v := .int ms15) (C := RX6) (T := TX6) (N := 15) hx hb hts inX6_ hown hK hP 0 rfl rfl 10 (by decide) fl144_ (fun _ h9 => h9) rfl dX6_faultOf_18 ?_
        have hR := Option.some.inj hf
        subst hR
        exact W.iret (v := ms15) hx hb hr (fun t ht hW => ⟨⟨ms15, (), rfl, rfl, by rw [ht]; exact hP, va_K.moved hW.alike hK, hD⟩, hS.F ht⟩) hS.2.2 dX6_faultOf_21
  exact lp10 fu_ mg mkept mspare mhasKept mwas mwasMany manew mthrown mtext mlength (0 : Int32) mvalue merror mtold (0 : Int32) _ _ _ hf hP hD hS hl
theorem hs_X6_faultOf : yX6_faultOf.cls = RX6 ∧ yX6_faultOf.cls ≠ "java/lang/invoke/MethodHandle" ∧ yX6_faultOf.cls ≠ "java/lang/invoke/VarHandle" ∧ (parseMethodDescriptor yX6_faultOf.desc).map (fun d => d.parameters.length) = some 0 := by decide +kernel
set_option maxRecDepth 20000 in
theorem in_X6_read_X6 : ∀ w ∈ wsX60, w ∈ wsX6_read := by decide +kernel
def f_X6_read_S40 (k_ : Int32 → Int32 → tM_ → Option (Int32 × tM_)) (l2 : Int32) (l1 : Int32) (M_ : tM_) : Option (Int32 × tM_) :=
match M_ with
| (mg, mkept, mspare, mhasKept, mwas, mwasMany, manew, mthrown, mtext, mlength, mspot, mvalue, merror, mtold, mtolds) =>
if mtolds ≤ l2 then
bd_ (f_X6_ends (mg, mkept, mspare, mhasKept, mwas, mwasMany, manew, mthrown, mtext, mlength, mspot, mvalue, merror, mtold, mtolds)) (fun (mg64, mk65, ms66, mh67, mw68, mw69, ma70, mt71, mt72, ml73, ms74, mv75, me76, mt77, mt78) =>
some (mt78, (mg64, mk65, ms66, mh67, mw68, mw69, ma70, mt71, mt72, ml73, ms74, mv75, me76, mt77, mt78)))
else
gd_ (3 * l2) 30 (
gd_ ((3 * l2) + 1) 30 (
gd_ ((3 * l2) + 2) 30 (
bd_ (f_X6_changes (mtold ((3 * l2).toNatClampNeg)) (mtold (((3 * l2) + 1).toNatClampNeg)) (mtold (((3 * l2) + 2).toNatClampNeg)) (mg, mkept, mspare, mhasKept, mwas, mwasMany, manew, mthrown, mtext, mlength, mspot, mvalue, merror, mtold, mtolds)) (fun (r86, (mg87, mk88, ms89, mh90, mw91, mw92, ma93, mt94, mt95, ml96, ms97, mv98, me99, mt100, mt101)) =>
if 0 ≤ r86 then
k_ (l2 + 1) l1 (mg87, mk88, ms89, mh90, mw91, mw92, ma93, mt94, mt95, ml96, ms97, mv98, me99, mt100, mt101)
else
bd_ (f_X6_goesBack (mg87, mk88, ms89, mh90, mw91, mw92, ma93, mt94, mt95, ml96, ms97, mv98, me99, mt100, mt101)) (fun (mg107, mk108, ms109, mh110, mw111, mw112, ma113, mt114, mt115, ml116, ms117, mv118, me119, mt120, mt121) =>
bd_ (f_X6_fails (2 : Int32) (mg107, mk108, ms109, mh110, mw111, mw112, ma113, mt114, mt115, ml116, ms117, mv118, me119, mt120, mt121)) (fun (r126, (mg127, mk128, ms129, mh130, mw131, mw132, ma133, mt134, mt135, ml136, ms137, mv138, me139, mt140, mt141)) =>
some (r126, (mg127, mk128, ms129, mh130, mw131, mw132, ma133, mt134, mt135, ml136, ms137, mv138, me139, mt140, mt141))))))))
def f_X6_read_L40 : Nat → Int32 → Int32 → tM_ → Option (Int32 × tM_)
  | 0 => fun _ _ _ => none
  | n + 1 => fun l2 l1 M_ => f_X6_read_S40 (f_X6_read_L40 n) l2 l1 M_
def f_X6_read  (M_ : tM_) : Option (Int32 × tM_) :=
match M_ with
| (mg, mkept, mspare, mhasKept, mwas, mwasMany, manew, mthrown, mtext, mlength, mspot, mvalue, merror, mtold, mtolds) =>
bd_ (f_X6_faultOf (mg, mkept, mspare, mhasKept, mwas, mwasMany, manew, 0, mtext, mlength, mspot, mvalue, merror, mtold, mtolds)) (fun (r2, (mg3, mk4, ms5, mh6, mw7, mw8, ma9, mt10, mt11, ml12, ms13, mv14, me15, mt16, mt17)) =>
if r2 < 0 then
bd_ (f_X6_begins (mg3, mk4, ms5, mh6, mw7, mw8, ma9, mt10, mt11, 0, ms13, mv14, me15, mt16, mt17)) (fun (mg24, mk25, ms26, mh27, mw28, mw29, ma30, mt31, mt32, ml33, ms34, mv35, me36, mt37, mt38) =>
bd_ (f_X6_remembers (mg24, mk25, ms26, mh27, mw28, mw29, ma30, mt31, mt32, ml33, ms34, mv35, me36, mt37, mt38)) (fun (mg43, mk44, ms45, mh46, mw47, mw48, ma49, mt50, mt51, ml52, ms53, mv54, me55, mt56, mt57) =>
f_X6_read_L40 fu_ (0 : Int32) r2 (mg43, mk44, ms45, mh46, mw47, mw48, ma49, mt50, mt51, ml52, ms53, mv54, me55, mt56, mt57)))
else
bd_ (f_X6_fails (1 : Int32) (mg3, mk4, ms5, mh6, mw7, mw8, ma9, mt10, mt11, 0, ms13, mv14, r2, mt16, mt17)) (fun (r147, (mg148, mk149, ms150, mh151, mw152, mw153, ma154, mt155, mt156, ml157, ms158, mv159, me160, mt161, mt162)) =>
some (r147, (mg148, mk149, ms150, mh151, mw152, mw153, ma154, mt155, mt156, ml157, ms158, mv159, me160, mt161, mt162))))
abbrev rm_X6_read : Room := { frames := 4, cells := 0, slots := 0, locals := 87 }
set_option maxHeartbeats 4000000 in
set_option maxRecDepth 100000 in
theorem c_X6_read (l : Launch) (dC : Nat → ClassId) (dI : Nat → Nat → Nat) (cI cZ cC cJ cD : ClassId) (m0 m_g m_kept m_spare m_was m_text m_told : Nat) (sz : Nat) (mg : Nat → Int32) (mkept : Nat → Int32) (mspare : Nat → Int32) (mhasKept : Int32) (mwas : Nat → Int32) (mwasMany : Int32) (manew : Int32) (mthrown : Int32) (mtext : Nat → Int32) (mlength : Int32) (mspot : Int32) (mvalue : Int32) (merror : Int32) (mtold : Nat → Int32) (mtolds : Int32)  (R : Int32 × tM_) (hf : f_X6_read  (mg, mkept, mspare, mhasKept, mwas, mwasMany, manew, mthrown, mtext, mlength, mspot, mvalue, merror, mtold, mtolds) = some R) : Met l yX6_read wsX6_read rm_X6_read (Pc_ (dC, dI) (ty_ cI cZ cC cJ cD) (wM_ m0 m_g m_kept m_spare m_was m_text m_told cI mg mkept mspare mhasKept mwas mwasMany manew mthrown mtext mlength mspot mvalue merror mtold mtolds) sz [.ref m0]) (Qi_ (dC, dI) (ty_ cI cZ cC cJ cD) R.1 (wM_ m0 m_g m_kept m_spare m_was m_text m_told cI R.2.1 R.2.2.1 R.2.2.2.1 R.2.2.2.2.1 R.2.2.2.2.2.1 R.2.2.2.2.2.2.1 R.2.2.2.2.2.2.2.1 R.2.2.2.2.2.2.2.2.1 R.2.2.2.2.2.2.2.2.2.1 R.2.2.2.2.2.2.2.2.2.2.1 R.2.2.2.2.2.2.2.2.2.2.2.1 R.2.2.2.2.2.2.2.2.2.2.2.2.1 R.2.2.2.2.2.2.2.2.2.2.2.2.2.1 R.2.2.2.2.2.2.2.2.2.2.2.2.2.2.1 R.2.2.2.2.2.2.2.2.2.2.2.2.2.2.2) (va_A (wM_ m0 m_g m_kept m_spare m_was m_text m_told cI mg mkept mspare mhasKept mwas mwasMany manew mthrown mtext mlength mspot mvalue merror mtold mtolds) sz)) 0 0 (va_A (wM_ m0 m_g m_kept m_spare m_was m_text m_told cI mg mkept mspare mhasKept mwas mwasMany manew mthrown mtext mlength mspot mvalue merror mtold mtolds) sz) := by
  refine met_ (cc := cX6_read) (maxL := 3) (ret := (some .int)) (Qcf := fun A => Qi_ (dC, dI) (ty_ cI cZ cC cJ cD) R.1 (wM_ m0 m_g m_kept m_spare m_was m_text m_told cI R.2.1 R.2.2.1 R.2.2.2.1 R.2.2.2.2.1 R.2.2.2.2.2.1 R.2.2.2.2.2.2.1 R.2.2.2.2.2.2.2.1 R.2.2.2.2.2.2.2.2.1 R.2.2.2.2.2.2.2.2.2.1 R.2.2.2.2.2.2.2.2.2.2.1 R.2.2.2.2.2.2.2.2.2.2.2.1 R.2.2.2.2.2.2.2.2.2.2.2.2.1 R.2.2.2.2.2.2.2.2.2.2.2.2.2.1 R.2.2.2.2.2.2.2.2.2.2.2.2.2.2.1 R.2.2.2.2.2.2.2.2.2.2.2.2.2.2.2) A) (by decide) rfl (Nat.le_of_ble_eq_true rfl) ?_
  intro p e s m args below meth c A ls hx hb hr hts hown hlocks hml hA hP hK hD hl
  have hown : s.vm.findClass RX6 = some m.cls := hown
  have hl : lv_has ls 3 [(0, .ref m0)] := hl
  have hS : va_S A s.heap s.heap [] := va_S.rf
  have fl25_ : (Cond.fieldLink RX6 25 "DimensionLoaderModel" "error" "I").before args s = true := hts _ (List.mem_of_getElem? (i := 3) rfl)
  have fl29_ : (Cond.fieldLink RX6 29 "DimensionLoaderModel" "told" "[I").before args s = true := hts _ (List.mem_of_getElem? (i := 5) rfl)
  have fl32_ : (Cond.fieldLink RX6 32 "DimensionLoaderModel" "thrown" "I").before args s = true := hts _ (List.mem_of_getElem? (i := 1) rfl)
  have fl141_ : (Cond.fieldLink RX6 141 "DimensionLoaderModel" "length" "I").before args s = true := hts _ (List.mem_of_getElem? (i := 2) rfl)
  have fl156_ : (Cond.fieldLink RX6 156 "DimensionLoaderModel" "tolds" "I").before args s = true := hts _ (List.mem_of_getElem? (i := 4) rfl)
  have inX6_ : ∀ w ∈ wsX60, w ∈ wsX6_read := in_X6_read_X6
  unfold f_X6_read at hf
  dsimp only at hf
  refine lv_aload_n hx hb dX6_read_0 rfl (lv_at hl 0 rfl) ?_
  refine lv_iconst (v := 0) hx hb dX6_read_1 (by decide) ?_
  refine va_put (D := (dC, dI)) (ci := 8) (v := .int 0) (ty := .int) (C := RX6) (T := TX6) (N := 15) hx hb hts inX6_ tyX6 tyX6_ok nmX6 hown hK hP hD hS 0 rfl rfl 7 (by decide) fl32_ (fun _ h9 => h9) rfl (by decide +kernel) (by first | rfl | decide) (by first | rfl | decide) (Nat.le_of_ble_eq_true rfl) dX6_read_2 (fun H1 locs hP hD hS => ?_)
  have hP : va_P (dC, dI) vwCl (wM_ m0 m_g m_kept m_spare m_was m_text m_told cI mg mkept mspare mhasKept mwas mwasMany manew 0 mtext mlength mspot mvalue merror mtold mtolds) H1 := hP
  have hD : va_D A (wM_ m0 m_g m_kept m_spare m_was m_text m_told cI mg mkept mspare mhasKept mwas mwasMany manew 0 mtext mlength mspot mvalue merror mtold mtolds) := hD
  refine lv_aload_n hx hb dX6_read_5 rfl (lv_at hl 0 rfl) ?_
  obtain ⟨R18, g19, hf⟩ := bd_B hf
  obtain ⟨r2, ⟨mg3, mk4, ms5, mh6, mw7, mw8, ma9, mt10, mt11, ml12, ms13, mv14, me15, mt16, mt17⟩⟩ := R18
  dsimp only at hf
  have hPc := hP
  have hDc := hD
  have hFc := va_free (wc := wM_ m0 m_g m_kept m_spare m_was m_text m_told cI mg mkept mspare mhasKept mwas mwasMany manew 0 mtext mlength mspot mvalue merror mtold mtolds) hD hS hA [0, 1, 2, 3, 4, 5, 6] rfl
  refine va_calli (va_runV (As := []) (rest := []) ⟨hx, hb, hml, hown, hts⟩ (c_X6_faultOf l dC dI cI cZ cC cJ cD m0 m_g m_kept m_spare m_was m_text m_told H1.size mg mkept mspare mhasKept mwas mwasMany manew (0 : Int32) mtext mlength mspot mvalue merror mtold mtolds (r2, (mg3, mk4, ms5, mh6, mw7, mw8, ma9, mt10, mt11, ml12, ms13, mv14, me15, mt16, mt17)) g19) (cwV 0 hts gX6_read_X6_faultOf rfl rfl rfl hs_X6_faultOf ⟨Nat.le_of_ble_eq_true rfl, Nat.le_of_ble_eq_true rfl⟩) (preV_ (ci := 8) (q0 := 0) hPc hK hDc rfl rfl rfl rfl) rfl rfl hl.1 rfl (lv_room (Nat.le_of_ble_eq_true rfl)) dX6_read_6 ⟨Nat.le_of_ble_eq_true rfl, Nat.le_of_ble_eq_true rfl⟩) hS (fun q _ h => hFc q h) hFc (fun z21 u t H20 locs ht hvm hw hB hz1 hk1 hS => ?_)
  have hw : r2 = z21 := hw.symm
  subst hw
  obtain ⟨hP, hD⟩ := aft_ (Wr := []) (Wc' := wM_ m0 m_g m_kept m_spare m_was m_text m_told cI mg3 mk4 ms5 mh6 mw7 mw8 ma9 mt10 mt11 ml12 ms13 mv14 me15 mt16 mt17) (W2 := wM_ m0 m_g m_kept m_spare m_was m_text m_told cI mg3 mk4 ms5 mh6 mw7 mw8 ma9 mt10 mt11 ml12 ms13 mv14 me15 mt16 mt17) hP hD [0, 1, 2, 3, 4, 5, 6] [] [0, 1, 2, 3, 4, 5, 6] rfl rfl (by decide) (by decide) (by decide) hk1 hFc hB ht rfl
  refine lv_istore_n (lv' := [(1, .int r2), (0, .ref m0)]) hx hb dX6_read_9 rfl hl (by decide) rfl (fun ls hl => ?_)
  refine lv_aload_n hx hb dX6_read_10 rfl (lv_at hl 1 rfl) ?_
  refine lv_iconst (v := 0) hx hb dX6_read_11 (by decide) ?_
  refine va_put (D := (dC, dI)) (ci := 8) (v := .int 0) (ty := .int) (C := RX6) (T := TX6) (N := 15) hx hb hts inX6_ tyX6 tyX6_ok nmX6 hown hK hP hD hS 0 rfl rfl 9 (by decide) fl141_ (fun _ h9 => h9) rfl (by decide +kernel) (by first | rfl | decide) (by first | rfl | decide) (Nat.le_of_ble_eq_true rfl) dX6_read_12 (fun H22 locs hP hD hS => ?_)
  have hP : va_P (dC, dI) vwCl (wM_ m0 m_g m_kept m_spare m_was m_text m_told cI mg3 mk4 ms5 mh6 mw7 mw8 ma9 mt10 mt11 0 ms13 mv14 me15 mt16 mt17) H22 := hP
  have hD : va_D A (wM_ m0 m_g m_kept m_spare m_was m_text m_told cI mg3 mk4 ms5 mh6 mw7 mw8 ma9 mt10 mt11 0 ms13 mv14 me15 mt16 mt17) := hD
  refine lv_iload_n hx hb dX6_read_15 rfl (lv_at hl 0 rfl) ?_
  refine lv_if_lt (tgt := 30) hx hb dX6_read_16 (by decide) (fun c23 => ?_) (fun c23 => ?_)
  · have hf := ite_T c23 hf
    refine lv_aload_n hx hb dX6_read_30 rfl (lv_at hl 1 rfl) ?_
    obtain ⟨R39, g40, hf⟩ := bd_B hf
    obtain ⟨mg24, mk25, ms26, mh27, mw28, mw29, ma30, mt31, mt32, ml33, ms34, mv35, me36, mt37, mt38⟩ := R39
    dsimp only at hf
    have hPc := hP
    have hDc := hD
    have hFc := va_free (wc := wM_ m0 m_g m_kept m_spare m_was m_text m_told cI mg3 mk4 ms5 mh6 mw7 mw8 ma9 mt10 mt11 0 ms13 mv14 me15 mt16 mt17) hD hS hA [0, 1, 2, 3, 4, 5, 6] rfl
    refine va_callv (va_runV (As := []) (rest := []) ⟨hx, hb, hml, hown, hts⟩ (c_X6_begins l dC dI cI cZ cC cJ cD m0 m_g m_kept m_spare m_was m_text m_told H22.size mg3 mk4 ms5 mh6 mw7 mw8 ma9 mt10 mt11 (0 : Int32) ms13 mv14 me15 mt16 mt17 (mg24, mk25, ms26, mh27, mw28, mw29, ma30, mt31, mt32, ml33, ms34, mv35, me36, mt37, mt38) g40) (cwV 0 hts gX6_read_X6_begins rfl rfl rfl hs_X6_begins ⟨Nat.le_of_ble_eq_true rfl, Nat.le_of_ble_eq_true rfl⟩) (preV_ (ci := 8) (q0 := 0) hPc hK hDc rfl rfl rfl rfl) rfl rfl hl.1 rfl (lv_room (Nat.le_of_ble_eq_true rfl)) dX6_read_31 ⟨Nat.le_of_ble_eq_true rfl, Nat.le_of_ble_eq_true rfl⟩) hS (fun q _ h => hFc q h) hFc (fun u t H41 locs ht hvm hw hB hz1 hk1 hS => ?_)
    obtain ⟨hP, hD⟩ := aft_ (Wr := []) (Wc' := wM_ m0 m_g m_kept m_spare m_was m_text m_told cI mg24 mk25 ms26 mh27 mw28 mw29 ma30 mt31 mt32 ml33 ms34 mv35 me36 mt37 mt38) (W2 := wM_ m0 m_g m_kept m_spare m_was m_text m_told cI mg24 mk25 ms26 mh27 mw28 mw29 ma30 mt31 mt32 ml33 ms34 mv35 me36 mt37 mt38) hP hD [0, 1, 2, 3, 4, 5, 6] [] [0, 1, 2, 3, 4, 5, 6] rfl rfl (by decide) (by decide) (by decide) hk1 hFc hB ht rfl
    refine lv_aload_n hx hb dX6_read_34 rfl (lv_at hl 1 rfl) ?_
    obtain ⟨R58, g59, hf⟩ := bd_B hf
    obtain ⟨mg43, mk44, ms45, mh46, mw47, mw48, ma49, mt50, mt51, ml52, ms53, mv54, me55, mt56, mt57⟩ := R58
    dsimp only at hf
    have hPc := hP
    have hDc := hD
    have hFc := va_free (wc := wM_ m0 m_g m_kept m_spare m_was m_text m_told cI mg24 mk25 ms26 mh27 mw28 mw29 ma30 mt31 mt32 ml33 ms34 mv35 me36 mt37 mt38) hD hS hA [0, 1, 2, 3, 4, 5, 6] rfl
    refine va_callv (va_runV (As := []) (rest := []) ⟨hx, hb, hml, hown, hts⟩ (c_X6_remembers l dC dI cI cZ cC cJ cD m0 m_g m_kept m_spare m_was m_text m_told H41.size mg24 mk25 ms26 mh27 mw28 mw29 ma30 mt31 mt32 ml33 ms34 mv35 me36 mt37 mt38 (mg43, mk44, ms45, mh46, mw47, mw48, ma49, mt50, mt51, ml52, ms53, mv54, me55, mt56, mt57) g59) (cwV 0 hts gX6_read_X6_remembers rfl rfl rfl hs_X6_remembers ⟨Nat.le_of_ble_eq_true rfl, Nat.le_of_ble_eq_true rfl⟩) (preV_ (ci := 8) (q0 := 0) hPc hK hDc rfl rfl rfl rfl) rfl rfl hl.1 rfl (lv_room (Nat.le_of_ble_eq_true rfl)) dX6_read_35 ⟨Nat.le_of_ble_eq_true rfl, Nat.le_of_ble_eq_true rfl⟩) hS (fun q _ h => hFc q h) hFc (fun u t H60 locs ht hvm hw hB hz1 hk1 hS => ?_)
    obtain ⟨hP, hD⟩ := aft_ (Wr := []) (Wc' := wM_ m0 m_g m_kept m_spare m_was m_text m_told cI mg43 mk44 ms45 mh46 mw47 mw48 ma49 mt50 mt51 ml52 ms53 mv54 me55 mt56 mt57) (W2 := wM_ m0 m_g m_kept m_spare m_was m_text m_told cI mg43 mk44 ms45 mh46 mw47 mw48 ma49 mt50 mt51 ml52 ms53 mv54 me55 mt56 mt57) hP hD [0, 1, 2, 3, 4, 5, 6] [] [0, 1, 2, 3, 4, 5, 6] rfl rfl (by decide) (by decide) (by decide) hk1 hFc hB ht rfl
    refine lv_iconst (v := 0) hx hb dX6_read_38 (by decide) ?_
    refine lv_istore_n (lv' := [(2, .int 0), (1, .int r2), (0, .ref m0)]) hx hb dX6_read_39 rfl hl (by decide) rfl (fun ls hl => ?_)
    have lp40 : ∀ (n : Nat) (l2 : Int32) (l1 : Int32) (mg : Nat → Int32) (mkept : Nat → Int32) (mspare : Nat → Int32) (mhasKept : Int32) (mwas : Nat → Int32) (mwasMany : Int32) (manew : Int32) (mthrown : Int32) (mtext : Nat → Int32) (mlength : Int32) (mspot : Int32) (mvalue : Int32) (merror : Int32) (mtold : Nat → Int32) (mtolds : Int32) (H62 : Heap) (locs : List Loc) (ls : Array Slot), f_X6_read_L40 n l2 l1 (mg, mkept, mspare, mhasKept, mwas, mwasMany, manew, mthrown, mtext, mlength, mspot, mvalue, merror, mtold, mtolds) = some R → va_P (dC, dI) vwCl (wM_ m0 m_g m_kept m_spare m_was m_text m_told cI mg mkept mspare mhasKept mwas mwasMany manew mthrown mtext mlength mspot mvalue merror mtold mtolds) H62 → va_D A (wM_ m0 m_g m_kept m_spare m_was m_text m_told cI mg mkept mspare mhasKept mwas mwasMany manew mthrown mtext mlength mspot mvalue merror mtold mtolds) → va_S A s.heap H62 locs → lv_has ls 3 [(2, .int l2), (1, .int l1), (0, .ref m0)] → W p l e (headSpec wsX6_read rm_X6_read).room s m args below meth c H62 locs 0 0 (MQ below (Qi_ (dC, dI) (ty_ cI cZ cC cJ cD) R.1 (wM_ m0 m_g m_kept m_spare m_was m_text m_told cI R.2.1 R.2.2.1 R.2.2.2.1 R.2.2.2.2.1 R.2.2.2.2.2.1 R.2.2.2.2.2.2.1 R.2.2.2.2.2.2.2.1 R.2.2.2.2.2.2.2.2.1 R.2.2.2.2.2.2.2.2.2.1 R.2.2.2.2.2.2.2.2.2.2.1 R.2.2.2.2.2.2.2.2.2.2.2.1 R.2.2.2.2.2.2.2.2.2.2.2.2.1 R.2.2.2.2.2.2.2.2.2.2.2.2.2.1 R.2.2.2.2.2.2.2.2.2.2.2.2.2.2.1 R.2.2.2.2.2.2.2.2.2.2.2.2.2.2.2) A) args s 0 0 A) (F0 m 40 ls []) := by
      intro n
      induction n with
      | zero => intro l2 l1 mg mkept mspare mhasKept mwas mwasMany manew mthrown mtext mlength mspot mvalue merror mtold mtolds H62 locs ls hf hP hD hS hl; exact absurd hf (by simp [f_X6_read_L40])
      | succ n ih =>
        intro l2 l1 mg mkept mspare mhasKept mwas mwasMany manew mthrown mtext mlength mspot mvalue merror mtold mtolds H62 locs ls hf hP hD hS hl
        have hf : f_X6_read_S40 (f_X6_read_L40 n) l2 l1 (mg, mkept, mspare, mhasKept, mwas, mwasMany, manew, mthrown, mtext, mlength, mspot, mvalue, merror, mtold, mtolds) = some R := hf
        unfold f_X6_read_S40 at hf
        dsimp only at hf
        refine lv_iload_n hx hb dX6_read_40 rfl (lv_at hl 0 rfl) ?_
        refine lv_aload_n hx hb dX6_read_41 rfl (lv_at hl 2 rfl) ?_
        refine va_get (D := (dC, dI)) (ci := 8) (v := .int mtolds) (C := RX6) (T := TX6) (N := 15) hx hb hts inX6_ hown hK hP 0 rfl rfl 14 (by decide) fl156_ (fun _ h9 => h9) rfl dX6_read_42 ?_
        refine lv_icmp_ge (tgt := 99) hx hb dX6_read_45 (by decide) (fun c63 => ?_) (fun c63 => ?_)
        · have hf := ite_T c63 hf
          refine lv_aload_n hx hb dX6_read_99 rfl (lv_at hl 2 rfl) ?_
          obtain ⟨R79, g80, hf⟩ := bd_B hf
          obtain ⟨mg64, mk65, ms66, mh67, mw68, mw69, ma70, mt71, mt72, ml73, ms74, mv75, me76, mt77, mt78⟩ := R79
          dsimp only at hf
          have hPc := hP
          have hDc := hD
          have hFc := va_free (wc := wM_ m0 m_g m_kept m_spare m_was m_text m_told cI mg mkept mspare mhasKept mwas mwasMany manew mthrown mtext mlength mspot mvalue merror mtold mtolds) hD hS hA [0, 1, 2, 3, 4, 5, 6] rfl
          refine va_callv (va_runV (As := []) (rest := []) ⟨hx, hb, hml, hown, hts⟩ (c_X6_ends l dC dI cI cZ cC cJ cD m0 m_g m_kept m_spare m_was m_text m_told H62.size mg mkept mspare mhasKept mwas mwasMany manew mthrown mtext mlength mspot mvalue merror mtold mtolds (mg64, mk65, ms66, mh67, mw68, mw69, ma70, mt71, mt72, ml73, ms74, mv75, me76, mt77, mt78) g80) (cwV 0 hts gX6_read_X6_ends rfl rfl rfl hs_X6_ends ⟨Nat.le_of_ble_eq_true rfl, Nat.le_of_ble_eq_true rfl⟩) (preV_ (ci := 8) (q0 := 0) hPc hK hDc rfl rfl rfl rfl) rfl rfl hl.1 rfl (lv_room (Nat.le_of_ble_eq_true rfl)) dX6_read_100 ⟨Nat.le_of_ble_eq_true rfl, Nat.le_of_ble_eq_true rfl⟩) hS (fun q _ h => hFc q h) hFc (fun u t H81 locs ht hvm hw hB hz1 hk1 hS => ?_)
          obtain ⟨hP, hD⟩ := aft_ (Wr := []) (Wc' := wM_ m0 m_g m_kept m_spare m_was m_text m_told cI mg64 mk65 ms66 mh67 mw68 mw69 ma70 mt71 mt72 ml73 ms74 mv75 me76 mt77 mt78) (W2 := wM_ m0 m_g m_kept m_spare m_was m_text m_told cI mg64 mk65 ms66 mh67 mw68 mw69 ma70 mt71 mt72 ml73 ms74 mv75 me76 mt77 mt78) hP hD [0, 1, 2, 3, 4, 5, 6] [] [0, 1, 2, 3, 4, 5, 6] rfl rfl (by decide) (by decide) (by decide) hk1 hFc hB ht rfl
          refine lv_aload_n hx hb dX6_read_103 rfl (lv_at hl 2 rfl) ?_
          refine va_get (D := (dC, dI)) (ci := 8) (v := .int mt78) (C := RX6) (T := TX6) (N := 15) hx hb hts inX6_ hown hK hP 0 rfl rfl 14 (by decide) fl156_ (fun _ h9 => h9) rfl dX6_read_104 ?_
          have hR := Option.some.inj hf
          subst hR
          exact W.iret (v := mt78) hx hb hr (fun t ht hW => ⟨⟨mt78, (), rfl, rfl, by rw [ht]; exact hP, va_K.moved hW.alike hK, hD⟩, hS.F ht⟩) hS.2.2 dX6_read_107
        · have hf := ite_F c63 hf
          refine lv_aload_n hx hb dX6_read_48 rfl (lv_at hl 2 rfl) ?_
          refine lv_aload_n hx hb dX6_read_49 rfl (lv_at hl 2 rfl) ?_
          refine va_get (D := (dC, dI)) (ci := 8) (v := .ref m_told) (C := RX6) (T := TX6) (N := 15) hx hb hts inX6_ hown hK hP 0 rfl rfl 13 (by decide) fl29_ (fun _ h9 => h9) rfl dX6_read_50 ?_
          refine lv_iconst (v := 3) hx hb dX6_read_53 (by decide) ?_
          refine lv_iload_n hx hb dX6_read_54 rfl (lv_at hl 0 rfl) ?_
          refine lv_imul hx hb dX6_read_55 ?_
          obtain ⟨h83, hf⟩ := gd_T hf
          refine va_iald hx hb hK hP 6 0 rfl rfl h83 dX6_read_56 ?_
          refine lv_aload_n hx hb dX6_read_57 rfl (lv_at hl 2 rfl) ?_
          refine va_get (D := (dC, dI)) (ci := 8) (v := .ref m_told) (C := RX6) (T := TX6) (N := 15) hx hb hts inX6_ hown hK hP 0 rfl rfl 13 (by decide) fl29_ (fun _ h9 => h9) rfl dX6_read_58 ?_
          refine lv_iconst (v := 3) hx hb dX6_read_61 (by decide) ?_
          refine lv_iload_n hx hb dX6_read_62 rfl (lv_at hl 0 rfl) ?_
          refine lv_imul hx hb dX6_read_63 ?_
          refine lv_iconst (v := 1) hx hb dX6_read_64 (by decide) ?_
          refine lv_iadd hx hb dX6_read_65 ?_
          obtain ⟨h84, hf⟩ := gd_T hf
          refine va_iald hx hb hK hP 6 0 rfl rfl h84 dX6_read_66 ?_
          refine lv_aload_n hx hb dX6_read_67 rfl (lv_at hl 2 rfl) ?_
          refine va_get (D := (dC, dI)) (ci := 8) (v := .ref m_told) (C := RX6) (T := TX6) (N := 15) hx hb hts inX6_ hown hK hP 0 rfl rfl 13 (by decide) fl29_ (fun _ h9 => h9) rfl dX6_read_68 ?_
          refine lv_iconst (v := 3) hx hb dX6_read_71 (by decide) ?_
          refine lv_iload_n hx hb dX6_read_72 rfl (lv_at hl 0 rfl) ?_
          refine lv_imul hx hb dX6_read_73 ?_
          refine lv_iconst (v := 2) hx hb dX6_read_74 (by decide) ?_
          refine lv_iadd hx hb dX6_read_75 ?_
          obtain ⟨h85, hf⟩ := gd_T hf
          refine va_iald hx hb hK hP 6 0 rfl rfl h85 dX6_read_76 ?_
          obtain ⟨R102, g103, hf⟩ := bd_B hf
          obtain ⟨r86, ⟨mg87, mk88, ms89, mh90, mw91, mw92, ma93, mt94, mt95, ml96, ms97, mv98, me99, mt100, mt101⟩⟩ := R102
          dsimp only at hf
          have hPc := hP
          have hDc := hD
          have hFc := va_free (wc := wM_ m0 m_g m_kept m_spare m_was m_text m_told cI mg mkept mspare mhasKept mwas mwasMany manew mthrown mtext mlength mspot mvalue merror mtold mtolds) hD hS hA [0, 1, 2, 3, 4, 5, 6] rfl
          refine va_calli (va_runV (As := [.int (mtold ((3 * l2).toNatClampNeg)), .int (mtold (((3 * l2) + 1).toNatClampNeg)), .int (mtold (((3 * l2) + 2).toNatClampNeg))]) (rest := []) ⟨hx, hb, hml, hown, hts⟩ (c_X6_changes l dC dI cI cZ cC cJ cD m0 m_g m_kept m_spare m_was m_text m_told H62.size mg mkept mspare mhasKept mwas mwasMany manew mthrown mtext mlength mspot mvalue merror mtold mtolds (mtold ((3 * l2).toNatClampNeg)) (mtold (((3 * l2) + 1).toNatClampNeg)) (mtold (((3 * l2) + 2).toNatClampNeg)) (r86, (mg87, mk88, ms89, mh90, mw91, mw92, ma93, mt94, mt95, ml96, ms97, mv98, me99, mt100, mt101)) g103) (cwV 3 hts gX6_read_X6_changes rfl rfl rfl hs_X6_changes ⟨Nat.le_of_ble_eq_true rfl, Nat.le_of_ble_eq_true rfl⟩) (preV_ (ci := 8) (q0 := 0) hPc hK hDc rfl rfl rfl rfl) rfl rfl hl.1 rfl (lv_room (Nat.le_of_ble_eq_true rfl)) dX6_read_77 ⟨Nat.le_of_ble_eq_true rfl, Nat.le_of_ble_eq_true rfl⟩) hS (fun q _ h => hFc q h) hFc (fun z105 u t H104 locs ht hvm hw hB hz1 hk1 hS => ?_)
          have hw : r86 = z105 := hw.symm
          subst hw
          obtain ⟨hP, hD⟩ := aft_ (Wr := []) (Wc' := wM_ m0 m_g m_kept m_spare m_was m_text m_told cI mg87 mk88 ms89 mh90 mw91 mw92 ma93 mt94 mt95 ml96 ms97 mv98 me99 mt100 mt101) (W2 := wM_ m0 m_g m_kept m_spare m_was m_text m_told cI mg87 mk88 ms89 mh90 mw91 mw92 ma93 mt94 mt95 ml96 ms97 mv98 me99 mt100 mt101) hP hD [0, 1, 2, 3, 4, 5, 6] [] [0, 1, 2, 3, 4, 5, 6] rfl rfl (by decide) (by decide) (by decide) hk1 hFc hB ht rfl
          refine lv_if_ge (tgt := 93) hx hb dX6_read_80 (by decide) (fun c106 => ?_) (fun c106 => ?_)
          · have hf := ite_T c106 hf
            refine lv_iinc (v := l2 + 1) (lv' := [(2, .int (l2 + 1)), (1, .int l1), (0, .ref m0)]) hx hb dX6_read_93 hl (k := 0) rfl (by first | rfl | decide) (by decide) rfl (fun ls hl => ?_)
            refine lv_goto (tgt := 40) hx hb dX6_read_96 (by decide) ?_
            exact ih (l2 + 1) l1 mg87 mk88 ms89 mh90 mw91 mw92 ma93 mt94 mt95 ml96 ms97 mv98 me99 mt100 mt101 _ _ _ hf hP hD hS (lv_sub hl [0, 1, 2] rfl)
          · have hf := ite_F c106 hf
            refine lv_aload_n hx hb dX6_read_83 rfl (lv_at hl 2 rfl) ?_
            obtain ⟨R122, g123, hf⟩ := bd_B hf
            obtain ⟨mg107, mk108, ms109, mh110, mw111, mw112, ma113, mt114, mt115, ml116, ms117, mv118, me119, mt120, mt121⟩ := R122
            dsimp only at hf
            have hPc := hP
            have hDc := hD
            have hFc := va_free (wc := wM_ m0 m_g m_kept m_spare m_was m_text m_told cI mg87 mk88 ms89 mh90 mw91 mw92 ma93 mt94 mt95 ml96 ms97 mv98 me99 mt100 mt101) hD hS hA [0, 1, 2, 3, 4, 5, 6] rfl
            refine va_callv (va_runV (As := []) (rest := []) ⟨hx, hb, hml, hown, hts⟩ (c_X6_goesBack l dC dI cI cZ cC cJ cD m0 m_g m_kept m_spare m_was m_text m_told H104.size mg87 mk88 ms89 mh90 mw91 mw92 ma93 mt94 mt95 ml96 ms97 mv98 me99 mt100 mt101 (mg107, mk108, ms109, mh110, mw111, mw112, ma113, mt114, mt115, ml116, ms117, mv118, me119, mt120, mt121) g123) (cwV 0 hts gX6_read_X6_goesBack rfl rfl rfl hs_X6_goesBack ⟨Nat.le_of_ble_eq_true rfl, Nat.le_of_ble_eq_true rfl⟩) (preV_ (ci := 8) (q0 := 0) hPc hK hDc rfl rfl rfl rfl) rfl rfl hl.1 rfl (lv_room (Nat.le_of_ble_eq_true rfl)) dX6_read_84 ⟨Nat.le_of_ble_eq_true rfl, Nat.le_of_ble_eq_true rfl⟩) hS (fun q _ h => hFc q h) hFc (fun u t H124 locs ht hvm hw hB hz1 hk1 hS => ?_)
            obtain ⟨hP, hD⟩ := aft_ (Wr := []) (Wc' := wM_ m0 m_g m_kept m_spare m_was m_text m_told cI mg107 mk108 ms109 mh110 mw111 mw112 ma113 mt114 mt115 ml116 ms117 mv118 me119 mt120 mt121) (W2 := wM_ m0 m_g m_kept m_spare m_was m_text m_told cI mg107 mk108 ms109 mh110 mw111 mw112 ma113 mt114 mt115 ml116 ms117 mv118 me119 mt120 mt121) hP hD [0, 1, 2, 3, 4, 5, 6] [] [0, 1, 2, 3, 4, 5, 6] rfl rfl (by decide) (by decide) (by decide) hk1 hFc hB ht rfl
            refine lv_aload_n hx hb dX6_read_87 rfl (lv_at hl 2 rfl) ?_
            refine lv_iconst (v := 2) hx hb dX6_read_88 (by decide) ?_
            obtain ⟨R142, g143, hf⟩ := bd_B hf
            obtain ⟨r126, ⟨mg127, mk128, ms129, mh130, mw131, mw132, ma133, mt134, mt135, ml136, ms137, mv138, me139, mt140, mt141⟩⟩ := R142
            dsimp only at hf
            have hPc := hP
            have hDc := hD
            have hFc := va_free (wc := wM_ m0 m_g m_kept m_spare m_was m_text m_told cI mg107 mk108 ms109 mh110 mw111 mw112 ma113 mt114 mt115 ml116 ms117 mv118 me119 mt120 mt121) hD hS hA [0, 1, 2, 3, 4, 5, 6] rfl
            refine va_calli (va_runV (As := [.int 2]) (rest := []) ⟨hx, hb, hml, hown, hts⟩ (c_X6_fails l dC dI cI cZ cC cJ cD m0 m_g m_kept m_spare m_was m_text m_told H124.size mg107 mk108 ms109 mh110 mw111 mw112 ma113 mt114 mt115 ml116 ms117 mv118 me119 mt120 mt121 (2 : Int32) (r126, (mg127, mk128, ms129, mh130, mw131, mw132, ma133, mt134, mt135, ml136, ms137, mv138, me139, mt140, mt141)) g143) (cwV 1 hts gX6_read_X6_fails rfl rfl rfl hs_X6_fails ⟨Nat.le_of_ble_eq_true rfl, Nat.le_of_ble_eq_true rfl⟩) (preV_ (ci := 8) (q0 := 0) hPc hK hDc rfl rfl rfl rfl) rfl rfl hl.1 rfl (lv_room (Nat.le_of_ble_eq_true rfl)) dX6_read_89 ⟨Nat.le_of_ble_eq_true rfl, Nat.le_of_ble_eq_true rfl⟩) hS (fun q _ h => hFc q h) hFc (fun z145 u t H144 locs ht hvm hw hB hz1 hk1 hS => ?_)
            have hw : r126 = z145 := hw.symm
            subst hw
            obtain ⟨hP, hD⟩ := aft_ (Wr := []) (Wc' := wM_ m0 m_g m_kept m_spare m_was m_text m_told cI mg127 mk128 ms129 mh130 mw131 mw132 ma133 mt134 mt135 ml136 ms137 mv138 me139 mt140 mt141) (W2 := wM_ m0 m_g m_kept m_spare m_was m_text m_told cI mg127 mk128 ms129 mh130 mw131 mw132 ma133 mt134 mt135 ml136 ms137 mv138 me139 mt140 mt141) hP hD [0, 1, 2, 3, 4, 5, 6] [] [0, 1, 2, 3, 4, 5, 6] rfl rfl (by decide) (by decide) (by decide) hk1 hFc hB ht rfl
            have hR := Option.some.inj hf
            subst hR
            exact W.iret (v := r126) hx hb hr (fun t ht hW => ⟨⟨r126, (), rfl, rfl, by rw [ht]; exact hP, va_K.moved hW.alike hK, hD⟩, hS.F ht⟩) hS.2.2 dX6_read_92
    exact lp40 fu_ (0 : Int32) r2 mg43 mk44 ms45 mh46 mw47 mw48 ma49 mt50 mt51 ml52 ms53 mv54 me55 mt56 mt57 _ _ _ hf hP hD hS hl
  · have hf := ite_F c23 hf
    refine lv_aload_n hx hb dX6_read_19 rfl (lv_at hl 1 rfl) ?_
    refine lv_iload_n hx hb dX6_read_20 rfl (lv_at hl 0 rfl) ?_
    refine va_put (D := (dC, dI)) (ci := 8) (v := .int r2) (ty := .int) (C := RX6) (T := TX6) (N := 15) hx hb hts inX6_ tyX6 tyX6_ok nmX6 hown hK hP hD hS 0 rfl rfl 12 (by decide) fl25_ (fun _ h9 => h9) rfl (by decide +kernel) (by first | rfl | decide) (by first | rfl | decide) (Nat.le_of_ble_eq_true rfl) dX6_read_21 (fun H146 locs hP hD hS => ?_)
    have hP : va_P (dC, dI) vwCl (wM_ m0 m_g m_kept m_spare m_was m_text m_told cI mg3 mk4 ms5 mh6 mw7 mw8 ma9 mt10 mt11 0 ms13 mv14 r2 mt16 mt17) H146 := hP
    have hD : va_D A (wM_ m0 m_g m_kept m_spare m_was m_text m_told cI mg3 mk4 ms5 mh6 mw7 mw8 ma9 mt10 mt11 0 ms13 mv14 r2 mt16 mt17) := hD
    refine lv_aload_n hx hb dX6_read_24 rfl (lv_at hl 1 rfl) ?_
    refine lv_iconst (v := 1) hx hb dX6_read_25 (by decide) ?_
    obtain ⟨R163, g164, hf⟩ := bd_B hf
    obtain ⟨r147, ⟨mg148, mk149, ms150, mh151, mw152, mw153, ma154, mt155, mt156, ml157, ms158, mv159, me160, mt161, mt162⟩⟩ := R163
    dsimp only at hf
    have hPc := hP
    have hDc := hD
    have hFc := va_free (wc := wM_ m0 m_g m_kept m_spare m_was m_text m_told cI mg3 mk4 ms5 mh6 mw7 mw8 ma9 mt10 mt11 0 ms13 mv14 r2 mt16 mt17) hD hS hA [0, 1, 2, 3, 4, 5, 6] rfl
    refine va_calli (va_runV (As := [.int 1]) (rest := []) ⟨hx, hb, hml, hown, hts⟩ (c_X6_fails l dC dI cI cZ cC cJ cD m0 m_g m_kept m_spare m_was m_text m_told H146.size mg3 mk4 ms5 mh6 mw7 mw8 ma9 mt10 mt11 (0 : Int32) ms13 mv14 r2 mt16 mt17 (1 : Int32) (r147, (mg148, mk149, ms150, mh151, mw152, mw153, ma154, mt155, mt156, ml157, ms158, mv159, me160, mt161, mt162)) g164) (cwV 1 hts gX6_read_X6_fails rfl rfl rfl hs_X6_fails ⟨Nat.le_of_ble_eq_true rfl, Nat.le_of_ble_eq_true rfl⟩) (preV_ (ci := 8) (q0 := 0) hPc hK hDc rfl rfl rfl rfl) rfl rfl hl.1 rfl (lv_room (Nat.le_of_ble_eq_true rfl)) dX6_read_26 ⟨Nat.le_of_ble_eq_true rfl, Nat.le_of_ble_eq_true rfl⟩) hS (fun q _ h => hFc q h) hFc (fun z166 u t H165 locs ht hvm hw hB hz1 hk1 hS => ?_)
    have hw : r147 = z166 := hw.symm
    subst hw
    obtain ⟨hP, hD⟩ := aft_ (Wr := []) (Wc' := wM_ m0 m_g m_kept m_spare m_was m_text m_told cI mg148 mk149 ms150 mh151 mw152 mw153 ma154 mt155 mt156 ml157 ms158 mv159 me160 mt161 mt162) (W2 := wM_ m0 m_g m_kept m_spare m_was m_text m_told cI mg148 mk149 ms150 mh151 mw152 mw153 ma154 mt155 mt156 ml157 ms158 mv159 me160 mt161 mt162) hP hD [0, 1, 2, 3, 4, 5, 6] [] [0, 1, 2, 3, 4, 5, 6] rfl rfl (by decide) (by decide) (by decide) hk1 hFc hB ht rfl
    have hR := Option.some.inj hf
    subst hR
    exact W.iret (v := r147) hx hb hr (fun t ht hW => ⟨⟨r147, (), rfl, rfl, by rw [ht]; exact hP, va_K.moved hW.alike hK, hD⟩, hS.F ht⟩) hS.2.2 dX6_read_29
theorem hs_X6_read : yX6_read.cls = RX6 ∧ yX6_read.cls ≠ "java/lang/invoke/MethodHandle" ∧ yX6_read.cls ≠ "java/lang/invoke/VarHandle" ∧ (parseMethodDescriptor yX6_read.desc).map (fun d => d.parameters.length) = some 0 := by decide +kernel
set_option maxRecDepth 20000 in
theorem in_X6_errorPosition_X6 : ∀ w ∈ wsX60, w ∈ wsX6_errorPosition := by decide +kernel
def f_X6_errorPosition  (M_ : tM_) : Option (Int32 × tM_) :=
match M_ with
| (mg, mkept, mspare, mhasKept, mwas, mwasMany, manew, mthrown, mtext, mlength, mspot, mvalue, merror, mtold, mtolds) =>
if 0 ≤ merror then
some (merror, (mg, mkept, mspare, mhasKept, mwas, mwasMany, manew, 0, mtext, mlength, mspot, mvalue, merror, mtold, mtolds))
else
bd_ (f_X6_fails (1 : Int32) (mg, mkept, mspare, mhasKept, mwas, mwasMany, manew, 0, mtext, mlength, mspot, mvalue, merror, mtold, mtolds)) (fun (r3, (mg4, mk5, ms6, mh7, mw8, mw9, ma10, mt11, mt12, ml13, ms14, mv15, me16, mt17, mt18)) =>
some (r3, (mg4, mk5, ms6, mh7, mw8, mw9, ma10, mt11, mt12, ml13, ms14, mv15, me16, mt17, mt18)))
abbrev rm_X6_errorPosition : Room := { frames := 1, cells := 0, slots := 0, locals := 21 }
set_option maxHeartbeats 4000000 in
set_option maxRecDepth 100000 in
theorem c_X6_errorPosition (l : Launch) (dC : Nat → ClassId) (dI : Nat → Nat → Nat) (cI cZ cC cJ cD : ClassId) (m0 m_g m_kept m_spare m_was m_text m_told : Nat) (sz : Nat) (mg : Nat → Int32) (mkept : Nat → Int32) (mspare : Nat → Int32) (mhasKept : Int32) (mwas : Nat → Int32) (mwasMany : Int32) (manew : Int32) (mthrown : Int32) (mtext : Nat → Int32) (mlength : Int32) (mspot : Int32) (mvalue : Int32) (merror : Int32) (mtold : Nat → Int32) (mtolds : Int32)  (R : Int32 × tM_) (hf : f_X6_errorPosition  (mg, mkept, mspare, mhasKept, mwas, mwasMany, manew, mthrown, mtext, mlength, mspot, mvalue, merror, mtold, mtolds) = some R) : Met l yX6_errorPosition wsX6_errorPosition rm_X6_errorPosition (Pc_ (dC, dI) (ty_ cI cZ cC cJ cD) (wM_ m0 m_g m_kept m_spare m_was m_text m_told cI mg mkept mspare mhasKept mwas mwasMany manew mthrown mtext mlength mspot mvalue merror mtold mtolds) sz [.ref m0]) (Qi_ (dC, dI) (ty_ cI cZ cC cJ cD) R.1 (wM_ m0 m_g m_kept m_spare m_was m_text m_told cI R.2.1 R.2.2.1 R.2.2.2.1 R.2.2.2.2.1 R.2.2.2.2.2.1 R.2.2.2.2.2.2.1 R.2.2.2.2.2.2.2.1 R.2.2.2.2.2.2.2.2.1 R.2.2.2.2.2.2.2.2.2.1 R.2.2.2.2.2.2.2.2.2.2.1 R.2.2.2.2.2.2.2.2.2.2.2.1 R.2.2.2.2.2.2.2.2.2.2.2.2.1 R.2.2.2.2.2.2.2.2.2.2.2.2.2.1 R.2.2.2.2.2.2.2.2.2.2.2.2.2.2.1 R.2.2.2.2.2.2.2.2.2.2.2.2.2.2.2) (va_A (wM_ m0 m_g m_kept m_spare m_was m_text m_told cI mg mkept mspare mhasKept mwas mwasMany manew mthrown mtext mlength mspot mvalue merror mtold mtolds) sz)) 0 0 (va_A (wM_ m0 m_g m_kept m_spare m_was m_text m_told cI mg mkept mspare mhasKept mwas mwasMany manew mthrown mtext mlength mspot mvalue merror mtold mtolds) sz) := by
  refine met_ (cc := cX6_errorPosition) (maxL := 1) (ret := (some .int)) (Qcf := fun A => Qi_ (dC, dI) (ty_ cI cZ cC cJ cD) R.1 (wM_ m0 m_g m_kept m_spare m_was m_text m_told cI R.2.1 R.2.2.1 R.2.2.2.1 R.2.2.2.2.1 R.2.2.2.2.2.1 R.2.2.2.2.2.2.1 R.2.2.2.2.2.2.2.1 R.2.2.2.2.2.2.2.2.1 R.2.2.2.2.2.2.2.2.2.1 R.2.2.2.2.2.2.2.2.2.2.1 R.2.2.2.2.2.2.2.2.2.2.2.1 R.2.2.2.2.2.2.2.2.2.2.2.2.1 R.2.2.2.2.2.2.2.2.2.2.2.2.2.1 R.2.2.2.2.2.2.2.2.2.2.2.2.2.2.1 R.2.2.2.2.2.2.2.2.2.2.2.2.2.2.2) A) (by decide) rfl (Nat.le_of_ble_eq_true rfl) ?_
  intro p e s m args below meth c A ls hx hb hr hts hown hlocks hml hA hP hK hD hl
  have hown : s.vm.findClass RX6 = some m.cls := hown
  have hl : lv_has ls 1 [(0, .ref m0)] := hl
  have hS : va_S A s.heap s.heap [] := va_S.rf
  have fl25_ : (Cond.fieldLink RX6 25 "DimensionLoaderModel" "error" "I").before args s = true := hts _ (List.mem_of_getElem? (i := 2) rfl)
  have fl32_ : (Cond.fieldLink RX6 32 "DimensionLoaderModel" "thrown" "I").before args s = true := hts _ (List.mem_of_getElem? (i := 1) rfl)
  have inX6_ : ∀ w ∈ wsX60, w ∈ wsX6_errorPosition := in_X6_errorPosition_X6
  unfold f_X6_errorPosition at hf
  dsimp only at hf
  refine lv_aload_n hx hb dX6_errorPosition_0 rfl (lv_at hl 0 rfl) ?_
  refine lv_iconst (v := 0) hx hb dX6_errorPosition_1 (by decide) ?_
  refine va_put (D := (dC, dI)) (ci := 8) (v := .int 0) (ty := .int) (C := RX6) (T := TX6) (N := 15) hx hb hts inX6_ tyX6 tyX6_ok nmX6 hown hK hP hD hS 0 rfl rfl 7 (by decide) fl32_ (fun _ h9 => h9) rfl (by decide +kernel) (by first | rfl | decide) (by first | rfl | decide) (Nat.le_of_ble_eq_true rfl) dX6_errorPosition_2 (fun H1 locs hP hD hS => ?_)
  have hP : va_P (dC, dI) vwCl (wM_ m0 m_g m_kept m_spare m_was m_text m_told cI mg mkept mspare mhasKept mwas mwasMany manew 0 mtext mlength mspot mvalue merror mtold mtolds) H1 := hP
  have hD : va_D A (wM_ m0 m_g m_kept m_spare m_was m_text m_told cI mg mkept mspare mhasKept mwas mwasMany manew 0 mtext mlength mspot mvalue merror mtold mtolds) := hD
  refine lv_aload_n hx hb dX6_errorPosition_5 rfl (lv_at hl 0 rfl) ?_
  refine va_get (D := (dC, dI)) (ci := 8) (v := .int merror) (C := RX6) (T := TX6) (N := 15) hx hb hts inX6_ hown hK hP 0 rfl rfl 12 (by decide) fl25_ (fun _ h9 => h9) rfl dX6_errorPosition_6 ?_
  refine lv_if_ge (tgt := 20) hx hb dX6_errorPosition_9 (by decide) (fun c2 => ?_) (fun c2 => ?_)
  · have hf := ite_T c2 hf
    refine lv_aload_n hx hb dX6_errorPosition_20 rfl (lv_at hl 0 rfl) ?_
    refine va_get (D := (dC, dI)) (ci := 8) (v := .int merror) (C := RX6) (T := TX6) (N := 15) hx hb hts inX6_ hown hK hP 0 rfl rfl 12 (by decide) fl25_ (fun _ h9 => h9) rfl dX6_errorPosition_21 ?_
    have hR := Option.some.inj hf
    subst hR
    exact W.iret (v := merror) hx hb hr (fun t ht hW => ⟨⟨merror, (), rfl, rfl, by rw [ht]; exact hP, va_K.moved hW.alike hK, hD⟩, hS.F ht⟩) hS.2.2 dX6_errorPosition_24
  · have hf := ite_F c2 hf
    refine lv_aload_n hx hb dX6_errorPosition_12 rfl (lv_at hl 0 rfl) ?_
    refine lv_iconst (v := 1) hx hb dX6_errorPosition_13 (by decide) ?_
    obtain ⟨R19, g20, hf⟩ := bd_B hf
    obtain ⟨r3, ⟨mg4, mk5, ms6, mh7, mw8, mw9, ma10, mt11, mt12, ml13, ms14, mv15, me16, mt17, mt18⟩⟩ := R19
    dsimp only at hf
    have hPc := hP
    have hDc := hD
    have hFc := va_free (wc := wM_ m0 m_g m_kept m_spare m_was m_text m_told cI mg mkept mspare mhasKept mwas mwasMany manew 0 mtext mlength mspot mvalue merror mtold mtolds) hD hS hA [0, 1, 2, 3, 4, 5, 6] rfl
    refine va_calli (va_runV (As := [.int 1]) (rest := []) ⟨hx, hb, hml, hown, hts⟩ (c_X6_fails l dC dI cI cZ cC cJ cD m0 m_g m_kept m_spare m_was m_text m_told H1.size mg mkept mspare mhasKept mwas mwasMany manew (0 : Int32) mtext mlength mspot mvalue merror mtold mtolds (1 : Int32) (r3, (mg4, mk5, ms6, mh7, mw8, mw9, ma10, mt11, mt12, ml13, ms14, mv15, me16, mt17, mt18)) g20) (cwV 1 hts gX6_errorPosition_X6_fails rfl rfl rfl hs_X6_fails ⟨Nat.le_of_ble_eq_true rfl, Nat.le_of_ble_eq_true rfl⟩) (preV_ (ci := 8) (q0 := 0) hPc hK hDc rfl rfl rfl rfl) rfl rfl hl.1 rfl (lv_room (Nat.le_of_ble_eq_true rfl)) dX6_errorPosition_14 ⟨Nat.le_of_ble_eq_true rfl, Nat.le_of_ble_eq_true rfl⟩) hS (fun q _ h => hFc q h) hFc (fun z22 u t H21 locs ht hvm hw hB hz1 hk1 hS => ?_)
    have hw : r3 = z22 := hw.symm
    subst hw
    obtain ⟨hP, hD⟩ := aft_ (Wr := []) (Wc' := wM_ m0 m_g m_kept m_spare m_was m_text m_told cI mg4 mk5 ms6 mh7 mw8 mw9 ma10 mt11 mt12 ml13 ms14 mv15 me16 mt17 mt18) (W2 := wM_ m0 m_g m_kept m_spare m_was m_text m_told cI mg4 mk5 ms6 mh7 mw8 mw9 ma10 mt11 mt12 ml13 ms14 mv15 me16 mt17 mt18) hP hD [0, 1, 2, 3, 4, 5, 6] [] [0, 1, 2, 3, 4, 5, 6] rfl rfl (by decide) (by decide) (by decide) hk1 hFc hB ht rfl
    refine lv_goto (tgt := 24) hx hb dX6_errorPosition_17 (by decide) ?_
    have hR := Option.some.inj hf
    subst hR
    exact W.iret (v := r3) hx hb hr (fun t ht hW => ⟨⟨r3, (), rfl, rfl, by rw [ht]; exact hP, va_K.moved hW.alike hK, hD⟩, hS.F ht⟩) hS.2.2 dX6_errorPosition_24
theorem hs_X6_errorPosition : yX6_errorPosition.cls = RX6 ∧ yX6_errorPosition.cls ≠ "java/lang/invoke/MethodHandle" ∧ yX6_errorPosition.cls ≠ "java/lang/invoke/VarHandle" ∧ (parseMethodDescriptor yX6_errorPosition.desc).map (fun d => d.parameters.length) = some 0 := by decide +kernel
set_option maxRecDepth 20000 in
theorem in_X6_save_X6 : ∀ w ∈ wsX60, w ∈ wsX6_save := by decide +kernel
def f_X6_save_S12 (k_ : Int32 → tM_ → Option (Int32 × tM_)) (l1 : Int32) (M_ : tM_) : Option (Int32 × tM_) :=
match M_ with
| (mg, mkept, mspare, mhasKept, mwas, mwasMany, manew, mthrown, mtext, mlength, mspot, mvalue, merror, mtold, mtolds) =>
if 610 ≤ l1 then
bd_ (f_X6_there (mg, mkept, mspare, mhasKept, mwas, mwasMany, manew, mthrown, mtext, mlength, mspot, mvalue, merror, mtold, mtolds)) (fun r5 =>
some (r5, (mg, mkept, mspare, mhasKept, mwas, mwasMany, manew, mthrown, mtext, mlength, mspot, mvalue, merror, mtold, mtolds)))
else
gd_ l1 610 (
gd_ l1 610 (nm_ (upd mkept l1.toNatClampNeg (mg l1.toNatClampNeg)) (fun u13 =>
k_ (l1 + 1) (mg, u13, mspare, mhasKept, mwas, mwasMany, manew, mthrown, mtext, mlength, mspot, mvalue, merror, mtold, mtolds))))
def f_X6_save_L12 : Nat → Int32 → tM_ → Option (Int32 × tM_)
  | 0 => fun _ _ => none
  | n + 1 => fun l1 M_ => f_X6_save_S12 (f_X6_save_L12 n) l1 M_
def f_X6_save  (M_ : tM_) : Option (Int32 × tM_) :=
match M_ with
| (mg, mkept, mspare, mhasKept, mwas, mwasMany, manew, mthrown, mtext, mlength, mspot, mvalue, merror, mtold, mtolds) =>
f_X6_save_L12 fu_ (0 : Int32) (mg, mkept, mspare, 1, mwas, mwasMany, manew, 0, mtext, mlength, mspot, mvalue, merror, mtold, mtolds)
abbrev rm_X6_save : Room := { frames := 1, cells := 0, slots := 0, locals := 22 }
set_option maxHeartbeats 4000000 in
set_option maxRecDepth 100000 in
theorem c_X6_save (l : Launch) (dC : Nat → ClassId) (dI : Nat → Nat → Nat) (cI cZ cC cJ cD : ClassId) (m0 m_g m_kept m_spare m_was m_text m_told : Nat) (sz : Nat) (mg : Nat → Int32) (mkept : Nat → Int32) (mspare : Nat → Int32) (mhasKept : Int32) (mwas : Nat → Int32) (mwasMany : Int32) (manew : Int32) (mthrown : Int32) (mtext : Nat → Int32) (mlength : Int32) (mspot : Int32) (mvalue : Int32) (merror : Int32) (mtold : Nat → Int32) (mtolds : Int32)  (R : Int32 × tM_) (hf : f_X6_save  (mg, mkept, mspare, mhasKept, mwas, mwasMany, manew, mthrown, mtext, mlength, mspot, mvalue, merror, mtold, mtolds) = some R) : Met l yX6_save wsX6_save rm_X6_save (Pc_ (dC, dI) (ty_ cI cZ cC cJ cD) (wM_ m0 m_g m_kept m_spare m_was m_text m_told cI mg mkept mspare mhasKept mwas mwasMany manew mthrown mtext mlength mspot mvalue merror mtold mtolds) sz [.ref m0]) (Qi_ (dC, dI) (ty_ cI cZ cC cJ cD) R.1 (wM_ m0 m_g m_kept m_spare m_was m_text m_told cI R.2.1 R.2.2.1 R.2.2.2.1 R.2.2.2.2.1 R.2.2.2.2.2.1 R.2.2.2.2.2.2.1 R.2.2.2.2.2.2.2.1 R.2.2.2.2.2.2.2.2.1 R.2.2.2.2.2.2.2.2.2.1 R.2.2.2.2.2.2.2.2.2.2.1 R.2.2.2.2.2.2.2.2.2.2.2.1 R.2.2.2.2.2.2.2.2.2.2.2.2.1 R.2.2.2.2.2.2.2.2.2.2.2.2.2.1 R.2.2.2.2.2.2.2.2.2.2.2.2.2.2.1 R.2.2.2.2.2.2.2.2.2.2.2.2.2.2.2) (va_A (wM_ m0 m_g m_kept m_spare m_was m_text m_told cI mg mkept mspare mhasKept mwas mwasMany manew mthrown mtext mlength mspot mvalue merror mtold mtolds) sz)) 0 0 (va_A (wM_ m0 m_g m_kept m_spare m_was m_text m_told cI mg mkept mspare mhasKept mwas mwasMany manew mthrown mtext mlength mspot mvalue merror mtold mtolds) sz) := by
  refine met_ (cc := cX6_save) (maxL := 2) (ret := (some .int)) (Qcf := fun A => Qi_ (dC, dI) (ty_ cI cZ cC cJ cD) R.1 (wM_ m0 m_g m_kept m_spare m_was m_text m_told cI R.2.1 R.2.2.1 R.2.2.2.1 R.2.2.2.2.1 R.2.2.2.2.2.1 R.2.2.2.2.2.2.1 R.2.2.2.2.2.2.2.1 R.2.2.2.2.2.2.2.2.1 R.2.2.2.2.2.2.2.2.2.1 R.2.2.2.2.2.2.2.2.2.2.1 R.2.2.2.2.2.2.2.2.2.2.2.1 R.2.2.2.2.2.2.2.2.2.2.2.2.1 R.2.2.2.2.2.2.2.2.2.2.2.2.2.1 R.2.2.2.2.2.2.2.2.2.2.2.2.2.2.1 R.2.2.2.2.2.2.2.2.2.2.2.2.2.2.2) A) (by decide) rfl (Nat.le_of_ble_eq_true rfl) ?_
  intro p e s m args below meth c A ls hx hb hr hts hown hlocks hml hA hP hK hD hl
  have hown : s.vm.findClass RX6 = some m.cls := hown
  have hl : lv_has ls 2 [(0, .ref m0)] := hl
  have hS : va_S A s.heap s.heap [] := va_S.rf
  have fl7_ : (Cond.fieldLink RX6 7 "DimensionLoaderModel" "g" "[I").before args s = true := hts _ (List.mem_of_getElem? (i := 4) rfl)
  have fl13_ : (Cond.fieldLink RX6 13 "DimensionLoaderModel" "kept" "[I").before args s = true := hts _ (List.mem_of_getElem? (i := 3) rfl)
  have fl32_ : (Cond.fieldLink RX6 32 "DimensionLoaderModel" "thrown" "I").before args s = true := hts _ (List.mem_of_getElem? (i := 1) rfl)
  have fl168_ : (Cond.fieldLink RX6 168 "DimensionLoaderModel" "hasKept" "Z").before args s = true := hts _ (List.mem_of_getElem? (i := 2) rfl)
  have inX6_ : ∀ w ∈ wsX60, w ∈ wsX6_save := in_X6_save_X6
  unfold f_X6_save at hf
  dsimp only at hf
  refine lv_aload_n hx hb dX6_save_0 rfl (lv_at hl 0 rfl) ?_
  refine lv_iconst (v := 0) hx hb dX6_save_1 (by decide) ?_
  refine va_put (D := (dC, dI)) (ci := 8) (v := .int 0) (ty := .int) (C := RX6) (T := TX6) (N := 15) hx hb hts inX6_ tyX6 tyX6_ok nmX6 hown hK hP hD hS 0 rfl rfl 7 (by decide) fl32_ (fun _ h9 => h9) rfl (by decide +kernel) (by first | rfl | decide) (by first | rfl | decide) (Nat.le_of_ble_eq_true rfl) dX6_save_2 (fun H1 locs hP hD hS => ?_)
  have hP : va_P (dC, dI) vwCl (wM_ m0 m_g m_kept m_spare m_was m_text m_told cI mg mkept mspare mhasKept mwas mwasMany manew 0 mtext mlength mspot mvalue merror mtold mtolds) H1 := hP
  have hD : va_D A (wM_ m0 m_g m_kept m_spare m_was m_text m_told cI mg mkept mspare mhasKept mwas mwasMany manew 0 mtext mlength mspot mvalue merror mtold mtolds) := hD
  refine lv_aload_n hx hb dX6_save_5 rfl (lv_at hl 0 rfl) ?_
  refine lv_iconst (v := 1) hx hb dX6_save_6 (by decide) ?_
  refine va_put (D := (dC, dI)) (ci := 8) (v := .int 1) (ty := .boolean) (C := RX6) (T := TX6) (N := 15) hx hb hts inX6_ tyX6 tyX6_ok nmX6 hown hK hP hD hS 0 rfl rfl 3 (by decide) fl168_ (fun _ h9 => h9) rfl (by decide +kernel) (by first | rfl | decide) (by first | rfl | decide) (Nat.le_of_ble_eq_true rfl) dX6_save_7 (fun H2 locs hP hD hS => ?_)
  have hP : va_P (dC, dI) vwCl (wM_ m0 m_g m_kept m_spare m_was m_text m_told cI mg mkept mspare 1 mwas mwasMany manew 0 mtext mlength mspot mvalue merror mtold mtolds) H2 := hP
  have hD : va_D A (wM_ m0 m_g m_kept m_spare m_was m_text m_told cI mg mkept mspare 1 mwas mwasMany manew 0 mtext mlength mspot mvalue merror mtold mtolds) := hD
  refine lv_iconst (v := 0) hx hb dX6_save_10 (by decide) ?_
  refine lv_istore_n (lv' := [(1, .int 0), (0, .ref m0)]) hx hb dX6_save_11 rfl hl (by decide) rfl (fun ls hl => ?_)
  have lp12 : ∀ (n : Nat) (l1 : Int32) (mg : Nat → Int32) (mkept : Nat → Int32) (mspare : Nat → Int32) (mhasKept : Int32) (mwas : Nat → Int32) (mwasMany : Int32) (manew : Int32) (mthrown : Int32) (mtext : Nat → Int32) (mlength : Int32) (mspot : Int32) (mvalue : Int32) (merror : Int32) (mtold : Nat → Int32) (mtolds : Int32) (H3 : Heap) (locs : List Loc) (ls : Array Slot), f_X6_save_L12 n l1 (mg, mkept, mspare, mhasKept, mwas, mwasMany, manew, mthrown, mtext, mlength, mspot, mvalue, merror, mtold, mtolds) = some R → va_P (dC, dI) vwCl (wM_ m0 m_g m_kept m_spare m_was m_text m_told cI mg mkept mspare mhasKept mwas mwasMany manew mthrown mtext mlength mspot mvalue merror mtold mtolds) H3 → va_D A (wM_ m0 m_g m_kept m_spare m_was m_text m_told cI mg mkept mspare mhasKept mwas mwasMany manew mthrown mtext mlength mspot mvalue merror mtold mtolds) → va_S A s.heap H3 locs → lv_has ls 2 [(1, .int l1), (0, .ref m0)] → W p l e (headSpec wsX6_save rm_X6_save).room s m args below meth c H3 locs 0 0 (MQ below (Qi_ (dC, dI) (ty_ cI cZ cC cJ cD) R.1 (wM_ m0 m_g m_kept m_spare m_was m_text m_told cI R.2.1 R.2.2.1 R.2.2.2.1 R.2.2.2.2.1 R.2.2.2.2.2.1 R.2.2.2.2.2.2.1 R.2.2.2.2.2.2.2.1 R.2.2.2.2.2.2.2.2.1 R.2.2.2.2.2.2.2.2.2.1 R.2.2.2.2.2.2.2.2.2.2.1 R.2.2.2.2.2.2.2.2.2.2.2.1 R.2.2.2.2.2.2.2.2.2.2.2.2.1 R.2.2.2.2.2.2.2.2.2.2.2.2.2.1 R.2.2.2.2.2.2.2.2.2.2.2.2.2.2.1 R.2.2.2.2.2.2.2.2.2.2.2.2.2.2.2) A) args s 0 0 A) (F0 m 12 ls []) := by
    intro n
    induction n with
    | zero => intro l1 mg mkept mspare mhasKept mwas mwasMany manew mthrown mtext mlength mspot mvalue merror mtold mtolds H3 locs ls hf hP hD hS hl; exact absurd hf (by simp [f_X6_save_L12])
    | succ n ih =>
      intro l1 mg mkept mspare mhasKept mwas mwasMany manew mthrown mtext mlength mspot mvalue merror mtold mtolds H3 locs ls hf hP hD hS hl
      have hf : f_X6_save_S12 (f_X6_save_L12 n) l1 (mg, mkept, mspare, mhasKept, mwas, mwasMany, manew, mthrown, mtext, mlength, mspot, mvalue, merror, mtold, mtolds) = some R := hf
      unfold f_X6_save_S12 at hf
      dsimp only at hf
      refine lv_iload_n hx hb dX6_save_12 rfl (lv_at hl 0 rfl) ?_
      refine lv_sipush (v := 610) hx hb dX6_save_13 (by decide) ?_
      refine lv_icmp_ge (tgt := 37) hx hb dX6_save_16 (by decide) (fun c4 => ?_) (fun c4 => ?_)
      · have hf := ite_T c4 hf
        refine lv_aload_n hx hb dX6_save_37 rfl (lv_at hl 1 rfl) ?_
        obtain ⟨R6, g7, hf⟩ := bd_B hf
        obtain ⟨r5, rfl⟩ : ∃ z, z = R6 := ⟨_, rfl⟩
        have hPc := hP
        have hDc := hD
        have hFc := va_free (wc := wM_ m0 m_g m_kept m_spare m_was m_text m_told cI mg mkept mspare mhasKept mwas mwasMany manew mthrown mtext mlength mspot mvalue merror mtold mtolds) hD hS hA [0, 1, 2, 3, 4, 5, 6] rfl
        refine va_calli (va_runV (As := []) (rest := []) ⟨hx, hb, hml, hown, hts⟩ (c_X6_there l dC dI cI cZ cC cJ cD m0 m_g m_kept m_spare m_was m_text m_told H3.size mg mkept mspare mhasKept mwas mwasMany manew mthrown mtext mlength mspot mvalue merror mtold mtolds r5 g7) (cwV 0 hts gX6_save_X6_there rfl rfl rfl hs_X6_there ⟨Nat.le_of_ble_eq_true rfl, Nat.le_of_ble_eq_true rfl⟩) (preV_ (ci := 8) (q0 := 0) hPc hK hDc rfl rfl rfl rfl) rfl rfl hl.1 rfl (lv_room (Nat.le_of_ble_eq_true rfl)) dX6_save_38 ⟨Nat.le_of_ble_eq_true rfl, Nat.le_of_ble_eq_true rfl⟩) hS (fun q _ h => hFc q h) hFc (fun z9 u t H8 locs ht hvm hw hB hz1 hk1 hS => ?_)
        have hw : r5 = z9 := hw.symm
        subst hw
        obtain ⟨hP, hD⟩ := aft_ (Wr := []) (Wc' := wM_ m0 m_g m_kept m_spare m_was m_text m_told cI mg mkept mspare mhasKept mwas mwasMany manew mthrown mtext mlength mspot mvalue merror mtold mtolds) (W2 := wM_ m0 m_g m_kept m_spare m_was m_text m_told cI mg mkept mspare mhasKept mwas mwasMany manew mthrown mtext mlength mspot mvalue merror mtold mtolds) hP hD [0, 1, 2, 3, 4, 5, 6] [] [0, 1, 2, 3, 4, 5, 6] rfl rfl (by decide) (by decide) (by decide) hk1 hFc hB ht rfl
        have hR := Option.some.inj hf
        subst hR
        exact W.iret (v := r5) hx hb hr (fun t ht hW => ⟨⟨r5, (), rfl, rfl, by rw [ht]; exact hP, va_K.moved hW.alike hK, hD⟩, hS.F ht⟩) hS.2.2 dX6_save_41
      · have hf := ite_F c4 hf
        refine lv_aload_n hx hb dX6_save_19 rfl (lv_at hl 1 rfl) ?_
        refine va_get (D := (dC, dI)) (ci := 8) (v := .ref m_kept) (C := RX6) (T := TX6) (N := 15) hx hb hts inX6_ hown hK hP 0 rfl rfl 1 (by decide) fl13_ (fun _ h9 => h9) rfl dX6_save_20 ?_
        refine lv_iload_n hx hb dX6_save_23 rfl (lv_at hl 0 rfl) ?_
        refine lv_aload_n hx hb dX6_save_24 rfl (lv_at hl 1 rfl) ?_
        refine va_get (D := (dC, dI)) (ci := 8) (v := .ref m_g) (C := RX6) (T := TX6) (N := 15) hx hb hts inX6_ hown hK hP 0 rfl rfl 0 (by decide) fl7_ (fun _ h9 => h9) rfl dX6_save_25 ?_
        refine lv_iload_n hx hb dX6_save_28 rfl (lv_at hl 0 rfl) ?_
        obtain ⟨h10, hf⟩ := gd_T hf
        refine va_iald hx hb hK hP 1 0 rfl rfl h10 dX6_save_29 ?_
        obtain ⟨h11, hf⟩ := gd_T hf
        refine va_iast hx hb hK hP hD hS 2 0 rfl rfl h11 dX6_save_30 (fun H12 locs hP hD hS => ?_)
        have hP : va_P (dC, dI) vwCl (wM_ m0 m_g m_kept m_spare m_was m_text m_told cI mg (upd mkept l1.toNatClampNeg (mg l1.toNatClampNeg)) mspare mhasKept mwas mwasMany manew mthrown mtext mlength mspot mvalue merror mtold mtolds) H12 := hP
        have hD : va_D A (wM_ m0 m_g m_kept m_spare m_was m_text m_told cI mg (upd mkept l1.toNatClampNeg (mg l1.toNatClampNeg)) mspare mhasKept mwas mwasMany manew mthrown mtext mlength mspot mvalue merror mtold mtolds) := hD
        obtain ⟨u13, e14, hf⟩ := nm_T hf
        rw [← e14] at hP hD
        refine lv_iinc (v := l1 + 1) (lv' := [(1, .int (l1 + 1)), (0, .ref m0)]) hx hb dX6_save_31 hl (k := 0) rfl (by first | rfl | decide) (by decide) rfl (fun ls hl => ?_)
        refine lv_goto (tgt := 12) hx hb dX6_save_34 (by decide) ?_
        exact ih (l1 + 1) mg u13 mspare mhasKept mwas mwasMany manew mthrown mtext mlength mspot mvalue merror mtold mtolds _ _ _ hf hP hD hS (lv_sub hl [0, 1] rfl)
  exact lp12 fu_ (0 : Int32) mg mkept mspare (1 : Int32) mwas mwasMany manew (0 : Int32) mtext mlength mspot mvalue merror mtold mtolds _ _ _ hf hP hD hS hl
theorem hs_X6_save : yX6_save.cls = RX6 ∧ yX6_save.cls ≠ "java/lang/invoke/MethodHandle" ∧ yX6_save.cls ≠ "java/lang/invoke/VarHandle" ∧ (parseMethodDescriptor yX6_save.desc).map (fun d => d.parameters.length) = some 0 := by decide +kernel
set_option maxRecDepth 20000 in
theorem in_X6_restore_X6 : ∀ w ∈ wsX60, w ∈ wsX6_restore := by decide +kernel
def f_X6_restore_S20 (k_ : Int32 → tM_ → Option (Int32 × tM_)) (l1 : Int32) (M_ : tM_) : Option (Int32 × tM_) :=
match M_ with
| (mg, mkept, mspare, mhasKept, mwas, mwasMany, manew, mthrown, mtext, mlength, mspot, mvalue, merror, mtold, mtolds) =>
if 610 ≤ l1 then
bd_ (f_X6_there (mg, mkept, mspare, mhasKept, mwas, mwasMany, 0, mthrown, mtext, mlength, mspot, mvalue, merror, mtold, mtolds)) (fun r6 =>
some (r6, (mg, mkept, mspare, mhasKept, mwas, mwasMany, 0, mthrown, mtext, mlength, mspot, mvalue, merror, mtold, mtolds)))
else
gd_ l1 610 (
gd_ l1 610 (nm_ (upd mg l1.toNatClampNeg (mkept l1.toNatClampNeg)) (fun u14 =>
k_ (l1 + 1) (u14, mkept, mspare, mhasKept, mwas, mwasMany, manew, mthrown, mtext, mlength, mspot, mvalue, merror, mtold, mtolds))))
def f_X6_restore_L20 : Nat → Int32 → tM_ → Option (Int32 × tM_)
  | 0 => fun _ _ => none
  | n + 1 => fun l1 M_ => f_X6_restore_S20 (f_X6_restore_L20 n) l1 M_
def f_X6_restore  (M_ : tM_) : Option (Int32 × tM_) :=
match M_ with
| (mg, mkept, mspare, mhasKept, mwas, mwasMany, manew, mthrown, mtext, mlength, mspot, mvalue, merror, mtold, mtolds) =>
if mhasKept = 0 then
bd_ (f_X6_fails (1 : Int32) (mg, mkept, mspare, mhasKept, mwas, mwasMany, manew, 0, mtext, mlength, mspot, mvalue, merror, mtold, mtolds)) (fun (r16, (mg17, mk18, ms19, mh20, mw21, mw22, ma23, mt24, mt25, ml26, ms27, mv28, me29, mt30, mt31)) =>
some (r16, (mg17, mk18, ms19, mh20, mw21, mw22, ma23, mt24, mt25, ml26, ms27, mv28, me29, mt30, mt31)))
else
f_X6_restore_L20 fu_ (0 : Int32) (mg, mkept, mspare, mhasKept, mwas, mwasMany, manew, 0, mtext, mlength, mspot, mvalue, merror, mtold, mtolds)
abbrev rm_X6_restore : Room := { frames := 1, cells := 0, slots := 0, locals := 22 }
set_option maxHeartbeats 4000000 in
set_option maxRecDepth 100000 in
theorem c_X6_restore (l : Launch) (dC : Nat → ClassId) (dI : Nat → Nat → Nat) (cI cZ cC cJ cD : ClassId) (m0 m_g m_kept m_spare m_was m_text m_told : Nat) (sz : Nat) (mg : Nat → Int32) (mkept : Nat → Int32) (mspare : Nat → Int32) (mhasKept : Int32) (mwas : Nat → Int32) (mwasMany : Int32) (manew : Int32) (mthrown : Int32) (mtext : Nat → Int32) (mlength : Int32) (mspot : Int32) (mvalue : Int32) (merror : Int32) (mtold : Nat → Int32) (mtolds : Int32)  (R : Int32 × tM_) (hf : f_X6_restore  (mg, mkept, mspare, mhasKept, mwas, mwasMany, manew, mthrown, mtext, mlength, mspot, mvalue, merror, mtold, mtolds) = some R) : Met l yX6_restore wsX6_restore rm_X6_restore (Pc_ (dC, dI) (ty_ cI cZ cC cJ cD) (wM_ m0 m_g m_kept m_spare m_was m_text m_told cI mg mkept mspare mhasKept mwas mwasMany manew mthrown mtext mlength mspot mvalue merror mtold mtolds) sz [.ref m0]) (Qi_ (dC, dI) (ty_ cI cZ cC cJ cD) R.1 (wM_ m0 m_g m_kept m_spare m_was m_text m_told cI R.2.1 R.2.2.1 R.2.2.2.1 R.2.2.2.2.1 R.2.2.2.2.2.1 R.2.2.2.2.2.2.1 R.2.2.2.2.2.2.2.1 R.2.2.2.2.2.2.2.2.1 R.2.2.2.2.2.2.2.2.2.1 R.2.2.2.2.2.2.2.2.2.2.1 R.2.2.2.2.2.2.2.2.2.2.2.1 R.2.2.2.2.2.2.2.2.2.2.2.2.1 R.2.2.2.2.2.2.2.2.2.2.2.2.2.1 R.2.2.2.2.2.2.2.2.2.2.2.2.2.2.1 R.2.2.2.2.2.2.2.2.2.2.2.2.2.2.2) (va_A (wM_ m0 m_g m_kept m_spare m_was m_text m_told cI mg mkept mspare mhasKept mwas mwasMany manew mthrown mtext mlength mspot mvalue merror mtold mtolds) sz)) 0 0 (va_A (wM_ m0 m_g m_kept m_spare m_was m_text m_told cI mg mkept mspare mhasKept mwas mwasMany manew mthrown mtext mlength mspot mvalue merror mtold mtolds) sz) := by
  refine met_ (cc := cX6_restore) (maxL := 2) (ret := (some .int)) (Qcf := fun A => Qi_ (dC, dI) (ty_ cI cZ cC cJ cD) R.1 (wM_ m0 m_g m_kept m_spare m_was m_text m_told cI R.2.1 R.2.2.1 R.2.2.2.1 R.2.2.2.2.1 R.2.2.2.2.2.1 R.2.2.2.2.2.2.1 R.2.2.2.2.2.2.2.1 R.2.2.2.2.2.2.2.2.1 R.2.2.2.2.2.2.2.2.2.1 R.2.2.2.2.2.2.2.2.2.2.1 R.2.2.2.2.2.2.2.2.2.2.2.1 R.2.2.2.2.2.2.2.2.2.2.2.2.1 R.2.2.2.2.2.2.2.2.2.2.2.2.2.1 R.2.2.2.2.2.2.2.2.2.2.2.2.2.2.1 R.2.2.2.2.2.2.2.2.2.2.2.2.2.2.2) A) (by decide) rfl (Nat.le_of_ble_eq_true rfl) ?_
  intro p e s m args below meth c A ls hx hb hr hts hown hlocks hml hA hP hK hD hl
  have hown : s.vm.findClass RX6 = some m.cls := hown
  have hl : lv_has ls 2 [(0, .ref m0)] := hl
  have hS : va_S A s.heap s.heap [] := va_S.rf
  have fl7_ : (Cond.fieldLink RX6 7 "DimensionLoaderModel" "g" "[I").before args s = true := hts _ (List.mem_of_getElem? (i := 3) rfl)
  have fl13_ : (Cond.fieldLink RX6 13 "DimensionLoaderModel" "kept" "[I").before args s = true := hts _ (List.mem_of_getElem? (i := 4) rfl)
  have fl32_ : (Cond.fieldLink RX6 32 "DimensionLoaderModel" "thrown" "I").before args s = true := hts _ (List.mem_of_getElem? (i := 1) rfl)
  have fl65_ : (Cond.fieldLink RX6 65 "DimensionLoaderModel" "anew" "I").before args s = true := hts _ (List.mem_of_getElem? (i := 5) rfl)
  have fl168_ : (Cond.fieldLink RX6 168 "DimensionLoaderModel" "hasKept" "Z").before args s = true := hts _ (List.mem_of_getElem? (i := 2) rfl)
  have inX6_ : ∀ w ∈ wsX60, w ∈ wsX6_restore := in_X6_restore_X6
  unfold f_X6_restore at hf
  dsimp only at hf
  refine lv_aload_n hx hb dX6_restore_0 rfl (lv_at hl 0 rfl) ?_
  refine lv_iconst (v := 0) hx hb dX6_restore_1 (by decide) ?_
  refine va_put (D := (dC, dI)) (ci := 8) (v := .int 0) (ty := .int) (C := RX6) (T := TX6) (N := 15) hx hb hts inX6_ tyX6 tyX6_ok nmX6 hown hK hP hD hS 0 rfl rfl 7 (by decide) fl32_ (fun _ h9 => h9) rfl (by decide +kernel) (by first | rfl | decide) (by first | rfl | decide) (Nat.le_of_ble_eq_true rfl) dX6_restore_2 (fun H1 locs hP hD hS => ?_)
  have hP : va_P (dC, dI) vwCl (wM_ m0 m_g m_kept m_spare m_was m_text m_told cI mg mkept mspare mhasKept mwas mwasMany manew 0 mtext mlength mspot mvalue merror mtold mtolds) H1 := hP
  have hD : va_D A (wM_ m0 m_g m_kept m_spare m_was m_text m_told cI mg mkept mspare mhasKept mwas mwasMany manew 0 mtext mlength mspot mvalue merror mtold mtolds) := hD
  refine lv_aload_n hx hb dX6_restore_5 rfl (lv_at hl 0 rfl) ?_
  refine va_get (D := (dC, dI)) (ci := 8) (v := .int mhasKept) (C := RX6) (T := TX6) (N := 15) hx hb hts inX6_ hown hK hP 0 rfl rfl 3 (by decide) fl168_ (fun _ h9 => h9) rfl dX6_restore_6 ?_
  refine lv_if_ne (tgt := 18) hx hb dX6_restore_9 (by decide) (fun c2 => ?_) (fun c2 => ?_)
  · have hf := ite_F c2 hf
    refine lv_iconst (v := 0) hx hb dX6_restore_18 (by decide) ?_
    refine lv_istore_n (lv' := [(1, .int 0), (0, .ref m0)]) hx hb dX6_restore_19 rfl hl (by decide) rfl (fun ls hl => ?_)
    have lp20 : ∀ (n : Nat) (l1 : Int32) (mg : Nat → Int32) (mkept : Nat → Int32) (mspare : Nat → Int32) (mhasKept : Int32) (mwas : Nat → Int32) (mwasMany : Int32) (manew : Int32) (mthrown : Int32) (mtext : Nat → Int32) (mlength : Int32) (mspot : Int32) (mvalue : Int32) (merror : Int32) (mtold : Nat → Int32) (mtolds : Int32) (H3 : Heap) (locs : List Loc) (ls : Array Slot), f_X6_restore_L20 n l1 (mg, mkept, mspare, mhasKept, mwas, mwasMany, manew, mthrown, mtext, mlength, mspot, mvalue, merror, mtold, mtolds) = some R → va_P (dC, dI) vwCl (wM_ m0 m_g m_kept m_spare m_was m_text m_told cI mg mkept mspare mhasKept mwas mwasMany manew mthrown mtext mlength mspot mvalue merror mtold mtolds) H3 → va_D A (wM_ m0 m_g m_kept m_spare m_was m_text m_told cI mg mkept mspare mhasKept mwas mwasMany manew mthrown mtext mlength mspot mvalue merror mtold mtolds) → va_S A s.heap H3 locs → lv_has ls 2 [(1, .int l1), (0, .ref m0)] → W p l e (headSpec wsX6_restore rm_X6_restore).room s m args below meth c H3 locs 0 0 (MQ below (Qi_ (dC, dI) (ty_ cI cZ cC cJ cD) R.1 (wM_ m0 m_g m_kept m_spare m_was m_text m_told cI R.2.1 R.2.2.1 R.2.2.2.1 R.2.2.2.2.1 R.2.2.2.2.2.1 R.2.2.2.2.2.2.1 R.2.2.2.2.2.2.2.1 R.2.2.2.2.2.2.2.2.1 R.2.2.2.2.2.2.2.2.2.1 R.2.2.2.2.2.2.2.2.2.2.1 R.2.2.2.2.2.2.2.2.2.2.2.1 R.2.2.2.2.2.2.2.2.2.2.2.2.1 R.2.2.2.2.2.2.2.2.2.2.2.2.2.1 R.2.2.2.2.2.2.2.2.2.2.2.2.2.2.1 R.2.2.2.2.2.2.2.2.2.2.2.2.2.2.2) A) args s 0 0 A) (F0 m 20 ls []) := by
      intro n
      induction n with
      | zero => intro l1 mg mkept mspare mhasKept mwas mwasMany manew mthrown mtext mlength mspot mvalue merror mtold mtolds H3 locs ls hf hP hD hS hl; exact absurd hf (by simp [f_X6_restore_L20])
      | succ n ih =>
        intro l1 mg mkept mspare mhasKept mwas mwasMany manew mthrown mtext mlength mspot mvalue merror mtold mtolds H3 locs ls hf hP hD hS hl
        have hf : f_X6_restore_S20 (f_X6_restore_L20 n) l1 (mg, mkept, mspare, mhasKept, mwas, mwasMany, manew, mthrown, mtext, mlength, mspot, mvalue, merror, mtold, mtolds) = some R := hf
        unfold f_X6_restore_S20 at hf
        dsimp only at hf
        refine lv_iload_n hx hb dX6_restore_20 rfl (lv_at hl 0 rfl) ?_
        refine lv_sipush (v := 610) hx hb dX6_restore_21 (by decide) ?_
        refine lv_icmp_ge (tgt := 45) hx hb dX6_restore_24 (by decide) (fun c4 => ?_) (fun c4 => ?_)
        · have hf := ite_T c4 hf
          refine lv_aload_n hx hb dX6_restore_45 rfl (lv_at hl 1 rfl) ?_
          refine lv_iconst (v := 0) hx hb dX6_restore_46 (by decide) ?_
          refine va_put (D := (dC, dI)) (ci := 8) (v := .int 0) (ty := .int) (C := RX6) (T := TX6) (N := 15) hx hb hts inX6_ tyX6 tyX6_ok nmX6 hown hK hP hD hS 0 rfl rfl 6 (by decide) fl65_ (fun _ h9 => h9) rfl (by decide +kernel) (by first | rfl | decide) (by first | rfl | decide) (Nat.le_of_ble_eq_true rfl) dX6_restore_47 (fun H5 locs hP hD hS => ?_)
          have hP : va_P (dC, dI) vwCl (wM_ m0 m_g m_kept m_spare m_was m_text m_told cI mg mkept mspare mhasKept mwas mwasMany 0 mthrown mtext mlength mspot mvalue merror mtold mtolds) H5 := hP
          have hD : va_D A (wM_ m0 m_g m_kept m_spare m_was m_text m_told cI mg mkept mspare mhasKept mwas mwasMany 0 mthrown mtext mlength mspot mvalue merror mtold mtolds) := hD
          refine lv_aload_n hx hb dX6_restore_50 rfl (lv_at hl 1 rfl) ?_
          obtain ⟨R7, g8, hf⟩ := bd_B hf
          obtain ⟨r6, rfl⟩ : ∃ z, z = R7 := ⟨_, rfl⟩
          have hPc := hP
          have hDc := hD
          have hFc := va_free (wc := wM_ m0 m_g m_kept m_spare m_was m_text m_told cI mg mkept mspare mhasKept mwas mwasMany 0 mthrown mtext mlength mspot mvalue merror mtold mtolds) hD hS hA [0, 1, 2, 3, 4, 5, 6] rfl
          refine va_calli (va_runV (As := []) (rest := []) ⟨hx, hb, hml, hown, hts⟩ (c_X6_there l dC dI cI cZ cC cJ cD m0 m_g m_kept m_spare m_was m_text m_told H5.size mg mkept mspare mhasKept mwas mwasMany (0 : Int32) mthrown mtext mlength mspot mvalue merror mtold mtolds r6 g8) (cwV 0 hts gX6_restore_X6_there rfl rfl rfl hs_X6_there ⟨Nat.le_of_ble_eq_true rfl, Nat.le_of_ble_eq_true rfl⟩) (preV_ (ci := 8) (q0 := 0) hPc hK hDc rfl rfl rfl rfl) rfl rfl hl.1 rfl (lv_room (Nat.le_of_ble_eq_true rfl)) dX6_restore_51 ⟨Nat.le_of_ble_eq_true rfl, Nat.le_of_ble_eq_true rfl⟩) hS (fun q _ h => hFc q h) hFc (fun z10 u t H9 locs ht hvm hw hB hz1 hk1 hS => ?_)
          have hw : r6 = z10 := hw.symm
          subst hw
          obtain ⟨hP, hD⟩ := aft_ (Wr := []) (Wc' := wM_ m0 m_g m_kept m_spare m_was m_text m_told cI mg mkept mspare mhasKept mwas mwasMany 0 mthrown mtext mlength mspot mvalue merror mtold mtolds) (W2 := wM_ m0 m_g m_kept m_spare m_was m_text m_told cI mg mkept mspare mhasKept mwas mwasMany 0 mthrown mtext mlength mspot mvalue merror mtold mtolds) hP hD [0, 1, 2, 3, 4, 5, 6] [] [0, 1, 2, 3, 4, 5, 6] rfl rfl (by decide) (by decide) (by decide) hk1 hFc hB ht rfl
          have hR := Option.some.inj hf
          subst hR
          exact W.iret (v := r6) hx hb hr (fun t ht hW => ⟨⟨r6, (), rfl, rfl, by rw [ht]; exact hP, va_K.moved hW.alike hK, hD⟩, hS.F ht⟩) hS.2.2 dX6_restore_54
        · have hf := ite_F c4 hf
          refine lv_aload_n hx hb dX6_restore_27 rfl (lv_at hl 1 rfl) ?_
          refine va_get (D := (dC, dI)) (ci := 8) (v := .ref m_g) (C := RX6) (T := TX6) (N := 15) hx hb hts inX6_ hown hK hP 0 rfl rfl 0 (by decide) fl7_ (fun _ h9 => h9) rfl dX6_restore_28 ?_
          refine lv_iload_n hx hb dX6_restore_31 rfl (lv_at hl 0 rfl) ?_
          refine lv_aload_n hx hb dX6_restore_32 rfl (lv_at hl 1 rfl) ?_
          refine va_get (D := (dC, dI)) (ci := 8) (v := .ref m_kept) (C := RX6) (T := TX6) (N := 15) hx hb hts inX6_ hown hK hP 0 rfl rfl 1 (by decide) fl13_ (fun _ h9 => h9) rfl dX6_restore_33 ?_
          refine lv_iload_n hx hb dX6_restore_36 rfl (lv_at hl 0 rfl) ?_
          obtain ⟨h11, hf⟩ := gd_T hf
          refine va_iald hx hb hK hP 2 0 rfl rfl h11 dX6_restore_37 ?_
          obtain ⟨h12, hf⟩ := gd_T hf
          refine va_iast hx hb hK hP hD hS 1 0 rfl rfl h12 dX6_restore_38 (fun H13 locs hP hD hS => ?_)
          have hP : va_P (dC, dI) vwCl (wM_ m0 m_g m_kept m_spare m_was m_text m_told cI (upd mg l1.toNatClampNeg (mkept l1.toNatClampNeg)) mkept mspare mhasKept mwas mwasMany manew mthrown mtext mlength mspot mvalue merror mtold mtolds) H13 := hP
          have hD : va_D A (wM_ m0 m_g m_kept m_spare m_was m_text m_told cI (upd mg l1.toNatClampNeg (mkept l1.toNatClampNeg)) mkept mspare mhasKept mwas mwasMany manew mthrown mtext mlength mspot mvalue merror mtold mtolds) := hD
          obtain ⟨u14, e15, hf⟩ := nm_T hf
          rw [← e15] at hP hD
          refine lv_iinc (v := l1 + 1) (lv' := [(1, .int (l1 + 1)), (0, .ref m0)]) hx hb dX6_restore_39 hl (k := 0) rfl (by first | rfl | decide) (by decide) rfl (fun ls hl => ?_)
          refine lv_goto (tgt := 20) hx hb dX6_restore_42 (by decide) ?_
          exact ih (l1 + 1) u14 mkept mspare mhasKept mwas mwasMany manew mthrown mtext mlength mspot mvalue merror mtold mtolds _ _ _ hf hP hD hS (lv_sub hl [0, 1] rfl)
    exact lp20 fu_ (0 : Int32) mg mkept mspare mhasKept mwas mwasMany manew (0 : Int32) mtext mlength mspot mvalue merror mtold mtolds _ _ _ hf hP hD hS hl
  · have hf := ite_T c2 hf
    refine lv_aload_n hx hb dX6_restore_12 rfl (lv_at hl 0 rfl) ?_
    refine lv_iconst (v := 1) hx hb dX6_restore_13 (by decide) ?_
    obtain ⟨R32, g33, hf⟩ := bd_B hf
    obtain ⟨r16, ⟨mg17, mk18, ms19, mh20, mw21, mw22, ma23, mt24, mt25, ml26, ms27, mv28, me29, mt30, mt31⟩⟩ := R32
    dsimp only at hf
    have hPc := hP
    have hDc := hD
    have hFc := va_free (wc := wM_ m0 m_g m_kept m_spare m_was m_text m_told cI mg mkept mspare mhasKept mwas mwasMany manew 0 mtext mlength mspot mvalue merror mtold mtolds) hD hS hA [0, 1, 2, 3, 4, 5, 6] rfl
    refine va_calli (va_runV (As := [.int 1]) (rest := []) ⟨hx, hb, hml, hown, hts⟩ (c_X6_fails l dC dI cI cZ cC cJ cD m0 m_g m_kept m_spare m_was m_text m_told H1.size mg mkept mspare mhasKept mwas mwasMany manew (0 : Int32) mtext mlength mspot mvalue merror mtold mtolds (1 : Int32) (r16, (mg17, mk18, ms19, mh20, mw21, mw22, ma23, mt24, mt25, ml26, ms27, mv28, me29, mt30, mt31)) g33) (cwV 1 hts gX6_restore_X6_fails rfl rfl rfl hs_X6_fails ⟨Nat.le_of_ble_eq_true rfl, Nat.le_of_ble_eq_true rfl⟩) (preV_ (ci := 8) (q0 := 0) hPc hK hDc rfl rfl rfl rfl) rfl rfl hl.1 rfl (lv_room (Nat.le_of_ble_eq_true rfl)) dX6_restore_14 ⟨Nat.le_of_ble_eq_true rfl, Nat.le_of_ble_eq_true rfl⟩) hS (fun q _ h => hFc q h) hFc (fun z35 u t H34 locs ht hvm hw hB hz1 hk1 hS => ?_)
    have hw : r16 = z35 := hw.symm
    subst hw
    obtain ⟨hP, hD⟩ := aft_ (Wr := []) (Wc' := wM_ m0 m_g m_kept m_spare m_was m_text m_told cI mg17 mk18 ms19 mh20 mw21 mw22 ma23 mt24 mt25 ml26 ms27 mv28 me29 mt30 mt31) (W2 := wM_ m0 m_g m_kept m_spare m_was m_text m_told cI mg17 mk18 ms19 mh20 mw21 mw22 ma23 mt24 mt25 ml26 ms27 mv28 me29 mt30 mt31) hP hD [0, 1, 2, 3, 4, 5, 6] [] [0, 1, 2, 3, 4, 5, 6] rfl rfl (by decide) (by decide) (by decide) hk1 hFc hB ht rfl
    have hR := Option.some.inj hf
    subst hR
    exact W.iret (v := r16) hx hb hr (fun t ht hW => ⟨⟨r16, (), rfl, rfl, by rw [ht]; exact hP, va_K.moved hW.alike hK, hD⟩, hS.F ht⟩) hS.2.2 dX6_restore_17
theorem hs_X6_restore : yX6_restore.cls = RX6 ∧ yX6_restore.cls ≠ "java/lang/invoke/MethodHandle" ∧ yX6_restore.cls ≠ "java/lang/invoke/VarHandle" ∧ (parseMethodDescriptor yX6_restore.desc).map (fun d => d.parameters.length) = some 0 := by decide +kernel
