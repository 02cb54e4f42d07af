set_option maxRecDepth 20000 in
theorem in_X6_amountOf_X6 : ∀ w ∈ wsX60, w ∈ wsX6_amountOf := by decide +kernel
def f_X6_amountOf_S22 (k_ : Int32 → Int64 → Int32 → tM_ → Option (Int64 × tM_)) (l4 : Int32) (l2 : Int64) (l1 : Int32) (M_ : tM_) : Option (Int64 × tM_) :=
match M_ with
| (mg, mkept, mspare, mhasKept, mwas, mwasMany, manew, mthrown, mtext, mlength, mspot, mvalue, merror, mtold, mtolds) =>
gd_ (1 : Int32) 610 (
if (mg ((1 : Int32).toNatClampNeg)) ≤ l4 then
some (l2, (mg, mkept, mspare, mhasKept, mwas, mwasMany, manew, mthrown, mtext, mlength, mspot, mvalue, merror, mtold, mtolds))
else
if mthrown = 0 then
bd_ (f_X6_versionOf l4 (mg, mkept, mspare, mhasKept, mwas, mwasMany, manew, mthrown, mtext, mlength, mspot, mvalue, merror, mtold, mtolds)) (fun r12 =>
if r12 = l1 then
gd_ (490 + l4) 610 (
k_ (l4 + 1) (l2 + ((mg ((490 + l4).toNatClampNeg)).toInt64)) l1 (mg, mkept, mspare, mhasKept, mwas, mwasMany, manew, mthrown, mtext, mlength, mspot, mvalue, merror, mtold, mtolds))
else
k_ (l4 + 1) (l2 + 0) l1 (mg, mkept, mspare, mhasKept, mwas, mwasMany, manew, mthrown, mtext, mlength, mspot, mvalue, merror, mtold, mtolds))
else
some (l2, (mg, mkept, mspare, mhasKept, mwas, mwasMany, manew, mthrown, mtext, mlength, mspot, mvalue, merror, mtold, mtolds)))
def f_X6_amountOf_L22 : Nat → Int32 → Int64 → Int32 → tM_ → Option (Int64 × tM_)
  | 0 => fun _ _ _ _ => none
  | n + 1 => fun l4 l2 l1 M_ => f_X6_amountOf_S22 (f_X6_amountOf_L22 n) l4 l2 l1 M_
def f_X6_amountOf (a1 : Int32) (M_ : tM_) : Option (Int64 × tM_) :=
match M_ with
| (mg, mkept, mspare, mhasKept, mwas, mwasMany, manew, mthrown, mtext, mlength, mspot, mvalue, merror, mtold, mtolds) =>
bd_ (f_X6_isVersion a1 (mg, mkept, mspare, mhasKept, mwas, mwasMany, manew, mthrown, mtext, mlength, mspot, mvalue, merror, mtold, mtolds)) (fun r1 =>
if r1 = 0 then
f_X6_amountOf_L22 fu_ (0 : Int32) (0 : Int64) a1 (mg, mkept, mspare, mhasKept, mwas, mwasMany, manew, 1, mtext, mlength, mspot, mvalue, merror, mtold, mtolds)
else
f_X6_amountOf_L22 fu_ (0 : Int32) (0 : Int64) a1 (mg, mkept, mspare, mhasKept, mwas, mwasMany, manew, 0, mtext, mlength, mspot, mvalue, merror, mtold, mtolds))
abbrev rm_X6_amountOf : Room := { frames := 3, cells := 0, slots := 0, locals := 66 }
set_option maxHeartbeats 4000000 in
set_option maxRecDepth 100000 in
theorem c_X6_amountOf (l : Launch) (dC : Nat → ClassId) (dI : Nat → Nat → Nat) (cI cZ cC cJ cD : ClassId) (m0 m_g m_kept m_spare m_was m_text m_told : Nat) (sz : Nat) (mg : Nat → Int32) (mkept : Nat → Int32) (mspare : Nat → Int32) (mhasKept : Int32) (mwas : Nat → Int32) (mwasMany : Int32) (manew : Int32) (mthrown : Int32) (mtext : Nat → Int32) (mlength : Int32) (mspot : Int32) (mvalue : Int32) (merror : Int32) (mtold : Nat → Int32) (mtolds : Int32) (a1 : Int32) (R : Int64 × tM_) (hf : f_X6_amountOf a1 (mg, mkept, mspare, mhasKept, mwas, mwasMany, manew, mthrown, mtext, mlength, mspot, mvalue, merror, mtold, mtolds) = some R) : Met l yX6_amountOf wsX6_amountOf rm_X6_amountOf (Pc_ (dC, dI) (ty_ cI cZ cC cJ cD) (wM_ m0 m_g m_kept m_spare m_was m_text m_told cI mg mkept mspare mhasKept mwas mwasMany manew mthrown mtext mlength mspot mvalue merror mtold mtolds) sz [.ref m0, .int a1]) (Ql_ (dC, dI) (ty_ cI cZ cC cJ cD) R.1 (wM_ m0 m_g m_kept m_spare m_was m_text m_told cI R.2.1 R.2.2.1 R.2.2.2.1 R.2.2.2.2.1 R.2.2.2.2.2.1 R.2.2.2.2.2.2.1 R.2.2.2.2.2.2.2.1 R.2.2.2.2.2.2.2.2.1 R.2.2.2.2.2.2.2.2.2.1 R.2.2.2.2.2.2.2.2.2.2.1 R.2.2.2.2.2.2.2.2.2.2.2.1 R.2.2.2.2.2.2.2.2.2.2.2.2.1 R.2.2.2.2.2.2.2.2.2.2.2.2.2.1 R.2.2.2.2.2.2.2.2.2.2.2.2.2.2.1 R.2.2.2.2.2.2.2.2.2.2.2.2.2.2.2) (va_A (wM_ m0 m_g m_kept m_spare m_was m_text m_told cI mg mkept mspare mhasKept mwas mwasMany manew mthrown mtext mlength mspot mvalue merror mtold mtolds) sz)) 0 0 (va_A (wM_ m0 m_g m_kept m_spare m_was m_text m_told cI mg mkept mspare mhasKept mwas mwasMany manew mthrown mtext mlength mspot mvalue merror mtold mtolds) sz) := by
  refine met_ (cc := cX6_amountOf) (maxL := 5) (ret := (some .long)) (Qcf := fun A => Ql_ (dC, dI) (ty_ cI cZ cC cJ cD) R.1 (wM_ m0 m_g m_kept m_spare m_was m_text m_told cI R.2.1 R.2.2.1 R.2.2.2.1 R.2.2.2.2.1 R.2.2.2.2.2.1 R.2.2.2.2.2.2.1 R.2.2.2.2.2.2.2.1 R.2.2.2.2.2.2.2.2.1 R.2.2.2.2.2.2.2.2.2.1 R.2.2.2.2.2.2.2.2.2.2.1 R.2.2.2.2.2.2.2.2.2.2.2.1 R.2.2.2.2.2.2.2.2.2.2.2.2.1 R.2.2.2.2.2.2.2.2.2.2.2.2.2.1 R.2.2.2.2.2.2.2.2.2.2.2.2.2.2.1 R.2.2.2.2.2.2.2.2.2.2.2.2.2.2.2) A) (by decide) rfl (Nat.le_of_ble_eq_true rfl) ?_
  intro p e s m args below meth c A ls hx hb hr hts hown hlocks hml hA hP hK hD hl
  have hown : s.vm.findClass RX6 = some m.cls := hown
  have hl : lv_has ls 5 [(0, .ref m0), (1, .int a1)] := hl
  have hS : va_S A s.heap s.heap [] := va_S.rf
  have fl7_ : (Cond.fieldLink RX6 7 "DimensionLoaderModel" "g" "[I").before args s = true := hts _ (List.mem_of_getElem? (i := 2) rfl)
  have fl32_ : (Cond.fieldLink RX6 32 "DimensionLoaderModel" "thrown" "I").before args s = true := hts _ (List.mem_of_getElem? (i := 1) rfl)
  have inX6_ : ∀ w ∈ wsX60, w ∈ wsX6_amountOf := in_X6_amountOf_X6
  unfold f_X6_amountOf at hf
  dsimp only at hf
  refine lv_aload_n hx hb dX6_amountOf_0 rfl (lv_at hl 0 rfl) ?_
  refine lv_aload_n hx hb dX6_amountOf_1 rfl (lv_at hl 0 rfl) ?_
  refine lv_iload_n hx hb dX6_amountOf_2 rfl (lv_at hl 1 rfl) ?_
  obtain ⟨R2, g3, hf⟩ := bd_B hf
  obtain ⟨r1, rfl⟩ : ∃ z, z = R2 := ⟨_, rfl⟩
  have hPc := hP
  have hDc := hD
  have hFc := va_free (wc := wM_ m0 m_g m_kept m_spare m_was m_text m_told cI mg mkept mspare mhasKept mwas mwasMany manew mthrown mtext mlength mspot mvalue merror mtold mtolds) hD hS hA [0, 1, 2, 3, 4, 5, 6] rfl
  refine va_calli (va_runV (As := [.int a1]) (rest := [.ref m0]) ⟨hx, hb, hml, hown, hts⟩ (c_X6_isVersion l dC dI cI cZ cC cJ cD m0 m_g m_kept m_spare m_was m_text m_told s.heap.size mg mkept mspare mhasKept mwas mwasMany manew mthrown mtext mlength mspot mvalue merror mtold mtolds a1 r1 g3) (cwV 1 hts gX6_amountOf_X6_isVersion rfl rfl rfl hs_X6_isVersion ⟨Nat.le_of_ble_eq_true rfl, Nat.le_of_ble_eq_true rfl⟩) (preV_ (ci := 8) (q0 := 0) hPc hK hDc rfl rfl rfl rfl) rfl rfl hl.1 rfl (lv_room (Nat.le_of_ble_eq_true rfl)) dX6_amountOf_3 ⟨Nat.le_of_ble_eq_true rfl, Nat.le_of_ble_eq_true rfl⟩) hS (fun q _ h => hFc q h) hFc (fun z5 u t H4 locs ht hvm hw hB hz1 hk1 hS => ?_)
  have hw : r1 = z5 := hw.symm
  subst hw
  obtain ⟨hP, hD⟩ := aft_ (Wr := []) (Wc' := wM_ m0 m_g m_kept m_spare m_was m_text m_told cI mg mkept mspare mhasKept mwas mwasMany manew mthrown mtext mlength mspot mvalue merror mtold mtolds) (W2 := wM_ m0 m_g m_kept m_spare m_was m_text m_told cI mg mkept mspare mhasKept mwas mwasMany manew mthrown mtext mlength mspot mvalue merror mtold mtolds) hP hD [0, 1, 2, 3, 4, 5, 6] [] [0, 1, 2, 3, 4, 5, 6] rfl rfl (by decide) (by decide) (by decide) hk1 hFc hB ht rfl
  refine lv_if_eq (tgt := 13) hx hb dX6_amountOf_6 (by decide) (fun c6 => ?_) (fun c6 => ?_)
  · have hf := ite_T c6 hf
    refine lv_iconst (v := 1) hx hb dX6_amountOf_13 (by decide) ?_
    refine va_put (D := (dC, dI)) (ci := 8) (v := .int 1) (ty := .int) (C := RX6) (T := TX6) (N := 15) hx hb hts inX6_ tyX6 tyX6_ok nmX6 hown hK hP hD hS 0 rfl rfl 7 (by decide) fl32_ (fun _ h9 => h9) rfl (by decide +kernel) (by first | rfl | decide) (by first | rfl | decide) (Nat.le_of_ble_eq_true rfl) dX6_amountOf_14 (fun H7 locs hP hD hS => ?_)
    have hP : va_P (dC, dI) vwCl (wM_ m0 m_g m_kept m_spare m_was m_text m_told cI mg mkept mspare mhasKept mwas mwasMany manew 1 mtext mlength mspot mvalue merror mtold mtolds) H7 := hP
    have hD : va_D A (wM_ m0 m_g m_kept m_spare m_was m_text m_told cI mg mkept mspare mhasKept mwas mwasMany manew 1 mtext mlength mspot mvalue merror mtold mtolds) := hD
    refine lv_lconst (v := 0) hx hb dX6_amountOf_17 (by decide) ?_
    refine lv_lstore_n (lv' := [(2, .long 0), (0, .ref m0), (1, .int a1)]) hx hb dX6_amountOf_18 rfl hl (by decide) rfl (fun ls hl => ?_)
    refine lv_iconst (v := 0) hx hb dX6_amountOf_19 (by decide) ?_
    refine lv_istore (lv' := [(4, .int 0), (2, .long 0), (0, .ref m0), (1, .int a1)]) hx hb dX6_amountOf_20 hl (by decide) rfl (fun ls hl => ?_)
    have lp22 : ∀ (n : Nat) (l4 : Int32) (l2 : Int64) (l1 : Int32) (mg : Nat → Int32) (mkept : Nat → Int32) (mspare : Nat → Int32) (mhasKept : Int32) (mwas : Nat → Int32) (mwasMany : Int32) (manew : Int32) (mthrown : Int32) (mtext : Nat → Int32) (mlength : Int32) (mspot : Int32) (mvalue : Int32) (merror : Int32) (mtold : Nat → Int32) (mtolds : Int32) (H8 : Heap) (locs : List Loc) (ls : Array Slot), f_X6_amountOf_L22 n l4 l2 l1 (mg, mkept, mspare, mhasKept, mwas, mwasMany, manew, mthrown, mtext, mlength, mspot, mvalue, merror, mtold, mtolds) = some R → va_P (dC, dI) vwCl (wM_ m0 m_g m_kept m_spare m_was m_text m_told cI mg mkept mspare mhasKept mwas mwasMany manew mthrown mtext mlength mspot mvalue merror mtold mtolds) H8 → va_D A (wM_ m0 m_g m_kept m_spare m_was m_text m_told cI mg mkept mspare mhasKept mwas mwasMany manew mthrown mtext mlength mspot mvalue merror mtold mtolds) → va_S A s.heap H8 locs → lv_has ls 5 [(4, .int l4), (2, .long l2), (0, .ref m0), (1, .int l1)] → W p l e (headSpec wsX6_amountOf rm_X6_amountOf).room s m args below meth c H8 locs 0 0 (MQ below (Ql_ (dC, dI) (ty_ cI cZ cC cJ cD) R.1 (wM_ m0 m_g m_kept m_spare m_was m_text m_told cI R.2.1 R.2.2.1 R.2.2.2.1 R.2.2.2.2.1 R.2.2.2.2.2.1 R.2.2.2.2.2.2.1 R.2.2.2.2.2.2.2.1 R.2.2.2.2.2.2.2.2.1 R.2.2.2.2.2.2.2.2.2.1 R.2.2.2.2.2.2.2.2.2.2.1 R.2.2.2.2.2.2.2.2.2.2.2.1 R.2.2.2.2.2.2.2.2.2.2.2.2.1 R.2.2.2.2.2.2.2.2.2.2.2.2.2.1 R.2.2.2.2.2.2.2.2.2.2.2.2.2.2.1 R.2.2.2.2.2.2.2.2.2.2.2.2.2.2.2) A) args s 0 0 A) (F0 m 22 ls []) := by
      intro n
      induction n with
      | zero => intro l4 l2 l1 mg mkept mspare mhasKept mwas mwasMany manew mthrown mtext mlength mspot mvalue merror mtold mtolds H8 locs ls hf hP hD hS hl; exact absurd hf (by simp [f_X6_amountOf_L22])
      | succ n ih =>
        intro l4 l2 l1 mg mkept mspare mhasKept mwas mwasMany manew mthrown mtext mlength mspot mvalue merror mtold mtolds H8 locs ls hf hP hD hS hl
        have hf : f_X6_amountOf_S22 (f_X6_amountOf_L22 n) l4 l2 l1 (mg, mkept, mspare, mhasKept, mwas, mwasMany, manew, mthrown, mtext, mlength, mspot, mvalue, merror, mtold, mtolds) = some R := hf
        unfold f_X6_amountOf_S22 at hf
        dsimp only at hf
        refine lv_iload hx hb dX6_amountOf_22 (lv_at hl 0 rfl) ?_
        refine lv_aload_n hx hb dX6_amountOf_24 rfl (lv_at hl 2 rfl) ?_
        refine va_get (D := (dC, dI)) (ci := 8) (v := .ref m_g) (C := RX6) (T := TX6) (N := 15) hx hb hts inX6_ hown hK hP 0 rfl rfl 0 (by decide) fl7_ (fun _ h9 => h9) rfl dX6_amountOf_25 ?_
        refine lv_iconst (v := 1) hx hb dX6_amountOf_28 (by decide) ?_
        obtain ⟨h9, hf⟩ := gd_T hf
        refine va_iald hx hb hK hP 1 0 rfl rfl h9 dX6_amountOf_29 ?_
        refine lv_icmp_ge (tgt := 75) hx hb dX6_amountOf_30 (by decide) (fun c10 => ?_) (fun c10 => ?_)
        · have hf := ite_T c10 hf
          refine lv_lload_n hx hb dX6_amountOf_75 rfl (lv_at hl 1 rfl) ?_
          have hR := Option.some.inj hf
          subst hR
          exact W.lret (v := l2) hx hb hr (fun t ht hW => ⟨⟨l2, (), rfl, rfl, by rw [ht]; exact hP, va_K.moved hW.alike hK, hD⟩, hS.F ht⟩) hS.2.2 dX6_amountOf_76
        · have hf := ite_F c10 hf
          refine lv_aload_n hx hb dX6_amountOf_33 rfl (lv_at hl 2 rfl) ?_
          refine va_get (D := (dC, dI)) (ci := 8) (v := .int mthrown) (C := RX6) (T := TX6) (N := 15) hx hb hts inX6_ hown hK hP 0 rfl rfl 7 (by decide) fl32_ (fun _ h9 => h9) rfl dX6_amountOf_34 ?_
          refine lv_if_ne (tgt := 75) hx hb dX6_amountOf_37 (by decide) (fun c11 => ?_) (fun c11 => ?_)
          · have hf := ite_F c11 hf
            refine lv_lload_n hx hb dX6_amountOf_75 rfl (lv_at hl 1 rfl) ?_
            have hR := Option.some.inj hf
            subst hR
            exact W.lret (v := l2) hx hb hr (fun t ht hW => ⟨⟨l2, (), rfl, rfl, by rw [ht]; exact hP, va_K.moved hW.alike hK, hD⟩, hS.F ht⟩) hS.2.2 dX6_amountOf_76
          · have hf := ite_T c11 hf
            refine lv_lload_n hx hb dX6_amountOf_40 rfl (lv_at hl 1 rfl) ?_
            refine lv_aload_n hx hb dX6_amountOf_41 rfl (lv_at hl 2 rfl) ?_
            refine lv_iload hx hb dX6_amountOf_42 (lv_at hl 0 rfl) ?_
            obtain ⟨R13, g14, hf⟩ := bd_B hf
            obtain ⟨r12, rfl⟩ : ∃ z, z = R13 := ⟨_, rfl⟩
            have hPc := hP
            have hDc := hD
            have hFc := va_free (wc := wM_ m0 m_g m_kept m_spare m_was m_text m_told cI mg mkept mspare mhasKept mwas mwasMany manew mthrown mtext mlength mspot mvalue merror mtold mtolds) hD hS hA [0, 1, 2, 3, 4, 5, 6] rfl
            refine va_calli (va_runV (As := [.int l4]) (rest := [.long l2]) ⟨hx, hb, hml, hown, hts⟩ (c_X6_versionOf l dC dI cI cZ cC cJ cD m0 m_g m_kept m_spare m_was m_text m_told H8.size mg mkept mspare mhasKept mwas mwasMany manew mthrown mtext mlength mspot mvalue merror mtold mtolds l4 r12 g14) (cwV 1 hts gX6_amountOf_X6_versionOf rfl rfl rfl hs_X6_versionOf ⟨Nat.le_of_ble_eq_true rfl, Nat.le_of_ble_eq_true rfl⟩) (preV_ (ci := 8) (q0 := 0) hPc hK hDc rfl rfl rfl rfl) rfl rfl hl.1 rfl (lv_room (Nat.le_of_ble_eq_true rfl)) dX6_amountOf_44 ⟨Nat.le_of_ble_eq_true rfl, Nat.le_of_ble_eq_true rfl⟩) hS (fun q _ h => hFc q h) hFc (fun z16 u t H15 locs ht hvm hw hB hz1 hk1 hS => ?_)
            have hw : r12 = z16 := hw.symm
            subst hw
            obtain ⟨hP, hD⟩ := aft_ (Wr := []) (Wc' := wM_ m0 m_g m_kept m_spare m_was m_text m_told cI mg mkept mspare mhasKept mwas mwasMany manew mthrown mtext mlength mspot mvalue merror mtold mtolds) (W2 := wM_ m0 m_g m_kept m_spare m_was m_text m_told cI mg mkept mspare mhasKept mwas mwasMany manew mthrown mtext mlength mspot mvalue merror mtold mtolds) hP hD [0, 1, 2, 3, 4, 5, 6] [] [0, 1, 2, 3, 4, 5, 6] rfl rfl (by decide) (by decide) (by decide) hk1 hFc hB ht rfl
            refine lv_iload_n hx hb dX6_amountOf_47 rfl (lv_at hl 3 rfl) ?_
            refine lv_icmp_ne (tgt := 66) hx hb dX6_amountOf_48 (by decide) (fun c17 => ?_) (fun c17 => ?_)
            · have hf := ite_F c17 hf
              refine lv_lconst (v := 0) hx hb dX6_amountOf_66 (by decide) ?_
              refine lv_ladd hx hb dX6_amountOf_67 ?_
              refine lv_lstore_n (lv' := [(2, .long (l2 + 0)), (4, .int l4), (0, .ref m0), (1, .int l1)]) hx hb dX6_amountOf_68 rfl hl (by decide) rfl (fun ls hl => ?_)
              refine lv_iinc (v := l4 + 1) (lv' := [(4, .int (l4 + 1)), (2, .long (l2 + 0)), (0, .ref m0), (1, .int l1)]) hx hb dX6_amountOf_69 hl (k := 1) rfl (by first | rfl | decide) (by decide) rfl (fun ls hl => ?_)
              refine lv_goto (tgt := 22) hx hb dX6_amountOf_72 (by decide) ?_
              exact ih (l4 + 1) (l2 + 0) l1 mg mkept mspare mhasKept mwas mwasMany manew mthrown mtext mlength mspot mvalue merror mtold mtolds _ _ _ hf hP hD hS (lv_sub hl [0, 1, 2, 3] rfl)
            · have hf := ite_T c17 hf
              refine lv_aload_n hx hb dX6_amountOf_51 rfl (lv_at hl 2 rfl) ?_
              refine va_get (D := (dC, dI)) (ci := 8) (v := .ref m_g) (C := RX6) (T := TX6) (N := 15) hx hb hts inX6_ hown hK hP 0 rfl rfl 0 (by decide) fl7_ (fun _ h9 => h9) rfl dX6_amountOf_52 ?_
              refine lv_sipush (v := 490) hx hb dX6_amountOf_55 (by decide) ?_
              refine lv_iload hx hb dX6_amountOf_58 (lv_at hl 0 rfl) ?_
              refine lv_iadd hx hb dX6_amountOf_60 ?_
              obtain ⟨h18, hf⟩ := gd_T hf
              refine va_iald hx hb hK hP 1 0 rfl rfl h18 dX6_amountOf_61 ?_
              refine lv_i2l hx hb dX6_amountOf_62 rfl ?_
              refine lv_goto (tgt := 67) hx hb dX6_amountOf_63 (by decide) ?_
              refine lv_ladd hx hb dX6_amountOf_67 ?_
              refine lv_lstore_n (lv' := [(2, .long (l2 + ((mg ((490 + l4).toNatClampNeg)).toInt64))), (4, .int l4), (0, .ref m0), (1, .int l1)]) hx hb dX6_amountOf_68 rfl hl (by decide) rfl (fun ls hl => ?_)
              refine lv_iinc (v := l4 + 1) (lv' := [(4, .int (l4 + 1)), (2, .long (l2 + ((mg ((490 + l4).toNatClampNeg)).toInt64))), (0, .ref m0), (1, .int l1)]) hx hb dX6_amountOf_69 hl (k := 1) rfl (by first | rfl | decide) (by decide) rfl (fun ls hl => ?_)
              refine lv_goto (tgt := 22) hx hb dX6_amountOf_72 (by decide) ?_
              exact ih (l4 + 1) (l2 + ((mg ((490 + l4).toNatClampNeg)).toInt64)) l1 mg mkept mspare mhasKept mwas mwasMany manew mthrown mtext mlength mspot mvalue merror mtold mtolds _ _ _ hf hP hD hS (lv_sub hl [0, 1, 2, 3] rfl)
    exact lp22 fu_ (0 : Int32) (0 : Int64) a1 mg mkept mspare mhasKept mwas mwasMany manew (1 : Int32) mtext mlength mspot mvalue merror mtold mtolds _ _ _ hf hP hD hS hl
  · have hf := ite_F c6 hf
    refine lv_iconst (v := 0) hx hb dX6_amountOf_9 (by decide) ?_
    refine lv_goto (tgt := 14) hx hb dX6_amountOf_10 (by decide) ?_
    refine va_put (D := (dC, dI)) (ci := 8) (v := .int 0) (ty := .int) (C := RX6) (T := TX6) (N := 15) hx hb hts inX6_ tyX6 tyX6_ok nmX6 hown hK hP hD hS 0 rfl rfl 7 (by decide) fl32_ (fun _ h9 => h9) rfl (by decide +kernel) (by first | rfl | decide) (by first | rfl | decide) (Nat.le_of_ble_eq_true rfl) dX6_amountOf_14 (fun H19 locs hP hD hS => ?_)
    have hP : va_P (dC, dI) vwCl (wM_ m0 m_g m_kept m_spare m_was m_text m_told cI mg mkept mspare mhasKept mwas mwasMany manew 0 mtext mlength mspot mvalue merror mtold mtolds) H19 := hP
    have hD : va_D A (wM_ m0 m_g m_kept m_spare m_was m_text m_told cI mg mkept mspare mhasKept mwas mwasMany manew 0 mtext mlength mspot mvalue merror mtold mtolds) := hD
    refine lv_lconst (v := 0) hx hb dX6_amountOf_17 (by decide) ?_
    refine lv_lstore_n (lv' := [(2, .long 0), (0, .ref m0), (1, .int a1)]) hx hb dX6_amountOf_18 rfl hl (by decide) rfl (fun ls hl => ?_)
    refine lv_iconst (v := 0) hx hb dX6_amountOf_19 (by decide) ?_
    refine lv_istore (lv' := [(4, .int 0), (2, .long 0), (0, .ref m0), (1, .int a1)]) hx hb dX6_amountOf_20 hl (by decide) rfl (fun ls hl => ?_)
    have lp22 : ∀ (n : Nat) (l4 : Int32) (l2 : Int64) (l1 : Int32) (mg : Nat → Int32) (mkept : Nat → Int32) (mspare : Nat → Int32) (mhasKept : Int32) (mwas : Nat → Int32) (mwasMany : Int32) (manew : Int32) (mthrown : Int32) (mtext : Nat → Int32) (mlength : Int32) (mspot : Int32) (mvalue : Int32) (merror : Int32) (mtold : Nat → Int32) (mtolds : Int32) (H20 : Heap) (locs : List Loc) (ls : Array Slot), f_X6_amountOf_L22 n l4 l2 l1 (mg, mkept, mspare, mhasKept, mwas, mwasMany, manew, mthrown, mtext, mlength, mspot, mvalue, merror, mtold, mtolds) = some R → va_P (dC, dI) vwCl (wM_ m0 m_g m_kept m_spare m_was m_text m_told cI mg mkept mspare mhasKept mwas mwasMany manew mthrown mtext mlength mspot mvalue merror mtold mtolds) H20 → va_D A (wM_ m0 m_g m_kept m_spare m_was m_text m_told cI mg mkept mspare mhasKept mwas mwasMany manew mthrown mtext mlength mspot mvalue merror mtold mtolds) → va_S A s.heap H20 locs → lv_has ls 5 [(4, .int l4), (2, .long l2), (0, .ref m0), (1, .int l1)] → W p l e (headSpec wsX6_amountOf rm_X6_amountOf).room s m args below meth c H20 locs 0 0 (MQ below (Ql_ (dC, dI) (ty_ cI cZ cC cJ cD) R.1 (wM_ m0 m_g m_kept m_spare m_was m_text m_told cI R.2.1 R.2.2.1 R.2.2.2.1 R.2.2.2.2.1 R.2.2.2.2.2.1 R.2.2.2.2.2.2.1 R.2.2.2.2.2.2.2.1 R.2.2.2.2.2.2.2.2.1 R.2.2.2.2.2.2.2.2.2.1 R.2.2.2.2.2.2.2.2.2.2.1 R.2.2.2.2.2.2.2.2.2.2.2.1 R.2.2.2.2.2.2.2.2.2.2.2.2.1 R.2.2.2.2.2.2.2.2.2.2.2.2.2.1 R.2.2.2.2.2.2.2.2.2.2.2.2.2.2.1 R.2.2.2.2.2.2.2.2.2.2.2.2.2.2.2) A) args s 0 0 A) (F0 m 22 ls []) := by
      intro n
      induction n with
      | zero => intro l4 l2 l1 mg mkept mspare mhasKept mwas mwasMany manew mthrown mtext mlength mspot mvalue merror mtold mtolds H20 locs ls hf hP hD hS hl; exact absurd hf (by simp [f_X6_amountOf_L22])
      | succ n ih =>
        intro l4 l2 l1 mg mkept mspare mhasKept mwas mwasMany manew mthrown mtext mlength mspot mvalue merror mtold mtolds H20 locs ls hf hP hD hS hl
        have hf : f_X6_amountOf_S22 (f_X6_amountOf_L22 n) l4 l2 l1 (mg, mkept, mspare, mhasKept, mwas, mwasMany, manew, mthrown, mtext, mlength, mspot, mvalue, merror, mtold, mtolds) = some R := hf
        unfold f_X6_amountOf_S22 at hf
        dsimp only at hf
        refine lv_iload hx hb dX6_amountOf_22 (lv_at hl 0 rfl) ?_
        refine lv_aload_n hx hb dX6_amountOf_24 rfl (lv_at hl 2 rfl) ?_
        refine va_get (D := (dC, dI)) (ci := 8) (v := .ref m_g) (C := RX6) (T := TX6) (N := 15) hx hb hts inX6_ hown hK hP 0 rfl rfl 0 (by decide) fl7_ (fun _ h9 => h9) rfl dX6_amountOf_25 ?_
        refine lv_iconst (v := 1) hx hb dX6_amountOf_28 (by decide) ?_
        obtain ⟨h21, hf⟩ := gd_T hf
        refine va_iald hx hb hK hP 1 0 rfl rfl h21 dX6_amountOf_29 ?_
        refine lv_icmp_ge (tgt := 75) hx hb dX6_amountOf_30 (by decide) (fun c22 => ?_) (fun c22 => ?_)
        · have hf := ite_T c22 hf
          refine lv_lload_n hx hb dX6_amountOf_75 rfl (lv_at hl 1 rfl) ?_
          have hR := Option.some.inj hf
          subst hR
          exact W.lret (v := l2) hx hb hr (fun t ht hW => ⟨⟨l2, (), rfl, rfl, by rw [ht]; exact hP, va_K.moved hW.alike hK, hD⟩, hS.F ht⟩) hS.2.2 dX6_amountOf_76
        · have hf := ite_F c22 hf
          refine lv_aload_n hx hb dX6_amountOf_33 rfl (lv_at hl 2 rfl) ?_
          refine va_get (D := (dC, dI)) (ci := 8) (v := .int mthrown) (C := RX6) (T := TX6) (N := 15) hx hb hts inX6_ hown hK hP 0 rfl rfl 7 (by decide) fl32_ (fun _ h9 => h9) rfl dX6_amountOf_34 ?_
          refine lv_if_ne (tgt := 75) hx hb dX6_amountOf_37 (by decide) (fun c23 => ?_) (fun c23 => ?_)
          · have hf := ite_F c23 hf
            refine lv_lload_n hx hb dX6_amountOf_75 rfl (lv_at hl 1 rfl) ?_
            have hR := Option.some.inj hf
            subst hR
            exact W.lret (v := l2) hx hb hr (fun t ht hW => ⟨⟨l2, (), rfl, rfl, by rw [ht]; exact hP, va_K.moved hW.alike hK, hD⟩, hS.F ht⟩) hS.2.2 dX6_amountOf_76
          · have hf := ite_T c23 hf
            refine lv_lload_n hx hb dX6_amountOf_40 rfl (lv_at hl 1 rfl) ?_
            refine lv_aload_n hx hb dX6_amountOf_41 rfl (lv_at hl 2 rfl) ?_
            refine lv_iload hx hb dX6_amountOf_42 (lv_at hl 0 rfl) ?_
            obtain ⟨R25, g26, hf⟩ := bd_B hf
            obtain ⟨r24, rfl⟩ : ∃ z, z = R25 := ⟨_, rfl⟩
            have hPc := hP
            have hDc := hD
            have hFc := va_free (wc := wM_ m0 m_g m_kept m_spare m_was m_text m_told cI mg mkept mspare mhasKept mwas mwasMany manew mthrown mtext mlength mspot mvalue merror mtold mtolds) hD hS hA [0, 1, 2, 3, 4, 5, 6] rfl
            refine va_calli (va_runV (As := [.int l4]) (rest := [.long l2]) ⟨hx, hb, hml, hown, hts⟩ (c_X6_versionOf l dC dI cI cZ cC cJ cD m0 m_g m_kept m_spare m_was m_text m_told H20.size mg mkept mspare mhasKept mwas mwasMany manew mthrown mtext mlength mspot mvalue merror mtold mtolds l4 r24 g26) (cwV 1 hts gX6_amountOf_X6_versionOf rfl rfl rfl hs_X6_versionOf ⟨Nat.le_of_ble_eq_true rfl, Nat.le_of_ble_eq_true rfl⟩) (preV_ (ci := 8) (q0 := 0) hPc hK hDc rfl rfl rfl rfl) rfl rfl hl.1 rfl (lv_room (Nat.le_of_ble_eq_true rfl)) dX6_amountOf_44 ⟨Nat.le_of_ble_eq_true rfl, Nat.le_of_ble_eq_true rfl⟩) hS (fun q _ h => hFc q h) hFc (fun z28 u t H27 locs ht hvm hw hB hz1 hk1 hS => ?_)
            have hw : r24 = z28 := hw.symm
            subst hw
            obtain ⟨hP, hD⟩ := aft_ (Wr := []) (Wc' := wM_ m0 m_g m_kept m_spare m_was m_text m_told cI mg mkept mspare mhasKept mwas mwasMany manew mthrown mtext mlength mspot mvalue merror mtold mtolds) (W2 := wM_ m0 m_g m_kept m_spare m_was m_text m_told cI mg mkept mspare mhasKept mwas mwasMany manew mthrown mtext mlength mspot mvalue merror mtold mtolds) hP hD [0, 1, 2, 3, 4, 5, 6] [] [0, 1, 2, 3, 4, 5, 6] rfl rfl (by decide) (by decide) (by decide) hk1 hFc hB ht rfl
            refine lv_iload_n hx hb dX6_amountOf_47 rfl (lv_at hl 3 rfl) ?_
            refine lv_icmp_ne (tgt := 66) hx hb dX6_amountOf_48 (by decide) (fun c29 => ?_) (fun c29 => ?_)
            · have hf := ite_F c29 hf
              refine lv_lconst (v := 0) hx hb dX6_amountOf_66 (by decide) ?_
              refine lv_ladd hx hb dX6_amountOf_67 ?_
              refine lv_lstore_n (lv' := [(2, .long (l2 + 0)), (4, .int l4), (0, .ref m0), (1, .int l1)]) hx hb dX6_amountOf_68 rfl hl (by decide) rfl (fun ls hl => ?_)
              refine lv_iinc (v := l4 + 1) (lv' := [(4, .int (l4 + 1)), (2, .long (l2 + 0)), (0, .ref m0), (1, .int l1)]) hx hb dX6_amountOf_69 hl (k := 1) rfl (by first | rfl | decide) (by decide) rfl (fun ls hl => ?_)
              refine lv_goto (tgt := 22) hx hb dX6_amountOf_72 (by decide) ?_
              exact ih (l4 + 1) (l2 + 0) l1 mg mkept mspare mhasKept mwas mwasMany manew mthrown mtext mlength mspot mvalue merror mtold mtolds _ _ _ hf hP hD hS (lv_sub hl [0, 1, 2, 3] rfl)
            · have hf := ite_T c29 hf
              refine lv_aload_n hx hb dX6_amountOf_51 rfl (lv_at hl 2 rfl) ?_
              refine va_get (D := (dC, dI)) (ci := 8) (v := .ref m_g) (C := RX6) (T := TX6) (N := 15) hx hb hts inX6_ hown hK hP 0 rfl rfl 0 (by decide) fl7_ (fun _ h9 => h9) rfl dX6_amountOf_52 ?_
              refine lv_sipush (v := 490) hx hb dX6_amountOf_55 (by decide) ?_
              refine lv_iload hx hb dX6_amountOf_58 (lv_at hl 0 rfl) ?_
              refine lv_iadd hx hb dX6_amountOf_60 ?_
              obtain ⟨h30, hf⟩ := gd_T hf
              refine va_iald hx hb hK hP 1 0 rfl rfl h30 dX6_amountOf_61 ?_
              refine lv_i2l hx hb dX6_amountOf_62 rfl ?_
              refine lv_goto (tgt := 67) hx hb dX6_amountOf_63 (by decide) ?_
              refine lv_ladd hx hb dX6_amountOf_67 ?_
              refine lv_lstore_n (lv' := [(2, .long (l2 + ((mg ((490 + l4).toNatClampNeg)).toInt64))), (4, .int l4), (0, .ref m0), (1, .int l1)]) hx hb dX6_amountOf_68 rfl hl (by decide) rfl (fun ls hl => ?_)
              refine lv_iinc (v := l4 + 1) (lv' := [(4, .int (l4 + 1)), (2, .long (l2 + ((mg ((490 + l4).toNatClampNeg)).toInt64))), (0, .ref m0), (1, .int l1)]) hx hb dX6_amountOf_69 hl (k := 1) rfl (by first | rfl | decide) (by decide) rfl (fun ls hl => ?_)
              refine lv_goto (tgt := 22) hx hb dX6_amountOf_72 (by decide) ?_
              exact ih (l4 + 1) (l2 + ((mg ((490 + l4).toNatClampNeg)).toInt64)) l1 mg mkept mspare mhasKept mwas mwasMany manew mthrown mtext mlength mspot mvalue merror mtold mtolds _ _ _ hf hP hD hS (lv_sub hl [0, 1, 2, 3] rfl)
    exact lp22 fu_ (0 : Int32) (0 : Int64) a1 mg mkept mspare mhasKept mwas mwasMany manew (0 : Int32) mtext mlength mspot mvalue merror mtold mtolds _ _ _ hf hP hD hS hl
theorem hs_X6_amountOf : yX6_amountOf.cls = RX6 ∧ yX6_amountOf.cls ≠ "java/lang/invoke/MethodHandle" ∧ yX6_amountOf.cls ≠ "java/lang/invoke/VarHandle" ∧ (parseMethodDescriptor yX6_amountOf.desc).map (fun d => d.parameters.length) = some 1 := by decide +kernel
set_option maxRecDepth 20000 in
theorem in_X6_amountFor_X6 : ∀ w ∈ wsX60, w ∈ wsX6_amountFor := by decide +kernel
def f_X6_amountFor_S21 (k_ : Int32 → Int64 → Int32 → Int32 → tM_ → Option (Int64 × tM_)) (l5 : Int32) (l3 : Int64) (l1 : Int32) (l2 : Int32) (M_ : tM_) : Option (Int64 × tM_) :=
match M_ with
| (mg, mkept, mspare, mhasKept, mwas, mwasMany, manew, mthrown, mtext, mlength, mspot, mvalue, merror, mtold, mtolds) =>
gd_ (1 : Int32) 610 (
if (mg ((1 : Int32).toNatClampNeg)) ≤ l5 then
some (l3, (mg, mkept, mspare, mhasKept, mwas, mwasMany, manew, mthrown, mtext, mlength, mspot, mvalue, merror, mtold, mtolds))
else
if mthrown = 0 then
gd_ (370 + l5) 610 (
if (mg ((370 + l5).toNatClampNeg)) = l1 then
bd_ (f_X6_versionOf l5 (mg, mkept, mspare, mhasKept, mwas, mwasMany, manew, mthrown, mtext, mlength, mspot, mvalue, merror, mtold, mtolds)) (fun r14 =>
gd_ (250 + r14) 610 (
if (mg ((250 + r14).toNatClampNeg)) = l2 then
gd_ (490 + l5) 610 (
k_ (l5 + 1) (l3 + ((mg ((490 + l5).toNatClampNeg)).toInt64)) l1 l2 (mg, mkept, mspare, mhasKept, mwas, mwasMany, manew, mthrown, mtext, mlength, mspot, mvalue, merror, mtold, mtolds))
else
k_ (l5 + 1) (l3 + 0) l1 l2 (mg, mkept, mspare, mhasKept, mwas, mwasMany, manew, mthrown, mtext, mlength, mspot, mvalue, merror, mtold, mtolds)))
else
k_ (l5 + 1) (l3 + 0) l1 l2 (mg, mkept, mspare, mhasKept, mwas, mwasMany, manew, mthrown, mtext, mlength, mspot, mvalue, merror, mtold, mtolds))
else
some (l3, (mg, mkept, mspare, mhasKept, mwas, mwasMany, manew, mthrown, mtext, mlength, mspot, mvalue, merror, mtold, mtolds)))
def f_X6_amountFor_L21 : Nat → Int32 → Int64 → Int32 → Int32 → tM_ → Option (Int64 × tM_)
  | 0 => fun _ _ _ _ _ => none
  | n + 1 => fun l5 l3 l1 l2 M_ => f_X6_amountFor_S21 (f_X6_amountFor_L21 n) l5 l3 l1 l2 M_
def f_X6_amountFor (a1 : Int32) (a2 : Int32) (M_ : tM_) : Option (Int64 × tM_) :=
match M_ with
| (mg, mkept, mspare, mhasKept, mwas, mwasMany, manew, mthrown, mtext, mlength, mspot, mvalue, merror, mtold, mtolds) =>
bd_ (f_X6_isKey a1) (fun r1 =>
if r1 = 0 then
f_X6_amountFor_L21 fu_ (0 : Int32) (0 : Int64) a1 a2 (mg, mkept, mspare, mhasKept, mwas, mwasMany, manew, 1, mtext, mlength, mspot, mvalue, merror, mtold, mtolds)
else
f_X6_amountFor_L21 fu_ (0 : Int32) (0 : Int64) a1 a2 (mg, mkept, mspare, mhasKept, mwas, mwasMany, manew, 0, mtext, mlength, mspot, mvalue, merror, mtold, mtolds))
abbrev rm_X6_amountFor : Room := { frames := 3, cells := 0, slots := 0, locals := 66 }
set_option maxHeartbeats 4000000 in
set_option maxRecDepth 100000 in
theorem c_X6_amountFor (l : Launch) (dC : Nat → ClassId) (dI : Nat → Nat → Nat) (cI cZ cC cJ cD : ClassId) (m0 m_g m_kept m_spare m_was m_text m_told : Nat) (sz : Nat) (mg : Nat → Int32) (mkept : Nat → Int32) (mspare : Nat → Int32) (mhasKept : Int32) (mwas : Nat → Int32) (mwasMany : Int32) (manew : Int32) (mthrown : Int32) (mtext : Nat → Int32) (mlength : Int32) (mspot : Int32) (mvalue : Int32) (merror : Int32) (mtold : Nat → Int32) (mtolds : Int32) (a1 : Int32) (a2 : Int32) (R : Int64 × tM_) (hf : f_X6_amountFor a1 a2 (mg, mkept, mspare, mhasKept, mwas, mwasMany, manew, mthrown, mtext, mlength, mspot, mvalue, merror, mtold, mtolds) = some R) : Met l yX6_amountFor wsX6_amountFor rm_X6_amountFor (Pc_ (dC, dI) (ty_ cI cZ cC cJ cD) (wM_ m0 m_g m_kept m_spare m_was m_text m_told cI mg mkept mspare mhasKept mwas mwasMany manew mthrown mtext mlength mspot mvalue merror mtold mtolds) sz [.ref m0, .int a1, .int a2]) (Ql_ (dC, dI) (ty_ cI cZ cC cJ cD) R.1 (wM_ m0 m_g m_kept m_spare m_was m_text m_told cI R.2.1 R.2.2.1 R.2.2.2.1 R.2.2.2.2.1 R.2.2.2.2.2.1 R.2.2.2.2.2.2.1 R.2.2.2.2.2.2.2.1 R.2.2.2.2.2.2.2.2.1 R.2.2.2.2.2.2.2.2.2.1 R.2.2.2.2.2.2.2.2.2.2.1 R.2.2.2.2.2.2.2.2.2.2.2.1 R.2.2.2.2.2.2.2.2.2.2.2.2.1 R.2.2.2.2.2.2.2.2.2.2.2.2.2.1 R.2.2.2.2.2.2.2.2.2.2.2.2.2.2.1 R.2.2.2.2.2.2.2.2.2.2.2.2.2.2.2) (va_A (wM_ m0 m_g m_kept m_spare m_was m_text m_told cI mg mkept mspare mhasKept mwas mwasMany manew mthrown mtext mlength mspot mvalue merror mtold mtolds) sz)) 0 0 (va_A (wM_ m0 m_g m_kept m_spare m_was m_text m_told cI mg mkept mspare mhasKept mwas mwasMany manew mthrown mtext mlength mspot mvalue merror mtold mtolds) sz) := by
  refine met_ (cc := cX6_amountFor) (maxL := 6) (ret := (some .long)) (Qcf := fun A => Ql_ (dC, dI) (ty_ cI cZ cC cJ cD) R.1 (wM_ m0 m_g m_kept m_spare m_was m_text m_told cI R.2.1 R.2.2.1 R.2.2.2.1 R.2.2.2.2.1 R.2.2.2.2.2.1 R.2.2.2.2.2.2.1 R.2.2.2.2.2.2.2.1 R.2.2.2.2.2.2.2.2.1 R.2.2.2.2.2.2.2.2.2.1 R.2.2.2.2.2.2.2.2.2.2.1 R.2.2.2.2.2.2.2.2.2.2.2.1 R.2.2.2.2.2.2.2.2.2.2.2.2.1 R.2.2.2.2.2.2.2.2.2.2.2.2.2.1 R.2.2.2.2.2.2.2.2.2.2.2.2.2.2.1 R.2.2.2.2.2.2.2.2.2.2.2.2.2.2.2) A) (by decide) rfl (Nat.le_of_ble_eq_true rfl) ?_
  intro p e s m args below meth c A ls hx hb hr hts hown hlocks hml hA hP hK hD hl
  have hown : s.vm.findClass RX6 = some m.cls := hown
  have hl : lv_has ls 6 [(0, .ref m0), (1, .int a1), (2, .int a2)] := hl
  have hS : va_S A s.heap s.heap [] := va_S.rf
  have fl7_ : (Cond.fieldLink RX6 7 "DimensionLoaderModel" "g" "[I").before args s = true := hts _ (List.mem_of_getElem? (i := 2) rfl)
  have fl32_ : (Cond.fieldLink RX6 32 "DimensionLoaderModel" "thrown" "I").before args s = true := hts _ (List.mem_of_getElem? (i := 1) rfl)
  have inX6_ : ∀ w ∈ wsX60, w ∈ wsX6_amountFor := in_X6_amountFor_X6
  unfold f_X6_amountFor at hf
  dsimp only at hf
  refine lv_aload_n hx hb dX6_amountFor_0 rfl (lv_at hl 0 rfl) ?_
  refine lv_iload_n hx hb dX6_amountFor_1 rfl (lv_at hl 1 rfl) ?_
  obtain ⟨R2, g3, hf⟩ := bd_B hf
  obtain ⟨r1, rfl⟩ : ∃ z, z = R2 := ⟨_, rfl⟩
  have hPc := hP.sub (ws' := []) [] rfl
  have hDc := hD.sub (ws' := []) [] (by decide) rfl
  have hFc := va_free (wc := []) hD hS hA [] rfl
  refine va_calli (va_runS (As := [.int a1]) (rest := [.ref m0]) ⟨hx, hb, hml, hown, hts⟩ (c_X6_isKey l dC dI cI cZ cC cJ cD s.heap.size a1 r1 g3) (cwS 1 hts gX6_amountFor_X6_isKey rfl rfl rfl hs_X6_isKey ⟨Nat.le_of_ble_eq_true rfl, Nat.le_of_ble_eq_true rfl⟩) (preS_ hPc hK hDc rfl) rfl rfl hl.1 rfl (lv_room (Nat.le_of_ble_eq_true rfl)) dX6_amountFor_2 ⟨Nat.le_of_ble_eq_true rfl, Nat.le_of_ble_eq_true rfl⟩) hS (fun q _ h => hFc q h) hFc (fun z5 u t H4 locs ht hvm hw hB hz1 hk1 hS => ?_)
  have hw : r1 = z5 := hw.symm
  subst hw
  obtain ⟨hP, hD⟩ := aft_ (Wr := wM_ m0 m_g m_kept m_spare m_was m_text m_told cI mg mkept mspare mhasKept mwas mwasMany manew mthrown mtext mlength mspot mvalue merror mtold mtolds) (Wc' := []) (W2 := wM_ m0 m_g m_kept m_spare m_was m_text m_told cI mg mkept mspare mhasKept mwas mwasMany manew mthrown mtext mlength mspot mvalue merror mtold mtolds) hP hD [] [0, 1, 2, 3, 4, 5, 6] [0, 1, 2, 3, 4, 5, 6] rfl rfl (by decide) (by decide) (by decide) hk1 hFc hB ht rfl
  refine lv_if_eq (tgt := 12) hx hb dX6_amountFor_5 (by decide) (fun c6 => ?_) (fun c6 => ?_)
  · have hf := ite_T c6 hf
    refine lv_iconst (v := 1) hx hb dX6_amountFor_12 (by decide) ?_
    refine va_put (D := (dC, dI)) (ci := 8) (v := .int 1) (ty := .int) (C := RX6) (T := TX6) (N := 15) hx hb hts inX6_ tyX6 tyX6_ok nmX6 hown hK hP hD hS 0 rfl rfl 7 (by decide) fl32_ (fun _ h9 => h9) rfl (by decide +kernel) (by first | rfl | decide) (by first | rfl | decide) (Nat.le_of_ble_eq_true rfl) dX6_amountFor_13 (fun H7 locs hP hD hS => ?_)
    have hP : va_P (dC, dI) vwCl (wM_ m0 m_g m_kept m_spare m_was m_text m_told cI mg mkept mspare mhasKept mwas mwasMany manew 1 mtext mlength mspot mvalue merror mtold mtolds) H7 := hP
    have hD : va_D A (wM_ m0 m_g m_kept m_spare m_was m_text m_told cI mg mkept mspare mhasKept mwas mwasMany manew 1 mtext mlength mspot mvalue merror mtold mtolds) := hD
    refine lv_lconst (v := 0) hx hb dX6_amountFor_16 (by decide) ?_
    refine lv_lstore_n (lv' := [(3, .long 0), (0, .ref m0), (1, .int a1), (2, .int a2)]) hx hb dX6_amountFor_17 rfl hl (by decide) rfl (fun ls hl => ?_)
    refine lv_iconst (v := 0) hx hb dX6_amountFor_18 (by decide) ?_
    refine lv_istore (lv' := [(5, .int 0), (3, .long 0), (0, .ref m0), (1, .int a1), (2, .int a2)]) hx hb dX6_amountFor_19 hl (by decide) rfl (fun ls hl => ?_)
    have lp21 : ∀ (n : Nat) (l5 : Int32) (l3 : Int64) (l1 : Int32) (l2 : Int32) (mg : Nat → Int32) (mkept : Nat → Int32) (mspare : Nat → Int32) (mhasKept : Int32) (mwas : Nat → Int32) (mwasMany : Int32) (manew : Int32) (mthrown : Int32) (mtext : Nat → Int32) (mlength : Int32) (mspot : Int32) (mvalue : Int32) (merror : Int32) (mtold : Nat → Int32) (mtolds : Int32) (H8 : Heap) (locs : List Loc) (ls : Array Slot), f_X6_amountFor_L21 n l5 l3 l1 l2 (mg, mkept, mspare, mhasKept, mwas, mwasMany, manew, mthrown, mtext, mlength, mspot, mvalue, merror, mtold, mtolds) = some R → va_P (dC, dI) vwCl (wM_ m0 m_g m_kept m_spare m_was m_text m_told cI mg mkept mspare mhasKept mwas mwasMany manew mthrown mtext mlength mspot mvalue merror mtold mtolds) H8 → va_D A (wM_ m0 m_g m_kept m_spare m_was m_text m_told cI mg mkept mspare mhasKept mwas mwasMany manew mthrown mtext mlength mspot mvalue merror mtold mtolds) → va_S A s.heap H8 locs → lv_has ls 6 [(5, .int l5), (3, .long l3), (0, .ref m0), (1, .int l1), (2, .int l2)] → W p l e (headSpec wsX6_amountFor rm_X6_amountFor).room s m args below meth c H8 locs 0 0 (MQ below (Ql_ (dC, dI) (ty_ cI cZ cC cJ cD) R.1 (wM_ m0 m_g m_kept m_spare m_was m_text m_told cI R.2.1 R.2.2.1 R.2.2.2.1 R.2.2.2.2.1 R.2.2.2.2.2.1 R.2.2.2.2.2.2.1 R.2.2.2.2.2.2.2.1 R.2.2.2.2.2.2.2.2.1 R.2.2.2.2.2.2.2.2.2.1 R.2.2.2.2.2.2.2.2.2.2.1 R.2.2.2.2.2.2.2.2.2.2.2.1 R.2.2.2.2.2.2.2.2.2.2.2.2.1 R.2.2.2.2.2.2.2.2.2.2.2.2.2.1 R.2.2.2.2.2.2.2.2.2.2.2.2.2.2.1 R.2.2.2.2.2.2.2.2.2.2.2.2.2.2.2) A) args s 0 0 A) (F0 m 21 ls []) := by
      intro n
      induction n with
      | zero => intro l5 l3 l1 l2 mg mkept mspare mhasKept mwas mwasMany manew mthrown mtext mlength mspot mvalue merror mtold mtolds H8 locs ls hf hP hD hS hl; exact absurd hf (by simp [f_X6_amountFor_L21])
      | succ n ih =>
        intro l5 l3 l1 l2 mg mkept mspare mhasKept mwas mwasMany manew mthrown mtext mlength mspot mvalue merror mtold mtolds H8 locs ls hf hP hD hS hl
        have hf : f_X6_amountFor_S21 (f_X6_amountFor_L21 n) l5 l3 l1 l2 (mg, mkept, mspare, mhasKept, mwas, mwasMany, manew, mthrown, mtext, mlength, mspot, mvalue, merror, mtold, mtolds) = some R := hf
        unfold f_X6_amountFor_S21 at hf
        dsimp only at hf
        refine lv_iload hx hb dX6_amountFor_21 (lv_at hl 0 rfl) ?_
        refine lv_aload_n hx hb dX6_amountFor_23 rfl (lv_at hl 2 rfl) ?_
        refine va_get (D := (dC, dI)) (ci := 8) (v := .ref m_g) (C := RX6) (T := TX6) (N := 15) hx hb hts inX6_ hown hK hP 0 rfl rfl 0 (by decide) fl7_ (fun _ h9 => h9) rfl dX6_amountFor_24 ?_
        refine lv_iconst (v := 1) hx hb dX6_amountFor_27 (by decide) ?_
        obtain ⟨h9, hf⟩ := gd_T hf
        refine va_iald hx hb hK hP 1 0 rfl rfl h9 dX6_amountFor_28 ?_
        refine lv_icmp_ge (tgt := 98) hx hb dX6_amountFor_29 (by decide) (fun c10 => ?_) (fun c10 => ?_)
        · have hf := ite_T c10 hf
          refine lv_lload_n hx hb dX6_amountFor_98 rfl (lv_at hl 1 rfl) ?_
          have hR := Option.some.inj hf
          subst hR
          exact W.lret (v := l3) hx hb hr (fun t ht hW => ⟨⟨l3, (), rfl, rfl, by rw [ht]; exact hP, va_K.moved hW.alike hK, hD⟩, hS.F ht⟩) hS.2.2 dX6_amountFor_99
        · have hf := ite_F c10 hf
          refine lv_aload_n hx hb dX6_amountFor_32 rfl (lv_at hl 2 rfl) ?_
          refine va_get (D := (dC, dI)) (ci := 8) (v := .int mthrown) (C := RX6) (T := TX6) (N := 15) hx hb hts inX6_ hown hK hP 0 rfl rfl 7 (by decide) fl32_ (fun _ h9 => h9) rfl dX6_amountFor_33 ?_
          refine lv_if_ne (tgt := 98) hx hb dX6_amountFor_36 (by decide) (fun c11 => ?_) (fun c11 => ?_)
          · have hf := ite_F c11 hf
            refine lv_lload_n hx hb dX6_amountFor_98 rfl (lv_at hl 1 rfl) ?_
            have hR := Option.some.inj hf
            subst hR
            exact W.lret (v := l3) hx hb hr (fun t ht hW => ⟨⟨l3, (), rfl, rfl, by rw [ht]; exact hP, va_K.moved hW.alike hK, hD⟩, hS.F ht⟩) hS.2.2 dX6_amountFor_99
          · have hf := ite_T c11 hf
            refine lv_lload_n hx hb dX6_amountFor_39 rfl (lv_at hl 1 rfl) ?_
            refine lv_aload_n hx hb dX6_amountFor_40 rfl (lv_at hl 2 rfl) ?_
            refine va_get (D := (dC, dI)) (ci := 8) (v := .ref m_g) (C := RX6) (T := TX6) (N := 15) hx hb hts inX6_ hown hK hP 0 rfl rfl 0 (by decide) fl7_ (fun _ h9 => h9) rfl dX6_amountFor_41 ?_
            refine lv_sipush (v := 370) hx hb dX6_amountFor_44 (by decide) ?_
            refine lv_iload hx hb dX6_amountFor_47 (lv_at hl 0 rfl) ?_
            refine lv_iadd hx hb dX6_amountFor_49 ?_
            obtain ⟨h12, hf⟩ := gd_T hf
            refine va_iald hx hb hK hP 1 0 rfl rfl h12 dX6_amountFor_50 ?_
            refine lv_iload_n hx hb dX6_amountFor_51 rfl (lv_at hl 3 rfl) ?_
            refine lv_icmp_ne (tgt := 89) hx hb dX6_amountFor_52 (by decide) (fun c13 => ?_) (fun c13 => ?_)
            · have hf := ite_F c13 hf
              refine lv_lconst (v := 0) hx hb dX6_amountFor_89 (by decide) ?_
              refine lv_ladd hx hb dX6_amountFor_90 ?_
              refine lv_lstore_n (lv' := [(3, .long (l3 + 0)), (5, .int l5), (0, .ref m0), (1, .int l1), (2, .int l2)]) hx hb dX6_amountFor_91 rfl hl (by decide) rfl (fun ls hl => ?_)
              refine lv_iinc (v := l5 + 1) (lv' := [(5, .int (l5 + 1)), (3, .long (l3 + 0)), (0, .ref m0), (1, .int l1), (2, .int l2)]) hx hb dX6_amountFor_92 hl (k := 1) rfl (by first | rfl | decide) (by decide) rfl (fun ls hl => ?_)
              refine lv_goto (tgt := 21) hx hb dX6_amountFor_95 (by decide) ?_
              exact ih (l5 + 1) (l3 + 0) l1 l2 mg mkept mspare mhasKept mwas mwasMany manew mthrown mtext mlength mspot mvalue merror mtold mtolds _ _ _ hf hP hD hS (lv_sub hl [0, 1, 2, 3, 4] rfl)
            · have hf := ite_T c13 hf
              refine lv_aload_n hx hb dX6_amountFor_55 rfl (lv_at hl 2 rfl) ?_
              refine va_get (D := (dC, dI)) (ci := 8) (v := .ref m_g) (C := RX6) (T := TX6) (N := 15) hx hb hts inX6_ hown hK hP 0 rfl rfl 0 (by decide) fl7_ (fun _ h9 => h9) rfl dX6_amountFor_56 ?_
              refine lv_sipush (v := 250) hx hb dX6_amountFor_59 (by decide) ?_
              refine lv_aload_n hx hb dX6_amountFor_62 rfl (lv_at hl 2 rfl) ?_
              refine lv_iload hx hb dX6_amountFor_63 (lv_at hl 0 rfl) ?_
              obtain ⟨R15, g16, hf⟩ := bd_B hf
              obtain ⟨r14, rfl⟩ : ∃ z, z = R15 := ⟨_, rfl⟩
              have hPc := hP
              have hDc := hD
              have hFc := va_free (wc := wM_ m0 m_g m_kept m_spare m_was m_text m_told cI mg mkept mspare mhasKept mwas mwasMany manew mthrown mtext mlength mspot mvalue merror mtold mtolds) hD hS hA [0, 1, 2, 3, 4, 5, 6] rfl
              refine va_calli (va_runV (As := [.int l5]) (rest := [.int 250, .ref m_g, .long l3]) ⟨hx, hb, hml, hown, hts⟩ (c_X6_versionOf l dC dI cI cZ cC cJ cD m0 m_g m_kept m_spare m_was m_text m_told H8.size mg mkept mspare mhasKept mwas mwasMany manew mthrown mtext mlength mspot mvalue merror mtold mtolds l5 r14 g16) (cwV 1 hts gX6_amountFor_X6_versionOf rfl rfl rfl hs_X6_versionOf ⟨Nat.le_of_ble_eq_true rfl, Nat.le_of_ble_eq_true rfl⟩) (preV_ (ci := 8) (q0 := 0) hPc hK hDc rfl rfl rfl rfl) rfl rfl hl.1 rfl (lv_room (Nat.le_of_ble_eq_true rfl)) dX6_amountFor_65 ⟨Nat.le_of_ble_eq_true rfl, Nat.le_of_ble_eq_true rfl⟩) hS (fun q _ h => hFc q h) hFc (fun z18 u t H17 locs ht hvm hw hB hz1 hk1 hS => ?_)
              have hw : r14 = z18 := hw.symm
              subst hw
              obtain ⟨hP, hD⟩ := aft_ (Wr := []) (Wc' := wM_ m0 m_g m_kept m_spare m_was m_text m_told cI mg mkept mspare mhasKept mwas mwasMany manew mthrown mtext mlength mspot mvalue merror mtold mtolds) (W2 := wM_ m0 m_g m_kept m_spare m_was m_text m_told cI mg mkept mspare mhasKept mwas mwasMany manew mthrown mtext mlength mspot mvalue merror mtold mtolds) hP hD [0, 1, 2, 3, 4, 5, 6] [] [0, 1, 2, 3, 4, 5, 6] rfl rfl (by decide) (by decide) (by decide) hk1 hFc hB ht rfl
              refine lv_iadd hx hb dX6_amountFor_68 ?_
              obtain ⟨h19, hf⟩ := gd_T hf
              refine va_iald hx hb hK hP 1 0 rfl rfl h19 dX6_amountFor_69 ?_
              refine lv_iload_n hx hb dX6_amountFor_70 rfl (lv_at hl 4 rfl) ?_
              refine lv_icmp_ne (tgt := 89) hx hb dX6_amountFor_71 (by decide) (fun c20 => ?_) (fun c20 => ?_)
              · have hf := ite_F c20 hf
                refine lv_lconst (v := 0) hx hb dX6_amountFor_89 (by decide) ?_
                refine lv_ladd hx hb dX6_amountFor_90 ?_
                refine lv_lstore_n (lv' := [(3, .long (l3 + 0)), (5, .int l5), (0, .ref m0), (1, .int l1), (2, .int l2)]) hx hb dX6_amountFor_91 rfl hl (by decide) rfl (fun ls hl => ?_)
                refine lv_iinc (v := l5 + 1) (lv' := [(5, .int (l5 + 1)), (3, .long (l3 + 0)), (0, .ref m0), (1, .int l1), (2, .int l2)]) hx hb dX6_amountFor_92 hl (k := 1) rfl (by first | rfl | decide) (by decide) rfl (fun ls hl => ?_)
                refine lv_goto (tgt := 21) hx hb dX6_amountFor_95 (by decide) ?_
                exact ih (l5 + 1) (l3 + 0) l1 l2 mg mkept mspare mhasKept mwas mwasMany manew mthrown mtext mlength mspot mvalue merror mtold mtolds _ _ _ hf hP hD hS (lv_sub hl [0, 1, 2, 3, 4] rfl)
              · have hf := ite_T c20 hf
                refine lv_aload_n hx hb dX6_amountFor_74 rfl (lv_at hl 2 rfl) ?_
                refine va_get (D := (dC, dI)) (ci := 8) (v := .ref m_g) (C := RX6) (T := TX6) (N := 15) hx hb hts inX6_ hown hK hP 0 rfl rfl 0 (by decide) fl7_ (fun _ h9 => h9) rfl dX6_amountFor_75 ?_
                refine lv_sipush (v := 490) hx hb dX6_amountFor_78 (by decide) ?_
                refine lv_iload hx hb dX6_amountFor_81 (lv_at hl 0 rfl) ?_
                refine lv_iadd hx hb dX6_amountFor_83 ?_
                obtain ⟨h21, hf⟩ := gd_T hf
                refine va_iald hx hb hK hP 1 0 rfl rfl h21 dX6_amountFor_84 ?_
                refine lv_i2l hx hb dX6_amountFor_85 rfl ?_
                refine lv_goto (tgt := 90) hx hb dX6_amountFor_86 (by decide) ?_
                refine lv_ladd hx hb dX6_amountFor_90 ?_
                refine lv_lstore_n (lv' := [(3, .long (l3 + ((mg ((490 + l5).toNatClampNeg)).toInt64))), (5, .int l5), (0, .ref m0), (1, .int l1), (2, .int l2)]) hx hb dX6_amountFor_91 rfl hl (by decide) rfl (fun ls hl => ?_)
                refine lv_iinc (v := l5 + 1) (lv' := [(5, .int (l5 + 1)), (3, .long (l3 + ((mg ((490 + l5).toNatClampNeg)).toInt64))), (0, .ref m0), (1, .int l1), (2, .int l2)]) hx hb dX6_amountFor_92 hl (k := 1) rfl (by first | rfl | decide) (by decide) rfl (fun ls hl => ?_)
                refine lv_goto (tgt := 21) hx hb dX6_amountFor_95 (by decide) ?_
                exact ih (l5 + 1) (l3 + ((mg ((490 + l5).toNatClampNeg)).toInt64)) l1 l2 mg mkept mspare mhasKept mwas mwasMany manew mthrown mtext mlength mspot mvalue merror mtold mtolds _ _ _ hf hP hD hS (lv_sub hl [0, 1, 2, 3, 4] rfl)
    exact lp21 fu_ (0 : Int32) (0 : Int64) a1 a2 mg mkept mspare mhasKept mwas mwasMany manew (1 : Int32) mtext mlength mspot mvalue merror mtold mtolds _ _ _ hf hP hD hS hl
  · have hf := ite_F c6 hf
    refine lv_iconst (v := 0) hx hb dX6_amountFor_8 (by decide) ?_
    refine lv_goto (tgt := 13) hx hb dX6_amountFor_9 (by decide) ?_
    refine va_put (D := (dC, dI)) (ci := 8) (v := .int 0) (ty := .int) (C := RX6) (T := TX6) (N := 15) hx hb hts inX6_ tyX6 tyX6_ok nmX6 hown hK hP hD hS 0 rfl rfl 7 (by decide) fl32_ (fun _ h9 => h9) rfl (by decide +kernel) (by first | rfl | decide) (by first | rfl | decide) (Nat.le_of_ble_eq_true rfl) dX6_amountFor_13 (fun H22 locs hP hD hS => ?_)
    have hP : va_P (dC, dI) vwCl (wM_ m0 m_g m_kept m_spare m_was m_text m_told cI mg mkept mspare mhasKept mwas mwasMany manew 0 mtext mlength mspot mvalue merror mtold mtolds) H22 := hP
    have hD : va_D A (wM_ m0 m_g m_kept m_spare m_was m_text m_told cI mg mkept mspare mhasKept mwas mwasMany manew 0 mtext mlength mspot mvalue merror mtold mtolds) := hD
    refine lv_lconst (v := 0) hx hb dX6_amountFor_16 (by decide) ?_
    refine lv_lstore_n (lv' := [(3, .long 0), (0, .ref m0), (1, .int a1), (2, .int a2)]) hx hb dX6_amountFor_17 rfl hl (by decide) rfl (fun ls hl => ?_)
    refine lv_iconst (v := 0) hx hb dX6_amountFor_18 (by decide) ?_
    refine lv_istore (lv' := [(5, .int 0), (3, .long 0), (0, .ref m0), (1, .int a1), (2, .int a2)]) hx hb dX6_amountFor_19 hl (by decide) rfl (fun ls hl => ?_)
    have lp21 : ∀ (n : Nat) (l5 : Int32) (l3 : Int64) (l1 : Int32) (l2 : Int32) (mg : Nat → Int32) (mkept : Nat → Int32) (mspare : Nat → Int32) (mhasKept : Int32) (mwas : Nat → Int32) (mwasMany : Int32) (manew : Int32) (mthrown : Int32) (mtext : Nat → Int32) (mlength : Int32) (mspot : Int32) (mvalue : Int32) (merror : Int32) (mtold : Nat → Int32) (mtolds : Int32) (H23 : Heap) (locs : List Loc) (ls : Array Slot), f_X6_amountFor_L21 n l5 l3 l1 l2 (mg, mkept, mspare, mhasKept, mwas, mwasMany, manew, mthrown, mtext, mlength, mspot, mvalue, merror, mtold, mtolds) = some R → va_P (dC, dI) vwCl (wM_ m0 m_g m_kept m_spare m_was m_text m_told cI mg mkept mspare mhasKept mwas mwasMany manew mthrown mtext mlength mspot mvalue merror mtold mtolds) H23 → va_D A (wM_ m0 m_g m_kept m_spare m_was m_text m_told cI mg mkept mspare mhasKept mwas mwasMany manew mthrown mtext mlength mspot mvalue merror mtold mtolds) → va_S A s.heap H23 locs → lv_has ls 6 [(5, .int l5), (3, .long l3), (0, .ref m0), (1, .int l1), (2, .int l2)] → W p l e (headSpec wsX6_amountFor rm_X6_amountFor).room s m args below meth c H23 locs 0 0 (MQ below (Ql_ (dC, dI) (ty_ cI cZ cC cJ cD) R.1 (wM_ m0 m_g m_kept m_spare m_was m_text m_told cI R.2.1 R.2.2.1 R.2.2.2.1 R.2.2.2.2.1 R.2.2.2.2.2.1 R.2.2.2.2.2.2.1 R.2.2.2.2.2.2.2.1 R.2.2.2.2.2.2.2.2.1 R.2.2.2.2.2.2.2.2.2.1 R.2.2.2.2.2.2.2.2.2.2.1 R.2.2.2.2.2.2.2.2.2.2.2.1 R.2.2.2.2.2.2.2.2.2.2.2.2.1 R.2.2.2.2.2.2.2.2.2.2.2.2.2.1 R.2.2.2.2.2.2.2.2.2.2.2.2.2.2.1 R.2.2.2.2.2.2.2.2.2.2.2.2.2.2.2) A) args s 0 0 A) (F0 m 21 ls []) := by
      intro n
      induction n with
      | zero => intro l5 l3 l1 l2 mg mkept mspare mhasKept mwas mwasMany manew mthrown mtext mlength mspot mvalue merror mtold mtolds H23 locs ls hf hP hD hS hl; exact absurd hf (by simp [f_X6_amountFor_L21])
      | succ n ih =>
        intro l5 l3 l1 l2 mg mkept mspare mhasKept mwas mwasMany manew mthrown mtext mlength mspot mvalue merror mtold mtolds H23 locs ls hf hP hD hS hl
        have hf : f_X6_amountFor_S21 (f_X6_amountFor_L21 n) l5 l3 l1 l2 (mg, mkept, mspare, mhasKept, mwas, mwasMany, manew, mthrown, mtext, mlength, mspot, mvalue, merror, mtold, mtolds) = some R := hf
        unfold f_X6_amountFor_S21 at hf
        dsimp only at hf
        refine lv_iload hx hb dX6_amountFor_21 (lv_at hl 0 rfl) ?_
        refine lv_aload_n hx hb dX6_amountFor_23 rfl (lv_at hl 2 rfl) ?_
        refine va_get (D := (dC, dI)) (ci := 8) (v := .ref m_g) (C := RX6) (T := TX6) (N := 15) hx hb hts inX6_ hown hK hP 0 rfl rfl 0 (by decide) fl7_ (fun _ h9 => h9) rfl dX6_amountFor_24 ?_
        refine lv_iconst (v := 1) hx hb dX6_amountFor_27 (by decide) ?_
        obtain ⟨h24, hf⟩ := gd_T hf
        refine va_iald hx hb hK hP 1 0 rfl rfl h24 dX6_amountFor_28 ?_
        refine lv_icmp_ge (tgt := 98) hx hb dX6_amountFor_29 (by decide) (fun c25 => ?_) (fun c25 => ?_)
        · have hf := ite_T c25 hf
          refine lv_lload_n hx hb dX6_amountFor_98 rfl (lv_at hl 1 rfl) ?_
          have hR := Option.some.inj hf
          subst hR
          exact W.lret (v := l3) hx hb hr (fun t ht hW => ⟨⟨l3, (), rfl, rfl, by rw [ht]; exact hP, va_K.moved hW.alike hK, hD⟩, hS.F ht⟩) hS.2.2 dX6_amountFor_99
        · have hf := ite_F c25 hf
          refine lv_aload_n hx hb dX6_amountFor_32 rfl (lv_at hl 2 rfl) ?_
          refine va_get (D := (dC, dI)) (ci := 8) (v := .int mthrown) (C := RX6) (T := TX6) (N := 15) hx hb hts inX6_ hown hK hP 0 rfl rfl 7 (by decide) fl32_ (fun _ h9 => h9) rfl dX6_amountFor_33 ?_
          refine lv_if_ne (tgt := 98) hx hb dX6_amountFor_36 (by decide) (fun c26 => ?_) (fun c26 => ?_)
          · have hf := ite_F c26 hf
            refine lv_lload_n hx hb dX6_amountFor_98 rfl (lv_at hl 1 rfl) ?_
            have hR := Option.some.inj hf
            subst hR
            exact W.lret (v := l3) hx hb hr (fun t ht hW => ⟨⟨l3, (), rfl, rfl, by rw [ht]; exact hP, va_K.moved hW.alike hK, hD⟩, hS.F ht⟩) hS.2.2 dX6_amountFor_99
          · have hf := ite_T c26 hf
            refine lv_lload_n hx hb dX6_amountFor_39 rfl (lv_at hl 1 rfl) ?_
            refine lv_aload_n hx hb dX6_amountFor_40 rfl (lv_at hl 2 rfl) ?_
            refine va_get (D := (dC, dI)) (ci := 8) (v := .ref m_g) (C := RX6) (T := TX6) (N := 15) hx hb hts inX6_ hown hK hP 0 rfl rfl 0 (by decide) fl7_ (fun _ h9 => h9) rfl dX6_amountFor_41 ?_
            refine lv_sipush (v := 370) hx hb dX6_amountFor_44 (by decide) ?_
            refine lv_iload hx hb dX6_amountFor_47 (lv_at hl 0 rfl) ?_
            refine lv_iadd hx hb dX6_amountFor_49 ?_
            obtain ⟨h27, hf⟩ := gd_T hf
            refine va_iald hx hb hK hP 1 0 rfl rfl h27 dX6_amountFor_50 ?_
            refine lv_iload_n hx hb dX6_amountFor_51 rfl (lv_at hl 3 rfl) ?_
            refine lv_icmp_ne (tgt := 89) hx hb dX6_amountFor_52 (by decide) (fun c28 => ?_) (fun c28 => ?_)
            · have hf := ite_F c28 hf
              refine lv_lconst (v := 0) hx hb dX6_amountFor_89 (by decide) ?_
              refine lv_ladd hx hb dX6_amountFor_90 ?_
              refine lv_lstore_n (lv' := [(3, .long (l3 + 0)), (5, .int l5), (0, .ref m0), (1, .int l1), (2, .int l2)]) hx hb dX6_amountFor_91 rfl hl (by decide) rfl (fun ls hl => ?_)
              refine lv_iinc (v := l5 + 1) (lv' := [(5, .int (l5 + 1)), (3, .long (l3 + 0)), (0, .ref m0), (1, .int l1), (2, .int l2)]) hx hb dX6_amountFor_92 hl (k := 1) rfl (by first | rfl | decide) (by decide) rfl (fun ls hl => ?_)
              refine lv_goto (tgt := 21) hx hb dX6_amountFor_95 (by decide) ?_
              exact ih (l5 + 1) (l3 + 0) l1 l2 mg mkept mspare mhasKept mwas mwasMany manew mthrown mtext mlength mspot mvalue merror mtold mtolds _ _ _ hf hP hD hS (lv_sub hl [0, 1, 2, 3, 4] rfl)
            · have hf := ite_T c28 hf
              refine lv_aload_n hx hb dX6_amountFor_55 rfl (lv_at hl 2 rfl) ?_
              refine va_get (D := (dC, dI)) (ci := 8) (v := .ref m_g) (C := RX6) (T := TX6) (N := 15) hx hb hts inX6_ hown hK hP 0 rfl rfl 0 (by decide) fl7_ (fun _ h9 => h9) rfl dX6_amountFor_56 ?_
              refine lv_sipush (v := 250) hx hb dX6_amountFor_59 (by decide) ?_
              refine lv_aload_n hx hb dX6_amountFor_62 rfl (lv_at hl 2 rfl) ?_
              refine lv_iload hx hb dX6_amountFor_63 (lv_at hl 0 rfl) ?_
              obtain ⟨R30, g31, hf⟩ := bd_B hf
              obtain ⟨r29, rfl⟩ : ∃ z, z = R30 := ⟨_, rfl⟩
              have hPc := hP
              have hDc := hD
              have hFc := va_free (wc := wM_ m0 m_g m_kept m_spare m_was m_text m_told cI mg mkept mspare mhasKept mwas mwasMany manew mthrown mtext mlength mspot mvalue merror mtold mtolds) hD hS hA [0, 1, 2, 3, 4, 5, 6] rfl
              refine va_calli (va_runV (As := [.int l5]) (rest := [.int 250, .ref m_g, .long l3]) ⟨hx, hb, hml, hown, hts⟩ (c_X6_versionOf l dC dI cI cZ cC cJ cD m0 m_g m_kept m_spare m_was m_text m_told H23.size mg mkept mspare mhasKept mwas mwasMany manew mthrown mtext mlength mspot mvalue merror mtold mtolds l5 r29 g31) (cwV 1 hts gX6_amountFor_X6_versionOf rfl rfl rfl hs_X6_versionOf ⟨Nat.le_of_ble_eq_true rfl, Nat.le_of_ble_eq_true rfl⟩) (preV_ (ci := 8) (q0 := 0) hPc hK hDc rfl rfl rfl rfl) rfl rfl hl.1 rfl (lv_room (Nat.le_of_ble_eq_true rfl)) dX6_amountFor_65 ⟨Nat.le_of_ble_eq_true rfl, Nat.le_of_ble_eq_true rfl⟩) hS (fun q _ h => hFc q h) hFc (fun z33 u t H32 locs ht hvm hw hB hz1 hk1 hS => ?_)
              have hw : r29 = z33 := hw.symm
              subst hw
              obtain ⟨hP, hD⟩ := aft_ (Wr := []) (Wc' := wM_ m0 m_g m_kept m_spare m_was m_text m_told cI mg mkept mspare mhasKept mwas mwasMany manew mthrown mtext mlength mspot mvalue merror mtold mtolds) (W2 := wM_ m0 m_g m_kept m_spare m_was m_text m_told cI mg mkept mspare mhasKept mwas mwasMany manew mthrown mtext mlength mspot mvalue merror mtold mtolds) hP hD [0, 1, 2, 3, 4, 5, 6] [] [0, 1, 2, 3, 4, 5, 6] rfl rfl (by decide) (by decide) (by decide) hk1 hFc hB ht rfl
              refine lv_iadd hx hb dX6_amountFor_68 ?_
              obtain ⟨h34, hf⟩ := gd_T hf
              refine va_iald hx hb hK hP 1 0 rfl rfl h34 dX6_amountFor_69 ?_
              refine lv_iload_n hx hb dX6_amountFor_70 rfl (lv_at hl 4 rfl) ?_
              refine lv_icmp_ne (tgt := 89) hx hb dX6_amountFor_71 (by decide) (fun c35 => ?_) (fun c35 => ?_)
              · have hf := ite_F c35 hf
                refine lv_lconst (v := 0) hx hb dX6_amountFor_89 (by decide) ?_
                refine lv_ladd hx hb dX6_amountFor_90 ?_
                refine lv_lstore_n (lv' := [(3, .long (l3 + 0)), (5, .int l5), (0, .ref m0), (1, .int l1), (2, .int l2)]) hx hb dX6_amountFor_91 rfl hl (by decide) rfl (fun ls hl => ?_)
                refine lv_iinc (v := l5 + 1) (lv' := [(5, .int (l5 + 1)), (3, .long (l3 + 0)), (0, .ref m0), (1, .int l1), (2, .int l2)]) hx hb dX6_amountFor_92 hl (k := 1) rfl (by first | rfl | decide) (by decide) rfl (fun ls hl => ?_)
                refine lv_goto (tgt := 21) hx hb dX6_amountFor_95 (by decide) ?_
                exact ih (l5 + 1) (l3 + 0) l1 l2 mg mkept mspare mhasKept mwas mwasMany manew mthrown mtext mlength mspot mvalue merror mtold mtolds _ _ _ hf hP hD hS (lv_sub hl [0, 1, 2, 3, 4] rfl)
              · have hf := ite_T c35 hf
                refine lv_aload_n hx hb dX6_amountFor_74 rfl (lv_at hl 2 rfl) ?_
                refine va_get (D := (dC, dI)) (ci := 8) (v := .ref m_g) (C := RX6) (T := TX6) (N := 15) hx hb hts inX6_ hown hK hP 0 rfl rfl 0 (by decide) fl7_ (fun _ h9 => h9) rfl dX6_amountFor_75 ?_
                refine lv_sipush (v := 490) hx hb dX6_amountFor_78 (by decide) ?_
                refine lv_iload hx hb dX6_amountFor_81 (lv_at hl 0 rfl) ?_
                refine lv_iadd hx hb dX6_amountFor_83 ?_
                obtain ⟨h36, hf⟩ := gd_T hf
                refine va_iald hx hb hK hP 1 0 rfl rfl h36 dX6_amountFor_84 ?_
                refine lv_i2l hx hb dX6_amountFor_85 rfl ?_
                refine lv_goto (tgt := 90) hx hb dX6_amountFor_86 (by decide) ?_
                refine lv_ladd hx hb dX6_amountFor_90 ?_
                refine lv_lstore_n (lv' := [(3, .long (l3 + ((mg ((490 + l5).toNatClampNeg)).toInt64))), (5, .int l5), (0, .ref m0), (1, .int l1), (2, .int l2)]) hx hb dX6_amountFor_91 rfl hl (by decide) rfl (fun ls hl => ?_)
                refine lv_iinc (v := l5 + 1) (lv' := [(5, .int (l5 + 1)), (3, .long (l3 + ((mg ((490 + l5).toNatClampNeg)).toInt64))), (0, .ref m0), (1, .int l1), (2, .int l2)]) hx hb dX6_amountFor_92 hl (k := 1) rfl (by first | rfl | decide) (by decide) rfl (fun ls hl => ?_)
                refine lv_goto (tgt := 21) hx hb dX6_amountFor_95 (by decide) ?_
                exact ih (l5 + 1) (l3 + ((mg ((490 + l5).toNatClampNeg)).toInt64)) l1 l2 mg mkept mspare mhasKept mwas mwasMany manew mthrown mtext mlength mspot mvalue merror mtold mtolds _ _ _ hf hP hD hS (lv_sub hl [0, 1, 2, 3, 4] rfl)
    exact lp21 fu_ (0 : Int32) (0 : Int64) a1 a2 mg mkept mspare mhasKept mwas mwasMany manew (0 : Int32) mtext mlength mspot mvalue merror mtold mtolds _ _ _ hf hP hD hS hl
theorem hs_X6_amountFor : yX6_amountFor.cls = RX6 ∧ yX6_amountFor.cls ≠ "java/lang/invoke/MethodHandle" ∧ yX6_amountFor.cls ≠ "java/lang/invoke/VarHandle" ∧ (parseMethodDescriptor yX6_amountFor.desc).map (fun d => d.parameters.length) = some 2 := by decide +kernel
set_option maxRecDepth 20000 in
theorem in_X6_pointedAnew_X6 : ∀ w ∈ wsX60, w ∈ wsX6_pointedAnew := by decide +kernel
def f_X6_pointedAnew  (M_ : tM_) : Option (Int32 × tM_) :=
match M_ with
| (mg, mkept, mspare, mhasKept, mwas, mwasMany, manew, mthrown, mtext, mlength, mspot, mvalue, merror, mtold, mtolds) =>
some (manew, (mg, mkept, mspare, mhasKept, mwas, mwasMany, manew, 0, mtext, mlength, mspot, mvalue, merror, mtold, mtolds))
abbrev rm_X6_pointedAnew : Room := { frames := 0, cells := 0, slots := 0, locals := 0 }
set_option maxHeartbeats 4000000 in
set_option maxRecDepth 100000 in
theorem c_X6_pointedAnew (l : Launch) (dC : Nat → ClassId) (dI : Nat → Nat → Nat) (cI cZ cC cJ cD : ClassId) (m0 m_g m_kept m_spare m_was m_text m_told : Nat) (sz : Nat) (mg : Nat → Int32) (mkept : Nat → Int32) (mspare : Nat → Int32) (mhasKept : Int32) (mwas : Nat → Int32) (mwasMany : Int32) (manew : Int32) (mthrown : Int32) (mtext : Nat → Int32) (mlength : Int32) (mspot : Int32) (mvalue : Int32) (merror : Int32) (mtold : Nat → Int32) (mtolds : Int32)  (R : Int32 × tM_) (hf : f_X6_pointedAnew  (mg, mkept, mspare, mhasKept, mwas, mwasMany, manew, mthrown, mtext, mlength, mspot, mvalue, merror, mtold, mtolds) = some R) : Met l yX6_pointedAnew wsX6_pointedAnew rm_X6_pointedAnew (Pc_ (dC, dI) (ty_ cI cZ cC cJ cD) (wM_ m0 m_g m_kept m_spare m_was m_text m_told cI mg mkept mspare mhasKept mwas mwasMany manew mthrown mtext mlength mspot mvalue merror mtold mtolds) sz [.ref m0]) (Qi_ (dC, dI) (ty_ cI cZ cC cJ cD) R.1 (wM_ m0 m_g m_kept m_spare m_was m_text m_told cI R.2.1 R.2.2.1 R.2.2.2.1 R.2.2.2.2.1 R.2.2.2.2.2.1 R.2.2.2.2.2.2.1 R.2.2.2.2.2.2.2.1 R.2.2.2.2.2.2.2.2.1 R.2.2.2.2.2.2.2.2.2.1 R.2.2.2.2.2.2.2.2.2.2.1 R.2.2.2.2.2.2.2.2.2.2.2.1 R.2.2.2.2.2.2.2.2.2.2.2.2.1 R.2.2.2.2.2.2.2.2.2.2.2.2.2.1 R.2.2.2.2.2.2.2.2.2.2.2.2.2.2.1 R.2.2.2.2.2.2.2.2.2.2.2.2.2.2.2) (va_A (wM_ m0 m_g m_kept m_spare m_was m_text m_told cI mg mkept mspare mhasKept mwas mwasMany manew mthrown mtext mlength mspot mvalue merror mtold mtolds) sz)) 0 0 (va_A (wM_ m0 m_g m_kept m_spare m_was m_text m_told cI mg mkept mspare mhasKept mwas mwasMany manew mthrown mtext mlength mspot mvalue merror mtold mtolds) sz) := by
  refine met_ (cc := cX6_pointedAnew) (maxL := 1) (ret := (some .int)) (Qcf := fun A => Qi_ (dC, dI) (ty_ cI cZ cC cJ cD) R.1 (wM_ m0 m_g m_kept m_spare m_was m_text m_told cI R.2.1 R.2.2.1 R.2.2.2.1 R.2.2.2.2.1 R.2.2.2.2.2.1 R.2.2.2.2.2.2.1 R.2.2.2.2.2.2.2.1 R.2.2.2.2.2.2.2.2.1 R.2.2.2.2.2.2.2.2.2.1 R.2.2.2.2.2.2.2.2.2.2.1 R.2.2.2.2.2.2.2.2.2.2.2.1 R.2.2.2.2.2.2.2.2.2.2.2.2.1 R.2.2.2.2.2.2.2.2.2.2.2.2.2.1 R.2.2.2.2.2.2.2.2.2.2.2.2.2.2.1 R.2.2.2.2.2.2.2.2.2.2.2.2.2.2.2) A) (by decide) rfl (Nat.le_of_ble_eq_true rfl) ?_
  intro p e s m args below meth c A ls hx hb hr hts hown hlocks hml hA hP hK hD hl
  have hown : s.vm.findClass RX6 = some m.cls := hown
  have hl : lv_has ls 1 [(0, .ref m0)] := hl
  have hS : va_S A s.heap s.heap [] := va_S.rf
  have fl32_ : (Cond.fieldLink RX6 32 "DimensionLoaderModel" "thrown" "I").before args s = true := hts _ (List.mem_of_getElem? (i := 1) rfl)
  have fl65_ : (Cond.fieldLink RX6 65 "DimensionLoaderModel" "anew" "I").before args s = true := hts _ (List.mem_of_getElem? (i := 2) rfl)
  have inX6_ : ∀ w ∈ wsX60, w ∈ wsX6_pointedAnew := in_X6_pointedAnew_X6
  unfold f_X6_pointedAnew at hf
  dsimp only at hf
  refine lv_aload_n hx hb dX6_pointedAnew_0 rfl (lv_at hl 0 rfl) ?_
  refine lv_iconst (v := 0) hx hb dX6_pointedAnew_1 (by decide) ?_
  refine va_put (D := (dC, dI)) (ci := 8) (v := .int 0) (ty := .int) (C := RX6) (T := TX6) (N := 15) hx hb hts inX6_ tyX6 tyX6_ok nmX6 hown hK hP hD hS 0 rfl rfl 7 (by decide) fl32_ (fun _ h9 => h9) rfl (by decide +kernel) (by first | rfl | decide) (by first | rfl | decide) (Nat.le_of_ble_eq_true rfl) dX6_pointedAnew_2 (fun H1 locs hP hD hS => ?_)
  have hP : va_P (dC, dI) vwCl (wM_ m0 m_g m_kept m_spare m_was m_text m_told cI mg mkept mspare mhasKept mwas mwasMany manew 0 mtext mlength mspot mvalue merror mtold mtolds) H1 := hP
  have hD : va_D A (wM_ m0 m_g m_kept m_spare m_was m_text m_told cI mg mkept mspare mhasKept mwas mwasMany manew 0 mtext mlength mspot mvalue merror mtold mtolds) := hD
  refine lv_aload_n hx hb dX6_pointedAnew_5 rfl (lv_at hl 0 rfl) ?_
  refine va_get (D := (dC, dI)) (ci := 8) (v := .int manew) (C := RX6) (T := TX6) (N := 15) hx hb hts inX6_ hown hK hP 0 rfl rfl 6 (by decide) fl65_ (fun _ h9 => h9) rfl dX6_pointedAnew_6 ?_
  have hR := Option.some.inj hf
  subst hR
  exact W.iret (v := manew) hx hb hr (fun t ht hW => ⟨⟨manew, (), rfl, rfl, by rw [ht]; exact hP, va_K.moved hW.alike hK, hD⟩, hS.F ht⟩) hS.2.2 dX6_pointedAnew_9
theorem hs_X6_pointedAnew : yX6_pointedAnew.cls = RX6 ∧ yX6_pointedAnew.cls ≠ "java/lang/invoke/MethodHandle" ∧ yX6_pointedAnew.cls ≠ "java/lang/invoke/VarHandle" ∧ (parseMethodDescriptor yX6_pointedAnew.desc).map (fun d => d.parameters.length) = some 0 := by decide +kernel
set_option maxRecDepth 20000 in
theorem in_X6_isOpen_X6 : ∀ w ∈ wsX60, w ∈ wsX6_isOpen := by decide +kernel
def f_X6_isOpen (a1 : Int32) (M_ : tM_) : Option (Int32) :=
match M_ with
| (mg, mkept, mspare, mhasKept, mwas, mwasMany, manew, mthrown, mtext, mlength, mspot, mvalue, merror, mtold, mtolds) =>
gd_ (70 + a1) 610 (
gd_ (130 + a1) 610 (
bd_ (f_X6_following (mg ((70 + a1).toNatClampNeg)) (mg ((130 + a1).toNatClampNeg)) (mg, mkept, mspare, mhasKept, mwas, mwasMany, manew, mthrown, mtext, mlength, mspot, mvalue, merror, mtold, mtolds)) (fun r3 =>
gd_ (190 + a1) 610 (
if r3 < 0 then
if 1000 ≤ (mg ((190 + a1).toNatClampNeg)) then
some (0 : Int32)
else
some (1 : Int32)
else
gd_ (130 + r3) 610 (
if (mg ((130 + r3).toNatClampNeg)) ≤ (mg ((190 + a1).toNatClampNeg)) then
some (0 : Int32)
else
some (1 : Int32))))))
abbrev rm_X6_isOpen : Room := { frames := 2, cells := 0, slots := 0, locals := 46 }
set_option maxHeartbeats 4000000 in
set_option maxRecDepth 100000 in
theorem c_X6_isOpen (l : Launch) (dC : Nat → ClassId) (dI : Nat → Nat → Nat) (cI cZ cC cJ cD : ClassId) (m0 m_g m_kept m_spare m_was m_text m_told : Nat) (sz : Nat) (mg : Nat → Int32) (mkept : Nat → Int32) (mspare : Nat → Int32) (mhasKept : Int32) (mwas : Nat → Int32) (mwasMany : Int32) (manew : Int32) (mthrown : Int32) (mtext : Nat → Int32) (mlength : Int32) (mspot : Int32) (mvalue : Int32) (merror : Int32) (mtold : Nat → Int32) (mtolds : Int32) (a1 : Int32) (R : Int32) (hf : f_X6_isOpen a1 (mg, mkept, mspare, mhasKept, mwas, mwasMany, manew, mthrown, mtext, mlength, mspot, mvalue, merror, mtold, mtolds) = some R) : Met l yX6_isOpen wsX6_isOpen rm_X6_isOpen (Pc_ (dC, dI) (ty_ cI cZ cC cJ cD) (wM_ m0 m_g m_kept m_spare m_was m_text m_told cI mg mkept mspare mhasKept mwas mwasMany manew mthrown mtext mlength mspot mvalue merror mtold mtolds) sz [.ref m0, .int a1]) (Qi_ (dC, dI) (ty_ cI cZ cC cJ cD) R (wM_ m0 m_g m_kept m_spare m_was m_text m_told cI mg mkept mspare mhasKept mwas mwasMany manew mthrown mtext mlength mspot mvalue merror mtold mtolds) (va_A (wM_ m0 m_g m_kept m_spare m_was m_text m_told cI mg mkept mspare mhasKept mwas mwasMany manew mthrown mtext mlength mspot mvalue merror mtold mtolds) sz)) 0 0 (va_A (wM_ m0 m_g m_kept m_spare m_was m_text m_told cI mg mkept mspare mhasKept mwas mwasMany manew mthrown mtext mlength mspot mvalue merror mtold mtolds) sz) := by
  refine met_ (cc := cX6_isOpen) (maxL := 3) (ret := (some .boolean)) (Qcf := fun A => Qi_ (dC, dI) (ty_ cI cZ cC cJ cD) R (wM_ m0 m_g m_kept m_spare m_was m_text m_told cI mg mkept mspare mhasKept mwas mwasMany manew mthrown mtext mlength mspot mvalue merror mtold mtolds) A) (by decide) rfl (Nat.le_of_ble_eq_true rfl) ?_
  intro p e s m args below meth c A ls hx hb hr hts hown hlocks hml hA hP hK hD hl
  have hown : s.vm.findClass RX6 = some m.cls := hown
  have hl : lv_has ls 3 [(0, .ref m0), (1, .int a1)] := hl
  have hS : va_S A s.heap s.heap [] := va_S.rf
  have fl7_ : (Cond.fieldLink RX6 7 "DimensionLoaderModel" "g" "[I").before args s = true := hts _ (List.mem_of_getElem? (i := 1) rfl)
  have inX6_ : ∀ w ∈ wsX60, w ∈ wsX6_isOpen := in_X6_isOpen_X6
  unfold f_X6_isOpen at hf
  dsimp only at hf
  refine lv_aload_n hx hb dX6_isOpen_0 rfl (lv_at hl 0 rfl) ?_
  refine lv_aload_n hx hb dX6_isOpen_1 rfl (lv_at hl 0 rfl) ?_
  refine va_get (D := (dC, dI)) (ci := 8) (v := .ref m_g) (C := RX6) (T := TX6) (N := 15) hx hb hts inX6_ hown hK hP 0 rfl rfl 0 (by decide) fl7_ (fun _ h9 => h9) rfl dX6_isOpen_2 ?_
  refine lv_bipush (v := 70) hx hb dX6_isOpen_5 (by decide) ?_
  refine lv_iload_n hx hb dX6_isOpen_7 rfl (lv_at hl 1 rfl) ?_
  refine lv_iadd hx hb dX6_isOpen_8 ?_
  obtain ⟨h1, hf⟩ := gd_T hf
  refine va_iald hx hb hK hP 1 0 rfl rfl h1 dX6_isOpen_9 ?_
  refine lv_aload_n hx hb dX6_isOpen_10 rfl (lv_at hl 0 rfl) ?_
  refine va_get (D := (dC, dI)) (ci := 8) (v := .ref m_g) (C := RX6) (T := TX6) (N := 15) hx hb hts inX6_ hown hK hP 0 rfl rfl 0 (by decide) fl7_ (fun _ h9 => h9) rfl dX6_isOpen_11 ?_
  refine lv_sipush (v := 130) hx hb dX6_isOpen_14 (by decide) ?_
  refine lv_iload_n hx hb dX6_isOpen_17 rfl (lv_at hl 1 rfl) ?_
  refine lv_iadd hx hb dX6_isOpen_18 ?_
  obtain ⟨h2, hf⟩ := gd_T hf
  refine va_iald hx hb hK hP 1 0 rfl rfl h2 dX6_isOpen_19 ?_
  obtain ⟨R4, g5, hf⟩ := bd_B hf
  obtain ⟨r3, rfl⟩ : ∃ z, z = R4 := ⟨_, rfl⟩
  have hPc := hP
  have hDc := hD
  have hFc := va_free (wc := wM_ m0 m_g m_kept m_spare m_was m_text m_told cI mg mkept mspare mhasKept mwas mwasMany manew mthrown mtext mlength mspot mvalue merror mtold mtolds) hD hS hA [0, 1, 2, 3, 4, 5, 6] rfl
  refine va_calli (va_runV (As := [.int (mg ((70 + a1).toNatClampNeg)), .int (mg ((130 + a1).toNatClampNeg))]) (rest := []) ⟨hx, hb, hml, hown, hts⟩ (c_X6_following l dC dI cI cZ cC cJ cD m0 m_g m_kept m_spare m_was m_text m_told s.heap.size mg mkept mspare mhasKept mwas mwasMany manew mthrown mtext mlength mspot mvalue merror mtold mtolds (mg ((70 + a1).toNatClampNeg)) (mg ((130 + a1).toNatClampNeg)) r3 g5) (cwV 2 hts gX6_isOpen_X6_following rfl rfl rfl hs_X6_following ⟨Nat.le_of_ble_eq_true rfl, Nat.le_of_ble_eq_true rfl⟩) (preV_ (ci := 8) (q0 := 0) hPc hK hDc rfl rfl rfl rfl) rfl rfl hl.1 rfl (lv_room (Nat.le_of_ble_eq_true rfl)) dX6_isOpen_20 ⟨Nat.le_of_ble_eq_true rfl, Nat.le_of_ble_eq_true rfl⟩) hS (fun q _ h => hFc q h) hFc (fun z7 u t H6 locs ht hvm hw hB hz1 hk1 hS => ?_)
  have hw : r3 = z7 := hw.symm
  subst hw
  obtain ⟨hP, hD⟩ := aft_ (Wr := []) (Wc' := wM_ m0 m_g m_kept m_spare m_was m_text m_told cI mg mkept mspare mhasKept mwas mwasMany manew mthrown mtext mlength mspot mvalue merror mtold mtolds) (W2 := wM_ m0 m_g m_kept m_spare m_was m_text m_told cI mg mkept mspare mhasKept mwas mwasMany manew mthrown mtext mlength mspot mvalue merror mtold mtolds) hP hD [0, 1, 2, 3, 4, 5, 6] [] [0, 1, 2, 3, 4, 5, 6] rfl rfl (by decide) (by decide) (by decide) hk1 hFc hB ht rfl
  refine lv_istore_n (lv' := [(2, .int r3), (0, .ref m0), (1, .int a1)]) hx hb dX6_isOpen_23 rfl hl (by decide) rfl (fun ls hl => ?_)
  refine lv_aload_n hx hb dX6_isOpen_24 rfl (lv_at hl 1 rfl) ?_
  refine va_get (D := (dC, dI)) (ci := 8) (v := .ref m_g) (C := RX6) (T := TX6) (N := 15) hx hb hts inX6_ hown hK hP 0 rfl rfl 0 (by decide) fl7_ (fun _ h9 => h9) rfl dX6_isOpen_25 ?_
  refine lv_sipush (v := 190) hx hb dX6_isOpen_28 (by decide) ?_
  refine lv_iload_n hx hb dX6_isOpen_31 rfl (lv_at hl 2 rfl) ?_
  refine lv_iadd hx hb dX6_isOpen_32 ?_
  obtain ⟨h8, hf⟩ := gd_T hf
  refine va_iald hx hb hK hP 1 0 rfl rfl h8 dX6_isOpen_33 ?_
  refine lv_iload_n hx hb dX6_isOpen_34 rfl (lv_at hl 0 rfl) ?_
  refine lv_if_lt (tgt := 51) hx hb dX6_isOpen_35 (by decide) (fun c9 => ?_) (fun c9 => ?_)
  · have hf := ite_T c9 hf
    refine lv_sipush (v := 1000) hx hb dX6_isOpen_51 (by decide) ?_
    refine lv_icmp_ge (tgt := 61) hx hb dX6_isOpen_54 (by decide) (fun c10 => ?_) (fun c10 => ?_)
    · have hf := ite_T c10 hf
      refine lv_iconst (v := 0) hx hb dX6_isOpen_61 (by decide) ?_
      have hR := Option.some.inj hf
      subst hR
      exact W.zret (v := (0 : Int32)) hx hb hr (by decide) (fun t ht hW => ⟨⟨(0 : Int32), (), rfl, rfl, by rw [ht]; exact hP, va_K.moved hW.alike hK, hD⟩, hS.F ht⟩) hS.2.2 dX6_isOpen_62
    · have hf := ite_F c10 hf
      refine lv_iconst (v := 1) hx hb dX6_isOpen_57 (by decide) ?_
      refine lv_goto (tgt := 62) hx hb dX6_isOpen_58 (by decide) ?_
      have hR := Option.some.inj hf
      subst hR
      exact W.zret (v := (1 : Int32)) hx hb hr (by decide) (fun t ht hW => ⟨⟨(1 : Int32), (), rfl, rfl, by rw [ht]; exact hP, va_K.moved hW.alike hK, hD⟩, hS.F ht⟩) hS.2.2 dX6_isOpen_62
  · have hf := ite_F c9 hf
    refine lv_aload_n hx hb dX6_isOpen_38 rfl (lv_at hl 1 rfl) ?_
    refine va_get (D := (dC, dI)) (ci := 8) (v := .ref m_g) (C := RX6) (T := TX6) (N := 15) hx hb hts inX6_ hown hK hP 0 rfl rfl 0 (by decide) fl7_ (fun _ h9 => h9) rfl dX6_isOpen_39 ?_
    refine lv_sipush (v := 130) hx hb dX6_isOpen_42 (by decide) ?_
    refine lv_iload_n hx hb dX6_isOpen_45 rfl (lv_at hl 0 rfl) ?_
    refine lv_iadd hx hb dX6_isOpen_46 ?_
    obtain ⟨h11, hf⟩ := gd_T hf
    refine va_iald hx hb hK hP 1 0 rfl rfl h11 dX6_isOpen_47 ?_
    refine lv_goto (tgt := 54) hx hb dX6_isOpen_48 (by decide) ?_
    refine lv_icmp_ge (tgt := 61) hx hb dX6_isOpen_54 (by decide) (fun c12 => ?_) (fun c12 => ?_)
    · have hf := ite_T c12 hf
      refine lv_iconst (v := 0) hx hb dX6_isOpen_61 (by decide) ?_
      have hR := Option.some.inj hf
      subst hR
      exact W.zret (v := (0 : Int32)) hx hb hr (by decide) (fun t ht hW => ⟨⟨(0 : Int32), (), rfl, rfl, by rw [ht]; exact hP, va_K.moved hW.alike hK, hD⟩, hS.F ht⟩) hS.2.2 dX6_isOpen_62
    · have hf := ite_F c12 hf
      refine lv_iconst (v := 1) hx hb dX6_isOpen_57 (by decide) ?_
      refine lv_goto (tgt := 62) hx hb dX6_isOpen_58 (by decide) ?_
      have hR := Option.some.inj hf
      subst hR
      exact W.zret (v := (1 : Int32)) hx hb hr (by decide) (fun t ht hW => ⟨⟨(1 : Int32), (), rfl, rfl, by rw [ht]; exact hP, va_K.moved hW.alike hK, hD⟩, hS.F ht⟩) hS.2.2 dX6_isOpen_62
theorem hs_X6_isOpen : yX6_isOpen.cls = RX6 ∧ yX6_isOpen.cls ≠ "java/lang/invoke/MethodHandle" ∧ yX6_isOpen.cls ≠ "java/lang/invoke/VarHandle" ∧ (parseMethodDescriptor yX6_isOpen.desc).map (fun d => d.parameters.length) = some 1 := by decide +kernel
set_option maxRecDepth 20000 in
theorem in_X6_gapsOf_X6 : ∀ w ∈ wsX60, w ∈ wsX6_gapsOf := by decide +kernel
def f_X6_gapsOf_S4 (k_ : Int32 → Int32 → Int32 → tM_ → Option (Int32)) (l3 : Int32) (l2 : Int32) (l1 : Int32) (M_ : tM_) : Option (Int32) :=
match M_ with
| (mg, mkept, mspare, mhasKept, mwas, mwasMany, manew, mthrown, mtext, mlength, mspot, mvalue, merror, mtold, mtolds) =>
gd_ (0 : Int32) 610 (
if (mg ((0 : Int32).toNatClampNeg)) ≤ l3 then
some l2
else
bd_ (f_X6_isOf l3 l1 (mg, mkept, mspare, mhasKept, mwas, mwasMany, manew, mthrown, mtext, mlength, mspot, mvalue, merror, mtold, mtolds)) (fun r4 =>
if r4 = 0 then
k_ (l3 + 1) (l2 + 0) l1 (mg, mkept, mspare, mhasKept, mwas, mwasMany, manew, mthrown, mtext, mlength, mspot, mvalue, merror, mtold, mtolds)
else
bd_ (f_X6_isOpen l3 (mg, mkept, mspare, mhasKept, mwas, mwasMany, manew, mthrown, mtext, mlength, mspot, mvalue, merror, mtold, mtolds)) (fun r10 =>
if r10 = 0 then
k_ (l3 + 1) (l2 + 0) l1 (mg, mkept, mspare, mhasKept, mwas, mwasMany, manew, mthrown, mtext, mlength, mspot, mvalue, merror, mtold, mtolds)
else
k_ (l3 + 1) (l2 + 1) l1 (mg, mkept, mspare, mhasKept, mwas, mwasMany, manew, mthrown, mtext, mlength, mspot, mvalue, merror, mtold, mtolds))))
def f_X6_gapsOf_L4 : Nat → Int32 → Int32 → Int32 → tM_ → Option (Int32)
  | 0 => fun _ _ _ _ => none
  | n + 1 => fun l3 l2 l1 M_ => f_X6_gapsOf_S4 (f_X6_gapsOf_L4 n) l3 l2 l1 M_
def f_X6_gapsOf (a1 : Int32) (M_ : tM_) : Option (Int32) :=
match M_ with
| (mg, mkept, mspare, mhasKept, mwas, mwasMany, manew, mthrown, mtext, mlength, mspot, mvalue, merror, mtold, mtolds) =>
f_X6_gapsOf_L4 fu_ (0 : Int32) (0 : Int32) a1 (mg, mkept, mspare, mhasKept, mwas, mwasMany, manew, mthrown, mtext, mlength, mspot, mvalue, merror, mtold, mtolds)
abbrev rm_X6_gapsOf : Room := { frames := 3, cells := 0, slots := 0, locals := 68 }
set_option maxHeartbeats 4000000 in
set_option maxRecDepth 100000 in
theorem c_X6_gapsOf (l : Launch) (dC : Nat → ClassId) (dI : Nat → Nat → Nat) (cI cZ cC cJ cD : ClassId) (m0 m_g m_kept m_spare m_was m_text m_told : Nat) (sz : Nat) (mg : Nat → Int32) (mkept : Nat → Int32) (mspare : Nat → Int32) (mhasKept : Int32) (mwas : Nat → Int32) (mwasMany : Int32) (manew : Int32) (mthrown : Int32) (mtext : Nat → Int32) (mlength : Int32) (mspot : Int32) (mvalue : Int32) (merror : Int32) (mtold : Nat → Int32) (mtolds : Int32) (a1 : Int32) (R : Int32) (hf : f_X6_gapsOf a1 (mg, mkept, mspare, mhasKept, mwas, mwasMany, manew, mthrown, mtext, mlength, mspot, mvalue, merror, mtold, mtolds) = some R) : Met l yX6_gapsOf wsX6_gapsOf rm_X6_gapsOf (Pc_ (dC, dI) (ty_ cI cZ cC cJ cD) (wM_ m0 m_g m_kept m_spare m_was m_text m_told cI mg mkept mspare mhasKept mwas mwasMany manew mthrown mtext mlength mspot mvalue merror mtold mtolds) sz [.ref m0, .int a1]) (Qi_ (dC, dI) (ty_ cI cZ cC cJ cD) R (wM_ m0 m_g m_kept m_spare m_was m_text m_told cI mg mkept mspare mhasKept mwas mwasMany manew mthrown mtext mlength mspot mvalue merror mtold mtolds) (va_A (wM_ m0 m_g m_kept m_spare m_was m_text m_told cI mg mkept mspare mhasKept mwas mwasMany manew mthrown mtext mlength mspot mvalue merror mtold mtolds) sz)) 0 0 (va_A (wM_ m0 m_g m_kept m_spare m_was m_text m_told cI mg mkept mspare mhasKept mwas mwasMany manew mthrown mtext mlength mspot mvalue merror mtold mtolds) sz) := by
  refine met_ (cc := cX6_gapsOf) (maxL := 4) (ret := (some .int)) (Qcf := fun A => Qi_ (dC, dI) (ty_ cI cZ cC cJ cD) R (wM_ m0 m_g m_kept m_spare m_was m_text m_told cI mg mkept mspare mhasKept mwas mwasMany manew mthrown mtext mlength mspot mvalue merror mtold mtolds) A) (by decide) rfl (Nat.le_of_ble_eq_true rfl) ?_
  intro p e s m args below meth c A ls hx hb hr hts hown hlocks hml hA hP hK hD hl
  have hown : s.vm.findClass RX6 = some m.cls := hown
  have hl : lv_has ls 4 [(0, .ref m0), (1, .int a1)] := hl
  have hS : va_S A s.heap s.heap [] := va_S.rf
  have fl7_ : (Cond.fieldLink RX6 7 "DimensionLoaderModel" "g" "[I").before args s = true := hts _ (List.mem_of_getElem? (i := 1) rfl)
  have inX6_ : ∀ w ∈ wsX60, w ∈ wsX6_gapsOf := in_X6_gapsOf_X6
  unfold f_X6_gapsOf at hf
  dsimp only at hf
  refine lv_iconst (v := 0) hx hb dX6_gapsOf_0 (by decide) ?_
  refine lv_istore_n (lv' := [(2, .int 0), (0, .ref m0), (1, .int a1)]) hx hb dX6_gapsOf_1 rfl hl (by decide) rfl (fun ls hl => ?_)
  refine lv_iconst (v := 0) hx hb dX6_gapsOf_2 (by decide) ?_
  refine lv_istore_n (lv' := [(3, .int 0), (2, .int 0), (0, .ref m0), (1, .int a1)]) hx hb dX6_gapsOf_3 rfl hl (by decide) rfl (fun ls hl => ?_)
  have lp4 : ∀ (n : Nat) (l3 : Int32) (l2 : Int32) (l1 : Int32) (mg : Nat → Int32) (mkept : Nat → Int32) (mspare : Nat → Int32) (mhasKept : Int32) (mwas : Nat → Int32) (mwasMany : Int32) (manew : Int32) (mthrown : Int32) (mtext : Nat → Int32) (mlength : Int32) (mspot : Int32) (mvalue : Int32) (merror : Int32) (mtold : Nat → Int32) (mtolds : Int32) (H1 : Heap) (locs : List Loc) (ls : Array Slot), f_X6_gapsOf_L4 n l3 l2 l1 (mg, mkept, mspare, mhasKept, mwas, mwasMany, manew, mthrown, mtext, mlength, mspot, mvalue, merror, mtold, mtolds) = some R → va_P (dC, dI) vwCl (wM_ m0 m_g m_kept m_spare m_was m_text m_told cI mg mkept mspare mhasKept mwas mwasMany manew mthrown mtext mlength mspot mvalue merror mtold mtolds) H1 → va_D A (wM_ m0 m_g m_kept m_spare m_was m_text m_told cI mg mkept mspare mhasKept mwas mwasMany manew mthrown mtext mlength mspot mvalue merror mtold mtolds) → va_S A s.heap H1 locs → lv_has ls 4 [(3, .int l3), (2, .int l2), (0, .ref m0), (1, .int l1)] → W p l e (headSpec wsX6_gapsOf rm_X6_gapsOf).room s m args below meth c H1 locs 0 0 (MQ below (Qi_ (dC, dI) (ty_ cI cZ cC cJ cD) R (wM_ m0 m_g m_kept m_spare m_was m_text m_told cI mg mkept mspare mhasKept mwas mwasMany manew mthrown mtext mlength mspot mvalue merror mtold mtolds) A) args s 0 0 A) (F0 m 4 ls []) := by
    intro n
    induction n with
    | zero => intro l3 l2 l1 mg mkept mspare mhasKept mwas mwasMany manew mthrown mtext mlength mspot mvalue merror mtold mtolds H1 locs ls hf hP hD hS hl; exact absurd hf (by simp [f_X6_gapsOf_L4])
    | succ n ih =>
      intro l3 l2 l1 mg mkept mspare mhasKept mwas mwasMany manew mthrown mtext mlength mspot mvalue merror mtold mtolds H1 locs ls hf hP hD hS hl
      have hf : f_X6_gapsOf_S4 (f_X6_gapsOf_L4 n) l3 l2 l1 (mg, mkept, mspare, mhasKept, mwas, mwasMany, manew, mthrown, mtext, mlength, mspot, mvalue, merror, mtold, mtolds) = some R := hf
      unfold f_X6_gapsOf_S4 at hf
      dsimp only at hf
      refine lv_iload_n hx hb dX6_gapsOf_4 rfl (lv_at hl 0 rfl) ?_
      refine lv_aload_n hx hb dX6_gapsOf_5 rfl (lv_at hl 2 rfl) ?_
      refine va_get (D := (dC, dI)) (ci := 8) (v := .ref m_g) (C := RX6) (T := TX6) (N := 15) hx hb hts inX6_ hown hK hP 0 rfl rfl 0 (by decide) fl7_ (fun _ h9 => h9) rfl dX6_gapsOf_6 ?_
      refine lv_iconst (v := 0) hx hb dX6_gapsOf_9 (by decide) ?_
      obtain ⟨h2, hf⟩ := gd_T hf
      refine va_iald hx hb hK hP 1 0 rfl rfl h2 dX6_gapsOf_10 ?_
      refine lv_icmp_ge (tgt := 45) hx hb dX6_gapsOf_11 (by decide) (fun c3 => ?_) (fun c3 => ?_)
      · have hf := ite_T c3 hf
        refine lv_iload_n hx hb dX6_gapsOf_45 rfl (lv_at hl 1 rfl) ?_
        have hR := Option.some.inj hf
        subst hR
        exact W.iret (v := l2) hx hb hr (fun t ht hW => ⟨⟨l2, (), rfl, rfl, by rw [ht]; exact hP, va_K.moved hW.alike hK, hD⟩, hS.F ht⟩) hS.2.2 dX6_gapsOf_46
      · have hf := ite_F c3 hf
        refine lv_iload_n hx hb dX6_gapsOf_14 rfl (lv_at hl 1 rfl) ?_
        refine lv_aload_n hx hb dX6_gapsOf_15 rfl (lv_at hl 2 rfl) ?_
        refine lv_iload_n hx hb dX6_gapsOf_16 rfl (lv_at hl 0 rfl) ?_
        refine lv_iload_n hx hb dX6_gapsOf_17 rfl (lv_at hl 3 rfl) ?_
        obtain ⟨R5, g6, hf⟩ := bd_B hf
        obtain ⟨r4, rfl⟩ : ∃ z, z = R5 := ⟨_, rfl⟩
        have hPc := hP
        have hDc := hD
        have hFc := va_free (wc := wM_ m0 m_g m_kept m_spare m_was m_text m_told cI mg mkept mspare mhasKept mwas mwasMany manew mthrown mtext mlength mspot mvalue merror mtold mtolds) hD hS hA [0, 1, 2, 3, 4, 5, 6] rfl
        refine va_calli (va_runV (As := [.int l3, .int l1]) (rest := [.int l2]) ⟨hx, hb, hml, hown, hts⟩ (c_X6_isOf l dC dI cI cZ cC cJ cD m0 m_g m_kept m_spare m_was m_text m_told H1.size mg mkept mspare mhasKept mwas mwasMany manew mthrown mtext mlength mspot mvalue merror mtold mtolds l3 l1 r4 g6) (cwV 2 hts gX6_gapsOf_X6_isOf rfl rfl rfl hs_X6_isOf ⟨Nat.le_of_ble_eq_true rfl, Nat.le_of_ble_eq_true rfl⟩) (preV_ (ci := 8) (q0 := 0) hPc hK hDc rfl rfl rfl rfl) rfl rfl hl.1 rfl (lv_room (Nat.le_of_ble_eq_true rfl)) dX6_gapsOf_18 ⟨Nat.le_of_ble_eq_true rfl, Nat.le_of_ble_eq_true rfl⟩) hS (fun q _ h => hFc q h) hFc (fun z8 u t H7 locs ht hvm hw hB hz1 hk1 hS => ?_)
        have hw : r4 = z8 := hw.symm
        subst hw
        obtain ⟨hP, hD⟩ := aft_ (Wr := []) (Wc' := wM_ m0 m_g m_kept m_spare m_was m_text m_told cI mg mkept mspare mhasKept mwas mwasMany manew mthrown mtext mlength mspot mvalue merror mtold mtolds) (W2 := wM_ m0 m_g m_kept m_spare m_was m_text m_told cI mg mkept mspare mhasKept mwas mwasMany manew mthrown mtext mlength mspot mvalue merror mtold mtolds) hP hD [0, 1, 2, 3, 4, 5, 6] [] [0, 1, 2, 3, 4, 5, 6] rfl rfl (by decide) (by decide) (by decide) hk1 hFc hB ht rfl
        refine lv_if_eq (tgt := 36) hx hb dX6_gapsOf_21 (by decide) (fun c9 => ?_) (fun c9 => ?_)
        · have hf := ite_T c9 hf
          refine lv_iconst (v := 0) hx hb dX6_gapsOf_36 (by decide) ?_
          refine lv_iadd hx hb dX6_gapsOf_37 ?_
          refine lv_istore_n (lv' := [(2, .int (l2 + 0)), (3, .int l3), (0, .ref m0), (1, .int l1)]) hx hb dX6_gapsOf_38 rfl hl (by decide) rfl (fun ls hl => ?_)
          refine lv_iinc (v := l3 + 1) (lv' := [(3, .int (l3 + 1)), (2, .int (l2 + 0)), (0, .ref m0), (1, .int l1)]) hx hb dX6_gapsOf_39 hl (k := 1) rfl (by first | rfl | decide) (by decide) rfl (fun ls hl => ?_)
          refine lv_goto (tgt := 4) hx hb dX6_gapsOf_42 (by decide) ?_
          exact ih (l3 + 1) (l2 + 0) l1 mg mkept mspare mhasKept mwas mwasMany manew mthrown mtext mlength mspot mvalue merror mtold mtolds _ _ _ hf hP hD hS (lv_sub hl [0, 1, 2, 3] rfl)
        · have hf := ite_F c9 hf
          refine lv_aload_n hx hb dX6_gapsOf_24 rfl (lv_at hl 2 rfl) ?_
          refine lv_iload_n hx hb dX6_gapsOf_25 rfl (lv_at hl 0 rfl) ?_
          obtain ⟨R11, g12, hf⟩ := bd_B hf
          obtain ⟨r10, rfl⟩ : ∃ z, z = R11 := ⟨_, rfl⟩
          have hPc := hP
          have hDc := hD
          have hFc := va_free (wc := wM_ m0 m_g m_kept m_spare m_was m_text m_told cI mg mkept mspare mhasKept mwas mwasMany manew mthrown mtext mlength mspot mvalue merror mtold mtolds) hD hS hA [0, 1, 2, 3, 4, 5, 6] rfl
          refine va_calli (va_runV (As := [.int l3]) (rest := [.int l2]) ⟨hx, hb, hml, hown, hts⟩ (c_X6_isOpen l dC dI cI cZ cC cJ cD m0 m_g m_kept m_spare m_was m_text m_told H7.size mg mkept mspare mhasKept mwas mwasMany manew mthrown mtext mlength mspot mvalue merror mtold mtolds l3 r10 g12) (cwV 1 hts gX6_gapsOf_X6_isOpen rfl rfl rfl hs_X6_isOpen ⟨Nat.le_of_ble_eq_true rfl, Nat.le_of_ble_eq_true rfl⟩) (preV_ (ci := 8) (q0 := 0) hPc hK hDc rfl rfl rfl rfl) rfl rfl hl.1 rfl (lv_room (Nat.le_of_ble_eq_true rfl)) dX6_gapsOf_26 ⟨Nat.le_of_ble_eq_true rfl, Nat.le_of_ble_eq_true rfl⟩) hS (fun q _ h => hFc q h) hFc (fun z14 u t H13 locs ht hvm hw hB hz1 hk1 hS => ?_)
          have hw : r10 = z14 := hw.symm
          subst hw
          obtain ⟨hP, hD⟩ := aft_ (Wr := []) (Wc' := wM_ m0 m_g m_kept m_spare m_was m_text m_told cI mg mkept mspare mhasKept mwas mwasMany manew mthrown mtext mlength mspot mvalue merror mtold mtolds) (W2 := wM_ m0 m_g m_kept m_spare m_was m_text m_told cI mg mkept mspare mhasKept mwas mwasMany manew mthrown mtext mlength mspot mvalue merror mtold mtolds) hP hD [0, 1, 2, 3, 4, 5, 6] [] [0, 1, 2, 3, 4, 5, 6] rfl rfl (by decide) (by decide) (by decide) hk1 hFc hB ht rfl
          refine lv_if_eq (tgt := 36) hx hb dX6_gapsOf_29 (by decide) (fun c15 => ?_) (fun c15 => ?_)
          · have hf := ite_T c15 hf
            refine lv_iconst (v := 0) hx hb dX6_gapsOf_36 (by decide) ?_
            refine lv_iadd hx hb dX6_gapsOf_37 ?_
            refine lv_istore_n (lv' := [(2, .int (l2 + 0)), (3, .int l3), (0, .ref m0), (1, .int l1)]) hx hb dX6_gapsOf_38 rfl hl (by decide) rfl (fun ls hl => ?_)
            refine lv_iinc (v := l3 + 1) (lv' := [(3, .int (l3 + 1)), (2, .int (l2 + 0)), (0, .ref m0), (1, .int l1)]) hx hb dX6_gapsOf_39 hl (k := 1) rfl (by first | rfl | decide) (by decide) rfl (fun ls hl => ?_)
            refine lv_goto (tgt := 4) hx hb dX6_gapsOf_42 (by decide) ?_
            exact ih (l3 + 1) (l2 + 0) l1 mg mkept mspare mhasKept mwas mwasMany manew mthrown mtext mlength mspot mvalue merror mtold mtolds _ _ _ hf hP hD hS (lv_sub hl [0, 1, 2, 3] rfl)
          · have hf := ite_F c15 hf
            refine lv_iconst (v := 1) hx hb dX6_gapsOf_32 (by decide) ?_
            refine lv_goto (tgt := 37) hx hb dX6_gapsOf_33 (by decide) ?_
            refine lv_iadd hx hb dX6_gapsOf_37 ?_
            refine lv_istore_n (lv' := [(2, .int (l2 + 1)), (3, .int l3), (0, .ref m0), (1, .int l1)]) hx hb dX6_gapsOf_38 rfl hl (by decide) rfl (fun ls hl => ?_)
            refine lv_iinc (v := l3 + 1) (lv' := [(3, .int (l3 + 1)), (2, .int (l2 + 1)), (0, .ref m0), (1, .int l1)]) hx hb dX6_gapsOf_39 hl (k := 1) rfl (by first | rfl | decide) (by decide) rfl (fun ls hl => ?_)
            refine lv_goto (tgt := 4) hx hb dX6_gapsOf_42 (by decide) ?_
            exact ih (l3 + 1) (l2 + 1) l1 mg mkept mspare mhasKept mwas mwasMany manew mthrown mtext mlength mspot mvalue merror mtold mtolds _ _ _ hf hP hD hS (lv_sub hl [0, 1, 2, 3] rfl)
  exact lp4 fu_ (0 : Int32) (0 : Int32) a1 mg mkept mspare mhasKept mwas mwasMany manew mthrown mtext mlength mspot mvalue merror mtold mtolds _ _ _ hf hP hD hS hl
theorem hs_X6_gapsOf : yX6_gapsOf.cls = RX6 ∧ yX6_gapsOf.cls ≠ "java/lang/invoke/MethodHandle" ∧ yX6_gapsOf.cls ≠ "java/lang/invoke/VarHandle" ∧ (parseMethodDescriptor yX6_gapsOf.desc).map (fun d => d.parameters.length) = some 1 := by decide +kernel
set_option maxRecDepth 20000 in
theorem in_X6_gaps_X6 : ∀ w ∈ wsX60, w ∈ wsX6_gaps := by decide +kernel
def f_X6_gaps (a1 : Int32) (M_ : tM_) : Option (Int32 × tM_) :=
match M_ with
| (mg, mkept, mspare, mhasKept, mwas, mwasMany, manew, mthrown, mtext, mlength, mspot, mvalue, merror, mtold, mtolds) =>
bd_ (f_X6_isKey a1) (fun r2 =>
if r2 = 0 then
bd_ (f_X6_fails (1 : Int32) (mg, mkept, mspare, mhasKept, mwas, mwasMany, manew, 0, mtext, mlength, mspot, mvalue, merror, mtold, mtolds)) (fun (r8, (mg9, mk10, ms11, mh12, mw13, mw14, ma15, mt16, mt17, ml18, ms19, mv20, me21, mt22, mt23)) =>
some (r8, (mg9, mk10, ms11, mh12, mw13, mw14, ma15, mt16, mt17, ml18, ms19, mv20, me21, mt22, mt23)))
else
bd_ (f_X6_gapsOf a1 (mg, mkept, mspare, mhasKept, mwas, mwasMany, manew, 0, mtext, mlength, mspot, mvalue, merror, mtold, mtolds)) (fun r28 =>
some (r28, (mg, mkept, mspare, mhasKept, mwas, mwasMany, manew, 0, mtext, mlength, mspot, mvalue, merror, mtold, mtolds))))
abbrev rm_X6_gaps : Room := { frames := 4, cells := 0, slots := 0, locals := 91 }
set_option maxHeartbeats 4000000 in
set_option maxRecDepth 100000 in
theorem c_X6_gaps (l : Launch) (dC : Nat → ClassId) (dI : Nat → Nat → Nat) (cI cZ cC cJ cD : ClassId) (m0 m_g m_kept m_spare m_was m_text m_told : Nat) (sz : Nat) (mg : Nat → Int32) (mkept : Nat → Int32) (mspare : Nat → Int32) (mhasKept : Int32) (mwas : Nat → Int32) (mwasMany : Int32) (manew : Int32) (mthrown : Int32) (mtext : Nat → Int32) (mlength : Int32) (mspot : Int32) (mvalue : Int32) (merror : Int32) (mtold : Nat → Int32) (mtolds : Int32) (a1 : Int32) (R : Int32 × tM_) (hf : f_X6_gaps a1 (mg, mkept, mspare, mhasKept, mwas, mwasMany, manew, mthrown, mtext, mlength, mspot, mvalue, merror, mtold, mtolds) = some R) : Met l yX6_gaps wsX6_gaps rm_X6_gaps (Pc_ (dC, dI) (ty_ cI cZ cC cJ cD) (wM_ m0 m_g m_kept m_spare m_was m_text m_told cI mg mkept mspare mhasKept mwas mwasMany manew mthrown mtext mlength mspot mvalue merror mtold mtolds) sz [.ref m0, .int a1]) (Qi_ (dC, dI) (ty_ cI cZ cC cJ cD) R.1 (wM_ m0 m_g m_kept m_spare m_was m_text m_told cI R.2.1 R.2.2.1 R.2.2.2.1 R.2.2.2.2.1 R.2.2.2.2.2.1 R.2.2.2.2.2.2.1 R.2.2.2.2.2.2.2.1 R.2.2.2.2.2.2.2.2.1 R.2.2.2.2.2.2.2.2.2.1 R.2.2.2.2.2.2.2.2.2.2.1 R.2.2.2.2.2.2.2.2.2.2.2.1 R.2.2.2.2.2.2.2.2.2.2.2.2.1 R.2.2.2.2.2.2.2.2.2.2.2.2.2.1 R.2.2.2.2.2.2.2.2.2.2.2.2.2.2.1 R.2.2.2.2.2.2.2.2.2.2.2.2.2.2.2) (va_A (wM_ m0 m_g m_kept m_spare m_was m_text m_told cI mg mkept mspare mhasKept mwas mwasMany manew mthrown mtext mlength mspot mvalue merror mtold mtolds) sz)) 0 0 (va_A (wM_ m0 m_g m_kept m_spare m_was m_text m_told cI mg mkept mspare mhasKept mwas mwasMany manew mthrown mtext mlength mspot mvalue merror mtold mtolds) sz) := by
  refine met_ (cc := cX6_gaps) (maxL := 2) (ret := (some .int)) (Qcf := fun A => Qi_ (dC, dI) (ty_ cI cZ cC cJ cD) R.1 (wM_ m0 m_g m_kept m_spare m_was m_text m_told cI R.2.1 R.2.2.1 R.2.2.2.1 R.2.2.2.2.1 R.2.2.2.2.2.1 R.2.2.2.2.2.2.1 R.2.2.2.2.2.2.2.1 R.2.2.2.2.2.2.2.2.1 R.2.2.2.2.2.2.2.2.2.1 R.2.2.2.2.2.2.2.2.2.2.1 R.2.2.2.2.2.2.2.2.2.2.2.1 R.2.2.2.2.2.2.2.2.2.2.2.2.1 R.2.2.2.2.2.2.2.2.2.2.2.2.2.1 R.2.2.2.2.2.2.2.2.2.2.2.2.2.2.1 R.2.2.2.2.2.2.2.2.2.2.2.2.2.2.2) A) (by decide) rfl (Nat.le_of_ble_eq_true rfl) ?_
  intro p e s m args below meth c A ls hx hb hr hts hown hlocks hml hA hP hK hD hl
  have hown : s.vm.findClass RX6 = some m.cls := hown
  have hl : lv_has ls 2 [(0, .ref m0), (1, .int a1)] := hl
  have hS : va_S A s.heap s.heap [] := va_S.rf
  have fl32_ : (Cond.fieldLink RX6 32 "DimensionLoaderModel" "thrown" "I").before args s = true := hts _ (List.mem_of_getElem? (i := 1) rfl)
  have inX6_ : ∀ w ∈ wsX60, w ∈ wsX6_gaps := in_X6_gaps_X6
  unfold f_X6_gaps at hf
  dsimp only at hf
  refine lv_aload_n hx hb dX6_gaps_0 rfl (lv_at hl 0 rfl) ?_
  refine lv_iconst (v := 0) hx hb dX6_gaps_1 (by decide) ?_
  refine va_put (D := (dC, dI)) (ci := 8) (v := .int 0) (ty := .int) (C := RX6) (T := TX6) (N := 15) hx hb hts inX6_ tyX6 tyX6_ok nmX6 hown hK hP hD hS 0 rfl rfl 7 (by decide) fl32_ (fun _ h9 => h9) rfl (by decide +kernel) (by first | rfl | decide) (by first | rfl | decide) (Nat.le_of_ble_eq_true rfl) dX6_gaps_2 (fun H1 locs hP hD hS => ?_)
  have hP : va_P (dC, dI) vwCl (wM_ m0 m_g m_kept m_spare m_was m_text m_told cI mg mkept mspare mhasKept mwas mwasMany manew 0 mtext mlength mspot mvalue merror mtold mtolds) H1 := hP
  have hD : va_D A (wM_ m0 m_g m_kept m_spare m_was m_text m_told cI mg mkept mspare mhasKept mwas mwasMany manew 0 mtext mlength mspot mvalue merror mtold mtolds) := hD
  refine lv_iload_n hx hb dX6_gaps_5 rfl (lv_at hl 1 rfl) ?_
  obtain ⟨R3, g4, hf⟩ := bd_B hf
  obtain ⟨r2, rfl⟩ : ∃ z, z = R3 := ⟨_, rfl⟩
  have hPc := hP.sub (ws' := []) [] rfl
  have hDc := hD.sub (ws' := []) [] (by decide) rfl
  have hFc := va_free (wc := []) hD hS hA [] rfl
  refine va_calli (va_runS (As := [.int a1]) (rest := []) ⟨hx, hb, hml, hown, hts⟩ (c_X6_isKey l dC dI cI cZ cC cJ cD H1.size a1 r2 g4) (cwS 1 hts gX6_gaps_X6_isKey rfl rfl rfl hs_X6_isKey ⟨Nat.le_of_ble_eq_true rfl, Nat.le_of_ble_eq_true rfl⟩) (preS_ hPc hK hDc rfl) rfl rfl hl.1 rfl (lv_room (Nat.le_of_ble_eq_true rfl)) dX6_gaps_6 ⟨Nat.le_of_ble_eq_true rfl, Nat.le_of_ble_eq_true rfl⟩) hS (fun q _ h => hFc q h) hFc (fun z6 u t H5 locs ht hvm hw hB hz1 hk1 hS => ?_)
  have hw : r2 = z6 := hw.symm
  subst hw
  obtain ⟨hP, hD⟩ := aft_ (Wr := wM_ m0 m_g m_kept m_spare m_was m_text m_told cI mg mkept mspare mhasKept mwas mwasMany manew 0 mtext mlength mspot mvalue merror mtold mtolds) (Wc' := []) (W2 := wM_ m0 m_g m_kept m_spare m_was m_text m_told cI mg mkept mspare mhasKept mwas mwasMany manew 0 mtext mlength mspot mvalue merror mtold mtolds) hP hD [] [0, 1, 2, 3, 4, 5, 6] [0, 1, 2, 3, 4, 5, 6] rfl rfl (by decide) (by decide) (by decide) hk1 hFc hB ht rfl
  refine lv_if_eq (tgt := 20) hx hb dX6_gaps_9 (by decide) (fun c7 => ?_) (fun c7 => ?_)
  · have hf := ite_T c7 hf
    refine lv_aload_n hx hb dX6_gaps_20 rfl (lv_at hl 0 rfl) ?_
    refine lv_iconst (v := 1) hx hb dX6_gaps_21 (by decide) ?_
    obtain ⟨R24, g25, hf⟩ := bd_B hf
    obtain ⟨r8, ⟨mg9, mk10, ms11, mh12, mw13, mw14, ma15, mt16, mt17, ml18, ms19, mv20, me21, mt22, mt23⟩⟩ := R24
    dsimp only at hf
    have hPc := hP
    have hDc := hD
    have hFc := va_free (wc := wM_ m0 m_g m_kept m_spare m_was m_text m_told cI mg mkept mspare mhasKept mwas mwasMany manew 0 mtext mlength mspot mvalue merror mtold mtolds) hD hS hA [0, 1, 2, 3, 4, 5, 6] rfl
    refine va_calli (va_runV (As := [.int 1]) (rest := []) ⟨hx, hb, hml, hown, hts⟩ (c_X6_fails l dC dI cI cZ cC cJ cD m0 m_g m_kept m_spare m_was m_text m_told H5.size mg mkept mspare mhasKept mwas mwasMany manew (0 : Int32) mtext mlength mspot mvalue merror mtold mtolds (1 : Int32) (r8, (mg9, mk10, ms11, mh12, mw13, mw14, ma15, mt16, mt17, ml18, ms19, mv20, me21, mt22, mt23)) g25) (cwV 1 hts gX6_gaps_X6_fails rfl rfl rfl hs_X6_fails ⟨Nat.le_of_ble_eq_true rfl, Nat.le_of_ble_eq_true rfl⟩) (preV_ (ci := 8) (q0 := 0) hPc hK hDc rfl rfl rfl rfl) rfl rfl hl.1 rfl (lv_room (Nat.le_of_ble_eq_true rfl)) dX6_gaps_22 ⟨Nat.le_of_ble_eq_true rfl, Nat.le_of_ble_eq_true rfl⟩) hS (fun q _ h => hFc q h) hFc (fun z27 u t H26 locs ht hvm hw hB hz1 hk1 hS => ?_)
    have hw : r8 = z27 := hw.symm
    subst hw
    obtain ⟨hP, hD⟩ := aft_ (Wr := []) (Wc' := wM_ m0 m_g m_kept m_spare m_was m_text m_told cI mg9 mk10 ms11 mh12 mw13 mw14 ma15 mt16 mt17 ml18 ms19 mv20 me21 mt22 mt23) (W2 := wM_ m0 m_g m_kept m_spare m_was m_text m_told cI mg9 mk10 ms11 mh12 mw13 mw14 ma15 mt16 mt17 ml18 ms19 mv20 me21 mt22 mt23) hP hD [0, 1, 2, 3, 4, 5, 6] [] [0, 1, 2, 3, 4, 5, 6] rfl rfl (by decide) (by decide) (by decide) hk1 hFc hB ht rfl
    have hR := Option.some.inj hf
    subst hR
    exact W.iret (v := r8) hx hb hr (fun t ht hW => ⟨⟨r8, (), rfl, rfl, by rw [ht]; exact hP, va_K.moved hW.alike hK, hD⟩, hS.F ht⟩) hS.2.2 dX6_gaps_25
  · have hf := ite_F c7 hf
    refine lv_aload_n hx hb dX6_gaps_12 rfl (lv_at hl 0 rfl) ?_
    refine lv_iload_n hx hb dX6_gaps_13 rfl (lv_at hl 1 rfl) ?_
    obtain ⟨R29, g30, hf⟩ := bd_B hf
    obtain ⟨r28, rfl⟩ : ∃ z, z = R29 := ⟨_, rfl⟩
    have hPc := hP
    have hDc := hD
    have hFc := va_free (wc := wM_ m0 m_g m_kept m_spare m_was m_text m_told cI mg mkept mspare mhasKept mwas mwasMany manew 0 mtext mlength mspot mvalue merror mtold mtolds) hD hS hA [0, 1, 2, 3, 4, 5, 6] rfl
    refine va_calli (va_runV (As := [.int a1]) (rest := []) ⟨hx, hb, hml, hown, hts⟩ (c_X6_gapsOf l dC dI cI cZ cC cJ cD m0 m_g m_kept m_spare m_was m_text m_told H5.size mg mkept mspare mhasKept mwas mwasMany manew (0 : Int32) mtext mlength mspot mvalue merror mtold mtolds a1 r28 g30) (cwV 1 hts gX6_gaps_X6_gapsOf rfl rfl rfl hs_X6_gapsOf ⟨Nat.le_of_ble_eq_true rfl, Nat.le_of_ble_eq_true rfl⟩) (preV_ (ci := 8) (q0 := 0) hPc hK hDc rfl rfl rfl rfl) rfl rfl hl.1 rfl (lv_room (Nat.le_of_ble_eq_true rfl)) dX6_gaps_14 ⟨Nat.le_of_ble_eq_true rfl, Nat.le_of_ble_eq_true rfl⟩) hS (fun q _ h => hFc q h) hFc (fun z32 u t H31 locs ht hvm hw hB hz1 hk1 hS => ?_)
    have hw : r28 = z32 := hw.symm
    subst hw
    obtain ⟨hP, hD⟩ := aft_ (Wr := []) (Wc' := wM_ m0 m_g m_kept m_spare m_was m_text m_told cI mg mkept mspare mhasKept mwas mwasMany manew 0 mtext mlength mspot mvalue merror mtold mtolds) (W2 := wM_ m0 m_g m_kept m_spare m_was m_text m_told cI mg mkept mspare mhasKept mwas mwasMany manew 0 mtext mlength mspot mvalue merror mtold mtolds) hP hD [0, 1, 2, 3, 4, 5, 6] [] [0, 1, 2, 3, 4, 5, 6] rfl rfl (by decide) (by decide) (by decide) hk1 hFc hB ht rfl
    refine lv_goto (tgt := 25) hx hb dX6_gaps_17 (by decide) ?_
    have hR := Option.some.inj hf
    subst hR
    exact W.iret (v := r28) hx hb hr (fun t ht hW => ⟨⟨r28, (), rfl, rfl, by rw [ht]; exact hP, va_K.moved hW.alike hK, hD⟩, hS.F ht⟩) hS.2.2 dX6_gaps_25
theorem hs_X6_gaps : yX6_gaps.cls = RX6 ∧ yX6_gaps.cls ≠ "java/lang/invoke/MethodHandle" ∧ yX6_gaps.cls ≠ "java/lang/invoke/VarHandle" ∧ (parseMethodDescriptor yX6_gaps.desc).map (fun d => d.parameters.length) = some 1 := by decide +kernel
set_option maxRecDepth 20000 in
theorem in_X6_lastOf_X6 : ∀ w ∈ wsX60, w ∈ wsX6_lastOf := by decide +kernel
def f_X6_lastOf (a1 : Int32) (M_ : tM_) : Option (Int32) :=
match M_ with
| (mg, mkept, mspare, mhasKept, mwas, mwasMany, manew, mthrown, mtext, mlength, mspot, mvalue, merror, mtold, mtolds) =>
gd_ (70 + a1) 610 (
gd_ (130 + a1) 610 (
bd_ (f_X6_following (mg ((70 + a1).toNatClampNeg)) (mg ((130 + a1).toNatClampNeg)) (mg, mkept, mspare, mhasKept, mwas, mwasMany, manew, mthrown, mtext, mlength, mspot, mvalue, merror, mtold, mtolds)) (fun r3 =>
if r3 < 0 then
some (1000 - 1)
else
gd_ (130 + r3) 610 (
some ((mg ((130 + r3).toNatClampNeg)) - 1)))))
abbrev rm_X6_lastOf : Room := { frames := 2, cells := 0, slots := 0, locals := 46 }
set_option maxHeartbeats 4000000 in
set_option maxRecDepth 100000 in
theorem c_X6_lastOf (l : Launch) (dC : Nat → ClassId) (dI : Nat → Nat → Nat) (cI cZ cC cJ cD : ClassId) (m0 m_g m_kept m_spare m_was m_text m_told : Nat) (sz : Nat) (mg : Nat → Int32) (mkept : Nat → Int32) (mspare : Nat → Int32) (mhasKept : Int32) (mwas : Nat → Int32) (mwasMany : Int32) (manew : Int32) (mthrown : Int32) (mtext : Nat → Int32) (mlength : Int32) (mspot : Int32) (mvalue : Int32) (merror : Int32) (mtold : Nat → Int32) (mtolds : Int32) (a1 : Int32) (R : Int32) (hf : f_X6_lastOf a1 (mg, mkept, mspare, mhasKept, mwas, mwasMany, manew, mthrown, mtext, mlength, mspot, mvalue, merror, mtold, mtolds) = some R) : Met l yX6_lastOf wsX6_lastOf rm_X6_lastOf (Pc_ (dC, dI) (ty_ cI cZ cC cJ cD) (wM_ m0 m_g m_kept m_spare m_was m_text m_told cI mg mkept mspare mhasKept mwas mwasMany manew mthrown mtext mlength mspot mvalue merror mtold mtolds) sz [.ref m0, .int a1]) (Qi_ (dC, dI) (ty_ cI cZ cC cJ cD) R (wM_ m0 m_g m_kept m_spare m_was m_text m_told cI mg mkept mspare mhasKept mwas mwasMany manew mthrown mtext mlength mspot mvalue merror mtold mtolds) (va_A (wM_ m0 m_g m_kept m_spare m_was m_text m_told cI mg mkept mspare mhasKept mwas mwasMany manew mthrown mtext mlength mspot mvalue merror mtold mtolds) sz)) 0 0 (va_A (wM_ m0 m_g m_kept m_spare m_was m_text m_told cI mg mkept mspare mhasKept mwas mwasMany manew mthrown mtext mlength mspot mvalue merror mtold mtolds) sz) := by
  refine met_ (cc := cX6_lastOf) (maxL := 3) (ret := (some .int)) (Qcf := fun A => Qi_ (dC, dI) (ty_ cI cZ cC cJ cD) R (wM_ m0 m_g m_kept m_spare m_was m_text m_told cI mg mkept mspare mhasKept mwas mwasMany manew mthrown mtext mlength mspot mvalue merror mtold mtolds) A) (by decide) rfl (Nat.le_of_ble_eq_true rfl) ?_
  intro p e s m args below meth c A ls hx hb hr hts hown hlocks hml hA hP hK hD hl
  have hown : s.vm.findClass RX6 = some m.cls := hown
  have hl : lv_has ls 3 [(0, .ref m0), (1, .int a1)] := hl
  have hS : va_S A s.heap s.heap [] := va_S.rf
  have fl7_ : (Cond.fieldLink RX6 7 "DimensionLoaderModel" "g" "[I").before args s = true := hts _ (List.mem_of_getElem? (i := 1) rfl)
  have inX6_ : ∀ w ∈ wsX60, w ∈ wsX6_lastOf := in_X6_lastOf_X6
  unfold f_X6_lastOf at hf
  dsimp only at hf
  refine lv_aload_n hx hb dX6_lastOf_0 rfl (lv_at hl 0 rfl) ?_
  refine lv_aload_n hx hb dX6_lastOf_1 rfl (lv_at hl 0 rfl) ?_
  refine va_get (D := (dC, dI)) (ci := 8) (v := .ref m_g) (C := RX6) (T := TX6) (N := 15) hx hb hts inX6_ hown hK hP 0 rfl rfl 0 (by decide) fl7_ (fun _ h9 => h9) rfl dX6_lastOf_2 ?_
  refine lv_bipush (v := 70) hx hb dX6_lastOf_5 (by decide) ?_
  refine lv_iload_n hx hb dX6_lastOf_7 rfl (lv_at hl 1 rfl) ?_
  refine lv_iadd hx hb dX6_lastOf_8 ?_
  obtain ⟨h1, hf⟩ := gd_T hf
  refine va_iald hx hb hK hP 1 0 rfl rfl h1 dX6_lastOf_9 ?_
  refine lv_aload_n hx hb dX6_lastOf_10 rfl (lv_at hl 0 rfl) ?_
  refine va_get (D := (dC, dI)) (ci := 8) (v := .ref m_g) (C := RX6) (T := TX6) (N := 15) hx hb hts inX6_ hown hK hP 0 rfl rfl 0 (by decide) fl7_ (fun _ h9 => h9) rfl dX6_lastOf_11 ?_
  refine lv_sipush (v := 130) hx hb dX6_lastOf_14 (by decide) ?_
  refine lv_iload_n hx hb dX6_lastOf_17 rfl (lv_at hl 1 rfl) ?_
  refine lv_iadd hx hb dX6_lastOf_18 ?_
  obtain ⟨h2, hf⟩ := gd_T hf
  refine va_iald hx hb hK hP 1 0 rfl rfl h2 dX6_lastOf_19 ?_
  obtain ⟨R4, g5, hf⟩ := bd_B hf
  obtain ⟨r3, rfl⟩ : ∃ z, z = R4 := ⟨_, rfl⟩
  have hPc := hP
  have hDc := hD
  have hFc := va_free (wc := wM_ m0 m_g m_kept m_spare m_was m_text m_told cI mg mkept mspare mhasKept mwas mwasMany manew mthrown mtext mlength mspot mvalue merror mtold mtolds) hD hS hA [0, 1, 2, 3, 4, 5, 6] rfl
  refine va_calli (va_runV (As := [.int (mg ((70 + a1).toNatClampNeg)), .int (mg ((130 + a1).toNatClampNeg))]) (rest := []) ⟨hx, hb, hml, hown, hts⟩ (c_X6_following l dC dI cI cZ cC cJ cD m0 m_g m_kept m_spare m_was m_text m_told s.heap.size mg mkept mspare mhasKept mwas mwasMany manew mthrown mtext mlength mspot mvalue merror mtold mtolds (mg ((70 + a1).toNatClampNeg)) (mg ((130 + a1).toNatClampNeg)) r3 g5) (cwV 2 hts gX6_lastOf_X6_following rfl rfl rfl hs_X6_following ⟨Nat.le_of_ble_eq_true rfl, Nat.le_of_ble_eq_true rfl⟩) (preV_ (ci := 8) (q0 := 0) hPc hK hDc rfl rfl rfl rfl) rfl rfl hl.1 rfl (lv_room (Nat.le_of_ble_eq_true rfl)) dX6_lastOf_20 ⟨Nat.le_of_ble_eq_true rfl, Nat.le_of_ble_eq_true rfl⟩) hS (fun q _ h => hFc q h) hFc (fun z7 u t H6 locs ht hvm hw hB hz1 hk1 hS => ?_)
  have hw : r3 = z7 := hw.symm
  subst hw
  obtain ⟨hP, hD⟩ := aft_ (Wr := []) (Wc' := wM_ m0 m_g m_kept m_spare m_was m_text m_told cI mg mkept mspare mhasKept mwas mwasMany manew mthrown mtext mlength mspot mvalue merror mtold mtolds) (W2 := wM_ m0 m_g m_kept m_spare m_was m_text m_told cI mg mkept mspare mhasKept mwas mwasMany manew mthrown mtext mlength mspot mvalue merror mtold mtolds) hP hD [0, 1, 2, 3, 4, 5, 6] [] [0, 1, 2, 3, 4, 5, 6] rfl rfl (by decide) (by decide) (by decide) hk1 hFc hB ht rfl
  refine lv_istore_n (lv' := [(2, .int r3), (0, .ref m0), (1, .int a1)]) hx hb dX6_lastOf_23 rfl hl (by decide) rfl (fun ls hl => ?_)
  refine lv_iload_n hx hb dX6_lastOf_24 rfl (lv_at hl 0 rfl) ?_
  refine lv_if_lt (tgt := 41) hx hb dX6_lastOf_25 (by decide) (fun c8 => ?_) (fun c8 => ?_)
  · have hf := ite_T c8 hf
    refine lv_sipush (v := 1000) hx hb dX6_lastOf_41 (by decide) ?_
    refine lv_iconst (v := 1) hx hb dX6_lastOf_44 (by decide) ?_
    refine lv_isub hx hb dX6_lastOf_45 ?_
    have hR := Option.some.inj hf
    subst hR
    exact W.iret (v := 1000 - 1) hx hb hr (fun t ht hW => ⟨⟨1000 - 1, (), rfl, rfl, by rw [ht]; exact hP, va_K.moved hW.alike hK, hD⟩, hS.F ht⟩) hS.2.2 dX6_lastOf_46
  · have hf := ite_F c8 hf
    refine lv_aload_n hx hb dX6_lastOf_28 rfl (lv_at hl 1 rfl) ?_
    refine va_get (D := (dC, dI)) (ci := 8) (v := .ref m_g) (C := RX6) (T := TX6) (N := 15) hx hb hts inX6_ hown hK hP 0 rfl rfl 0 (by decide) fl7_ (fun _ h9 => h9) rfl dX6_lastOf_29 ?_
    refine lv_sipush (v := 130) hx hb dX6_lastOf_32 (by decide) ?_
    refine lv_iload_n hx hb dX6_lastOf_35 rfl (lv_at hl 0 rfl) ?_
    refine lv_iadd hx hb dX6_lastOf_36 ?_
    obtain ⟨h9, hf⟩ := gd_T hf
    refine va_iald hx hb hK hP 1 0 rfl rfl h9 dX6_lastOf_37 ?_
    refine lv_goto (tgt := 44) hx hb dX6_lastOf_38 (by decide) ?_
    refine lv_iconst (v := 1) hx hb dX6_lastOf_44 (by decide) ?_
    refine lv_isub hx hb dX6_lastOf_45 ?_
    have hR := Option.some.inj hf
    subst hR
    exact W.iret (v := (mg ((130 + r3).toNatClampNeg)) - 1) hx hb hr (fun t ht hW => ⟨⟨(mg ((130 + r3).toNatClampNeg)) - 1, (), rfl, rfl, by rw [ht]; exact hP, va_K.moved hW.alike hK, hD⟩, hS.F ht⟩) hS.2.2 dX6_lastOf_46
theorem hs_X6_lastOf : yX6_lastOf.cls = RX6 ∧ yX6_lastOf.cls ≠ "java/lang/invoke/MethodHandle" ∧ yX6_lastOf.cls ≠ "java/lang/invoke/VarHandle" ∧ (parseMethodDescriptor yX6_lastOf.desc).map (fun d => d.parameters.length) = some 1 := by decide +kernel
set_option maxRecDepth 20000 in
theorem in_X6_gapDay_X6 : ∀ w ∈ wsX60, w ∈ wsX6_gapDay := by decide +kernel
def f_X6_gapDay_S24 (k_ : Int32 → Int32 → Int32 → Int32 → Int32 → tM_ → Option (Int32 × tM_)) (l5 : Int32) (l4 : Int32) (l1 : Int32) (l2 : Int32) (l3 : Int32) (M_ : tM_) : Option (Int32 × tM_) :=
match M_ with
| (mg, mkept, mspare, mhasKept, mwas, mwasMany, manew, mthrown, mtext, mlength, mspot, mvalue, merror, mtold, mtolds) =>
bd_ (f_X6_many l1 (mg, mkept, mspare, mhasKept, mwas, mwasMany, manew, mthrown, mtext, mlength, mspot, mvalue, merror, mtold, mtolds)) (fun r9 =>
if r9 ≤ l5 then
bd_ (f_X6_fails (2 : Int32) (mg, mkept, mspare, mhasKept, mwas, mwasMany, manew, mthrown, mtext, mlength, mspot, mvalue, merror, mtold, mtolds)) (fun (r15, (mg16, mk17, ms18, mh19, mw20, mw21, ma22, mt23, mt24, ml25, ms26, mv27, me28, mt29, mt30)) =>
some (r15, (mg16, mk17, ms18, mh19, mw20, mw21, ma22, mt23, mt24, ml25, ms26, mv27, me28, mt29, mt30)))
else
if l2 < 0 then
bd_ (f_X6_fails (2 : Int32) (mg, mkept, mspare, mhasKept, mwas, mwasMany, manew, mthrown, mtext, mlength, mspot, mvalue, merror, mtold, mtolds)) (fun (r36, (mg37, mk38, ms39, mh40, mw41, mw42, ma43, mt44, mt45, ml46, ms47, mv48, me49, mt50, mt51)) =>
some (r36, (mg37, mk38, ms39, mh40, mw41, mw42, ma43, mt44, mt45, ml46, ms47, mv48, me49, mt50, mt51)))
else
bd_ (f_X6_placed l1 l5 (mg, mkept, mspare, mhasKept, mwas, mwasMany, manew, mthrown, mtext, mlength, mspot, mvalue, merror, mtold, mtolds)) (fun r56 =>
bd_ (f_X6_isOpen r56 (mg, mkept, mspare, mhasKept, mwas, mwasMany, manew, mthrown, mtext, mlength, mspot, mvalue, merror, mtold, mtolds)) (fun r61 =>
if r61 = 0 then
bd_ (f_X6_isOpen r56 (mg, mkept, mspare, mhasKept, mwas, mwasMany, manew, mthrown, mtext, mlength, mspot, mvalue, merror, mtold, mtolds)) (fun r67 =>
if r67 = 0 then
k_ (l5 + 1) (l4 - 0) l1 l2 l3 (mg, mkept, mspare, mhasKept, mwas, mwasMany, manew, mthrown, mtext, mlength, mspot, mvalue, merror, mtold, mtolds)
else
k_ (l5 + 1) (l4 - 1) l1 l2 l3 (mg, mkept, mspare, mhasKept, mwas, mwasMany, manew, mthrown, mtext, mlength, mspot, mvalue, merror, mtold, mtolds))
else
if l4 = 0 then
if l3 = 0 then
gd_ (190 + r56) 610 (
some (mg ((190 + r56).toNatClampNeg), (mg, mkept, mspare, mhasKept, mwas, mwasMany, manew, mthrown, mtext, mlength, mspot, mvalue, merror, mtold, mtolds)))
else
bd_ (f_X6_lastOf r56 (mg, mkept, mspare, mhasKept, mwas, mwasMany, manew, mthrown, mtext, mlength, mspot, mvalue, merror, mtold, mtolds)) (fun r82 =>
some (r82, (mg, mkept, mspare, mhasKept, mwas, mwasMany, manew, mthrown, mtext, mlength, mspot, mvalue, merror, mtold, mtolds)))
else
bd_ (f_X6_isOpen r56 (mg, mkept, mspare, mhasKept, mwas, mwasMany, manew, mthrown, mtext, mlength, mspot, mvalue, merror, mtold, mtolds)) (fun r74 =>
if r74 = 0 then
k_ (l5 + 1) (l4 - 0) l1 l2 l3 (mg, mkept, mspare, mhasKept, mwas, mwasMany, manew, mthrown, mtext, mlength, mspot, mvalue, merror, mtold, mtolds)
else
k_ (l5 + 1) (l4 - 1) l1 l2 l3 (mg, mkept, mspare, mhasKept, mwas, mwasMany, manew, mthrown, mtext, mlength, mspot, mvalue, merror, mtold, mtolds)))))
def f_X6_gapDay_L24 : Nat → Int32 → Int32 → Int32 → Int32 → Int32 → tM_ → Option (Int32 × tM_)
  | 0 => fun _ _ _ _ _ _ => none
  | n + 1 => fun l5 l4 l1 l2 l3 M_ => f_X6_gapDay_S24 (f_X6_gapDay_L24 n) l5 l4 l1 l2 l3 M_
def f_X6_gapDay (a1 : Int32) (a2 : Int32) (a3 : Int32) (M_ : tM_) : Option (Int32 × tM_) :=
match M_ with
| (mg, mkept, mspare, mhasKept, mwas, mwasMany, manew, mthrown, mtext, mlength, mspot, mvalue, merror, mtold, mtolds) =>
bd_ (f_X6_isKey a1) (fun r2 =>
if r2 = 0 then
bd_ (f_X6_fails (1 : Int32) (mg, mkept, mspare, mhasKept, mwas, mwasMany, manew, 0, mtext, mlength, mspot, mvalue, merror, mtold, mtolds)) (fun (r87, (mg88, mk89, ms90, mh91, mw92, mw93, ma94, mt95, mt96, ml97, ms98, mv99, me100, mt101, mt102)) =>
some (r87, (mg88, mk89, ms90, mh91, mw92, mw93, ma94, mt95, mt96, ml97, ms98, mv99, me100, mt101, mt102)))
else
f_X6_gapDay_L24 fu_ (0 : Int32) a2 a1 a2 a3 (mg, mkept, mspare, mhasKept, mwas, mwasMany, manew, 0, mtext, mlength, mspot, mvalue, merror, mtold, mtolds))
abbrev rm_X6_gapDay : Room := { frames := 3, cells := 0, slots := 0, locals := 68 }
set_option maxHeartbeats 4000000 in
set_option maxRecDepth 100000 in
theorem c_X6_gapDay (l : Launch) (dC : Nat → ClassId) (dI : Nat → Nat → Nat) (cI cZ cC cJ cD : ClassId) (m0 m_g m_kept m_spare m_was m_text m_told : Nat) (sz : Nat) (mg : Nat → Int32) (mkept : Nat → Int32) (mspare : Nat → Int32) (mhasKept : Int32) (mwas : Nat → Int32) (mwasMany : Int32) (manew : Int32) (mthrown : Int32) (mtext : Nat → Int32) (mlength : Int32) (mspot : Int32) (mvalue : Int32) (merror : Int32) (mtold : Nat → Int32) (mtolds : Int32) (a1 : Int32) (a2 : Int32) (a3 : Int32) (R : Int32 × tM_) (hf : f_X6_gapDay a1 a2 a3 (mg, mkept, mspare, mhasKept, mwas, mwasMany, manew, mthrown, mtext, mlength, mspot, mvalue, merror, mtold, mtolds) = some R) : Met l yX6_gapDay wsX6_gapDay rm_X6_gapDay (Pc_ (dC, dI) (ty_ cI cZ cC cJ cD) (wM_ m0 m_g m_kept m_spare m_was m_text m_told cI mg mkept mspare mhasKept mwas mwasMany manew mthrown mtext mlength mspot mvalue merror mtold mtolds) sz [.ref m0, .int a1, .int a2, .int a3]) (Qi_ (dC, dI) (ty_ cI cZ cC cJ cD) R.1 (wM_ m0 m_g m_kept m_spare m_was m_text m_told cI R.2.1 R.2.2.1 R.2.2.2.1 R.2.2.2.2.1 R.2.2.2.2.2.1 R.2.2.2.2.2.2.1 R.2.2.2.2.2.2.2.1 R.2.2.2.2.2.2.2.2.1 R.2.2.2.2.2.2.2.2.2.1 R.2.2.2.2.2.2.2.2.2.2.1 R.2.2.2.2.2.2.2.2.2.2.2.1 R.2.2.2.2.2.2.2.2.2.2.2.2.1 R.2.2.2.2.2.2.2.2.2.2.2.2.2.1 R.2.2.2.2.2.2.2.2.2.2.2.2.2.2.1 R.2.2.2.2.2.2.2.2.2.2.2.2.2.2.2) (va_A (wM_ m0 m_g m_kept m_spare m_was m_text m_told cI mg mkept mspare mhasKept mwas mwasMany manew mthrown mtext mlength mspot mvalue merror mtold mtolds) sz)) 0 0 (va_A (wM_ m0 m_g m_kept m_spare m_was m_text m_told cI mg mkept mspare mhasKept mwas mwasMany manew mthrown mtext mlength mspot mvalue merror mtold mtolds) sz) := by
  refine met_ (cc := cX6_gapDay) (maxL := 7) (ret := (some .int)) (Qcf := fun A => Qi_ (dC, dI) (ty_ cI cZ cC cJ cD) R.1 (wM_ m0 m_g m_kept m_spare m_was m_text m_told cI R.2.1 R.2.2.1 R.2.2.2.1 R.2.2.2.2.1 R.2.2.2.2.2.1 R.2.2.2.2.2.2.1 R.2.2.2.2.2.2.2.1 R.2.2.2.2.2.2.2.2.1 R.2.2.2.2.2.2.2.2.2.1 R.2.2.2.2.2.2.2.2.2.2.1 R.2.2.2.2.2.2.2.2.2.2.2.1 R.2.2.2.2.2.2.2.2.2.2.2.2.1 R.2.2.2.2.2.2.2.2.2.2.2.2.2.1 R.2.2.2.2.2.2.2.2.2.2.2.2.2.2.1 R.2.2.2.2.2.2.2.2.2.2.2.2.2.2.2) A) (by decide) rfl (Nat.le_of_ble_eq_true rfl) ?_
  intro p e s m args below meth c A ls hx hb hr hts hown hlocks hml hA hP hK hD hl
  have hown : s.vm.findClass RX6 = some m.cls := hown
  have hl : lv_has ls 7 [(0, .ref m0), (1, .int a1), (2, .int a2), (3, .int a3)] := hl
  have hS : va_S A s.heap s.heap [] := va_S.rf
  have fl7_ : (Cond.fieldLink RX6 7 "DimensionLoaderModel" "g" "[I").before args s = true := hts _ (List.mem_of_getElem? (i := 2) rfl)
  have fl32_ : (Cond.fieldLink RX6 32 "DimensionLoaderModel" "thrown" "I").before args s = true := hts _ (List.mem_of_getElem? (i := 1) rfl)
  have inX6_ : ∀ w ∈ wsX60, w ∈ wsX6_gapDay := in_X6_gapDay_X6
  unfold f_X6_gapDay at hf
  dsimp only at hf
  refine lv_aload_n hx hb dX6_gapDay_0 rfl (lv_at hl 0 rfl) ?_
  refine lv_iconst (v := 0) hx hb dX6_gapDay_1 (by decide) ?_
  refine va_put (D := (dC, dI)) (ci := 8) (v := .int 0) (ty := .int) (C := RX6) (T := TX6) (N := 15) hx hb hts inX6_ tyX6 tyX6_ok nmX6 hown hK hP hD hS 0 rfl rfl 7 (by decide) fl32_ (fun _ h9 => h9) rfl (by decide +kernel) (by first | rfl | decide) (by first | rfl | decide) (Nat.le_of_ble_eq_true rfl) dX6_gapDay_2 (fun H1 locs hP hD hS => ?_)
  have hP : va_P (dC, dI) vwCl (wM_ m0 m_g m_kept m_spare m_was m_text m_told cI mg mkept mspare mhasKept mwas mwasMany manew 0 mtext mlength mspot mvalue merror mtold mtolds) H1 := hP
  have hD : va_D A (wM_ m0 m_g m_kept m_spare m_was m_text m_told cI mg mkept mspare mhasKept mwas mwasMany manew 0 mtext mlength mspot mvalue merror mtold mtolds) := hD
  refine lv_iload_n hx hb dX6_gapDay_5 rfl (lv_at hl 1 rfl) ?_
  obtain ⟨R3, g4, hf⟩ := bd_B hf
  obtain ⟨r2, rfl⟩ : ∃ z, z = R3 := ⟨_, rfl⟩
  have hPc := hP.sub (ws' := []) [] rfl
  have hDc := hD.sub (ws' := []) [] (by decide) rfl
  have hFc := va_free (wc := []) hD hS hA [] rfl
  refine va_calli (va_runS (As := [.int a1]) (rest := []) ⟨hx, hb, hml, hown, hts⟩ (c_X6_isKey l dC dI cI cZ cC cJ cD H1.size a1 r2 g4) (cwS 1 hts gX6_gapDay_X6_isKey rfl rfl rfl hs_X6_isKey ⟨Nat.le_of_ble_eq_true rfl, Nat.le_of_ble_eq_true rfl⟩) (preS_ hPc hK hDc rfl) rfl rfl hl.1 rfl (lv_room (Nat.le_of_ble_eq_true rfl)) dX6_gapDay_6 ⟨Nat.le_of_ble_eq_true rfl, Nat.le_of_ble_eq_true rfl⟩) hS (fun q _ h => hFc q h) hFc (fun z6 u t H5 locs ht hvm hw hB hz1 hk1 hS => ?_)
  have hw : r2 = z6 := hw.symm
  subst hw
  obtain ⟨hP, hD⟩ := aft_ (Wr := wM_ m0 m_g m_kept m_spare m_was m_text m_told cI mg mkept mspare mhasKept mwas mwasMany manew 0 mtext mlength mspot mvalue merror mtold mtolds) (Wc' := []) (W2 := wM_ m0 m_g m_kept m_spare m_was m_text m_told cI mg mkept mspare mhasKept mwas mwasMany manew 0 mtext mlength mspot mvalue merror mtold mtolds) hP hD [] [0, 1, 2, 3, 4, 5, 6] [0, 1, 2, 3, 4, 5, 6] rfl rfl (by decide) (by decide) (by decide) hk1 hFc hB ht rfl
  refine lv_if_ne (tgt := 18) hx hb dX6_gapDay_9 (by decide) (fun c7 => ?_) (fun c7 => ?_)
  · have hf := ite_F c7 hf
    refine lv_iload_n hx hb dX6_gapDay_18 rfl (lv_at hl 2 rfl) ?_
    refine lv_istore (lv' := [(4, .int a2), (0, .ref m0), (1, .int a1), (2, .int a2), (3, .int a3)]) hx hb dX6_gapDay_19 hl (by decide) rfl (fun ls hl => ?_)
    refine lv_iconst (v := 0) hx hb dX6_gapDay_21 (by decide) ?_
    refine lv_istore (lv' := [(5, .int 0), (4, .int a2), (0, .ref m0), (1, .int a1), (2, .int a2), (3, .int a3)]) hx hb dX6_gapDay_22 hl (by decide) rfl (fun ls hl => ?_)
    have lp24 : ∀ (n : Nat) (l5 : Int32) (l4 : Int32) (l1 : Int32) (l2 : Int32) (l3 : Int32) (mg : Nat → Int32) (mkept : Nat → Int32) (mspare : Nat → Int32) (mhasKept : Int32) (mwas : Nat → Int32) (mwasMany : Int32) (manew : Int32) (mthrown : Int32) (mtext : Nat → Int32) (mlength : Int32) (mspot : Int32) (mvalue : Int32) (merror : Int32) (mtold : Nat → Int32) (mtolds : Int32) (H8 : Heap) (locs : List Loc) (ls : Array Slot), f_X6_gapDay_L24 n l5 l4 l1 l2 l3 (mg, mkept, mspare, mhasKept, mwas, mwasMany, manew, mthrown, mtext, mlength, mspot, mvalue, merror, mtold, mtolds) = some R → va_P (dC, dI) vwCl (wM_ m0 m_g m_kept m_spare m_was m_text m_told cI mg mkept mspare mhasKept mwas mwasMany manew mthrown mtext mlength mspot mvalue merror mtold mtolds) H8 → va_D A (wM_ m0 m_g m_kept m_spare m_was m_text m_told cI mg mkept mspare mhasKept mwas mwasMany manew mthrown mtext mlength mspot mvalue merror mtold mtolds) → va_S A s.heap H8 locs → lv_has ls 7 [(5, .int l5), (4, .int l4), (0, .ref m0), (1, .int l1), (2, .int l2), (3, .int l3)] → W p l e (headSpec wsX6_gapDay rm_X6_gapDay).room s m args below meth c H8 locs 0 0 (MQ below (Qi_ (dC, dI) (ty_ cI cZ cC cJ cD) R.1 (wM_ m0 m_g m_kept m_spare m_was m_text m_told cI R.2.1 R.2.2.1 R.2.2.2.1 R.2.2.2.2.1 R.2.2.2.2.2.1 R.2.2.2.2.2.2.1 R.2.2.2.2.2.2.2.1 R.2.2.2.2.2.2.2.2.1 R.2.2.2.2.2.2.2.2.2.1 R.2.2.2.2.2.2.2.2.2.2.1 R.2.2.2.2.2.2.2.2.2.2.2.1 R.2.2.2.2.2.2.2.2.2.2.2.2.1 R.2.2.2.2.2.2.2.2.2.2.2.2.2.1 R.2.2.2.2.2.2.2.2.2.2.2.2.2.2.1 R.2.2.2.2.2.2.2.2.2.2.2.2.2.2.2) A) args s 0 0 A) (F0 m 24 ls []) := by
      intro n
      induction n with
      | zero => intro l5 l4 l1 l2 l3 mg mkept mspare mhasKept mwas mwasMany manew mthrown mtext mlength mspot mvalue merror mtold mtolds H8 locs ls hf hP hD hS hl; exact absurd hf (by simp [f_X6_gapDay_L24])
      | succ n ih =>
        intro l5 l4 l1 l2 l3 mg mkept mspare mhasKept mwas mwasMany manew mthrown mtext mlength mspot mvalue merror mtold mtolds H8 locs ls hf hP hD hS hl
        have hf : f_X6_gapDay_S24 (f_X6_gapDay_L24 n) l5 l4 l1 l2 l3 (mg, mkept, mspare, mhasKept, mwas, mwasMany, manew, mthrown, mtext, mlength, mspot, mvalue, merror, mtold, mtolds) = some R := hf
        unfold f_X6_gapDay_S24 at hf
        dsimp only at hf
        refine lv_iload hx hb dX6_gapDay_24 (lv_at hl 0 rfl) ?_
        refine lv_aload_n hx hb dX6_gapDay_26 rfl (lv_at hl 2 rfl) ?_
        refine lv_iload_n hx hb dX6_gapDay_27 rfl (lv_at hl 3 rfl) ?_
        obtain ⟨R10, g11, hf⟩ := bd_B hf
        obtain ⟨r9, rfl⟩ : ∃ z, z = R10 := ⟨_, rfl⟩
        have hPc := hP
        have hDc := hD
        have hFc := va_free (wc := wM_ m0 m_g m_kept m_spare m_was m_text m_told cI mg mkept mspare mhasKept mwas mwasMany manew mthrown mtext mlength mspot mvalue merror mtold mtolds) hD hS hA [0, 1, 2, 3, 4, 5, 6] rfl
        refine va_calli (va_runV (As := [.int l1]) (rest := [.int l5]) ⟨hx, hb, hml, hown, hts⟩ (c_X6_many l dC dI cI cZ cC cJ cD m0 m_g m_kept m_spare m_was m_text m_told H8.size mg mkept mspare mhasKept mwas mwasMany manew mthrown mtext mlength mspot mvalue merror mtold mtolds l1 r9 g11) (cwV 1 hts gX6_gapDay_X6_many rfl rfl rfl hs_X6_many ⟨Nat.le_of_ble_eq_true rfl, Nat.le_of_ble_eq_true rfl⟩) (preV_ (ci := 8) (q0 := 0) hPc hK hDc rfl rfl rfl rfl) rfl rfl hl.1 rfl (lv_room (Nat.le_of_ble_eq_true rfl)) dX6_gapDay_28 ⟨Nat.le_of_ble_eq_true rfl, Nat.le_of_ble_eq_true rfl⟩) hS (fun q _ h => hFc q h) hFc (fun z13 u t H12 locs ht hvm hw hB hz1 hk1 hS => ?_)
        have hw : r9 = z13 := hw.symm
        subst hw
        obtain ⟨hP, hD⟩ := aft_ (Wr := []) (Wc' := wM_ m0 m_g m_kept m_spare m_was m_text m_told cI mg mkept mspare mhasKept mwas mwasMany manew mthrown mtext mlength mspot mvalue merror mtold mtolds) (W2 := wM_ m0 m_g m_kept m_spare m_was m_text m_told cI mg mkept mspare mhasKept mwas mwasMany manew mthrown mtext mlength mspot mvalue merror mtold mtolds) hP hD [0, 1, 2, 3, 4, 5, 6] [] [0, 1, 2, 3, 4, 5, 6] rfl rfl (by decide) (by decide) (by decide) hk1 hFc hB ht rfl
        refine lv_icmp_ge (tgt := 111) hx hb dX6_gapDay_31 (by decide) (fun c14 => ?_) (fun c14 => ?_)
        · have hf := ite_T c14 hf
          refine lv_aload_n hx hb dX6_gapDay_111 rfl (lv_at hl 2 rfl) ?_
          refine lv_iconst (v := 2) hx hb dX6_gapDay_112 (by decide) ?_
          obtain ⟨R31, g32, hf⟩ := bd_B hf
          obtain ⟨r15, ⟨mg16, mk17, ms18, mh19, mw20, mw21, ma22, mt23, mt24, ml25, ms26, mv27, me28, mt29, mt30⟩⟩ := R31
          dsimp only at hf
          have hPc := hP
          have hDc := hD
          have hFc := va_free (wc := wM_ m0 m_g m_kept m_spare m_was m_text m_told cI mg mkept mspare mhasKept mwas mwasMany manew mthrown mtext mlength mspot mvalue merror mtold mtolds) hD hS hA [0, 1, 2, 3, 4, 5, 6] rfl
          refine va_calli (va_runV (As := [.int 2]) (rest := []) ⟨hx, hb, hml, hown, hts⟩ (c_X6_fails l dC dI cI cZ cC cJ cD m0 m_g m_kept m_spare m_was m_text m_told H12.size mg mkept mspare mhasKept mwas mwasMany manew mthrown mtext mlength mspot mvalue merror mtold mtolds (2 : Int32) (r15, (mg16, mk17, ms18, mh19, mw20, mw21, ma22, mt23, mt24, ml25, ms26, mv27, me28, mt29, mt30)) g32) (cwV 1 hts gX6_gapDay_X6_fails rfl rfl rfl hs_X6_fails ⟨Nat.le_of_ble_eq_true rfl, Nat.le_of_ble_eq_true rfl⟩) (preV_ (ci := 8) (q0 := 0) hPc hK hDc rfl rfl rfl rfl) rfl rfl hl.1 rfl (lv_room (Nat.le_of_ble_eq_true rfl)) dX6_gapDay_113 ⟨Nat.le_of_ble_eq_true rfl, Nat.le_of_ble_eq_true rfl⟩) hS (fun q _ h => hFc q h) hFc (fun z34 u t H33 locs ht hvm hw hB hz1 hk1 hS => ?_)
          have hw : r15 = z34 := hw.symm
          subst hw
          obtain ⟨hP, hD⟩ := aft_ (Wr := []) (Wc' := wM_ m0 m_g m_kept m_spare m_was m_text m_told cI mg16 mk17 ms18 mh19 mw20 mw21 ma22 mt23 mt24 ml25 ms26 mv27 me28 mt29 mt30) (W2 := wM_ m0 m_g m_kept m_spare m_was m_text m_told cI mg16 mk17 ms18 mh19 mw20 mw21 ma22 mt23 mt24 ml25 ms26 mv27 me28 mt29 mt30) hP hD [0, 1, 2, 3, 4, 5, 6] [] [0, 1, 2, 3, 4, 5, 6] rfl rfl (by decide) (by decide) (by decide) hk1 hFc hB ht rfl
          have hR := Option.some.inj hf
          subst hR
          exact W.iret (v := r15) hx hb hr (fun t ht hW => ⟨⟨r15, (), rfl, rfl, by rw [ht]; exact hP, va_K.moved hW.alike hK, hD⟩, hS.F ht⟩) hS.2.2 dX6_gapDay_116
        · have hf := ite_F c14 hf
          refine lv_iload_n hx hb dX6_gapDay_34 rfl (lv_at hl 4 rfl) ?_
          refine lv_if_lt (tgt := 111) hx hb dX6_gapDay_35 (by decide) (fun c35 => ?_) (fun c35 => ?_)
          · have hf := ite_T c35 hf
            refine lv_aload_n hx hb dX6_gapDay_111 rfl (lv_at hl 2 rfl) ?_
            refine lv_iconst (v := 2) hx hb dX6_gapDay_112 (by decide) ?_
            obtain ⟨R52, g53, hf⟩ := bd_B hf
            obtain ⟨r36, ⟨mg37, mk38, ms39, mh40, mw41, mw42, ma43, mt44, mt45, ml46, ms47, mv48, me49, mt50, mt51⟩⟩ := R52
            dsimp only at hf
            have hPc := hP
            have hDc := hD
            have hFc := va_free (wc := wM_ m0 m_g m_kept m_spare m_was m_text m_told cI mg mkept mspare mhasKept mwas mwasMany manew mthrown mtext mlength mspot mvalue merror mtold mtolds) hD hS hA [0, 1, 2, 3, 4, 5, 6] rfl
            refine va_calli (va_runV (As := [.int 2]) (rest := []) ⟨hx, hb, hml, hown, hts⟩ (c_X6_fails l dC dI cI cZ cC cJ cD m0 m_g m_kept m_spare m_was m_text m_told H12.size mg mkept mspare mhasKept mwas mwasMany manew mthrown mtext mlength mspot mvalue merror mtold mtolds (2 : Int32) (r36, (mg37, mk38, ms39, mh40, mw41, mw42, ma43, mt44, mt45, ml46, ms47, mv48, me49, mt50, mt51)) g53) (cwV 1 hts gX6_gapDay_X6_fails rfl rfl rfl hs_X6_fails ⟨Nat.le_of_ble_eq_true rfl, Nat.le_of_ble_eq_true rfl⟩) (preV_ (ci := 8) (q0 := 0) hPc hK hDc rfl rfl rfl rfl) rfl rfl hl.1 rfl (lv_room (Nat.le_of_ble_eq_true rfl)) dX6_gapDay_113 ⟨Nat.le_of_ble_eq_true rfl, Nat.le_of_ble_eq_true rfl⟩) hS (fun q _ h => hFc q h) hFc (fun z55 u t H54 locs ht hvm hw hB hz1 hk1 hS => ?_)
            have hw : r36 = z55 := hw.symm
            subst hw
            obtain ⟨hP, hD⟩ := aft_ (Wr := []) (Wc' := wM_ m0 m_g m_kept m_spare m_was m_text m_told cI mg37 mk38 ms39 mh40 mw41 mw42 ma43 mt44 mt45 ml46 ms47 mv48 me49 mt50 mt51) (W2 := wM_ m0 m_g m_kept m_spare m_was m_text m_told cI mg37 mk38 ms39 mh40 mw41 mw42 ma43 mt44 mt45 ml46 ms47 mv48 me49 mt50 mt51) hP hD [0, 1, 2, 3, 4, 5, 6] [] [0, 1, 2, 3, 4, 5, 6] rfl rfl (by decide) (by decide) (by decide) hk1 hFc hB ht rfl
            have hR := Option.some.inj hf
            subst hR
            exact W.iret (v := r36) hx hb hr (fun t ht hW => ⟨⟨r36, (), rfl, rfl, by rw [ht]; exact hP, va_K.moved hW.alike hK, hD⟩, hS.F ht⟩) hS.2.2 dX6_gapDay_116
          · have hf := ite_F c35 hf
            refine lv_aload_n hx hb dX6_gapDay_38 rfl (lv_at hl 2 rfl) ?_
            refine lv_iload_n hx hb dX6_gapDay_39 rfl (lv_at hl 3 rfl) ?_
            refine lv_iload hx hb dX6_gapDay_40 (lv_at hl 0 rfl) ?_
            obtain ⟨R57, g58, hf⟩ := bd_B hf
            obtain ⟨r56, rfl⟩ : ∃ z, z = R57 := ⟨_, rfl⟩
            have hPc := hP
            have hDc := hD
            have hFc := va_free (wc := wM_ m0 m_g m_kept m_spare m_was m_text m_told cI mg mkept mspare mhasKept mwas mwasMany manew mthrown mtext mlength mspot mvalue merror mtold mtolds) hD hS hA [0, 1, 2, 3, 4, 5, 6] rfl
            refine va_calli (va_runV (As := [.int l1, .int l5]) (rest := []) ⟨hx, hb, hml, hown, hts⟩ (c_X6_placed l dC dI cI cZ cC cJ cD m0 m_g m_kept m_spare m_was m_text m_told H12.size mg mkept mspare mhasKept mwas mwasMany manew mthrown mtext mlength mspot mvalue merror mtold mtolds l1 l5 r56 g58) (cwV 2 hts gX6_gapDay_X6_placed rfl rfl rfl hs_X6_placed ⟨Nat.le_of_ble_eq_true rfl, Nat.le_of_ble_eq_true rfl⟩) (preV_ (ci := 8) (q0 := 0) hPc hK hDc rfl rfl rfl rfl) rfl rfl hl.1 rfl (lv_room (Nat.le_of_ble_eq_true rfl)) dX6_gapDay_42 ⟨Nat.le_of_ble_eq_true rfl, Nat.le_of_ble_eq_true rfl⟩) hS (fun q _ h => hFc q h) hFc (fun z60 u t H59 locs ht hvm hw hB hz1 hk1 hS => ?_)
            have hw : r56 = z60 := hw.symm
            subst hw
            obtain ⟨hP, hD⟩ := aft_ (Wr := []) (Wc' := wM_ m0 m_g m_kept m_spare m_was m_text m_told cI mg mkept mspare mhasKept mwas mwasMany manew mthrown mtext mlength mspot mvalue merror mtold mtolds) (W2 := wM_ m0 m_g m_kept m_spare m_was m_text m_told cI mg mkept mspare mhasKept mwas mwasMany manew mthrown mtext mlength mspot mvalue merror mtold mtolds) hP hD [0, 1, 2, 3, 4, 5, 6] [] [0, 1, 2, 3, 4, 5, 6] rfl rfl (by decide) (by decide) (by decide) hk1 hFc hB ht rfl
            refine lv_istore (lv' := [(6, .int r56), (5, .int l5), (4, .int l4), (0, .ref m0), (1, .int l1), (2, .int l2), (3, .int l3)]) hx hb dX6_gapDay_45 hl (by decide) rfl (fun ls hl => ?_)
            refine lv_aload_n hx hb dX6_gapDay_47 rfl (lv_at hl 3 rfl) ?_
            refine lv_iload hx hb dX6_gapDay_48 (lv_at hl 0 rfl) ?_
            obtain ⟨R62, g63, hf⟩ := bd_B hf
            obtain ⟨r61, rfl⟩ : ∃ z, z = R62 := ⟨_, rfl⟩
            have hPc := hP
            have hDc := hD
            have hFc := va_free (wc := wM_ m0 m_g m_kept m_spare m_was m_text m_told cI mg mkept mspare mhasKept mwas mwasMany manew mthrown mtext mlength mspot mvalue merror mtold mtolds) hD hS hA [0, 1, 2, 3, 4, 5, 6] rfl
            refine va_calli (va_runV (As := [.int r56]) (rest := []) ⟨hx, hb, hml, hown, hts⟩ (c_X6_isOpen l dC dI cI cZ cC cJ cD m0 m_g m_kept m_spare m_was m_text m_told H59.size mg mkept mspare mhasKept mwas mwasMany manew mthrown mtext mlength mspot mvalue merror mtold mtolds r56 r61 g63) (cwV 1 hts gX6_gapDay_X6_isOpen rfl rfl rfl hs_X6_isOpen ⟨Nat.le_of_ble_eq_true rfl, Nat.le_of_ble_eq_true rfl⟩) (preV_ (ci := 8) (q0 := 0) hPc hK hDc rfl rfl rfl rfl) rfl rfl hl.1 rfl (lv_room (Nat.le_of_ble_eq_true rfl)) dX6_gapDay_50 ⟨Nat.le_of_ble_eq_true rfl, Nat.le_of_ble_eq_true rfl⟩) hS (fun q _ h => hFc q h) hFc (fun z65 u t H64 locs ht hvm hw hB hz1 hk1 hS => ?_)
            have hw : r61 = z65 := hw.symm
            subst hw
            obtain ⟨hP, hD⟩ := aft_ (Wr := []) (Wc' := wM_ m0 m_g m_kept m_spare m_was m_text m_told cI mg mkept mspare mhasKept mwas mwasMany manew mthrown mtext mlength mspot mvalue merror mtold mtolds) (W2 := wM_ m0 m_g m_kept m_spare m_was m_text m_told cI mg mkept mspare mhasKept mwas mwasMany manew mthrown mtext mlength mspot mvalue merror mtold mtolds) hP hD [0, 1, 2, 3, 4, 5, 6] [] [0, 1, 2, 3, 4, 5, 6] rfl rfl (by decide) (by decide) (by decide) hk1 hFc hB ht rfl
            refine lv_if_eq (tgt := 86) hx hb dX6_gapDay_53 (by decide) (fun c66 => ?_) (fun c66 => ?_)
            · have hf := ite_T c66 hf
              refine lv_iload hx hb dX6_gapDay_86 (lv_at hl 2 rfl) ?_
              refine lv_aload_n hx hb dX6_gapDay_88 rfl (lv_at hl 3 rfl) ?_
              refine lv_iload hx hb dX6_gapDay_89 (lv_at hl 0 rfl) ?_
              obtain ⟨R68, g69, hf⟩ := bd_B hf
              obtain ⟨r67, rfl⟩ : ∃ z, z = R68 := ⟨_, rfl⟩
              have hPc := hP
              have hDc := hD
              have hFc := va_free (wc := wM_ m0 m_g m_kept m_spare m_was m_text m_told cI mg mkept mspare mhasKept mwas mwasMany manew mthrown mtext mlength mspot mvalue merror mtold mtolds) hD hS hA [0, 1, 2, 3, 4, 5, 6] rfl
              refine va_calli (va_runV (As := [.int r56]) (rest := [.int l4]) ⟨hx, hb, hml, hown, hts⟩ (c_X6_isOpen l dC dI cI cZ cC cJ cD m0 m_g m_kept m_spare m_was m_text m_told H64.size mg mkept mspare mhasKept mwas mwasMany manew mthrown mtext mlength mspot mvalue merror mtold mtolds r56 r67 g69) (cwV 1 hts gX6_gapDay_X6_isOpen rfl rfl rfl hs_X6_isOpen ⟨Nat.le_of_ble_eq_true rfl, Nat.le_of_ble_eq_true rfl⟩) (preV_ (ci := 8) (q0 := 0) hPc hK hDc rfl rfl rfl rfl) rfl rfl hl.1 rfl (lv_room (Nat.le_of_ble_eq_true rfl)) dX6_gapDay_91 ⟨Nat.le_of_ble_eq_true rfl, Nat.le_of_ble_eq_true rfl⟩) hS (fun q _ h => hFc q h) hFc (fun z71 u t H70 locs ht hvm hw hB hz1 hk1 hS => ?_)
              have hw : r67 = z71 := hw.symm
              subst hw
              obtain ⟨hP, hD⟩ := aft_ (Wr := []) (Wc' := wM_ m0 m_g m_kept m_spare m_was m_text m_told cI mg mkept mspare mhasKept mwas mwasMany manew mthrown mtext mlength mspot mvalue merror mtold mtolds) (W2 := wM_ m0 m_g m_kept m_spare m_was m_text m_told cI mg mkept mspare mhasKept mwas mwasMany manew mthrown mtext mlength mspot mvalue merror mtold mtolds) hP hD [0, 1, 2, 3, 4, 5, 6] [] [0, 1, 2, 3, 4, 5, 6] rfl rfl (by decide) (by decide) (by decide) hk1 hFc hB ht rfl
              refine lv_if_eq (tgt := 101) hx hb dX6_gapDay_94 (by decide) (fun c72 => ?_) (fun c72 => ?_)
              · have hf := ite_T c72 hf
                refine lv_iconst (v := 0) hx hb dX6_gapDay_101 (by decide) ?_
                refine lv_isub hx hb dX6_gapDay_102 ?_
                refine lv_istore (lv' := [(4, .int (l4 - 0)), (6, .int r56), (5, .int l5), (0, .ref m0), (1, .int l1), (2, .int l2), (3, .int l3)]) hx hb dX6_gapDay_103 hl (by decide) rfl (fun ls hl => ?_)
                refine lv_iinc (v := l5 + 1) (lv' := [(5, .int (l5 + 1)), (4, .int (l4 - 0)), (6, .int r56), (0, .ref m0), (1, .int l1), (2, .int l2), (3, .int l3)]) hx hb dX6_gapDay_105 hl (k := 2) rfl (by first | rfl | decide) (by decide) rfl (fun ls hl => ?_)
                refine lv_goto (tgt := 24) hx hb dX6_gapDay_108 (by decide) ?_
                exact ih (l5 + 1) (l4 - 0) l1 l2 l3 mg mkept mspare mhasKept mwas mwasMany manew mthrown mtext mlength mspot mvalue merror mtold mtolds _ _ _ hf hP hD hS (lv_sub hl [0, 1, 3, 4, 5, 6] rfl)
              · have hf := ite_F c72 hf
                refine lv_iconst (v := 1) hx hb dX6_gapDay_97 (by decide) ?_
                refine lv_goto (tgt := 102) hx hb dX6_gapDay_98 (by decide) ?_
                refine lv_isub hx hb dX6_gapDay_102 ?_
                refine lv_istore (lv' := [(4, .int (l4 - 1)), (6, .int r56), (5, .int l5), (0, .ref m0), (1, .int l1), (2, .int l2), (3, .int l3)]) hx hb dX6_gapDay_103 hl (by decide) rfl (fun ls hl => ?_)
                refine lv_iinc (v := l5 + 1) (lv' := [(5, .int (l5 + 1)), (4, .int (l4 - 1)), (6, .int r56), (0, .ref m0), (1, .int l1), (2, .int l2), (3, .int l3)]) hx hb dX6_gapDay_105 hl (k := 2) rfl (by first | rfl | decide) (by decide) rfl (fun ls hl => ?_)
                refine lv_goto (tgt := 24) hx hb dX6_gapDay_108 (by decide) ?_
                exact ih (l5 + 1) (l4 - 1) l1 l2 l3 mg mkept mspare mhasKept mwas mwasMany manew mthrown mtext mlength mspot mvalue merror mtold mtolds _ _ _ hf hP hD hS (lv_sub hl [0, 1, 3, 4, 5, 6] rfl)
            · have hf := ite_F c66 hf
              refine lv_iload hx hb dX6_gapDay_56 (lv_at hl 2 rfl) ?_
              refine lv_if_ne (tgt := 86) hx hb dX6_gapDay_58 (by decide) (fun c73 => ?_) (fun c73 => ?_)
              · have hf := ite_F c73 hf
                refine lv_iload hx hb dX6_gapDay_86 (lv_at hl 2 rfl) ?_
                refine lv_aload_n hx hb dX6_gapDay_88 rfl (lv_at hl 3 rfl) ?_
                refine lv_iload hx hb dX6_gapDay_89 (lv_at hl 0 rfl) ?_
                obtain ⟨R75, g76, hf⟩ := bd_B hf
                obtain ⟨r74, rfl⟩ : ∃ z, z = R75 := ⟨_, rfl⟩
                have hPc := hP
                have hDc := hD
                have hFc := va_free (wc := wM_ m0 m_g m_kept m_spare m_was m_text m_told cI mg mkept mspare mhasKept mwas mwasMany manew mthrown mtext mlength mspot mvalue merror mtold mtolds) hD hS hA [0, 1, 2, 3, 4, 5, 6] rfl
                refine va_calli (va_runV (As := [.int r56]) (rest := [.int l4]) ⟨hx, hb, hml, hown, hts⟩ (c_X6_isOpen l dC dI cI cZ cC cJ cD m0 m_g m_kept m_spare m_was m_text m_told H64.size mg mkept mspare mhasKept mwas mwasMany manew mthrown mtext mlength mspot mvalue merror mtold mtolds r56 r74 g76) (cwV 1 hts gX6_gapDay_X6_isOpen rfl rfl rfl hs_X6_isOpen ⟨Nat.le_of_ble_eq_true rfl, Nat.le_of_ble_eq_true rfl⟩) (preV_ (ci := 8) (q0 := 0) hPc hK hDc rfl rfl rfl rfl) rfl rfl hl.1 rfl (lv_room (Nat.le_of_ble_eq_true rfl)) dX6_gapDay_91 ⟨Nat.le_of_ble_eq_true rfl, Nat.le_of_ble_eq_true rfl⟩) hS (fun q _ h => hFc q h) hFc (fun z78 u t H77 locs ht hvm hw hB hz1 hk1 hS => ?_)
                have hw : r74 = z78 := hw.symm
                subst hw
                obtain ⟨hP, hD⟩ := aft_ (Wr := []) (Wc' := wM_ m0 m_g m_kept m_spare m_was m_text m_told cI mg mkept mspare mhasKept mwas mwasMany manew mthrown mtext mlength mspot mvalue merror mtold mtolds) (W2 := wM_ m0 m_g m_kept m_spare m_was m_text m_told cI mg mkept mspare mhasKept mwas mwasMany manew mthrown mtext mlength mspot mvalue merror mtold mtolds) hP hD [0, 1, 2, 3, 4, 5, 6] [] [0, 1, 2, 3, 4, 5, 6] rfl rfl (by decide) (by decide) (by decide) hk1 hFc hB ht rfl
                refine lv_if_eq (tgt := 101) hx hb dX6_gapDay_94 (by decide) (fun c79 => ?_) (fun c79 => ?_)
                · have hf := ite_T c79 hf
                  refine lv_iconst (v := 0) hx hb dX6_gapDay_101 (by decide) ?_
                  refine lv_isub hx hb dX6_gapDay_102 ?_
                  refine lv_istore (lv' := [(4, .int (l4 - 0)), (6, .int r56), (5, .int l5), (0, .ref m0), (1, .int l1), (2, .int l2), (3, .int l3)]) hx hb dX6_gapDay_103 hl (by decide) rfl (fun ls hl => ?_)
                  refine lv_iinc (v := l5 + 1) (lv' := [(5, .int (l5 + 1)), (4, .int (l4 - 0)), (6, .int r56), (0, .ref m0), (1, .int l1), (2, .int l2), (3, .int l3)]) hx hb dX6_gapDay_105 hl (k := 2) rfl (by first | rfl | decide) (by decide) rfl (fun ls hl => ?_)
                  refine lv_goto (tgt := 24) hx hb dX6_gapDay_108 (by decide) ?_
                  exact ih (l5 + 1) (l4 - 0) l1 l2 l3 mg mkept mspare mhasKept mwas mwasMany manew mthrown mtext mlength mspot mvalue merror mtold mtolds _ _ _ hf hP hD hS (lv_sub hl [0, 1, 3, 4, 5, 6] rfl)
                · have hf := ite_F c79 hf
                  refine lv_iconst (v := 1) hx hb dX6_gapDay_97 (by decide) ?_
                  refine lv_goto (tgt := 102) hx hb dX6_gapDay_98 (by decide) ?_
                  refine lv_isub hx hb dX6_gapDay_102 ?_
                  refine lv_istore (lv' := [(4, .int (l4 - 1)), (6, .int r56), (5, .int l5), (0, .ref m0), (1, .int l1), (2, .int l2), (3, .int l3)]) hx hb dX6_gapDay_103 hl (by decide) rfl (fun ls hl => ?_)
                  refine lv_iinc (v := l5 + 1) (lv' := [(5, .int (l5 + 1)), (4, .int (l4 - 1)), (6, .int r56), (0, .ref m0), (1, .int l1), (2, .int l2), (3, .int l3)]) hx hb dX6_gapDay_105 hl (k := 2) rfl (by first | rfl | decide) (by decide) rfl (fun ls hl => ?_)
                  refine lv_goto (tgt := 24) hx hb dX6_gapDay_108 (by decide) ?_
                  exact ih (l5 + 1) (l4 - 1) l1 l2 l3 mg mkept mspare mhasKept mwas mwasMany manew mthrown mtext mlength mspot mvalue merror mtold mtolds _ _ _ hf hP hD hS (lv_sub hl [0, 1, 3, 4, 5, 6] rfl)
              · have hf := ite_T c73 hf
                refine lv_iload_n hx hb dX6_gapDay_61 rfl (lv_at hl 6 rfl) ?_
                refine lv_if_eq (tgt := 74) hx hb dX6_gapDay_62 (by decide) (fun c80 => ?_) (fun c80 => ?_)
                · have hf := ite_T c80 hf
                  refine lv_aload_n hx hb dX6_gapDay_74 rfl (lv_at hl 3 rfl) ?_
                  refine va_get (D := (dC, dI)) (ci := 8) (v := .ref m_g) (C := RX6) (T := TX6) (N := 15) hx hb hts inX6_ hown hK hP 0 rfl rfl 0 (by decide) fl7_ (fun _ h9 => h9) rfl dX6_gapDay_75 ?_
                  refine lv_sipush (v := 190) hx hb dX6_gapDay_78 (by decide) ?_
                  refine lv_iload hx hb dX6_gapDay_81 (lv_at hl 0 rfl) ?_
                  refine lv_iadd hx hb dX6_gapDay_83 ?_
                  obtain ⟨h81, hf⟩ := gd_T hf
                  refine va_iald hx hb hK hP 1 0 rfl rfl h81 dX6_gapDay_84 ?_
                  have hR := Option.some.inj hf
                  subst hR
                  exact W.iret (v := mg ((190 + r56).toNatClampNeg)) hx hb hr (fun t ht hW => ⟨⟨mg ((190 + r56).toNatClampNeg), (), rfl, rfl, by rw [ht]; exact hP, va_K.moved hW.alike hK, hD⟩, hS.F ht⟩) hS.2.2 dX6_gapDay_85
                · have hf := ite_F c80 hf
                  refine lv_aload_n hx hb dX6_gapDay_65 rfl (lv_at hl 3 rfl) ?_
                  refine lv_iload hx hb dX6_gapDay_66 (lv_at hl 0 rfl) ?_
                  obtain ⟨R83, g84, hf⟩ := bd_B hf
                  obtain ⟨r82, rfl⟩ : ∃ z, z = R83 := ⟨_, rfl⟩
                  have hPc := hP
                  have hDc := hD
                  have hFc := va_free (wc := wM_ m0 m_g m_kept m_spare m_was m_text m_told cI mg mkept mspare mhasKept mwas mwasMany manew mthrown mtext mlength mspot mvalue merror mtold mtolds) hD hS hA [0, 1, 2, 3, 4, 5, 6] rfl
                  refine va_calli (va_runV (As := [.int r56]) (rest := []) ⟨hx, hb, hml, hown, hts⟩ (c_X6_lastOf l dC dI cI cZ cC cJ cD m0 m_g m_kept m_spare m_was m_text m_told H64.size mg mkept mspare mhasKept mwas mwasMany manew mthrown mtext mlength mspot mvalue merror mtold mtolds r56 r82 g84) (cwV 1 hts gX6_gapDay_X6_lastOf rfl rfl rfl hs_X6_lastOf ⟨Nat.le_of_ble_eq_true rfl, Nat.le_of_ble_eq_true rfl⟩) (preV_ (ci := 8) (q0 := 0) hPc hK hDc rfl rfl rfl rfl) rfl rfl hl.1 rfl (lv_room (Nat.le_of_ble_eq_true rfl)) dX6_gapDay_68 ⟨Nat.le_of_ble_eq_true rfl, Nat.le_of_ble_eq_true rfl⟩) hS (fun q _ h => hFc q h) hFc (fun z86 u t H85 locs ht hvm hw hB hz1 hk1 hS => ?_)
                  have hw : r82 = z86 := hw.symm
                  subst hw
                  obtain ⟨hP, hD⟩ := aft_ (Wr := []) (Wc' := wM_ m0 m_g m_kept m_spare m_was m_text m_told cI mg mkept mspare mhasKept mwas mwasMany manew mthrown mtext mlength mspot mvalue merror mtold mtolds) (W2 := wM_ m0 m_g m_kept m_spare m_was m_text m_told cI mg mkept mspare mhasKept mwas mwasMany manew mthrown mtext mlength mspot mvalue merror mtold mtolds) hP hD [0, 1, 2, 3, 4, 5, 6] [] [0, 1, 2, 3, 4, 5, 6] rfl rfl (by decide) (by decide) (by decide) hk1 hFc hB ht rfl
                  refine lv_goto (tgt := 85) hx hb dX6_gapDay_71 (by decide) ?_
                  have hR := Option.some.inj hf
                  subst hR
                  exact W.iret (v := r82) hx hb hr (fun t ht hW => ⟨⟨r82, (), rfl, rfl, by rw [ht]; exact hP, va_K.moved hW.alike hK, hD⟩, hS.F ht⟩) hS.2.2 dX6_gapDay_85
    exact lp24 fu_ (0 : Int32) a2 a1 a2 a3 mg mkept mspare mhasKept mwas mwasMany manew (0 : Int32) mtext mlength mspot mvalue merror mtold mtolds _ _ _ hf hP hD hS hl
  · have hf := ite_T c7 hf
    refine lv_aload_n hx hb dX6_gapDay_12 rfl (lv_at hl 0 rfl) ?_
    refine lv_iconst (v := 1) hx hb dX6_gapDay_13 (by decide) ?_
    obtain ⟨R103, g104, hf⟩ := bd_B hf
    obtain ⟨r87, ⟨mg88, mk89, ms90, mh91, mw92, mw93, ma94, mt95, mt96, ml97, ms98, mv99, me100, mt101, mt102⟩⟩ := R103
    dsimp only at hf
    have hPc := hP
    have hDc := hD
    have hFc := va_free (wc := wM_ m0 m_g m_kept m_spare m_was m_text m_told cI mg mkept mspare mhasKept mwas mwasMany manew 0 mtext mlength mspot mvalue merror mtold mtolds) hD hS hA [0, 1, 2, 3, 4, 5, 6] rfl
    refine va_calli (va_runV (As := [.int 1]) (rest := []) ⟨hx, hb, hml, hown, hts⟩ (c_X6_fails l dC dI cI cZ cC cJ cD m0 m_g m_kept m_spare m_was m_text m_told H5.size mg mkept mspare mhasKept mwas mwasMany manew (0 : Int32) mtext mlength mspot mvalue merror mtold mtolds (1 : Int32) (r87, (mg88, mk89, ms90, mh91, mw92, mw93, ma94, mt95, mt96, ml97, ms98, mv99, me100, mt101, mt102)) g104) (cwV 1 hts gX6_gapDay_X6_fails rfl rfl rfl hs_X6_fails ⟨Nat.le_of_ble_eq_true rfl, Nat.le_of_ble_eq_true rfl⟩) (preV_ (ci := 8) (q0 := 0) hPc hK hDc rfl rfl rfl rfl) rfl rfl hl.1 rfl (lv_room (Nat.le_of_ble_eq_true rfl)) dX6_gapDay_14 ⟨Nat.le_of_ble_eq_true rfl, Nat.le_of_ble_eq_true rfl⟩) hS (fun q _ h => hFc q h) hFc (fun z106 u t H105 locs ht hvm hw hB hz1 hk1 hS => ?_)
    have hw : r87 = z106 := hw.symm
    subst hw
    obtain ⟨hP, hD⟩ := aft_ (Wr := []) (Wc' := wM_ m0 m_g m_kept m_spare m_was m_text m_told cI mg88 mk89 ms90 mh91 mw92 mw93 ma94 mt95 mt96 ml97 ms98 mv99 me100 mt101 mt102) (W2 := wM_ m0 m_g m_kept m_spare m_was m_text m_told cI mg88 mk89 ms90 mh91 mw92 mw93 ma94 mt95 mt96 ml97 ms98 mv99 me100 mt101 mt102) hP hD [0, 1, 2, 3, 4, 5, 6] [] [0, 1, 2, 3, 4, 5, 6] rfl rfl (by decide) (by decide) (by decide) hk1 hFc hB ht rfl
    have hR := Option.some.inj hf
    subst hR
    exact W.iret (v := r87) hx hb hr (fun t ht hW => ⟨⟨r87, (), rfl, rfl, by rw [ht]; exact hP, va_K.moved hW.alike hK, hD⟩, hS.F ht⟩) hS.2.2 dX6_gapDay_17
theorem hs_X6_gapDay : yX6_gapDay.cls = RX6 ∧ yX6_gapDay.cls ≠ "java/lang/invoke/MethodHandle" ∧ yX6_gapDay.cls ≠ "java/lang/invoke/VarHandle" ∧ (parseMethodDescriptor yX6_gapDay.desc).map (fun d => d.parameters.length) = some 3 := by decide +kernel
set_option maxRecDepth 20000 in
theorem in_X6_gapDays_X6 : ∀ w ∈ wsX60, w ∈ wsX6_gapDays := by decide +kernel
def f_X6_gapDays_S9 (k_ : Int32 → Int32 → tM_ → Option (Int32 × tM_)) (l2 : Int32) (l1 : Int32) (M_ : tM_) : Option (Int32 × tM_) :=
match M_ with
| (mg, mkept, mspare, mhasKept, mwas, mwasMany, manew, mthrown, mtext, mlength, mspot, mvalue, merror, mtold, mtolds) =>
gd_ (0 : Int32) 610 (
if (mg ((0 : Int32).toNatClampNeg)) ≤ l2 then
some (l1, (mg, mkept, mspare, mhasKept, mwas, mwasMany, manew, mthrown, mtext, mlength, mspot, mvalue, merror, mtold, mtolds))
else
gd_ (10 + l2) 610 (
if (mg ((10 + l2).toNatClampNeg)) = 1 then
bd_ (f_X6_lastOf l2 (mg, mkept, mspare, mhasKept, mwas, mwasMany, manew, mthrown, mtext, mlength, mspot, mvalue, merror, mtold, mtolds)) (fun r7 =>
gd_ (190 + l2) 610 (
k_ (l2 + 1) (l1 + ((r7 + 1) - (mg ((190 + l2).toNatClampNeg)))) (mg, mkept, mspare, mhasKept, mwas, mwasMany, manew, mthrown, mtext, mlength, mspot, mvalue, merror, mtold, mtolds)))
else
k_ (l2 + 1) (l1 + 0) (mg, mkept, mspare, mhasKept, mwas, mwasMany, manew, mthrown, mtext, mlength, mspot, mvalue, merror, mtold, mtolds)))
def f_X6_gapDays_L9 : Nat → Int32 → Int32 → tM_ → Option (Int32 × tM_)
  | 0 => fun _ _ _ => none
  | n + 1 => fun l2 l1 M_ => f_X6_gapDays_S9 (f_X6_gapDays_L9 n) l2 l1 M_
def f_X6_gapDays  (M_ : tM_) : Option (Int32 × tM_) :=
match M_ with
| (mg, mkept, mspare, mhasKept, mwas, mwasMany, manew, mthrown, mtext, mlength, mspot, mvalue, merror, mtold, mtolds) =>
f_X6_gapDays_L9 fu_ (0 : Int32) (0 : Int32) (mg, mkept, mspare, mhasKept, mwas, mwasMany, manew, 0, mtext, mlength, mspot, mvalue, merror, mtold, mtolds)
abbrev rm_X6_gapDays : Room := { frames := 3, cells := 0, slots := 0, locals := 68 }
set_option maxHeartbeats 4000000 in
set_option maxRecDepth 100000 in
theorem c_X6_gapDays (l : Launch) (dC : Nat → ClassId) (dI : Nat → Nat → Nat) (cI cZ cC cJ cD : ClassId) (m0 m_g m_kept m_spare m_was m_text m_told : Nat) (sz : Nat) (mg : Nat → Int32) (mkept : Nat → Int32) (mspare : Nat → Int32) (mhasKept : Int32) (mwas : Nat → Int32) (mwasMany : Int32) (manew : Int32) (mthrown : Int32) (mtext : Nat → Int32) (mlength : Int32) (mspot : Int32) (mvalue : Int32) (merror : Int32) (mtold : Nat → Int32) (mtolds : Int32)  (R : Int32 × tM_) (hf : f_X6_gapDays  (mg, mkept, mspare, mhasKept, mwas, mwasMany, manew, mthrown, mtext, mlength, mspot, mvalue, merror, mtold, mtolds) = some R) : Met l yX6_gapDays wsX6_gapDays rm_X6_gapDays (Pc_ (dC, dI) (ty_ cI cZ cC cJ cD) (wM_ m0 m_g m_kept m_spare m_was m_text m_told cI mg mkept mspare mhasKept mwas mwasMany manew mthrown mtext mlength mspot mvalue merror mtold mtolds) sz [.ref m0]) (Qi_ (dC, dI) (ty_ cI cZ cC cJ cD) R.1 (wM_ m0 m_g m_kept m_spare m_was m_text m_told cI R.2.1 R.2.2.1 R.2.2.2.1 R.2.2.2.2.1 R.2.2.2.2.2.1 R.2.2.2.2.2.2.1 R.2.2.2.2.2.2.2.1 R.2.2.2.2.2.2.2.2.1 R.2.2.2.2.2.2.2.2.2.1 R.2.2.2.2.2.2.2.2.2.2.1 R.2.2.2.2.2.2.2.2.2.2.2.1 R.2.2.2.2.2.2.2.2.2.2.2.2.1 R.2.2.2.2.2.2.2.2.2.2.2.2.2.1 R.2.2.2.2.2.2.2.2.2.2.2.2.2.2.1 R.2.2.2.2.2.2.2.2.2.2.2.2.2.2.2) (va_A (wM_ m0 m_g m_kept m_spare m_was m_text m_told cI mg mkept mspare mhasKept mwas mwasMany manew mthrown mtext mlength mspot mvalue merror mtold mtolds) sz)) 0 0 (va_A (wM_ m0 m_g m_kept m_spare m_was m_text m_told cI mg mkept mspare mhasKept mwas mwasMany manew mthrown mtext mlength mspot mvalue merror mtold mtolds) sz) := by
  refine met_ (cc := cX6_gapDays) (maxL := 3) (ret := (some .int)) (Qcf := fun A => Qi_ (dC, dI) (ty_ cI cZ cC cJ cD) R.1 (wM_ m0 m_g m_kept m_spare m_was m_text m_told cI R.2.1 R.2.2.1 R.2.2.2.1 R.2.2.2.2.1 R.2.2.2.2.2.1 R.2.2.2.2.2.2.1 R.2.2.2.2.2.2.2.1 R.2.2.2.2.2.2.2.2.1 R.2.2.2.2.2.2.2.2.2.1 R.2.2.2.2.2.2.2.2.2.2.1 R.2.2.2.2.2.2.2.2.2.2.2.1 R.2.2.2.2.2.2.2.2.2.2.2.2.1 R.2.2.2.2.2.2.2.2.2.2.2.2.2.1 R.2.2.2.2.2.2.2.2.2.2.2.2.2.2.1 R.2.2.2.2.2.2.2.2.2.2.2.2.2.2.2) A) (by decide) rfl (Nat.le_of_ble_eq_true rfl) ?_
  intro p e s m args below meth c A ls hx hb hr hts hown hlocks hml hA hP hK hD hl
  have hown : s.vm.findClass RX6 = some m.cls := hown
  have hl : lv_has ls 3 [(0, .ref m0)] := hl
  have hS : va_S A s.heap s.heap [] := va_S.rf
  have fl7_ : (Cond.fieldLink RX6 7 "DimensionLoaderModel" "g" "[I").before args s = true := hts _ (List.mem_of_getElem? (i := 2) rfl)
  have fl32_ : (Cond.fieldLink RX6 32 "DimensionLoaderModel" "thrown" "I").before args s = true := hts _ (List.mem_of_getElem? (i := 1) rfl)
  have inX6_ : ∀ w ∈ wsX60, w ∈ wsX6_gapDays := in_X6_gapDays_X6
  unfold f_X6_gapDays at hf
  dsimp only at hf
  refine lv_aload_n hx hb dX6_gapDays_0 rfl (lv_at hl 0 rfl) ?_
  refine lv_iconst (v := 0) hx hb dX6_gapDays_1 (by decide) ?_
  refine va_put (D := (dC, dI)) (ci := 8) (v := .int 0) (ty := .int) (C := RX6) (T := TX6) (N := 15) hx hb hts inX6_ tyX6 tyX6_ok nmX6 hown hK hP hD hS 0 rfl rfl 7 (by decide) fl32_ (fun _ h9 => h9) rfl (by decide +kernel) (by first | rfl | decide) (by first | rfl | decide) (Nat.le_of_ble_eq_true rfl) dX6_gapDays_2 (fun H1 locs hP hD hS => ?_)
  have hP : va_P (dC, dI) vwCl (wM_ m0 m_g m_kept m_spare m_was m_text m_told cI mg mkept mspare mhasKept mwas mwasMany manew 0 mtext mlength mspot mvalue merror mtold mtolds) H1 := hP
  have hD : va_D A (wM_ m0 m_g m_kept m_spare m_was m_text m_told cI mg mkept mspare mhasKept mwas mwasMany manew 0 mtext mlength mspot mvalue merror mtold mtolds) := hD
  refine lv_iconst (v := 0) hx hb dX6_gapDays_5 (by decide) ?_
  refine lv_istore_n (lv' := [(1, .int 0), (0, .ref m0)]) hx hb dX6_gapDays_6 rfl hl (by decide) rfl (fun ls hl => ?_)
  refine lv_iconst (v := 0) hx hb dX6_gapDays_7 (by decide) ?_
  refine lv_istore_n (lv' := [(2, .int 0), (1, .int 0), (0, .ref m0)]) hx hb dX6_gapDays_8 rfl hl (by decide) rfl (fun ls hl => ?_)
  have lp9 : ∀ (n : Nat) (l2 : Int32) (l1 : Int32) (mg : Nat → Int32) (mkept : Nat → Int32) (mspare : Nat → Int32) (mhasKept : Int32) (mwas : Nat → Int32) (mwasMany : Int32) (manew : Int32) (mthrown : Int32) (mtext : Nat → Int32) (mlength : Int32) (mspot : Int32) (mvalue : Int32) (merror : Int32) (mtold : Nat → Int32) (mtolds : Int32) (H2 : Heap) (locs : List Loc) (ls : Array Slot), f_X6_gapDays_L9 n l2 l1 (mg, mkept, mspare, mhasKept, mwas, mwasMany, manew, mthrown, mtext, mlength, mspot, mvalue, merror, mtold, mtolds) = some R → va_P (dC, dI) vwCl (wM_ m0 m_g m_kept m_spare m_was m_text m_told cI mg mkept mspare mhasKept mwas mwasMany manew mthrown mtext mlength mspot mvalue merror mtold mtolds) H2 → va_D A (wM_ m0 m_g m_kept m_spare m_was m_text m_told cI mg mkept mspare mhasKept mwas mwasMany manew mthrown mtext mlength mspot mvalue merror mtold mtolds) → va_S A s.heap H2 locs → lv_has ls 3 [(2, .int l2), (1, .int l1), (0, .ref m0)] → W p l e (headSpec wsX6_gapDays rm_X6_gapDays).room s m args below meth c H2 locs 0 0 (MQ below (Qi_ (dC, dI) (ty_ cI cZ cC cJ cD) R.1 (wM_ m0 m_g m_kept m_spare m_was m_text m_told cI R.2.1 R.2.2.1 R.2.2.2.1 R.2.2.2.2.1 R.2.2.2.2.2.1 R.2.2.2.2.2.2.1 R.2.2.2.2.2.2.2.1 R.2.2.2.2.2.2.2.2.1 R.2.2.2.2.2.2.2.2.2.1 R.2.2.2.2.2.2.2.2.2.2.1 R.2.2.2.2.2.2.2.2.2.2.2.1 R.2.2.2.2.2.2.2.2.2.2.2.2.1 R.2.2.2.2.2.2.2.2.2.2.2.2.2.1 R.2.2.2.2.2.2.2.2.2.2.2.2.2.2.1 R.2.2.2.2.2.2.2.2.2.2.2.2.2.2.2) A) args s 0 0 A) (F0 m 9 ls []) := by
    intro n
    induction n with
    | zero => intro l2 l1 mg mkept mspare mhasKept mwas mwasMany manew mthrown mtext mlength mspot mvalue merror mtold mtolds H2 locs ls hf hP hD hS hl; exact absurd hf (by simp [f_X6_gapDays_L9])
    | succ n ih =>
      intro l2 l1 mg mkept mspare mhasKept mwas mwasMany manew mthrown mtext mlength mspot mvalue merror mtold mtolds H2 locs ls hf hP hD hS hl
      have hf : f_X6_gapDays_S9 (f_X6_gapDays_L9 n) l2 l1 (mg, mkept, mspare, mhasKept, mwas, mwasMany, manew, mthrown, mtext, mlength, mspot, mvalue, merror, mtold, mtolds) = some R := hf
      unfold f_X6_gapDays_S9 at hf
      dsimp only at hf
      refine lv_iload_n hx hb dX6_gapDays_9 rfl (lv_at hl 0 rfl) ?_
      refine lv_aload_n hx hb dX6_gapDays_10 rfl (lv_at hl 2 rfl) ?_
      refine va_get (D := (dC, dI)) (ci := 8) (v := .ref m_g) (C := RX6) (T := TX6) (N := 15) hx hb hts inX6_ hown hK hP 0 rfl rfl 0 (by decide) fl7_ (fun _ h9 => h9) rfl dX6_gapDays_11 ?_
      refine lv_iconst (v := 0) hx hb dX6_gapDays_14 (by decide) ?_
      obtain ⟨h3, hf⟩ := gd_T hf
      refine va_iald hx hb hK hP 1 0 rfl rfl h3 dX6_gapDays_15 ?_
      refine lv_icmp_ge (tgt := 63) hx hb dX6_gapDays_16 (by decide) (fun c4 => ?_) (fun c4 => ?_)
      · have hf := ite_T c4 hf
        refine lv_iload_n hx hb dX6_gapDays_63 rfl (lv_at hl 1 rfl) ?_
        have hR := Option.some.inj hf
        subst hR
        exact W.iret (v := l1) hx hb hr (fun t ht hW => ⟨⟨l1, (), rfl, rfl, by rw [ht]; exact hP, va_K.moved hW.alike hK, hD⟩, hS.F ht⟩) hS.2.2 dX6_gapDays_64
      · have hf := ite_F c4 hf
        refine lv_iload_n hx hb dX6_gapDays_19 rfl (lv_at hl 1 rfl) ?_
        refine lv_aload_n hx hb dX6_gapDays_20 rfl (lv_at hl 2 rfl) ?_
        refine va_get (D := (dC, dI)) (ci := 8) (v := .ref m_g) (C := RX6) (T := TX6) (N := 15) hx hb hts inX6_ hown hK hP 0 rfl rfl 0 (by decide) fl7_ (fun _ h9 => h9) rfl dX6_gapDays_21 ?_
        refine lv_bipush (v := 10) hx hb dX6_gapDays_24 (by decide) ?_
        refine lv_iload_n hx hb dX6_gapDays_26 rfl (lv_at hl 0 rfl) ?_
        refine lv_iadd hx hb dX6_gapDays_27 ?_
        obtain ⟨h5, hf⟩ := gd_T hf
        refine va_iald hx hb hK hP 1 0 rfl rfl h5 dX6_gapDays_28 ?_
        refine lv_iconst (v := 1) hx hb dX6_gapDays_29 (by decide) ?_
        refine lv_icmp_ne (tgt := 54) hx hb dX6_gapDays_30 (by decide) (fun c6 => ?_) (fun c6 => ?_)
        · have hf := ite_F c6 hf
          refine lv_iconst (v := 0) hx hb dX6_gapDays_54 (by decide) ?_
          refine lv_iadd hx hb dX6_gapDays_55 ?_
          refine lv_istore_n (lv' := [(1, .int (l1 + 0)), (2, .int l2), (0, .ref m0)]) hx hb dX6_gapDays_56 rfl hl (by decide) rfl (fun ls hl => ?_)
          refine lv_iinc (v := l2 + 1) (lv' := [(2, .int (l2 + 1)), (1, .int (l1 + 0)), (0, .ref m0)]) hx hb dX6_gapDays_57 hl (k := 1) rfl (by first | rfl | decide) (by decide) rfl (fun ls hl => ?_)
          refine lv_goto (tgt := 9) hx hb dX6_gapDays_60 (by decide) ?_
          exact ih (l2 + 1) (l1 + 0) mg mkept mspare mhasKept mwas mwasMany manew mthrown mtext mlength mspot mvalue merror mtold mtolds _ _ _ hf hP hD hS (lv_sub hl [0, 1, 2] rfl)
        · have hf := ite_T c6 hf
          refine lv_aload_n hx hb dX6_gapDays_33 rfl (lv_at hl 2 rfl) ?_
          refine lv_iload_n hx hb dX6_gapDays_34 rfl (lv_at hl 0 rfl) ?_
          obtain ⟨R8, g9, hf⟩ := bd_B hf
          obtain ⟨r7, rfl⟩ : ∃ z, z = R8 := ⟨_, rfl⟩
          have hPc := hP
          have hDc := hD
          have hFc := va_free (wc := wM_ m0 m_g m_kept m_spare m_was m_text m_told cI mg mkept mspare mhasKept mwas mwasMany manew mthrown mtext mlength mspot mvalue merror mtold mtolds) hD hS hA [0, 1, 2, 3, 4, 5, 6] rfl
          refine va_calli (va_runV (As := [.int l2]) (rest := [.int l1]) ⟨hx, hb, hml, hown, hts⟩ (c_X6_lastOf l dC dI cI cZ cC cJ cD m0 m_g m_kept m_spare m_was m_text m_told H2.size mg mkept mspare mhasKept mwas mwasMany manew mthrown mtext mlength mspot mvalue merror mtold mtolds l2 r7 g9) (cwV 1 hts gX6_gapDays_X6_lastOf rfl rfl rfl hs_X6_lastOf ⟨Nat.le_of_ble_eq_true rfl, Nat.le_of_ble_eq_true rfl⟩) (preV_ (ci := 8) (q0 := 0) hPc hK hDc rfl rfl rfl rfl) rfl rfl hl.1 rfl (lv_room (Nat.le_of_ble_eq_true rfl)) dX6_gapDays_35 ⟨Nat.le_of_ble_eq_true rfl, Nat.le_of_ble_eq_true rfl⟩) hS (fun q _ h => hFc q h) hFc (fun z11 u t H10 locs ht hvm hw hB hz1 hk1 hS => ?_)
          have hw : r7 = z11 := hw.symm
          subst hw
          obtain ⟨hP, hD⟩ := aft_ (Wr := []) (Wc' := wM_ m0 m_g m_kept m_spare m_was m_text m_told cI mg mkept mspare mhasKept mwas mwasMany manew mthrown mtext mlength mspot mvalue merror mtold mtolds) (W2 := wM_ m0 m_g m_kept m_spare m_was m_text m_told cI mg mkept mspare mhasKept mwas mwasMany manew mthrown mtext mlength mspot mvalue merror mtold mtolds) hP hD [0, 1, 2, 3, 4, 5, 6] [] [0, 1, 2, 3, 4, 5, 6] rfl rfl (by decide) (by decide) (by decide) hk1 hFc hB ht rfl
          refine lv_iconst (v := 1) hx hb dX6_gapDays_38 (by decide) ?_
          refine lv_iadd hx hb dX6_gapDays_39 ?_
          refine lv_aload_n hx hb dX6_gapDays_40 rfl (lv_at hl 2 rfl) ?_
          refine va_get (D := (dC, dI)) (ci := 8) (v := .ref m_g) (C := RX6) (T := TX6) (N := 15) hx hb hts inX6_ hown hK hP 0 rfl rfl 0 (by decide) fl7_ (fun _ h9 => h9) rfl dX6_gapDays_41 ?_
          refine lv_sipush (v := 190) hx hb dX6_gapDays_44 (by decide) ?_
          refine lv_iload_n hx hb dX6_gapDays_47 rfl (lv_at hl 0 rfl) ?_
          refine lv_iadd hx hb dX6_gapDays_48 ?_
          obtain ⟨h12, hf⟩ := gd_T hf
          refine va_iald hx hb hK hP 1 0 rfl rfl h12 dX6_gapDays_49 ?_
          refine lv_isub hx hb dX6_gapDays_50 ?_
          refine lv_goto (tgt := 55) hx hb dX6_gapDays_51 (by decide) ?_
          refine lv_iadd hx hb dX6_gapDays_55 ?_
          refine lv_istore_n (lv' := [(1, .int (l1 + ((r7 + 1) - (mg ((190 + l2).toNatClampNeg))))), (2, .int l2), (0, .ref m0)]) hx hb dX6_gapDays_56 rfl hl (by decide) rfl (fun ls hl => ?_)
          refine lv_iinc (v := l2 + 1) (lv' := [(2, .int (l2 + 1)), (1, .int (l1 + ((r7 + 1) - (mg ((190 + l2).toNatClampNeg))))), (0, .ref m0)]) hx hb dX6_gapDays_57 hl (k := 1) rfl (by first | rfl | decide) (by decide) rfl (fun ls hl => ?_)
          refine lv_goto (tgt := 9) hx hb dX6_gapDays_60 (by decide) ?_
          exact ih (l2 + 1) (l1 + ((r7 + 1) - (mg ((190 + l2).toNatClampNeg)))) mg mkept mspare mhasKept mwas mwasMany manew mthrown mtext mlength mspot mvalue merror mtold mtolds _ _ _ hf hP hD hS (lv_sub hl [0, 1, 2] rfl)
  exact lp9 fu_ (0 : Int32) (0 : Int32) mg mkept mspare mhasKept mwas mwasMany manew (0 : Int32) mtext mlength mspot mvalue merror mtold mtolds _ _ _ hf hP hD hS hl
theorem hs_X6_gapDays : yX6_gapDays.cls = RX6 ∧ yX6_gapDays.cls ≠ "java/lang/invoke/MethodHandle" ∧ yX6_gapDays.cls ≠ "java/lang/invoke/VarHandle" ∧ (parseMethodDescriptor yX6_gapDays.desc).map (fun d => d.parameters.length) = some 0 := by decide +kernel
set_option maxRecDepth 20000 in
theorem in_X6_coverage_X6 : ∀ w ∈ wsX60, w ∈ wsX6_coverage := by decide +kernel
def f_X6_coverage_S41 (k_ : Int32 → Int32 → Int32 → tM_ → Option (UInt64 × tM_)) (l3 : Int32) (l2 : Int32) (l1 : Int32) (M_ : tM_) : Option (UInt64 × tM_) :=
match M_ with
| (mg, mkept, mspare, mhasKept, mwas, mwasMany, manew, mthrown, mtext, mlength, mspot, mvalue, merror, mtold, mtolds) =>
gd_ (0 : Int32) 610 (
if (mg ((0 : Int32).toNatClampNeg)) ≤ l3 then
bd_ (f_X6_placed l1 (0 : Int32) (mg, mkept, mspare, mhasKept, mwas, mwasMany, manew, mthrown, mtext, mlength, mspot, mvalue, merror, mtold, mtolds)) (fun r18 =>
gd_ (130 + r18) 610 (
gN_ (FP.i2d l2) (FP.i2d (1000 - (mg ((130 + r18).toNatClampNeg)))) (
some (FP.ddiv (FP.i2d l2) (FP.i2d (1000 - (mg ((130 + r18).toNatClampNeg)))), (mg, mkept, mspare, mhasKept, mwas, mwasMany, manew, mthrown, mtext, mlength, mspot, mvalue, merror, mtold, mtolds)))))
else
bd_ (f_X6_isOf l3 l1 (mg, mkept, mspare, mhasKept, mwas, mwasMany, manew, mthrown, mtext, mlength, mspot, mvalue, merror, mtold, mtolds)) (fun r25 =>
if r25 = 0 then
k_ (l3 + 1) (l2 + 0) l1 (mg, mkept, mspare, mhasKept, mwas, mwasMany, manew, mthrown, mtext, mlength, mspot, mvalue, merror, mtold, mtolds)
else
gd_ (190 + l3) 610 (
gd_ (130 + l3) 610 (
k_ (l3 + 1) (l2 + ((mg ((190 + l3).toNatClampNeg)) - (mg ((130 + l3).toNatClampNeg)))) l1 (mg, mkept, mspare, mhasKept, mwas, mwasMany, manew, mthrown, mtext, mlength, mspot, mvalue, merror, mtold, mtolds)))))
def f_X6_coverage_L41 : Nat → Int32 → Int32 → Int32 → tM_ → Option (UInt64 × tM_)
  | 0 => fun _ _ _ _ => none
  | n + 1 => fun l3 l2 l1 M_ => f_X6_coverage_S41 (f_X6_coverage_L41 n) l3 l2 l1 M_
def f_X6_coverage (a1 : Int32) (M_ : tM_) : Option (UInt64 × tM_) :=
match M_ with
| (mg, mkept, mspare, mhasKept, mwas, mwasMany, manew, mthrown, mtext, mlength, mspot, mvalue, merror, mtold, mtolds) =>
bd_ (f_X6_isKey a1) (fun r1 =>
if r1 = 0 then
some (FP.dconst0, (mg, mkept, mspare, mhasKept, mwas, mwasMany, manew, 1, mtext, mlength, mspot, mvalue, merror, mtold, mtolds))
else
bd_ (f_X6_many a1 (mg, mkept, mspare, mhasKept, mwas, mwasMany, manew, mthrown, mtext, mlength, mspot, mvalue, merror, mtold, mtolds)) (fun r8 =>
if r8 = 0 then
some (FP.dconst0, (mg, mkept, mspare, mhasKept, mwas, mwasMany, manew, 2, mtext, mlength, mspot, mvalue, merror, mtold, mtolds))
else
f_X6_coverage_L41 fu_ (0 : Int32) (0 : Int32) a1 (mg, mkept, mspare, mhasKept, mwas, mwasMany, manew, 0, mtext, mlength, mspot, mvalue, merror, mtold, mtolds)))
abbrev rm_X6_coverage : Room := { frames := 3, cells := 0, slots := 0, locals := 68 }
set_option maxHeartbeats 4000000 in
set_option maxRecDepth 100000 in
theorem c_X6_coverage (l : Launch) (dC : Nat → ClassId) (dI : Nat → Nat → Nat) (cI cZ cC cJ cD : ClassId) (m0 m_g m_kept m_spare m_was m_text m_told : Nat) (sz : Nat) (mg : Nat → Int32) (mkept : Nat → Int32) (mspare : Nat → Int32) (mhasKept : Int32) (mwas : Nat → Int32) (mwasMany : Int32) (manew : Int32) (mthrown : Int32) (mtext : Nat → Int32) (mlength : Int32) (mspot : Int32) (mvalue : Int32) (merror : Int32) (mtold : Nat → Int32) (mtolds : Int32) (a1 : Int32) (R : UInt64 × tM_) (hf : f_X6_coverage a1 (mg, mkept, mspare, mhasKept, mwas, mwasMany, manew, mthrown, mtext, mlength, mspot, mvalue, merror, mtold, mtolds) = some R) : Met l yX6_coverage wsX6_coverage rm_X6_coverage (Pc_ (dC, dI) (ty_ cI cZ cC cJ cD) (wM_ m0 m_g m_kept m_spare m_was m_text m_told cI mg mkept mspare mhasKept mwas mwasMany manew mthrown mtext mlength mspot mvalue merror mtold mtolds) sz [.ref m0, .int a1]) (Qd_ (dC, dI) (ty_ cI cZ cC cJ cD) R.1 (wM_ m0 m_g m_kept m_spare m_was m_text m_told cI R.2.1 R.2.2.1 R.2.2.2.1 R.2.2.2.2.1 R.2.2.2.2.2.1 R.2.2.2.2.2.2.1 R.2.2.2.2.2.2.2.1 R.2.2.2.2.2.2.2.2.1 R.2.2.2.2.2.2.2.2.2.1 R.2.2.2.2.2.2.2.2.2.2.1 R.2.2.2.2.2.2.2.2.2.2.2.1 R.2.2.2.2.2.2.2.2.2.2.2.2.1 R.2.2.2.2.2.2.2.2.2.2.2.2.2.1 R.2.2.2.2.2.2.2.2.2.2.2.2.2.2.1 R.2.2.2.2.2.2.2.2.2.2.2.2.2.2.2) (va_A (wM_ m0 m_g m_kept m_spare m_was m_text m_told cI mg mkept mspare mhasKept mwas mwasMany manew mthrown mtext mlength mspot mvalue merror mtold mtolds) sz)) 0 0 (va_A (wM_ m0 m_g m_kept m_spare m_was m_text m_told cI mg mkept mspare mhasKept mwas mwasMany manew mthrown mtext mlength mspot mvalue merror mtold mtolds) sz) := by
  refine met_ (cc := cX6_coverage) (maxL := 4) (ret := (some .double)) (Qcf := fun A => Qd_ (dC, dI) (ty_ cI cZ cC cJ cD) R.1 (wM_ m0 m_g m_kept m_spare m_was m_text m_told cI R.2.1 R.2.2.1 R.2.2.2.1 R.2.2.2.2.1 R.2.2.2.2.2.1 R.2.2.2.2.2.2.1 R.2.2.2.2.2.2.2.1 R.2.2.2.2.2.2.2.2.1 R.2.2.2.2.2.2.2.2.2.1 R.2.2.2.2.2.2.2.2.2.2.1 R.2.2.2.2.2.2.2.2.2.2.2.1 R.2.2.2.2.2.2.2.2.2.2.2.2.1 R.2.2.2.2.2.2.2.2.2.2.2.2.2.1 R.2.2.2.2.2.2.2.2.2.2.2.2.2.2.1 R.2.2.2.2.2.2.2.2.2.2.2.2.2.2.2) A) (by decide) rfl (Nat.le_of_ble_eq_true rfl) ?_
  intro p e s m args below meth c A ls hx hb hr hts hown hlocks hml hA hP hK hD hl
  have hown : s.vm.findClass RX6 = some m.cls := hown
  have hl : lv_has ls 4 [(0, .ref m0), (1, .int a1)] := hl
  have hS : va_S A s.heap s.heap [] := va_S.rf
  have fl7_ : (Cond.fieldLink RX6 7 "DimensionLoaderModel" "g" "[I").before args s = true := hts _ (List.mem_of_getElem? (i := 2) rfl)
  have fl32_ : (Cond.fieldLink RX6 32 "DimensionLoaderModel" "thrown" "I").before args s = true := hts _ (List.mem_of_getElem? (i := 1) rfl)
  have inX6_ : ∀ w ∈ wsX60, w ∈ wsX6_coverage := in_X6_coverage_X6
  unfold f_X6_coverage at hf
  dsimp only at hf
  refine lv_aload_n hx hb dX6_coverage_0 rfl (lv_at hl 0 rfl) ?_
  refine lv_iload_n hx hb dX6_coverage_1 rfl (lv_at hl 1 rfl) ?_
  obtain ⟨R2, g3, hf⟩ := bd_B hf
  obtain ⟨r1, rfl⟩ : ∃ z, z = R2 := ⟨_, rfl⟩
  have hPc := hP.sub (ws' := []) [] rfl
  have hDc := hD.sub (ws' := []) [] (by decide) rfl
  have hFc := va_free (wc := []) hD hS hA [] rfl
  refine va_calli (va_runS (As := [.int a1]) (rest := [.ref m0]) ⟨hx, hb, hml, hown, hts⟩ (c_X6_isKey l dC dI cI cZ cC cJ cD s.heap.size a1 r1 g3) (cwS 1 hts gX6_coverage_X6_isKey rfl rfl rfl hs_X6_isKey ⟨Nat.le_of_ble_eq_true rfl, Nat.le_of_ble_eq_true rfl⟩) (preS_ hPc hK hDc rfl) rfl rfl hl.1 rfl (lv_room (Nat.le_of_ble_eq_true rfl)) dX6_coverage_2 ⟨Nat.le_of_ble_eq_true rfl, Nat.le_of_ble_eq_true rfl⟩) hS (fun q _ h => hFc q h) hFc (fun z5 u t H4 locs ht hvm hw hB hz1 hk1 hS => ?_)
  have hw : r1 = z5 := hw.symm
  subst hw
  obtain ⟨hP, hD⟩ := aft_ (Wr := wM_ m0 m_g m_kept m_spare m_was m_text m_told cI mg mkept mspare mhasKept mwas mwasMany manew mthrown mtext mlength mspot mvalue merror mtold mtolds) (Wc' := []) (W2 := wM_ m0 m_g m_kept m_spare m_was m_text m_told cI mg mkept mspare mhasKept mwas mwasMany manew mthrown mtext mlength mspot mvalue merror mtold mtolds) hP hD [] [0, 1, 2, 3, 4, 5, 6] [0, 1, 2, 3, 4, 5, 6] rfl rfl (by decide) (by decide) (by decide) hk1 hFc hB ht rfl
  refine lv_if_eq (tgt := 24) hx hb dX6_coverage_5 (by decide) (fun c6 => ?_) (fun c6 => ?_)
  · have hf := ite_T c6 hf
    refine lv_iconst (v := 1) hx hb dX6_coverage_24 (by decide) ?_
    refine va_put (D := (dC, dI)) (ci := 8) (v := .int 1) (ty := .int) (C := RX6) (T := TX6) (N := 15) hx hb hts inX6_ tyX6 tyX6_ok nmX6 hown hK hP hD hS 0 rfl rfl 7 (by decide) fl32_ (fun _ h9 => h9) rfl (by decide +kernel) (by first | rfl | decide) (by first | rfl | decide) (Nat.le_of_ble_eq_true rfl) dX6_coverage_25 (fun H7 locs hP hD hS => ?_)
    have hP : va_P (dC, dI) vwCl (wM_ m0 m_g m_kept m_spare m_was m_text m_told cI mg mkept mspare mhasKept mwas mwasMany manew 1 mtext mlength mspot mvalue merror mtold mtolds) H7 := hP
    have hD : va_D A (wM_ m0 m_g m_kept m_spare m_was m_text m_told cI mg mkept mspare mhasKept mwas mwasMany manew 1 mtext mlength mspot mvalue merror mtold mtolds) := hD
    refine lv_aload_n hx hb dX6_coverage_28 rfl (lv_at hl 0 rfl) ?_
    refine va_get (D := (dC, dI)) (ci := 8) (v := .int 1) (C := RX6) (T := TX6) (N := 15) hx hb hts inX6_ hown hK hP 0 rfl rfl 7 (by decide) fl32_ (fun _ h9 => h9) rfl dX6_coverage_29 ?_
    refine lv_if_le (tgt := 37) hx hb dX6_coverage_32 (by decide) (fun c9 => absurd c9 (by decide)) (fun _ => ?_)
    refine lv_dconst0 hx hb dX6_coverage_35 ?_
    have hR := Option.some.inj hf
    subst hR
    exact W.dret (v := FP.dconst0) hx hb hr (fun t ht hW => ⟨⟨FP.dconst0, (), rfl, rfl, by rw [ht]; exact hP, va_K.moved hW.alike hK, hD⟩, hS.F ht⟩) hS.2.2 dX6_coverage_36
  · have hf := ite_F c6 hf
    refine lv_aload_n hx hb dX6_coverage_8 rfl (lv_at hl 0 rfl) ?_
    refine lv_iload_n hx hb dX6_coverage_9 rfl (lv_at hl 1 rfl) ?_
    obtain ⟨R9, g10, hf⟩ := bd_B hf
    obtain ⟨r8, rfl⟩ : ∃ z, z = R9 := ⟨_, rfl⟩
    have hPc := hP
    have hDc := hD
    have hFc := va_free (wc := wM_ m0 m_g m_kept m_spare m_was m_text m_told cI mg mkept mspare mhasKept mwas mwasMany manew mthrown mtext mlength mspot mvalue merror mtold mtolds) hD hS hA [0, 1, 2, 3, 4, 5, 6] rfl
    refine va_calli (va_runV (As := [.int a1]) (rest := [.ref m0]) ⟨hx, hb, hml, hown, hts⟩ (c_X6_many l dC dI cI cZ cC cJ cD m0 m_g m_kept m_spare m_was m_text m_told H4.size mg mkept mspare mhasKept mwas mwasMany manew mthrown mtext mlength mspot mvalue merror mtold mtolds a1 r8 g10) (cwV 1 hts gX6_coverage_X6_many rfl rfl rfl hs_X6_many ⟨Nat.le_of_ble_eq_true rfl, Nat.le_of_ble_eq_true rfl⟩) (preV_ (ci := 8) (q0 := 0) hPc hK hDc rfl rfl rfl rfl) rfl rfl hl.1 rfl (lv_room (Nat.le_of_ble_eq_true rfl)) dX6_coverage_10 ⟨Nat.le_of_ble_eq_true rfl, Nat.le_of_ble_eq_true rfl⟩) hS (fun q _ h => hFc q h) hFc (fun z12 u t H11 locs ht hvm hw hB hz1 hk1 hS => ?_)
    have hw : r8 = z12 := hw.symm
    subst hw
    obtain ⟨hP, hD⟩ := aft_ (Wr := []) (Wc' := wM_ m0 m_g m_kept m_spare m_was m_text m_told cI mg mkept mspare mhasKept mwas mwasMany manew mthrown mtext mlength mspot mvalue merror mtold mtolds) (W2 := wM_ m0 m_g m_kept m_spare m_was m_text m_told cI mg mkept mspare mhasKept mwas mwasMany manew mthrown mtext mlength mspot mvalue merror mtold mtolds) hP hD [0, 1, 2, 3, 4, 5, 6] [] [0, 1, 2, 3, 4, 5, 6] rfl rfl (by decide) (by decide) (by decide) hk1 hFc hB ht rfl
    refine lv_if_ne (tgt := 20) hx hb dX6_coverage_13 (by decide) (fun c13 => ?_) (fun c13 => ?_)
    · have hf := ite_F c13 hf
      refine lv_iconst (v := 0) hx hb dX6_coverage_20 (by decide) ?_
      refine lv_goto (tgt := 25) hx hb dX6_coverage_21 (by decide) ?_
      refine va_put (D := (dC, dI)) (ci := 8) (v := .int 0) (ty := .int) (C := RX6) (T := TX6) (N := 15) hx hb hts inX6_ tyX6 tyX6_ok nmX6 hown hK hP hD hS 0 rfl rfl 7 (by decide) fl32_ (fun _ h9 => h9) rfl (by decide +kernel) (by first | rfl | decide) (by first | rfl | decide) (Nat.le_of_ble_eq_true rfl) dX6_coverage_25 (fun H14 locs hP hD hS => ?_)
      have hP : va_P (dC, dI) vwCl (wM_ m0 m_g m_kept m_spare m_was m_text m_told cI mg mkept mspare mhasKept mwas mwasMany manew 0 mtext mlength mspot mvalue merror mtold mtolds) H14 := hP
      have hD : va_D A (wM_ m0 m_g m_kept m_spare m_was m_text m_told cI mg mkept mspare mhasKept mwas mwasMany manew 0 mtext mlength mspot mvalue merror mtold mtolds) := hD
      refine lv_aload_n hx hb dX6_coverage_28 rfl (lv_at hl 0 rfl) ?_
      refine va_get (D := (dC, dI)) (ci := 8) (v := .int 0) (C := RX6) (T := TX6) (N := 15) hx hb hts inX6_ hown hK hP 0 rfl rfl 7 (by decide) fl32_ (fun _ h9 => h9) rfl dX6_coverage_29 ?_
      refine lv_if_le (tgt := 37) hx hb dX6_coverage_32 (by decide) (fun _ => ?_) (fun c9 => absurd (by decide) c9)
      refine lv_iconst (v := 0) hx hb dX6_coverage_37 (by decide) ?_
      refine lv_istore_n (lv' := [(2, .int 0), (0, .ref m0), (1, .int a1)]) hx hb dX6_coverage_38 rfl hl (by decide) rfl (fun ls hl => ?_)
      refine lv_iconst (v := 0) hx hb dX6_coverage_39 (by decide) ?_
      refine lv_istore_n (lv' := [(3, .int 0), (2, .int 0), (0, .ref m0), (1, .int a1)]) hx hb dX6_coverage_40 rfl hl (by decide) rfl (fun ls hl => ?_)
      have lp41 : ∀ (n : Nat) (l3 : Int32) (l2 : Int32) (l1 : Int32) (mg : Nat → Int32) (mkept : Nat → Int32) (mspare : Nat → Int32) (mhasKept : Int32) (mwas : Nat → Int32) (mwasMany : Int32) (manew : Int32) (mthrown : Int32) (mtext : Nat → Int32) (mlength : Int32) (mspot : Int32) (mvalue : Int32) (merror : Int32) (mtold : Nat → Int32) (mtolds : Int32) (H15 : Heap) (locs : List Loc) (ls : Array Slot), f_X6_coverage_L41 n l3 l2 l1 (mg, mkept, mspare, mhasKept, mwas, mwasMany, manew, mthrown, mtext, mlength, mspot, mvalue, merror, mtold, mtolds) = some R → va_P (dC, dI) vwCl (wM_ m0 m_g m_kept m_spare m_was m_text m_told cI mg mkept mspare mhasKept mwas mwasMany manew mthrown mtext mlength mspot mvalue merror mtold mtolds) H15 → va_D A (wM_ m0 m_g m_kept m_spare m_was m_text m_told cI mg mkept mspare mhasKept mwas mwasMany manew mthrown mtext mlength mspot mvalue merror mtold mtolds) → va_S A s.heap H15 locs → lv_has ls 4 [(3, .int l3), (2, .int l2), (0, .ref m0), (1, .int l1)] → W p l e (headSpec wsX6_coverage rm_X6_coverage).room s m args below meth c H15 locs 0 0 (MQ below (Qd_ (dC, dI) (ty_ cI cZ cC cJ cD) R.1 (wM_ m0 m_g m_kept m_spare m_was m_text m_told cI R.2.1 R.2.2.1 R.2.2.2.1 R.2.2.2.2.1 R.2.2.2.2.2.1 R.2.2.2.2.2.2.1 R.2.2.2.2.2.2.2.1 R.2.2.2.2.2.2.2.2.1 R.2.2.2.2.2.2.2.2.2.1 R.2.2.2.2.2.2.2.2.2.2.1 R.2.2.2.2.2.2.2.2.2.2.2.1 R.2.2.2.2.2.2.2.2.2.2.2.2.1 R.2.2.2.2.2.2.2.2.2.2.2.2.2.1 R.2.2.2.2.2.2.2.2.2.2.2.2.2.2.1 R.2.2.2.2.2.2.2.2.2.2.2.2.2.2.2) A) args s 0 0 A) (F0 m 41 ls []) := by
        intro n
        induction n with
        | zero => intro l3 l2 l1 mg mkept mspare mhasKept mwas mwasMany manew mthrown mtext mlength mspot mvalue merror mtold mtolds H15 locs ls hf hP hD hS hl; exact absurd hf (by simp [f_X6_coverage_L41])
        | succ n ih =>
          intro l3 l2 l1 mg mkept mspare mhasKept mwas mwasMany manew mthrown mtext mlength mspot mvalue merror mtold mtolds H15 locs ls hf hP hD hS hl
          have hf : f_X6_coverage_S41 (f_X6_coverage_L41 n) l3 l2 l1 (mg, mkept, mspare, mhasKept, mwas, mwasMany, manew, mthrown, mtext, mlength, mspot, mvalue, merror, mtold, mtolds) = some R := hf
          unfold f_X6_coverage_S41 at hf
          dsimp only at hf
          refine lv_iload_n hx hb dX6_coverage_41 rfl (lv_at hl 0 rfl) ?_
          refine lv_aload_n hx hb dX6_coverage_42 rfl (lv_at hl 2 rfl) ?_
          refine va_get (D := (dC, dI)) (ci := 8) (v := .ref m_g) (C := RX6) (T := TX6) (N := 15) hx hb hts inX6_ hown hK hP 0 rfl rfl 0 (by decide) fl7_ (fun _ h9 => h9) rfl dX6_coverage_43 ?_
          refine lv_iconst (v := 0) hx hb dX6_coverage_46 (by decide) ?_
          obtain ⟨h16, hf⟩ := gd_T hf
          refine va_iald hx hb hK hP 1 0 rfl rfl h16 dX6_coverage_47 ?_
          refine lv_icmp_ge (tgt := 94) hx hb dX6_coverage_48 (by decide) (fun c17 => ?_) (fun c17 => ?_)
          · have hf := ite_T c17 hf
            refine lv_iload_n hx hb dX6_coverage_94 rfl (lv_at hl 1 rfl) ?_
            refine lv_i2d hx hb dX6_coverage_95 ?_
            refine lv_sipush (v := 1000) hx hb dX6_coverage_96 (by decide) ?_
            refine lv_aload_n hx hb dX6_coverage_99 rfl (lv_at hl 2 rfl) ?_
            refine va_get (D := (dC, dI)) (ci := 8) (v := .ref m_g) (C := RX6) (T := TX6) (N := 15) hx hb hts inX6_ hown hK hP 0 rfl rfl 0 (by decide) fl7_ (fun _ h9 => h9) rfl dX6_coverage_100 ?_
            refine lv_sipush (v := 130) hx hb dX6_coverage_103 (by decide) ?_
            refine lv_aload_n hx hb dX6_coverage_106 rfl (lv_at hl 2 rfl) ?_
            refine lv_iload_n hx hb dX6_coverage_107 rfl (lv_at hl 3 rfl) ?_
            refine lv_iconst (v := 0) hx hb dX6_coverage_108 (by decide) ?_
            obtain ⟨R19, g20, hf⟩ := bd_B hf
            obtain ⟨r18, rfl⟩ : ∃ z, z = R19 := ⟨_, rfl⟩
            have hPc := hP
            have hDc := hD
            have hFc := va_free (wc := wM_ m0 m_g m_kept m_spare m_was m_text m_told cI mg mkept mspare mhasKept mwas mwasMany manew mthrown mtext mlength mspot mvalue merror mtold mtolds) hD hS hA [0, 1, 2, 3, 4, 5, 6] rfl
            refine va_calli (va_runV (As := [.int l1, .int 0]) (rest := [.int 130, .ref m_g, .int 1000, .double (FP.i2d l2)]) ⟨hx, hb, hml, hown, hts⟩ (c_X6_placed l dC dI cI cZ cC cJ cD m0 m_g m_kept m_spare m_was m_text m_told H15.size mg mkept mspare mhasKept mwas mwasMany manew mthrown mtext mlength mspot mvalue merror mtold mtolds l1 (0 : Int32) r18 g20) (cwV 2 hts gX6_coverage_X6_placed rfl rfl rfl hs_X6_placed ⟨Nat.le_of_ble_eq_true rfl, Nat.le_of_ble_eq_true rfl⟩) (preV_ (ci := 8) (q0 := 0) hPc hK hDc rfl rfl rfl rfl) rfl rfl hl.1 rfl (lv_room (Nat.le_of_ble_eq_true rfl)) dX6_coverage_109 ⟨Nat.le_of_ble_eq_true rfl, Nat.le_of_ble_eq_true rfl⟩) hS (fun q _ h => hFc q h) hFc (fun z22 u t H21 locs ht hvm hw hB hz1 hk1 hS => ?_)
            have hw : r18 = z22 := hw.symm
            subst hw
            obtain ⟨hP, hD⟩ := aft_ (Wr := []) (Wc' := wM_ m0 m_g m_kept m_spare m_was m_text m_told cI mg mkept mspare mhasKept mwas mwasMany manew mthrown mtext mlength mspot mvalue merror mtold mtolds) (W2 := wM_ m0 m_g m_kept m_spare m_was m_text m_told cI mg mkept mspare mhasKept mwas mwasMany manew mthrown mtext mlength mspot mvalue merror mtold mtolds) hP hD [0, 1, 2, 3, 4, 5, 6] [] [0, 1, 2, 3, 4, 5, 6] rfl rfl (by decide) (by decide) (by decide) hk1 hFc hB ht rfl
            refine lv_iadd hx hb dX6_coverage_112 ?_
            obtain ⟨h23, hf⟩ := gd_T hf
            refine va_iald hx hb hK hP 1 0 rfl rfl h23 dX6_coverage_113 ?_
            refine lv_isub hx hb dX6_coverage_114 ?_
            refine lv_i2d hx hb dX6_coverage_115 ?_
            obtain ⟨h24, hf⟩ := gN_T hf
            refine lv_ddiv hx hb dX6_coverage_116 h24 ?_
            have hR := Option.some.inj hf
            subst hR
            exact W.dret (v := FP.ddiv (FP.i2d l2) (FP.i2d (1000 - (mg ((130 + r18).toNatClampNeg))))) hx hb hr (fun t ht hW => ⟨⟨FP.ddiv (FP.i2d l2) (FP.i2d (1000 - (mg ((130 + r18).toNatClampNeg)))), (), rfl, rfl, by rw [ht]; exact hP, va_K.moved hW.alike hK, hD⟩, hS.F ht⟩) hS.2.2 dX6_coverage_117
          · have hf := ite_F c17 hf
            refine lv_iload_n hx hb dX6_coverage_51 rfl (lv_at hl 1 rfl) ?_
            refine lv_aload_n hx hb dX6_coverage_52 rfl (lv_at hl 2 rfl) ?_
            refine lv_iload_n hx hb dX6_coverage_53 rfl (lv_at hl 0 rfl) ?_
            refine lv_iload_n hx hb dX6_coverage_54 rfl (lv_at hl 3 rfl) ?_
            obtain ⟨R26, g27, hf⟩ := bd_B hf
            obtain ⟨r25, rfl⟩ : ∃ z, z = R26 := ⟨_, rfl⟩
            have hPc := hP
            have hDc := hD
            have hFc := va_free (wc := wM_ m0 m_g m_kept m_spare m_was m_text m_told cI mg mkept mspare mhasKept mwas mwasMany manew mthrown mtext mlength mspot mvalue merror mtold mtolds) hD hS hA [0, 1, 2, 3, 4, 5, 6] rfl
            refine va_calli (va_runV (As := [.int l3, .int l1]) (rest := [.int l2]) ⟨hx, hb, hml, hown, hts⟩ (c_X6_isOf l dC dI cI cZ cC cJ cD m0 m_g m_kept m_spare m_was m_text m_told H15.size mg mkept mspare mhasKept mwas mwasMany manew mthrown mtext mlength mspot mvalue merror mtold mtolds l3 l1 r25 g27) (cwV 2 hts gX6_coverage_X6_isOf rfl rfl rfl hs_X6_isOf ⟨Nat.le_of_ble_eq_true rfl, Nat.le_of_ble_eq_true rfl⟩) (preV_ (ci := 8) (q0 := 0) hPc hK hDc rfl rfl rfl rfl) rfl rfl hl.1 rfl (lv_room (Nat.le_of_ble_eq_true rfl)) dX6_coverage_55 ⟨Nat.le_of_ble_eq_true rfl, Nat.le_of_ble_eq_true rfl⟩) hS (fun q _ h => hFc q h) hFc (fun z29 u t H28 locs ht hvm hw hB hz1 hk1 hS => ?_)
            have hw : r25 = z29 := hw.symm
            subst hw
            obtain ⟨hP, hD⟩ := aft_ (Wr := []) (Wc' := wM_ m0 m_g m_kept m_spare m_was m_text m_told cI mg mkept mspare mhasKept mwas mwasMany manew mthrown mtext mlength mspot mvalue merror mtold mtolds) (W2 := wM_ m0 m_g m_kept m_spare m_was m_text m_told cI mg mkept mspare mhasKept mwas mwasMany manew mthrown mtext mlength mspot mvalue merror mtold mtolds) hP hD [0, 1, 2, 3, 4, 5, 6] [] [0, 1, 2, 3, 4, 5, 6] rfl rfl (by decide) (by decide) (by decide) hk1 hFc hB ht rfl
            refine lv_if_eq (tgt := 85) hx hb dX6_coverage_58 (by decide) (fun c30 => ?_) (fun c30 => ?_)
            · have hf := ite_T c30 hf
              refine lv_iconst (v := 0) hx hb dX6_coverage_85 (by decide) ?_
              refine lv_iadd hx hb dX6_coverage_86 ?_
              refine lv_istore_n (lv' := [(2, .int (l2 + 0)), (3, .int l3), (0, .ref m0), (1, .int l1)]) hx hb dX6_coverage_87 rfl hl (by decide) rfl (fun ls hl => ?_)
              refine lv_iinc (v := l3 + 1) (lv' := [(3, .int (l3 + 1)), (2, .int (l2 + 0)), (0, .ref m0), (1, .int l1)]) hx hb dX6_coverage_88 hl (k := 1) rfl (by first | rfl | decide) (by decide) rfl (fun ls hl => ?_)
              refine lv_goto (tgt := 41) hx hb dX6_coverage_91 (by decide) ?_
              exact ih (l3 + 1) (l2 + 0) l1 mg mkept mspare mhasKept mwas mwasMany manew mthrown mtext mlength mspot mvalue merror mtold mtolds _ _ _ hf hP hD hS (lv_sub hl [0, 1, 2, 3] rfl)
            · have hf := ite_F c30 hf
              refine lv_aload_n hx hb dX6_coverage_61 rfl (lv_at hl 2 rfl) ?_
              refine va_get (D := (dC, dI)) (ci := 8) (v := .ref m_g) (C := RX6) (T := TX6) (N := 15) hx hb hts inX6_ hown hK hP 0 rfl rfl 0 (by decide) fl7_ (fun _ h9 => h9) rfl dX6_coverage_62 ?_
              refine lv_sipush (v := 190) hx hb dX6_coverage_65 (by decide) ?_
              refine lv_iload_n hx hb dX6_coverage_68 rfl (lv_at hl 0 rfl) ?_
              refine lv_iadd hx hb dX6_coverage_69 ?_
              obtain ⟨h31, hf⟩ := gd_T hf
              refine va_iald hx hb hK hP 1 0 rfl rfl h31 dX6_coverage_70 ?_
              refine lv_aload_n hx hb dX6_coverage_71 rfl (lv_at hl 2 rfl) ?_
              refine va_get (D := (dC, dI)) (ci := 8) (v := .ref m_g) (C := RX6) (T := TX6) (N := 15) hx hb hts inX6_ hown hK hP 0 rfl rfl 0 (by decide) fl7_ (fun _ h9 => h9) rfl dX6_coverage_72 ?_
              refine lv_sipush (v := 130) hx hb dX6_coverage_75 (by decide) ?_
              refine lv_iload_n hx hb dX6_coverage_78 rfl (lv_at hl 0 rfl) ?_
              refine lv_iadd hx hb dX6_coverage_79 ?_
              obtain ⟨h32, hf⟩ := gd_T hf
              refine va_iald hx hb hK hP 1 0 rfl rfl h32 dX6_coverage_80 ?_
              refine lv_isub hx hb dX6_coverage_81 ?_
              refine lv_goto (tgt := 86) hx hb dX6_coverage_82 (by decide) ?_
              refine lv_iadd hx hb dX6_coverage_86 ?_
              refine lv_istore_n (lv' := [(2, .int (l2 + ((mg ((190 + l3).toNatClampNeg)) - (mg ((130 + l3).toNatClampNeg))))), (3, .int l3), (0, .ref m0), (1, .int l1)]) hx hb dX6_coverage_87 rfl hl (by decide) rfl (fun ls hl => ?_)
              refine lv_iinc (v := l3 + 1) (lv' := [(3, .int (l3 + 1)), (2, .int (l2 + ((mg ((190 + l3).toNatClampNeg)) - (mg ((130 + l3).toNatClampNeg))))), (0, .ref m0), (1, .int l1)]) hx hb dX6_coverage_88 hl (k := 1) rfl (by first | rfl | decide) (by decide) rfl (fun ls hl => ?_)
              refine lv_goto (tgt := 41) hx hb dX6_coverage_91 (by decide) ?_
              exact ih (l3 + 1) (l2 + ((mg ((190 + l3).toNatClampNeg)) - (mg ((130 + l3).toNatClampNeg)))) l1 mg mkept mspare mhasKept mwas mwasMany manew mthrown mtext mlength mspot mvalue merror mtold mtolds _ _ _ hf hP hD hS (lv_sub hl [0, 1, 2, 3] rfl)
      exact lp41 fu_ (0 : Int32) (0 : Int32) a1 mg mkept mspare mhasKept mwas mwasMany manew (0 : Int32) mtext mlength mspot mvalue merror mtold mtolds _ _ _ hf hP hD hS hl
    · have hf := ite_T c13 hf
      refine lv_iconst (v := 2) hx hb dX6_coverage_16 (by decide) ?_
      refine lv_goto (tgt := 25) hx hb dX6_coverage_17 (by decide) ?_
      refine va_put (D := (dC, dI)) (ci := 8) (v := .int 2) (ty := .int) (C := RX6) (T := TX6) (N := 15) hx hb hts inX6_ tyX6 tyX6_ok nmX6 hown hK hP hD hS 0 rfl rfl 7 (by decide) fl32_ (fun _ h9 => h9) rfl (by decide +kernel) (by first | rfl | decide) (by first | rfl | decide) (Nat.le_of_ble_eq_true rfl) dX6_coverage_25 (fun H33 locs hP hD hS => ?_)
      have hP : va_P (dC, dI) vwCl (wM_ m0 m_g m_kept m_spare m_was m_text m_told cI mg mkept mspare mhasKept mwas mwasMany manew 2 mtext mlength mspot mvalue merror mtold mtolds) H33 := hP
      have hD : va_D A (wM_ m0 m_g m_kept m_spare m_was m_text m_told cI mg mkept mspare mhasKept mwas mwasMany manew 2 mtext mlength mspot mvalue merror mtold mtolds) := hD
      refine lv_aload_n hx hb dX6_coverage_28 rfl (lv_at hl 0 rfl) ?_
      refine va_get (D := (dC, dI)) (ci := 8) (v := .int 2) (C := RX6) (T := TX6) (N := 15) hx hb hts inX6_ hown hK hP 0 rfl rfl 7 (by decide) fl32_ (fun _ h9 => h9) rfl dX6_coverage_29 ?_
      refine lv_if_le (tgt := 37) hx hb dX6_coverage_32 (by decide) (fun c9 => absurd c9 (by decide)) (fun _ => ?_)
      refine lv_dconst0 hx hb dX6_coverage_35 ?_
      have hR := Option.some.inj hf
      subst hR
      exact W.dret (v := FP.dconst0) hx hb hr (fun t ht hW => ⟨⟨FP.dconst0, (), rfl, rfl, by rw [ht]; exact hP, va_K.moved hW.alike hK, hD⟩, hS.F ht⟩) hS.2.2 dX6_coverage_36
theorem hs_X6_coverage : yX6_coverage.cls = RX6 ∧ yX6_coverage.cls ≠ "java/lang/invoke/MethodHandle" ∧ yX6_coverage.cls ≠ "java/lang/invoke/VarHandle" ∧ (parseMethodDescriptor yX6_coverage.desc).map (fun d => d.parameters.length) = some 1 := by decide +kernel
set_option maxRecDepth 20000 in
theorem in_X6_isCovered_X6 : ∀ w ∈ wsX60, w ∈ wsX6_isCovered := by decide +kernel
def f_X6_isCovered_S46 (k_ : Int32 → Int32 → Int32 → Int32 → tM_ → Option (Int32 × tM_)) (l4 : Int32) (l1 : Int32) (l2 : Int32) (l3 : Int32) (M_ : tM_) : Option (Int32 × tM_) :=
match M_ with
| (mg, mkept, mspare, mhasKept, mwas, mwasMany, manew, mthrown, mtext, mlength, mspot, mvalue, merror, mtold, mtolds) =>
if l3 < l4 then
if l4 ≤ l3 then
some ((0 : Int32), (mg, mkept, mspare, mhasKept, mwas, mwasMany, manew, mthrown, mtext, mlength, mspot, mvalue, merror, mtold, mtolds))
else
some ((1 : Int32), (mg, mkept, mspare, mhasKept, mwas, mwasMany, manew, mthrown, mtext, mlength, mspot, mvalue, merror, mtold, mtolds))
else
bd_ (f_X6_valid l1 l4 (mg, mkept, mspare, mhasKept, mwas, mwasMany, manew, mthrown, mtext, mlength, mspot, mvalue, merror, mtold, mtolds)) (fun r26 =>
if r26 < 0 then
if l4 ≤ l3 then
some ((0 : Int32), (mg, mkept, mspare, mhasKept, mwas, mwasMany, manew, mthrown, mtext, mlength, mspot, mvalue, merror, mtold, mtolds))
else
some ((1 : Int32), (mg, mkept, mspare, mhasKept, mwas, mwasMany, manew, mthrown, mtext, mlength, mspot, mvalue, merror, mtold, mtolds))
else
bd_ (f_X6_valid l1 l4 (mg, mkept, mspare, mhasKept, mwas, mwasMany, manew, mthrown, mtext, mlength, mspot, mvalue, merror, mtold, mtolds)) (fun r33 =>
gd_ (190 + r33) 610 (
k_ (mg ((190 + r33).toNatClampNeg)) l1 l2 l3 (mg, mkept, mspare, mhasKept, mwas, mwasMany, manew, mthrown, mtext, mlength, mspot, mvalue, merror, mtold, mtolds))))
def f_X6_isCovered_L46 : Nat → Int32 → Int32 → Int32 → Int32 → tM_ → Option (Int32 × tM_)
  | 0 => fun _ _ _ _ _ => none
  | n + 1 => fun l4 l1 l2 l3 M_ => f_X6_isCovered_S46 (f_X6_isCovered_L46 n) l4 l1 l2 l3 M_
def f_X6_isCovered (a1 : Int32) (a2 : Int32) (a3 : Int32) (M_ : tM_) : Option (Int32 × tM_) :=
match M_ with
| (mg, mkept, mspare, mhasKept, mwas, mwasMany, manew, mthrown, mtext, mlength, mspot, mvalue, merror, mtold, mtolds) =>
bd_ (f_X6_isKey a1) (fun r1 =>
if r1 = 0 then
some ((0 : Int32), (mg, mkept, mspare, mhasKept, mwas, mwasMany, manew, 1, mtext, mlength, mspot, mvalue, merror, mtold, mtolds))
else
bd_ (f_X6_isDay a2) (fun r8 =>
if r8 = 0 then
some ((0 : Int32), (mg, mkept, mspare, mhasKept, mwas, mwasMany, manew, 2, mtext, mlength, mspot, mvalue, merror, mtold, mtolds))
else
bd_ (f_X6_isDay a3) (fun r15 =>
if r15 = 0 then
some ((0 : Int32), (mg, mkept, mspare, mhasKept, mwas, mwasMany, manew, 2, mtext, mlength, mspot, mvalue, merror, mtold, mtolds))
else
f_X6_isCovered_L46 fu_ a2 a1 a2 a3 (mg, mkept, mspare, mhasKept, mwas, mwasMany, manew, 0, mtext, mlength, mspot, mvalue, merror, mtold, mtolds))))
abbrev rm_X6_isCovered : Room := { frames := 2, cells := 0, slots := 0, locals := 45 }
set_option maxHeartbeats 4000000 in
set_option maxRecDepth 100000 in
theorem c_X6_isCovered (l : Launch) (dC : Nat → ClassId) (dI : Nat → Nat → Nat) (cI cZ cC cJ cD : ClassId) (m0 m_g m_kept m_spare m_was m_text m_told : Nat) (sz : Nat) (mg : Nat → Int32) (mkept : Nat → Int32) (mspare : Nat → Int32) (mhasKept : Int32) (mwas : Nat → Int32) (mwasMany : Int32) (manew : Int32) (mthrown : Int32) (mtext : Nat → Int32) (mlength : Int32) (mspot : Int32) (mvalue : Int32) (merror : Int32) (mtold : Nat → Int32) (mtolds : Int32) (a1 : Int32) (a2 : Int32) (a3 : Int32) (R : Int32 × tM_) (hf : f_X6_isCovered a1 a2 a3 (mg, mkept, mspare, mhasKept, mwas, mwasMany, manew, mthrown, mtext, mlength, mspot, mvalue, merror, mtold, mtolds) = some R) : Met l yX6_isCovered wsX6_isCovered rm_X6_isCovered (Pc_ (dC, dI) (ty_ cI cZ cC cJ cD) (wM_ m0 m_g m_kept m_spare m_was m_text m_told cI mg mkept mspare mhasKept mwas mwasMany manew mthrown mtext mlength mspot mvalue merror mtold mtolds) sz [.ref m0, .int a1, .int a2, .int a3]) (Qi_ (dC, dI) (ty_ cI cZ cC cJ cD) R.1 (wM_ m0 m_g m_kept m_spare m_was m_text m_told cI R.2.1 R.2.2.1 R.2.2.2.1 R.2.2.2.2.1 R.2.2.2.2.2.1 R.2.2.2.2.2.2.1 R.2.2.2.2.2.2.2.1 R.2.2.2.2.2.2.2.2.1 R.2.2.2.2.2.2.2.2.2.1 R.2.2.2.2.2.2.2.2.2.2.1 R.2.2.2.2.2.2.2.2.2.2.2.1 R.2.2.2.2.2.2.2.2.2.2.2.2.1 R.2.2.2.2.2.2.2.2.2.2.2.2.2.1 R.2.2.2.2.2.2.2.2.2.2.2.2.2.2.1 R.2.2.2.2.2.2.2.2.2.2.2.2.2.2.2) (va_A (wM_ m0 m_g m_kept m_spare m_was m_text m_told cI mg mkept mspare mhasKept mwas mwasMany manew mthrown mtext mlength mspot mvalue merror mtold mtolds) sz)) 0 0 (va_A (wM_ m0 m_g m_kept m_spare m_was m_text m_told cI mg mkept mspare mhasKept mwas mwasMany manew mthrown mtext mlength mspot mvalue merror mtold mtolds) sz) := by
  refine met_ (cc := cX6_isCovered) (maxL := 5) (ret := (some .boolean)) (Qcf := fun A => Qi_ (dC, dI) (ty_ cI cZ cC cJ cD) R.1 (wM_ m0 m_g m_kept m_spare m_was m_text m_told cI R.2.1 R.2.2.1 R.2.2.2.1 R.2.2.2.2.1 R.2.2.2.2.2.1 R.2.2.2.2.2.2.1 R.2.2.2.2.2.2.2.1 R.2.2.2.2.2.2.2.2.1 R.2.2.2.2.2.2.2.2.2.1 R.2.2.2.2.2.2.2.2.2.2.1 R.2.2.2.2.2.2.2.2.2.2.2.1 R.2.2.2.2.2.2.2.2.2.2.2.2.1 R.2.2.2.2.2.2.2.2.2.2.2.2.2.1 R.2.2.2.2.2.2.2.2.2.2.2.2.2.2.1 R.2.2.2.2.2.2.2.2.2.2.2.2.2.2.2) A) (by decide) rfl (Nat.le_of_ble_eq_true rfl) ?_
  intro p e s m args below meth c A ls hx hb hr hts hown hlocks hml hA hP hK hD hl
  have hown : s.vm.findClass RX6 = some m.cls := hown
  have hl : lv_has ls 5 [(0, .ref m0), (1, .int a1), (2, .int a2), (3, .int a3)] := hl
  have hS : va_S A s.heap s.heap [] := va_S.rf
  have fl7_ : (Cond.fieldLink RX6 7 "DimensionLoaderModel" "g" "[I").before args s = true := hts _ (List.mem_of_getElem? (i := 2) rfl)
  have fl32_ : (Cond.fieldLink RX6 32 "DimensionLoaderModel" "thrown" "I").before args s = true := hts _ (List.mem_of_getElem? (i := 1) rfl)
  have inX6_ : ∀ w ∈ wsX60, w ∈ wsX6_isCovered := in_X6_isCovered_X6
  unfold f_X6_isCovered at hf
  dsimp only at hf
  refine lv_aload_n hx hb dX6_isCovered_0 rfl (lv_at hl 0 rfl) ?_
  refine lv_iload_n hx hb dX6_isCovered_1 rfl (lv_at hl 1 rfl) ?_
  obtain ⟨R2, g3, hf⟩ := bd_B hf
  obtain ⟨r1, rfl⟩ : ∃ z, z = R2 := ⟨_, rfl⟩
  have hPc := hP.sub (ws' := []) [] rfl
  have hDc := hD.sub (ws' := []) [] (by decide) rfl
  have hFc := va_free (wc := []) hD hS hA [] rfl
  refine va_calli (va_runS (As := [.int a1]) (rest := [.ref m0]) ⟨hx, hb, hml, hown, hts⟩ (c_X6_isKey l dC dI cI cZ cC cJ cD s.heap.size a1 r1 g3) (cwS 1 hts gX6_isCovered_X6_isKey rfl rfl rfl hs_X6_isKey ⟨Nat.le_of_ble_eq_true rfl, Nat.le_of_ble_eq_true rfl⟩) (preS_ hPc hK hDc rfl) rfl rfl hl.1 rfl (lv_room (Nat.le_of_ble_eq_true rfl)) dX6_isCovered_2 ⟨Nat.le_of_ble_eq_true rfl, Nat.le_of_ble_eq_true rfl⟩) hS (fun q _ h => hFc q h) hFc (fun z5 u t H4 locs ht hvm hw hB hz1 hk1 hS => ?_)
  have hw : r1 = z5 := hw.symm
  subst hw
  obtain ⟨hP, hD⟩ := aft_ (Wr := wM_ m0 m_g m_kept m_spare m_was m_text m_told cI mg mkept mspare mhasKept mwas mwasMany manew mthrown mtext mlength mspot mvalue merror mtold mtolds) (Wc' := []) (W2 := wM_ m0 m_g m_kept m_spare m_was m_text m_told cI mg mkept mspare mhasKept mwas mwasMany manew mthrown mtext mlength mspot mvalue merror mtold mtolds) hP hD [] [0, 1, 2, 3, 4, 5, 6] [0, 1, 2, 3, 4, 5, 6] rfl rfl (by decide) (by decide) (by decide) hk1 hFc hB ht rfl
  refine lv_if_eq (tgt := 30) hx hb dX6_isCovered_5 (by decide) (fun c6 => ?_) (fun c6 => ?_)
  · have hf := ite_T c6 hf
    refine lv_iconst (v := 1) hx hb dX6_isCovered_30 (by decide) ?_
    refine va_put (D := (dC, dI)) (ci := 8) (v := .int 1) (ty := .int) (C := RX6) (T := TX6) (N := 15) hx hb hts inX6_ tyX6 tyX6_ok nmX6 hown hK hP hD hS 0 rfl rfl 7 (by decide) fl32_ (fun _ h9 => h9) rfl (by decide +kernel) (by first | rfl | decide) (by first | rfl | decide) (Nat.le_of_ble_eq_true rfl) dX6_isCovered_31 (fun H7 locs hP hD hS => ?_)
    have hP : va_P (dC, dI) vwCl (wM_ m0 m_g m_kept m_spare m_was m_text m_told cI mg mkept mspare mhasKept mwas mwasMany manew 1 mtext mlength mspot mvalue merror mtold mtolds) H7 := hP
    have hD : va_D A (wM_ m0 m_g m_kept m_spare m_was m_text m_told cI mg mkept mspare mhasKept mwas mwasMany manew 1 mtext mlength mspot mvalue merror mtold mtolds) := hD
    refine lv_aload_n hx hb dX6_isCovered_34 rfl (lv_at hl 0 rfl) ?_
    refine va_get (D := (dC, dI)) (ci := 8) (v := .int 1) (C := RX6) (T := TX6) (N := 15) hx hb hts inX6_ hown hK hP 0 rfl rfl 7 (by decide) fl32_ (fun _ h9 => h9) rfl dX6_isCovered_35 ?_
    refine lv_if_le (tgt := 43) hx hb dX6_isCovered_38 (by decide) (fun c9 => absurd c9 (by decide)) (fun _ => ?_)
    refine lv_iconst (v := 0) hx hb dX6_isCovered_41 (by decide) ?_
    have hR := Option.some.inj hf
    subst hR
    exact W.zret (v := (0 : Int32)) hx hb hr (by decide) (fun t ht hW => ⟨⟨(0 : Int32), (), rfl, rfl, by rw [ht]; exact hP, va_K.moved hW.alike hK, hD⟩, hS.F ht⟩) hS.2.2 dX6_isCovered_42
  · have hf := ite_F c6 hf
    refine lv_iload_n hx hb dX6_isCovered_8 rfl (lv_at hl 2 rfl) ?_
    obtain ⟨R9, g10, hf⟩ := bd_B hf
    obtain ⟨r8, rfl⟩ : ∃ z, z = R9 := ⟨_, rfl⟩
    have hPc := hP.sub (ws' := []) [] rfl
    have hDc := hD.sub (ws' := []) [] (by decide) rfl
    have hFc := va_free (wc := []) hD hS hA [] rfl
    refine va_calli (va_runS (As := [.int a2]) (rest := [.ref m0]) ⟨hx, hb, hml, hown, hts⟩ (c_X6_isDay l dC dI cI cZ cC cJ cD H4.size a2 r8 g10) (cwS 1 hts gX6_isCovered_X6_isDay rfl rfl rfl hs_X6_isDay ⟨Nat.le_of_ble_eq_true rfl, Nat.le_of_ble_eq_true rfl⟩) (preS_ hPc hK hDc rfl) rfl rfl hl.1 rfl (lv_room (Nat.le_of_ble_eq_true rfl)) dX6_isCovered_9 ⟨Nat.le_of_ble_eq_true rfl, Nat.le_of_ble_eq_true rfl⟩) hS (fun q _ h => hFc q h) hFc (fun z12 u t H11 locs ht hvm hw hB hz1 hk1 hS => ?_)
    have hw : r8 = z12 := hw.symm
    subst hw
    obtain ⟨hP, hD⟩ := aft_ (Wr := wM_ m0 m_g m_kept m_spare m_was m_text m_told cI mg mkept mspare mhasKept mwas mwasMany manew mthrown mtext mlength mspot mvalue merror mtold mtolds) (Wc' := []) (W2 := wM_ m0 m_g m_kept m_spare m_was m_text m_told cI mg mkept mspare mhasKept mwas mwasMany manew mthrown mtext mlength mspot mvalue merror mtold mtolds) hP hD [] [0, 1, 2, 3, 4, 5, 6] [0, 1, 2, 3, 4, 5, 6] rfl rfl (by decide) (by decide) (by decide) hk1 hFc hB ht rfl
    refine lv_if_eq (tgt := 26) hx hb dX6_isCovered_12 (by decide) (fun c13 => ?_) (fun c13 => ?_)
    · have hf := ite_T c13 hf
      refine lv_iconst (v := 2) hx hb dX6_isCovered_26 (by decide) ?_
      refine lv_goto (tgt := 31) hx hb dX6_isCovered_27 (by decide) ?_
      refine va_put (D := (dC, dI)) (ci := 8) (v := .int 2) (ty := .int) (C := RX6) (T := TX6) (N := 15) hx hb hts inX6_ tyX6 tyX6_ok nmX6 hown hK hP hD hS 0 rfl rfl 7 (by decide) fl32_ (fun _ h9 => h9) rfl (by decide +kernel) (by first | rfl | decide) (by first | rfl | decide) (Nat.le_of_ble_eq_true rfl) dX6_isCovered_31 (fun H14 locs hP hD hS => ?_)
      have hP : va_P (dC, dI) vwCl (wM_ m0 m_g m_kept m_spare m_was m_text m_told cI mg mkept mspare mhasKept mwas mwasMany manew 2 mtext mlength mspot mvalue merror mtold mtolds) H14 := hP
      have hD : va_D A (wM_ m0 m_g m_kept m_spare m_was m_text m_told cI mg mkept mspare mhasKept mwas mwasMany manew 2 mtext mlength mspot mvalue merror mtold mtolds) := hD
      refine lv_aload_n hx hb dX6_isCovered_34 rfl (lv_at hl 0 rfl) ?_
      refine va_get (D := (dC, dI)) (ci := 8) (v := .int 2) (C := RX6) (T := TX6) (N := 15) hx hb hts inX6_ hown hK hP 0 rfl rfl 7 (by decide) fl32_ (fun _ h9 => h9) rfl dX6_isCovered_35 ?_
      refine lv_if_le (tgt := 43) hx hb dX6_isCovered_38 (by decide) (fun c9 => absurd c9 (by decide)) (fun _ => ?_)
      refine lv_iconst (v := 0) hx hb dX6_isCovered_41 (by decide) ?_
      have hR := Option.some.inj hf
      subst hR
      exact W.zret (v := (0 : Int32)) hx hb hr (by decide) (fun t ht hW => ⟨⟨(0 : Int32), (), rfl, rfl, by rw [ht]; exact hP, va_K.moved hW.alike hK, hD⟩, hS.F ht⟩) hS.2.2 dX6_isCovered_42
    · have hf := ite_F c13 hf
      refine lv_iload_n hx hb dX6_isCovered_15 rfl (lv_at hl 3 rfl) ?_
      obtain ⟨R16, g17, hf⟩ := bd_B hf
      obtain ⟨r15, rfl⟩ : ∃ z, z = R16 := ⟨_, rfl⟩
      have hPc := hP.sub (ws' := []) [] rfl
      have hDc := hD.sub (ws' := []) [] (by decide) rfl
      have hFc := va_free (wc := []) hD hS hA [] rfl
      refine va_calli (va_runS (As := [.int a3]) (rest := [.ref m0]) ⟨hx, hb, hml, hown, hts⟩ (c_X6_isDay l dC dI cI cZ cC cJ cD H11.size a3 r15 g17) (cwS 1 hts gX6_isCovered_X6_isDay rfl rfl rfl hs_X6_isDay ⟨Nat.le_of_ble_eq_true rfl, Nat.le_of_ble_eq_true rfl⟩) (preS_ hPc hK hDc rfl) rfl rfl hl.1 rfl (lv_room (Nat.le_of_ble_eq_true rfl)) dX6_isCovered_16 ⟨Nat.le_of_ble_eq_true rfl, Nat.le_of_ble_eq_true rfl⟩) hS (fun q _ h => hFc q h) hFc (fun z19 u t H18 locs ht hvm hw hB hz1 hk1 hS => ?_)
      have hw : r15 = z19 := hw.symm
      subst hw
      obtain ⟨hP, hD⟩ := aft_ (Wr := wM_ m0 m_g m_kept m_spare m_was m_text m_told cI mg mkept mspare mhasKept mwas mwasMany manew mthrown mtext mlength mspot mvalue merror mtold mtolds) (Wc' := []) (W2 := wM_ m0 m_g m_kept m_spare m_was m_text m_told cI mg mkept mspare mhasKept mwas mwasMany manew mthrown mtext mlength mspot mvalue merror mtold mtolds) hP hD [] [0, 1, 2, 3, 4, 5, 6] [0, 1, 2, 3, 4, 5, 6] rfl rfl (by decide) (by decide) (by decide) hk1 hFc hB ht rfl
      refine lv_if_eq (tgt := 26) hx hb dX6_isCovered_19 (by decide) (fun c20 => ?_) (fun c20 => ?_)
      · have hf := ite_T c20 hf
        refine lv_iconst (v := 2) hx hb dX6_isCovered_26 (by decide) ?_
        refine lv_goto (tgt := 31) hx hb dX6_isCovered_27 (by decide) ?_
        refine va_put (D := (dC, dI)) (ci := 8) (v := .int 2) (ty := .int) (C := RX6) (T := TX6) (N := 15) hx hb hts inX6_ tyX6 tyX6_ok nmX6 hown hK hP hD hS 0 rfl rfl 7 (by decide) fl32_ (fun _ h9 => h9) rfl (by decide +kernel) (by first | rfl | decide) (by first | rfl | decide) (Nat.le_of_ble_eq_true rfl) dX6_isCovered_31 (fun H21 locs hP hD hS => ?_)
        have hP : va_P (dC, dI) vwCl (wM_ m0 m_g m_kept m_spare m_was m_text m_told cI mg mkept mspare mhasKept mwas mwasMany manew 2 mtext mlength mspot mvalue merror mtold mtolds) H21 := hP
        have hD : va_D A (wM_ m0 m_g m_kept m_spare m_was m_text m_told cI mg mkept mspare mhasKept mwas mwasMany manew 2 mtext mlength mspot mvalue merror mtold mtolds) := hD
        refine lv_aload_n hx hb dX6_isCovered_34 rfl (lv_at hl 0 rfl) ?_
        refine va_get (D := (dC, dI)) (ci := 8) (v := .int 2) (C := RX6) (T := TX6) (N := 15) hx hb hts inX6_ hown hK hP 0 rfl rfl 7 (by decide) fl32_ (fun _ h9 => h9) rfl dX6_isCovered_35 ?_
        refine lv_if_le (tgt := 43) hx hb dX6_isCovered_38 (by decide) (fun c9 => absurd c9 (by decide)) (fun _ => ?_)
        refine lv_iconst (v := 0) hx hb dX6_isCovered_41 (by decide) ?_
        have hR := Option.some.inj hf
        subst hR
        exact W.zret (v := (0 : Int32)) hx hb hr (by decide) (fun t ht hW => ⟨⟨(0 : Int32), (), rfl, rfl, by rw [ht]; exact hP, va_K.moved hW.alike hK, hD⟩, hS.F ht⟩) hS.2.2 dX6_isCovered_42
      · have hf := ite_F c20 hf
        refine lv_iconst (v := 0) hx hb dX6_isCovered_22 (by decide) ?_
        refine lv_goto (tgt := 31) hx hb dX6_isCovered_23 (by decide) ?_
        refine va_put (D := (dC, dI)) (ci := 8) (v := .int 0) (ty := .int) (C := RX6) (T := TX6) (N := 15) hx hb hts inX6_ tyX6 tyX6_ok nmX6 hown hK hP hD hS 0 rfl rfl 7 (by decide) fl32_ (fun _ h9 => h9) rfl (by decide +kernel) (by first | rfl | decide) (by first | rfl | decide) (Nat.le_of_ble_eq_true rfl) dX6_isCovered_31 (fun H22 locs hP hD hS => ?_)
        have hP : va_P (dC, dI) vwCl (wM_ m0 m_g m_kept m_spare m_was m_text m_told cI mg mkept mspare mhasKept mwas mwasMany manew 0 mtext mlength mspot mvalue merror mtold mtolds) H22 := hP
        have hD : va_D A (wM_ m0 m_g m_kept m_spare m_was m_text m_told cI mg mkept mspare mhasKept mwas mwasMany manew 0 mtext mlength mspot mvalue merror mtold mtolds) := hD
        refine lv_aload_n hx hb dX6_isCovered_34 rfl (lv_at hl 0 rfl) ?_
        refine va_get (D := (dC, dI)) (ci := 8) (v := .int 0) (C := RX6) (T := TX6) (N := 15) hx hb hts inX6_ hown hK hP 0 rfl rfl 7 (by decide) fl32_ (fun _ h9 => h9) rfl dX6_isCovered_35 ?_
        refine lv_if_le (tgt := 43) hx hb dX6_isCovered_38 (by decide) (fun _ => ?_) (fun c9 => absurd (by decide) c9)
        refine lv_iload_n hx hb dX6_isCovered_43 rfl (lv_at hl 2 rfl) ?_
        refine lv_istore (lv' := [(4, .int a2), (0, .ref m0), (1, .int a1), (2, .int a2), (3, .int a3)]) hx hb dX6_isCovered_44 hl (by decide) rfl (fun ls hl => ?_)
        have lp46 : ∀ (n : Nat) (l4 : Int32) (l1 : Int32) (l2 : Int32) (l3 : Int32) (mg : Nat → Int32) (mkept : Nat → Int32) (mspare : Nat → Int32) (mhasKept : Int32) (mwas : Nat → Int32) (mwasMany : Int32) (manew : Int32) (mthrown : Int32) (mtext : Nat → Int32) (mlength : Int32) (mspot : Int32) (mvalue : Int32) (merror : Int32) (mtold : Nat → Int32) (mtolds : Int32) (H23 : Heap) (locs : List Loc) (ls : Array Slot), f_X6_isCovered_L46 n l4 l1 l2 l3 (mg, mkept, mspare, mhasKept, mwas, mwasMany, manew, mthrown, mtext, mlength, mspot, mvalue, merror, mtold, mtolds) = some R → va_P (dC, dI) vwCl (wM_ m0 m_g m_kept m_spare m_was m_text m_told cI mg mkept mspare mhasKept mwas mwasMany manew mthrown mtext mlength mspot mvalue merror mtold mtolds) H23 → va_D A (wM_ m0 m_g m_kept m_spare m_was m_text m_told cI mg mkept mspare mhasKept mwas mwasMany manew mthrown mtext mlength mspot mvalue merror mtold mtolds) → va_S A s.heap H23 locs → lv_has ls 5 [(4, .int l4), (0, .ref m0), (1, .int l1), (2, .int l2), (3, .int l3)] → W p l e (headSpec wsX6_isCovered rm_X6_isCovered).room s m args below meth c H23 locs 0 0 (MQ below (Qi_ (dC, dI) (ty_ cI cZ cC cJ cD) R.1 (wM_ m0 m_g m_kept m_spare m_was m_text m_told cI R.2.1 R.2.2.1 R.2.2.2.1 R.2.2.2.2.1 R.2.2.2.2.2.1 R.2.2.2.2.2.2.1 R.2.2.2.2.2.2.2.1 R.2.2.2.2.2.2.2.2.1 R.2.2.2.2.2.2.2.2.2.1 R.2.2.2.2.2.2.2.2.2.2.1 R.2.2.2.2.2.2.2.2.2.2.2.1 R.2.2.2.2.2.2.2.2.2.2.2.2.1 R.2.2.2.2.2.2.2.2.2.2.2.2.2.1 R.2.2.2.2.2.2.2.2.2.2.2.2.2.2.1 R.2.2.2.2.2.2.2.2.2.2.2.2.2.2.2) A) args s 0 0 A) (F0 m 46 ls []) := by
          intro n
          induction n with
          | zero => intro l4 l1 l2 l3 mg mkept mspare mhasKept mwas mwasMany manew mthrown mtext mlength mspot mvalue merror mtold mtolds H23 locs ls hf hP hD hS hl; exact absurd hf (by simp [f_X6_isCovered_L46])
          | succ n ih =>
            intro l4 l1 l2 l3 mg mkept mspare mhasKept mwas mwasMany manew mthrown mtext mlength mspot mvalue merror mtold mtolds H23 locs ls hf hP hD hS hl
            have hf : f_X6_isCovered_S46 (f_X6_isCovered_L46 n) l4 l1 l2 l3 (mg, mkept, mspare, mhasKept, mwas, mwasMany, manew, mthrown, mtext, mlength, mspot, mvalue, merror, mtold, mtolds) = some R := hf
            unfold f_X6_isCovered_S46 at hf
            dsimp only at hf
            refine lv_iload hx hb dX6_isCovered_46 (lv_at hl 0 rfl) ?_
            refine lv_iload_n hx hb dX6_isCovered_48 rfl (lv_at hl 4 rfl) ?_
            refine lv_icmp_gt (tgt := 83) hx hb dX6_isCovered_49 (by decide) (fun c24 => ?_) (fun c24 => ?_)
            · have hf := ite_T c24 hf
              refine lv_iload hx hb dX6_isCovered_83 (lv_at hl 0 rfl) ?_
              refine lv_iload_n hx hb dX6_isCovered_85 rfl (lv_at hl 4 rfl) ?_
              refine lv_icmp_le (tgt := 93) hx hb dX6_isCovered_86 (by decide) (fun c25 => ?_) (fun c25 => ?_)
              · have hf := ite_T c25 hf
                refine lv_iconst (v := 0) hx hb dX6_isCovered_93 (by decide) ?_
                have hR := Option.some.inj hf
                subst hR
                exact W.zret (v := (0 : Int32)) hx hb hr (by decide) (fun t ht hW => ⟨⟨(0 : Int32), (), rfl, rfl, by rw [ht]; exact hP, va_K.moved hW.alike hK, hD⟩, hS.F ht⟩) hS.2.2 dX6_isCovered_94
              · have hf := ite_F c25 hf
                refine lv_iconst (v := 1) hx hb dX6_isCovered_89 (by decide) ?_
                refine lv_goto (tgt := 94) hx hb dX6_isCovered_90 (by decide) ?_
                have hR := Option.some.inj hf
                subst hR
                exact W.zret (v := (1 : Int32)) hx hb hr (by decide) (fun t ht hW => ⟨⟨(1 : Int32), (), rfl, rfl, by rw [ht]; exact hP, va_K.moved hW.alike hK, hD⟩, hS.F ht⟩) hS.2.2 dX6_isCovered_94
            · have hf := ite_F c24 hf
              refine lv_aload_n hx hb dX6_isCovered_52 rfl (lv_at hl 1 rfl) ?_
              refine lv_iload_n hx hb dX6_isCovered_53 rfl (lv_at hl 2 rfl) ?_
              refine lv_iload hx hb dX6_isCovered_54 (lv_at hl 0 rfl) ?_
              obtain ⟨R27, g28, hf⟩ := bd_B hf
              obtain ⟨r26, rfl⟩ : ∃ z, z = R27 := ⟨_, rfl⟩
              have hPc := hP
              have hDc := hD
              have hFc := va_free (wc := wM_ m0 m_g m_kept m_spare m_was m_text m_told cI mg mkept mspare mhasKept mwas mwasMany manew mthrown mtext mlength mspot mvalue merror mtold mtolds) hD hS hA [0, 1, 2, 3, 4, 5, 6] rfl
              refine va_calli (va_runV (As := [.int l1, .int l4]) (rest := []) ⟨hx, hb, hml, hown, hts⟩ (c_X6_valid l dC dI cI cZ cC cJ cD m0 m_g m_kept m_spare m_was m_text m_told H23.size mg mkept mspare mhasKept mwas mwasMany manew mthrown mtext mlength mspot mvalue merror mtold mtolds l1 l4 r26 g28) (cwV 2 hts gX6_isCovered_X6_valid rfl rfl rfl hs_X6_valid ⟨Nat.le_of_ble_eq_true rfl, Nat.le_of_ble_eq_true rfl⟩) (preV_ (ci := 8) (q0 := 0) hPc hK hDc rfl rfl rfl rfl) rfl rfl hl.1 rfl (lv_room (Nat.le_of_ble_eq_true rfl)) dX6_isCovered_56 ⟨Nat.le_of_ble_eq_true rfl, Nat.le_of_ble_eq_true rfl⟩) hS (fun q _ h => hFc q h) hFc (fun z30 u t H29 locs ht hvm hw hB hz1 hk1 hS => ?_)
              have hw : r26 = z30 := hw.symm
              subst hw
              obtain ⟨hP, hD⟩ := aft_ (Wr := []) (Wc' := wM_ m0 m_g m_kept m_spare m_was m_text m_told cI mg mkept mspare mhasKept mwas mwasMany manew mthrown mtext mlength mspot mvalue merror mtold mtolds) (W2 := wM_ m0 m_g m_kept m_spare m_was m_text m_told cI mg mkept mspare mhasKept mwas mwasMany manew mthrown mtext mlength mspot mvalue merror mtold mtolds) hP hD [0, 1, 2, 3, 4, 5, 6] [] [0, 1, 2, 3, 4, 5, 6] rfl rfl (by decide) (by decide) (by decide) hk1 hFc hB ht rfl
              refine lv_if_lt (tgt := 83) hx hb dX6_isCovered_59 (by decide) (fun c31 => ?_) (fun c31 => ?_)
              · have hf := ite_T c31 hf
                refine lv_iload hx hb dX6_isCovered_83 (lv_at hl 0 rfl) ?_
                refine lv_iload_n hx hb dX6_isCovered_85 rfl (lv_at hl 4 rfl) ?_
                refine lv_icmp_le (tgt := 93) hx hb dX6_isCovered_86 (by decide) (fun c32 => ?_) (fun c32 => ?_)
                · have hf := ite_T c32 hf
                  refine lv_iconst (v := 0) hx hb dX6_isCovered_93 (by decide) ?_
                  have hR := Option.some.inj hf
                  subst hR
                  exact W.zret (v := (0 : Int32)) hx hb hr (by decide) (fun t ht hW => ⟨⟨(0 : Int32), (), rfl, rfl, by rw [ht]; exact hP, va_K.moved hW.alike hK, hD⟩, hS.F ht⟩) hS.2.2 dX6_isCovered_94
                · have hf := ite_F c32 hf
                  refine lv_iconst (v := 1) hx hb dX6_isCovered_89 (by decide) ?_
                  refine lv_goto (tgt := 94) hx hb dX6_isCovered_90 (by decide) ?_
                  have hR := Option.some.inj hf
                  subst hR
                  exact W.zret (v := (1 : Int32)) hx hb hr (by decide) (fun t ht hW => ⟨⟨(1 : Int32), (), rfl, rfl, by rw [ht]; exact hP, va_K.moved hW.alike hK, hD⟩, hS.F ht⟩) hS.2.2 dX6_isCovered_94
              · have hf := ite_F c31 hf
                refine lv_aload_n hx hb dX6_isCovered_62 rfl (lv_at hl 1 rfl) ?_
                refine va_get (D := (dC, dI)) (ci := 8) (v := .ref m_g) (C := RX6) (T := TX6) (N := 15) hx hb hts inX6_ hown hK hP 0 rfl rfl 0 (by decide) fl7_ (fun _ h9 => h9) rfl dX6_isCovered_63 ?_
                refine lv_sipush (v := 190) hx hb dX6_isCovered_66 (by decide) ?_
                refine lv_aload_n hx hb dX6_isCovered_69 rfl (lv_at hl 1 rfl) ?_
                refine lv_iload_n hx hb dX6_isCovered_70 rfl (lv_at hl 2 rfl) ?_
                refine lv_iload hx hb dX6_isCovered_71 (lv_at hl 0 rfl) ?_
                obtain ⟨R34, g35, hf⟩ := bd_B hf
                obtain ⟨r33, rfl⟩ : ∃ z, z = R34 := ⟨_, rfl⟩
                have hPc := hP
                have hDc := hD
                have hFc := va_free (wc := wM_ m0 m_g m_kept m_spare m_was m_text m_told cI mg mkept mspare mhasKept mwas mwasMany manew mthrown mtext mlength mspot mvalue merror mtold mtolds) hD hS hA [0, 1, 2, 3, 4, 5, 6] rfl
                refine va_calli (va_runV (As := [.int l1, .int l4]) (rest := [.int 190, .ref m_g]) ⟨hx, hb, hml, hown, hts⟩ (c_X6_valid l dC dI cI cZ cC cJ cD m0 m_g m_kept m_spare m_was m_text m_told H29.size mg mkept mspare mhasKept mwas mwasMany manew mthrown mtext mlength mspot mvalue merror mtold mtolds l1 l4 r33 g35) (cwV 2 hts gX6_isCovered_X6_valid rfl rfl rfl hs_X6_valid ⟨Nat.le_of_ble_eq_true rfl, Nat.le_of_ble_eq_true rfl⟩) (preV_ (ci := 8) (q0 := 0) hPc hK hDc rfl rfl rfl rfl) rfl rfl hl.1 rfl (lv_room (Nat.le_of_ble_eq_true rfl)) dX6_isCovered_73 ⟨Nat.le_of_ble_eq_true rfl, Nat.le_of_ble_eq_true rfl⟩) hS (fun q _ h => hFc q h) hFc (fun z37 u t H36 locs ht hvm hw hB hz1 hk1 hS => ?_)
                have hw : r33 = z37 := hw.symm
                subst hw
                obtain ⟨hP, hD⟩ := aft_ (Wr := []) (Wc' := wM_ m0 m_g m_kept m_spare m_was m_text m_told cI mg mkept mspare mhasKept mwas mwasMany manew mthrown mtext mlength mspot mvalue merror mtold mtolds) (W2 := wM_ m0 m_g m_kept m_spare m_was m_text m_told cI mg mkept mspare mhasKept mwas mwasMany manew mthrown mtext mlength mspot mvalue merror mtold mtolds) hP hD [0, 1, 2, 3, 4, 5, 6] [] [0, 1, 2, 3, 4, 5, 6] rfl rfl (by decide) (by decide) (by decide) hk1 hFc hB ht rfl
                refine lv_iadd hx hb dX6_isCovered_76 ?_
                obtain ⟨h38, hf⟩ := gd_T hf
                refine va_iald hx hb hK hP 1 0 rfl rfl h38 dX6_isCovered_77 ?_
                refine lv_istore (lv' := [(4, .int (mg ((190 + r33).toNatClampNeg))), (0, .ref m0), (1, .int l1), (2, .int l2), (3, .int l3)]) hx hb dX6_isCovered_78 hl (by decide) rfl (fun ls hl => ?_)
                refine lv_goto (tgt := 46) hx hb dX6_isCovered_80 (by decide) ?_
                exact ih (mg ((190 + r33).toNatClampNeg)) l1 l2 l3 mg mkept mspare mhasKept mwas mwasMany manew mthrown mtext mlength mspot mvalue merror mtold mtolds _ _ _ hf hP hD hS (lv_sub hl [0, 1, 2, 3, 4] rfl)
        exact lp46 fu_ a2 a1 a2 a3 mg mkept mspare mhasKept mwas mwasMany manew (0 : Int32) mtext mlength mspot mvalue merror mtold mtolds _ _ _ hf hP hD hS hl
theorem hs_X6_isCovered : yX6_isCovered.cls = RX6 ∧ yX6_isCovered.cls ≠ "java/lang/invoke/MethodHandle" ∧ yX6_isCovered.cls ≠ "java/lang/invoke/VarHandle" ∧ (parseMethodDescriptor yX6_isCovered.desc).map (fun d => d.parameters.length) = some 3 := by decide +kernel
