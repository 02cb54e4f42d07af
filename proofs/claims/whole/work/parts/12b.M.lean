set_option maxRecDepth 20000 in
theorem in_X6_factsOf_X6 : ∀ w ∈ wsX60, w ∈ wsX6_factsOf := by decide +kernel
def f_X6_factsOf_S5 (k_ : Int32 → Int32 → Int32 → Int32 → tM_ → Option (Int32)) (l4 : Int32) (l3 : Int32) (l1 : Int32) (l2 : Int32) (M_ : tM_) : Option (Int32) :=
match M_ with
| (mg, mkept, mspare, mhasKept, mwas, mwasMany, manew, mthrown, mtext, mlength, mspot, mvalue, merror, mtold, mtolds) =>
gd_ (1 : Int32) 610 (
if (mg ((1 : Int32).toNatClampNeg)) ≤ l4 then
some l3
else
gd_ (430 + l4) 610 (
if (mg ((430 + l4).toNatClampNeg)) < l2 then
k_ (l4 + 1) (l3 + 0) l1 l2 (mg, mkept, mspare, mhasKept, mwas, mwasMany, manew, mthrown, mtext, mlength, mspot, mvalue, merror, mtold, mtolds)
else
bd_ (f_X6_versionOf l4 (mg, mkept, mspare, mhasKept, mwas, mwasMany, manew, mthrown, mtext, mlength, mspot, mvalue, merror, mtold, mtolds)) (fun r6 =>
if r6 = l1 then
k_ (l4 + 1) (l3 + 1) l1 l2 (mg, mkept, mspare, mhasKept, mwas, mwasMany, manew, mthrown, mtext, mlength, mspot, mvalue, merror, mtold, mtolds)
else
k_ (l4 + 1) (l3 + 0) l1 l2 (mg, mkept, mspare, mhasKept, mwas, mwasMany, manew, mthrown, mtext, mlength, mspot, mvalue, merror, mtold, mtolds))))
def f_X6_factsOf_L5 : Nat → Int32 → Int32 → Int32 → Int32 → tM_ → Option (Int32)
  | 0 => fun _ _ _ _ _ => none
  | n + 1 => fun l4 l3 l1 l2 M_ => f_X6_factsOf_S5 (f_X6_factsOf_L5 n) l4 l3 l1 l2 M_
def f_X6_factsOf (a1 : Int32) (a2 : Int32) (M_ : tM_) : Option (Int32) :=
match M_ with
| (mg, mkept, mspare, mhasKept, mwas, mwasMany, manew, mthrown, mtext, mlength, mspot, mvalue, merror, mtold, mtolds) =>
f_X6_factsOf_L5 fu_ (0 : Int32) (0 : Int32) a1 a2 (mg, mkept, mspare, mhasKept, mwas, mwasMany, manew, mthrown, mtext, mlength, mspot, mvalue, merror, mtold, mtolds)
abbrev rm_X6_factsOf : Room := { frames := 3, cells := 0, slots := 0, locals := 66 }
set_option maxHeartbeats 4000000 in
set_option maxRecDepth 100000 in
theorem c_X6_factsOf (l : Launch) (dC : Nat → ClassId) (dI : Nat → Nat → Nat) (cI cZ cC cJ cD : ClassId) (m0 m_g m_kept m_spare m_was m_text m_told : Nat) (sz : Nat) (mg : Nat → Int32) (mkept : Nat → Int32) (mspare : Nat → Int32) (mhasKept : Int32) (mwas : Nat → Int32) (mwasMany : Int32) (manew : Int32) (mthrown : Int32) (mtext : Nat → Int32) (mlength : Int32) (mspot : Int32) (mvalue : Int32) (merror : Int32) (mtold : Nat → Int32) (mtolds : Int32) (a1 : Int32) (a2 : Int32) (R : Int32) (hf : f_X6_factsOf a1 a2 (mg, mkept, mspare, mhasKept, mwas, mwasMany, manew, mthrown, mtext, mlength, mspot, mvalue, merror, mtold, mtolds) = some R) : Met l yX6_factsOf wsX6_factsOf rm_X6_factsOf (Pc_ (dC, dI) (ty_ cI cZ cC cJ cD) (wM_ m0 m_g m_kept m_spare m_was m_text m_told cI mg mkept mspare mhasKept mwas mwasMany manew mthrown mtext mlength mspot mvalue merror mtold mtolds) sz [.ref m0, .int a1, .int a2]) (Qi_ (dC, dI) (ty_ cI cZ cC cJ cD) R (wM_ m0 m_g m_kept m_spare m_was m_text m_told cI mg mkept mspare mhasKept mwas mwasMany manew mthrown mtext mlength mspot mvalue merror mtold mtolds) (va_A (wM_ m0 m_g m_kept m_spare m_was m_text m_told cI mg mkept mspare mhasKept mwas mwasMany manew mthrown mtext mlength mspot mvalue merror mtold mtolds) sz)) 0 0 (va_A (wM_ m0 m_g m_kept m_spare m_was m_text m_told cI mg mkept mspare mhasKept mwas mwasMany manew mthrown mtext mlength mspot mvalue merror mtold mtolds) sz) := by
  refine met_ (cc := cX6_factsOf) (maxL := 5) (ret := (some .int)) (Qcf := fun A => Qi_ (dC, dI) (ty_ cI cZ cC cJ cD) R (wM_ m0 m_g m_kept m_spare m_was m_text m_told cI mg mkept mspare mhasKept mwas mwasMany manew mthrown mtext mlength mspot mvalue merror mtold mtolds) A) (by decide) rfl (Nat.le_of_ble_eq_true rfl) ?_
  intro p e s m args below meth c A ls hx hb hr hts hown hlocks hml hA hP hK hD hl
  have hown : s.vm.findClass RX6 = some m.cls := hown
  have hl : lv_has ls 5 [(0, .ref m0), (1, .int a1), (2, .int a2)] := hl
  have hS : va_S A s.heap s.heap [] := va_S.rf
  have fl7_ : (Cond.fieldLink RX6 7 "DimensionLoaderModel" "g" "[I").before args s = true := hts _ (List.mem_of_getElem? (i := 1) rfl)
  have inX6_ : ∀ w ∈ wsX60, w ∈ wsX6_factsOf := in_X6_factsOf_X6
  unfold f_X6_factsOf at hf
  dsimp only at hf
  refine lv_iconst (v := 0) hx hb dX6_factsOf_0 (by decide) ?_
  refine lv_istore_n (lv' := [(3, .int 0), (0, .ref m0), (1, .int a1), (2, .int a2)]) hx hb dX6_factsOf_1 rfl hl (by decide) rfl (fun ls hl => ?_)
  refine lv_iconst (v := 0) hx hb dX6_factsOf_2 (by decide) ?_
  refine lv_istore (lv' := [(4, .int 0), (3, .int 0), (0, .ref m0), (1, .int a1), (2, .int a2)]) hx hb dX6_factsOf_3 hl (by decide) rfl (fun ls hl => ?_)
  have lp5 : ∀ (n : Nat) (l4 : Int32) (l3 : Int32) (l1 : Int32) (l2 : Int32) (mg : Nat → Int32) (mkept : Nat → Int32) (mspare : Nat → Int32) (mhasKept : Int32) (mwas : Nat → Int32) (mwasMany : Int32) (manew : Int32) (mthrown : Int32) (mtext : Nat → Int32) (mlength : Int32) (mspot : Int32) (mvalue : Int32) (merror : Int32) (mtold : Nat → Int32) (mtolds : Int32) (H1 : Heap) (locs : List Loc) (ls : Array Slot), f_X6_factsOf_L5 n l4 l3 l1 l2 (mg, mkept, mspare, mhasKept, mwas, mwasMany, manew, mthrown, mtext, mlength, mspot, mvalue, merror, mtold, mtolds) = some R → va_P (dC, dI) vwCl (wM_ m0 m_g m_kept m_spare m_was m_text m_told cI mg mkept mspare mhasKept mwas mwasMany manew mthrown mtext mlength mspot mvalue merror mtold mtolds) H1 → va_D A (wM_ m0 m_g m_kept m_spare m_was m_text m_told cI mg mkept mspare mhasKept mwas mwasMany manew mthrown mtext mlength mspot mvalue merror mtold mtolds) → va_S A s.heap H1 locs → lv_has ls 5 [(4, .int l4), (3, .int l3), (0, .ref m0), (1, .int l1), (2, .int l2)] → W p l e (headSpec wsX6_factsOf rm_X6_factsOf).room s m args below meth c H1 locs 0 0 (MQ below (Qi_ (dC, dI) (ty_ cI cZ cC cJ cD) R (wM_ m0 m_g m_kept m_spare m_was m_text m_told cI mg mkept mspare mhasKept mwas mwasMany manew mthrown mtext mlength mspot mvalue merror mtold mtolds) A) args s 0 0 A) (F0 m 5 ls []) := by
    intro n
    induction n with
    | zero => intro l4 l3 l1 l2 mg mkept mspare mhasKept mwas mwasMany manew mthrown mtext mlength mspot mvalue merror mtold mtolds H1 locs ls hf hP hD hS hl; exact absurd hf (by simp [f_X6_factsOf_L5])
    | succ n ih =>
      intro l4 l3 l1 l2 mg mkept mspare mhasKept mwas mwasMany manew mthrown mtext mlength mspot mvalue merror mtold mtolds H1 locs ls hf hP hD hS hl
      have hf : f_X6_factsOf_S5 (f_X6_factsOf_L5 n) l4 l3 l1 l2 (mg, mkept, mspare, mhasKept, mwas, mwasMany, manew, mthrown, mtext, mlength, mspot, mvalue, merror, mtold, mtolds) = some R := hf
      unfold f_X6_factsOf_S5 at hf
      dsimp only at hf
      refine lv_iload hx hb dX6_factsOf_5 (lv_at hl 0 rfl) ?_
      refine lv_aload_n hx hb dX6_factsOf_7 rfl (lv_at hl 2 rfl) ?_
      refine va_get (D := (dC, dI)) (ci := 8) (v := .ref m_g) (C := RX6) (T := TX6) (N := 15) hx hb hts inX6_ hown hK hP 0 rfl rfl 0 (by decide) fl7_ (fun _ h9 => h9) rfl dX6_factsOf_8 ?_
      refine lv_iconst (v := 1) hx hb dX6_factsOf_11 (by decide) ?_
      obtain ⟨h2, hf⟩ := gd_T hf
      refine va_iald hx hb hK hP 1 0 rfl rfl h2 dX6_factsOf_12 ?_
      refine lv_icmp_ge (tgt := 55) hx hb dX6_factsOf_13 (by decide) (fun c3 => ?_) (fun c3 => ?_)
      · have hf := ite_T c3 hf
        refine lv_iload_n hx hb dX6_factsOf_55 rfl (lv_at hl 1 rfl) ?_
        have hR := Option.some.inj hf
        subst hR
        exact W.iret (v := l3) hx hb hr (fun t ht hW => ⟨⟨l3, (), rfl, rfl, by rw [ht]; exact hP, va_K.moved hW.alike hK, hD⟩, hS.F ht⟩) hS.2.2 dX6_factsOf_56
      · have hf := ite_F c3 hf
        refine lv_iload_n hx hb dX6_factsOf_16 rfl (lv_at hl 1 rfl) ?_
        refine lv_aload_n hx hb dX6_factsOf_17 rfl (lv_at hl 2 rfl) ?_
        refine va_get (D := (dC, dI)) (ci := 8) (v := .ref m_g) (C := RX6) (T := TX6) (N := 15) hx hb hts inX6_ hown hK hP 0 rfl rfl 0 (by decide) fl7_ (fun _ h9 => h9) rfl dX6_factsOf_18 ?_
        refine lv_sipush (v := 430) hx hb dX6_factsOf_21 (by decide) ?_
        refine lv_iload hx hb dX6_factsOf_24 (lv_at hl 0 rfl) ?_
        refine lv_iadd hx hb dX6_factsOf_26 ?_
        obtain ⟨h4, hf⟩ := gd_T hf
        refine va_iald hx hb hK hP 1 0 rfl rfl h4 dX6_factsOf_27 ?_
        refine lv_iload_n hx hb dX6_factsOf_28 rfl (lv_at hl 4 rfl) ?_
        refine lv_icmp_lt (tgt := 46) hx hb dX6_factsOf_29 (by decide) (fun c5 => ?_) (fun c5 => ?_)
        · have hf := ite_T c5 hf
          refine lv_iconst (v := 0) hx hb dX6_factsOf_46 (by decide) ?_
          refine lv_iadd hx hb dX6_factsOf_47 ?_
          refine lv_istore_n (lv' := [(3, .int (l3 + 0)), (4, .int l4), (0, .ref m0), (1, .int l1), (2, .int l2)]) hx hb dX6_factsOf_48 rfl hl (by decide) rfl (fun ls hl => ?_)
          refine lv_iinc (v := l4 + 1) (lv' := [(4, .int (l4 + 1)), (3, .int (l3 + 0)), (0, .ref m0), (1, .int l1), (2, .int l2)]) hx hb dX6_factsOf_49 hl (k := 1) rfl (by first | rfl | decide) (by decide) rfl (fun ls hl => ?_)
          refine lv_goto (tgt := 5) hx hb dX6_factsOf_52 (by decide) ?_
          exact ih (l4 + 1) (l3 + 0) l1 l2 mg mkept mspare mhasKept mwas mwasMany manew mthrown mtext mlength mspot mvalue merror mtold mtolds _ _ _ hf hP hD hS (lv_sub hl [0, 1, 2, 3, 4] rfl)
        · have hf := ite_F c5 hf
          refine lv_aload_n hx hb dX6_factsOf_32 rfl (lv_at hl 2 rfl) ?_
          refine lv_iload hx hb dX6_factsOf_33 (lv_at hl 0 rfl) ?_
          obtain ⟨R7, g8, hf⟩ := bd_B hf
          obtain ⟨r6, rfl⟩ : ∃ z, z = R7 := ⟨_, rfl⟩
          have hPc := hP
          have hDc := hD
          have hFc := va_free (wc := wM_ m0 m_g m_kept m_spare m_was m_text m_told cI mg mkept mspare mhasKept mwas mwasMany manew mthrown mtext mlength mspot mvalue merror mtold mtolds) hD hS hA [0, 1, 2, 3, 4, 5, 6] rfl
          refine va_calli (va_runV (As := [.int l4]) (rest := [.int l3]) ⟨hx, hb, hml, hown, hts⟩ (c_X6_versionOf l dC dI cI cZ cC cJ cD m0 m_g m_kept m_spare m_was m_text m_told H1.size mg mkept mspare mhasKept mwas mwasMany manew mthrown mtext mlength mspot mvalue merror mtold mtolds l4 r6 g8) (cwV 1 hts gX6_factsOf_X6_versionOf rfl rfl rfl hs_X6_versionOf ⟨Nat.le_of_ble_eq_true rfl, Nat.le_of_ble_eq_true rfl⟩) (preV_ (ci := 8) (q0 := 0) hPc hK hDc rfl rfl rfl rfl) rfl rfl hl.1 rfl (lv_room (Nat.le_of_ble_eq_true rfl)) dX6_factsOf_35 ⟨Nat.le_of_ble_eq_true rfl, Nat.le_of_ble_eq_true rfl⟩) hS (fun q _ h => hFc q h) hFc (fun z10 u t H9 locs ht hvm hw hB hz1 hk1 hS => ?_)
          have hw : r6 = z10 := hw.symm
          subst hw
          obtain ⟨hP, hD⟩ := aft_ (Wr := []) (Wc' := wM_ m0 m_g m_kept m_spare m_was m_text m_told cI mg mkept mspare mhasKept mwas mwasMany manew mthrown mtext mlength mspot mvalue merror mtold mtolds) (W2 := wM_ m0 m_g m_kept m_spare m_was m_text m_told cI mg mkept mspare mhasKept mwas mwasMany manew mthrown mtext mlength mspot mvalue merror mtold mtolds) hP hD [0, 1, 2, 3, 4, 5, 6] [] [0, 1, 2, 3, 4, 5, 6] rfl rfl (by decide) (by decide) (by decide) hk1 hFc hB ht rfl
          refine lv_iload_n hx hb dX6_factsOf_38 rfl (lv_at hl 3 rfl) ?_
          refine lv_icmp_ne (tgt := 46) hx hb dX6_factsOf_39 (by decide) (fun c11 => ?_) (fun c11 => ?_)
          · have hf := ite_F c11 hf
            refine lv_iconst (v := 0) hx hb dX6_factsOf_46 (by decide) ?_
            refine lv_iadd hx hb dX6_factsOf_47 ?_
            refine lv_istore_n (lv' := [(3, .int (l3 + 0)), (4, .int l4), (0, .ref m0), (1, .int l1), (2, .int l2)]) hx hb dX6_factsOf_48 rfl hl (by decide) rfl (fun ls hl => ?_)
            refine lv_iinc (v := l4 + 1) (lv' := [(4, .int (l4 + 1)), (3, .int (l3 + 0)), (0, .ref m0), (1, .int l1), (2, .int l2)]) hx hb dX6_factsOf_49 hl (k := 1) rfl (by first | rfl | decide) (by decide) rfl (fun ls hl => ?_)
            refine lv_goto (tgt := 5) hx hb dX6_factsOf_52 (by decide) ?_
            exact ih (l4 + 1) (l3 + 0) l1 l2 mg mkept mspare mhasKept mwas mwasMany manew mthrown mtext mlength mspot mvalue merror mtold mtolds _ _ _ hf hP hD hS (lv_sub hl [0, 1, 2, 3, 4] rfl)
          · have hf := ite_T c11 hf
            refine lv_iconst (v := 1) hx hb dX6_factsOf_42 (by decide) ?_
            refine lv_goto (tgt := 47) hx hb dX6_factsOf_43 (by decide) ?_
            refine lv_iadd hx hb dX6_factsOf_47 ?_
            refine lv_istore_n (lv' := [(3, .int (l3 + 1)), (4, .int l4), (0, .ref m0), (1, .int l1), (2, .int l2)]) hx hb dX6_factsOf_48 rfl hl (by decide) rfl (fun ls hl => ?_)
            refine lv_iinc (v := l4 + 1) (lv' := [(4, .int (l4 + 1)), (3, .int (l3 + 1)), (0, .ref m0), (1, .int l1), (2, .int l2)]) hx hb dX6_factsOf_49 hl (k := 1) rfl (by first | rfl | decide) (by decide) rfl (fun ls hl => ?_)
            refine lv_goto (tgt := 5) hx hb dX6_factsOf_52 (by decide) ?_
            exact ih (l4 + 1) (l3 + 1) l1 l2 mg mkept mspare mhasKept mwas mwasMany manew mthrown mtext mlength mspot mvalue merror mtold mtolds _ _ _ hf hP hD hS (lv_sub hl [0, 1, 2, 3, 4] rfl)
  exact lp5 fu_ (0 : Int32) (0 : Int32) a1 a2 mg mkept mspare mhasKept mwas mwasMany manew mthrown mtext mlength mspot mvalue merror mtold mtolds _ _ _ hf hP hD hS hl
theorem hs_X6_factsOf : yX6_factsOf.cls = RX6 ∧ yX6_factsOf.cls ≠ "java/lang/invoke/MethodHandle" ∧ yX6_factsOf.cls ≠ "java/lang/invoke/VarHandle" ∧ (parseMethodDescriptor yX6_factsOf.desc).map (fun d => d.parameters.length) = some 2 := by decide +kernel
set_option maxRecDepth 20000 in
theorem in_X6_close_X6 : ∀ w ∈ wsX60, w ∈ wsX6_close := by decide +kernel
def f_X6_close (a1 : Int32) (a2 : Int32) (M_ : tM_) : Option (Int32 × tM_) :=
match M_ with
| (mg, mkept, mspare, mhasKept, mwas, mwasMany, manew, mthrown, mtext, mlength, mspot, mvalue, merror, mtold, mtolds) =>
bd_ (f_X6_isKey a1) (fun r1 =>
if r1 = 0 then
some ((0 : Int32), (mg, mkept, mspare, mhasKept, mwas, mwasMany, manew, 1, mtext, mlength, mspot, mvalue, merror, mtold, mtolds))
else
bd_ (f_X6_isDay a2) (fun r8 =>
if r8 = 0 then
some ((0 : Int32), (mg, mkept, mspare, mhasKept, mwas, mwasMany, manew, 2, mtext, mlength, mspot, mvalue, merror, mtold, mtolds))
else
bd_ (f_X6_valid a1 a2 (mg, mkept, mspare, mhasKept, mwas, mwasMany, manew, 0, mtext, mlength, mspot, mvalue, merror, mtold, mtolds)) (fun r16 =>
if 0 ≤ r16 then
gd_ (130 + r16) 610 (
if (mg ((130 + r16).toNatClampNeg)) = a2 then
bd_ (f_X6_fails (4 : Int32) (mg, mkept, mspare, mhasKept, mwas, mwasMany, manew, 0, mtext, mlength, mspot, mvalue, merror, mtold, mtolds)) (fun (r24, (mg25, mk26, ms27, mh28, mw29, mw30, ma31, mt32, mt33, ml34, ms35, mv36, me37, mt38, mt39)) =>
some (r24, (mg25, mk26, ms27, mh28, mw29, mw30, ma31, mt32, mt33, ml34, ms35, mv36, me37, mt38, mt39)))
else
bd_ (f_X6_factsOf r16 a2 (mg, mkept, mspare, mhasKept, mwas, mwasMany, manew, 0, mtext, mlength, mspot, mvalue, merror, mtold, mtolds)) (fun r44 =>
if r44 ≤ 0 then
bd_ (f_X6_begins (mg, mkept, mspare, mhasKept, mwas, mwasMany, manew, 0, mtext, mlength, mspot, mvalue, merror, mtold, mtolds)) (fun (mg50, mk51, ms52, mh53, mw54, mw55, ma56, mt57, mt58, ml59, ms60, mv61, me62, mt63, mt64) =>
gd_ (190 + r16) 610 (
gd_ (190 + r16) 610 (nm_ (upd mg50 ((190 + r16).toNatClampNeg) a2) (fun u72 =>
bd_ (f_X6_ends (u72, mk51, ms52, mh53, mw54, mw55, ma56, mt57, mt58, ml59, ms60, mv61, me62, mt63, mt64)) (fun (mg74, mk75, ms76, mh77, mw78, mw79, ma80, mt81, mt82, ml83, ms84, mv85, me86, mt87, mt88) =>
some (mg50 ((190 + r16).toNatClampNeg), (mg74, mk75, ms76, mh77, mw78, mw79, ma80, mt81, mt82, ml83, ms84, mv85, me86, mt87, mt88)))))))
else
bd_ (f_X6_fails (4 : Int32) (mg, mkept, mspare, mhasKept, mwas, mwasMany, manew, 0, mtext, mlength, mspot, mvalue, merror, mtold, mtolds)) (fun (r93, (mg94, mk95, ms96, mh97, mw98, mw99, ma100, mt101, mt102, ml103, ms104, mv105, me106, mt107, mt108)) =>
some (r93, (mg94, mk95, ms96, mh97, mw98, mw99, ma100, mt101, mt102, ml103, ms104, mv105, me106, mt107, mt108)))))
else
bd_ (f_X6_fails (3 : Int32) (mg, mkept, mspare, mhasKept, mwas, mwasMany, manew, 0, mtext, mlength, mspot, mvalue, merror, mtold, mtolds)) (fun (r113, (mg114, mk115, ms116, mh117, mw118, mw119, ma120, mt121, mt122, ml123, ms124, mv125, me126, mt127, mt128)) =>
some (r113, (mg114, mk115, ms116, mh117, mw118, mw119, ma120, mt121, mt122, ml123, ms124, mv125, me126, mt127, mt128))))))
abbrev rm_X6_close : Room := { frames := 4, cells := 0, slots := 0, locals := 90 }
set_option maxHeartbeats 4000000 in
set_option maxRecDepth 100000 in
theorem c_X6_close (l : Launch) (dC : Nat → ClassId) (dI : Nat → Nat → Nat) (cI cZ cC cJ cD : ClassId) (m0 m_g m_kept m_spare m_was m_text m_told : Nat) (sz : Nat) (mg : Nat → Int32) (mkept : Nat → Int32) (mspare : Nat → Int32) (mhasKept : Int32) (mwas : Nat → Int32) (mwasMany : Int32) (manew : Int32) (mthrown : Int32) (mtext : Nat → Int32) (mlength : Int32) (mspot : Int32) (mvalue : Int32) (merror : Int32) (mtold : Nat → Int32) (mtolds : Int32) (a1 : Int32) (a2 : Int32) (R : Int32 × tM_) (hf : f_X6_close a1 a2 (mg, mkept, mspare, mhasKept, mwas, mwasMany, manew, mthrown, mtext, mlength, mspot, mvalue, merror, mtold, mtolds) = some R) : Met l yX6_close wsX6_close rm_X6_close (Pc_ (dC, dI) (ty_ cI cZ cC cJ cD) (wM_ m0 m_g m_kept m_spare m_was m_text m_told cI mg mkept mspare mhasKept mwas mwasMany manew mthrown mtext mlength mspot mvalue merror mtold mtolds) sz [.ref m0, .int a1, .int a2]) (Qi_ (dC, dI) (ty_ cI cZ cC cJ cD) R.1 (wM_ m0 m_g m_kept m_spare m_was m_text m_told cI R.2.1 R.2.2.1 R.2.2.2.1 R.2.2.2.2.1 R.2.2.2.2.2.1 R.2.2.2.2.2.2.1 R.2.2.2.2.2.2.2.1 R.2.2.2.2.2.2.2.2.1 R.2.2.2.2.2.2.2.2.2.1 R.2.2.2.2.2.2.2.2.2.2.1 R.2.2.2.2.2.2.2.2.2.2.2.1 R.2.2.2.2.2.2.2.2.2.2.2.2.1 R.2.2.2.2.2.2.2.2.2.2.2.2.2.1 R.2.2.2.2.2.2.2.2.2.2.2.2.2.2.1 R.2.2.2.2.2.2.2.2.2.2.2.2.2.2.2) (va_A (wM_ m0 m_g m_kept m_spare m_was m_text m_told cI mg mkept mspare mhasKept mwas mwasMany manew mthrown mtext mlength mspot mvalue merror mtold mtolds) sz)) 0 0 (va_A (wM_ m0 m_g m_kept m_spare m_was m_text m_told cI mg mkept mspare mhasKept mwas mwasMany manew mthrown mtext mlength mspot mvalue merror mtold mtolds) sz) := by
  refine met_ (cc := cX6_close) (maxL := 5) (ret := (some .int)) (Qcf := fun A => Qi_ (dC, dI) (ty_ cI cZ cC cJ cD) R.1 (wM_ m0 m_g m_kept m_spare m_was m_text m_told cI R.2.1 R.2.2.1 R.2.2.2.1 R.2.2.2.2.1 R.2.2.2.2.2.1 R.2.2.2.2.2.2.1 R.2.2.2.2.2.2.2.1 R.2.2.2.2.2.2.2.2.1 R.2.2.2.2.2.2.2.2.2.1 R.2.2.2.2.2.2.2.2.2.2.1 R.2.2.2.2.2.2.2.2.2.2.2.1 R.2.2.2.2.2.2.2.2.2.2.2.2.1 R.2.2.2.2.2.2.2.2.2.2.2.2.2.1 R.2.2.2.2.2.2.2.2.2.2.2.2.2.2.1 R.2.2.2.2.2.2.2.2.2.2.2.2.2.2.2) A) (by decide) rfl (Nat.le_of_ble_eq_true rfl) ?_
  intro p e s m args below meth c A ls hx hb hr hts hown hlocks hml hA hP hK hD hl
  have hown : s.vm.findClass RX6 = some m.cls := hown
  have hl : lv_has ls 5 [(0, .ref m0), (1, .int a1), (2, .int a2)] := hl
  have hS : va_S A s.heap s.heap [] := va_S.rf
  have fl7_ : (Cond.fieldLink RX6 7 "DimensionLoaderModel" "g" "[I").before args s = true := hts _ (List.mem_of_getElem? (i := 2) rfl)
  have fl32_ : (Cond.fieldLink RX6 32 "DimensionLoaderModel" "thrown" "I").before args s = true := hts _ (List.mem_of_getElem? (i := 1) rfl)
  have inX6_ : ∀ w ∈ wsX60, w ∈ wsX6_close := in_X6_close_X6
  unfold f_X6_close at hf
  dsimp only at hf
  refine lv_aload_n hx hb dX6_close_0 rfl (lv_at hl 0 rfl) ?_
  refine lv_iload_n hx hb dX6_close_1 rfl (lv_at hl 1 rfl) ?_
  obtain ⟨R2, g3, hf⟩ := bd_B hf
  obtain ⟨r1, rfl⟩ : ∃ z, z = R2 := ⟨_, rfl⟩
  have hPc := hP.sub (ws' := []) [] rfl
  have hDc := hD.sub (ws' := []) [] (by decide) rfl
  have hFc := va_free (wc := []) hD hS hA [] rfl
  refine va_calli (va_runS (As := [.int a1]) (rest := [.ref m0]) ⟨hx, hb, hml, hown, hts⟩ (c_X6_isKey l dC dI cI cZ cC cJ cD s.heap.size a1 r1 g3) (cwS 1 hts gX6_close_X6_isKey rfl rfl rfl hs_X6_isKey ⟨Nat.le_of_ble_eq_true rfl, Nat.le_of_ble_eq_true rfl⟩) (preS_ hPc hK hDc rfl) rfl rfl hl.1 rfl (lv_room (Nat.le_of_ble_eq_true rfl)) dX6_close_2 ⟨Nat.le_of_ble_eq_true rfl, Nat.le_of_ble_eq_true rfl⟩) hS (fun q _ h => hFc q h) hFc (fun z5 u t H4 locs ht hvm hw hB hz1 hk1 hS => ?_)
  have hw : r1 = z5 := hw.symm
  subst hw
  obtain ⟨hP, hD⟩ := aft_ (Wr := wM_ m0 m_g m_kept m_spare m_was m_text m_told cI mg mkept mspare mhasKept mwas mwasMany manew mthrown mtext mlength mspot mvalue merror mtold mtolds) (Wc' := []) (W2 := wM_ m0 m_g m_kept m_spare m_was m_text m_told cI mg mkept mspare mhasKept mwas mwasMany manew mthrown mtext mlength mspot mvalue merror mtold mtolds) hP hD [] [0, 1, 2, 3, 4, 5, 6] [0, 1, 2, 3, 4, 5, 6] rfl rfl (by decide) (by decide) (by decide) hk1 hFc hB ht rfl
  refine lv_if_eq (tgt := 23) hx hb dX6_close_5 (by decide) (fun c6 => ?_) (fun c6 => ?_)
  · have hf := ite_T c6 hf
    refine lv_iconst (v := 1) hx hb dX6_close_23 (by decide) ?_
    refine va_put (D := (dC, dI)) (ci := 8) (v := .int 1) (ty := .int) (C := RX6) (T := TX6) (N := 15) hx hb hts inX6_ tyX6 tyX6_ok nmX6 hown hK hP hD hS 0 rfl rfl 7 (by decide) fl32_ (fun _ h9 => h9) rfl (by decide +kernel) (by first | rfl | decide) (by first | rfl | decide) (Nat.le_of_ble_eq_true rfl) dX6_close_24 (fun H7 locs hP hD hS => ?_)
    have hP : va_P (dC, dI) vwCl (wM_ m0 m_g m_kept m_spare m_was m_text m_told cI mg mkept mspare mhasKept mwas mwasMany manew 1 mtext mlength mspot mvalue merror mtold mtolds) H7 := hP
    have hD : va_D A (wM_ m0 m_g m_kept m_spare m_was m_text m_told cI mg mkept mspare mhasKept mwas mwasMany manew 1 mtext mlength mspot mvalue merror mtold mtolds) := hD
    refine lv_aload_n hx hb dX6_close_27 rfl (lv_at hl 0 rfl) ?_
    refine va_get (D := (dC, dI)) (ci := 8) (v := .int 1) (C := RX6) (T := TX6) (N := 15) hx hb hts inX6_ hown hK hP 0 rfl rfl 7 (by decide) fl32_ (fun _ h9 => h9) rfl dX6_close_28 ?_
    refine lv_if_le (tgt := 36) hx hb dX6_close_31 (by decide) (fun c9 => absurd c9 (by decide)) (fun _ => ?_)
    refine lv_iconst (v := 0) hx hb dX6_close_34 (by decide) ?_
    have hR := Option.some.inj hf
    subst hR
    exact W.iret (v := (0 : Int32)) hx hb hr (fun t ht hW => ⟨⟨(0 : Int32), (), rfl, rfl, by rw [ht]; exact hP, va_K.moved hW.alike hK, hD⟩, hS.F ht⟩) hS.2.2 dX6_close_35
  · have hf := ite_F c6 hf
    refine lv_iload_n hx hb dX6_close_8 rfl (lv_at hl 2 rfl) ?_
    obtain ⟨R9, g10, hf⟩ := bd_B hf
    obtain ⟨r8, rfl⟩ : ∃ z, z = R9 := ⟨_, rfl⟩
    have hPc := hP.sub (ws' := []) [] rfl
    have hDc := hD.sub (ws' := []) [] (by decide) rfl
    have hFc := va_free (wc := []) hD hS hA [] rfl
    refine va_calli (va_runS (As := [.int a2]) (rest := [.ref m0]) ⟨hx, hb, hml, hown, hts⟩ (c_X6_isDay l dC dI cI cZ cC cJ cD H4.size a2 r8 g10) (cwS 1 hts gX6_close_X6_isDay rfl rfl rfl hs_X6_isDay ⟨Nat.le_of_ble_eq_true rfl, Nat.le_of_ble_eq_true rfl⟩) (preS_ hPc hK hDc rfl) rfl rfl hl.1 rfl (lv_room (Nat.le_of_ble_eq_true rfl)) dX6_close_9 ⟨Nat.le_of_ble_eq_true rfl, Nat.le_of_ble_eq_true rfl⟩) hS (fun q _ h => hFc q h) hFc (fun z12 u t H11 locs ht hvm hw hB hz1 hk1 hS => ?_)
    have hw : r8 = z12 := hw.symm
    subst hw
    obtain ⟨hP, hD⟩ := aft_ (Wr := wM_ m0 m_g m_kept m_spare m_was m_text m_told cI mg mkept mspare mhasKept mwas mwasMany manew mthrown mtext mlength mspot mvalue merror mtold mtolds) (Wc' := []) (W2 := wM_ m0 m_g m_kept m_spare m_was m_text m_told cI mg mkept mspare mhasKept mwas mwasMany manew mthrown mtext mlength mspot mvalue merror mtold mtolds) hP hD [] [0, 1, 2, 3, 4, 5, 6] [0, 1, 2, 3, 4, 5, 6] rfl rfl (by decide) (by decide) (by decide) hk1 hFc hB ht rfl
    refine lv_if_eq (tgt := 19) hx hb dX6_close_12 (by decide) (fun c13 => ?_) (fun c13 => ?_)
    · have hf := ite_T c13 hf
      refine lv_iconst (v := 2) hx hb dX6_close_19 (by decide) ?_
      refine lv_goto (tgt := 24) hx hb dX6_close_20 (by decide) ?_
      refine va_put (D := (dC, dI)) (ci := 8) (v := .int 2) (ty := .int) (C := RX6) (T := TX6) (N := 15) hx hb hts inX6_ tyX6 tyX6_ok nmX6 hown hK hP hD hS 0 rfl rfl 7 (by decide) fl32_ (fun _ h9 => h9) rfl (by decide +kernel) (by first | rfl | decide) (by first | rfl | decide) (Nat.le_of_ble_eq_true rfl) dX6_close_24 (fun H14 locs hP hD hS => ?_)
      have hP : va_P (dC, dI) vwCl (wM_ m0 m_g m_kept m_spare m_was m_text m_told cI mg mkept mspare mhasKept mwas mwasMany manew 2 mtext mlength mspot mvalue merror mtold mtolds) H14 := hP
      have hD : va_D A (wM_ m0 m_g m_kept m_spare m_was m_text m_told cI mg mkept mspare mhasKept mwas mwasMany manew 2 mtext mlength mspot mvalue merror mtold mtolds) := hD
      refine lv_aload_n hx hb dX6_close_27 rfl (lv_at hl 0 rfl) ?_
      refine va_get (D := (dC, dI)) (ci := 8) (v := .int 2) (C := RX6) (T := TX6) (N := 15) hx hb hts inX6_ hown hK hP 0 rfl rfl 7 (by decide) fl32_ (fun _ h9 => h9) rfl dX6_close_28 ?_
      refine lv_if_le (tgt := 36) hx hb dX6_close_31 (by decide) (fun c9 => absurd c9 (by decide)) (fun _ => ?_)
      refine lv_iconst (v := 0) hx hb dX6_close_34 (by decide) ?_
      have hR := Option.some.inj hf
      subst hR
      exact W.iret (v := (0 : Int32)) hx hb hr (fun t ht hW => ⟨⟨(0 : Int32), (), rfl, rfl, by rw [ht]; exact hP, va_K.moved hW.alike hK, hD⟩, hS.F ht⟩) hS.2.2 dX6_close_35
    · have hf := ite_F c13 hf
      refine lv_iconst (v := 0) hx hb dX6_close_15 (by decide) ?_
      refine lv_goto (tgt := 24) hx hb dX6_close_16 (by decide) ?_
      refine va_put (D := (dC, dI)) (ci := 8) (v := .int 0) (ty := .int) (C := RX6) (T := TX6) (N := 15) hx hb hts inX6_ tyX6 tyX6_ok nmX6 hown hK hP hD hS 0 rfl rfl 7 (by decide) fl32_ (fun _ h9 => h9) rfl (by decide +kernel) (by first | rfl | decide) (by first | rfl | decide) (Nat.le_of_ble_eq_true rfl) dX6_close_24 (fun H15 locs hP hD hS => ?_)
      have hP : va_P (dC, dI) vwCl (wM_ m0 m_g m_kept m_spare m_was m_text m_told cI mg mkept mspare mhasKept mwas mwasMany manew 0 mtext mlength mspot mvalue merror mtold mtolds) H15 := hP
      have hD : va_D A (wM_ m0 m_g m_kept m_spare m_was m_text m_told cI mg mkept mspare mhasKept mwas mwasMany manew 0 mtext mlength mspot mvalue merror mtold mtolds) := hD
      refine lv_aload_n hx hb dX6_close_27 rfl (lv_at hl 0 rfl) ?_
      refine va_get (D := (dC, dI)) (ci := 8) (v := .int 0) (C := RX6) (T := TX6) (N := 15) hx hb hts inX6_ hown hK hP 0 rfl rfl 7 (by decide) fl32_ (fun _ h9 => h9) rfl dX6_close_28 ?_
      refine lv_if_le (tgt := 36) hx hb dX6_close_31 (by decide) (fun _ => ?_) (fun c9 => absurd (by decide) c9)
      refine lv_aload_n hx hb dX6_close_36 rfl (lv_at hl 0 rfl) ?_
      refine lv_iload_n hx hb dX6_close_37 rfl (lv_at hl 1 rfl) ?_
      refine lv_iload_n hx hb dX6_close_38 rfl (lv_at hl 2 rfl) ?_
      obtain ⟨R17, g18, hf⟩ := bd_B hf
      obtain ⟨r16, rfl⟩ : ∃ z, z = R17 := ⟨_, rfl⟩
      have hPc := hP
      have hDc := hD
      have hFc := va_free (wc := wM_ m0 m_g m_kept m_spare m_was m_text m_told cI mg mkept mspare mhasKept mwas mwasMany manew 0 mtext mlength mspot mvalue merror mtold mtolds) hD hS hA [0, 1, 2, 3, 4, 5, 6] rfl
      refine va_calli (va_runV (As := [.int a1, .int a2]) (rest := []) ⟨hx, hb, hml, hown, hts⟩ (c_X6_valid l dC dI cI cZ cC cJ cD m0 m_g m_kept m_spare m_was m_text m_told H15.size mg mkept mspare mhasKept mwas mwasMany manew (0 : Int32) mtext mlength mspot mvalue merror mtold mtolds a1 a2 r16 g18) (cwV 2 hts gX6_close_X6_valid rfl rfl rfl hs_X6_valid ⟨Nat.le_of_ble_eq_true rfl, Nat.le_of_ble_eq_true rfl⟩) (preV_ (ci := 8) (q0 := 0) hPc hK hDc rfl rfl rfl rfl) rfl rfl hl.1 rfl (lv_room (Nat.le_of_ble_eq_true rfl)) dX6_close_39 ⟨Nat.le_of_ble_eq_true rfl, Nat.le_of_ble_eq_true rfl⟩) hS (fun q _ h => hFc q h) hFc (fun z20 u t H19 locs ht hvm hw hB hz1 hk1 hS => ?_)
      have hw : r16 = z20 := hw.symm
      subst hw
      obtain ⟨hP, hD⟩ := aft_ (Wr := []) (Wc' := wM_ m0 m_g m_kept m_spare m_was m_text m_told cI mg mkept mspare mhasKept mwas mwasMany manew 0 mtext mlength mspot mvalue merror mtold mtolds) (W2 := wM_ m0 m_g m_kept m_spare m_was m_text m_told cI mg mkept mspare mhasKept mwas mwasMany manew 0 mtext mlength mspot mvalue merror mtold mtolds) hP hD [0, 1, 2, 3, 4, 5, 6] [] [0, 1, 2, 3, 4, 5, 6] rfl rfl (by decide) (by decide) (by decide) hk1 hFc hB ht rfl
      refine lv_istore_n (lv' := [(3, .int r16), (0, .ref m0), (1, .int a1), (2, .int a2)]) hx hb dX6_close_42 rfl hl (by decide) rfl (fun ls hl => ?_)
      refine lv_iload_n hx hb dX6_close_43 rfl (lv_at hl 0 rfl) ?_
      refine lv_if_ge (tgt := 53) hx hb dX6_close_44 (by decide) (fun c21 => ?_) (fun c21 => ?_)
      · have hf := ite_T c21 hf
        refine lv_aload_n hx hb dX6_close_53 rfl (lv_at hl 1 rfl) ?_
        refine va_get (D := (dC, dI)) (ci := 8) (v := .ref m_g) (C := RX6) (T := TX6) (N := 15) hx hb hts inX6_ hown hK hP 0 rfl rfl 0 (by decide) fl7_ (fun _ h9 => h9) rfl dX6_close_54 ?_
        refine lv_sipush (v := 130) hx hb dX6_close_57 (by decide) ?_
        refine lv_iload_n hx hb dX6_close_60 rfl (lv_at hl 0 rfl) ?_
        refine lv_iadd hx hb dX6_close_61 ?_
        obtain ⟨h22, hf⟩ := gd_T hf
        refine va_iald hx hb hK hP 1 0 rfl rfl h22 dX6_close_62 ?_
        refine lv_iload_n hx hb dX6_close_63 rfl (lv_at hl 3 rfl) ?_
        refine lv_icmp_eq (tgt := 76) hx hb dX6_close_64 (by decide) (fun c23 => ?_) (fun c23 => ?_)
        · have hf := ite_T c23 hf
          refine lv_aload_n hx hb dX6_close_76 rfl (lv_at hl 1 rfl) ?_
          refine lv_iconst (v := 4) hx hb dX6_close_77 (by decide) ?_
          obtain ⟨R40, g41, hf⟩ := bd_B hf
          obtain ⟨r24, ⟨mg25, mk26, ms27, mh28, mw29, mw30, ma31, mt32, mt33, ml34, ms35, mv36, me37, mt38, mt39⟩⟩ := R40
          dsimp only at hf
          have hPc := hP
          have hDc := hD
          have hFc := va_free (wc := wM_ m0 m_g m_kept m_spare m_was m_text m_told cI mg mkept mspare mhasKept mwas mwasMany manew 0 mtext mlength mspot mvalue merror mtold mtolds) hD hS hA [0, 1, 2, 3, 4, 5, 6] rfl
          refine va_calli (va_runV (As := [.int 4]) (rest := []) ⟨hx, hb, hml, hown, hts⟩ (c_X6_fails l dC dI cI cZ cC cJ cD m0 m_g m_kept m_spare m_was m_text m_told H19.size mg mkept mspare mhasKept mwas mwasMany manew (0 : Int32) mtext mlength mspot mvalue merror mtold mtolds (4 : Int32) (r24, (mg25, mk26, ms27, mh28, mw29, mw30, ma31, mt32, mt33, ml34, ms35, mv36, me37, mt38, mt39)) g41) (cwV 1 hts gX6_close_X6_fails rfl rfl rfl hs_X6_fails ⟨Nat.le_of_ble_eq_true rfl, Nat.le_of_ble_eq_true rfl⟩) (preV_ (ci := 8) (q0 := 0) hPc hK hDc rfl rfl rfl rfl) rfl rfl hl.1 rfl (lv_room (Nat.le_of_ble_eq_true rfl)) dX6_close_78 ⟨Nat.le_of_ble_eq_true rfl, Nat.le_of_ble_eq_true rfl⟩) hS (fun q _ h => hFc q h) hFc (fun z43 u t H42 locs ht hvm hw hB hz1 hk1 hS => ?_)
          have hw : r24 = z43 := hw.symm
          subst hw
          obtain ⟨hP, hD⟩ := aft_ (Wr := []) (Wc' := wM_ m0 m_g m_kept m_spare m_was m_text m_told cI mg25 mk26 ms27 mh28 mw29 mw30 ma31 mt32 mt33 ml34 ms35 mv36 me37 mt38 mt39) (W2 := wM_ m0 m_g m_kept m_spare m_was m_text m_told cI mg25 mk26 ms27 mh28 mw29 mw30 ma31 mt32 mt33 ml34 ms35 mv36 me37 mt38 mt39) hP hD [0, 1, 2, 3, 4, 5, 6] [] [0, 1, 2, 3, 4, 5, 6] rfl rfl (by decide) (by decide) (by decide) hk1 hFc hB ht rfl
          have hR := Option.some.inj hf
          subst hR
          exact W.iret (v := r24) hx hb hr (fun t ht hW => ⟨⟨r24, (), rfl, rfl, by rw [ht]; exact hP, va_K.moved hW.alike hK, hD⟩, hS.F ht⟩) hS.2.2 dX6_close_81
        · have hf := ite_F c23 hf
          refine lv_aload_n hx hb dX6_close_67 rfl (lv_at hl 1 rfl) ?_
          refine lv_iload_n hx hb dX6_close_68 rfl (lv_at hl 0 rfl) ?_
          refine lv_iload_n hx hb dX6_close_69 rfl (lv_at hl 3 rfl) ?_
          obtain ⟨R45, g46, hf⟩ := bd_B hf
          obtain ⟨r44, rfl⟩ : ∃ z, z = R45 := ⟨_, rfl⟩
          have hPc := hP
          have hDc := hD
          have hFc := va_free (wc := wM_ m0 m_g m_kept m_spare m_was m_text m_told cI mg mkept mspare mhasKept mwas mwasMany manew 0 mtext mlength mspot mvalue merror mtold mtolds) hD hS hA [0, 1, 2, 3, 4, 5, 6] rfl
          refine va_calli (va_runV (As := [.int r16, .int a2]) (rest := []) ⟨hx, hb, hml, hown, hts⟩ (c_X6_factsOf l dC dI cI cZ cC cJ cD m0 m_g m_kept m_spare m_was m_text m_told H19.size mg mkept mspare mhasKept mwas mwasMany manew (0 : Int32) mtext mlength mspot mvalue merror mtold mtolds r16 a2 r44 g46) (cwV 2 hts gX6_close_X6_factsOf rfl rfl rfl hs_X6_factsOf ⟨Nat.le_of_ble_eq_true rfl, Nat.le_of_ble_eq_true rfl⟩) (preV_ (ci := 8) (q0 := 0) hPc hK hDc rfl rfl rfl rfl) rfl rfl hl.1 rfl (lv_room (Nat.le_of_ble_eq_true rfl)) dX6_close_70 ⟨Nat.le_of_ble_eq_true rfl, Nat.le_of_ble_eq_true rfl⟩) hS (fun q _ h => hFc q h) hFc (fun z48 u t H47 locs ht hvm hw hB hz1 hk1 hS => ?_)
          have hw : r44 = z48 := hw.symm
          subst hw
          obtain ⟨hP, hD⟩ := aft_ (Wr := []) (Wc' := wM_ m0 m_g m_kept m_spare m_was m_text m_told cI mg mkept mspare mhasKept mwas mwasMany manew 0 mtext mlength mspot mvalue merror mtold mtolds) (W2 := wM_ m0 m_g m_kept m_spare m_was m_text m_told cI mg mkept mspare mhasKept mwas mwasMany manew 0 mtext mlength mspot mvalue merror mtold mtolds) hP hD [0, 1, 2, 3, 4, 5, 6] [] [0, 1, 2, 3, 4, 5, 6] rfl rfl (by decide) (by decide) (by decide) hk1 hFc hB ht rfl
          refine lv_if_le (tgt := 82) hx hb dX6_close_73 (by decide) (fun c49 => ?_) (fun c49 => ?_)
          · have hf := ite_T c49 hf
            refine lv_aload_n hx hb dX6_close_82 rfl (lv_at hl 1 rfl) ?_
            obtain ⟨R65, g66, hf⟩ := bd_B hf
            obtain ⟨mg50, mk51, ms52, mh53, mw54, mw55, ma56, mt57, mt58, ml59, ms60, mv61, me62, mt63, mt64⟩ := R65
            dsimp only at hf
            have hPc := hP
            have hDc := hD
            have hFc := va_free (wc := wM_ m0 m_g m_kept m_spare m_was m_text m_told cI mg mkept mspare mhasKept mwas mwasMany manew 0 mtext mlength mspot mvalue merror mtold mtolds) hD hS hA [0, 1, 2, 3, 4, 5, 6] rfl
            refine va_callv (va_runV (As := []) (rest := []) ⟨hx, hb, hml, hown, hts⟩ (c_X6_begins l dC dI cI cZ cC cJ cD m0 m_g m_kept m_spare m_was m_text m_told H47.size mg mkept mspare mhasKept mwas mwasMany manew (0 : Int32) mtext mlength mspot mvalue merror mtold mtolds (mg50, mk51, ms52, mh53, mw54, mw55, ma56, mt57, mt58, ml59, ms60, mv61, me62, mt63, mt64) g66) (cwV 0 hts gX6_close_X6_begins rfl rfl rfl hs_X6_begins ⟨Nat.le_of_ble_eq_true rfl, Nat.le_of_ble_eq_true rfl⟩) (preV_ (ci := 8) (q0 := 0) hPc hK hDc rfl rfl rfl rfl) rfl rfl hl.1 rfl (lv_room (Nat.le_of_ble_eq_true rfl)) dX6_close_83 ⟨Nat.le_of_ble_eq_true rfl, Nat.le_of_ble_eq_true rfl⟩) hS (fun q _ h => hFc q h) hFc (fun u t H67 locs ht hvm hw hB hz1 hk1 hS => ?_)
            obtain ⟨hP, hD⟩ := aft_ (Wr := []) (Wc' := wM_ m0 m_g m_kept m_spare m_was m_text m_told cI mg50 mk51 ms52 mh53 mw54 mw55 ma56 mt57 mt58 ml59 ms60 mv61 me62 mt63 mt64) (W2 := wM_ m0 m_g m_kept m_spare m_was m_text m_told cI mg50 mk51 ms52 mh53 mw54 mw55 ma56 mt57 mt58 ml59 ms60 mv61 me62 mt63 mt64) hP hD [0, 1, 2, 3, 4, 5, 6] [] [0, 1, 2, 3, 4, 5, 6] rfl rfl (by decide) (by decide) (by decide) hk1 hFc hB ht rfl
            refine lv_aload_n hx hb dX6_close_86 rfl (lv_at hl 1 rfl) ?_
            refine va_get (D := (dC, dI)) (ci := 8) (v := .ref m_g) (C := RX6) (T := TX6) (N := 15) hx hb hts inX6_ hown hK hP 0 rfl rfl 0 (by decide) fl7_ (fun _ h9 => h9) rfl dX6_close_87 ?_
            refine lv_sipush (v := 190) hx hb dX6_close_90 (by decide) ?_
            refine lv_iload_n hx hb dX6_close_93 rfl (lv_at hl 0 rfl) ?_
            refine lv_iadd hx hb dX6_close_94 ?_
            obtain ⟨h69, hf⟩ := gd_T hf
            refine va_iald hx hb hK hP 1 0 rfl rfl h69 dX6_close_95 ?_
            refine lv_istore (lv' := [(4, .int (mg50 ((190 + r16).toNatClampNeg))), (3, .int r16), (0, .ref m0), (1, .int a1), (2, .int a2)]) hx hb dX6_close_96 hl (by decide) rfl (fun ls hl => ?_)
            refine lv_aload_n hx hb dX6_close_98 rfl (lv_at hl 2 rfl) ?_
            refine va_get (D := (dC, dI)) (ci := 8) (v := .ref m_g) (C := RX6) (T := TX6) (N := 15) hx hb hts inX6_ hown hK hP 0 rfl rfl 0 (by decide) fl7_ (fun _ h9 => h9) rfl dX6_close_99 ?_
            refine lv_sipush (v := 190) hx hb dX6_close_102 (by decide) ?_
            refine lv_iload_n hx hb dX6_close_105 rfl (lv_at hl 1 rfl) ?_
            refine lv_iadd hx hb dX6_close_106 ?_
            refine lv_iload_n hx hb dX6_close_107 rfl (lv_at hl 4 rfl) ?_
            obtain ⟨h70, hf⟩ := gd_T hf
            refine va_iast hx hb hK hP hD hS 1 0 rfl rfl h70 dX6_close_108 (fun H71 locs hP hD hS => ?_)
            have hP : va_P (dC, dI) vwCl (wM_ m0 m_g m_kept m_spare m_was m_text m_told cI (upd mg50 ((190 + r16).toNatClampNeg) a2) mk51 ms52 mh53 mw54 mw55 ma56 mt57 mt58 ml59 ms60 mv61 me62 mt63 mt64) H71 := hP
            have hD : va_D A (wM_ m0 m_g m_kept m_spare m_was m_text m_told cI (upd mg50 ((190 + r16).toNatClampNeg) a2) mk51 ms52 mh53 mw54 mw55 ma56 mt57 mt58 ml59 ms60 mv61 me62 mt63 mt64) := hD
            obtain ⟨u72, e73, hf⟩ := nm_T hf
            rw [← e73] at hP hD
            refine lv_aload_n hx hb dX6_close_109 rfl (lv_at hl 2 rfl) ?_
            obtain ⟨R89, g90, hf⟩ := bd_B hf
            obtain ⟨mg74, mk75, ms76, mh77, mw78, mw79, ma80, mt81, mt82, ml83, ms84, mv85, me86, mt87, mt88⟩ := R89
            dsimp only at hf
            have hPc := hP
            have hDc := hD
            have hFc := va_free (wc := wM_ m0 m_g m_kept m_spare m_was m_text m_told cI u72 mk51 ms52 mh53 mw54 mw55 ma56 mt57 mt58 ml59 ms60 mv61 me62 mt63 mt64) hD hS hA [0, 1, 2, 3, 4, 5, 6] rfl
            refine va_callv (va_runV (As := []) (rest := []) ⟨hx, hb, hml, hown, hts⟩ (c_X6_ends l dC dI cI cZ cC cJ cD m0 m_g m_kept m_spare m_was m_text m_told H71.size u72 mk51 ms52 mh53 mw54 mw55 ma56 mt57 mt58 ml59 ms60 mv61 me62 mt63 mt64 (mg74, mk75, ms76, mh77, mw78, mw79, ma80, mt81, mt82, ml83, ms84, mv85, me86, mt87, mt88) g90) (cwV 0 hts gX6_close_X6_ends rfl rfl rfl hs_X6_ends ⟨Nat.le_of_ble_eq_true rfl, Nat.le_of_ble_eq_true rfl⟩) (preV_ (ci := 8) (q0 := 0) hPc hK hDc rfl rfl rfl rfl) rfl rfl hl.1 rfl (lv_room (Nat.le_of_ble_eq_true rfl)) dX6_close_110 ⟨Nat.le_of_ble_eq_true rfl, Nat.le_of_ble_eq_true rfl⟩) hS (fun q _ h => hFc q h) hFc (fun u t H91 locs ht hvm hw hB hz1 hk1 hS => ?_)
            obtain ⟨hP, hD⟩ := aft_ (Wr := []) (Wc' := wM_ m0 m_g m_kept m_spare m_was m_text m_told cI mg74 mk75 ms76 mh77 mw78 mw79 ma80 mt81 mt82 ml83 ms84 mv85 me86 mt87 mt88) (W2 := wM_ m0 m_g m_kept m_spare m_was m_text m_told cI mg74 mk75 ms76 mh77 mw78 mw79 ma80 mt81 mt82 ml83 ms84 mv85 me86 mt87 mt88) hP hD [0, 1, 2, 3, 4, 5, 6] [] [0, 1, 2, 3, 4, 5, 6] rfl rfl (by decide) (by decide) (by decide) hk1 hFc hB ht rfl
            refine lv_iload hx hb dX6_close_113 (lv_at hl 0 rfl) ?_
            have hR := Option.some.inj hf
            subst hR
            exact W.iret (v := mg50 ((190 + r16).toNatClampNeg)) hx hb hr (fun t ht hW => ⟨⟨mg50 ((190 + r16).toNatClampNeg), (), rfl, rfl, by rw [ht]; exact hP, va_K.moved hW.alike hK, hD⟩, hS.F ht⟩) hS.2.2 dX6_close_115
          · have hf := ite_F c49 hf
            refine lv_aload_n hx hb dX6_close_76 rfl (lv_at hl 1 rfl) ?_
            refine lv_iconst (v := 4) hx hb dX6_close_77 (by decide) ?_
            obtain ⟨R109, g110, hf⟩ := bd_B hf
            obtain ⟨r93, ⟨mg94, mk95, ms96, mh97, mw98, mw99, ma100, mt101, mt102, ml103, ms104, mv105, me106, mt107, mt108⟩⟩ := R109
            dsimp only at hf
            have hPc := hP
            have hDc := hD
            have hFc := va_free (wc := wM_ m0 m_g m_kept m_spare m_was m_text m_told cI mg mkept mspare mhasKept mwas mwasMany manew 0 mtext mlength mspot mvalue merror mtold mtolds) hD hS hA [0, 1, 2, 3, 4, 5, 6] rfl
            refine va_calli (va_runV (As := [.int 4]) (rest := []) ⟨hx, hb, hml, hown, hts⟩ (c_X6_fails l dC dI cI cZ cC cJ cD m0 m_g m_kept m_spare m_was m_text m_told H47.size mg mkept mspare mhasKept mwas mwasMany manew (0 : Int32) mtext mlength mspot mvalue merror mtold mtolds (4 : Int32) (r93, (mg94, mk95, ms96, mh97, mw98, mw99, ma100, mt101, mt102, ml103, ms104, mv105, me106, mt107, mt108)) g110) (cwV 1 hts gX6_close_X6_fails rfl rfl rfl hs_X6_fails ⟨Nat.le_of_ble_eq_true rfl, Nat.le_of_ble_eq_true rfl⟩) (preV_ (ci := 8) (q0 := 0) hPc hK hDc rfl rfl rfl rfl) rfl rfl hl.1 rfl (lv_room (Nat.le_of_ble_eq_true rfl)) dX6_close_78 ⟨Nat.le_of_ble_eq_true rfl, Nat.le_of_ble_eq_true rfl⟩) hS (fun q _ h => hFc q h) hFc (fun z112 u t H111 locs ht hvm hw hB hz1 hk1 hS => ?_)
            have hw : r93 = z112 := hw.symm
            subst hw
            obtain ⟨hP, hD⟩ := aft_ (Wr := []) (Wc' := wM_ m0 m_g m_kept m_spare m_was m_text m_told cI mg94 mk95 ms96 mh97 mw98 mw99 ma100 mt101 mt102 ml103 ms104 mv105 me106 mt107 mt108) (W2 := wM_ m0 m_g m_kept m_spare m_was m_text m_told cI mg94 mk95 ms96 mh97 mw98 mw99 ma100 mt101 mt102 ml103 ms104 mv105 me106 mt107 mt108) hP hD [0, 1, 2, 3, 4, 5, 6] [] [0, 1, 2, 3, 4, 5, 6] rfl rfl (by decide) (by decide) (by decide) hk1 hFc hB ht rfl
            have hR := Option.some.inj hf
            subst hR
            exact W.iret (v := r93) hx hb hr (fun t ht hW => ⟨⟨r93, (), rfl, rfl, by rw [ht]; exact hP, va_K.moved hW.alike hK, hD⟩, hS.F ht⟩) hS.2.2 dX6_close_81
      · have hf := ite_F c21 hf
        refine lv_aload_n hx hb dX6_close_47 rfl (lv_at hl 1 rfl) ?_
        refine lv_iconst (v := 3) hx hb dX6_close_48 (by decide) ?_
        obtain ⟨R129, g130, hf⟩ := bd_B hf
        obtain ⟨r113, ⟨mg114, mk115, ms116, mh117, mw118, mw119, ma120, mt121, mt122, ml123, ms124, mv125, me126, mt127, mt128⟩⟩ := R129
        dsimp only at hf
        have hPc := hP
        have hDc := hD
        have hFc := va_free (wc := wM_ m0 m_g m_kept m_spare m_was m_text m_told cI mg mkept mspare mhasKept mwas mwasMany manew 0 mtext mlength mspot mvalue merror mtold mtolds) hD hS hA [0, 1, 2, 3, 4, 5, 6] rfl
        refine va_calli (va_runV (As := [.int 3]) (rest := []) ⟨hx, hb, hml, hown, hts⟩ (c_X6_fails l dC dI cI cZ cC cJ cD m0 m_g m_kept m_spare m_was m_text m_told H19.size mg mkept mspare mhasKept mwas mwasMany manew (0 : Int32) mtext mlength mspot mvalue merror mtold mtolds (3 : Int32) (r113, (mg114, mk115, ms116, mh117, mw118, mw119, ma120, mt121, mt122, ml123, ms124, mv125, me126, mt127, mt128)) g130) (cwV 1 hts gX6_close_X6_fails rfl rfl rfl hs_X6_fails ⟨Nat.le_of_ble_eq_true rfl, Nat.le_of_ble_eq_true rfl⟩) (preV_ (ci := 8) (q0 := 0) hPc hK hDc rfl rfl rfl rfl) rfl rfl hl.1 rfl (lv_room (Nat.le_of_ble_eq_true rfl)) dX6_close_49 ⟨Nat.le_of_ble_eq_true rfl, Nat.le_of_ble_eq_true rfl⟩) hS (fun q _ h => hFc q h) hFc (fun z132 u t H131 locs ht hvm hw hB hz1 hk1 hS => ?_)
        have hw : r113 = z132 := hw.symm
        subst hw
        obtain ⟨hP, hD⟩ := aft_ (Wr := []) (Wc' := wM_ m0 m_g m_kept m_spare m_was m_text m_told cI mg114 mk115 ms116 mh117 mw118 mw119 ma120 mt121 mt122 ml123 ms124 mv125 me126 mt127 mt128) (W2 := wM_ m0 m_g m_kept m_spare m_was m_text m_told cI mg114 mk115 ms116 mh117 mw118 mw119 ma120 mt121 mt122 ml123 ms124 mv125 me126 mt127 mt128) hP hD [0, 1, 2, 3, 4, 5, 6] [] [0, 1, 2, 3, 4, 5, 6] rfl rfl (by decide) (by decide) (by decide) hk1 hFc hB ht rfl
        have hR := Option.some.inj hf
        subst hR
        exact W.iret (v := r113) hx hb hr (fun t ht hW => ⟨⟨r113, (), rfl, rfl, by rw [ht]; exact hP, va_K.moved hW.alike hK, hD⟩, hS.F ht⟩) hS.2.2 dX6_close_52
theorem hs_X6_close : yX6_close.cls = RX6 ∧ yX6_close.cls ≠ "java/lang/invoke/MethodHandle" ∧ yX6_close.cls ≠ "java/lang/invoke/VarHandle" ∧ (parseMethodDescriptor yX6_close.desc).map (fun d => d.parameters.length) = some 2 := by decide +kernel
set_option maxRecDepth 20000 in
theorem in_X6_correct_X6 : ∀ w ∈ wsX60, w ∈ wsX6_correct := by decide +kernel
def f_X6_correct (a1 : Int32) (a2 : Int32) (M_ : tM_) : Option (Int32 × tM_) :=
match M_ with
| (mg, mkept, mspare, mhasKept, mwas, mwasMany, manew, mthrown, mtext, mlength, mspot, mvalue, merror, mtold, mtolds) =>
bd_ (f_X6_isVersion a1 (mg, mkept, mspare, mhasKept, mwas, mwasMany, manew, 0, mtext, mlength, mspot, mvalue, merror, mtold, mtolds)) (fun r2 =>
if r2 = 0 then
bd_ (f_X6_fails (1 : Int32) (mg, mkept, mspare, mhasKept, mwas, mwasMany, manew, 0, mtext, mlength, mspot, mvalue, merror, mtold, mtolds)) (fun (r28, (mg29, mk30, ms31, mh32, mw33, mw34, ma35, mt36, mt37, ml38, ms39, mv40, me41, mt42, mt43)) =>
some (r28, (mg29, mk30, ms31, mh32, mw33, mw34, ma35, mt36, mt37, ml38, ms39, mv40, me41, mt42, mt43)))
else
gd_ (250 + a1) 610 (
bd_ (f_X6_becomes a1 a2 (mg, mkept, mspare, mhasKept, mwas, mwasMany, manew, 0, mtext, mlength, mspot, mvalue, merror, mtold, mtolds)) (fun (mg9, mk10, ms11, mh12, mw13, mw14, ma15, mt16, mt17, ml18, ms19, mv20, me21, mt22, mt23) =>
some (mg ((250 + a1).toNatClampNeg), (mg9, mk10, ms11, mh12, mw13, mw14, ma15, mt16, mt17, ml18, ms19, mv20, me21, mt22, mt23)))))
abbrev rm_X6_correct : Room := { frames := 2, cells := 0, slots := 0, locals := 43 }
set_option maxHeartbeats 4000000 in
set_option maxRecDepth 100000 in
theorem c_X6_correct (l : Launch) (dC : Nat → ClassId) (dI : Nat → Nat → Nat) (cI cZ cC cJ cD : ClassId) (m0 m_g m_kept m_spare m_was m_text m_told : Nat) (sz : Nat) (mg : Nat → Int32) (mkept : Nat → Int32) (mspare : Nat → Int32) (mhasKept : Int32) (mwas : Nat → Int32) (mwasMany : Int32) (manew : Int32) (mthrown : Int32) (mtext : Nat → Int32) (mlength : Int32) (mspot : Int32) (mvalue : Int32) (merror : Int32) (mtold : Nat → Int32) (mtolds : Int32) (a1 : Int32) (a2 : Int32) (R : Int32 × tM_) (hf : f_X6_correct a1 a2 (mg, mkept, mspare, mhasKept, mwas, mwasMany, manew, mthrown, mtext, mlength, mspot, mvalue, merror, mtold, mtolds) = some R) : Met l yX6_correct wsX6_correct rm_X6_correct (Pc_ (dC, dI) (ty_ cI cZ cC cJ cD) (wM_ m0 m_g m_kept m_spare m_was m_text m_told cI mg mkept mspare mhasKept mwas mwasMany manew mthrown mtext mlength mspot mvalue merror mtold mtolds) sz [.ref m0, .int a1, .int a2]) (Qi_ (dC, dI) (ty_ cI cZ cC cJ cD) R.1 (wM_ m0 m_g m_kept m_spare m_was m_text m_told cI R.2.1 R.2.2.1 R.2.2.2.1 R.2.2.2.2.1 R.2.2.2.2.2.1 R.2.2.2.2.2.2.1 R.2.2.2.2.2.2.2.1 R.2.2.2.2.2.2.2.2.1 R.2.2.2.2.2.2.2.2.2.1 R.2.2.2.2.2.2.2.2.2.2.1 R.2.2.2.2.2.2.2.2.2.2.2.1 R.2.2.2.2.2.2.2.2.2.2.2.2.1 R.2.2.2.2.2.2.2.2.2.2.2.2.2.1 R.2.2.2.2.2.2.2.2.2.2.2.2.2.2.1 R.2.2.2.2.2.2.2.2.2.2.2.2.2.2.2) (va_A (wM_ m0 m_g m_kept m_spare m_was m_text m_told cI mg mkept mspare mhasKept mwas mwasMany manew mthrown mtext mlength mspot mvalue merror mtold mtolds) sz)) 0 0 (va_A (wM_ m0 m_g m_kept m_spare m_was m_text m_told cI mg mkept mspare mhasKept mwas mwasMany manew mthrown mtext mlength mspot mvalue merror mtold mtolds) sz) := by
  refine met_ (cc := cX6_correct) (maxL := 4) (ret := (some .int)) (Qcf := fun A => Qi_ (dC, dI) (ty_ cI cZ cC cJ cD) R.1 (wM_ m0 m_g m_kept m_spare m_was m_text m_told cI R.2.1 R.2.2.1 R.2.2.2.1 R.2.2.2.2.1 R.2.2.2.2.2.1 R.2.2.2.2.2.2.1 R.2.2.2.2.2.2.2.1 R.2.2.2.2.2.2.2.2.1 R.2.2.2.2.2.2.2.2.2.1 R.2.2.2.2.2.2.2.2.2.2.1 R.2.2.2.2.2.2.2.2.2.2.2.1 R.2.2.2.2.2.2.2.2.2.2.2.2.1 R.2.2.2.2.2.2.2.2.2.2.2.2.2.1 R.2.2.2.2.2.2.2.2.2.2.2.2.2.2.1 R.2.2.2.2.2.2.2.2.2.2.2.2.2.2.2) A) (by decide) rfl (Nat.le_of_ble_eq_true rfl) ?_
  intro p e s m args below meth c A ls hx hb hr hts hown hlocks hml hA hP hK hD hl
  have hown : s.vm.findClass RX6 = some m.cls := hown
  have hl : lv_has ls 4 [(0, .ref m0), (1, .int a1), (2, .int a2)] := hl
  have hS : va_S A s.heap s.heap [] := va_S.rf
  have fl7_ : (Cond.fieldLink RX6 7 "DimensionLoaderModel" "g" "[I").before args s = true := hts _ (List.mem_of_getElem? (i := 2) rfl)
  have fl32_ : (Cond.fieldLink RX6 32 "DimensionLoaderModel" "thrown" "I").before args s = true := hts _ (List.mem_of_getElem? (i := 1) rfl)
  have inX6_ : ∀ w ∈ wsX60, w ∈ wsX6_correct := in_X6_correct_X6
  unfold f_X6_correct at hf
  dsimp only at hf
  refine lv_aload_n hx hb dX6_correct_0 rfl (lv_at hl 0 rfl) ?_
  refine lv_iconst (v := 0) hx hb dX6_correct_1 (by decide) ?_
  refine va_put (D := (dC, dI)) (ci := 8) (v := .int 0) (ty := .int) (C := RX6) (T := TX6) (N := 15) hx hb hts inX6_ tyX6 tyX6_ok nmX6 hown hK hP hD hS 0 rfl rfl 7 (by decide) fl32_ (fun _ h9 => h9) rfl (by decide +kernel) (by first | rfl | decide) (by first | rfl | decide) (Nat.le_of_ble_eq_true rfl) dX6_correct_2 (fun H1 locs hP hD hS => ?_)
  have hP : va_P (dC, dI) vwCl (wM_ m0 m_g m_kept m_spare m_was m_text m_told cI mg mkept mspare mhasKept mwas mwasMany manew 0 mtext mlength mspot mvalue merror mtold mtolds) H1 := hP
  have hD : va_D A (wM_ m0 m_g m_kept m_spare m_was m_text m_told cI mg mkept mspare mhasKept mwas mwasMany manew 0 mtext mlength mspot mvalue merror mtold mtolds) := hD
  refine lv_aload_n hx hb dX6_correct_5 rfl (lv_at hl 0 rfl) ?_
  refine lv_iload_n hx hb dX6_correct_6 rfl (lv_at hl 1 rfl) ?_
  obtain ⟨R3, g4, hf⟩ := bd_B hf
  obtain ⟨r2, rfl⟩ : ∃ z, z = R3 := ⟨_, rfl⟩
  have hPc := hP
  have hDc := hD
  have hFc := va_free (wc := wM_ m0 m_g m_kept m_spare m_was m_text m_told cI mg mkept mspare mhasKept mwas mwasMany manew 0 mtext mlength mspot mvalue merror mtold mtolds) hD hS hA [0, 1, 2, 3, 4, 5, 6] rfl
  refine va_calli (va_runV (As := [.int a1]) (rest := []) ⟨hx, hb, hml, hown, hts⟩ (c_X6_isVersion l dC dI cI cZ cC cJ cD m0 m_g m_kept m_spare m_was m_text m_told H1.size mg mkept mspare mhasKept mwas mwasMany manew (0 : Int32) mtext mlength mspot mvalue merror mtold mtolds a1 r2 g4) (cwV 1 hts gX6_correct_X6_isVersion rfl rfl rfl hs_X6_isVersion ⟨Nat.le_of_ble_eq_true rfl, Nat.le_of_ble_eq_true rfl⟩) (preV_ (ci := 8) (q0 := 0) hPc hK hDc rfl rfl rfl rfl) rfl rfl hl.1 rfl (lv_room (Nat.le_of_ble_eq_true rfl)) dX6_correct_7 ⟨Nat.le_of_ble_eq_true rfl, Nat.le_of_ble_eq_true rfl⟩) hS (fun q _ h => hFc q h) hFc (fun z6 u t H5 locs ht hvm hw hB hz1 hk1 hS => ?_)
  have hw : r2 = z6 := hw.symm
  subst hw
  obtain ⟨hP, hD⟩ := aft_ (Wr := []) (Wc' := wM_ m0 m_g m_kept m_spare m_was m_text m_told cI mg mkept mspare mhasKept mwas mwasMany manew 0 mtext mlength mspot mvalue merror mtold mtolds) (W2 := wM_ m0 m_g m_kept m_spare m_was m_text m_told cI mg mkept mspare mhasKept mwas mwasMany manew 0 mtext mlength mspot mvalue merror mtold mtolds) hP hD [0, 1, 2, 3, 4, 5, 6] [] [0, 1, 2, 3, 4, 5, 6] rfl rfl (by decide) (by decide) (by decide) hk1 hFc hB ht rfl
  refine lv_if_ne (tgt := 19) hx hb dX6_correct_10 (by decide) (fun c7 => ?_) (fun c7 => ?_)
  · have hf := ite_F c7 hf
    refine lv_aload_n hx hb dX6_correct_19 rfl (lv_at hl 0 rfl) ?_
    refine va_get (D := (dC, dI)) (ci := 8) (v := .ref m_g) (C := RX6) (T := TX6) (N := 15) hx hb hts inX6_ hown hK hP 0 rfl rfl 0 (by decide) fl7_ (fun _ h9 => h9) rfl dX6_correct_20 ?_
    refine lv_sipush (v := 250) hx hb dX6_correct_23 (by decide) ?_
    refine lv_iload_n hx hb dX6_correct_26 rfl (lv_at hl 1 rfl) ?_
    refine lv_iadd hx hb dX6_correct_27 ?_
    obtain ⟨h8, hf⟩ := gd_T hf
    refine va_iald hx hb hK hP 1 0 rfl rfl h8 dX6_correct_28 ?_
    refine lv_istore_n (lv' := [(3, .int (mg ((250 + a1).toNatClampNeg))), (0, .ref m0), (1, .int a1), (2, .int a2)]) hx hb dX6_correct_29 rfl hl (by decide) rfl (fun ls hl => ?_)
    refine lv_aload_n hx hb dX6_correct_30 rfl (lv_at hl 1 rfl) ?_
    refine lv_iload_n hx hb dX6_correct_31 rfl (lv_at hl 2 rfl) ?_
    refine lv_iload_n hx hb dX6_correct_32 rfl (lv_at hl 3 rfl) ?_
    obtain ⟨R24, g25, hf⟩ := bd_B hf
    obtain ⟨mg9, mk10, ms11, mh12, mw13, mw14, ma15, mt16, mt17, ml18, ms19, mv20, me21, mt22, mt23⟩ := R24
    dsimp only at hf
    have hPc := hP
    have hDc := hD
    have hFc := va_free (wc := wM_ m0 m_g m_kept m_spare m_was m_text m_told cI mg mkept mspare mhasKept mwas mwasMany manew 0 mtext mlength mspot mvalue merror mtold mtolds) hD hS hA [0, 1, 2, 3, 4, 5, 6] rfl
    refine va_callv (va_runV (As := [.int a1, .int a2]) (rest := []) ⟨hx, hb, hml, hown, hts⟩ (c_X6_becomes l dC dI cI cZ cC cJ cD m0 m_g m_kept m_spare m_was m_text m_told H5.size mg mkept mspare mhasKept mwas mwasMany manew (0 : Int32) mtext mlength mspot mvalue merror mtold mtolds a1 a2 (mg9, mk10, ms11, mh12, mw13, mw14, ma15, mt16, mt17, ml18, ms19, mv20, me21, mt22, mt23) g25) (cwV 2 hts gX6_correct_X6_becomes rfl rfl rfl hs_X6_becomes ⟨Nat.le_of_ble_eq_true rfl, Nat.le_of_ble_eq_true rfl⟩) (preV_ (ci := 8) (q0 := 0) hPc hK hDc rfl rfl rfl rfl) rfl rfl hl.1 rfl (lv_room (Nat.le_of_ble_eq_true rfl)) dX6_correct_33 ⟨Nat.le_of_ble_eq_true rfl, Nat.le_of_ble_eq_true rfl⟩) hS (fun q _ h => hFc q h) hFc (fun u t H26 locs ht hvm hw hB hz1 hk1 hS => ?_)
    obtain ⟨hP, hD⟩ := aft_ (Wr := []) (Wc' := wM_ m0 m_g m_kept m_spare m_was m_text m_told cI mg9 mk10 ms11 mh12 mw13 mw14 ma15 mt16 mt17 ml18 ms19 mv20 me21 mt22 mt23) (W2 := wM_ m0 m_g m_kept m_spare m_was m_text m_told cI mg9 mk10 ms11 mh12 mw13 mw14 ma15 mt16 mt17 ml18 ms19 mv20 me21 mt22 mt23) hP hD [0, 1, 2, 3, 4, 5, 6] [] [0, 1, 2, 3, 4, 5, 6] rfl rfl (by decide) (by decide) (by decide) hk1 hFc hB ht rfl
    refine lv_iload_n hx hb dX6_correct_36 rfl (lv_at hl 0 rfl) ?_
    have hR := Option.some.inj hf
    subst hR
    exact W.iret (v := mg ((250 + a1).toNatClampNeg)) hx hb hr (fun t ht hW => ⟨⟨mg ((250 + a1).toNatClampNeg), (), rfl, rfl, by rw [ht]; exact hP, va_K.moved hW.alike hK, hD⟩, hS.F ht⟩) hS.2.2 dX6_correct_37
  · have hf := ite_T c7 hf
    refine lv_aload_n hx hb dX6_correct_13 rfl (lv_at hl 0 rfl) ?_
    refine lv_iconst (v := 1) hx hb dX6_correct_14 (by decide) ?_
    obtain ⟨R44, g45, hf⟩ := bd_B hf
    obtain ⟨r28, ⟨mg29, mk30, ms31, mh32, mw33, mw34, ma35, mt36, mt37, ml38, ms39, mv40, me41, mt42, mt43⟩⟩ := R44
    dsimp only at hf
    have hPc := hP
    have hDc := hD
    have hFc := va_free (wc := wM_ m0 m_g m_kept m_spare m_was m_text m_told cI mg mkept mspare mhasKept mwas mwasMany manew 0 mtext mlength mspot mvalue merror mtold mtolds) hD hS hA [0, 1, 2, 3, 4, 5, 6] rfl
    refine va_calli (va_runV (As := [.int 1]) (rest := []) ⟨hx, hb, hml, hown, hts⟩ (c_X6_fails l dC dI cI cZ cC cJ cD m0 m_g m_kept m_spare m_was m_text m_told H5.size mg mkept mspare mhasKept mwas mwasMany manew (0 : Int32) mtext mlength mspot mvalue merror mtold mtolds (1 : Int32) (r28, (mg29, mk30, ms31, mh32, mw33, mw34, ma35, mt36, mt37, ml38, ms39, mv40, me41, mt42, mt43)) g45) (cwV 1 hts gX6_correct_X6_fails rfl rfl rfl hs_X6_fails ⟨Nat.le_of_ble_eq_true rfl, Nat.le_of_ble_eq_true rfl⟩) (preV_ (ci := 8) (q0 := 0) hPc hK hDc rfl rfl rfl rfl) rfl rfl hl.1 rfl (lv_room (Nat.le_of_ble_eq_true rfl)) dX6_correct_15 ⟨Nat.le_of_ble_eq_true rfl, Nat.le_of_ble_eq_true rfl⟩) hS (fun q _ h => hFc q h) hFc (fun z47 u t H46 locs ht hvm hw hB hz1 hk1 hS => ?_)
    have hw : r28 = z47 := hw.symm
    subst hw
    obtain ⟨hP, hD⟩ := aft_ (Wr := []) (Wc' := wM_ m0 m_g m_kept m_spare m_was m_text m_told cI mg29 mk30 ms31 mh32 mw33 mw34 ma35 mt36 mt37 ml38 ms39 mv40 me41 mt42 mt43) (W2 := wM_ m0 m_g m_kept m_spare m_was m_text m_told cI mg29 mk30 ms31 mh32 mw33 mw34 ma35 mt36 mt37 ml38 ms39 mv40 me41 mt42 mt43) hP hD [0, 1, 2, 3, 4, 5, 6] [] [0, 1, 2, 3, 4, 5, 6] rfl rfl (by decide) (by decide) (by decide) hk1 hFc hB ht rfl
    have hR := Option.some.inj hf
    subst hR
    exact W.iret (v := r28) hx hb hr (fun t ht hW => ⟨⟨r28, (), rfl, rfl, by rw [ht]; exact hP, va_K.moved hW.alike hK, hD⟩, hS.F ht⟩) hS.2.2 dX6_correct_18
theorem hs_X6_correct : yX6_correct.cls = RX6 ∧ yX6_correct.cls ≠ "java/lang/invoke/MethodHandle" ∧ yX6_correct.cls ≠ "java/lang/invoke/VarHandle" ∧ (parseMethodDescriptor yX6_correct.desc).map (fun d => d.parameters.length) = some 2 := by decide +kernel
set_option maxRecDepth 20000 in
theorem in_X6_endingAt_X6 : ∀ w ∈ wsX60, w ∈ wsX6_endingAt := by decide +kernel
def f_X6_endingAt_S2 (k_ : Int32 → Int32 → Int32 → tM_ → Option (Int32)) (l3 : Int32) (l1 : Int32) (l2 : Int32) (M_ : tM_) : Option (Int32) :=
match M_ with
| (mg, mkept, mspare, mhasKept, mwas, mwasMany, manew, mthrown, mtext, mlength, mspot, mvalue, merror, mtold, mtolds) =>
gd_ (0 : Int32) 610 (
if (mg ((0 : Int32).toNatClampNeg)) ≤ l3 then
some (-1 : Int32)
else
bd_ (f_X6_isOf l3 l1 (mg, mkept, mspare, mhasKept, mwas, mwasMany, manew, mthrown, mtext, mlength, mspot, mvalue, merror, mtold, mtolds)) (fun r4 =>
if r4 = 0 then
k_ (l3 + 1) l1 l2 (mg, mkept, mspare, mhasKept, mwas, mwasMany, manew, mthrown, mtext, mlength, mspot, mvalue, merror, mtold, mtolds)
else
gd_ (190 + l3) 610 (
if (mg ((190 + l3).toNatClampNeg)) = l2 then
some l3
else
k_ (l3 + 1) l1 l2 (mg, mkept, mspare, mhasKept, mwas, mwasMany, manew, mthrown, mtext, mlength, mspot, mvalue, merror, mtold, mtolds))))
def f_X6_endingAt_L2 : Nat → Int32 → Int32 → Int32 → tM_ → Option (Int32)
  | 0 => fun _ _ _ _ => none
  | n + 1 => fun l3 l1 l2 M_ => f_X6_endingAt_S2 (f_X6_endingAt_L2 n) l3 l1 l2 M_
def f_X6_endingAt (a1 : Int32) (a2 : Int32) (M_ : tM_) : Option (Int32) :=
match M_ with
| (mg, mkept, mspare, mhasKept, mwas, mwasMany, manew, mthrown, mtext, mlength, mspot, mvalue, merror, mtold, mtolds) =>
f_X6_endingAt_L2 fu_ (0 : Int32) a1 a2 (mg, mkept, mspare, mhasKept, mwas, mwasMany, manew, mthrown, mtext, mlength, mspot, mvalue, merror, mtold, mtolds)
abbrev rm_X6_endingAt : Room := { frames := 1, cells := 0, slots := 0, locals := 22 }
set_option maxHeartbeats 4000000 in
set_option maxRecDepth 100000 in
theorem c_X6_endingAt (l : Launch) (dC : Nat → ClassId) (dI : Nat → Nat → Nat) (cI cZ cC cJ cD : ClassId) (m0 m_g m_kept m_spare m_was m_text m_told : Nat) (sz : Nat) (mg : Nat → Int32) (mkept : Nat → Int32) (mspare : Nat → Int32) (mhasKept : Int32) (mwas : Nat → Int32) (mwasMany : Int32) (manew : Int32) (mthrown : Int32) (mtext : Nat → Int32) (mlength : Int32) (mspot : Int32) (mvalue : Int32) (merror : Int32) (mtold : Nat → Int32) (mtolds : Int32) (a1 : Int32) (a2 : Int32) (R : Int32) (hf : f_X6_endingAt a1 a2 (mg, mkept, mspare, mhasKept, mwas, mwasMany, manew, mthrown, mtext, mlength, mspot, mvalue, merror, mtold, mtolds) = some R) : Met l yX6_endingAt wsX6_endingAt rm_X6_endingAt (Pc_ (dC, dI) (ty_ cI cZ cC cJ cD) (wM_ m0 m_g m_kept m_spare m_was m_text m_told cI mg mkept mspare mhasKept mwas mwasMany manew mthrown mtext mlength mspot mvalue merror mtold mtolds) sz [.ref m0, .int a1, .int a2]) (Qi_ (dC, dI) (ty_ cI cZ cC cJ cD) R (wM_ m0 m_g m_kept m_spare m_was m_text m_told cI mg mkept mspare mhasKept mwas mwasMany manew mthrown mtext mlength mspot mvalue merror mtold mtolds) (va_A (wM_ m0 m_g m_kept m_spare m_was m_text m_told cI mg mkept mspare mhasKept mwas mwasMany manew mthrown mtext mlength mspot mvalue merror mtold mtolds) sz)) 0 0 (va_A (wM_ m0 m_g m_kept m_spare m_was m_text m_told cI mg mkept mspare mhasKept mwas mwasMany manew mthrown mtext mlength mspot mvalue merror mtold mtolds) sz) := by
  refine met_ (cc := cX6_endingAt) (maxL := 4) (ret := (some .int)) (Qcf := fun A => Qi_ (dC, dI) (ty_ cI cZ cC cJ cD) R (wM_ m0 m_g m_kept m_spare m_was m_text m_told cI mg mkept mspare mhasKept mwas mwasMany manew mthrown mtext mlength mspot mvalue merror mtold mtolds) A) (by decide) rfl (Nat.le_of_ble_eq_true rfl) ?_
  intro p e s m args below meth c A ls hx hb hr hts hown hlocks hml hA hP hK hD hl
  have hown : s.vm.findClass RX6 = some m.cls := hown
  have hl : lv_has ls 4 [(0, .ref m0), (1, .int a1), (2, .int a2)] := hl
  have hS : va_S A s.heap s.heap [] := va_S.rf
  have fl7_ : (Cond.fieldLink RX6 7 "DimensionLoaderModel" "g" "[I").before args s = true := hts _ (List.mem_of_getElem? (i := 1) rfl)
  have inX6_ : ∀ w ∈ wsX60, w ∈ wsX6_endingAt := in_X6_endingAt_X6
  unfold f_X6_endingAt at hf
  dsimp only at hf
  refine lv_iconst (v := 0) hx hb dX6_endingAt_0 (by decide) ?_
  refine lv_istore_n (lv' := [(3, .int 0), (0, .ref m0), (1, .int a1), (2, .int a2)]) hx hb dX6_endingAt_1 rfl hl (by decide) rfl (fun ls hl => ?_)
  have lp2 : ∀ (n : Nat) (l3 : Int32) (l1 : Int32) (l2 : Int32) (mg : Nat → Int32) (mkept : Nat → Int32) (mspare : Nat → Int32) (mhasKept : Int32) (mwas : Nat → Int32) (mwasMany : Int32) (manew : Int32) (mthrown : Int32) (mtext : Nat → Int32) (mlength : Int32) (mspot : Int32) (mvalue : Int32) (merror : Int32) (mtold : Nat → Int32) (mtolds : Int32) (H1 : Heap) (locs : List Loc) (ls : Array Slot), f_X6_endingAt_L2 n l3 l1 l2 (mg, mkept, mspare, mhasKept, mwas, mwasMany, manew, mthrown, mtext, mlength, mspot, mvalue, merror, mtold, mtolds) = some R → va_P (dC, dI) vwCl (wM_ m0 m_g m_kept m_spare m_was m_text m_told cI mg mkept mspare mhasKept mwas mwasMany manew mthrown mtext mlength mspot mvalue merror mtold mtolds) H1 → va_D A (wM_ m0 m_g m_kept m_spare m_was m_text m_told cI mg mkept mspare mhasKept mwas mwasMany manew mthrown mtext mlength mspot mvalue merror mtold mtolds) → va_S A s.heap H1 locs → lv_has ls 4 [(3, .int l3), (0, .ref m0), (1, .int l1), (2, .int l2)] → W p l e (headSpec wsX6_endingAt rm_X6_endingAt).room s m args below meth c H1 locs 0 0 (MQ below (Qi_ (dC, dI) (ty_ cI cZ cC cJ cD) R (wM_ m0 m_g m_kept m_spare m_was m_text m_told cI mg mkept mspare mhasKept mwas mwasMany manew mthrown mtext mlength mspot mvalue merror mtold mtolds) A) args s 0 0 A) (F0 m 2 ls []) := by
    intro n
    induction n with
    | zero => intro l3 l1 l2 mg mkept mspare mhasKept mwas mwasMany manew mthrown mtext mlength mspot mvalue merror mtold mtolds H1 locs ls hf hP hD hS hl; exact absurd hf (by simp [f_X6_endingAt_L2])
    | succ n ih =>
      intro l3 l1 l2 mg mkept mspare mhasKept mwas mwasMany manew mthrown mtext mlength mspot mvalue merror mtold mtolds H1 locs ls hf hP hD hS hl
      have hf : f_X6_endingAt_S2 (f_X6_endingAt_L2 n) l3 l1 l2 (mg, mkept, mspare, mhasKept, mwas, mwasMany, manew, mthrown, mtext, mlength, mspot, mvalue, merror, mtold, mtolds) = some R := hf
      unfold f_X6_endingAt_S2 at hf
      dsimp only at hf
      refine lv_iload_n hx hb dX6_endingAt_2 rfl (lv_at hl 0 rfl) ?_
      refine lv_aload_n hx hb dX6_endingAt_3 rfl (lv_at hl 1 rfl) ?_
      refine va_get (D := (dC, dI)) (ci := 8) (v := .ref m_g) (C := RX6) (T := TX6) (N := 15) hx hb hts inX6_ hown hK hP 0 rfl rfl 0 (by decide) fl7_ (fun _ h9 => h9) rfl dX6_endingAt_4 ?_
      refine lv_iconst (v := 0) hx hb dX6_endingAt_7 (by decide) ?_
      obtain ⟨h2, hf⟩ := gd_T hf
      refine va_iald hx hb hK hP 1 0 rfl rfl h2 dX6_endingAt_8 ?_
      refine lv_icmp_ge (tgt := 43) hx hb dX6_endingAt_9 (by decide) (fun c3 => ?_) (fun c3 => ?_)
      · have hf := ite_T c3 hf
        refine lv_iconst (v := (-1)) hx hb dX6_endingAt_43 (by decide) ?_
        have hR := Option.some.inj hf
        subst hR
        exact W.iret (v := (-1 : Int32)) hx hb hr (fun t ht hW => ⟨⟨(-1 : Int32), (), rfl, rfl, by rw [ht]; exact hP, va_K.moved hW.alike hK, hD⟩, hS.F ht⟩) hS.2.2 dX6_endingAt_44
      · have hf := ite_F c3 hf
        refine lv_aload_n hx hb dX6_endingAt_12 rfl (lv_at hl 1 rfl) ?_
        refine lv_iload_n hx hb dX6_endingAt_13 rfl (lv_at hl 0 rfl) ?_
        refine lv_iload_n hx hb dX6_endingAt_14 rfl (lv_at hl 2 rfl) ?_
        obtain ⟨R5, g6, hf⟩ := bd_B hf
        obtain ⟨r4, rfl⟩ : ∃ z, z = R5 := ⟨_, rfl⟩
        have hPc := hP
        have hDc := hD
        have hFc := va_free (wc := wM_ m0 m_g m_kept m_spare m_was m_text m_told cI mg mkept mspare mhasKept mwas mwasMany manew mthrown mtext mlength mspot mvalue merror mtold mtolds) hD hS hA [0, 1, 2, 3, 4, 5, 6] rfl
        refine va_calli (va_runV (As := [.int l3, .int l1]) (rest := []) ⟨hx, hb, hml, hown, hts⟩ (c_X6_isOf l dC dI cI cZ cC cJ cD m0 m_g m_kept m_spare m_was m_text m_told H1.size mg mkept mspare mhasKept mwas mwasMany manew mthrown mtext mlength mspot mvalue merror mtold mtolds l3 l1 r4 g6) (cwV 2 hts gX6_endingAt_X6_isOf rfl rfl rfl hs_X6_isOf ⟨Nat.le_of_ble_eq_true rfl, Nat.le_of_ble_eq_true rfl⟩) (preV_ (ci := 8) (q0 := 0) hPc hK hDc rfl rfl rfl rfl) rfl rfl hl.1 rfl (lv_room (Nat.le_of_ble_eq_true rfl)) dX6_endingAt_15 ⟨Nat.le_of_ble_eq_true rfl, Nat.le_of_ble_eq_true rfl⟩) hS (fun q _ h => hFc q h) hFc (fun z8 u t H7 locs ht hvm hw hB hz1 hk1 hS => ?_)
        have hw : r4 = z8 := hw.symm
        subst hw
        obtain ⟨hP, hD⟩ := aft_ (Wr := []) (Wc' := wM_ m0 m_g m_kept m_spare m_was m_text m_told cI mg mkept mspare mhasKept mwas mwasMany manew mthrown mtext mlength mspot mvalue merror mtold mtolds) (W2 := wM_ m0 m_g m_kept m_spare m_was m_text m_told cI mg mkept mspare mhasKept mwas mwasMany manew mthrown mtext mlength mspot mvalue merror mtold mtolds) hP hD [0, 1, 2, 3, 4, 5, 6] [] [0, 1, 2, 3, 4, 5, 6] rfl rfl (by decide) (by decide) (by decide) hk1 hFc hB ht rfl
        refine lv_if_eq (tgt := 37) hx hb dX6_endingAt_18 (by decide) (fun c9 => ?_) (fun c9 => ?_)
        · have hf := ite_T c9 hf
          refine lv_iinc (v := l3 + 1) (lv' := [(3, .int (l3 + 1)), (0, .ref m0), (1, .int l1), (2, .int l2)]) hx hb dX6_endingAt_37 hl (k := 0) rfl (by first | rfl | decide) (by decide) rfl (fun ls hl => ?_)
          refine lv_goto (tgt := 2) hx hb dX6_endingAt_40 (by decide) ?_
          exact ih (l3 + 1) l1 l2 mg mkept mspare mhasKept mwas mwasMany manew mthrown mtext mlength mspot mvalue merror mtold mtolds _ _ _ hf hP hD hS (lv_sub hl [0, 1, 2, 3] rfl)
        · have hf := ite_F c9 hf
          refine lv_aload_n hx hb dX6_endingAt_21 rfl (lv_at hl 1 rfl) ?_
          refine va_get (D := (dC, dI)) (ci := 8) (v := .ref m_g) (C := RX6) (T := TX6) (N := 15) hx hb hts inX6_ hown hK hP 0 rfl rfl 0 (by decide) fl7_ (fun _ h9 => h9) rfl dX6_endingAt_22 ?_
          refine lv_sipush (v := 190) hx hb dX6_endingAt_25 (by decide) ?_
          refine lv_iload_n hx hb dX6_endingAt_28 rfl (lv_at hl 0 rfl) ?_
          refine lv_iadd hx hb dX6_endingAt_29 ?_
          obtain ⟨h10, hf⟩ := gd_T hf
          refine va_iald hx hb hK hP 1 0 rfl rfl h10 dX6_endingAt_30 ?_
          refine lv_iload_n hx hb dX6_endingAt_31 rfl (lv_at hl 3 rfl) ?_
          refine lv_icmp_ne (tgt := 37) hx hb dX6_endingAt_32 (by decide) (fun c11 => ?_) (fun c11 => ?_)
          · have hf := ite_F c11 hf
            refine lv_iinc (v := l3 + 1) (lv' := [(3, .int (l3 + 1)), (0, .ref m0), (1, .int l1), (2, .int l2)]) hx hb dX6_endingAt_37 hl (k := 0) rfl (by first | rfl | decide) (by decide) rfl (fun ls hl => ?_)
            refine lv_goto (tgt := 2) hx hb dX6_endingAt_40 (by decide) ?_
            exact ih (l3 + 1) l1 l2 mg mkept mspare mhasKept mwas mwasMany manew mthrown mtext mlength mspot mvalue merror mtold mtolds _ _ _ hf hP hD hS (lv_sub hl [0, 1, 2, 3] rfl)
          · have hf := ite_T c11 hf
            refine lv_iload_n hx hb dX6_endingAt_35 rfl (lv_at hl 0 rfl) ?_
            have hR := Option.some.inj hf
            subst hR
            exact W.iret (v := l3) hx hb hr (fun t ht hW => ⟨⟨l3, (), rfl, rfl, by rw [ht]; exact hP, va_K.moved hW.alike hK, hD⟩, hS.F ht⟩) hS.2.2 dX6_endingAt_36
  exact lp2 fu_ (0 : Int32) a1 a2 mg mkept mspare mhasKept mwas mwasMany manew mthrown mtext mlength mspot mvalue merror mtold mtolds _ _ _ hf hP hD hS hl
theorem hs_X6_endingAt : yX6_endingAt.cls = RX6 ∧ yX6_endingAt.cls ≠ "java/lang/invoke/MethodHandle" ∧ yX6_endingAt.cls ≠ "java/lang/invoke/VarHandle" ∧ (parseMethodDescriptor yX6_endingAt.desc).map (fun d => d.parameters.length) = some 2 := by decide +kernel
set_option maxRecDepth 20000 in
theorem in_X6_remove_X6 : ∀ w ∈ wsX60, w ∈ wsX6_remove := by decide +kernel
def f_X6_remove (a1 : Int32) (M_ : tM_) : Option (Int32 × tM_) :=
match M_ with
| (mg, mkept, mspare, mhasKept, mwas, mwasMany, manew, mthrown, mtext, mlength, mspot, mvalue, merror, mtold, mtolds) =>
bd_ (f_X6_isVersion a1 (mg, mkept, mspare, mhasKept, mwas, mwasMany, manew, 0, mtext, mlength, mspot, mvalue, merror, mtold, mtolds)) (fun r2 =>
if r2 = 0 then
bd_ (f_X6_fails (1 : Int32) (mg, mkept, mspare, mhasKept, mwas, mwasMany, manew, 0, mtext, mlength, mspot, mvalue, merror, mtold, mtolds)) (fun (r176, (mg177, mk178, ms179, mh180, mw181, mw182, ma183, mt184, mt185, ml186, ms187, mv188, me189, mt190, mt191)) =>
some (r176, (mg177, mk178, ms179, mh180, mw181, mw182, ma183, mt184, mt185, ml186, ms187, mv188, me189, mt190, mt191)))
else
gd_ (70 + a1) 610 (
gd_ (130 + a1) 610 (
bd_ (f_X6_endingAt (mg ((70 + a1).toNatClampNeg)) (mg ((130 + a1).toNatClampNeg)) (mg, mkept, mspare, mhasKept, mwas, mwasMany, manew, 0, mtext, mlength, mspot, mvalue, merror, mtold, mtolds)) (fun r10 =>
bd_ (f_X6_factsOf a1 (0 : Int32) (mg, mkept, mspare, mhasKept, mwas, mwasMany, manew, 0, mtext, mlength, mspot, mvalue, merror, mtold, mtolds)) (fun r15 =>
if 0 ≤ r10 then
bd_ (f_X6_begins (mg, mkept, mspare, mhasKept, mwas, mwasMany, manew, 0, mtext, mlength, mspot, mvalue, merror, mtold, mtolds)) (fun (mg21, mk22, ms23, mh24, mw25, mw26, ma27, mt28, mt29, ml30, ms31, mv32, me33, mt34, mt35) =>
gd_ (10 + a1) 610 (nm_ (upd mg21 ((10 + a1).toNatClampNeg) (0 : Int32)) (fun u42 =>
if r10 < 0 then
bd_ (f_X6_ends (u42, mk22, ms23, mh24, mw25, mw26, ma27, mt28, mt29, ml30, ms31, mv32, me33, mt34, mt35)) (fun (mg45, mk46, ms47, mh48, mw49, mw50, ma51, mt52, mt53, ml54, ms55, mv56, me57, mt58, mt59) =>
some (r15, (mg45, mk46, ms47, mh48, mw49, mw50, ma51, mt52, mt53, ml54, ms55, mv56, me57, mt58, mt59)))
else
gd_ (190 + a1) 610 (
gd_ (190 + r10) 610 (nm_ (upd u42 ((190 + r10).toNatClampNeg) (u42 ((190 + a1).toNatClampNeg))) (fun u67 =>
bd_ (f_X6_ends (u67, mk22, ms23, mh24, mw25, mw26, ma27, mt28, mt29, ml30, ms31, mv32, me33, mt34, mt35)) (fun (mg69, mk70, ms71, mh72, mw73, mw74, ma75, mt76, mt77, ml78, ms79, mv80, me81, mt82, mt83) =>
some (r15, (mg69, mk70, ms71, mh72, mw73, mw74, ma75, mt76, mt77, ml78, ms79, mv80, me81, mt82, mt83)))))))))
else
if r15 ≤ 0 then
bd_ (f_X6_begins (mg, mkept, mspare, mhasKept, mwas, mwasMany, manew, 0, mtext, mlength, mspot, mvalue, merror, mtold, mtolds)) (fun (mg89, mk90, ms91, mh92, mw93, mw94, ma95, mt96, mt97, ml98, ms99, mv100, me101, mt102, mt103) =>
gd_ (10 + a1) 610 (nm_ (upd mg89 ((10 + a1).toNatClampNeg) (0 : Int32)) (fun u110 =>
if r10 < 0 then
bd_ (f_X6_ends (u110, mk90, ms91, mh92, mw93, mw94, ma95, mt96, mt97, ml98, ms99, mv100, me101, mt102, mt103)) (fun (mg113, mk114, ms115, mh116, mw117, mw118, ma119, mt120, mt121, ml122, ms123, mv124, me125, mt126, mt127) =>
some (r15, (mg113, mk114, ms115, mh116, mw117, mw118, ma119, mt120, mt121, ml122, ms123, mv124, me125, mt126, mt127)))
else
gd_ (190 + a1) 610 (
gd_ (190 + r10) 610 (nm_ (upd u110 ((190 + r10).toNatClampNeg) (u110 ((190 + a1).toNatClampNeg))) (fun u135 =>
bd_ (f_X6_ends (u135, mk90, ms91, mh92, mw93, mw94, ma95, mt96, mt97, ml98, ms99, mv100, me101, mt102, mt103)) (fun (mg137, mk138, ms139, mh140, mw141, mw142, ma143, mt144, mt145, ml146, ms147, mv148, me149, mt150, mt151) =>
some (r15, (mg137, mk138, ms139, mh140, mw141, mw142, ma143, mt144, mt145, ml146, ms147, mv148, me149, mt150, mt151)))))))))
else
bd_ (f_X6_fails (2 : Int32) (mg, mkept, mspare, mhasKept, mwas, mwasMany, manew, 0, mtext, mlength, mspot, mvalue, merror, mtold, mtolds)) (fun (r156, (mg157, mk158, ms159, mh160, mw161, mw162, ma163, mt164, mt165, ml166, ms167, mv168, me169, mt170, mt171)) =>
some (r156, (mg157, mk158, ms159, mh160, mw161, mw162, ma163, mt164, mt165, ml166, ms167, mv168, me169, mt170, mt171))))))))
abbrev rm_X6_remove : Room := { frames := 4, cells := 0, slots := 0, locals := 90 }
set_option maxHeartbeats 4000000 in
set_option maxRecDepth 100000 in
theorem c_X6_remove (l : Launch) (dC : Nat → ClassId) (dI : Nat → Nat → Nat) (cI cZ cC cJ cD : ClassId) (m0 m_g m_kept m_spare m_was m_text m_told : Nat) (sz : Nat) (mg : Nat → Int32) (mkept : Nat → Int32) (mspare : Nat → Int32) (mhasKept : Int32) (mwas : Nat → Int32) (mwasMany : Int32) (manew : Int32) (mthrown : Int32) (mtext : Nat → Int32) (mlength : Int32) (mspot : Int32) (mvalue : Int32) (merror : Int32) (mtold : Nat → Int32) (mtolds : Int32) (a1 : Int32) (R : Int32 × tM_) (hf : f_X6_remove a1 (mg, mkept, mspare, mhasKept, mwas, mwasMany, manew, mthrown, mtext, mlength, mspot, mvalue, merror, mtold, mtolds) = some R) : Met l yX6_remove wsX6_remove rm_X6_remove (Pc_ (dC, dI) (ty_ cI cZ cC cJ cD) (wM_ m0 m_g m_kept m_spare m_was m_text m_told cI mg mkept mspare mhasKept mwas mwasMany manew mthrown mtext mlength mspot mvalue merror mtold mtolds) sz [.ref m0, .int a1]) (Qi_ (dC, dI) (ty_ cI cZ cC cJ cD) R.1 (wM_ m0 m_g m_kept m_spare m_was m_text m_told cI R.2.1 R.2.2.1 R.2.2.2.1 R.2.2.2.2.1 R.2.2.2.2.2.1 R.2.2.2.2.2.2.1 R.2.2.2.2.2.2.2.1 R.2.2.2.2.2.2.2.2.1 R.2.2.2.2.2.2.2.2.2.1 R.2.2.2.2.2.2.2.2.2.2.1 R.2.2.2.2.2.2.2.2.2.2.2.1 R.2.2.2.2.2.2.2.2.2.2.2.2.1 R.2.2.2.2.2.2.2.2.2.2.2.2.2.1 R.2.2.2.2.2.2.2.2.2.2.2.2.2.2.1 R.2.2.2.2.2.2.2.2.2.2.2.2.2.2.2) (va_A (wM_ m0 m_g m_kept m_spare m_was m_text m_told cI mg mkept mspare mhasKept mwas mwasMany manew mthrown mtext mlength mspot mvalue merror mtold mtolds) sz)) 0 0 (va_A (wM_ m0 m_g m_kept m_spare m_was m_text m_told cI mg mkept mspare mhasKept mwas mwasMany manew mthrown mtext mlength mspot mvalue merror mtold mtolds) sz) := by
  refine met_ (cc := cX6_remove) (maxL := 4) (ret := (some .int)) (Qcf := fun A => Qi_ (dC, dI) (ty_ cI cZ cC cJ cD) R.1 (wM_ m0 m_g m_kept m_spare m_was m_text m_told cI R.2.1 R.2.2.1 R.2.2.2.1 R.2.2.2.2.1 R.2.2.2.2.2.1 R.2.2.2.2.2.2.1 R.2.2.2.2.2.2.2.1 R.2.2.2.2.2.2.2.2.1 R.2.2.2.2.2.2.2.2.2.1 R.2.2.2.2.2.2.2.2.2.2.1 R.2.2.2.2.2.2.2.2.2.2.2.1 R.2.2.2.2.2.2.2.2.2.2.2.2.1 R.2.2.2.2.2.2.2.2.2.2.2.2.2.1 R.2.2.2.2.2.2.2.2.2.2.2.2.2.2.1 R.2.2.2.2.2.2.2.2.2.2.2.2.2.2.2) A) (by decide) rfl (Nat.le_of_ble_eq_true rfl) ?_
  intro p e s m args below meth c A ls hx hb hr hts hown hlocks hml hA hP hK hD hl
  have hown : s.vm.findClass RX6 = some m.cls := hown
  have hl : lv_has ls 4 [(0, .ref m0), (1, .int a1)] := hl
  have hS : va_S A s.heap s.heap [] := va_S.rf
  have fl7_ : (Cond.fieldLink RX6 7 "DimensionLoaderModel" "g" "[I").before args s = true := hts _ (List.mem_of_getElem? (i := 2) rfl)
  have fl32_ : (Cond.fieldLink RX6 32 "DimensionLoaderModel" "thrown" "I").before args s = true := hts _ (List.mem_of_getElem? (i := 1) rfl)
  have inX6_ : ∀ w ∈ wsX60, w ∈ wsX6_remove := in_X6_remove_X6
  unfold f_X6_remove at hf
  dsimp only at hf
  refine lv_aload_n hx hb dX6_remove_0 rfl (lv_at hl 0 rfl) ?_
  refine lv_iconst (v := 0) hx hb dX6_remove_1 (by decide) ?_
  refine va_put (D := (dC, dI)) (ci := 8) (v := .int 0) (ty := .int) (C := RX6) (T := TX6) (N := 15) hx hb hts inX6_ tyX6 tyX6_ok nmX6 hown hK hP hD hS 0 rfl rfl 7 (by decide) fl32_ (fun _ h9 => h9) rfl (by decide +kernel) (by first | rfl | decide) (by first | rfl | decide) (Nat.le_of_ble_eq_true rfl) dX6_remove_2 (fun H1 locs hP hD hS => ?_)
  have hP : va_P (dC, dI) vwCl (wM_ m0 m_g m_kept m_spare m_was m_text m_told cI mg mkept mspare mhasKept mwas mwasMany manew 0 mtext mlength mspot mvalue merror mtold mtolds) H1 := hP
  have hD : va_D A (wM_ m0 m_g m_kept m_spare m_was m_text m_told cI mg mkept mspare mhasKept mwas mwasMany manew 0 mtext mlength mspot mvalue merror mtold mtolds) := hD
  refine lv_aload_n hx hb dX6_remove_5 rfl (lv_at hl 0 rfl) ?_
  refine lv_iload_n hx hb dX6_remove_6 rfl (lv_at hl 1 rfl) ?_
  obtain ⟨R3, g4, hf⟩ := bd_B hf
  obtain ⟨r2, rfl⟩ : ∃ z, z = R3 := ⟨_, rfl⟩
  have hPc := hP
  have hDc := hD
  have hFc := va_free (wc := wM_ m0 m_g m_kept m_spare m_was m_text m_told cI mg mkept mspare mhasKept mwas mwasMany manew 0 mtext mlength mspot mvalue merror mtold mtolds) hD hS hA [0, 1, 2, 3, 4, 5, 6] rfl
  refine va_calli (va_runV (As := [.int a1]) (rest := []) ⟨hx, hb, hml, hown, hts⟩ (c_X6_isVersion l dC dI cI cZ cC cJ cD m0 m_g m_kept m_spare m_was m_text m_told H1.size mg mkept mspare mhasKept mwas mwasMany manew (0 : Int32) mtext mlength mspot mvalue merror mtold mtolds a1 r2 g4) (cwV 1 hts gX6_remove_X6_isVersion rfl rfl rfl hs_X6_isVersion ⟨Nat.le_of_ble_eq_true rfl, Nat.le_of_ble_eq_true rfl⟩) (preV_ (ci := 8) (q0 := 0) hPc hK hDc rfl rfl rfl rfl) rfl rfl hl.1 rfl (lv_room (Nat.le_of_ble_eq_true rfl)) dX6_remove_7 ⟨Nat.le_of_ble_eq_true rfl, Nat.le_of_ble_eq_true rfl⟩) hS (fun q _ h => hFc q h) hFc (fun z6 u t H5 locs ht hvm hw hB hz1 hk1 hS => ?_)
  have hw : r2 = z6 := hw.symm
  subst hw
  obtain ⟨hP, hD⟩ := aft_ (Wr := []) (Wc' := wM_ m0 m_g m_kept m_spare m_was m_text m_told cI mg mkept mspare mhasKept mwas mwasMany manew 0 mtext mlength mspot mvalue merror mtold mtolds) (W2 := wM_ m0 m_g m_kept m_spare m_was m_text m_told cI mg mkept mspare mhasKept mwas mwasMany manew 0 mtext mlength mspot mvalue merror mtold mtolds) hP hD [0, 1, 2, 3, 4, 5, 6] [] [0, 1, 2, 3, 4, 5, 6] rfl rfl (by decide) (by decide) (by decide) hk1 hFc hB ht rfl
  refine lv_if_ne (tgt := 19) hx hb dX6_remove_10 (by decide) (fun c7 => ?_) (fun c7 => ?_)
  · have hf := ite_F c7 hf
    refine lv_aload_n hx hb dX6_remove_19 rfl (lv_at hl 0 rfl) ?_
    refine lv_aload_n hx hb dX6_remove_20 rfl (lv_at hl 0 rfl) ?_
    refine va_get (D := (dC, dI)) (ci := 8) (v := .ref m_g) (C := RX6) (T := TX6) (N := 15) hx hb hts inX6_ hown hK hP 0 rfl rfl 0 (by decide) fl7_ (fun _ h9 => h9) rfl dX6_remove_21 ?_
    refine lv_bipush (v := 70) hx hb dX6_remove_24 (by decide) ?_
    refine lv_iload_n hx hb dX6_remove_26 rfl (lv_at hl 1 rfl) ?_
    refine lv_iadd hx hb dX6_remove_27 ?_
    obtain ⟨h8, hf⟩ := gd_T hf
    refine va_iald hx hb hK hP 1 0 rfl rfl h8 dX6_remove_28 ?_
    refine lv_aload_n hx hb dX6_remove_29 rfl (lv_at hl 0 rfl) ?_
    refine va_get (D := (dC, dI)) (ci := 8) (v := .ref m_g) (C := RX6) (T := TX6) (N := 15) hx hb hts inX6_ hown hK hP 0 rfl rfl 0 (by decide) fl7_ (fun _ h9 => h9) rfl dX6_remove_30 ?_
    refine lv_sipush (v := 130) hx hb dX6_remove_33 (by decide) ?_
    refine lv_iload_n hx hb dX6_remove_36 rfl (lv_at hl 1 rfl) ?_
    refine lv_iadd hx hb dX6_remove_37 ?_
    obtain ⟨h9, hf⟩ := gd_T hf
    refine va_iald hx hb hK hP 1 0 rfl rfl h9 dX6_remove_38 ?_
    obtain ⟨R11, g12, hf⟩ := bd_B hf
    obtain ⟨r10, rfl⟩ : ∃ z, z = R11 := ⟨_, rfl⟩
    have hPc := hP
    have hDc := hD
    have hFc := va_free (wc := wM_ m0 m_g m_kept m_spare m_was m_text m_told cI mg mkept mspare mhasKept mwas mwasMany manew 0 mtext mlength mspot mvalue merror mtold mtolds) hD hS hA [0, 1, 2, 3, 4, 5, 6] rfl
    refine va_calli (va_runV (As := [.int (mg ((70 + a1).toNatClampNeg)), .int (mg ((130 + a1).toNatClampNeg))]) (rest := []) ⟨hx, hb, hml, hown, hts⟩ (c_X6_endingAt l dC dI cI cZ cC cJ cD m0 m_g m_kept m_spare m_was m_text m_told H5.size mg mkept mspare mhasKept mwas mwasMany manew (0 : Int32) mtext mlength mspot mvalue merror mtold mtolds (mg ((70 + a1).toNatClampNeg)) (mg ((130 + a1).toNatClampNeg)) r10 g12) (cwV 2 hts gX6_remove_X6_endingAt rfl rfl rfl hs_X6_endingAt ⟨Nat.le_of_ble_eq_true rfl, Nat.le_of_ble_eq_true rfl⟩) (preV_ (ci := 8) (q0 := 0) hPc hK hDc rfl rfl rfl rfl) rfl rfl hl.1 rfl (lv_room (Nat.le_of_ble_eq_true rfl)) dX6_remove_39 ⟨Nat.le_of_ble_eq_true rfl, Nat.le_of_ble_eq_true rfl⟩) hS (fun q _ h => hFc q h) hFc (fun z14 u t H13 locs ht hvm hw hB hz1 hk1 hS => ?_)
    have hw : r10 = z14 := hw.symm
    subst hw
    obtain ⟨hP, hD⟩ := aft_ (Wr := []) (Wc' := wM_ m0 m_g m_kept m_spare m_was m_text m_told cI mg mkept mspare mhasKept mwas mwasMany manew 0 mtext mlength mspot mvalue merror mtold mtolds) (W2 := wM_ m0 m_g m_kept m_spare m_was m_text m_told cI mg mkept mspare mhasKept mwas mwasMany manew 0 mtext mlength mspot mvalue merror mtold mtolds) hP hD [0, 1, 2, 3, 4, 5, 6] [] [0, 1, 2, 3, 4, 5, 6] rfl rfl (by decide) (by decide) (by decide) hk1 hFc hB ht rfl
    refine lv_istore_n (lv' := [(2, .int r10), (0, .ref m0), (1, .int a1)]) hx hb dX6_remove_42 rfl hl (by decide) rfl (fun ls hl => ?_)
    refine lv_aload_n hx hb dX6_remove_43 rfl (lv_at hl 1 rfl) ?_
    refine lv_iload_n hx hb dX6_remove_44 rfl (lv_at hl 2 rfl) ?_
    refine lv_iconst (v := 0) hx hb dX6_remove_45 (by decide) ?_
    obtain ⟨R16, g17, hf⟩ := bd_B hf
    obtain ⟨r15, rfl⟩ : ∃ z, z = R16 := ⟨_, rfl⟩
    have hPc := hP
    have hDc := hD
    have hFc := va_free (wc := wM_ m0 m_g m_kept m_spare m_was m_text m_told cI mg mkept mspare mhasKept mwas mwasMany manew 0 mtext mlength mspot mvalue merror mtold mtolds) hD hS hA [0, 1, 2, 3, 4, 5, 6] rfl
    refine va_calli (va_runV (As := [.int a1, .int 0]) (rest := []) ⟨hx, hb, hml, hown, hts⟩ (c_X6_factsOf l dC dI cI cZ cC cJ cD m0 m_g m_kept m_spare m_was m_text m_told H13.size mg mkept mspare mhasKept mwas mwasMany manew (0 : Int32) mtext mlength mspot mvalue merror mtold mtolds a1 (0 : Int32) r15 g17) (cwV 2 hts gX6_remove_X6_factsOf rfl rfl rfl hs_X6_factsOf ⟨Nat.le_of_ble_eq_true rfl, Nat.le_of_ble_eq_true rfl⟩) (preV_ (ci := 8) (q0 := 0) hPc hK hDc rfl rfl rfl rfl) rfl rfl hl.1 rfl (lv_room (Nat.le_of_ble_eq_true rfl)) dX6_remove_46 ⟨Nat.le_of_ble_eq_true rfl, Nat.le_of_ble_eq_true rfl⟩) hS (fun q _ h => hFc q h) hFc (fun z19 u t H18 locs ht hvm hw hB hz1 hk1 hS => ?_)
    have hw : r15 = z19 := hw.symm
    subst hw
    obtain ⟨hP, hD⟩ := aft_ (Wr := []) (Wc' := wM_ m0 m_g m_kept m_spare m_was m_text m_told cI mg mkept mspare mhasKept mwas mwasMany manew 0 mtext mlength mspot mvalue merror mtold mtolds) (W2 := wM_ m0 m_g m_kept m_spare m_was m_text m_told cI mg mkept mspare mhasKept mwas mwasMany manew 0 mtext mlength mspot mvalue merror mtold mtolds) hP hD [0, 1, 2, 3, 4, 5, 6] [] [0, 1, 2, 3, 4, 5, 6] rfl rfl (by decide) (by decide) (by decide) hk1 hFc hB ht rfl
    refine lv_istore_n (lv' := [(3, .int r15), (2, .int r10), (0, .ref m0), (1, .int a1)]) hx hb dX6_remove_49 rfl hl (by decide) rfl (fun ls hl => ?_)
    refine lv_iload_n hx hb dX6_remove_50 rfl (lv_at hl 1 rfl) ?_
    refine lv_if_ge (tgt := 64) hx hb dX6_remove_51 (by decide) (fun c20 => ?_) (fun c20 => ?_)
    · have hf := ite_T c20 hf
      refine lv_aload_n hx hb dX6_remove_64 rfl (lv_at hl 2 rfl) ?_
      obtain ⟨R36, g37, hf⟩ := bd_B hf
      obtain ⟨mg21, mk22, ms23, mh24, mw25, mw26, ma27, mt28, mt29, ml30, ms31, mv32, me33, mt34, mt35⟩ := R36
      dsimp only at hf
      have hPc := hP
      have hDc := hD
      have hFc := va_free (wc := wM_ m0 m_g m_kept m_spare m_was m_text m_told cI mg mkept mspare mhasKept mwas mwasMany manew 0 mtext mlength mspot mvalue merror mtold mtolds) hD hS hA [0, 1, 2, 3, 4, 5, 6] rfl
      refine va_callv (va_runV (As := []) (rest := []) ⟨hx, hb, hml, hown, hts⟩ (c_X6_begins l dC dI cI cZ cC cJ cD m0 m_g m_kept m_spare m_was m_text m_told H18.size mg mkept mspare mhasKept mwas mwasMany manew (0 : Int32) mtext mlength mspot mvalue merror mtold mtolds (mg21, mk22, ms23, mh24, mw25, mw26, ma27, mt28, mt29, ml30, ms31, mv32, me33, mt34, mt35) g37) (cwV 0 hts gX6_remove_X6_begins rfl rfl rfl hs_X6_begins ⟨Nat.le_of_ble_eq_true rfl, Nat.le_of_ble_eq_true rfl⟩) (preV_ (ci := 8) (q0 := 0) hPc hK hDc rfl rfl rfl rfl) rfl rfl hl.1 rfl (lv_room (Nat.le_of_ble_eq_true rfl)) dX6_remove_65 ⟨Nat.le_of_ble_eq_true rfl, Nat.le_of_ble_eq_true rfl⟩) hS (fun q _ h => hFc q h) hFc (fun u t H38 locs ht hvm hw hB hz1 hk1 hS => ?_)
      obtain ⟨hP, hD⟩ := aft_ (Wr := []) (Wc' := wM_ m0 m_g m_kept m_spare m_was m_text m_told cI mg21 mk22 ms23 mh24 mw25 mw26 ma27 mt28 mt29 ml30 ms31 mv32 me33 mt34 mt35) (W2 := wM_ m0 m_g m_kept m_spare m_was m_text m_told cI mg21 mk22 ms23 mh24 mw25 mw26 ma27 mt28 mt29 ml30 ms31 mv32 me33 mt34 mt35) hP hD [0, 1, 2, 3, 4, 5, 6] [] [0, 1, 2, 3, 4, 5, 6] rfl rfl (by decide) (by decide) (by decide) hk1 hFc hB ht rfl
      refine lv_aload_n hx hb dX6_remove_68 rfl (lv_at hl 2 rfl) ?_
      refine va_get (D := (dC, dI)) (ci := 8) (v := .ref m_g) (C := RX6) (T := TX6) (N := 15) hx hb hts inX6_ hown hK hP 0 rfl rfl 0 (by decide) fl7_ (fun _ h9 => h9) rfl dX6_remove_69 ?_
      refine lv_bipush (v := 10) hx hb dX6_remove_72 (by decide) ?_
      refine lv_iload_n hx hb dX6_remove_74 rfl (lv_at hl 3 rfl) ?_
      refine lv_iadd hx hb dX6_remove_75 ?_
      refine lv_iconst (v := 0) hx hb dX6_remove_76 (by decide) ?_
      obtain ⟨h40, hf⟩ := gd_T hf
      refine va_iast hx hb hK hP hD hS 1 0 rfl rfl h40 dX6_remove_77 (fun H41 locs hP hD hS => ?_)
      have hP : va_P (dC, dI) vwCl (wM_ m0 m_g m_kept m_spare m_was m_text m_told cI (upd mg21 ((10 + a1).toNatClampNeg) (0 : Int32)) mk22 ms23 mh24 mw25 mw26 ma27 mt28 mt29 ml30 ms31 mv32 me33 mt34 mt35) H41 := hP
      have hD : va_D A (wM_ m0 m_g m_kept m_spare m_was m_text m_told cI (upd mg21 ((10 + a1).toNatClampNeg) (0 : Int32)) mk22 ms23 mh24 mw25 mw26 ma27 mt28 mt29 ml30 ms31 mv32 me33 mt34 mt35) := hD
      obtain ⟨u42, e43, hf⟩ := nm_T hf
      rw [← e43] at hP hD
      refine lv_iload_n hx hb dX6_remove_78 rfl (lv_at hl 1 rfl) ?_
      refine lv_if_lt (tgt := 102) hx hb dX6_remove_79 (by decide) (fun c44 => ?_) (fun c44 => ?_)
      · have hf := ite_T c44 hf
        refine lv_aload_n hx hb dX6_remove_102 rfl (lv_at hl 2 rfl) ?_
        obtain ⟨R60, g61, hf⟩ := bd_B hf
        obtain ⟨mg45, mk46, ms47, mh48, mw49, mw50, ma51, mt52, mt53, ml54, ms55, mv56, me57, mt58, mt59⟩ := R60
        dsimp only at hf
        have hPc := hP
        have hDc := hD
        have hFc := va_free (wc := wM_ m0 m_g m_kept m_spare m_was m_text m_told cI u42 mk22 ms23 mh24 mw25 mw26 ma27 mt28 mt29 ml30 ms31 mv32 me33 mt34 mt35) hD hS hA [0, 1, 2, 3, 4, 5, 6] rfl
        refine va_callv (va_runV (As := []) (rest := []) ⟨hx, hb, hml, hown, hts⟩ (c_X6_ends l dC dI cI cZ cC cJ cD m0 m_g m_kept m_spare m_was m_text m_told H41.size u42 mk22 ms23 mh24 mw25 mw26 ma27 mt28 mt29 ml30 ms31 mv32 me33 mt34 mt35 (mg45, mk46, ms47, mh48, mw49, mw50, ma51, mt52, mt53, ml54, ms55, mv56, me57, mt58, mt59) g61) (cwV 0 hts gX6_remove_X6_ends rfl rfl rfl hs_X6_ends ⟨Nat.le_of_ble_eq_true rfl, Nat.le_of_ble_eq_true rfl⟩) (preV_ (ci := 8) (q0 := 0) hPc hK hDc rfl rfl rfl rfl) rfl rfl hl.1 rfl (lv_room (Nat.le_of_ble_eq_true rfl)) dX6_remove_103 ⟨Nat.le_of_ble_eq_true rfl, Nat.le_of_ble_eq_true rfl⟩) hS (fun q _ h => hFc q h) hFc (fun u t H62 locs ht hvm hw hB hz1 hk1 hS => ?_)
        obtain ⟨hP, hD⟩ := aft_ (Wr := []) (Wc' := wM_ m0 m_g m_kept m_spare m_was m_text m_told cI mg45 mk46 ms47 mh48 mw49 mw50 ma51 mt52 mt53 ml54 ms55 mv56 me57 mt58 mt59) (W2 := wM_ m0 m_g m_kept m_spare m_was m_text m_told cI mg45 mk46 ms47 mh48 mw49 mw50 ma51 mt52 mt53 ml54 ms55 mv56 me57 mt58 mt59) hP hD [0, 1, 2, 3, 4, 5, 6] [] [0, 1, 2, 3, 4, 5, 6] rfl rfl (by decide) (by decide) (by decide) hk1 hFc hB ht rfl
        refine lv_iload_n hx hb dX6_remove_106 rfl (lv_at hl 0 rfl) ?_
        have hR := Option.some.inj hf
        subst hR
        exact W.iret (v := r15) hx hb hr (fun t ht hW => ⟨⟨r15, (), rfl, rfl, by rw [ht]; exact hP, va_K.moved hW.alike hK, hD⟩, hS.F ht⟩) hS.2.2 dX6_remove_107
      · have hf := ite_F c44 hf
        refine lv_aload_n hx hb dX6_remove_82 rfl (lv_at hl 2 rfl) ?_
        refine va_get (D := (dC, dI)) (ci := 8) (v := .ref m_g) (C := RX6) (T := TX6) (N := 15) hx hb hts inX6_ hown hK hP 0 rfl rfl 0 (by decide) fl7_ (fun _ h9 => h9) rfl dX6_remove_83 ?_
        refine lv_sipush (v := 190) hx hb dX6_remove_86 (by decide) ?_
        refine lv_iload_n hx hb dX6_remove_89 rfl (lv_at hl 1 rfl) ?_
        refine lv_iadd hx hb dX6_remove_90 ?_
        refine lv_aload_n hx hb dX6_remove_91 rfl (lv_at hl 2 rfl) ?_
        refine va_get (D := (dC, dI)) (ci := 8) (v := .ref m_g) (C := RX6) (T := TX6) (N := 15) hx hb hts inX6_ hown hK hP 0 rfl rfl 0 (by decide) fl7_ (fun _ h9 => h9) rfl dX6_remove_92 ?_
        refine lv_sipush (v := 190) hx hb dX6_remove_95 (by decide) ?_
        refine lv_iload_n hx hb dX6_remove_98 rfl (lv_at hl 3 rfl) ?_
        refine lv_iadd hx hb dX6_remove_99 ?_
        obtain ⟨h64, hf⟩ := gd_T hf
        refine va_iald hx hb hK hP 1 0 rfl rfl h64 dX6_remove_100 ?_
        obtain ⟨h65, hf⟩ := gd_T hf
        refine va_iast hx hb hK hP hD hS 1 0 rfl rfl h65 dX6_remove_101 (fun H66 locs hP hD hS => ?_)
        have hP : va_P (dC, dI) vwCl (wM_ m0 m_g m_kept m_spare m_was m_text m_told cI (upd u42 ((190 + r10).toNatClampNeg) (u42 ((190 + a1).toNatClampNeg))) mk22 ms23 mh24 mw25 mw26 ma27 mt28 mt29 ml30 ms31 mv32 me33 mt34 mt35) H66 := hP
        have hD : va_D A (wM_ m0 m_g m_kept m_spare m_was m_text m_told cI (upd u42 ((190 + r10).toNatClampNeg) (u42 ((190 + a1).toNatClampNeg))) mk22 ms23 mh24 mw25 mw26 ma27 mt28 mt29 ml30 ms31 mv32 me33 mt34 mt35) := hD
        obtain ⟨u67, e68, hf⟩ := nm_T hf
        rw [← e68] at hP hD
        refine lv_aload_n hx hb dX6_remove_102 rfl (lv_at hl 2 rfl) ?_
        obtain ⟨R84, g85, hf⟩ := bd_B hf
        obtain ⟨mg69, mk70, ms71, mh72, mw73, mw74, ma75, mt76, mt77, ml78, ms79, mv80, me81, mt82, mt83⟩ := R84
        dsimp only at hf
        have hPc := hP
        have hDc := hD
        have hFc := va_free (wc := wM_ m0 m_g m_kept m_spare m_was m_text m_told cI u67 mk22 ms23 mh24 mw25 mw26 ma27 mt28 mt29 ml30 ms31 mv32 me33 mt34 mt35) hD hS hA [0, 1, 2, 3, 4, 5, 6] rfl
        refine va_callv (va_runV (As := []) (rest := []) ⟨hx, hb, hml, hown, hts⟩ (c_X6_ends l dC dI cI cZ cC cJ cD m0 m_g m_kept m_spare m_was m_text m_told H66.size u67 mk22 ms23 mh24 mw25 mw26 ma27 mt28 mt29 ml30 ms31 mv32 me33 mt34 mt35 (mg69, mk70, ms71, mh72, mw73, mw74, ma75, mt76, mt77, ml78, ms79, mv80, me81, mt82, mt83) g85) (cwV 0 hts gX6_remove_X6_ends rfl rfl rfl hs_X6_ends ⟨Nat.le_of_ble_eq_true rfl, Nat.le_of_ble_eq_true rfl⟩) (preV_ (ci := 8) (q0 := 0) hPc hK hDc rfl rfl rfl rfl) rfl rfl hl.1 rfl (lv_room (Nat.le_of_ble_eq_true rfl)) dX6_remove_103 ⟨Nat.le_of_ble_eq_true rfl, Nat.le_of_ble_eq_true rfl⟩) hS (fun q _ h => hFc q h) hFc (fun u t H86 locs ht hvm hw hB hz1 hk1 hS => ?_)
        obtain ⟨hP, hD⟩ := aft_ (Wr := []) (Wc' := wM_ m0 m_g m_kept m_spare m_was m_text m_told cI mg69 mk70 ms71 mh72 mw73 mw74 ma75 mt76 mt77 ml78 ms79 mv80 me81 mt82 mt83) (W2 := wM_ m0 m_g m_kept m_spare m_was m_text m_told cI mg69 mk70 ms71 mh72 mw73 mw74 ma75 mt76 mt77 ml78 ms79 mv80 me81 mt82 mt83) hP hD [0, 1, 2, 3, 4, 5, 6] [] [0, 1, 2, 3, 4, 5, 6] rfl rfl (by decide) (by decide) (by decide) hk1 hFc hB ht rfl
        refine lv_iload_n hx hb dX6_remove_106 rfl (lv_at hl 0 rfl) ?_
        have hR := Option.some.inj hf
        subst hR
        exact W.iret (v := r15) hx hb hr (fun t ht hW => ⟨⟨r15, (), rfl, rfl, by rw [ht]; exact hP, va_K.moved hW.alike hK, hD⟩, hS.F ht⟩) hS.2.2 dX6_remove_107
    · have hf := ite_F c20 hf
      refine lv_iload_n hx hb dX6_remove_54 rfl (lv_at hl 0 rfl) ?_
      refine lv_if_le (tgt := 64) hx hb dX6_remove_55 (by decide) (fun c88 => ?_) (fun c88 => ?_)
      · have hf := ite_T c88 hf
        refine lv_aload_n hx hb dX6_remove_64 rfl (lv_at hl 2 rfl) ?_
        obtain ⟨R104, g105, hf⟩ := bd_B hf
        obtain ⟨mg89, mk90, ms91, mh92, mw93, mw94, ma95, mt96, mt97, ml98, ms99, mv100, me101, mt102, mt103⟩ := R104
        dsimp only at hf
        have hPc := hP
        have hDc := hD
        have hFc := va_free (wc := wM_ m0 m_g m_kept m_spare m_was m_text m_told cI mg mkept mspare mhasKept mwas mwasMany manew 0 mtext mlength mspot mvalue merror mtold mtolds) hD hS hA [0, 1, 2, 3, 4, 5, 6] rfl
        refine va_callv (va_runV (As := []) (rest := []) ⟨hx, hb, hml, hown, hts⟩ (c_X6_begins l dC dI cI cZ cC cJ cD m0 m_g m_kept m_spare m_was m_text m_told H18.size mg mkept mspare mhasKept mwas mwasMany manew (0 : Int32) mtext mlength mspot mvalue merror mtold mtolds (mg89, mk90, ms91, mh92, mw93, mw94, ma95, mt96, mt97, ml98, ms99, mv100, me101, mt102, mt103) g105) (cwV 0 hts gX6_remove_X6_begins rfl rfl rfl hs_X6_begins ⟨Nat.le_of_ble_eq_true rfl, Nat.le_of_ble_eq_true rfl⟩) (preV_ (ci := 8) (q0 := 0) hPc hK hDc rfl rfl rfl rfl) rfl rfl hl.1 rfl (lv_room (Nat.le_of_ble_eq_true rfl)) dX6_remove_65 ⟨Nat.le_of_ble_eq_true rfl, Nat.le_of_ble_eq_true rfl⟩) hS (fun q _ h => hFc q h) hFc (fun u t H106 locs ht hvm hw hB hz1 hk1 hS => ?_)
        obtain ⟨hP, hD⟩ := aft_ (Wr := []) (Wc' := wM_ m0 m_g m_kept m_spare m_was m_text m_told cI mg89 mk90 ms91 mh92 mw93 mw94 ma95 mt96 mt97 ml98 ms99 mv100 me101 mt102 mt103) (W2 := wM_ m0 m_g m_kept m_spare m_was m_text m_told cI mg89 mk90 ms91 mh92 mw93 mw94 ma95 mt96 mt97 ml98 ms99 mv100 me101 mt102 mt103) hP hD [0, 1, 2, 3, 4, 5, 6] [] [0, 1, 2, 3, 4, 5, 6] rfl rfl (by decide) (by decide) (by decide) hk1 hFc hB ht rfl
        refine lv_aload_n hx hb dX6_remove_68 rfl (lv_at hl 2 rfl) ?_
        refine va_get (D := (dC, dI)) (ci := 8) (v := .ref m_g) (C := RX6) (T := TX6) (N := 15) hx hb hts inX6_ hown hK hP 0 rfl rfl 0 (by decide) fl7_ (fun _ h9 => h9) rfl dX6_remove_69 ?_
        refine lv_bipush (v := 10) hx hb dX6_remove_72 (by decide) ?_
        refine lv_iload_n hx hb dX6_remove_74 rfl (lv_at hl 3 rfl) ?_
        refine lv_iadd hx hb dX6_remove_75 ?_
        refine lv_iconst (v := 0) hx hb dX6_remove_76 (by decide) ?_
        obtain ⟨h108, hf⟩ := gd_T hf
        refine va_iast hx hb hK hP hD hS 1 0 rfl rfl h108 dX6_remove_77 (fun H109 locs hP hD hS => ?_)
        have hP : va_P (dC, dI) vwCl (wM_ m0 m_g m_kept m_spare m_was m_text m_told cI (upd mg89 ((10 + a1).toNatClampNeg) (0 : Int32)) mk90 ms91 mh92 mw93 mw94 ma95 mt96 mt97 ml98 ms99 mv100 me101 mt102 mt103) H109 := hP
        have hD : va_D A (wM_ m0 m_g m_kept m_spare m_was m_text m_told cI (upd mg89 ((10 + a1).toNatClampNeg) (0 : Int32)) mk90 ms91 mh92 mw93 mw94 ma95 mt96 mt97 ml98 ms99 mv100 me101 mt102 mt103) := hD
        obtain ⟨u110, e111, hf⟩ := nm_T hf
        rw [← e111] at hP hD
        refine lv_iload_n hx hb dX6_remove_78 rfl (lv_at hl 1 rfl) ?_
        refine lv_if_lt (tgt := 102) hx hb dX6_remove_79 (by decide) (fun c112 => ?_) (fun c112 => ?_)
        · have hf := ite_T c112 hf
          refine lv_aload_n hx hb dX6_remove_102 rfl (lv_at hl 2 rfl) ?_
          obtain ⟨R128, g129, hf⟩ := bd_B hf
          obtain ⟨mg113, mk114, ms115, mh116, mw117, mw118, ma119, mt120, mt121, ml122, ms123, mv124, me125, mt126, mt127⟩ := R128
          dsimp only at hf
          have hPc := hP
          have hDc := hD
          have hFc := va_free (wc := wM_ m0 m_g m_kept m_spare m_was m_text m_told cI u110 mk90 ms91 mh92 mw93 mw94 ma95 mt96 mt97 ml98 ms99 mv100 me101 mt102 mt103) hD hS hA [0, 1, 2, 3, 4, 5, 6] rfl
          refine va_callv (va_runV (As := []) (rest := []) ⟨hx, hb, hml, hown, hts⟩ (c_X6_ends l dC dI cI cZ cC cJ cD m0 m_g m_kept m_spare m_was m_text m_told H109.size u110 mk90 ms91 mh92 mw93 mw94 ma95 mt96 mt97 ml98 ms99 mv100 me101 mt102 mt103 (mg113, mk114, ms115, mh116, mw117, mw118, ma119, mt120, mt121, ml122, ms123, mv124, me125, mt126, mt127) g129) (cwV 0 hts gX6_remove_X6_ends rfl rfl rfl hs_X6_ends ⟨Nat.le_of_ble_eq_true rfl, Nat.le_of_ble_eq_true rfl⟩) (preV_ (ci := 8) (q0 := 0) hPc hK hDc rfl rfl rfl rfl) rfl rfl hl.1 rfl (lv_room (Nat.le_of_ble_eq_true rfl)) dX6_remove_103 ⟨Nat.le_of_ble_eq_true rfl, Nat.le_of_ble_eq_true rfl⟩) hS (fun q _ h => hFc q h) hFc (fun u t H130 locs ht hvm hw hB hz1 hk1 hS => ?_)
          obtain ⟨hP, hD⟩ := aft_ (Wr := []) (Wc' := wM_ m0 m_g m_kept m_spare m_was m_text m_told cI mg113 mk114 ms115 mh116 mw117 mw118 ma119 mt120 mt121 ml122 ms123 mv124 me125 mt126 mt127) (W2 := wM_ m0 m_g m_kept m_spare m_was m_text m_told cI mg113 mk114 ms115 mh116 mw117 mw118 ma119 mt120 mt121 ml122 ms123 mv124 me125 mt126 mt127) hP hD [0, 1, 2, 3, 4, 5, 6] [] [0, 1, 2, 3, 4, 5, 6] rfl rfl (by decide) (by decide) (by decide) hk1 hFc hB ht rfl
          refine lv_iload_n hx hb dX6_remove_106 rfl (lv_at hl 0 rfl) ?_
          have hR := Option.some.inj hf
          subst hR
          exact W.iret (v := r15) hx hb hr (fun t ht hW => ⟨⟨r15, (), rfl, rfl, by rw [ht]; exact hP, va_K.moved hW.alike hK, hD⟩, hS.F ht⟩) hS.2.2 dX6_remove_107
        · have hf := ite_F c112 hf
          refine lv_aload_n hx hb dX6_remove_82 rfl (lv_at hl 2 rfl) ?_
          refine va_get (D := (dC, dI)) (ci := 8) (v := .ref m_g) (C := RX6) (T := TX6) (N := 15) hx hb hts inX6_ hown hK hP 0 rfl rfl 0 (by decide) fl7_ (fun _ h9 => h9) rfl dX6_remove_83 ?_
          refine lv_sipush (v := 190) hx hb dX6_remove_86 (by decide) ?_
          refine lv_iload_n hx hb dX6_remove_89 rfl (lv_at hl 1 rfl) ?_
          refine lv_iadd hx hb dX6_remove_90 ?_
          refine lv_aload_n hx hb dX6_remove_91 rfl (lv_at hl 2 rfl) ?_
          refine va_get (D := (dC, dI)) (ci := 8) (v := .ref m_g) (C := RX6) (T := TX6) (N := 15) hx hb hts inX6_ hown hK hP 0 rfl rfl 0 (by decide) fl7_ (fun _ h9 => h9) rfl dX6_remove_92 ?_
          refine lv_sipush (v := 190) hx hb dX6_remove_95 (by decide) ?_
          refine lv_iload_n hx hb dX6_remove_98 rfl (lv_at hl 3 rfl) ?_
          refine lv_iadd hx hb dX6_remove_99 ?_
          obtain ⟨h132, hf⟩ := gd_T hf
          refine va_iald hx hb hK hP 1 0 rfl rfl h132 dX6_remove_100 ?_
          obtain ⟨h133, hf⟩ := gd_T hf
          refine va_iast hx hb hK hP hD hS 1 0 rfl rfl h133 dX6_remove_101 (fun H134 locs hP hD hS => ?_)
          have hP : va_P (dC, dI) vwCl (wM_ m0 m_g m_kept m_spare m_was m_text m_told cI (upd u110 ((190 + r10).toNatClampNeg) (u110 ((190 + a1).toNatClampNeg))) mk90 ms91 mh92 mw93 mw94 ma95 mt96 mt97 ml98 ms99 mv100 me101 mt102 mt103) H134 := hP
          have hD : va_D A (wM_ m0 m_g m_kept m_spare m_was m_text m_told cI (upd u110 ((190 + r10).toNatClampNeg) (u110 ((190 + a1).toNatClampNeg))) mk90 ms91 mh92 mw93 mw94 ma95 mt96 mt97 ml98 ms99 mv100 me101 mt102 mt103) := hD
          obtain ⟨u135, e136, hf⟩ := nm_T hf
          rw [← e136] at hP hD
          refine lv_aload_n hx hb dX6_remove_102 rfl (lv_at hl 2 rfl) ?_
          obtain ⟨R152, g153, hf⟩ := bd_B hf
          obtain ⟨mg137, mk138, ms139, mh140, mw141, mw142, ma143, mt144, mt145, ml146, ms147, mv148, me149, mt150, mt151⟩ := R152
          dsimp only at hf
          have hPc := hP
          have hDc := hD
          have hFc := va_free (wc := wM_ m0 m_g m_kept m_spare m_was m_text m_told cI u135 mk90 ms91 mh92 mw93 mw94 ma95 mt96 mt97 ml98 ms99 mv100 me101 mt102 mt103) hD hS hA [0, 1, 2, 3, 4, 5, 6] rfl
          refine va_callv (va_runV (As := []) (rest := []) ⟨hx, hb, hml, hown, hts⟩ (c_X6_ends l dC dI cI cZ cC cJ cD m0 m_g m_kept m_spare m_was m_text m_told H134.size u135 mk90 ms91 mh92 mw93 mw94 ma95 mt96 mt97 ml98 ms99 mv100 me101 mt102 mt103 (mg137, mk138, ms139, mh140, mw141, mw142, ma143, mt144, mt145, ml146, ms147, mv148, me149, mt150, mt151) g153) (cwV 0 hts gX6_remove_X6_ends rfl rfl rfl hs_X6_ends ⟨Nat.le_of_ble_eq_true rfl, Nat.le_of_ble_eq_true rfl⟩) (preV_ (ci := 8) (q0 := 0) hPc hK hDc rfl rfl rfl rfl) rfl rfl hl.1 rfl (lv_room (Nat.le_of_ble_eq_true rfl)) dX6_remove_103 ⟨Nat.le_of_ble_eq_true rfl, Nat.le_of_ble_eq_true rfl⟩) hS (fun q _ h => hFc q h) hFc (fun u t H154 locs ht hvm hw hB hz1 hk1 hS => ?_)
          obtain ⟨hP, hD⟩ := aft_ (Wr := []) (Wc' := wM_ m0 m_g m_kept m_spare m_was m_text m_told cI mg137 mk138 ms139 mh140 mw141 mw142 ma143 mt144 mt145 ml146 ms147 mv148 me149 mt150 mt151) (W2 := wM_ m0 m_g m_kept m_spare m_was m_text m_told cI mg137 mk138 ms139 mh140 mw141 mw142 ma143 mt144 mt145 ml146 ms147 mv148 me149 mt150 mt151) hP hD [0, 1, 2, 3, 4, 5, 6] [] [0, 1, 2, 3, 4, 5, 6] rfl rfl (by decide) (by decide) (by decide) hk1 hFc hB ht rfl
          refine lv_iload_n hx hb dX6_remove_106 rfl (lv_at hl 0 rfl) ?_
          have hR := Option.some.inj hf
          subst hR
          exact W.iret (v := r15) hx hb hr (fun t ht hW => ⟨⟨r15, (), rfl, rfl, by rw [ht]; exact hP, va_K.moved hW.alike hK, hD⟩, hS.F ht⟩) hS.2.2 dX6_remove_107
      · have hf := ite_F c88 hf
        refine lv_aload_n hx hb dX6_remove_58 rfl (lv_at hl 2 rfl) ?_
        refine lv_iconst (v := 2) hx hb dX6_remove_59 (by decide) ?_
        obtain ⟨R172, g173, hf⟩ := bd_B hf
        obtain ⟨r156, ⟨mg157, mk158, ms159, mh160, mw161, mw162, ma163, mt164, mt165, ml166, ms167, mv168, me169, mt170, mt171⟩⟩ := R172
        dsimp only at hf
        have hPc := hP
        have hDc := hD
        have hFc := va_free (wc := wM_ m0 m_g m_kept m_spare m_was m_text m_told cI mg mkept mspare mhasKept mwas mwasMany manew 0 mtext mlength mspot mvalue merror mtold mtolds) hD hS hA [0, 1, 2, 3, 4, 5, 6] rfl
        refine va_calli (va_runV (As := [.int 2]) (rest := []) ⟨hx, hb, hml, hown, hts⟩ (c_X6_fails l dC dI cI cZ cC cJ cD m0 m_g m_kept m_spare m_was m_text m_told H18.size mg mkept mspare mhasKept mwas mwasMany manew (0 : Int32) mtext mlength mspot mvalue merror mtold mtolds (2 : Int32) (r156, (mg157, mk158, ms159, mh160, mw161, mw162, ma163, mt164, mt165, ml166, ms167, mv168, me169, mt170, mt171)) g173) (cwV 1 hts gX6_remove_X6_fails rfl rfl rfl hs_X6_fails ⟨Nat.le_of_ble_eq_true rfl, Nat.le_of_ble_eq_true rfl⟩) (preV_ (ci := 8) (q0 := 0) hPc hK hDc rfl rfl rfl rfl) rfl rfl hl.1 rfl (lv_room (Nat.le_of_ble_eq_true rfl)) dX6_remove_60 ⟨Nat.le_of_ble_eq_true rfl, Nat.le_of_ble_eq_true rfl⟩) hS (fun q _ h => hFc q h) hFc (fun z175 u t H174 locs ht hvm hw hB hz1 hk1 hS => ?_)
        have hw : r156 = z175 := hw.symm
        subst hw
        obtain ⟨hP, hD⟩ := aft_ (Wr := []) (Wc' := wM_ m0 m_g m_kept m_spare m_was m_text m_told cI mg157 mk158 ms159 mh160 mw161 mw162 ma163 mt164 mt165 ml166 ms167 mv168 me169 mt170 mt171) (W2 := wM_ m0 m_g m_kept m_spare m_was m_text m_told cI mg157 mk158 ms159 mh160 mw161 mw162 ma163 mt164 mt165 ml166 ms167 mv168 me169 mt170 mt171) hP hD [0, 1, 2, 3, 4, 5, 6] [] [0, 1, 2, 3, 4, 5, 6] rfl rfl (by decide) (by decide) (by decide) hk1 hFc hB ht rfl
        have hR := Option.some.inj hf
        subst hR
        exact W.iret (v := r156) hx hb hr (fun t ht hW => ⟨⟨r156, (), rfl, rfl, by rw [ht]; exact hP, va_K.moved hW.alike hK, hD⟩, hS.F ht⟩) hS.2.2 dX6_remove_63
  · have hf := ite_T c7 hf
    refine lv_aload_n hx hb dX6_remove_13 rfl (lv_at hl 0 rfl) ?_
    refine lv_iconst (v := 1) hx hb dX6_remove_14 (by decide) ?_
    obtain ⟨R192, g193, hf⟩ := bd_B hf
    obtain ⟨r176, ⟨mg177, mk178, ms179, mh180, mw181, mw182, ma183, mt184, mt185, ml186, ms187, mv188, me189, mt190, mt191⟩⟩ := R192
    dsimp only at hf
    have hPc := hP
    have hDc := hD
    have hFc := va_free (wc := wM_ m0 m_g m_kept m_spare m_was m_text m_told cI mg mkept mspare mhasKept mwas mwasMany manew 0 mtext mlength mspot mvalue merror mtold mtolds) hD hS hA [0, 1, 2, 3, 4, 5, 6] rfl
    refine va_calli (va_runV (As := [.int 1]) (rest := []) ⟨hx, hb, hml, hown, hts⟩ (c_X6_fails l dC dI cI cZ cC cJ cD m0 m_g m_kept m_spare m_was m_text m_told H5.size mg mkept mspare mhasKept mwas mwasMany manew (0 : Int32) mtext mlength mspot mvalue merror mtold mtolds (1 : Int32) (r176, (mg177, mk178, ms179, mh180, mw181, mw182, ma183, mt184, mt185, ml186, ms187, mv188, me189, mt190, mt191)) g193) (cwV 1 hts gX6_remove_X6_fails rfl rfl rfl hs_X6_fails ⟨Nat.le_of_ble_eq_true rfl, Nat.le_of_ble_eq_true rfl⟩) (preV_ (ci := 8) (q0 := 0) hPc hK hDc rfl rfl rfl rfl) rfl rfl hl.1 rfl (lv_room (Nat.le_of_ble_eq_true rfl)) dX6_remove_15 ⟨Nat.le_of_ble_eq_true rfl, Nat.le_of_ble_eq_true rfl⟩) hS (fun q _ h => hFc q h) hFc (fun z195 u t H194 locs ht hvm hw hB hz1 hk1 hS => ?_)
    have hw : r176 = z195 := hw.symm
    subst hw
    obtain ⟨hP, hD⟩ := aft_ (Wr := []) (Wc' := wM_ m0 m_g m_kept m_spare m_was m_text m_told cI mg177 mk178 ms179 mh180 mw181 mw182 ma183 mt184 mt185 ml186 ms187 mv188 me189 mt190 mt191) (W2 := wM_ m0 m_g m_kept m_spare m_was m_text m_told cI mg177 mk178 ms179 mh180 mw181 mw182 ma183 mt184 mt185 ml186 ms187 mv188 me189 mt190 mt191) hP hD [0, 1, 2, 3, 4, 5, 6] [] [0, 1, 2, 3, 4, 5, 6] rfl rfl (by decide) (by decide) (by decide) hk1 hFc hB ht rfl
    have hR := Option.some.inj hf
    subst hR
    exact W.iret (v := r176) hx hb hr (fun t ht hW => ⟨⟨r176, (), rfl, rfl, by rw [ht]; exact hP, va_K.moved hW.alike hK, hD⟩, hS.F ht⟩) hS.2.2 dX6_remove_18
theorem hs_X6_remove : yX6_remove.cls = RX6 ∧ yX6_remove.cls ≠ "java/lang/invoke/MethodHandle" ∧ yX6_remove.cls ≠ "java/lang/invoke/VarHandle" ∧ (parseMethodDescriptor yX6_remove.desc).map (fun d => d.parameters.length) = some 1 := by decide +kernel
set_option maxRecDepth 20000 in
theorem in_X6_placeOf_X6 : ∀ w ∈ wsX60, w ∈ wsX6_placeOf := by decide +kernel
def f_X6_placeOf_S4 (k_ : Int32 → Int32 → Int32 → tM_ → Option (Int32)) (l3 : Int32) (l2 : Int32) (l1 : Int32) (M_ : tM_) : Option (Int32) :=
match M_ with
| (mg, mkept, mspare, mhasKept, mwas, mwasMany, manew, mthrown, mtext, mlength, mspot, mvalue, merror, mtold, mtolds) =>
gd_ (0 : Int32) 610 (
if (mg ((0 : Int32).toNatClampNeg)) ≤ l3 then
some l2
else
gd_ (70 + l1) 610 (
bd_ (f_X6_isOf l3 (mg ((70 + l1).toNatClampNeg)) (mg, mkept, mspare, mhasKept, mwas, mwasMany, manew, mthrown, mtext, mlength, mspot, mvalue, merror, mtold, mtolds)) (fun r5 =>
if r5 = 0 then
k_ (l3 + 1) (l2 + 0) l1 (mg, mkept, mspare, mhasKept, mwas, mwasMany, manew, mthrown, mtext, mlength, mspot, mvalue, merror, mtold, mtolds)
else
gd_ (130 + l3) 610 (
gd_ (130 + l1) 610 (
if (mg ((130 + l1).toNatClampNeg)) ≤ (mg ((130 + l3).toNatClampNeg)) then
k_ (l3 + 1) (l2 + 0) l1 (mg, mkept, mspare, mhasKept, mwas, mwasMany, manew, mthrown, mtext, mlength, mspot, mvalue, merror, mtold, mtolds)
else
k_ (l3 + 1) (l2 + 1) l1 (mg, mkept, mspare, mhasKept, mwas, mwasMany, manew, mthrown, mtext, mlength, mspot, mvalue, merror, mtold, mtolds))))))
def f_X6_placeOf_L4 : Nat → Int32 → Int32 → Int32 → tM_ → Option (Int32)
  | 0 => fun _ _ _ _ => none
  | n + 1 => fun l3 l2 l1 M_ => f_X6_placeOf_S4 (f_X6_placeOf_L4 n) l3 l2 l1 M_
def f_X6_placeOf (a1 : Int32) (M_ : tM_) : Option (Int32) :=
match M_ with
| (mg, mkept, mspare, mhasKept, mwas, mwasMany, manew, mthrown, mtext, mlength, mspot, mvalue, merror, mtold, mtolds) =>
f_X6_placeOf_L4 fu_ (0 : Int32) (0 : Int32) a1 (mg, mkept, mspare, mhasKept, mwas, mwasMany, manew, mthrown, mtext, mlength, mspot, mvalue, merror, mtold, mtolds)
abbrev rm_X6_placeOf : Room := { frames := 1, cells := 0, slots := 0, locals := 22 }
set_option maxHeartbeats 4000000 in
set_option maxRecDepth 100000 in
theorem c_X6_placeOf (l : Launch) (dC : Nat → ClassId) (dI : Nat → Nat → Nat) (cI cZ cC cJ cD : ClassId) (m0 m_g m_kept m_spare m_was m_text m_told : Nat) (sz : Nat) (mg : Nat → Int32) (mkept : Nat → Int32) (mspare : Nat → Int32) (mhasKept : Int32) (mwas : Nat → Int32) (mwasMany : Int32) (manew : Int32) (mthrown : Int32) (mtext : Nat → Int32) (mlength : Int32) (mspot : Int32) (mvalue : Int32) (merror : Int32) (mtold : Nat → Int32) (mtolds : Int32) (a1 : Int32) (R : Int32) (hf : f_X6_placeOf a1 (mg, mkept, mspare, mhasKept, mwas, mwasMany, manew, mthrown, mtext, mlength, mspot, mvalue, merror, mtold, mtolds) = some R) : Met l yX6_placeOf wsX6_placeOf rm_X6_placeOf (Pc_ (dC, dI) (ty_ cI cZ cC cJ cD) (wM_ m0 m_g m_kept m_spare m_was m_text m_told cI mg mkept mspare mhasKept mwas mwasMany manew mthrown mtext mlength mspot mvalue merror mtold mtolds) sz [.ref m0, .int a1]) (Qi_ (dC, dI) (ty_ cI cZ cC cJ cD) R (wM_ m0 m_g m_kept m_spare m_was m_text m_told cI mg mkept mspare mhasKept mwas mwasMany manew mthrown mtext mlength mspot mvalue merror mtold mtolds) (va_A (wM_ m0 m_g m_kept m_spare m_was m_text m_told cI mg mkept mspare mhasKept mwas mwasMany manew mthrown mtext mlength mspot mvalue merror mtold mtolds) sz)) 0 0 (va_A (wM_ m0 m_g m_kept m_spare m_was m_text m_told cI mg mkept mspare mhasKept mwas mwasMany manew mthrown mtext mlength mspot mvalue merror mtold mtolds) sz) := by
  refine met_ (cc := cX6_placeOf) (maxL := 4) (ret := (some .int)) (Qcf := fun A => Qi_ (dC, dI) (ty_ cI cZ cC cJ cD) R (wM_ m0 m_g m_kept m_spare m_was m_text m_told cI mg mkept mspare mhasKept mwas mwasMany manew mthrown mtext mlength mspot mvalue merror mtold mtolds) A) (by decide) rfl (Nat.le_of_ble_eq_true rfl) ?_
  intro p e s m args below meth c A ls hx hb hr hts hown hlocks hml hA hP hK hD hl
  have hown : s.vm.findClass RX6 = some m.cls := hown
  have hl : lv_has ls 4 [(0, .ref m0), (1, .int a1)] := hl
  have hS : va_S A s.heap s.heap [] := va_S.rf
  have fl7_ : (Cond.fieldLink RX6 7 "DimensionLoaderModel" "g" "[I").before args s = true := hts _ (List.mem_of_getElem? (i := 1) rfl)
  have inX6_ : ∀ w ∈ wsX60, w ∈ wsX6_placeOf := in_X6_placeOf_X6
  unfold f_X6_placeOf at hf
  dsimp only at hf
  refine lv_iconst (v := 0) hx hb dX6_placeOf_0 (by decide) ?_
  refine lv_istore_n (lv' := [(2, .int 0), (0, .ref m0), (1, .int a1)]) hx hb dX6_placeOf_1 rfl hl (by decide) rfl (fun ls hl => ?_)
  refine lv_iconst (v := 0) hx hb dX6_placeOf_2 (by decide) ?_
  refine lv_istore_n (lv' := [(3, .int 0), (2, .int 0), (0, .ref m0), (1, .int a1)]) hx hb dX6_placeOf_3 rfl hl (by decide) rfl (fun ls hl => ?_)
  have lp4 : ∀ (n : Nat) (l3 : Int32) (l2 : Int32) (l1 : Int32) (mg : Nat → Int32) (mkept : Nat → Int32) (mspare : Nat → Int32) (mhasKept : Int32) (mwas : Nat → Int32) (mwasMany : Int32) (manew : Int32) (mthrown : Int32) (mtext : Nat → Int32) (mlength : Int32) (mspot : Int32) (mvalue : Int32) (merror : Int32) (mtold : Nat → Int32) (mtolds : Int32) (H1 : Heap) (locs : List Loc) (ls : Array Slot), f_X6_placeOf_L4 n l3 l2 l1 (mg, mkept, mspare, mhasKept, mwas, mwasMany, manew, mthrown, mtext, mlength, mspot, mvalue, merror, mtold, mtolds) = some R → va_P (dC, dI) vwCl (wM_ m0 m_g m_kept m_spare m_was m_text m_told cI mg mkept mspare mhasKept mwas mwasMany manew mthrown mtext mlength mspot mvalue merror mtold mtolds) H1 → va_D A (wM_ m0 m_g m_kept m_spare m_was m_text m_told cI mg mkept mspare mhasKept mwas mwasMany manew mthrown mtext mlength mspot mvalue merror mtold mtolds) → va_S A s.heap H1 locs → lv_has ls 4 [(3, .int l3), (2, .int l2), (0, .ref m0), (1, .int l1)] → W p l e (headSpec wsX6_placeOf rm_X6_placeOf).room s m args below meth c H1 locs 0 0 (MQ below (Qi_ (dC, dI) (ty_ cI cZ cC cJ cD) R (wM_ m0 m_g m_kept m_spare m_was m_text m_told cI mg mkept mspare mhasKept mwas mwasMany manew mthrown mtext mlength mspot mvalue merror mtold mtolds) A) args s 0 0 A) (F0 m 4 ls []) := by
    intro n
    induction n with
    | zero => intro l3 l2 l1 mg mkept mspare mhasKept mwas mwasMany manew mthrown mtext mlength mspot mvalue merror mtold mtolds H1 locs ls hf hP hD hS hl; exact absurd hf (by simp [f_X6_placeOf_L4])
    | succ n ih =>
      intro l3 l2 l1 mg mkept mspare mhasKept mwas mwasMany manew mthrown mtext mlength mspot mvalue merror mtold mtolds H1 locs ls hf hP hD hS hl
      have hf : f_X6_placeOf_S4 (f_X6_placeOf_L4 n) l3 l2 l1 (mg, mkept, mspare, mhasKept, mwas, mwasMany, manew, mthrown, mtext, mlength, mspot, mvalue, merror, mtold, mtolds) = some R := hf
      unfold f_X6_placeOf_S4 at hf
      dsimp only at hf
      refine lv_iload_n hx hb dX6_placeOf_4 rfl (lv_at hl 0 rfl) ?_
      refine lv_aload_n hx hb dX6_placeOf_5 rfl (lv_at hl 2 rfl) ?_
      refine va_get (D := (dC, dI)) (ci := 8) (v := .ref m_g) (C := RX6) (T := TX6) (N := 15) hx hb hts inX6_ hown hK hP 0 rfl rfl 0 (by decide) fl7_ (fun _ h9 => h9) rfl dX6_placeOf_6 ?_
      refine lv_iconst (v := 0) hx hb dX6_placeOf_9 (by decide) ?_
      obtain ⟨h2, hf⟩ := gd_T hf
      refine va_iald hx hb hK hP 1 0 rfl rfl h2 dX6_placeOf_10 ?_
      refine lv_icmp_ge (tgt := 68) hx hb dX6_placeOf_11 (by decide) (fun c3 => ?_) (fun c3 => ?_)
      · have hf := ite_T c3 hf
        refine lv_iload_n hx hb dX6_placeOf_68 rfl (lv_at hl 1 rfl) ?_
        have hR := Option.some.inj hf
        subst hR
        exact W.iret (v := l2) hx hb hr (fun t ht hW => ⟨⟨l2, (), rfl, rfl, by rw [ht]; exact hP, va_K.moved hW.alike hK, hD⟩, hS.F ht⟩) hS.2.2 dX6_placeOf_69
      · have hf := ite_F c3 hf
        refine lv_iload_n hx hb dX6_placeOf_14 rfl (lv_at hl 1 rfl) ?_
        refine lv_aload_n hx hb dX6_placeOf_15 rfl (lv_at hl 2 rfl) ?_
        refine lv_iload_n hx hb dX6_placeOf_16 rfl (lv_at hl 0 rfl) ?_
        refine lv_aload_n hx hb dX6_placeOf_17 rfl (lv_at hl 2 rfl) ?_
        refine va_get (D := (dC, dI)) (ci := 8) (v := .ref m_g) (C := RX6) (T := TX6) (N := 15) hx hb hts inX6_ hown hK hP 0 rfl rfl 0 (by decide) fl7_ (fun _ h9 => h9) rfl dX6_placeOf_18 ?_
        refine lv_bipush (v := 70) hx hb dX6_placeOf_21 (by decide) ?_
        refine lv_iload_n hx hb dX6_placeOf_23 rfl (lv_at hl 3 rfl) ?_
        refine lv_iadd hx hb dX6_placeOf_24 ?_
        obtain ⟨h4, hf⟩ := gd_T hf
        refine va_iald hx hb hK hP 1 0 rfl rfl h4 dX6_placeOf_25 ?_
        obtain ⟨R6, g7, hf⟩ := bd_B hf
        obtain ⟨r5, rfl⟩ : ∃ z, z = R6 := ⟨_, rfl⟩
        have hPc := hP
        have hDc := hD
        have hFc := va_free (wc := wM_ m0 m_g m_kept m_spare m_was m_text m_told cI mg mkept mspare mhasKept mwas mwasMany manew mthrown mtext mlength mspot mvalue merror mtold mtolds) hD hS hA [0, 1, 2, 3, 4, 5, 6] rfl
        refine va_calli (va_runV (As := [.int l3, .int (mg ((70 + l1).toNatClampNeg))]) (rest := [.int l2]) ⟨hx, hb, hml, hown, hts⟩ (c_X6_isOf l dC dI cI cZ cC cJ cD m0 m_g m_kept m_spare m_was m_text m_told H1.size mg mkept mspare mhasKept mwas mwasMany manew mthrown mtext mlength mspot mvalue merror mtold mtolds l3 (mg ((70 + l1).toNatClampNeg)) r5 g7) (cwV 2 hts gX6_placeOf_X6_isOf rfl rfl rfl hs_X6_isOf ⟨Nat.le_of_ble_eq_true rfl, Nat.le_of_ble_eq_true rfl⟩) (preV_ (ci := 8) (q0 := 0) hPc hK hDc rfl rfl rfl rfl) rfl rfl hl.1 rfl (lv_room (Nat.le_of_ble_eq_true rfl)) dX6_placeOf_26 ⟨Nat.le_of_ble_eq_true rfl, Nat.le_of_ble_eq_true rfl⟩) hS (fun q _ h => hFc q h) hFc (fun z9 u t H8 locs ht hvm hw hB hz1 hk1 hS => ?_)
        have hw : r5 = z9 := hw.symm
        subst hw
        obtain ⟨hP, hD⟩ := aft_ (Wr := []) (Wc' := wM_ m0 m_g m_kept m_spare m_was m_text m_told cI mg mkept mspare mhasKept mwas mwasMany manew mthrown mtext mlength mspot mvalue merror mtold mtolds) (W2 := wM_ m0 m_g m_kept m_spare m_was m_text m_told cI mg mkept mspare mhasKept mwas mwasMany manew mthrown mtext mlength mspot mvalue merror mtold mtolds) hP hD [0, 1, 2, 3, 4, 5, 6] [] [0, 1, 2, 3, 4, 5, 6] rfl rfl (by decide) (by decide) (by decide) hk1 hFc hB ht rfl
        refine lv_if_eq (tgt := 59) hx hb dX6_placeOf_29 (by decide) (fun c10 => ?_) (fun c10 => ?_)
        · have hf := ite_T c10 hf
          refine lv_iconst (v := 0) hx hb dX6_placeOf_59 (by decide) ?_
          refine lv_iadd hx hb dX6_placeOf_60 ?_
          refine lv_istore_n (lv' := [(2, .int (l2 + 0)), (3, .int l3), (0, .ref m0), (1, .int l1)]) hx hb dX6_placeOf_61 rfl hl (by decide) rfl (fun ls hl => ?_)
          refine lv_iinc (v := l3 + 1) (lv' := [(3, .int (l3 + 1)), (2, .int (l2 + 0)), (0, .ref m0), (1, .int l1)]) hx hb dX6_placeOf_62 hl (k := 1) rfl (by first | rfl | decide) (by decide) rfl (fun ls hl => ?_)
          refine lv_goto (tgt := 4) hx hb dX6_placeOf_65 (by decide) ?_
          exact ih (l3 + 1) (l2 + 0) l1 mg mkept mspare mhasKept mwas mwasMany manew mthrown mtext mlength mspot mvalue merror mtold mtolds _ _ _ hf hP hD hS (lv_sub hl [0, 1, 2, 3] rfl)
        · have hf := ite_F c10 hf
          refine lv_aload_n hx hb dX6_placeOf_32 rfl (lv_at hl 2 rfl) ?_
          refine va_get (D := (dC, dI)) (ci := 8) (v := .ref m_g) (C := RX6) (T := TX6) (N := 15) hx hb hts inX6_ hown hK hP 0 rfl rfl 0 (by decide) fl7_ (fun _ h9 => h9) rfl dX6_placeOf_33 ?_
          refine lv_sipush (v := 130) hx hb dX6_placeOf_36 (by decide) ?_
          refine lv_iload_n hx hb dX6_placeOf_39 rfl (lv_at hl 0 rfl) ?_
          refine lv_iadd hx hb dX6_placeOf_40 ?_
          obtain ⟨h11, hf⟩ := gd_T hf
          refine va_iald hx hb hK hP 1 0 rfl rfl h11 dX6_placeOf_41 ?_
          refine lv_aload_n hx hb dX6_placeOf_42 rfl (lv_at hl 2 rfl) ?_
          refine va_get (D := (dC, dI)) (ci := 8) (v := .ref m_g) (C := RX6) (T := TX6) (N := 15) hx hb hts inX6_ hown hK hP 0 rfl rfl 0 (by decide) fl7_ (fun _ h9 => h9) rfl dX6_placeOf_43 ?_
          refine lv_sipush (v := 130) hx hb dX6_placeOf_46 (by decide) ?_
          refine lv_iload_n hx hb dX6_placeOf_49 rfl (lv_at hl 3 rfl) ?_
          refine lv_iadd hx hb dX6_placeOf_50 ?_
          obtain ⟨h12, hf⟩ := gd_T hf
          refine va_iald hx hb hK hP 1 0 rfl rfl h12 dX6_placeOf_51 ?_
          refine lv_icmp_ge (tgt := 59) hx hb dX6_placeOf_52 (by decide) (fun c13 => ?_) (fun c13 => ?_)
          · have hf := ite_T c13 hf
            refine lv_iconst (v := 0) hx hb dX6_placeOf_59 (by decide) ?_
            refine lv_iadd hx hb dX6_placeOf_60 ?_
            refine lv_istore_n (lv' := [(2, .int (l2 + 0)), (3, .int l3), (0, .ref m0), (1, .int l1)]) hx hb dX6_placeOf_61 rfl hl (by decide) rfl (fun ls hl => ?_)
            refine lv_iinc (v := l3 + 1) (lv' := [(3, .int (l3 + 1)), (2, .int (l2 + 0)), (0, .ref m0), (1, .int l1)]) hx hb dX6_placeOf_62 hl (k := 1) rfl (by first | rfl | decide) (by decide) rfl (fun ls hl => ?_)
            refine lv_goto (tgt := 4) hx hb dX6_placeOf_65 (by decide) ?_
            exact ih (l3 + 1) (l2 + 0) l1 mg mkept mspare mhasKept mwas mwasMany manew mthrown mtext mlength mspot mvalue merror mtold mtolds _ _ _ hf hP hD hS (lv_sub hl [0, 1, 2, 3] rfl)
          · have hf := ite_F c13 hf
            refine lv_iconst (v := 1) hx hb dX6_placeOf_55 (by decide) ?_
            refine lv_goto (tgt := 60) hx hb dX6_placeOf_56 (by decide) ?_
            refine lv_iadd hx hb dX6_placeOf_60 ?_
            refine lv_istore_n (lv' := [(2, .int (l2 + 1)), (3, .int l3), (0, .ref m0), (1, .int l1)]) hx hb dX6_placeOf_61 rfl hl (by decide) rfl (fun ls hl => ?_)
            refine lv_iinc (v := l3 + 1) (lv' := [(3, .int (l3 + 1)), (2, .int (l2 + 1)), (0, .ref m0), (1, .int l1)]) hx hb dX6_placeOf_62 hl (k := 1) rfl (by first | rfl | decide) (by decide) rfl (fun ls hl => ?_)
            refine lv_goto (tgt := 4) hx hb dX6_placeOf_65 (by decide) ?_
            exact ih (l3 + 1) (l2 + 1) l1 mg mkept mspare mhasKept mwas mwasMany manew mthrown mtext mlength mspot mvalue merror mtold mtolds _ _ _ hf hP hD hS (lv_sub hl [0, 1, 2, 3] rfl)
  exact lp4 fu_ (0 : Int32) (0 : Int32) a1 mg mkept mspare mhasKept mwas mwasMany manew mthrown mtext mlength mspot mvalue merror mtold mtolds _ _ _ hf hP hD hS hl
theorem hs_X6_placeOf : yX6_placeOf.cls = RX6 ∧ yX6_placeOf.cls ≠ "java/lang/invoke/MethodHandle" ∧ yX6_placeOf.cls ≠ "java/lang/invoke/VarHandle" ∧ (parseMethodDescriptor yX6_placeOf.desc).map (fun d => d.parameters.length) = some 1 := by decide +kernel
set_option maxRecDepth 20000 in
theorem in_X6_many_X6 : ∀ w ∈ wsX60, w ∈ wsX6_many := by decide +kernel
def f_X6_many_S4 (k_ : Int32 → Int32 → Int32 → tM_ → Option (Int32)) (l3 : Int32) (l2 : Int32) (l1 : Int32) (M_ : tM_) : Option (Int32) :=
match M_ with
| (mg, mkept, mspare, mhasKept, mwas, mwasMany, manew, mthrown, mtext, mlength, mspot, mvalue, merror, mtold, mtolds) =>
gd_ (0 : Int32) 610 (
if (mg ((0 : Int32).toNatClampNeg)) ≤ l3 then
some l2
else
bd_ (f_X6_isOf l3 l1 (mg, mkept, mspare, mhasKept, mwas, mwasMany, manew, mthrown, mtext, mlength, mspot, mvalue, merror, mtold, mtolds)) (fun r4 =>
if r4 = 0 then
k_ (l3 + 1) (l2 + 0) l1 (mg, mkept, mspare, mhasKept, mwas, mwasMany, manew, mthrown, mtext, mlength, mspot, mvalue, merror, mtold, mtolds)
else
k_ (l3 + 1) (l2 + 1) l1 (mg, mkept, mspare, mhasKept, mwas, mwasMany, manew, mthrown, mtext, mlength, mspot, mvalue, merror, mtold, mtolds)))
def f_X6_many_L4 : Nat → Int32 → Int32 → Int32 → tM_ → Option (Int32)
  | 0 => fun _ _ _ _ => none
  | n + 1 => fun l3 l2 l1 M_ => f_X6_many_S4 (f_X6_many_L4 n) l3 l2 l1 M_
def f_X6_many (a1 : Int32) (M_ : tM_) : Option (Int32) :=
match M_ with
| (mg, mkept, mspare, mhasKept, mwas, mwasMany, manew, mthrown, mtext, mlength, mspot, mvalue, merror, mtold, mtolds) =>
f_X6_many_L4 fu_ (0 : Int32) (0 : Int32) a1 (mg, mkept, mspare, mhasKept, mwas, mwasMany, manew, mthrown, mtext, mlength, mspot, mvalue, merror, mtold, mtolds)
abbrev rm_X6_many : Room := { frames := 1, cells := 0, slots := 0, locals := 22 }
set_option maxHeartbeats 4000000 in
set_option maxRecDepth 100000 in
theorem c_X6_many (l : Launch) (dC : Nat → ClassId) (dI : Nat → Nat → Nat) (cI cZ cC cJ cD : ClassId) (m0 m_g m_kept m_spare m_was m_text m_told : Nat) (sz : Nat) (mg : Nat → Int32) (mkept : Nat → Int32) (mspare : Nat → Int32) (mhasKept : Int32) (mwas : Nat → Int32) (mwasMany : Int32) (manew : Int32) (mthrown : Int32) (mtext : Nat → Int32) (mlength : Int32) (mspot : Int32) (mvalue : Int32) (merror : Int32) (mtold : Nat → Int32) (mtolds : Int32) (a1 : Int32) (R : Int32) (hf : f_X6_many a1 (mg, mkept, mspare, mhasKept, mwas, mwasMany, manew, mthrown, mtext, mlength, mspot, mvalue, merror, mtold, mtolds) = some R) : Met l yX6_many wsX6_many rm_X6_many (Pc_ (dC, dI) (ty_ cI cZ cC cJ cD) (wM_ m0 m_g m_kept m_spare m_was m_text m_told cI mg mkept mspare mhasKept mwas mwasMany manew mthrown mtext mlength mspot mvalue merror mtold mtolds) sz [.ref m0, .int a1]) (Qi_ (dC, dI) (ty_ cI cZ cC cJ cD) R (wM_ m0 m_g m_kept m_spare m_was m_text m_told cI mg mkept mspare mhasKept mwas mwasMany manew mthrown mtext mlength mspot mvalue merror mtold mtolds) (va_A (wM_ m0 m_g m_kept m_spare m_was m_text m_told cI mg mkept mspare mhasKept mwas mwasMany manew mthrown mtext mlength mspot mvalue merror mtold mtolds) sz)) 0 0 (va_A (wM_ m0 m_g m_kept m_spare m_was m_text m_told cI mg mkept mspare mhasKept mwas mwasMany manew mthrown mtext mlength mspot mvalue merror mtold mtolds) sz) := by
  refine met_ (cc := cX6_many) (maxL := 4) (ret := (some .int)) (Qcf := fun A => Qi_ (dC, dI) (ty_ cI cZ cC cJ cD) R (wM_ m0 m_g m_kept m_spare m_was m_text m_told cI mg mkept mspare mhasKept mwas mwasMany manew mthrown mtext mlength mspot mvalue merror mtold mtolds) A) (by decide) rfl (Nat.le_of_ble_eq_true rfl) ?_
  intro p e s m args below meth c A ls hx hb hr hts hown hlocks hml hA hP hK hD hl
  have hown : s.vm.findClass RX6 = some m.cls := hown
  have hl : lv_has ls 4 [(0, .ref m0), (1, .int a1)] := hl
  have hS : va_S A s.heap s.heap [] := va_S.rf
  have fl7_ : (Cond.fieldLink RX6 7 "DimensionLoaderModel" "g" "[I").before args s = true := hts _ (List.mem_of_getElem? (i := 1) rfl)
  have inX6_ : ∀ w ∈ wsX60, w ∈ wsX6_many := in_X6_many_X6
  unfold f_X6_many at hf
  dsimp only at hf
  refine lv_iconst (v := 0) hx hb dX6_many_0 (by decide) ?_
  refine lv_istore_n (lv' := [(2, .int 0), (0, .ref m0), (1, .int a1)]) hx hb dX6_many_1 rfl hl (by decide) rfl (fun ls hl => ?_)
  refine lv_iconst (v := 0) hx hb dX6_many_2 (by decide) ?_
  refine lv_istore_n (lv' := [(3, .int 0), (2, .int 0), (0, .ref m0), (1, .int a1)]) hx hb dX6_many_3 rfl hl (by decide) rfl (fun ls hl => ?_)
  have lp4 : ∀ (n : Nat) (l3 : Int32) (l2 : Int32) (l1 : Int32) (mg : Nat → Int32) (mkept : Nat → Int32) (mspare : Nat → Int32) (mhasKept : Int32) (mwas : Nat → Int32) (mwasMany : Int32) (manew : Int32) (mthrown : Int32) (mtext : Nat → Int32) (mlength : Int32) (mspot : Int32) (mvalue : Int32) (merror : Int32) (mtold : Nat → Int32) (mtolds : Int32) (H1 : Heap) (locs : List Loc) (ls : Array Slot), f_X6_many_L4 n l3 l2 l1 (mg, mkept, mspare, mhasKept, mwas, mwasMany, manew, mthrown, mtext, mlength, mspot, mvalue, merror, mtold, mtolds) = some R → va_P (dC, dI) vwCl (wM_ m0 m_g m_kept m_spare m_was m_text m_told cI mg mkept mspare mhasKept mwas mwasMany manew mthrown mtext mlength mspot mvalue merror mtold mtolds) H1 → va_D A (wM_ m0 m_g m_kept m_spare m_was m_text m_told cI mg mkept mspare mhasKept mwas mwasMany manew mthrown mtext mlength mspot mvalue merror mtold mtolds) → va_S A s.heap H1 locs → lv_has ls 4 [(3, .int l3), (2, .int l2), (0, .ref m0), (1, .int l1)] → W p l e (headSpec wsX6_many rm_X6_many).room s m args below meth c H1 locs 0 0 (MQ below (Qi_ (dC, dI) (ty_ cI cZ cC cJ cD) R (wM_ m0 m_g m_kept m_spare m_was m_text m_told cI mg mkept mspare mhasKept mwas mwasMany manew mthrown mtext mlength mspot mvalue merror mtold mtolds) A) args s 0 0 A) (F0 m 4 ls []) := by
    intro n
    induction n with
    | zero => intro l3 l2 l1 mg mkept mspare mhasKept mwas mwasMany manew mthrown mtext mlength mspot mvalue merror mtold mtolds H1 locs ls hf hP hD hS hl; exact absurd hf (by simp [f_X6_many_L4])
    | succ n ih =>
      intro l3 l2 l1 mg mkept mspare mhasKept mwas mwasMany manew mthrown mtext mlength mspot mvalue merror mtold mtolds H1 locs ls hf hP hD hS hl
      have hf : f_X6_many_S4 (f_X6_many_L4 n) l3 l2 l1 (mg, mkept, mspare, mhasKept, mwas, mwasMany, manew, mthrown, mtext, mlength, mspot, mvalue, merror, mtold, mtolds) = some R := hf
      unfold f_X6_many_S4 at hf
      dsimp only at hf
      refine lv_iload_n hx hb dX6_many_4 rfl (lv_at hl 0 rfl) ?_
      refine lv_aload_n hx hb dX6_many_5 rfl (lv_at hl 2 rfl) ?_
      refine va_get (D := (dC, dI)) (ci := 8) (v := .ref m_g) (C := RX6) (T := TX6) (N := 15) hx hb hts inX6_ hown hK hP 0 rfl rfl 0 (by decide) fl7_ (fun _ h9 => h9) rfl dX6_many_6 ?_
      refine lv_iconst (v := 0) hx hb dX6_many_9 (by decide) ?_
      obtain ⟨h2, hf⟩ := gd_T hf
      refine va_iald hx hb hK hP 1 0 rfl rfl h2 dX6_many_10 ?_
      refine lv_icmp_ge (tgt := 37) hx hb dX6_many_11 (by decide) (fun c3 => ?_) (fun c3 => ?_)
      · have hf := ite_T c3 hf
        refine lv_iload_n hx hb dX6_many_37 rfl (lv_at hl 1 rfl) ?_
        have hR := Option.some.inj hf
        subst hR
        exact W.iret (v := l2) hx hb hr (fun t ht hW => ⟨⟨l2, (), rfl, rfl, by rw [ht]; exact hP, va_K.moved hW.alike hK, hD⟩, hS.F ht⟩) hS.2.2 dX6_many_38
      · have hf := ite_F c3 hf
        refine lv_iload_n hx hb dX6_many_14 rfl (lv_at hl 1 rfl) ?_
        refine lv_aload_n hx hb dX6_many_15 rfl (lv_at hl 2 rfl) ?_
        refine lv_iload_n hx hb dX6_many_16 rfl (lv_at hl 0 rfl) ?_
        refine lv_iload_n hx hb dX6_many_17 rfl (lv_at hl 3 rfl) ?_
        obtain ⟨R5, g6, hf⟩ := bd_B hf
        obtain ⟨r4, rfl⟩ : ∃ z, z = R5 := ⟨_, rfl⟩
        have hPc := hP
        have hDc := hD
        have hFc := va_free (wc := wM_ m0 m_g m_kept m_spare m_was m_text m_told cI mg mkept mspare mhasKept mwas mwasMany manew mthrown mtext mlength mspot mvalue merror mtold mtolds) hD hS hA [0, 1, 2, 3, 4, 5, 6] rfl
        refine va_calli (va_runV (As := [.int l3, .int l1]) (rest := [.int l2]) ⟨hx, hb, hml, hown, hts⟩ (c_X6_isOf l dC dI cI cZ cC cJ cD m0 m_g m_kept m_spare m_was m_text m_told H1.size mg mkept mspare mhasKept mwas mwasMany manew mthrown mtext mlength mspot mvalue merror mtold mtolds l3 l1 r4 g6) (cwV 2 hts gX6_many_X6_isOf rfl rfl rfl hs_X6_isOf ⟨Nat.le_of_ble_eq_true rfl, Nat.le_of_ble_eq_true rfl⟩) (preV_ (ci := 8) (q0 := 0) hPc hK hDc rfl rfl rfl rfl) rfl rfl hl.1 rfl (lv_room (Nat.le_of_ble_eq_true rfl)) dX6_many_18 ⟨Nat.le_of_ble_eq_true rfl, Nat.le_of_ble_eq_true rfl⟩) hS (fun q _ h => hFc q h) hFc (fun z8 u t H7 locs ht hvm hw hB hz1 hk1 hS => ?_)
        have hw : r4 = z8 := hw.symm
        subst hw
        obtain ⟨hP, hD⟩ := aft_ (Wr := []) (Wc' := wM_ m0 m_g m_kept m_spare m_was m_text m_told cI mg mkept mspare mhasKept mwas mwasMany manew mthrown mtext mlength mspot mvalue merror mtold mtolds) (W2 := wM_ m0 m_g m_kept m_spare m_was m_text m_told cI mg mkept mspare mhasKept mwas mwasMany manew mthrown mtext mlength mspot mvalue merror mtold mtolds) hP hD [0, 1, 2, 3, 4, 5, 6] [] [0, 1, 2, 3, 4, 5, 6] rfl rfl (by decide) (by decide) (by decide) hk1 hFc hB ht rfl
        refine lv_if_eq (tgt := 28) hx hb dX6_many_21 (by decide) (fun c9 => ?_) (fun c9 => ?_)
        · have hf := ite_T c9 hf
          refine lv_iconst (v := 0) hx hb dX6_many_28 (by decide) ?_
          refine lv_iadd hx hb dX6_many_29 ?_
          refine lv_istore_n (lv' := [(2, .int (l2 + 0)), (3, .int l3), (0, .ref m0), (1, .int l1)]) hx hb dX6_many_30 rfl hl (by decide) rfl (fun ls hl => ?_)
          refine lv_iinc (v := l3 + 1) (lv' := [(3, .int (l3 + 1)), (2, .int (l2 + 0)), (0, .ref m0), (1, .int l1)]) hx hb dX6_many_31 hl (k := 1) rfl (by first | rfl | decide) (by decide) rfl (fun ls hl => ?_)
          refine lv_goto (tgt := 4) hx hb dX6_many_34 (by decide) ?_
          exact ih (l3 + 1) (l2 + 0) l1 mg mkept mspare mhasKept mwas mwasMany manew mthrown mtext mlength mspot mvalue merror mtold mtolds _ _ _ hf hP hD hS (lv_sub hl [0, 1, 2, 3] rfl)
        · have hf := ite_F c9 hf
          refine lv_iconst (v := 1) hx hb dX6_many_24 (by decide) ?_
          refine lv_goto (tgt := 29) hx hb dX6_many_25 (by decide) ?_
          refine lv_iadd hx hb dX6_many_29 ?_
          refine lv_istore_n (lv' := [(2, .int (l2 + 1)), (3, .int l3), (0, .ref m0), (1, .int l1)]) hx hb dX6_many_30 rfl hl (by decide) rfl (fun ls hl => ?_)
          refine lv_iinc (v := l3 + 1) (lv' := [(3, .int (l3 + 1)), (2, .int (l2 + 1)), (0, .ref m0), (1, .int l1)]) hx hb dX6_many_31 hl (k := 1) rfl (by first | rfl | decide) (by decide) rfl (fun ls hl => ?_)
          refine lv_goto (tgt := 4) hx hb dX6_many_34 (by decide) ?_
          exact ih (l3 + 1) (l2 + 1) l1 mg mkept mspare mhasKept mwas mwasMany manew mthrown mtext mlength mspot mvalue merror mtold mtolds _ _ _ hf hP hD hS (lv_sub hl [0, 1, 2, 3] rfl)
  exact lp4 fu_ (0 : Int32) (0 : Int32) a1 mg mkept mspare mhasKept mwas mwasMany manew mthrown mtext mlength mspot mvalue merror mtold mtolds _ _ _ hf hP hD hS hl
theorem hs_X6_many : yX6_many.cls = RX6 ∧ yX6_many.cls ≠ "java/lang/invoke/MethodHandle" ∧ yX6_many.cls ≠ "java/lang/invoke/VarHandle" ∧ (parseMethodDescriptor yX6_many.desc).map (fun d => d.parameters.length) = some 1 := by decide +kernel
set_option maxRecDepth 20000 in
theorem in_X6_placed_X6 : ∀ w ∈ wsX60, w ∈ wsX6_placed := by decide +kernel
def f_X6_placed_S2 (k_ : Int32 → Int32 → Int32 → tM_ → Option (Int32)) (l3 : Int32) (l1 : Int32) (l2 : Int32) (M_ : tM_) : Option (Int32) :=
match M_ with
| (mg, mkept, mspare, mhasKept, mwas, mwasMany, manew, mthrown, mtext, mlength, mspot, mvalue, merror, mtold, mtolds) =>
gd_ (0 : Int32) 610 (
if (mg ((0 : Int32).toNatClampNeg)) ≤ l3 then
some (-1 : Int32)
else
bd_ (f_X6_isOf l3 l1 (mg, mkept, mspare, mhasKept, mwas, mwasMany, manew, mthrown, mtext, mlength, mspot, mvalue, merror, mtold, mtolds)) (fun r4 =>
if r4 = 0 then
k_ (l3 + 1) l1 l2 (mg, mkept, mspare, mhasKept, mwas, mwasMany, manew, mthrown, mtext, mlength, mspot, mvalue, merror, mtold, mtolds)
else
bd_ (f_X6_placeOf l3 (mg, mkept, mspare, mhasKept, mwas, mwasMany, manew, mthrown, mtext, mlength, mspot, mvalue, merror, mtold, mtolds)) (fun r10 =>
if r10 = l2 then
some l3
else
k_ (l3 + 1) l1 l2 (mg, mkept, mspare, mhasKept, mwas, mwasMany, manew, mthrown, mtext, mlength, mspot, mvalue, merror, mtold, mtolds))))
def f_X6_placed_L2 : Nat → Int32 → Int32 → Int32 → tM_ → Option (Int32)
  | 0 => fun _ _ _ _ => none
  | n + 1 => fun l3 l1 l2 M_ => f_X6_placed_S2 (f_X6_placed_L2 n) l3 l1 l2 M_
def f_X6_placed (a1 : Int32) (a2 : Int32) (M_ : tM_) : Option (Int32) :=
match M_ with
| (mg, mkept, mspare, mhasKept, mwas, mwasMany, manew, mthrown, mtext, mlength, mspot, mvalue, merror, mtold, mtolds) =>
f_X6_placed_L2 fu_ (0 : Int32) a1 a2 (mg, mkept, mspare, mhasKept, mwas, mwasMany, manew, mthrown, mtext, mlength, mspot, mvalue, merror, mtold, mtolds)
abbrev rm_X6_placed : Room := { frames := 2, cells := 0, slots := 0, locals := 45 }
set_option maxHeartbeats 4000000 in
set_option maxRecDepth 100000 in
theorem c_X6_placed (l : Launch) (dC : Nat → ClassId) (dI : Nat → Nat → Nat) (cI cZ cC cJ cD : ClassId) (m0 m_g m_kept m_spare m_was m_text m_told : Nat) (sz : Nat) (mg : Nat → Int32) (mkept : Nat → Int32) (mspare : Nat → Int32) (mhasKept : Int32) (mwas : Nat → Int32) (mwasMany : Int32) (manew : Int32) (mthrown : Int32) (mtext : Nat → Int32) (mlength : Int32) (mspot : Int32) (mvalue : Int32) (merror : Int32) (mtold : Nat → Int32) (mtolds : Int32) (a1 : Int32) (a2 : Int32) (R : Int32) (hf : f_X6_placed a1 a2 (mg, mkept, mspare, mhasKept, mwas, mwasMany, manew, mthrown, mtext, mlength, mspot, mvalue, merror, mtold, mtolds) = some R) : Met l yX6_placed wsX6_placed rm_X6_placed (Pc_ (dC, dI) (ty_ cI cZ cC cJ cD) (wM_ m0 m_g m_kept m_spare m_was m_text m_told cI mg mkept mspare mhasKept mwas mwasMany manew mthrown mtext mlength mspot mvalue merror mtold mtolds) sz [.ref m0, .int a1, .int a2]) (Qi_ (dC, dI) (ty_ cI cZ cC cJ cD) R (wM_ m0 m_g m_kept m_spare m_was m_text m_told cI mg mkept mspare mhasKept mwas mwasMany manew mthrown mtext mlength mspot mvalue merror mtold mtolds) (va_A (wM_ m0 m_g m_kept m_spare m_was m_text m_told cI mg mkept mspare mhasKept mwas mwasMany manew mthrown mtext mlength mspot mvalue merror mtold mtolds) sz)) 0 0 (va_A (wM_ m0 m_g m_kept m_spare m_was m_text m_told cI mg mkept mspare mhasKept mwas mwasMany manew mthrown mtext mlength mspot mvalue merror mtold mtolds) sz) := by
  refine met_ (cc := cX6_placed) (maxL := 4) (ret := (some .int)) (Qcf := fun A => Qi_ (dC, dI) (ty_ cI cZ cC cJ cD) R (wM_ m0 m_g m_kept m_spare m_was m_text m_told cI mg mkept mspare mhasKept mwas mwasMany manew mthrown mtext mlength mspot mvalue merror mtold mtolds) A) (by decide) rfl (Nat.le_of_ble_eq_true rfl) ?_
  intro p e s m args below meth c A ls hx hb hr hts hown hlocks hml hA hP hK hD hl
  have hown : s.vm.findClass RX6 = some m.cls := hown
  have hl : lv_has ls 4 [(0, .ref m0), (1, .int a1), (2, .int a2)] := hl
  have hS : va_S A s.heap s.heap [] := va_S.rf
  have fl7_ : (Cond.fieldLink RX6 7 "DimensionLoaderModel" "g" "[I").before args s = true := hts _ (List.mem_of_getElem? (i := 1) rfl)
  have inX6_ : ∀ w ∈ wsX60, w ∈ wsX6_placed := in_X6_placed_X6
  unfold f_X6_placed at hf
  dsimp only at hf
  refine lv_iconst (v := 0) hx hb dX6_placed_0 (by decide) ?_
  refine lv_istore_n (lv' := [(3, .int 0), (0, .ref m0), (1, .int a1), (2, .int a2)]) hx hb dX6_placed_1 rfl hl (by decide) rfl (fun ls hl => ?_)
  have lp2 : ∀ (n : Nat) (l3 : Int32) (l1 : Int32) (l2 : Int32) (mg : Nat → Int32) (mkept : Nat → Int32) (mspare : Nat → Int32) (mhasKept : Int32) (mwas : Nat → Int32) (mwasMany : Int32) (manew : Int32) (mthrown : Int32) (mtext : Nat → Int32) (mlength : Int32) (mspot : Int32) (mvalue : Int32) (merror : Int32) (mtold : Nat → Int32) (mtolds : Int32) (H1 : Heap) (locs : List Loc) (ls : Array Slot), f_X6_placed_L2 n l3 l1 l2 (mg, mkept, mspare, mhasKept, mwas, mwasMany, manew, mthrown, mtext, mlength, mspot, mvalue, merror, mtold, mtolds) = some R → va_P (dC, dI) vwCl (wM_ m0 m_g m_kept m_spare m_was m_text m_told cI mg mkept mspare mhasKept mwas mwasMany manew mthrown mtext mlength mspot mvalue merror mtold mtolds) H1 → va_D A (wM_ m0 m_g m_kept m_spare m_was m_text m_told cI mg mkept mspare mhasKept mwas mwasMany manew mthrown mtext mlength mspot mvalue merror mtold mtolds) → va_S A s.heap H1 locs → lv_has ls 4 [(3, .int l3), (0, .ref m0), (1, .int l1), (2, .int l2)] → W p l e (headSpec wsX6_placed rm_X6_placed).room s m args below meth c H1 locs 0 0 (MQ below (Qi_ (dC, dI) (ty_ cI cZ cC cJ cD) R (wM_ m0 m_g m_kept m_spare m_was m_text m_told cI mg mkept mspare mhasKept mwas mwasMany manew mthrown mtext mlength mspot mvalue merror mtold mtolds) A) args s 0 0 A) (F0 m 2 ls []) := by
    intro n
    induction n with
    | zero => intro l3 l1 l2 mg mkept mspare mhasKept mwas mwasMany manew mthrown mtext mlength mspot mvalue merror mtold mtolds H1 locs ls hf hP hD hS hl; exact absurd hf (by simp [f_X6_placed_L2])
    | succ n ih =>
      intro l3 l1 l2 mg mkept mspare mhasKept mwas mwasMany manew mthrown mtext mlength mspot mvalue merror mtold mtolds H1 locs ls hf hP hD hS hl
      have hf : f_X6_placed_S2 (f_X6_placed_L2 n) l3 l1 l2 (mg, mkept, mspare, mhasKept, mwas, mwasMany, manew, mthrown, mtext, mlength, mspot, mvalue, merror, mtold, mtolds) = some R := hf
      unfold f_X6_placed_S2 at hf
      dsimp only at hf
      refine lv_iload_n hx hb dX6_placed_2 rfl (lv_at hl 0 rfl) ?_
      refine lv_aload_n hx hb dX6_placed_3 rfl (lv_at hl 1 rfl) ?_
      refine va_get (D := (dC, dI)) (ci := 8) (v := .ref m_g) (C := RX6) (T := TX6) (N := 15) hx hb hts inX6_ hown hK hP 0 rfl rfl 0 (by decide) fl7_ (fun _ h9 => h9) rfl dX6_placed_4 ?_
      refine lv_iconst (v := 0) hx hb dX6_placed_7 (by decide) ?_
      obtain ⟨h2, hf⟩ := gd_T hf
      refine va_iald hx hb hK hP 1 0 rfl rfl h2 dX6_placed_8 ?_
      refine lv_icmp_ge (tgt := 38) hx hb dX6_placed_9 (by decide) (fun c3 => ?_) (fun c3 => ?_)
      · have hf := ite_T c3 hf
        refine lv_iconst (v := (-1)) hx hb dX6_placed_38 (by decide) ?_
        have hR := Option.some.inj hf
        subst hR
        exact W.iret (v := (-1 : Int32)) hx hb hr (fun t ht hW => ⟨⟨(-1 : Int32), (), rfl, rfl, by rw [ht]; exact hP, va_K.moved hW.alike hK, hD⟩, hS.F ht⟩) hS.2.2 dX6_placed_39
      · have hf := ite_F c3 hf
        refine lv_aload_n hx hb dX6_placed_12 rfl (lv_at hl 1 rfl) ?_
        refine lv_iload_n hx hb dX6_placed_13 rfl (lv_at hl 0 rfl) ?_
        refine lv_iload_n hx hb dX6_placed_14 rfl (lv_at hl 2 rfl) ?_
        obtain ⟨R5, g6, hf⟩ := bd_B hf
        obtain ⟨r4, rfl⟩ : ∃ z, z = R5 := ⟨_, rfl⟩
        have hPc := hP
        have hDc := hD
        have hFc := va_free (wc := wM_ m0 m_g m_kept m_spare m_was m_text m_told cI mg mkept mspare mhasKept mwas mwasMany manew mthrown mtext mlength mspot mvalue merror mtold mtolds) hD hS hA [0, 1, 2, 3, 4, 5, 6] rfl
        refine va_calli (va_runV (As := [.int l3, .int l1]) (rest := []) ⟨hx, hb, hml, hown, hts⟩ (c_X6_isOf l dC dI cI cZ cC cJ cD m0 m_g m_kept m_spare m_was m_text m_told H1.size mg mkept mspare mhasKept mwas mwasMany manew mthrown mtext mlength mspot mvalue merror mtold mtolds l3 l1 r4 g6) (cwV 2 hts gX6_placed_X6_isOf rfl rfl rfl hs_X6_isOf ⟨Nat.le_of_ble_eq_true rfl, Nat.le_of_ble_eq_true rfl⟩) (preV_ (ci := 8) (q0 := 0) hPc hK hDc rfl rfl rfl rfl) rfl rfl hl.1 rfl (lv_room (Nat.le_of_ble_eq_true rfl)) dX6_placed_15 ⟨Nat.le_of_ble_eq_true rfl, Nat.le_of_ble_eq_true rfl⟩) hS (fun q _ h => hFc q h) hFc (fun z8 u t H7 locs ht hvm hw hB hz1 hk1 hS => ?_)
        have hw : r4 = z8 := hw.symm
        subst hw
        obtain ⟨hP, hD⟩ := aft_ (Wr := []) (Wc' := wM_ m0 m_g m_kept m_spare m_was m_text m_told cI mg mkept mspare mhasKept mwas mwasMany manew mthrown mtext mlength mspot mvalue merror mtold mtolds) (W2 := wM_ m0 m_g m_kept m_spare m_was m_text m_told cI mg mkept mspare mhasKept mwas mwasMany manew mthrown mtext mlength mspot mvalue merror mtold mtolds) hP hD [0, 1, 2, 3, 4, 5, 6] [] [0, 1, 2, 3, 4, 5, 6] rfl rfl (by decide) (by decide) (by decide) hk1 hFc hB ht rfl
        refine lv_if_eq (tgt := 32) hx hb dX6_placed_18 (by decide) (fun c9 => ?_) (fun c9 => ?_)
        · have hf := ite_T c9 hf
          refine lv_iinc (v := l3 + 1) (lv' := [(3, .int (l3 + 1)), (0, .ref m0), (1, .int l1), (2, .int l2)]) hx hb dX6_placed_32 hl (k := 0) rfl (by first | rfl | decide) (by decide) rfl (fun ls hl => ?_)
          refine lv_goto (tgt := 2) hx hb dX6_placed_35 (by decide) ?_
          exact ih (l3 + 1) l1 l2 mg mkept mspare mhasKept mwas mwasMany manew mthrown mtext mlength mspot mvalue merror mtold mtolds _ _ _ hf hP hD hS (lv_sub hl [0, 1, 2, 3] rfl)
        · have hf := ite_F c9 hf
          refine lv_aload_n hx hb dX6_placed_21 rfl (lv_at hl 1 rfl) ?_
          refine lv_iload_n hx hb dX6_placed_22 rfl (lv_at hl 0 rfl) ?_
          obtain ⟨R11, g12, hf⟩ := bd_B hf
          obtain ⟨r10, rfl⟩ : ∃ z, z = R11 := ⟨_, rfl⟩
          have hPc := hP
          have hDc := hD
          have hFc := va_free (wc := wM_ m0 m_g m_kept m_spare m_was m_text m_told cI mg mkept mspare mhasKept mwas mwasMany manew mthrown mtext mlength mspot mvalue merror mtold mtolds) hD hS hA [0, 1, 2, 3, 4, 5, 6] rfl
          refine va_calli (va_runV (As := [.int l3]) (rest := []) ⟨hx, hb, hml, hown, hts⟩ (c_X6_placeOf l dC dI cI cZ cC cJ cD m0 m_g m_kept m_spare m_was m_text m_told H7.size mg mkept mspare mhasKept mwas mwasMany manew mthrown mtext mlength mspot mvalue merror mtold mtolds l3 r10 g12) (cwV 1 hts gX6_placed_X6_placeOf rfl rfl rfl hs_X6_placeOf ⟨Nat.le_of_ble_eq_true rfl, Nat.le_of_ble_eq_true rfl⟩) (preV_ (ci := 8) (q0 := 0) hPc hK hDc rfl rfl rfl rfl) rfl rfl hl.1 rfl (lv_room (Nat.le_of_ble_eq_true rfl)) dX6_placed_23 ⟨Nat.le_of_ble_eq_true rfl, Nat.le_of_ble_eq_true rfl⟩) hS (fun q _ h => hFc q h) hFc (fun z14 u t H13 locs ht hvm hw hB hz1 hk1 hS => ?_)
          have hw : r10 = z14 := hw.symm
          subst hw
          obtain ⟨hP, hD⟩ := aft_ (Wr := []) (Wc' := wM_ m0 m_g m_kept m_spare m_was m_text m_told cI mg mkept mspare mhasKept mwas mwasMany manew mthrown mtext mlength mspot mvalue merror mtold mtolds) (W2 := wM_ m0 m_g m_kept m_spare m_was m_text m_told cI mg mkept mspare mhasKept mwas mwasMany manew mthrown mtext mlength mspot mvalue merror mtold mtolds) hP hD [0, 1, 2, 3, 4, 5, 6] [] [0, 1, 2, 3, 4, 5, 6] rfl rfl (by decide) (by decide) (by decide) hk1 hFc hB ht rfl
          refine lv_iload_n hx hb dX6_placed_26 rfl (lv_at hl 3 rfl) ?_
          refine lv_icmp_ne (tgt := 32) hx hb dX6_placed_27 (by decide) (fun c15 => ?_) (fun c15 => ?_)
          · have hf := ite_F c15 hf
            refine lv_iinc (v := l3 + 1) (lv' := [(3, .int (l3 + 1)), (0, .ref m0), (1, .int l1), (2, .int l2)]) hx hb dX6_placed_32 hl (k := 0) rfl (by first | rfl | decide) (by decide) rfl (fun ls hl => ?_)
            refine lv_goto (tgt := 2) hx hb dX6_placed_35 (by decide) ?_
            exact ih (l3 + 1) l1 l2 mg mkept mspare mhasKept mwas mwasMany manew mthrown mtext mlength mspot mvalue merror mtold mtolds _ _ _ hf hP hD hS (lv_sub hl [0, 1, 2, 3] rfl)
          · have hf := ite_T c15 hf
            refine lv_iload_n hx hb dX6_placed_30 rfl (lv_at hl 0 rfl) ?_
            have hR := Option.some.inj hf
            subst hR
            exact W.iret (v := l3) hx hb hr (fun t ht hW => ⟨⟨l3, (), rfl, rfl, by rw [ht]; exact hP, va_K.moved hW.alike hK, hD⟩, hS.F ht⟩) hS.2.2 dX6_placed_31
  exact lp2 fu_ (0 : Int32) a1 a2 mg mkept mspare mhasKept mwas mwasMany manew mthrown mtext mlength mspot mvalue merror mtold mtolds _ _ _ hf hP hD hS hl
theorem hs_X6_placed : yX6_placed.cls = RX6 ∧ yX6_placed.cls ≠ "java/lang/invoke/MethodHandle" ∧ yX6_placed.cls ≠ "java/lang/invoke/VarHandle" ∧ (parseMethodDescriptor yX6_placed.desc).map (fun d => d.parameters.length) = some 2 := by decide +kernel
set_option maxRecDepth 20000 in
theorem in_X6_joins_X6 : ∀ w ∈ wsX60, w ∈ wsX6_joins := by decide +kernel
def f_X6_joins (a1 : Int32) (a2 : Int32) (M_ : tM_) : Option (Int32) :=
match M_ with
| (mg, mkept, mspare, mhasKept, mwas, mwasMany, manew, mthrown, mtext, mlength, mspot, mvalue, merror, mtold, mtolds) =>
gd_ (190 + a1) 610 (
gd_ (130 + a2) 610 (
if (mg ((190 + a1).toNatClampNeg)) = (mg ((130 + a2).toNatClampNeg)) then
gd_ (310 + a1) 610 (
if (mg ((310 + a1).toNatClampNeg)) = 0 then
gd_ (310 + a2) 610 (
if (mg ((310 + a2).toNatClampNeg)) = 0 then
gd_ (250 + a1) 610 (
gd_ (250 + a2) 610 (
if (mg ((250 + a1).toNatClampNeg)) = (mg ((250 + a2).toNatClampNeg)) then
some (1 : Int32)
else
some (0 : Int32)))
else
some (0 : Int32))
else
some (0 : Int32))
else
some (0 : Int32)))
abbrev rm_X6_joins : Room := { frames := 0, cells := 0, slots := 0, locals := 0 }
set_option maxHeartbeats 4000000 in
set_option maxRecDepth 100000 in
theorem c_X6_joins (l : Launch) (dC : Nat → ClassId) (dI : Nat → Nat → Nat) (cI cZ cC cJ cD : ClassId) (m0 m_g m_kept m_spare m_was m_text m_told : Nat) (sz : Nat) (mg : Nat → Int32) (mkept : Nat → Int32) (mspare : Nat → Int32) (mhasKept : Int32) (mwas : Nat → Int32) (mwasMany : Int32) (manew : Int32) (mthrown : Int32) (mtext : Nat → Int32) (mlength : Int32) (mspot : Int32) (mvalue : Int32) (merror : Int32) (mtold : Nat → Int32) (mtolds : Int32) (a1 : Int32) (a2 : Int32) (R : Int32) (hf : f_X6_joins a1 a2 (mg, mkept, mspare, mhasKept, mwas, mwasMany, manew, mthrown, mtext, mlength, mspot, mvalue, merror, mtold, mtolds) = some R) : Met l yX6_joins wsX6_joins rm_X6_joins (Pc_ (dC, dI) (ty_ cI cZ cC cJ cD) (wM_ m0 m_g m_kept m_spare m_was m_text m_told cI mg mkept mspare mhasKept mwas mwasMany manew mthrown mtext mlength mspot mvalue merror mtold mtolds) sz [.ref m0, .int a1, .int a2]) (Qi_ (dC, dI) (ty_ cI cZ cC cJ cD) R (wM_ m0 m_g m_kept m_spare m_was m_text m_told cI mg mkept mspare mhasKept mwas mwasMany manew mthrown mtext mlength mspot mvalue merror mtold mtolds) (va_A (wM_ m0 m_g m_kept m_spare m_was m_text m_told cI mg mkept mspare mhasKept mwas mwasMany manew mthrown mtext mlength mspot mvalue merror mtold mtolds) sz)) 0 0 (va_A (wM_ m0 m_g m_kept m_spare m_was m_text m_told cI mg mkept mspare mhasKept mwas mwasMany manew mthrown mtext mlength mspot mvalue merror mtold mtolds) sz) := by
  refine met_ (cc := cX6_joins) (maxL := 3) (ret := (some .boolean)) (Qcf := fun A => Qi_ (dC, dI) (ty_ cI cZ cC cJ cD) R (wM_ m0 m_g m_kept m_spare m_was m_text m_told cI mg mkept mspare mhasKept mwas mwasMany manew mthrown mtext mlength mspot mvalue merror mtold mtolds) A) (by decide) rfl (Nat.le_of_ble_eq_true rfl) ?_
  intro p e s m args below meth c A ls hx hb hr hts hown hlocks hml hA hP hK hD hl
  have hown : s.vm.findClass RX6 = some m.cls := hown
  have hl : lv_has ls 3 [(0, .ref m0), (1, .int a1), (2, .int a2)] := hl
  have hS : va_S A s.heap s.heap [] := va_S.rf
  have fl7_ : (Cond.fieldLink RX6 7 "DimensionLoaderModel" "g" "[I").before args s = true := hts _ (List.mem_of_getElem? (i := 1) rfl)
  have inX6_ : ∀ w ∈ wsX60, w ∈ wsX6_joins := in_X6_joins_X6
  unfold f_X6_joins at hf
  dsimp only at hf
  refine lv_aload_n hx hb dX6_joins_0 rfl (lv_at hl 0 rfl) ?_
  refine va_get (D := (dC, dI)) (ci := 8) (v := .ref m_g) (C := RX6) (T := TX6) (N := 15) hx hb hts inX6_ hown hK hP 0 rfl rfl 0 (by decide) fl7_ (fun _ h9 => h9) rfl dX6_joins_1 ?_
  refine lv_sipush (v := 190) hx hb dX6_joins_4 (by decide) ?_
  refine lv_iload_n hx hb dX6_joins_7 rfl (lv_at hl 1 rfl) ?_
  refine lv_iadd hx hb dX6_joins_8 ?_
  obtain ⟨h1, hf⟩ := gd_T hf
  refine va_iald hx hb hK hP 1 0 rfl rfl h1 dX6_joins_9 ?_
  refine lv_aload_n hx hb dX6_joins_10 rfl (lv_at hl 0 rfl) ?_
  refine va_get (D := (dC, dI)) (ci := 8) (v := .ref m_g) (C := RX6) (T := TX6) (N := 15) hx hb hts inX6_ hown hK hP 0 rfl rfl 0 (by decide) fl7_ (fun _ h9 => h9) rfl dX6_joins_11 ?_
  refine lv_sipush (v := 130) hx hb dX6_joins_14 (by decide) ?_
  refine lv_iload_n hx hb dX6_joins_17 rfl (lv_at hl 2 rfl) ?_
  refine lv_iadd hx hb dX6_joins_18 ?_
  obtain ⟨h2, hf⟩ := gd_T hf
  refine va_iald hx hb hK hP 1 0 rfl rfl h2 dX6_joins_19 ?_
  refine lv_icmp_ne (tgt := 76) hx hb dX6_joins_20 (by decide) (fun c3 => ?_) (fun c3 => ?_)
  · have hf := ite_F c3 hf
    refine lv_iconst (v := 0) hx hb dX6_joins_76 (by decide) ?_
    have hR := Option.some.inj hf
    subst hR
    exact W.zret (v := (0 : Int32)) hx hb hr (by decide) (fun t ht hW => ⟨⟨(0 : Int32), (), rfl, rfl, by rw [ht]; exact hP, va_K.moved hW.alike hK, hD⟩, hS.F ht⟩) hS.2.2 dX6_joins_77
  · have hf := ite_T c3 hf
    refine lv_aload_n hx hb dX6_joins_23 rfl (lv_at hl 0 rfl) ?_
    refine va_get (D := (dC, dI)) (ci := 8) (v := .ref m_g) (C := RX6) (T := TX6) (N := 15) hx hb hts inX6_ hown hK hP 0 rfl rfl 0 (by decide) fl7_ (fun _ h9 => h9) rfl dX6_joins_24 ?_
    refine lv_sipush (v := 310) hx hb dX6_joins_27 (by decide) ?_
    refine lv_iload_n hx hb dX6_joins_30 rfl (lv_at hl 1 rfl) ?_
    refine lv_iadd hx hb dX6_joins_31 ?_
    obtain ⟨h4, hf⟩ := gd_T hf
    refine va_iald hx hb hK hP 1 0 rfl rfl h4 dX6_joins_32 ?_
    refine lv_if_ne (tgt := 76) hx hb dX6_joins_33 (by decide) (fun c5 => ?_) (fun c5 => ?_)
    · have hf := ite_F c5 hf
      refine lv_iconst (v := 0) hx hb dX6_joins_76 (by decide) ?_
      have hR := Option.some.inj hf
      subst hR
      exact W.zret (v := (0 : Int32)) hx hb hr (by decide) (fun t ht hW => ⟨⟨(0 : Int32), (), rfl, rfl, by rw [ht]; exact hP, va_K.moved hW.alike hK, hD⟩, hS.F ht⟩) hS.2.2 dX6_joins_77
    · have hf := ite_T c5 hf
      refine lv_aload_n hx hb dX6_joins_36 rfl (lv_at hl 0 rfl) ?_
      refine va_get (D := (dC, dI)) (ci := 8) (v := .ref m_g) (C := RX6) (T := TX6) (N := 15) hx hb hts inX6_ hown hK hP 0 rfl rfl 0 (by decide) fl7_ (fun _ h9 => h9) rfl dX6_joins_37 ?_
      refine lv_sipush (v := 310) hx hb dX6_joins_40 (by decide) ?_
      refine lv_iload_n hx hb dX6_joins_43 rfl (lv_at hl 2 rfl) ?_
      refine lv_iadd hx hb dX6_joins_44 ?_
      obtain ⟨h6, hf⟩ := gd_T hf
      refine va_iald hx hb hK hP 1 0 rfl rfl h6 dX6_joins_45 ?_
      refine lv_if_ne (tgt := 76) hx hb dX6_joins_46 (by decide) (fun c7 => ?_) (fun c7 => ?_)
      · have hf := ite_F c7 hf
        refine lv_iconst (v := 0) hx hb dX6_joins_76 (by decide) ?_
        have hR := Option.some.inj hf
        subst hR
        exact W.zret (v := (0 : Int32)) hx hb hr (by decide) (fun t ht hW => ⟨⟨(0 : Int32), (), rfl, rfl, by rw [ht]; exact hP, va_K.moved hW.alike hK, hD⟩, hS.F ht⟩) hS.2.2 dX6_joins_77
      · have hf := ite_T c7 hf
        refine lv_aload_n hx hb dX6_joins_49 rfl (lv_at hl 0 rfl) ?_
        refine va_get (D := (dC, dI)) (ci := 8) (v := .ref m_g) (C := RX6) (T := TX6) (N := 15) hx hb hts inX6_ hown hK hP 0 rfl rfl 0 (by decide) fl7_ (fun _ h9 => h9) rfl dX6_joins_50 ?_
        refine lv_sipush (v := 250) hx hb dX6_joins_53 (by decide) ?_
        refine lv_iload_n hx hb dX6_joins_56 rfl (lv_at hl 1 rfl) ?_
        refine lv_iadd hx hb dX6_joins_57 ?_
        obtain ⟨h8, hf⟩ := gd_T hf
        refine va_iald hx hb hK hP 1 0 rfl rfl h8 dX6_joins_58 ?_
        refine lv_aload_n hx hb dX6_joins_59 rfl (lv_at hl 0 rfl) ?_
        refine va_get (D := (dC, dI)) (ci := 8) (v := .ref m_g) (C := RX6) (T := TX6) (N := 15) hx hb hts inX6_ hown hK hP 0 rfl rfl 0 (by decide) fl7_ (fun _ h9 => h9) rfl dX6_joins_60 ?_
        refine lv_sipush (v := 250) hx hb dX6_joins_63 (by decide) ?_
        refine lv_iload_n hx hb dX6_joins_66 rfl (lv_at hl 2 rfl) ?_
        refine lv_iadd hx hb dX6_joins_67 ?_
        obtain ⟨h9, hf⟩ := gd_T hf
        refine va_iald hx hb hK hP 1 0 rfl rfl h9 dX6_joins_68 ?_
        refine lv_icmp_ne (tgt := 76) hx hb dX6_joins_69 (by decide) (fun c10 => ?_) (fun c10 => ?_)
        · have hf := ite_F c10 hf
          refine lv_iconst (v := 0) hx hb dX6_joins_76 (by decide) ?_
          have hR := Option.some.inj hf
          subst hR
          exact W.zret (v := (0 : Int32)) hx hb hr (by decide) (fun t ht hW => ⟨⟨(0 : Int32), (), rfl, rfl, by rw [ht]; exact hP, va_K.moved hW.alike hK, hD⟩, hS.F ht⟩) hS.2.2 dX6_joins_77
        · have hf := ite_T c10 hf
          refine lv_iconst (v := 1) hx hb dX6_joins_72 (by decide) ?_
          refine lv_goto (tgt := 77) hx hb dX6_joins_73 (by decide) ?_
          have hR := Option.some.inj hf
          subst hR
          exact W.zret (v := (1 : Int32)) hx hb hr (by decide) (fun t ht hW => ⟨⟨(1 : Int32), (), rfl, rfl, by rw [ht]; exact hP, va_K.moved hW.alike hK, hD⟩, hS.F ht⟩) hS.2.2 dX6_joins_77
theorem hs_X6_joins : yX6_joins.cls = RX6 ∧ yX6_joins.cls ≠ "java/lang/invoke/MethodHandle" ∧ yX6_joins.cls ≠ "java/lang/invoke/VarHandle" ∧ (parseMethodDescriptor yX6_joins.desc).map (fun d => d.parameters.length) = some 2 := by decide +kernel
set_option maxRecDepth 20000 in
theorem in_X6_join_X6 : ∀ w ∈ wsX60, w ∈ wsX6_join := by decide +kernel
def f_X6_join_S26 (k_ : Int32 → Int32 → Int32 → tM_ → Option (Int32 × tM_)) (l3 : Int32) (l2 : Int32) (l1 : Int32) (M_ : tM_) : Option (Int32 × tM_) :=
match M_ with
| (mg, mkept, mspare, mhasKept, mwas, mwasMany, manew, mthrown, mtext, mlength, mspot, mvalue, merror, mtold, mtolds) =>
bd_ (f_X6_many l1 (mg, mkept, mspare, mhasKept, mwas, mwasMany, manew, mthrown, mtext, mlength, mspot, mvalue, merror, mtold, mtolds)) (fun r28 =>
if r28 ≤ (l3 + 1) then
bd_ (f_X6_ends (mg, mkept, mspare, mhasKept, mwas, mwasMany, manew, mthrown, mtext, mlength, mspot, mvalue, merror, mtold, mtolds)) (fun (mg34, mk35, ms36, mh37, mw38, mw39, ma40, mt41, mt42, ml43, ms44, mv45, me46, mt47, mt48) =>
some (l2, (mg34, mk35, ms36, mh37, mw38, mw39, ma40, mt41, mt42, ml43, ms44, mv45, me46, mt47, mt48)))
else
bd_ (f_X6_placed l1 l3 (mg, mkept, mspare, mhasKept, mwas, mwasMany, manew, mthrown, mtext, mlength, mspot, mvalue, merror, mtold, mtolds)) (fun r53 =>
bd_ (f_X6_placed l1 (l3 + 1) (mg, mkept, mspare, mhasKept, mwas, mwasMany, manew, mthrown, mtext, mlength, mspot, mvalue, merror, mtold, mtolds)) (fun r58 =>
bd_ (f_X6_joins r53 r58 (mg, mkept, mspare, mhasKept, mwas, mwasMany, manew, mthrown, mtext, mlength, mspot, mvalue, merror, mtold, mtolds)) (fun r63 =>
if r63 = 0 then
k_ (l3 + 1) l2 l1 (mg, mkept, mspare, mhasKept, mwas, mwasMany, manew, mthrown, mtext, mlength, mspot, mvalue, merror, mtold, mtolds)
else
gd_ (190 + r58) 610 (
gd_ (190 + r53) 610 (nm_ (upd mg ((190 + r53).toNatClampNeg) (mg ((190 + r58).toNatClampNeg))) (fun u72 =>
gd_ (10 + r58) 610 (nm_ (upd u72 ((10 + r58).toNatClampNeg) (0 : Int32)) (fun u76 =>
k_ l3 (l2 + 1) l1 (u76, mkept, mspare, mhasKept, mwas, mwasMany, manew, mthrown, mtext, mlength, mspot, mvalue, merror, mtold, mtolds))))))))))
def f_X6_join_L26 : Nat → Int32 → Int32 → Int32 → tM_ → Option (Int32 × tM_)
  | 0 => fun _ _ _ _ => none
  | n + 1 => fun l3 l2 l1 M_ => f_X6_join_S26 (f_X6_join_L26 n) l3 l2 l1 M_
def f_X6_join (a1 : Int32) (M_ : tM_) : Option (Int32 × tM_) :=
match M_ with
| (mg, mkept, mspare, mhasKept, mwas, mwasMany, manew, mthrown, mtext, mlength, mspot, mvalue, merror, mtold, mtolds) =>
bd_ (f_X6_isKey a1) (fun r2 =>
if r2 = 0 then
bd_ (f_X6_fails (1 : Int32) (mg, mkept, mspare, mhasKept, mwas, mwasMany, manew, 0, mtext, mlength, mspot, mvalue, merror, mtold, mtolds)) (fun (r78, (mg79, mk80, ms81, mh82, mw83, mw84, ma85, mt86, mt87, ml88, ms89, mv90, me91, mt92, mt93)) =>
some (r78, (mg79, mk80, ms81, mh82, mw83, mw84, ma85, mt86, mt87, ml88, ms89, mv90, me91, mt92, mt93)))
else
bd_ (f_X6_begins (mg, mkept, mspare, mhasKept, mwas, mwasMany, manew, 0, mtext, mlength, mspot, mvalue, merror, mtold, mtolds)) (fun (mg8, mk9, ms10, mh11, mw12, mw13, ma14, mt15, mt16, ml17, ms18, mv19, me20, mt21, mt22) =>
f_X6_join_L26 fu_ (0 : Int32) (0 : Int32) a1 (mg8, mk9, ms10, mh11, mw12, mw13, ma14, mt15, mt16, ml17, ms18, mv19, me20, mt21, mt22)))
abbrev rm_X6_join : Room := { frames := 4, cells := 0, slots := 0, locals := 87 }
set_option maxHeartbeats 4000000 in
set_option maxRecDepth 100000 in
theorem c_X6_join (l : Launch) (dC : Nat → ClassId) (dI : Nat → Nat → Nat) (cI cZ cC cJ cD : ClassId) (m0 m_g m_kept m_spare m_was m_text m_told : Nat) (sz : Nat) (mg : Nat → Int32) (mkept : Nat → Int32) (mspare : Nat → Int32) (mhasKept : Int32) (mwas : Nat → Int32) (mwasMany : Int32) (manew : Int32) (mthrown : Int32) (mtext : Nat → Int32) (mlength : Int32) (mspot : Int32) (mvalue : Int32) (merror : Int32) (mtold : Nat → Int32) (mtolds : Int32) (a1 : Int32) (R : Int32 × tM_) (hf : f_X6_join a1 (mg, mkept, mspare, mhasKept, mwas, mwasMany, manew, mthrown, mtext, mlength, mspot, mvalue, merror, mtold, mtolds) = some R) : Met l yX6_join wsX6_join rm_X6_join (Pc_ (dC, dI) (ty_ cI cZ cC cJ cD) (wM_ m0 m_g m_kept m_spare m_was m_text m_told cI mg mkept mspare mhasKept mwas mwasMany manew mthrown mtext mlength mspot mvalue merror mtold mtolds) sz [.ref m0, .int a1]) (Qi_ (dC, dI) (ty_ cI cZ cC cJ cD) R.1 (wM_ m0 m_g m_kept m_spare m_was m_text m_told cI R.2.1 R.2.2.1 R.2.2.2.1 R.2.2.2.2.1 R.2.2.2.2.2.1 R.2.2.2.2.2.2.1 R.2.2.2.2.2.2.2.1 R.2.2.2.2.2.2.2.2.1 R.2.2.2.2.2.2.2.2.2.1 R.2.2.2.2.2.2.2.2.2.2.1 R.2.2.2.2.2.2.2.2.2.2.2.1 R.2.2.2.2.2.2.2.2.2.2.2.2.1 R.2.2.2.2.2.2.2.2.2.2.2.2.2.1 R.2.2.2.2.2.2.2.2.2.2.2.2.2.2.1 R.2.2.2.2.2.2.2.2.2.2.2.2.2.2.2) (va_A (wM_ m0 m_g m_kept m_spare m_was m_text m_told cI mg mkept mspare mhasKept mwas mwasMany manew mthrown mtext mlength mspot mvalue merror mtold mtolds) sz)) 0 0 (va_A (wM_ m0 m_g m_kept m_spare m_was m_text m_told cI mg mkept mspare mhasKept mwas mwasMany manew mthrown mtext mlength mspot mvalue merror mtold mtolds) sz) := by
  refine met_ (cc := cX6_join) (maxL := 6) (ret := (some .int)) (Qcf := fun A => Qi_ (dC, dI) (ty_ cI cZ cC cJ cD) R.1 (wM_ m0 m_g m_kept m_spare m_was m_text m_told cI R.2.1 R.2.2.1 R.2.2.2.1 R.2.2.2.2.1 R.2.2.2.2.2.1 R.2.2.2.2.2.2.1 R.2.2.2.2.2.2.2.1 R.2.2.2.2.2.2.2.2.1 R.2.2.2.2.2.2.2.2.2.1 R.2.2.2.2.2.2.2.2.2.2.1 R.2.2.2.2.2.2.2.2.2.2.2.1 R.2.2.2.2.2.2.2.2.2.2.2.2.1 R.2.2.2.2.2.2.2.2.2.2.2.2.2.1 R.2.2.2.2.2.2.2.2.2.2.2.2.2.2.1 R.2.2.2.2.2.2.2.2.2.2.2.2.2.2.2) A) (by decide) rfl (Nat.le_of_ble_eq_true rfl) ?_
  intro p e s m args below meth c A ls hx hb hr hts hown hlocks hml hA hP hK hD hl
  have hown : s.vm.findClass RX6 = some m.cls := hown
  have hl : lv_has ls 6 [(0, .ref m0), (1, .int a1)] := hl
  have hS : va_S A s.heap s.heap [] := va_S.rf
  have fl7_ : (Cond.fieldLink RX6 7 "DimensionLoaderModel" "g" "[I").before args s = true := hts _ (List.mem_of_getElem? (i := 2) rfl)
  have fl32_ : (Cond.fieldLink RX6 32 "DimensionLoaderModel" "thrown" "I").before args s = true := hts _ (List.mem_of_getElem? (i := 1) rfl)
  have inX6_ : ∀ w ∈ wsX60, w ∈ wsX6_join := in_X6_join_X6
  unfold f_X6_join at hf
  dsimp only at hf
  refine lv_aload_n hx hb dX6_join_0 rfl (lv_at hl 0 rfl) ?_
  refine lv_iconst (v := 0) hx hb dX6_join_1 (by decide) ?_
  refine va_put (D := (dC, dI)) (ci := 8) (v := .int 0) (ty := .int) (C := RX6) (T := TX6) (N := 15) hx hb hts inX6_ tyX6 tyX6_ok nmX6 hown hK hP hD hS 0 rfl rfl 7 (by decide) fl32_ (fun _ h9 => h9) rfl (by decide +kernel) (by first | rfl | decide) (by first | rfl | decide) (Nat.le_of_ble_eq_true rfl) dX6_join_2 (fun H1 locs hP hD hS => ?_)
  have hP : va_P (dC, dI) vwCl (wM_ m0 m_g m_kept m_spare m_was m_text m_told cI mg mkept mspare mhasKept mwas mwasMany manew 0 mtext mlength mspot mvalue merror mtold mtolds) H1 := hP
  have hD : va_D A (wM_ m0 m_g m_kept m_spare m_was m_text m_told cI mg mkept mspare mhasKept mwas mwasMany manew 0 mtext mlength mspot mvalue merror mtold mtolds) := hD
  refine lv_iload_n hx hb dX6_join_5 rfl (lv_at hl 1 rfl) ?_
  obtain ⟨R3, g4, hf⟩ := bd_B hf
  obtain ⟨r2, rfl⟩ : ∃ z, z = R3 := ⟨_, rfl⟩
  have hPc := hP.sub (ws' := []) [] rfl
  have hDc := hD.sub (ws' := []) [] (by decide) rfl
  have hFc := va_free (wc := []) hD hS hA [] rfl
  refine va_calli (va_runS (As := [.int a1]) (rest := []) ⟨hx, hb, hml, hown, hts⟩ (c_X6_isKey l dC dI cI cZ cC cJ cD H1.size a1 r2 g4) (cwS 1 hts gX6_join_X6_isKey rfl rfl rfl hs_X6_isKey ⟨Nat.le_of_ble_eq_true rfl, Nat.le_of_ble_eq_true rfl⟩) (preS_ hPc hK hDc rfl) rfl rfl hl.1 rfl (lv_room (Nat.le_of_ble_eq_true rfl)) dX6_join_6 ⟨Nat.le_of_ble_eq_true rfl, Nat.le_of_ble_eq_true rfl⟩) hS (fun q _ h => hFc q h) hFc (fun z6 u t H5 locs ht hvm hw hB hz1 hk1 hS => ?_)
  have hw : r2 = z6 := hw.symm
  subst hw
  obtain ⟨hP, hD⟩ := aft_ (Wr := wM_ m0 m_g m_kept m_spare m_was m_text m_told cI mg mkept mspare mhasKept mwas mwasMany manew 0 mtext mlength mspot mvalue merror mtold mtolds) (Wc' := []) (W2 := wM_ m0 m_g m_kept m_spare m_was m_text m_told cI mg mkept mspare mhasKept mwas mwasMany manew 0 mtext mlength mspot mvalue merror mtold mtolds) hP hD [] [0, 1, 2, 3, 4, 5, 6] [0, 1, 2, 3, 4, 5, 6] rfl rfl (by decide) (by decide) (by decide) hk1 hFc hB ht rfl
  refine lv_if_ne (tgt := 18) hx hb dX6_join_9 (by decide) (fun c7 => ?_) (fun c7 => ?_)
  · have hf := ite_F c7 hf
    refine lv_aload_n hx hb dX6_join_18 rfl (lv_at hl 0 rfl) ?_
    obtain ⟨R23, g24, hf⟩ := bd_B hf
    obtain ⟨mg8, mk9, ms10, mh11, mw12, mw13, ma14, mt15, mt16, ml17, ms18, mv19, me20, mt21, mt22⟩ := R23
    dsimp only at hf
    have hPc := hP
    have hDc := hD
    have hFc := va_free (wc := wM_ m0 m_g m_kept m_spare m_was m_text m_told cI mg mkept mspare mhasKept mwas mwasMany manew 0 mtext mlength mspot mvalue merror mtold mtolds) hD hS hA [0, 1, 2, 3, 4, 5, 6] rfl
    refine va_callv (va_runV (As := []) (rest := []) ⟨hx, hb, hml, hown, hts⟩ (c_X6_begins l dC dI cI cZ cC cJ cD m0 m_g m_kept m_spare m_was m_text m_told H5.size mg mkept mspare mhasKept mwas mwasMany manew (0 : Int32) mtext mlength mspot mvalue merror mtold mtolds (mg8, mk9, ms10, mh11, mw12, mw13, ma14, mt15, mt16, ml17, ms18, mv19, me20, mt21, mt22) g24) (cwV 0 hts gX6_join_X6_begins rfl rfl rfl hs_X6_begins ⟨Nat.le_of_ble_eq_true rfl, Nat.le_of_ble_eq_true rfl⟩) (preV_ (ci := 8) (q0 := 0) hPc hK hDc rfl rfl rfl rfl) rfl rfl hl.1 rfl (lv_room (Nat.le_of_ble_eq_true rfl)) dX6_join_19 ⟨Nat.le_of_ble_eq_true rfl, Nat.le_of_ble_eq_true rfl⟩) hS (fun q _ h => hFc q h) hFc (fun u t H25 locs ht hvm hw hB hz1 hk1 hS => ?_)
    obtain ⟨hP, hD⟩ := aft_ (Wr := []) (Wc' := wM_ m0 m_g m_kept m_spare m_was m_text m_told cI mg8 mk9 ms10 mh11 mw12 mw13 ma14 mt15 mt16 ml17 ms18 mv19 me20 mt21 mt22) (W2 := wM_ m0 m_g m_kept m_spare m_was m_text m_told cI mg8 mk9 ms10 mh11 mw12 mw13 ma14 mt15 mt16 ml17 ms18 mv19 me20 mt21 mt22) hP hD [0, 1, 2, 3, 4, 5, 6] [] [0, 1, 2, 3, 4, 5, 6] rfl rfl (by decide) (by decide) (by decide) hk1 hFc hB ht rfl
    refine lv_iconst (v := 0) hx hb dX6_join_22 (by decide) ?_
    refine lv_istore_n (lv' := [(2, .int 0), (0, .ref m0), (1, .int a1)]) hx hb dX6_join_23 rfl hl (by decide) rfl (fun ls hl => ?_)
    refine lv_iconst (v := 0) hx hb dX6_join_24 (by decide) ?_
    refine lv_istore_n (lv' := [(3, .int 0), (2, .int 0), (0, .ref m0), (1, .int a1)]) hx hb dX6_join_25 rfl hl (by decide) rfl (fun ls hl => ?_)
    have lp26 : ∀ (n : Nat) (l3 : Int32) (l2 : Int32) (l1 : Int32) (mg : Nat → Int32) (mkept : Nat → Int32) (mspare : Nat → Int32) (mhasKept : Int32) (mwas : Nat → Int32) (mwasMany : Int32) (manew : Int32) (mthrown : Int32) (mtext : Nat → Int32) (mlength : Int32) (mspot : Int32) (mvalue : Int32) (merror : Int32) (mtold : Nat → Int32) (mtolds : Int32) (H27 : Heap) (locs : List Loc) (ls : Array Slot), f_X6_join_L26 n l3 l2 l1 (mg, mkept, mspare, mhasKept, mwas, mwasMany, manew, mthrown, mtext, mlength, mspot, mvalue, merror, mtold, mtolds) = some R → va_P (dC, dI) vwCl (wM_ m0 m_g m_kept m_spare m_was m_text m_told cI mg mkept mspare mhasKept mwas mwasMany manew mthrown mtext mlength mspot mvalue merror mtold mtolds) H27 → va_D A (wM_ m0 m_g m_kept m_spare m_was m_text m_told cI mg mkept mspare mhasKept mwas mwasMany manew mthrown mtext mlength mspot mvalue merror mtold mtolds) → va_S A s.heap H27 locs → lv_has ls 6 [(3, .int l3), (2, .int l2), (0, .ref m0), (1, .int l1)] → W p l e (headSpec wsX6_join rm_X6_join).room s m args below meth c H27 locs 0 0 (MQ below (Qi_ (dC, dI) (ty_ cI cZ cC cJ cD) R.1 (wM_ m0 m_g m_kept m_spare m_was m_text m_told cI R.2.1 R.2.2.1 R.2.2.2.1 R.2.2.2.2.1 R.2.2.2.2.2.1 R.2.2.2.2.2.2.1 R.2.2.2.2.2.2.2.1 R.2.2.2.2.2.2.2.2.1 R.2.2.2.2.2.2.2.2.2.1 R.2.2.2.2.2.2.2.2.2.2.1 R.2.2.2.2.2.2.2.2.2.2.2.1 R.2.2.2.2.2.2.2.2.2.2.2.2.1 R.2.2.2.2.2.2.2.2.2.2.2.2.2.1 R.2.2.2.2.2.2.2.2.2.2.2.2.2.2.1 R.2.2.2.2.2.2.2.2.2.2.2.2.2.2.2) A) args s 0 0 A) (F0 m 26 ls []) := by
      intro n
      induction n with
      | zero => intro l3 l2 l1 mg mkept mspare mhasKept mwas mwasMany manew mthrown mtext mlength mspot mvalue merror mtold mtolds H27 locs ls hf hP hD hS hl; exact absurd hf (by simp [f_X6_join_L26])
      | succ n ih =>
        intro l3 l2 l1 mg mkept mspare mhasKept mwas mwasMany manew mthrown mtext mlength mspot mvalue merror mtold mtolds H27 locs ls hf hP hD hS hl
        have hf : f_X6_join_S26 (f_X6_join_L26 n) l3 l2 l1 (mg, mkept, mspare, mhasKept, mwas, mwasMany, manew, mthrown, mtext, mlength, mspot, mvalue, merror, mtold, mtolds) = some R := hf
        unfold f_X6_join_S26 at hf
        dsimp only at hf
        refine lv_iload_n hx hb dX6_join_26 rfl (lv_at hl 0 rfl) ?_
        refine lv_iconst (v := 1) hx hb dX6_join_27 (by decide) ?_
        refine lv_iadd hx hb dX6_join_28 ?_
        refine lv_aload_n hx hb dX6_join_29 rfl (lv_at hl 2 rfl) ?_
        refine lv_iload_n hx hb dX6_join_30 rfl (lv_at hl 3 rfl) ?_
        obtain ⟨R29, g30, hf⟩ := bd_B hf
        obtain ⟨r28, rfl⟩ : ∃ z, z = R29 := ⟨_, rfl⟩
        have hPc := hP
        have hDc := hD
        have hFc := va_free (wc := wM_ m0 m_g m_kept m_spare m_was m_text m_told cI mg mkept mspare mhasKept mwas mwasMany manew mthrown mtext mlength mspot mvalue merror mtold mtolds) hD hS hA [0, 1, 2, 3, 4, 5, 6] rfl
        refine va_calli (va_runV (As := [.int l1]) (rest := [.int (l3 + 1)]) ⟨hx, hb, hml, hown, hts⟩ (c_X6_many l dC dI cI cZ cC cJ cD m0 m_g m_kept m_spare m_was m_text m_told H27.size mg mkept mspare mhasKept mwas mwasMany manew mthrown mtext mlength mspot mvalue merror mtold mtolds l1 r28 g30) (cwV 1 hts gX6_join_X6_many rfl rfl rfl hs_X6_many ⟨Nat.le_of_ble_eq_true rfl, Nat.le_of_ble_eq_true rfl⟩) (preV_ (ci := 8) (q0 := 0) hPc hK hDc rfl rfl rfl rfl) rfl rfl hl.1 rfl (lv_room (Nat.le_of_ble_eq_true rfl)) dX6_join_31 ⟨Nat.le_of_ble_eq_true rfl, Nat.le_of_ble_eq_true rfl⟩) hS (fun q _ h => hFc q h) hFc (fun z32 u t H31 locs ht hvm hw hB hz1 hk1 hS => ?_)
        have hw : r28 = z32 := hw.symm
        subst hw
        obtain ⟨hP, hD⟩ := aft_ (Wr := []) (Wc' := wM_ m0 m_g m_kept m_spare m_was m_text m_told cI mg mkept mspare mhasKept mwas mwasMany manew mthrown mtext mlength mspot mvalue merror mtold mtolds) (W2 := wM_ m0 m_g m_kept m_spare m_was m_text m_told cI mg mkept mspare mhasKept mwas mwasMany manew mthrown mtext mlength mspot mvalue merror mtold mtolds) hP hD [0, 1, 2, 3, 4, 5, 6] [] [0, 1, 2, 3, 4, 5, 6] rfl rfl (by decide) (by decide) (by decide) hk1 hFc hB ht rfl
        refine lv_icmp_ge (tgt := 111) hx hb dX6_join_34 (by decide) (fun c33 => ?_) (fun c33 => ?_)
        · have hf := ite_T c33 hf
          refine lv_aload_n hx hb dX6_join_111 rfl (lv_at hl 2 rfl) ?_
          obtain ⟨R49, g50, hf⟩ := bd_B hf
          obtain ⟨mg34, mk35, ms36, mh37, mw38, mw39, ma40, mt41, mt42, ml43, ms44, mv45, me46, mt47, mt48⟩ := R49
          dsimp only at hf
          have hPc := hP
          have hDc := hD
          have hFc := va_free (wc := wM_ m0 m_g m_kept m_spare m_was m_text m_told cI mg mkept mspare mhasKept mwas mwasMany manew mthrown mtext mlength mspot mvalue merror mtold mtolds) hD hS hA [0, 1, 2, 3, 4, 5, 6] rfl
          refine va_callv (va_runV (As := []) (rest := []) ⟨hx, hb, hml, hown, hts⟩ (c_X6_ends l dC dI cI cZ cC cJ cD m0 m_g m_kept m_spare m_was m_text m_told H31.size mg mkept mspare mhasKept mwas mwasMany manew mthrown mtext mlength mspot mvalue merror mtold mtolds (mg34, mk35, ms36, mh37, mw38, mw39, ma40, mt41, mt42, ml43, ms44, mv45, me46, mt47, mt48) g50) (cwV 0 hts gX6_join_X6_ends rfl rfl rfl hs_X6_ends ⟨Nat.le_of_ble_eq_true rfl, Nat.le_of_ble_eq_true rfl⟩) (preV_ (ci := 8) (q0 := 0) hPc hK hDc rfl rfl rfl rfl) rfl rfl hl.1 rfl (lv_room (Nat.le_of_ble_eq_true rfl)) dX6_join_112 ⟨Nat.le_of_ble_eq_true rfl, Nat.le_of_ble_eq_true rfl⟩) hS (fun q _ h => hFc q h) hFc (fun u t H51 locs ht hvm hw hB hz1 hk1 hS => ?_)
          obtain ⟨hP, hD⟩ := aft_ (Wr := []) (Wc' := wM_ m0 m_g m_kept m_spare m_was m_text m_told cI mg34 mk35 ms36 mh37 mw38 mw39 ma40 mt41 mt42 ml43 ms44 mv45 me46 mt47 mt48) (W2 := wM_ m0 m_g m_kept m_spare m_was m_text m_told cI mg34 mk35 ms36 mh37 mw38 mw39 ma40 mt41 mt42 ml43 ms44 mv45 me46 mt47 mt48) hP hD [0, 1, 2, 3, 4, 5, 6] [] [0, 1, 2, 3, 4, 5, 6] rfl rfl (by decide) (by decide) (by decide) hk1 hFc hB ht rfl
          refine lv_iload_n hx hb dX6_join_115 rfl (lv_at hl 1 rfl) ?_
          have hR := Option.some.inj hf
          subst hR
          exact W.iret (v := l2) hx hb hr (fun t ht hW => ⟨⟨l2, (), rfl, rfl, by rw [ht]; exact hP, va_K.moved hW.alike hK, hD⟩, hS.F ht⟩) hS.2.2 dX6_join_116
        · have hf := ite_F c33 hf
          refine lv_aload_n hx hb dX6_join_37 rfl (lv_at hl 2 rfl) ?_
          refine lv_iload_n hx hb dX6_join_38 rfl (lv_at hl 3 rfl) ?_
          refine lv_iload_n hx hb dX6_join_39 rfl (lv_at hl 0 rfl) ?_
          obtain ⟨R54, g55, hf⟩ := bd_B hf
          obtain ⟨r53, rfl⟩ : ∃ z, z = R54 := ⟨_, rfl⟩
          have hPc := hP
          have hDc := hD
          have hFc := va_free (wc := wM_ m0 m_g m_kept m_spare m_was m_text m_told cI mg mkept mspare mhasKept mwas mwasMany manew mthrown mtext mlength mspot mvalue merror mtold mtolds) hD hS hA [0, 1, 2, 3, 4, 5, 6] rfl
          refine va_calli (va_runV (As := [.int l1, .int l3]) (rest := []) ⟨hx, hb, hml, hown, hts⟩ (c_X6_placed l dC dI cI cZ cC cJ cD m0 m_g m_kept m_spare m_was m_text m_told H31.size mg mkept mspare mhasKept mwas mwasMany manew mthrown mtext mlength mspot mvalue merror mtold mtolds l1 l3 r53 g55) (cwV 2 hts gX6_join_X6_placed rfl rfl rfl hs_X6_placed ⟨Nat.le_of_ble_eq_true rfl, Nat.le_of_ble_eq_true rfl⟩) (preV_ (ci := 8) (q0 := 0) hPc hK hDc rfl rfl rfl rfl) rfl rfl hl.1 rfl (lv_room (Nat.le_of_ble_eq_true rfl)) dX6_join_40 ⟨Nat.le_of_ble_eq_true rfl, Nat.le_of_ble_eq_true rfl⟩) hS (fun q _ h => hFc q h) hFc (fun z57 u t H56 locs ht hvm hw hB hz1 hk1 hS => ?_)
          have hw : r53 = z57 := hw.symm
          subst hw
          obtain ⟨hP, hD⟩ := aft_ (Wr := []) (Wc' := wM_ m0 m_g m_kept m_spare m_was m_text m_told cI mg mkept mspare mhasKept mwas mwasMany manew mthrown mtext mlength mspot mvalue merror mtold mtolds) (W2 := wM_ m0 m_g m_kept m_spare m_was m_text m_told cI mg mkept mspare mhasKept mwas mwasMany manew mthrown mtext mlength mspot mvalue merror mtold mtolds) hP hD [0, 1, 2, 3, 4, 5, 6] [] [0, 1, 2, 3, 4, 5, 6] rfl rfl (by decide) (by decide) (by decide) hk1 hFc hB ht rfl
          refine lv_istore (lv' := [(4, .int r53), (3, .int l3), (2, .int l2), (0, .ref m0), (1, .int l1)]) hx hb dX6_join_43 hl (by decide) rfl (fun ls hl => ?_)
          refine lv_aload_n hx hb dX6_join_45 rfl (lv_at hl 3 rfl) ?_
          refine lv_iload_n hx hb dX6_join_46 rfl (lv_at hl 4 rfl) ?_
          refine lv_iload_n hx hb dX6_join_47 rfl (lv_at hl 1 rfl) ?_
          refine lv_iconst (v := 1) hx hb dX6_join_48 (by decide) ?_
          refine lv_iadd hx hb dX6_join_49 ?_
          obtain ⟨R59, g60, hf⟩ := bd_B hf
          obtain ⟨r58, rfl⟩ : ∃ z, z = R59 := ⟨_, rfl⟩
          have hPc := hP
          have hDc := hD
          have hFc := va_free (wc := wM_ m0 m_g m_kept m_spare m_was m_text m_told cI mg mkept mspare mhasKept mwas mwasMany manew mthrown mtext mlength mspot mvalue merror mtold mtolds) hD hS hA [0, 1, 2, 3, 4, 5, 6] rfl
          refine va_calli (va_runV (As := [.int l1, .int (l3 + 1)]) (rest := []) ⟨hx, hb, hml, hown, hts⟩ (c_X6_placed l dC dI cI cZ cC cJ cD m0 m_g m_kept m_spare m_was m_text m_told H56.size mg mkept mspare mhasKept mwas mwasMany manew mthrown mtext mlength mspot mvalue merror mtold mtolds l1 (l3 + 1) r58 g60) (cwV 2 hts gX6_join_X6_placed rfl rfl rfl hs_X6_placed ⟨Nat.le_of_ble_eq_true rfl, Nat.le_of_ble_eq_true rfl⟩) (preV_ (ci := 8) (q0 := 0) hPc hK hDc rfl rfl rfl rfl) rfl rfl hl.1 rfl (lv_room (Nat.le_of_ble_eq_true rfl)) dX6_join_50 ⟨Nat.le_of_ble_eq_true rfl, Nat.le_of_ble_eq_true rfl⟩) hS (fun q _ h => hFc q h) hFc (fun z62 u t H61 locs ht hvm hw hB hz1 hk1 hS => ?_)
          have hw : r58 = z62 := hw.symm
          subst hw
          obtain ⟨hP, hD⟩ := aft_ (Wr := []) (Wc' := wM_ m0 m_g m_kept m_spare m_was m_text m_told cI mg mkept mspare mhasKept mwas mwasMany manew mthrown mtext mlength mspot mvalue merror mtold mtolds) (W2 := wM_ m0 m_g m_kept m_spare m_was m_text m_told cI mg mkept mspare mhasKept mwas mwasMany manew mthrown mtext mlength mspot mvalue merror mtold mtolds) hP hD [0, 1, 2, 3, 4, 5, 6] [] [0, 1, 2, 3, 4, 5, 6] rfl rfl (by decide) (by decide) (by decide) hk1 hFc hB ht rfl
          refine lv_istore (lv' := [(5, .int r58), (4, .int r53), (3, .int l3), (2, .int l2), (0, .ref m0), (1, .int l1)]) hx hb dX6_join_53 hl (by decide) rfl (fun ls hl => ?_)
          refine lv_aload_n hx hb dX6_join_55 rfl (lv_at hl 4 rfl) ?_
          refine lv_iload hx hb dX6_join_56 (lv_at hl 1 rfl) ?_
          refine lv_iload hx hb dX6_join_58 (lv_at hl 0 rfl) ?_
          obtain ⟨R64, g65, hf⟩ := bd_B hf
          obtain ⟨r63, rfl⟩ : ∃ z, z = R64 := ⟨_, rfl⟩
          have hPc := hP
          have hDc := hD
          have hFc := va_free (wc := wM_ m0 m_g m_kept m_spare m_was m_text m_told cI mg mkept mspare mhasKept mwas mwasMany manew mthrown mtext mlength mspot mvalue merror mtold mtolds) hD hS hA [0, 1, 2, 3, 4, 5, 6] rfl
          refine va_calli (va_runV (As := [.int r53, .int r58]) (rest := []) ⟨hx, hb, hml, hown, hts⟩ (c_X6_joins l dC dI cI cZ cC cJ cD m0 m_g m_kept m_spare m_was m_text m_told H61.size mg mkept mspare mhasKept mwas mwasMany manew mthrown mtext mlength mspot mvalue merror mtold mtolds r53 r58 r63 g65) (cwV 2 hts gX6_join_X6_joins rfl rfl rfl hs_X6_joins ⟨Nat.le_of_ble_eq_true rfl, Nat.le_of_ble_eq_true rfl⟩) (preV_ (ci := 8) (q0 := 0) hPc hK hDc rfl rfl rfl rfl) rfl rfl hl.1 rfl (lv_room (Nat.le_of_ble_eq_true rfl)) dX6_join_60 ⟨Nat.le_of_ble_eq_true rfl, Nat.le_of_ble_eq_true rfl⟩) hS (fun q _ h => hFc q h) hFc (fun z67 u t H66 locs ht hvm hw hB hz1 hk1 hS => ?_)
          have hw : r63 = z67 := hw.symm
          subst hw
          obtain ⟨hP, hD⟩ := aft_ (Wr := []) (Wc' := wM_ m0 m_g m_kept m_spare m_was m_text m_told cI mg mkept mspare mhasKept mwas mwasMany manew mthrown mtext mlength mspot mvalue merror mtold mtolds) (W2 := wM_ m0 m_g m_kept m_spare m_was m_text m_told cI mg mkept mspare mhasKept mwas mwasMany manew mthrown mtext mlength mspot mvalue merror mtold mtolds) hP hD [0, 1, 2, 3, 4, 5, 6] [] [0, 1, 2, 3, 4, 5, 6] rfl rfl (by decide) (by decide) (by decide) hk1 hFc hB ht rfl
          refine lv_if_eq (tgt := 105) hx hb dX6_join_63 (by decide) (fun c68 => ?_) (fun c68 => ?_)
          · have hf := ite_T c68 hf
            refine lv_iinc (v := l3 + 1) (lv' := [(3, .int (l3 + 1)), (5, .int r58), (4, .int r53), (2, .int l2), (0, .ref m0), (1, .int l1)]) hx hb dX6_join_105 hl (k := 2) rfl (by first | rfl | decide) (by decide) rfl (fun ls hl => ?_)
            refine lv_goto (tgt := 26) hx hb dX6_join_108 (by decide) ?_
            exact ih (l3 + 1) l2 l1 mg mkept mspare mhasKept mwas mwasMany manew mthrown mtext mlength mspot mvalue merror mtold mtolds _ _ _ hf hP hD hS (lv_sub hl [0, 3, 4, 5] rfl)
          · have hf := ite_F c68 hf
            refine lv_aload_n hx hb dX6_join_66 rfl (lv_at hl 4 rfl) ?_
            refine va_get (D := (dC, dI)) (ci := 8) (v := .ref m_g) (C := RX6) (T := TX6) (N := 15) hx hb hts inX6_ hown hK hP 0 rfl rfl 0 (by decide) fl7_ (fun _ h9 => h9) rfl dX6_join_67 ?_
            refine lv_sipush (v := 190) hx hb dX6_join_70 (by decide) ?_
            refine lv_iload hx hb dX6_join_73 (lv_at hl 1 rfl) ?_
            refine lv_iadd hx hb dX6_join_75 ?_
            refine lv_aload_n hx hb dX6_join_76 rfl (lv_at hl 4 rfl) ?_
            refine va_get (D := (dC, dI)) (ci := 8) (v := .ref m_g) (C := RX6) (T := TX6) (N := 15) hx hb hts inX6_ hown hK hP 0 rfl rfl 0 (by decide) fl7_ (fun _ h9 => h9) rfl dX6_join_77 ?_
            refine lv_sipush (v := 190) hx hb dX6_join_80 (by decide) ?_
            refine lv_iload hx hb dX6_join_83 (lv_at hl 0 rfl) ?_
            refine lv_iadd hx hb dX6_join_85 ?_
            obtain ⟨h69, hf⟩ := gd_T hf
            refine va_iald hx hb hK hP 1 0 rfl rfl h69 dX6_join_86 ?_
            obtain ⟨h70, hf⟩ := gd_T hf
            refine va_iast hx hb hK hP hD hS 1 0 rfl rfl h70 dX6_join_87 (fun H71 locs hP hD hS => ?_)
            have hP : va_P (dC, dI) vwCl (wM_ m0 m_g m_kept m_spare m_was m_text m_told cI (upd mg ((190 + r53).toNatClampNeg) (mg ((190 + r58).toNatClampNeg))) mkept mspare mhasKept mwas mwasMany manew mthrown mtext mlength mspot mvalue merror mtold mtolds) H71 := hP
            have hD : va_D A (wM_ m0 m_g m_kept m_spare m_was m_text m_told cI (upd mg ((190 + r53).toNatClampNeg) (mg ((190 + r58).toNatClampNeg))) mkept mspare mhasKept mwas mwasMany manew mthrown mtext mlength mspot mvalue merror mtold mtolds) := hD
            obtain ⟨u72, e73, hf⟩ := nm_T hf
            rw [← e73] at hP hD
            refine lv_aload_n hx hb dX6_join_88 rfl (lv_at hl 4 rfl) ?_
            refine va_get (D := (dC, dI)) (ci := 8) (v := .ref m_g) (C := RX6) (T := TX6) (N := 15) hx hb hts inX6_ hown hK hP 0 rfl rfl 0 (by decide) fl7_ (fun _ h9 => h9) rfl dX6_join_89 ?_
            refine lv_bipush (v := 10) hx hb dX6_join_92 (by decide) ?_
            refine lv_iload hx hb dX6_join_94 (lv_at hl 0 rfl) ?_
            refine lv_iadd hx hb dX6_join_96 ?_
            refine lv_iconst (v := 0) hx hb dX6_join_97 (by decide) ?_
            obtain ⟨h74, hf⟩ := gd_T hf
            refine va_iast hx hb hK hP hD hS 1 0 rfl rfl h74 dX6_join_98 (fun H75 locs hP hD hS => ?_)
            have hP : va_P (dC, dI) vwCl (wM_ m0 m_g m_kept m_spare m_was m_text m_told cI (upd u72 ((10 + r58).toNatClampNeg) (0 : Int32)) mkept mspare mhasKept mwas mwasMany manew mthrown mtext mlength mspot mvalue merror mtold mtolds) H75 := hP
            have hD : va_D A (wM_ m0 m_g m_kept m_spare m_was m_text m_told cI (upd u72 ((10 + r58).toNatClampNeg) (0 : Int32)) mkept mspare mhasKept mwas mwasMany manew mthrown mtext mlength mspot mvalue merror mtold mtolds) := hD
            obtain ⟨u76, e77, hf⟩ := nm_T hf
            rw [← e77] at hP hD
            refine lv_iinc (v := l2 + 1) (lv' := [(2, .int (l2 + 1)), (5, .int r58), (4, .int r53), (3, .int l3), (0, .ref m0), (1, .int l1)]) hx hb dX6_join_99 hl (k := 3) rfl (by first | rfl | decide) (by decide) rfl (fun ls hl => ?_)
            refine lv_goto (tgt := 108) hx hb dX6_join_102 (by decide) ?_
            refine lv_goto (tgt := 26) hx hb dX6_join_108 (by decide) ?_
            exact ih l3 (l2 + 1) l1 u76 mkept mspare mhasKept mwas mwasMany manew mthrown mtext mlength mspot mvalue merror mtold mtolds _ _ _ hf hP hD hS (lv_sub hl [3, 0, 4, 5] rfl)
    exact lp26 fu_ (0 : Int32) (0 : Int32) a1 mg8 mk9 ms10 mh11 mw12 mw13 ma14 mt15 mt16 ml17 ms18 mv19 me20 mt21 mt22 _ _ _ hf hP hD hS hl
  · have hf := ite_T c7 hf
    refine lv_aload_n hx hb dX6_join_12 rfl (lv_at hl 0 rfl) ?_
    refine lv_iconst (v := 1) hx hb dX6_join_13 (by decide) ?_
    obtain ⟨R94, g95, hf⟩ := bd_B hf
    obtain ⟨r78, ⟨mg79, mk80, ms81, mh82, mw83, mw84, ma85, mt86, mt87, ml88, ms89, mv90, me91, mt92, mt93⟩⟩ := R94
    dsimp only at hf
    have hPc := hP
    have hDc := hD
    have hFc := va_free (wc := wM_ m0 m_g m_kept m_spare m_was m_text m_told cI mg mkept mspare mhasKept mwas mwasMany manew 0 mtext mlength mspot mvalue merror mtold mtolds) hD hS hA [0, 1, 2, 3, 4, 5, 6] rfl
    refine va_calli (va_runV (As := [.int 1]) (rest := []) ⟨hx, hb, hml, hown, hts⟩ (c_X6_fails l dC dI cI cZ cC cJ cD m0 m_g m_kept m_spare m_was m_text m_told H5.size mg mkept mspare mhasKept mwas mwasMany manew (0 : Int32) mtext mlength mspot mvalue merror mtold mtolds (1 : Int32) (r78, (mg79, mk80, ms81, mh82, mw83, mw84, ma85, mt86, mt87, ml88, ms89, mv90, me91, mt92, mt93)) g95) (cwV 1 hts gX6_join_X6_fails rfl rfl rfl hs_X6_fails ⟨Nat.le_of_ble_eq_true rfl, Nat.le_of_ble_eq_true rfl⟩) (preV_ (ci := 8) (q0 := 0) hPc hK hDc rfl rfl rfl rfl) rfl rfl hl.1 rfl (lv_room (Nat.le_of_ble_eq_true rfl)) dX6_join_14 ⟨Nat.le_of_ble_eq_true rfl, Nat.le_of_ble_eq_true rfl⟩) hS (fun q _ h => hFc q h) hFc (fun z97 u t H96 locs ht hvm hw hB hz1 hk1 hS => ?_)
    have hw : r78 = z97 := hw.symm
    subst hw
    obtain ⟨hP, hD⟩ := aft_ (Wr := []) (Wc' := wM_ m0 m_g m_kept m_spare m_was m_text m_told cI mg79 mk80 ms81 mh82 mw83 mw84 ma85 mt86 mt87 ml88 ms89 mv90 me91 mt92 mt93) (W2 := wM_ m0 m_g m_kept m_spare m_was m_text m_told cI mg79 mk80 ms81 mh82 mw83 mw84 ma85 mt86 mt87 ml88 ms89 mv90 me91 mt92 mt93) hP hD [0, 1, 2, 3, 4, 5, 6] [] [0, 1, 2, 3, 4, 5, 6] rfl rfl (by decide) (by decide) (by decide) hk1 hFc hB ht rfl
    have hR := Option.some.inj hf
    subst hR
    exact W.iret (v := r78) hx hb hr (fun t ht hW => ⟨⟨r78, (), rfl, rfl, by rw [ht]; exact hP, va_K.moved hW.alike hK, hD⟩, hS.F ht⟩) hS.2.2 dX6_join_17
theorem hs_X6_join : yX6_join.cls = RX6 ∧ yX6_join.cls ≠ "java/lang/invoke/MethodHandle" ∧ yX6_join.cls ≠ "java/lang/invoke/VarHandle" ∧ (parseMethodDescriptor yX6_join.desc).map (fun d => d.parameters.length) = some 1 := by decide +kernel
set_option maxRecDepth 20000 in
theorem in_X6_there_X6 : ∀ w ∈ wsX60, w ∈ wsX6_there := by decide +kernel
def f_X6_there_S4 (k_ : Int32 → Int32 → tM_ → Option (Int32)) (l2 : Int32) (l1 : Int32) (M_ : tM_) : Option (Int32) :=
match M_ with
| (mg, mkept, mspare, mhasKept, mwas, mwasMany, manew, mthrown, mtext, mlength, mspot, mvalue, merror, mtold, mtolds) =>
gd_ (0 : Int32) 610 (
if (mg ((0 : Int32).toNatClampNeg)) ≤ l2 then
some l1
else
gd_ (10 + l2) 610 (
k_ (l2 + 1) (l1 + (mg ((10 + l2).toNatClampNeg))) (mg, mkept, mspare, mhasKept, mwas, mwasMany, manew, mthrown, mtext, mlength, mspot, mvalue, merror, mtold, mtolds)))
def f_X6_there_L4 : Nat → Int32 → Int32 → tM_ → Option (Int32)
  | 0 => fun _ _ _ => none
  | n + 1 => fun l2 l1 M_ => f_X6_there_S4 (f_X6_there_L4 n) l2 l1 M_
def f_X6_there  (M_ : tM_) : Option (Int32) :=
match M_ with
| (mg, mkept, mspare, mhasKept, mwas, mwasMany, manew, mthrown, mtext, mlength, mspot, mvalue, merror, mtold, mtolds) =>
f_X6_there_L4 fu_ (0 : Int32) (0 : Int32) (mg, mkept, mspare, mhasKept, mwas, mwasMany, manew, mthrown, mtext, mlength, mspot, mvalue, merror, mtold, mtolds)
abbrev rm_X6_there : Room := { frames := 0, cells := 0, slots := 0, locals := 0 }
set_option maxHeartbeats 4000000 in
set_option maxRecDepth 100000 in
theorem c_X6_there (l : Launch) (dC : Nat → ClassId) (dI : Nat → Nat → Nat) (cI cZ cC cJ cD : ClassId) (m0 m_g m_kept m_spare m_was m_text m_told : Nat) (sz : Nat) (mg : Nat → Int32) (mkept : Nat → Int32) (mspare : Nat → Int32) (mhasKept : Int32) (mwas : Nat → Int32) (mwasMany : Int32) (manew : Int32) (mthrown : Int32) (mtext : Nat → Int32) (mlength : Int32) (mspot : Int32) (mvalue : Int32) (merror : Int32) (mtold : Nat → Int32) (mtolds : Int32)  (R : Int32) (hf : f_X6_there  (mg, mkept, mspare, mhasKept, mwas, mwasMany, manew, mthrown, mtext, mlength, mspot, mvalue, merror, mtold, mtolds) = some R) : Met l yX6_there wsX6_there rm_X6_there (Pc_ (dC, dI) (ty_ cI cZ cC cJ cD) (wM_ m0 m_g m_kept m_spare m_was m_text m_told cI mg mkept mspare mhasKept mwas mwasMany manew mthrown mtext mlength mspot mvalue merror mtold mtolds) sz [.ref m0]) (Qi_ (dC, dI) (ty_ cI cZ cC cJ cD) R (wM_ m0 m_g m_kept m_spare m_was m_text m_told cI mg mkept mspare mhasKept mwas mwasMany manew mthrown mtext mlength mspot mvalue merror mtold mtolds) (va_A (wM_ m0 m_g m_kept m_spare m_was m_text m_told cI mg mkept mspare mhasKept mwas mwasMany manew mthrown mtext mlength mspot mvalue merror mtold mtolds) sz)) 0 0 (va_A (wM_ m0 m_g m_kept m_spare m_was m_text m_told cI mg mkept mspare mhasKept mwas mwasMany manew mthrown mtext mlength mspot mvalue merror mtold mtolds) sz) := by
  refine met_ (cc := cX6_there) (maxL := 3) (ret := (some .int)) (Qcf := fun A => Qi_ (dC, dI) (ty_ cI cZ cC cJ cD) R (wM_ m0 m_g m_kept m_spare m_was m_text m_told cI mg mkept mspare mhasKept mwas mwasMany manew mthrown mtext mlength mspot mvalue merror mtold mtolds) A) (by decide) rfl (Nat.le_of_ble_eq_true rfl) ?_
  intro p e s m args below meth c A ls hx hb hr hts hown hlocks hml hA hP hK hD hl
  have hown : s.vm.findClass RX6 = some m.cls := hown
  have hl : lv_has ls 3 [(0, .ref m0)] := hl
  have hS : va_S A s.heap s.heap [] := va_S.rf
  have fl7_ : (Cond.fieldLink RX6 7 "DimensionLoaderModel" "g" "[I").before args s = true := hts _ (List.mem_of_getElem? (i := 1) rfl)
  have inX6_ : ∀ w ∈ wsX60, w ∈ wsX6_there := in_X6_there_X6
  unfold f_X6_there at hf
  dsimp only at hf
  refine lv_iconst (v := 0) hx hb dX6_there_0 (by decide) ?_
  refine lv_istore_n (lv' := [(1, .int 0), (0, .ref m0)]) hx hb dX6_there_1 rfl hl (by decide) rfl (fun ls hl => ?_)
  refine lv_iconst (v := 0) hx hb dX6_there_2 (by decide) ?_
  refine lv_istore_n (lv' := [(2, .int 0), (1, .int 0), (0, .ref m0)]) hx hb dX6_there_3 rfl hl (by decide) rfl (fun ls hl => ?_)
  have lp4 : ∀ (n : Nat) (l2 : Int32) (l1 : Int32) (mg : Nat → Int32) (mkept : Nat → Int32) (mspare : Nat → Int32) (mhasKept : Int32) (mwas : Nat → Int32) (mwasMany : Int32) (manew : Int32) (mthrown : Int32) (mtext : Nat → Int32) (mlength : Int32) (mspot : Int32) (mvalue : Int32) (merror : Int32) (mtold : Nat → Int32) (mtolds : Int32) (H1 : Heap) (locs : List Loc) (ls : Array Slot), f_X6_there_L4 n l2 l1 (mg, mkept, mspare, mhasKept, mwas, mwasMany, manew, mthrown, mtext, mlength, mspot, mvalue, merror, mtold, mtolds) = some R → va_P (dC, dI) vwCl (wM_ m0 m_g m_kept m_spare m_was m_text m_told cI mg mkept mspare mhasKept mwas mwasMany manew mthrown mtext mlength mspot mvalue merror mtold mtolds) H1 → va_D A (wM_ m0 m_g m_kept m_spare m_was m_text m_told cI mg mkept mspare mhasKept mwas mwasMany manew mthrown mtext mlength mspot mvalue merror mtold mtolds) → va_S A s.heap H1 locs → lv_has ls 3 [(2, .int l2), (1, .int l1), (0, .ref m0)] → W p l e (headSpec wsX6_there rm_X6_there).room s m args below meth c H1 locs 0 0 (MQ below (Qi_ (dC, dI) (ty_ cI cZ cC cJ cD) R (wM_ m0 m_g m_kept m_spare m_was m_text m_told cI mg mkept mspare mhasKept mwas mwasMany manew mthrown mtext mlength mspot mvalue merror mtold mtolds) A) args s 0 0 A) (F0 m 4 ls []) := by
    intro n
    induction n with
    | zero => intro l2 l1 mg mkept mspare mhasKept mwas mwasMany manew mthrown mtext mlength mspot mvalue merror mtold mtolds H1 locs ls hf hP hD hS hl; exact absurd hf (by simp [f_X6_there_L4])
    | succ n ih =>
      intro l2 l1 mg mkept mspare mhasKept mwas mwasMany manew mthrown mtext mlength mspot mvalue merror mtold mtolds H1 locs ls hf hP hD hS hl
      have hf : f_X6_there_S4 (f_X6_there_L4 n) l2 l1 (mg, mkept, mspare, mhasKept, mwas, mwasMany, manew, mthrown, mtext, mlength, mspot, mvalue, merror, mtold, mtolds) = some R := hf
      unfold f_X6_there_S4 at hf
      dsimp only at hf
      refine lv_iload_n hx hb dX6_there_4 rfl (lv_at hl 0 rfl) ?_
      refine lv_aload_n hx hb dX6_there_5 rfl (lv_at hl 2 rfl) ?_
      refine va_get (D := (dC, dI)) (ci := 8) (v := .ref m_g) (C := RX6) (T := TX6) (N := 15) hx hb hts inX6_ hown hK hP 0 rfl rfl 0 (by decide) fl7_ (fun _ h9 => h9) rfl dX6_there_6 ?_
      refine lv_iconst (v := 0) hx hb dX6_there_9 (by decide) ?_
      obtain ⟨h2, hf⟩ := gd_T hf
      refine va_iald hx hb hK hP 1 0 rfl rfl h2 dX6_there_10 ?_
      refine lv_icmp_ge (tgt := 32) hx hb dX6_there_11 (by decide) (fun c3 => ?_) (fun c3 => ?_)
      · have hf := ite_T c3 hf
        refine lv_iload_n hx hb dX6_there_32 rfl (lv_at hl 1 rfl) ?_
        have hR := Option.some.inj hf
        subst hR
        exact W.iret (v := l1) hx hb hr (fun t ht hW => ⟨⟨l1, (), rfl, rfl, by rw [ht]; exact hP, va_K.moved hW.alike hK, hD⟩, hS.F ht⟩) hS.2.2 dX6_there_33
      · have hf := ite_F c3 hf
        refine lv_iload_n hx hb dX6_there_14 rfl (lv_at hl 1 rfl) ?_
        refine lv_aload_n hx hb dX6_there_15 rfl (lv_at hl 2 rfl) ?_
        refine va_get (D := (dC, dI)) (ci := 8) (v := .ref m_g) (C := RX6) (T := TX6) (N := 15) hx hb hts inX6_ hown hK hP 0 rfl rfl 0 (by decide) fl7_ (fun _ h9 => h9) rfl dX6_there_16 ?_
        refine lv_bipush (v := 10) hx hb dX6_there_19 (by decide) ?_
        refine lv_iload_n hx hb dX6_there_21 rfl (lv_at hl 0 rfl) ?_
        refine lv_iadd hx hb dX6_there_22 ?_
        obtain ⟨h4, hf⟩ := gd_T hf
        refine va_iald hx hb hK hP 1 0 rfl rfl h4 dX6_there_23 ?_
        refine lv_iadd hx hb dX6_there_24 ?_
        refine lv_istore_n (lv' := [(1, .int (l1 + (mg ((10 + l2).toNatClampNeg)))), (2, .int l2), (0, .ref m0)]) hx hb dX6_there_25 rfl hl (by decide) rfl (fun ls hl => ?_)
        refine lv_iinc (v := l2 + 1) (lv' := [(2, .int (l2 + 1)), (1, .int (l1 + (mg ((10 + l2).toNatClampNeg)))), (0, .ref m0)]) hx hb dX6_there_26 hl (k := 1) rfl (by first | rfl | decide) (by decide) rfl (fun ls hl => ?_)
        refine lv_goto (tgt := 4) hx hb dX6_there_29 (by decide) ?_
        exact ih (l2 + 1) (l1 + (mg ((10 + l2).toNatClampNeg))) mg mkept mspare mhasKept mwas mwasMany manew mthrown mtext mlength mspot mvalue merror mtold mtolds _ _ _ hf hP hD hS (lv_sub hl [0, 1, 2] rfl)
  exact lp4 fu_ (0 : Int32) (0 : Int32) mg mkept mspare mhasKept mwas mwasMany manew mthrown mtext mlength mspot mvalue merror mtold mtolds _ _ _ hf hP hD hS hl
theorem hs_X6_there : yX6_there.cls = RX6 ∧ yX6_there.cls ≠ "java/lang/invoke/MethodHandle" ∧ yX6_there.cls ≠ "java/lang/invoke/VarHandle" ∧ (parseMethodDescriptor yX6_there.desc).map (fun d => d.parameters.length) = some 0 := by decide +kernel
