set_option maxRecDepth 20000 in
theorem in_X0_isFull_X0 : ∀ w ∈ wsX00, w ∈ wsX0_isFull := by decide +kernel
def f_X0_isFull  (F_ : tF_) : Option (Int32) :=
match F_ with
| (fkeys, fdays, famounts, fversions, fcount) =>
if fcount < 60 then
some (0 : Int32)
else
some (1 : Int32)
abbrev rm_X0_isFull : Room := { frames := 0, cells := 0, slots := 0, locals := 0 }
set_option maxHeartbeats 4000000 in
set_option maxRecDepth 100000 in
theorem c_X0_isFull (l : Launch) (dC : Nat → ClassId) (dI : Nat → Nat → Nat) (cI cZ cC cJ cD : ClassId) (f0 f_keys f_days f_amounts f_versions : Nat) (sz : Nat) (fkeys : Nat → Int32) (fdays : Nat → Int32) (famounts : Nat → Int32) (fversions : Nat → Int32) (fcount : Int32)  (R : Int32) (hf : f_X0_isFull  (fkeys, fdays, famounts, fversions, fcount) = some R) : Met l yX0_isFull wsX0_isFull rm_X0_isFull (Pc_ (dC, dI) (ty_ cI cZ cC cJ cD) (wF_ f0 f_keys f_days f_amounts f_versions cI fkeys fdays famounts fversions fcount) sz [.ref f0]) (Qi_ (dC, dI) (ty_ cI cZ cC cJ cD) R (wF_ f0 f_keys f_days f_amounts f_versions cI fkeys fdays famounts fversions fcount) (va_A (wF_ f0 f_keys f_days f_amounts f_versions cI fkeys fdays famounts fversions fcount) sz)) 0 0 (va_A (wF_ f0 f_keys f_days f_amounts f_versions cI fkeys fdays famounts fversions fcount) sz) := by
  refine met_ (cc := cX0_isFull) (maxL := 1) (ret := (some .boolean)) (Qcf := fun A => Qi_ (dC, dI) (ty_ cI cZ cC cJ cD) R (wF_ f0 f_keys f_days f_amounts f_versions cI fkeys fdays famounts fversions fcount) A) (by decide) rfl (Nat.le_of_ble_eq_true rfl) ?_
  intro p e s m args below meth c A ls hx hb hr hts hown hlocks hml hA hP hK hD hl
  have hown : s.vm.findClass RX0 = some m.cls := hown
  have hl : lv_has ls 1 [(0, .ref f0)] := hl
  have hS : va_S A s.heap s.heap [] := va_S.rf
  have fl24_ : (Cond.fieldLink RX0 24 "DimensionLoader$Facts" "count" "I").before args s = true := hts _ (List.mem_of_getElem? (i := 1) rfl)
  have inX0_ : ∀ w ∈ wsX00, w ∈ wsX0_isFull := in_X0_isFull_X0
  unfold f_X0_isFull at hf
  dsimp only at hf
  refine lv_aload_n hx hb dX0_isFull_0 rfl (lv_at hl 0 rfl) ?_
  refine va_get (D := (dC, dI)) (ci := 2) (v := .int fcount) (C := RX0) (T := TX0) (N := 5) hx hb hts inX0_ hown hK hP 0 rfl rfl 4 (by decide) fl24_ (fun _ h9 => h9) rfl dX0_isFull_1 ?_
  refine lv_bipush (v := 60) hx hb dX0_isFull_4 (by decide) ?_
  refine lv_icmp_lt (tgt := 13) hx hb dX0_isFull_6 (by decide) (fun c1 => ?_) (fun c1 => ?_)
  · have hf := ite_T c1 hf
    refine lv_iconst (v := 0) hx hb dX0_isFull_13 (by decide) ?_
    have hR := Option.some.inj hf
    subst hR
    exact W.zret (v := (0 : Int32)) hx hb hr (by decide) (fun t ht hW => ⟨⟨(0 : Int32), (), rfl, rfl, by rw [ht]; exact hP, va_K.moved hW.alike hK, hD⟩, hS.F ht⟩) hS.2.2 dX0_isFull_14
  · have hf := ite_F c1 hf
    refine lv_iconst (v := 1) hx hb dX0_isFull_9 (by decide) ?_
    refine lv_goto (tgt := 14) hx hb dX0_isFull_10 (by decide) ?_
    have hR := Option.some.inj hf
    subst hR
    exact W.zret (v := (1 : Int32)) hx hb hr (by decide) (fun t ht hW => ⟨⟨(1 : Int32), (), rfl, rfl, by rw [ht]; exact hP, va_K.moved hW.alike hK, hD⟩, hS.F ht⟩) hS.2.2 dX0_isFull_14
theorem hs_X0_isFull : yX0_isFull.cls = RX0 ∧ yX0_isFull.cls ≠ "java/lang/invoke/MethodHandle" ∧ yX0_isFull.cls ≠ "java/lang/invoke/VarHandle" ∧ (parseMethodDescriptor yX0_isFull.desc).map (fun d => d.parameters.length) = some 0 := by decide +kernel
set_option maxRecDepth 20000 in
theorem in_X0_add_X0 : ∀ w ∈ wsX00, w ∈ wsX0_add := by decide +kernel
def f_X0_add (a1 : Int32) (a2 : Int32) (a3 : Int32) (a4 : Int32) (F_ : tF_) : Option (tF_) :=
match F_ with
| (fkeys, fdays, famounts, fversions, fcount) =>
bd_ (f_X0_isFull (fkeys, fdays, famounts, fversions, fcount)) (fun r1 =>
if r1 = 0 then
gd_ fcount 60 (nm_ (upd fkeys fcount.toNatClampNeg a1) (fun u9 =>
gd_ fcount 60 (nm_ (upd fdays fcount.toNatClampNeg a2) (fun u13 =>
gd_ fcount 60 (nm_ (upd famounts fcount.toNatClampNeg a3) (fun u17 =>
gd_ fcount 60 (nm_ (upd fversions fcount.toNatClampNeg a4) (fun u21 =>
some (u9, u13, u17, u21, fcount + 1)))))))))
else
some (fkeys, fdays, famounts, fversions, fcount))
abbrev rm_X0_add : Room := { frames := 1, cells := 0, slots := 0, locals := 20 }
set_option maxHeartbeats 4000000 in
set_option maxRecDepth 100000 in
theorem c_X0_add (l : Launch) (dC : Nat → ClassId) (dI : Nat → Nat → Nat) (cI cZ cC cJ cD : ClassId) (f0 f_keys f_days f_amounts f_versions : Nat) (sz : Nat) (fkeys : Nat → Int32) (fdays : Nat → Int32) (famounts : Nat → Int32) (fversions : Nat → Int32) (fcount : Int32) (a1 : Int32) (a2 : Int32) (a3 : Int32) (a4 : Int32) (R : tF_) (hf : f_X0_add a1 a2 a3 a4 (fkeys, fdays, famounts, fversions, fcount) = some R) : Met l yX0_add wsX0_add rm_X0_add (Pc_ (dC, dI) (ty_ cI cZ cC cJ cD) (wF_ f0 f_keys f_days f_amounts f_versions cI fkeys fdays famounts fversions fcount) sz [.ref f0, .int a1, .int a2, .int a3, .int a4]) (Qv_ (dC, dI) (ty_ cI cZ cC cJ cD) (wF_ f0 f_keys f_days f_amounts f_versions cI R.1 R.2.1 R.2.2.1 R.2.2.2.1 R.2.2.2.2) (va_A (wF_ f0 f_keys f_days f_amounts f_versions cI fkeys fdays famounts fversions fcount) sz)) 0 0 (va_A (wF_ f0 f_keys f_days f_amounts f_versions cI fkeys fdays famounts fversions fcount) sz) := by
  refine met_ (cc := cX0_add) (maxL := 5) (ret := none) (Qcf := fun A => Qv_ (dC, dI) (ty_ cI cZ cC cJ cD) (wF_ f0 f_keys f_days f_amounts f_versions cI R.1 R.2.1 R.2.2.1 R.2.2.2.1 R.2.2.2.2) A) (by decide) rfl (Nat.le_of_ble_eq_true rfl) ?_
  intro p e s m args below meth c A ls hx hb hr hts hown hlocks hml hA hP hK hD hl
  have hown : s.vm.findClass RX0 = some m.cls := hown
  have hl : lv_has ls 5 [(0, .ref f0), (1, .int a1), (2, .int a2), (3, .int a3), (4, .int a4)] := hl
  have hS : va_S A s.heap s.heap [] := va_S.rf
  have fl9_ : (Cond.fieldLink RX0 9 "DimensionLoader$Facts" "keys" "[I").before args s = true := hts _ (List.mem_of_getElem? (i := 1) rfl)
  have fl15_ : (Cond.fieldLink RX0 15 "DimensionLoader$Facts" "days" "[I").before args s = true := hts _ (List.mem_of_getElem? (i := 3) rfl)
  have fl18_ : (Cond.fieldLink RX0 18 "DimensionLoader$Facts" "amounts" "[I").before args s = true := hts _ (List.mem_of_getElem? (i := 4) rfl)
  have fl21_ : (Cond.fieldLink RX0 21 "DimensionLoader$Facts" "versions" "[I").before args s = true := hts _ (List.mem_of_getElem? (i := 5) rfl)
  have fl24_ : (Cond.fieldLink RX0 24 "DimensionLoader$Facts" "count" "I").before args s = true := hts _ (List.mem_of_getElem? (i := 2) rfl)
  have inX0_ : ∀ w ∈ wsX00, w ∈ wsX0_add := in_X0_add_X0
  unfold f_X0_add at hf
  dsimp only at hf
  refine lv_aload_n hx hb dX0_add_0 rfl (lv_at hl 0 rfl) ?_
  obtain ⟨R2, g3, hf⟩ := bd_B hf
  obtain ⟨r1, rfl⟩ : ∃ z, z = R2 := ⟨_, rfl⟩
  have hPc := hP
  have hDc := hD
  have hFc := va_free (wc := wF_ f0 f_keys f_days f_amounts f_versions cI fkeys fdays famounts fversions fcount) hD hS hA [0, 1, 2, 3, 4] rfl
  refine va_calli (va_runV (As := []) (rest := []) ⟨hx, hb, hml, hown, hts⟩ (c_X0_isFull l dC dI cI cZ cC cJ cD f0 f_keys f_days f_amounts f_versions s.heap.size fkeys fdays famounts fversions fcount r1 g3) (cwV 0 hts gX0_add_X0_isFull rfl rfl rfl hs_X0_isFull ⟨Nat.le_of_ble_eq_true rfl, Nat.le_of_ble_eq_true rfl⟩) (preV_ (ci := 2) (q0 := 0) hPc hK hDc rfl rfl rfl rfl) rfl rfl hl.1 rfl (lv_room (Nat.le_of_ble_eq_true rfl)) dX0_add_1 ⟨Nat.le_of_ble_eq_true rfl, Nat.le_of_ble_eq_true rfl⟩) hS (fun q _ h => hFc q h) hFc (fun z5 u t H4 locs ht hvm hw hB hz1 hk1 hS => ?_)
  have hw : r1 = z5 := hw.symm
  subst hw
  obtain ⟨hP, hD⟩ := aft_ (Wr := []) (Wc' := wF_ f0 f_keys f_days f_amounts f_versions cI fkeys fdays famounts fversions fcount) (W2 := wF_ f0 f_keys f_days f_amounts f_versions cI fkeys fdays famounts fversions fcount) hP hD [0, 1, 2, 3, 4] [] [0, 1, 2, 3, 4] rfl rfl (by decide) (by decide) (by decide) hk1 hFc hB ht rfl
  refine lv_if_eq (tgt := 8) hx hb dX0_add_4 (by decide) (fun c6 => ?_) (fun c6 => ?_)
  · have hf := ite_T c6 hf
    refine lv_aload_n hx hb dX0_add_8 rfl (lv_at hl 0 rfl) ?_
    refine va_get (D := (dC, dI)) (ci := 2) (v := .ref f_keys) (C := RX0) (T := TX0) (N := 5) hx hb hts inX0_ hown hK hP 0 rfl rfl 0 (by decide) fl9_ (fun _ h9 => h9) rfl dX0_add_9 ?_
    refine lv_aload_n hx hb dX0_add_12 rfl (lv_at hl 0 rfl) ?_
    refine va_get (D := (dC, dI)) (ci := 2) (v := .int fcount) (C := RX0) (T := TX0) (N := 5) hx hb hts inX0_ hown hK hP 0 rfl rfl 4 (by decide) fl24_ (fun _ h9 => h9) rfl dX0_add_13 ?_
    refine lv_iload_n hx hb dX0_add_16 rfl (lv_at hl 1 rfl) ?_
    obtain ⟨h7, hf⟩ := gd_T hf
    refine va_iast hx hb hK hP hD hS 1 0 rfl rfl h7 dX0_add_17 (fun H8 locs hP hD hS => ?_)
    have hP : va_P (dC, dI) vwCl (wF_ f0 f_keys f_days f_amounts f_versions cI (upd fkeys fcount.toNatClampNeg a1) fdays famounts fversions fcount) H8 := hP
    have hD : va_D A (wF_ f0 f_keys f_days f_amounts f_versions cI (upd fkeys fcount.toNatClampNeg a1) fdays famounts fversions fcount) := hD
    obtain ⟨u9, e10, hf⟩ := nm_T hf
    rw [← e10] at hP hD
    refine lv_aload_n hx hb dX0_add_18 rfl (lv_at hl 0 rfl) ?_
    refine va_get (D := (dC, dI)) (ci := 2) (v := .ref f_days) (C := RX0) (T := TX0) (N := 5) hx hb hts inX0_ hown hK hP 0 rfl rfl 1 (by decide) fl15_ (fun _ h9 => h9) rfl dX0_add_19 ?_
    refine lv_aload_n hx hb dX0_add_22 rfl (lv_at hl 0 rfl) ?_
    refine va_get (D := (dC, dI)) (ci := 2) (v := .int fcount) (C := RX0) (T := TX0) (N := 5) hx hb hts inX0_ hown hK hP 0 rfl rfl 4 (by decide) fl24_ (fun _ h9 => h9) rfl dX0_add_23 ?_
    refine lv_iload_n hx hb dX0_add_26 rfl (lv_at hl 2 rfl) ?_
    obtain ⟨h11, hf⟩ := gd_T hf
    refine va_iast hx hb hK hP hD hS 2 0 rfl rfl h11 dX0_add_27 (fun H12 locs hP hD hS => ?_)
    have hP : va_P (dC, dI) vwCl (wF_ f0 f_keys f_days f_amounts f_versions cI u9 (upd fdays fcount.toNatClampNeg a2) famounts fversions fcount) H12 := hP
    have hD : va_D A (wF_ f0 f_keys f_days f_amounts f_versions cI u9 (upd fdays fcount.toNatClampNeg a2) famounts fversions fcount) := hD
    obtain ⟨u13, e14, hf⟩ := nm_T hf
    rw [← e14] at hP hD
    refine lv_aload_n hx hb dX0_add_28 rfl (lv_at hl 0 rfl) ?_
    refine va_get (D := (dC, dI)) (ci := 2) (v := .ref f_amounts) (C := RX0) (T := TX0) (N := 5) hx hb hts inX0_ hown hK hP 0 rfl rfl 2 (by decide) fl18_ (fun _ h9 => h9) rfl dX0_add_29 ?_
    refine lv_aload_n hx hb dX0_add_32 rfl (lv_at hl 0 rfl) ?_
    refine va_get (D := (dC, dI)) (ci := 2) (v := .int fcount) (C := RX0) (T := TX0) (N := 5) hx hb hts inX0_ hown hK hP 0 rfl rfl 4 (by decide) fl24_ (fun _ h9 => h9) rfl dX0_add_33 ?_
    refine lv_iload_n hx hb dX0_add_36 rfl (lv_at hl 3 rfl) ?_
    obtain ⟨h15, hf⟩ := gd_T hf
    refine va_iast hx hb hK hP hD hS 3 0 rfl rfl h15 dX0_add_37 (fun H16 locs hP hD hS => ?_)
    have hP : va_P (dC, dI) vwCl (wF_ f0 f_keys f_days f_amounts f_versions cI u9 u13 (upd famounts fcount.toNatClampNeg a3) fversions fcount) H16 := hP
    have hD : va_D A (wF_ f0 f_keys f_days f_amounts f_versions cI u9 u13 (upd famounts fcount.toNatClampNeg a3) fversions fcount) := hD
    obtain ⟨u17, e18, hf⟩ := nm_T hf
    rw [← e18] at hP hD
    refine lv_aload_n hx hb dX0_add_38 rfl (lv_at hl 0 rfl) ?_
    refine va_get (D := (dC, dI)) (ci := 2) (v := .ref f_versions) (C := RX0) (T := TX0) (N := 5) hx hb hts inX0_ hown hK hP 0 rfl rfl 3 (by decide) fl21_ (fun _ h9 => h9) rfl dX0_add_39 ?_
    refine lv_aload_n hx hb dX0_add_42 rfl (lv_at hl 0 rfl) ?_
    refine va_get (D := (dC, dI)) (ci := 2) (v := .int fcount) (C := RX0) (T := TX0) (N := 5) hx hb hts inX0_ hown hK hP 0 rfl rfl 4 (by decide) fl24_ (fun _ h9 => h9) rfl dX0_add_43 ?_
    refine lv_iload hx hb dX0_add_46 (lv_at hl 4 rfl) ?_
    obtain ⟨h19, hf⟩ := gd_T hf
    refine va_iast hx hb hK hP hD hS 4 0 rfl rfl h19 dX0_add_48 (fun H20 locs hP hD hS => ?_)
    have hP : va_P (dC, dI) vwCl (wF_ f0 f_keys f_days f_amounts f_versions cI u9 u13 u17 (upd fversions fcount.toNatClampNeg a4) fcount) H20 := hP
    have hD : va_D A (wF_ f0 f_keys f_days f_amounts f_versions cI u9 u13 u17 (upd fversions fcount.toNatClampNeg a4) fcount) := hD
    obtain ⟨u21, e22, hf⟩ := nm_T hf
    rw [← e22] at hP hD
    refine lv_aload_n hx hb dX0_add_49 rfl (lv_at hl 0 rfl) ?_
    refine lv_dup hx hb dX0_add_50 rfl ?_
    refine va_get (D := (dC, dI)) (ci := 2) (v := .int fcount) (C := RX0) (T := TX0) (N := 5) hx hb hts inX0_ hown hK hP 0 rfl rfl 4 (by decide) fl24_ (fun _ h9 => h9) rfl dX0_add_51 ?_
    refine lv_iconst (v := 1) hx hb dX0_add_54 (by decide) ?_
    refine lv_iadd hx hb dX0_add_55 ?_
    refine va_put (D := (dC, dI)) (ci := 2) (v := .int (fcount + 1)) (ty := .int) (C := RX0) (T := TX0) (N := 5) hx hb hts inX0_ tyX0 tyX0_ok nmX0 hown hK hP hD hS 0 rfl rfl 4 (by decide) fl24_ (fun _ h9 => h9) rfl (by decide +kernel) (by first | rfl | decide) (by first | rfl | decide) (Nat.le_of_ble_eq_true rfl) dX0_add_56 (fun H23 locs hP hD hS => ?_)
    have hP : va_P (dC, dI) vwCl (wF_ f0 f_keys f_days f_amounts f_versions cI u9 u13 u17 u21 (fcount + 1)) H23 := hP
    have hD : va_D A (wF_ f0 f_keys f_days f_amounts f_versions cI u9 u13 u17 u21 (fcount + 1)) := hD
    have hR := Option.some.inj hf
    subst hR
    exact W.vret hx hb hr (fun t ht hW => ⟨⟨(), rfl, trivial, by rw [ht]; exact hP, va_K.moved hW.alike hK, hD⟩, hS.F ht⟩) hS.2.2 dX0_add_59
  · have hf := ite_F c6 hf
    have hR := Option.some.inj hf
    subst hR
    exact W.vret hx hb hr (fun t ht hW => ⟨⟨(), rfl, trivial, by rw [ht]; exact hP, va_K.moved hW.alike hK, hD⟩, hS.F ht⟩) hS.2.2 dX0_add_7
theorem hs_X0_add : yX0_add.cls = RX0 ∧ yX0_add.cls ≠ "java/lang/invoke/MethodHandle" ∧ yX0_add.cls ≠ "java/lang/invoke/VarHandle" ∧ (parseMethodDescriptor yX0_add.desc).map (fun d => d.parameters.length) = some 4 := by decide +kernel
set_option maxRecDepth 20000 in
theorem in_X0_pointFrom_X0 : ∀ w ∈ wsX00, w ∈ wsX0_pointFrom := by decide +kernel
def f_X0_pointFrom_S2 (k_ : Int32 → Int32 → Int32 → tF_ → Option (Int32)) (l3 : Int32) (l1 : Int32) (l2 : Int32) (F_ : tF_) : Option (Int32) :=
match F_ with
| (fkeys, fdays, famounts, fversions, fcount) =>
if fcount ≤ l3 then
some (0 : Int32)
else
gd_ l3 60 (
if (fversions l3.toNatClampNeg) = l2 then
gd_ l3 60 (
if (fdays l3.toNatClampNeg) < l1 then
k_ (l3 + 1) l1 l2 (fkeys, fdays, famounts, fversions, fcount)
else
some (1 : Int32))
else
k_ (l3 + 1) l1 l2 (fkeys, fdays, famounts, fversions, fcount))
def f_X0_pointFrom_L2 : Nat → Int32 → Int32 → Int32 → tF_ → Option (Int32)
  | 0 => fun _ _ _ _ => none
  | n + 1 => fun l3 l1 l2 F_ => f_X0_pointFrom_S2 (f_X0_pointFrom_L2 n) l3 l1 l2 F_
def f_X0_pointFrom (a1 : Int32) (a2 : Int32) (F_ : tF_) : Option (Int32) :=
match F_ with
| (fkeys, fdays, famounts, fversions, fcount) =>
f_X0_pointFrom_L2 fu_ (0 : Int32) a1 a2 (fkeys, fdays, famounts, fversions, fcount)
abbrev rm_X0_pointFrom : Room := { frames := 0, cells := 0, slots := 0, locals := 0 }
set_option maxHeartbeats 4000000 in
set_option maxRecDepth 100000 in
theorem c_X0_pointFrom (l : Launch) (dC : Nat → ClassId) (dI : Nat → Nat → Nat) (cI cZ cC cJ cD : ClassId) (f0 f_keys f_days f_amounts f_versions : Nat) (sz : Nat) (fkeys : Nat → Int32) (fdays : Nat → Int32) (famounts : Nat → Int32) (fversions : Nat → Int32) (fcount : Int32) (a1 : Int32) (a2 : Int32) (R : Int32) (hf : f_X0_pointFrom a1 a2 (fkeys, fdays, famounts, fversions, fcount) = some R) : Met l yX0_pointFrom wsX0_pointFrom rm_X0_pointFrom (Pc_ (dC, dI) (ty_ cI cZ cC cJ cD) (wF_ f0 f_keys f_days f_amounts f_versions cI fkeys fdays famounts fversions fcount) sz [.ref f0, .int a1, .int a2]) (Qi_ (dC, dI) (ty_ cI cZ cC cJ cD) R (wF_ f0 f_keys f_days f_amounts f_versions cI fkeys fdays famounts fversions fcount) (va_A (wF_ f0 f_keys f_days f_amounts f_versions cI fkeys fdays famounts fversions fcount) sz)) 0 0 (va_A (wF_ f0 f_keys f_days f_amounts f_versions cI fkeys fdays famounts fversions fcount) sz) := by
  refine met_ (cc := cX0_pointFrom) (maxL := 4) (ret := (some .boolean)) (Qcf := fun A => Qi_ (dC, dI) (ty_ cI cZ cC cJ cD) R (wF_ f0 f_keys f_days f_amounts f_versions cI fkeys fdays famounts fversions fcount) A) (by decide) rfl (Nat.le_of_ble_eq_true rfl) ?_
  intro p e s m args below meth c A ls hx hb hr hts hown hlocks hml hA hP hK hD hl
  have hown : s.vm.findClass RX0 = some m.cls := hown
  have hl : lv_has ls 4 [(0, .ref f0), (1, .int a1), (2, .int a2)] := hl
  have hS : va_S A s.heap s.heap [] := va_S.rf
  have fl15_ : (Cond.fieldLink RX0 15 "DimensionLoader$Facts" "days" "[I").before args s = true := hts _ (List.mem_of_getElem? (i := 3) rfl)
  have fl21_ : (Cond.fieldLink RX0 21 "DimensionLoader$Facts" "versions" "[I").before args s = true := hts _ (List.mem_of_getElem? (i := 2) rfl)
  have fl24_ : (Cond.fieldLink RX0 24 "DimensionLoader$Facts" "count" "I").before args s = true := hts _ (List.mem_of_getElem? (i := 1) rfl)
  have inX0_ : ∀ w ∈ wsX00, w ∈ wsX0_pointFrom := in_X0_pointFrom_X0
  unfold f_X0_pointFrom at hf
  dsimp only at hf
  refine lv_iconst (v := 0) hx hb dX0_pointFrom_0 (by decide) ?_
  refine lv_istore_n (lv' := [(3, .int 0), (0, .ref f0), (1, .int a1), (2, .int a2)]) hx hb dX0_pointFrom_1 rfl hl (by decide) rfl (fun ls hl => ?_)
  have lp2 : ∀ (n : Nat) (l3 : Int32) (l1 : Int32) (l2 : Int32) (fkeys : Nat → Int32) (fdays : Nat → Int32) (famounts : Nat → Int32) (fversions : Nat → Int32) (fcount : Int32) (H1 : Heap) (locs : List Loc) (ls : Array Slot), f_X0_pointFrom_L2 n l3 l1 l2 (fkeys, fdays, famounts, fversions, fcount) = some R → va_P (dC, dI) vwCl (wF_ f0 f_keys f_days f_amounts f_versions cI fkeys fdays famounts fversions fcount) H1 → va_D A (wF_ f0 f_keys f_days f_amounts f_versions cI fkeys fdays famounts fversions fcount) → va_S A s.heap H1 locs → lv_has ls 4 [(3, .int l3), (0, .ref f0), (1, .int l1), (2, .int l2)] → W p l e (headSpec wsX0_pointFrom rm_X0_pointFrom).room s m args below meth c H1 locs 0 0 (MQ below (Qi_ (dC, dI) (ty_ cI cZ cC cJ cD) R (wF_ f0 f_keys f_days f_amounts f_versions cI fkeys fdays famounts fversions fcount) A) args s 0 0 A) (F0 m 2 ls []) := by
    intro n
    induction n with
    | zero => intro l3 l1 l2 fkeys fdays famounts fversions fcount H1 locs ls hf hP hD hS hl; exact absurd hf (by simp [f_X0_pointFrom_L2])
    | succ n ih =>
      intro l3 l1 l2 fkeys fdays famounts fversions fcount H1 locs ls hf hP hD hS hl
      have hf : f_X0_pointFrom_S2 (f_X0_pointFrom_L2 n) l3 l1 l2 (fkeys, fdays, famounts, fversions, fcount) = some R := hf
      unfold f_X0_pointFrom_S2 at hf
      dsimp only at hf
      refine lv_iload_n hx hb dX0_pointFrom_2 rfl (lv_at hl 0 rfl) ?_
      refine lv_aload_n hx hb dX0_pointFrom_3 rfl (lv_at hl 1 rfl) ?_
      refine va_get (D := (dC, dI)) (ci := 2) (v := .int fcount) (C := RX0) (T := TX0) (N := 5) hx hb hts inX0_ hown hK hP 0 rfl rfl 4 (by decide) fl24_ (fun _ h9 => h9) rfl dX0_pointFrom_4 ?_
      refine lv_icmp_ge (tgt := 38) hx hb dX0_pointFrom_7 (by decide) (fun c2 => ?_) (fun c2 => ?_)
      · have hf := ite_T c2 hf
        refine lv_iconst (v := 0) hx hb dX0_pointFrom_38 (by decide) ?_
        have hR := Option.some.inj hf
        subst hR
        exact W.zret (v := (0 : Int32)) hx hb hr (by decide) (fun t ht hW => ⟨⟨(0 : Int32), (), rfl, rfl, by rw [ht]; exact hP, va_K.moved hW.alike hK, hD⟩, hS.F ht⟩) hS.2.2 dX0_pointFrom_39
      · have hf := ite_F c2 hf
        refine lv_aload_n hx hb dX0_pointFrom_10 rfl (lv_at hl 1 rfl) ?_
        refine va_get (D := (dC, dI)) (ci := 2) (v := .ref f_versions) (C := RX0) (T := TX0) (N := 5) hx hb hts inX0_ hown hK hP 0 rfl rfl 3 (by decide) fl21_ (fun _ h9 => h9) rfl dX0_pointFrom_11 ?_
        refine lv_iload_n hx hb dX0_pointFrom_14 rfl (lv_at hl 0 rfl) ?_
        obtain ⟨h3, hf⟩ := gd_T hf
        refine va_iald hx hb hK hP 4 0 rfl rfl h3 dX0_pointFrom_15 ?_
        refine lv_iload_n hx hb dX0_pointFrom_16 rfl (lv_at hl 3 rfl) ?_
        refine lv_icmp_ne (tgt := 32) hx hb dX0_pointFrom_17 (by decide) (fun c4 => ?_) (fun c4 => ?_)
        · have hf := ite_F c4 hf
          refine lv_iinc (v := l3 + 1) (lv' := [(3, .int (l3 + 1)), (0, .ref f0), (1, .int l1), (2, .int l2)]) hx hb dX0_pointFrom_32 hl (k := 0) rfl (by first | rfl | decide) (by decide) rfl (fun ls hl => ?_)
          refine lv_goto (tgt := 2) hx hb dX0_pointFrom_35 (by decide) ?_
          exact ih (l3 + 1) l1 l2 fkeys fdays famounts fversions fcount _ _ _ hf hP hD hS (lv_sub hl [0, 1, 2, 3] rfl)
        · have hf := ite_T c4 hf
          refine lv_aload_n hx hb dX0_pointFrom_20 rfl (lv_at hl 1 rfl) ?_
          refine va_get (D := (dC, dI)) (ci := 2) (v := .ref f_days) (C := RX0) (T := TX0) (N := 5) hx hb hts inX0_ hown hK hP 0 rfl rfl 1 (by decide) fl15_ (fun _ h9 => h9) rfl dX0_pointFrom_21 ?_
          refine lv_iload_n hx hb dX0_pointFrom_24 rfl (lv_at hl 0 rfl) ?_
          obtain ⟨h5, hf⟩ := gd_T hf
          refine va_iald hx hb hK hP 2 0 rfl rfl h5 dX0_pointFrom_25 ?_
          refine lv_iload_n hx hb dX0_pointFrom_26 rfl (lv_at hl 2 rfl) ?_
          refine lv_icmp_lt (tgt := 32) hx hb dX0_pointFrom_27 (by decide) (fun c6 => ?_) (fun c6 => ?_)
          · have hf := ite_T c6 hf
            refine lv_iinc (v := l3 + 1) (lv' := [(3, .int (l3 + 1)), (0, .ref f0), (1, .int l1), (2, .int l2)]) hx hb dX0_pointFrom_32 hl (k := 0) rfl (by first | rfl | decide) (by decide) rfl (fun ls hl => ?_)
            refine lv_goto (tgt := 2) hx hb dX0_pointFrom_35 (by decide) ?_
            exact ih (l3 + 1) l1 l2 fkeys fdays famounts fversions fcount _ _ _ hf hP hD hS (lv_sub hl [0, 1, 2, 3] rfl)
          · have hf := ite_F c6 hf
            refine lv_iconst (v := 1) hx hb dX0_pointFrom_30 (by decide) ?_
            have hR := Option.some.inj hf
            subst hR
            exact W.zret (v := (1 : Int32)) hx hb hr (by decide) (fun t ht hW => ⟨⟨(1 : Int32), (), rfl, rfl, by rw [ht]; exact hP, va_K.moved hW.alike hK, hD⟩, hS.F ht⟩) hS.2.2 dX0_pointFrom_31
  exact lp2 fu_ (0 : Int32) a1 a2 fkeys fdays famounts fversions fcount _ _ _ hf hP hD hS hl
theorem hs_X0_pointFrom : yX0_pointFrom.cls = RX0 ∧ yX0_pointFrom.cls ≠ "java/lang/invoke/MethodHandle" ∧ yX0_pointFrom.cls ≠ "java/lang/invoke/VarHandle" ∧ (parseMethodDescriptor yX0_pointFrom.desc).map (fun d => d.parameters.length) = some 2 := by decide +kernel
set_option maxRecDepth 20000 in
theorem in_X0_countOf_X0 : ∀ w ∈ wsX00, w ∈ wsX0_countOf := by decide +kernel
def f_X0_countOf_S4 (k_ : Int32 → Int32 → Int32 → tF_ → Option (Int32)) (l3 : Int32) (l2 : Int32) (l1 : Int32) (F_ : tF_) : Option (Int32) :=
match F_ with
| (fkeys, fdays, famounts, fversions, fcount) =>
if fcount ≤ l3 then
some l2
else
gd_ l3 60 (
if (fversions l3.toNatClampNeg) = l1 then
k_ (l3 + 1) (l2 + 1) l1 (fkeys, fdays, famounts, fversions, fcount)
else
k_ (l3 + 1) l2 l1 (fkeys, fdays, famounts, fversions, fcount))
def f_X0_countOf_L4 : Nat → Int32 → Int32 → Int32 → tF_ → Option (Int32)
  | 0 => fun _ _ _ _ => none
  | n + 1 => fun l3 l2 l1 F_ => f_X0_countOf_S4 (f_X0_countOf_L4 n) l3 l2 l1 F_
def f_X0_countOf (a1 : Int32) (F_ : tF_) : Option (Int32) :=
match F_ with
| (fkeys, fdays, famounts, fversions, fcount) =>
f_X0_countOf_L4 fu_ (0 : Int32) (0 : Int32) a1 (fkeys, fdays, famounts, fversions, fcount)
abbrev rm_X0_countOf : Room := { frames := 0, cells := 0, slots := 0, locals := 0 }
set_option maxHeartbeats 4000000 in
set_option maxRecDepth 100000 in
theorem c_X0_countOf (l : Launch) (dC : Nat → ClassId) (dI : Nat → Nat → Nat) (cI cZ cC cJ cD : ClassId) (f0 f_keys f_days f_amounts f_versions : Nat) (sz : Nat) (fkeys : Nat → Int32) (fdays : Nat → Int32) (famounts : Nat → Int32) (fversions : Nat → Int32) (fcount : Int32) (a1 : Int32) (R : Int32) (hf : f_X0_countOf a1 (fkeys, fdays, famounts, fversions, fcount) = some R) : Met l yX0_countOf wsX0_countOf rm_X0_countOf (Pc_ (dC, dI) (ty_ cI cZ cC cJ cD) (wF_ f0 f_keys f_days f_amounts f_versions cI fkeys fdays famounts fversions fcount) sz [.ref f0, .int a1]) (Qi_ (dC, dI) (ty_ cI cZ cC cJ cD) R (wF_ f0 f_keys f_days f_amounts f_versions cI fkeys fdays famounts fversions fcount) (va_A (wF_ f0 f_keys f_days f_amounts f_versions cI fkeys fdays famounts fversions fcount) sz)) 0 0 (va_A (wF_ f0 f_keys f_days f_amounts f_versions cI fkeys fdays famounts fversions fcount) sz) := by
  refine met_ (cc := cX0_countOf) (maxL := 4) (ret := (some .int)) (Qcf := fun A => Qi_ (dC, dI) (ty_ cI cZ cC cJ cD) R (wF_ f0 f_keys f_days f_amounts f_versions cI fkeys fdays famounts fversions fcount) A) (by decide) rfl (Nat.le_of_ble_eq_true rfl) ?_
  intro p e s m args below meth c A ls hx hb hr hts hown hlocks hml hA hP hK hD hl
  have hown : s.vm.findClass RX0 = some m.cls := hown
  have hl : lv_has ls 4 [(0, .ref f0), (1, .int a1)] := hl
  have hS : va_S A s.heap s.heap [] := va_S.rf
  have fl21_ : (Cond.fieldLink RX0 21 "DimensionLoader$Facts" "versions" "[I").before args s = true := hts _ (List.mem_of_getElem? (i := 2) rfl)
  have fl24_ : (Cond.fieldLink RX0 24 "DimensionLoader$Facts" "count" "I").before args s = true := hts _ (List.mem_of_getElem? (i := 1) rfl)
  have inX0_ : ∀ w ∈ wsX00, w ∈ wsX0_countOf := in_X0_countOf_X0
  unfold f_X0_countOf at hf
  dsimp only at hf
  refine lv_iconst (v := 0) hx hb dX0_countOf_0 (by decide) ?_
  refine lv_istore_n (lv' := [(2, .int 0), (0, .ref f0), (1, .int a1)]) hx hb dX0_countOf_1 rfl hl (by decide) rfl (fun ls hl => ?_)
  refine lv_iconst (v := 0) hx hb dX0_countOf_2 (by decide) ?_
  refine lv_istore_n (lv' := [(3, .int 0), (2, .int 0), (0, .ref f0), (1, .int a1)]) hx hb dX0_countOf_3 rfl hl (by decide) rfl (fun ls hl => ?_)
  have lp4 : ∀ (n : Nat) (l3 : Int32) (l2 : Int32) (l1 : Int32) (fkeys : Nat → Int32) (fdays : Nat → Int32) (famounts : Nat → Int32) (fversions : Nat → Int32) (fcount : Int32) (H1 : Heap) (locs : List Loc) (ls : Array Slot), f_X0_countOf_L4 n l3 l2 l1 (fkeys, fdays, famounts, fversions, fcount) = some R → va_P (dC, dI) vwCl (wF_ f0 f_keys f_days f_amounts f_versions cI fkeys fdays famounts fversions fcount) H1 → va_D A (wF_ f0 f_keys f_days f_amounts f_versions cI fkeys fdays famounts fversions fcount) → va_S A s.heap H1 locs → lv_has ls 4 [(3, .int l3), (2, .int l2), (0, .ref f0), (1, .int l1)] → W p l e (headSpec wsX0_countOf rm_X0_countOf).room s m args below meth c H1 locs 0 0 (MQ below (Qi_ (dC, dI) (ty_ cI cZ cC cJ cD) R (wF_ f0 f_keys f_days f_amounts f_versions cI fkeys fdays famounts fversions fcount) A) args s 0 0 A) (F0 m 4 ls []) := by
    intro n
    induction n with
    | zero => intro l3 l2 l1 fkeys fdays famounts fversions fcount H1 locs ls hf hP hD hS hl; exact absurd hf (by simp [f_X0_countOf_L4])
    | succ n ih =>
      intro l3 l2 l1 fkeys fdays famounts fversions fcount H1 locs ls hf hP hD hS hl
      have hf : f_X0_countOf_S4 (f_X0_countOf_L4 n) l3 l2 l1 (fkeys, fdays, famounts, fversions, fcount) = some R := hf
      unfold f_X0_countOf_S4 at hf
      dsimp only at hf
      refine lv_iload_n hx hb dX0_countOf_4 rfl (lv_at hl 0 rfl) ?_
      refine lv_aload_n hx hb dX0_countOf_5 rfl (lv_at hl 2 rfl) ?_
      refine va_get (D := (dC, dI)) (ci := 2) (v := .int fcount) (C := RX0) (T := TX0) (N := 5) hx hb hts inX0_ hown hK hP 0 rfl rfl 4 (by decide) fl24_ (fun _ h9 => h9) rfl dX0_countOf_6 ?_
      refine lv_icmp_ge (tgt := 31) hx hb dX0_countOf_9 (by decide) (fun c2 => ?_) (fun c2 => ?_)
      · have hf := ite_T c2 hf
        refine lv_iload_n hx hb dX0_countOf_31 rfl (lv_at hl 1 rfl) ?_
        have hR := Option.some.inj hf
        subst hR
        exact W.iret (v := l2) hx hb hr (fun t ht hW => ⟨⟨l2, (), rfl, rfl, by rw [ht]; exact hP, va_K.moved hW.alike hK, hD⟩, hS.F ht⟩) hS.2.2 dX0_countOf_32
      · have hf := ite_F c2 hf
        refine lv_aload_n hx hb dX0_countOf_12 rfl (lv_at hl 2 rfl) ?_
        refine va_get (D := (dC, dI)) (ci := 2) (v := .ref f_versions) (C := RX0) (T := TX0) (N := 5) hx hb hts inX0_ hown hK hP 0 rfl rfl 3 (by decide) fl21_ (fun _ h9 => h9) rfl dX0_countOf_13 ?_
        refine lv_iload_n hx hb dX0_countOf_16 rfl (lv_at hl 0 rfl) ?_
        obtain ⟨h3, hf⟩ := gd_T hf
        refine va_iald hx hb hK hP 4 0 rfl rfl h3 dX0_countOf_17 ?_
        refine lv_iload_n hx hb dX0_countOf_18 rfl (lv_at hl 3 rfl) ?_
        refine lv_icmp_ne (tgt := 25) hx hb dX0_countOf_19 (by decide) (fun c4 => ?_) (fun c4 => ?_)
        · have hf := ite_F c4 hf
          refine lv_iinc (v := l3 + 1) (lv' := [(3, .int (l3 + 1)), (2, .int l2), (0, .ref f0), (1, .int l1)]) hx hb dX0_countOf_25 hl (k := 0) rfl (by first | rfl | decide) (by decide) rfl (fun ls hl => ?_)
          refine lv_goto (tgt := 4) hx hb dX0_countOf_28 (by decide) ?_
          exact ih (l3 + 1) l2 l1 fkeys fdays famounts fversions fcount _ _ _ hf hP hD hS (lv_sub hl [0, 1, 2, 3] rfl)
        · have hf := ite_T c4 hf
          refine lv_iinc (v := l2 + 1) (lv' := [(2, .int (l2 + 1)), (3, .int l3), (0, .ref f0), (1, .int l1)]) hx hb dX0_countOf_22 hl (k := 1) rfl (by first | rfl | decide) (by decide) rfl (fun ls hl => ?_)
          refine lv_iinc (v := l3 + 1) (lv' := [(3, .int (l3 + 1)), (2, .int (l2 + 1)), (0, .ref f0), (1, .int l1)]) hx hb dX0_countOf_25 hl (k := 1) rfl (by first | rfl | decide) (by decide) rfl (fun ls hl => ?_)
          refine lv_goto (tgt := 4) hx hb dX0_countOf_28 (by decide) ?_
          exact ih (l3 + 1) (l2 + 1) l1 fkeys fdays famounts fversions fcount _ _ _ hf hP hD hS (lv_sub hl [0, 1, 2, 3] rfl)
  exact lp4 fu_ (0 : Int32) (0 : Int32) a1 fkeys fdays famounts fversions fcount _ _ _ hf hP hD hS hl
theorem hs_X0_countOf : yX0_countOf.cls = RX0 ∧ yX0_countOf.cls ≠ "java/lang/invoke/MethodHandle" ∧ yX0_countOf.cls ≠ "java/lang/invoke/VarHandle" ∧ (parseMethodDescriptor yX0_countOf.desc).map (fun d => d.parameters.length) = some 1 := by decide +kernel
set_option maxRecDepth 20000 in
theorem in_X0_sumOf_X0 : ∀ w ∈ wsX00, w ∈ wsX0_sumOf := by decide +kernel
def f_X0_sumOf_S5 (k_ : Int32 → Int64 → Int32 → tF_ → Option (Int64)) (l4 : Int32) (l2 : Int64) (l1 : Int32) (F_ : tF_) : Option (Int64) :=
match F_ with
| (fkeys, fdays, famounts, fversions, fcount) =>
if fcount ≤ l4 then
some l2
else
gd_ l4 60 (
if (fversions l4.toNatClampNeg) = l1 then
gd_ l4 60 (
k_ (l4 + 1) (l2 + ((famounts l4.toNatClampNeg).toInt64)) l1 (fkeys, fdays, famounts, fversions, fcount))
else
k_ (l4 + 1) l2 l1 (fkeys, fdays, famounts, fversions, fcount))
def f_X0_sumOf_L5 : Nat → Int32 → Int64 → Int32 → tF_ → Option (Int64)
  | 0 => fun _ _ _ _ => none
  | n + 1 => fun l4 l2 l1 F_ => f_X0_sumOf_S5 (f_X0_sumOf_L5 n) l4 l2 l1 F_
def f_X0_sumOf (a1 : Int32) (F_ : tF_) : Option (Int64) :=
match F_ with
| (fkeys, fdays, famounts, fversions, fcount) =>
f_X0_sumOf_L5 fu_ (0 : Int32) (0 : Int64) a1 (fkeys, fdays, famounts, fversions, fcount)
abbrev rm_X0_sumOf : Room := { frames := 0, cells := 0, slots := 0, locals := 0 }
set_option maxHeartbeats 4000000 in
set_option maxRecDepth 100000 in
theorem c_X0_sumOf (l : Launch) (dC : Nat → ClassId) (dI : Nat → Nat → Nat) (cI cZ cC cJ cD : ClassId) (f0 f_keys f_days f_amounts f_versions : Nat) (sz : Nat) (fkeys : Nat → Int32) (fdays : Nat → Int32) (famounts : Nat → Int32) (fversions : Nat → Int32) (fcount : Int32) (a1 : Int32) (R : Int64) (hf : f_X0_sumOf a1 (fkeys, fdays, famounts, fversions, fcount) = some R) : Met l yX0_sumOf wsX0_sumOf rm_X0_sumOf (Pc_ (dC, dI) (ty_ cI cZ cC cJ cD) (wF_ f0 f_keys f_days f_amounts f_versions cI fkeys fdays famounts fversions fcount) sz [.ref f0, .int a1]) (Ql_ (dC, dI) (ty_ cI cZ cC cJ cD) R (wF_ f0 f_keys f_days f_amounts f_versions cI fkeys fdays famounts fversions fcount) (va_A (wF_ f0 f_keys f_days f_amounts f_versions cI fkeys fdays famounts fversions fcount) sz)) 0 0 (va_A (wF_ f0 f_keys f_days f_amounts f_versions cI fkeys fdays famounts fversions fcount) sz) := by
  refine met_ (cc := cX0_sumOf) (maxL := 5) (ret := (some .long)) (Qcf := fun A => Ql_ (dC, dI) (ty_ cI cZ cC cJ cD) R (wF_ f0 f_keys f_days f_amounts f_versions cI fkeys fdays famounts fversions fcount) A) (by decide) rfl (Nat.le_of_ble_eq_true rfl) ?_
  intro p e s m args below meth c A ls hx hb hr hts hown hlocks hml hA hP hK hD hl
  have hown : s.vm.findClass RX0 = some m.cls := hown
  have hl : lv_has ls 5 [(0, .ref f0), (1, .int a1)] := hl
  have hS : va_S A s.heap s.heap [] := va_S.rf
  have fl18_ : (Cond.fieldLink RX0 18 "DimensionLoader$Facts" "amounts" "[I").before args s = true := hts _ (List.mem_of_getElem? (i := 3) rfl)
  have fl21_ : (Cond.fieldLink RX0 21 "DimensionLoader$Facts" "versions" "[I").before args s = true := hts _ (List.mem_of_getElem? (i := 2) rfl)
  have fl24_ : (Cond.fieldLink RX0 24 "DimensionLoader$Facts" "count" "I").before args s = true := hts _ (List.mem_of_getElem? (i := 1) rfl)
  have inX0_ : ∀ w ∈ wsX00, w ∈ wsX0_sumOf := in_X0_sumOf_X0
  unfold f_X0_sumOf at hf
  dsimp only at hf
  refine lv_lconst (v := 0) hx hb dX0_sumOf_0 (by decide) ?_
  refine lv_lstore_n (lv' := [(2, .long 0), (0, .ref f0), (1, .int a1)]) hx hb dX0_sumOf_1 rfl hl (by decide) rfl (fun ls hl => ?_)
  refine lv_iconst (v := 0) hx hb dX0_sumOf_2 (by decide) ?_
  refine lv_istore (lv' := [(4, .int 0), (2, .long 0), (0, .ref f0), (1, .int a1)]) hx hb dX0_sumOf_3 hl (by decide) rfl (fun ls hl => ?_)
  have lp5 : ∀ (n : Nat) (l4 : Int32) (l2 : Int64) (l1 : Int32) (fkeys : Nat → Int32) (fdays : Nat → Int32) (famounts : Nat → Int32) (fversions : Nat → Int32) (fcount : Int32) (H1 : Heap) (locs : List Loc) (ls : Array Slot), f_X0_sumOf_L5 n l4 l2 l1 (fkeys, fdays, famounts, fversions, fcount) = some R → va_P (dC, dI) vwCl (wF_ f0 f_keys f_days f_amounts f_versions cI fkeys fdays famounts fversions fcount) H1 → va_D A (wF_ f0 f_keys f_days f_amounts f_versions cI fkeys fdays famounts fversions fcount) → va_S A s.heap H1 locs → lv_has ls 5 [(4, .int l4), (2, .long l2), (0, .ref f0), (1, .int l1)] → W p l e (headSpec wsX0_sumOf rm_X0_sumOf).room s m args below meth c H1 locs 0 0 (MQ below (Ql_ (dC, dI) (ty_ cI cZ cC cJ cD) R (wF_ f0 f_keys f_days f_amounts f_versions cI fkeys fdays famounts fversions fcount) A) args s 0 0 A) (F0 m 5 ls []) := by
    intro n
    induction n with
    | zero => intro l4 l2 l1 fkeys fdays famounts fversions fcount H1 locs ls hf hP hD hS hl; exact absurd hf (by simp [f_X0_sumOf_L5])
    | succ n ih =>
      intro l4 l2 l1 fkeys fdays famounts fversions fcount H1 locs ls hf hP hD hS hl
      have hf : f_X0_sumOf_S5 (f_X0_sumOf_L5 n) l4 l2 l1 (fkeys, fdays, famounts, fversions, fcount) = some R := hf
      unfold f_X0_sumOf_S5 at hf
      dsimp only at hf
      refine lv_iload hx hb dX0_sumOf_5 (lv_at hl 0 rfl) ?_
      refine lv_aload_n hx hb dX0_sumOf_7 rfl (lv_at hl 2 rfl) ?_
      refine va_get (D := (dC, dI)) (ci := 2) (v := .int fcount) (C := RX0) (T := TX0) (N := 5) hx hb hts inX0_ hown hK hP 0 rfl rfl 4 (by decide) fl24_ (fun _ h9 => h9) rfl dX0_sumOf_8 ?_
      refine lv_icmp_ge (tgt := 42) hx hb dX0_sumOf_11 (by decide) (fun c2 => ?_) (fun c2 => ?_)
      · have hf := ite_T c2 hf
        refine lv_lload_n hx hb dX0_sumOf_42 rfl (lv_at hl 1 rfl) ?_
        have hR := Option.some.inj hf
        subst hR
        exact W.lret (v := l2) hx hb hr (fun t ht hW => ⟨⟨l2, (), rfl, rfl, by rw [ht]; exact hP, va_K.moved hW.alike hK, hD⟩, hS.F ht⟩) hS.2.2 dX0_sumOf_43
      · have hf := ite_F c2 hf
        refine lv_aload_n hx hb dX0_sumOf_14 rfl (lv_at hl 2 rfl) ?_
        refine va_get (D := (dC, dI)) (ci := 2) (v := .ref f_versions) (C := RX0) (T := TX0) (N := 5) hx hb hts inX0_ hown hK hP 0 rfl rfl 3 (by decide) fl21_ (fun _ h9 => h9) rfl dX0_sumOf_15 ?_
        refine lv_iload hx hb dX0_sumOf_18 (lv_at hl 0 rfl) ?_
        obtain ⟨h3, hf⟩ := gd_T hf
        refine va_iald hx hb hK hP 4 0 rfl rfl h3 dX0_sumOf_20 ?_
        refine lv_iload_n hx hb dX0_sumOf_21 rfl (lv_at hl 3 rfl) ?_
        refine lv_icmp_ne (tgt := 36) hx hb dX0_sumOf_22 (by decide) (fun c4 => ?_) (fun c4 => ?_)
        · have hf := ite_F c4 hf
          refine lv_iinc (v := l4 + 1) (lv' := [(4, .int (l4 + 1)), (2, .long l2), (0, .ref f0), (1, .int l1)]) hx hb dX0_sumOf_36 hl (k := 0) rfl (by first | rfl | decide) (by decide) rfl (fun ls hl => ?_)
          refine lv_goto (tgt := 5) hx hb dX0_sumOf_39 (by decide) ?_
          exact ih (l4 + 1) l2 l1 fkeys fdays famounts fversions fcount _ _ _ hf hP hD hS (lv_sub hl [0, 1, 2, 3] rfl)
        · have hf := ite_T c4 hf
          refine lv_lload_n hx hb dX0_sumOf_25 rfl (lv_at hl 1 rfl) ?_
          refine lv_aload_n hx hb dX0_sumOf_26 rfl (lv_at hl 2 rfl) ?_
          refine va_get (D := (dC, dI)) (ci := 2) (v := .ref f_amounts) (C := RX0) (T := TX0) (N := 5) hx hb hts inX0_ hown hK hP 0 rfl rfl 2 (by decide) fl18_ (fun _ h9 => h9) rfl dX0_sumOf_27 ?_
          refine lv_iload hx hb dX0_sumOf_30 (lv_at hl 0 rfl) ?_
          obtain ⟨h5, hf⟩ := gd_T hf
          refine va_iald hx hb hK hP 3 0 rfl rfl h5 dX0_sumOf_32 ?_
          refine lv_i2l hx hb dX0_sumOf_33 rfl ?_
          refine lv_ladd hx hb dX0_sumOf_34 ?_
          refine lv_lstore_n (lv' := [(2, .long (l2 + ((famounts l4.toNatClampNeg).toInt64))), (4, .int l4), (0, .ref f0), (1, .int l1)]) hx hb dX0_sumOf_35 rfl hl (by decide) rfl (fun ls hl => ?_)
          refine lv_iinc (v := l4 + 1) (lv' := [(4, .int (l4 + 1)), (2, .long (l2 + ((famounts l4.toNatClampNeg).toInt64))), (0, .ref f0), (1, .int l1)]) hx hb dX0_sumOf_36 hl (k := 1) rfl (by first | rfl | decide) (by decide) rfl (fun ls hl => ?_)
          refine lv_goto (tgt := 5) hx hb dX0_sumOf_39 (by decide) ?_
          exact ih (l4 + 1) (l2 + ((famounts l4.toNatClampNeg).toInt64)) l1 fkeys fdays famounts fversions fcount _ _ _ hf hP hD hS (lv_sub hl [0, 1, 2, 3] rfl)
  exact lp5 fu_ (0 : Int32) (0 : Int64) a1 fkeys fdays famounts fversions fcount _ _ _ hf hP hD hS hl
theorem hs_X0_sumOf : yX0_sumOf.cls = RX0 ∧ yX0_sumOf.cls ≠ "java/lang/invoke/MethodHandle" ∧ yX0_sumOf.cls ≠ "java/lang/invoke/VarHandle" ∧ (parseMethodDescriptor yX0_sumOf.desc).map (fun d => d.parameters.length) = some 1 := by decide +kernel
set_option maxRecDepth 20000 in
theorem in_X0_pointTo_X0 : ∀ w ∈ wsX00, w ∈ wsX0_pointTo := by decide +kernel
def f_X0_pointTo_S4 (k_ : Int32 → Int32 → tF_ → tV_ → Option (Int32 × tF_)) (l3 : Int32) (l2 : Int32) (F_ : tF_) (V_ : tV_) : Option (Int32 × tF_) :=
match F_ with
| (fkeys, fdays, famounts, fversions, fcount) =>
match V_ with
| (vkeys, vfirsts, vends, vvalues, vinferred, vgone, vmade) =>
if fcount ≤ l3 then
some (l2, (fkeys, fdays, famounts, fversions, fcount))
else
gd_ l3 60 (
gd_ l3 60 (
bd_ (f_X4_onDay (fkeys l3.toNatClampNeg) (fdays l3.toNatClampNeg) (vkeys, vfirsts, vends, vvalues, vinferred, vgone, vmade)) (fun r5 =>
gd_ l3 60 (
if r5 = (fversions l3.toNatClampNeg) then
k_ (l3 + 1) l2 (fkeys, fdays, famounts, fversions, fcount) (vkeys, vfirsts, vends, vvalues, vinferred, vgone, vmade)
else
gd_ l3 60 (nm_ (upd fversions l3.toNatClampNeg r5) (fun u14 =>
k_ (l3 + 1) (l2 + 1) (fkeys, fdays, famounts, u14, fcount) (vkeys, vfirsts, vends, vvalues, vinferred, vgone, vmade)))))))
def f_X0_pointTo_L4 : Nat → Int32 → Int32 → tF_ → tV_ → Option (Int32 × tF_)
  | 0 => fun _ _ _ _ => none
  | n + 1 => fun l3 l2 F_ V_ => f_X0_pointTo_S4 (f_X0_pointTo_L4 n) l3 l2 F_ V_
def f_X0_pointTo  (F_ : tF_) (V_ : tV_) : Option (Int32 × tF_) :=
match F_ with
| (fkeys, fdays, famounts, fversions, fcount) =>
match V_ with
| (vkeys, vfirsts, vends, vvalues, vinferred, vgone, vmade) =>
f_X0_pointTo_L4 fu_ (0 : Int32) (0 : Int32) (fkeys, fdays, famounts, fversions, fcount) (vkeys, vfirsts, vends, vvalues, vinferred, vgone, vmade)
abbrev rm_X0_pointTo : Room := { frames := 3, cells := 0, slots := 0, locals := 66 }
set_option maxHeartbeats 4000000 in
set_option maxRecDepth 100000 in
theorem c_X0_pointTo (l : Launch) (dC : Nat → ClassId) (dI : Nat → Nat → Nat) (cI cZ cC cJ cD : ClassId) (f0 f_keys f_days f_amounts f_versions v0 v_keys v_firsts v_ends v_values v_inferred v_gone : Nat) (sz : Nat) (fkeys : Nat → Int32) (fdays : Nat → Int32) (famounts : Nat → Int32) (fversions : Nat → Int32) (fcount : Int32) (vkeys : Nat → Int32) (vfirsts : Nat → Int32) (vends : Nat → Int32) (vvalues : Nat → Int32) (vinferred : Nat → Int32) (vgone : Nat → Int32) (vmade : Int32)  (R : Int32 × tF_) (hf : f_X0_pointTo  (fkeys, fdays, famounts, fversions, fcount) (vkeys, vfirsts, vends, vvalues, vinferred, vgone, vmade) = some R) : Met l yX0_pointTo wsX0_pointTo rm_X0_pointTo (Pc_ (dC, dI) (ty_ cI cZ cC cJ cD) (wF_ f0 f_keys f_days f_amounts f_versions cI fkeys fdays famounts fversions fcount ++ wV_ v0 v_keys v_firsts v_ends v_values v_inferred v_gone cI cZ vkeys vfirsts vends vvalues vinferred vgone vmade) sz [.ref f0, .ref v0]) (Qi_ (dC, dI) (ty_ cI cZ cC cJ cD) R.1 (wF_ f0 f_keys f_days f_amounts f_versions cI R.2.1 R.2.2.1 R.2.2.2.1 R.2.2.2.2.1 R.2.2.2.2.2 ++ wV_ v0 v_keys v_firsts v_ends v_values v_inferred v_gone cI cZ vkeys vfirsts vends vvalues vinferred vgone vmade) (va_A (wF_ f0 f_keys f_days f_amounts f_versions cI fkeys fdays famounts fversions fcount ++ wV_ v0 v_keys v_firsts v_ends v_values v_inferred v_gone cI cZ vkeys vfirsts vends vvalues vinferred vgone vmade) sz)) 0 0 (va_A (wF_ f0 f_keys f_days f_amounts f_versions cI fkeys fdays famounts fversions fcount ++ wV_ v0 v_keys v_firsts v_ends v_values v_inferred v_gone cI cZ vkeys vfirsts vends vvalues vinferred vgone vmade) sz) := by
  refine met_ (cc := cX0_pointTo) (maxL := 5) (ret := (some .int)) (Qcf := fun A => Qi_ (dC, dI) (ty_ cI cZ cC cJ cD) R.1 (wF_ f0 f_keys f_days f_amounts f_versions cI R.2.1 R.2.2.1 R.2.2.2.1 R.2.2.2.2.1 R.2.2.2.2.2 ++ wV_ v0 v_keys v_firsts v_ends v_values v_inferred v_gone cI cZ vkeys vfirsts vends vvalues vinferred vgone vmade) A) (by decide) rfl (Nat.le_of_ble_eq_true rfl) ?_
  intro p e s m args below meth c A ls hx hb hr hts hown hlocks hml hA hP hK hD hl
  have hown : s.vm.findClass RX0 = some m.cls := hown
  have hl : lv_has ls 5 [(0, .ref f0), (1, .ref v0)] := hl
  have hS : va_S A s.heap s.heap [] := va_S.rf
  have fl9_ : (Cond.fieldLink RX0 9 "DimensionLoader$Facts" "keys" "[I").before args s = true := hts _ (List.mem_of_getElem? (i := 2) rfl)
  have fl15_ : (Cond.fieldLink RX0 15 "DimensionLoader$Facts" "days" "[I").before args s = true := hts _ (List.mem_of_getElem? (i := 3) rfl)
  have fl21_ : (Cond.fieldLink RX0 21 "DimensionLoader$Facts" "versions" "[I").before args s = true := hts _ (List.mem_of_getElem? (i := 4) rfl)
  have fl24_ : (Cond.fieldLink RX0 24 "DimensionLoader$Facts" "count" "I").before args s = true := hts _ (List.mem_of_getElem? (i := 1) rfl)
  have inX0_ : ∀ w ∈ wsX00, w ∈ wsX0_pointTo := in_X0_pointTo_X0
  unfold f_X0_pointTo at hf
  dsimp only at hf
  refine lv_iconst (v := 0) hx hb dX0_pointTo_0 (by decide) ?_
  refine lv_istore_n (lv' := [(2, .int 0), (0, .ref f0), (1, .ref v0)]) hx hb dX0_pointTo_1 rfl hl (by decide) rfl (fun ls hl => ?_)
  refine lv_iconst (v := 0) hx hb dX0_pointTo_2 (by decide) ?_
  refine lv_istore_n (lv' := [(3, .int 0), (2, .int 0), (0, .ref f0), (1, .ref v0)]) hx hb dX0_pointTo_3 rfl hl (by decide) rfl (fun ls hl => ?_)
  have lp4 : ∀ (n : Nat) (l3 : Int32) (l2 : Int32) (fkeys : Nat → Int32) (fdays : Nat → Int32) (famounts : Nat → Int32) (fversions : Nat → Int32) (fcount : Int32) (vkeys : Nat → Int32) (vfirsts : Nat → Int32) (vends : Nat → Int32) (vvalues : Nat → Int32) (vinferred : Nat → Int32) (vgone : Nat → Int32) (vmade : Int32) (H1 : Heap) (locs : List Loc) (ls : Array Slot), f_X0_pointTo_L4 n l3 l2 (fkeys, fdays, famounts, fversions, fcount) (vkeys, vfirsts, vends, vvalues, vinferred, vgone, vmade) = some R → va_P (dC, dI) vwCl (wF_ f0 f_keys f_days f_amounts f_versions cI fkeys fdays famounts fversions fcount ++ wV_ v0 v_keys v_firsts v_ends v_values v_inferred v_gone cI cZ vkeys vfirsts vends vvalues vinferred vgone vmade) H1 → va_D A (wF_ f0 f_keys f_days f_amounts f_versions cI fkeys fdays famounts fversions fcount ++ wV_ v0 v_keys v_firsts v_ends v_values v_inferred v_gone cI cZ vkeys vfirsts vends vvalues vinferred vgone vmade) → va_S A s.heap H1 locs → lv_has ls 5 [(3, .int l3), (2, .int l2), (0, .ref f0), (1, .ref v0)] → W p l e (headSpec wsX0_pointTo rm_X0_pointTo).room s m args below meth c H1 locs 0 0 (MQ below (Qi_ (dC, dI) (ty_ cI cZ cC cJ cD) R.1 (wF_ f0 f_keys f_days f_amounts f_versions cI R.2.1 R.2.2.1 R.2.2.2.1 R.2.2.2.2.1 R.2.2.2.2.2 ++ wV_ v0 v_keys v_firsts v_ends v_values v_inferred v_gone cI cZ vkeys vfirsts vends vvalues vinferred vgone vmade) A) args s 0 0 A) (F0 m 4 ls []) := by
    intro n
    induction n with
    | zero => intro l3 l2 fkeys fdays famounts fversions fcount vkeys vfirsts vends vvalues vinferred vgone vmade H1 locs ls hf hP hD hS hl; exact absurd hf (by simp [f_X0_pointTo_L4])
    | succ n ih =>
      intro l3 l2 fkeys fdays famounts fversions fcount vkeys vfirsts vends vvalues vinferred vgone vmade H1 locs ls hf hP hD hS hl
      have hf : f_X0_pointTo_S4 (f_X0_pointTo_L4 n) l3 l2 (fkeys, fdays, famounts, fversions, fcount) (vkeys, vfirsts, vends, vvalues, vinferred, vgone, vmade) = some R := hf
      unfold f_X0_pointTo_S4 at hf
      dsimp only at hf
      refine lv_iload_n hx hb dX0_pointTo_4 rfl (lv_at hl 0 rfl) ?_
      refine lv_aload_n hx hb dX0_pointTo_5 rfl (lv_at hl 2 rfl) ?_
      refine va_get (D := (dC, dI)) (ci := 2) (v := .int fcount) (C := RX0) (T := TX0) (N := 5) hx hb hts inX0_ hown hK hP 0 rfl rfl 4 (by decide) fl24_ (fun _ h9 => h9) rfl dX0_pointTo_6 ?_
      refine lv_icmp_ge (tgt := 58) hx hb dX0_pointTo_9 (by decide) (fun c2 => ?_) (fun c2 => ?_)
      · have hf := ite_T c2 hf
        refine lv_iload_n hx hb dX0_pointTo_58 rfl (lv_at hl 1 rfl) ?_
        have hR := Option.some.inj hf
        subst hR
        exact W.iret (v := l2) hx hb hr (fun t ht hW => ⟨⟨l2, (), rfl, rfl, by rw [ht]; exact hP, va_K.moved hW.alike hK, hD⟩, hS.F ht⟩) hS.2.2 dX0_pointTo_59
      · have hf := ite_F c2 hf
        refine lv_aload_n hx hb dX0_pointTo_12 rfl (lv_at hl 3 rfl) ?_
        refine lv_aload_n hx hb dX0_pointTo_13 rfl (lv_at hl 2 rfl) ?_
        refine va_get (D := (dC, dI)) (ci := 2) (v := .ref f_keys) (C := RX0) (T := TX0) (N := 5) hx hb hts inX0_ hown hK hP 0 rfl rfl 0 (by decide) fl9_ (fun _ h9 => h9) rfl dX0_pointTo_14 ?_
        refine lv_iload_n hx hb dX0_pointTo_17 rfl (lv_at hl 0 rfl) ?_
        obtain ⟨h3, hf⟩ := gd_T hf
        refine va_iald hx hb hK hP 1 0 rfl rfl h3 dX0_pointTo_18 ?_
        refine lv_aload_n hx hb dX0_pointTo_19 rfl (lv_at hl 2 rfl) ?_
        refine va_get (D := (dC, dI)) (ci := 2) (v := .ref f_days) (C := RX0) (T := TX0) (N := 5) hx hb hts inX0_ hown hK hP 0 rfl rfl 1 (by decide) fl15_ (fun _ h9 => h9) rfl dX0_pointTo_20 ?_
        refine lv_iload_n hx hb dX0_pointTo_23 rfl (lv_at hl 0 rfl) ?_
        obtain ⟨h4, hf⟩ := gd_T hf
        refine va_iald hx hb hK hP 2 0 rfl rfl h4 dX0_pointTo_24 ?_
        obtain ⟨R6, g7, hf⟩ := bd_B hf
        obtain ⟨r5, rfl⟩ : ∃ z, z = R6 := ⟨_, rfl⟩
        have hPc := hP.sub (ws' := wV_ v0 v_keys v_firsts v_ends v_values v_inferred v_gone cI cZ vkeys vfirsts vends vvalues vinferred vgone vmade) [5, 6, 7, 8, 9, 10, 11] rfl
        have hDc := hD.sub (ws' := wV_ v0 v_keys v_firsts v_ends v_values v_inferred v_gone cI cZ vkeys vfirsts vends vvalues vinferred vgone vmade) [5, 6, 7, 8, 9, 10, 11] (by decide) rfl
        have hFc := va_free (wc := wV_ v0 v_keys v_firsts v_ends v_values v_inferred v_gone cI cZ vkeys vfirsts vends vvalues vinferred vgone vmade) hD hS hA [5, 6, 7, 8, 9, 10, 11] rfl
        refine va_calli (va_runV (As := [.int (fkeys l3.toNatClampNeg), .int (fdays l3.toNatClampNeg)]) (rest := []) ⟨hx, hb, hml, hown, hts⟩ (c_X4_onDay l dC dI cI cZ cC cJ cD v0 v_keys v_firsts v_ends v_values v_inferred v_gone H1.size vkeys vfirsts vends vvalues vinferred vgone vmade (fkeys l3.toNatClampNeg) (fdays l3.toNatClampNeg) r5 g7) (cwV 2 hts gX0_pointTo_X4_onDay rfl rfl rfl hs_X4_onDay ⟨Nat.le_of_ble_eq_true rfl, Nat.le_of_ble_eq_true rfl⟩) (preV_ (ci := 6) (q0 := 0) hPc hK hDc rfl rfl rfl rfl) rfl rfl hl.1 rfl (lv_room (Nat.le_of_ble_eq_true rfl)) dX0_pointTo_25 ⟨Nat.le_of_ble_eq_true rfl, Nat.le_of_ble_eq_true rfl⟩) hS (fun q _ h => hFc q h) hFc (fun z9 u t H8 locs ht hvm hw hB hz1 hk1 hS => ?_)
        have hw : r5 = z9 := hw.symm
        subst hw
        obtain ⟨hP, hD⟩ := aft_ (Wr := wF_ f0 f_keys f_days f_amounts f_versions cI fkeys fdays famounts fversions fcount) (Wc' := wV_ v0 v_keys v_firsts v_ends v_values v_inferred v_gone cI cZ vkeys vfirsts vends vvalues vinferred vgone vmade) (W2 := wF_ f0 f_keys f_days f_amounts f_versions cI fkeys fdays famounts fversions fcount ++ wV_ v0 v_keys v_firsts v_ends v_values v_inferred v_gone cI cZ vkeys vfirsts vends vvalues vinferred vgone vmade) hP hD [5, 6, 7, 8, 9, 10, 11] [0, 1, 2, 3, 4] [0, 1, 2, 3, 4, 5, 6, 7, 8, 9, 10, 11] rfl rfl (by decide) (by decide) (by decide) hk1 hFc hB ht rfl
        refine lv_istore (lv' := [(4, .int r5), (3, .int l3), (2, .int l2), (0, .ref f0), (1, .ref v0)]) hx hb dX0_pointTo_28 hl (by decide) rfl (fun ls hl => ?_)
        refine lv_iload hx hb dX0_pointTo_30 (lv_at hl 0 rfl) ?_
        refine lv_aload_n hx hb dX0_pointTo_32 rfl (lv_at hl 3 rfl) ?_
        refine va_get (D := (dC, dI)) (ci := 2) (v := .ref f_versions) (C := RX0) (T := TX0) (N := 5) hx hb hts inX0_ hown hK hP 0 rfl rfl 3 (by decide) fl21_ (fun _ h9 => h9) rfl dX0_pointTo_33 ?_
        refine lv_iload_n hx hb dX0_pointTo_36 rfl (lv_at hl 1 rfl) ?_
        obtain ⟨h10, hf⟩ := gd_T hf
        refine va_iald hx hb hK hP 4 0 rfl rfl h10 dX0_pointTo_37 ?_
        refine lv_icmp_eq (tgt := 52) hx hb dX0_pointTo_38 (by decide) (fun c11 => ?_) (fun c11 => ?_)
        · have hf := ite_T c11 hf
          refine lv_iinc (v := l3 + 1) (lv' := [(3, .int (l3 + 1)), (4, .int r5), (2, .int l2), (0, .ref f0), (1, .ref v0)]) hx hb dX0_pointTo_52 hl (k := 1) rfl (by first | rfl | decide) (by decide) rfl (fun ls hl => ?_)
          refine lv_goto (tgt := 4) hx hb dX0_pointTo_55 (by decide) ?_
          exact ih (l3 + 1) l2 fkeys fdays famounts fversions fcount vkeys vfirsts vends vvalues vinferred vgone vmade _ _ _ hf hP hD hS (lv_sub hl [0, 2, 3, 4] rfl)
        · have hf := ite_F c11 hf
          refine lv_aload_n hx hb dX0_pointTo_41 rfl (lv_at hl 3 rfl) ?_
          refine va_get (D := (dC, dI)) (ci := 2) (v := .ref f_versions) (C := RX0) (T := TX0) (N := 5) hx hb hts inX0_ hown hK hP 0 rfl rfl 3 (by decide) fl21_ (fun _ h9 => h9) rfl dX0_pointTo_42 ?_
          refine lv_iload_n hx hb dX0_pointTo_45 rfl (lv_at hl 1 rfl) ?_
          refine lv_iload hx hb dX0_pointTo_46 (lv_at hl 0 rfl) ?_
          obtain ⟨h12, hf⟩ := gd_T hf
          refine va_iast hx hb hK hP hD hS 4 0 rfl rfl h12 dX0_pointTo_48 (fun H13 locs hP hD hS => ?_)
          have hP : va_P (dC, dI) vwCl (wF_ f0 f_keys f_days f_amounts f_versions cI fkeys fdays famounts (upd fversions l3.toNatClampNeg r5) fcount ++ wV_ v0 v_keys v_firsts v_ends v_values v_inferred v_gone cI cZ vkeys vfirsts vends vvalues vinferred vgone vmade) H13 := hP
          have hD : va_D A (wF_ f0 f_keys f_days f_amounts f_versions cI fkeys fdays famounts (upd fversions l3.toNatClampNeg r5) fcount ++ wV_ v0 v_keys v_firsts v_ends v_values v_inferred v_gone cI cZ vkeys vfirsts vends vvalues vinferred vgone vmade) := hD
          obtain ⟨u14, e15, hf⟩ := nm_T hf
          rw [← e15] at hP hD
          refine lv_iinc (v := l2 + 1) (lv' := [(2, .int (l2 + 1)), (4, .int r5), (3, .int l3), (0, .ref f0), (1, .ref v0)]) hx hb dX0_pointTo_49 hl (k := 2) rfl (by first | rfl | decide) (by decide) rfl (fun ls hl => ?_)
          refine lv_iinc (v := l3 + 1) (lv' := [(3, .int (l3 + 1)), (2, .int (l2 + 1)), (4, .int r5), (0, .ref f0), (1, .ref v0)]) hx hb dX0_pointTo_52 hl (k := 2) rfl (by first | rfl | decide) (by decide) rfl (fun ls hl => ?_)
          refine lv_goto (tgt := 4) hx hb dX0_pointTo_55 (by decide) ?_
          exact ih (l3 + 1) (l2 + 1) fkeys fdays famounts u14 fcount vkeys vfirsts vends vvalues vinferred vgone vmade _ _ _ hf hP hD hS (lv_sub hl [0, 1, 3, 4] rfl)
  exact lp4 fu_ (0 : Int32) (0 : Int32) fkeys fdays famounts fversions fcount vkeys vfirsts vends vvalues vinferred vgone vmade _ _ _ hf hP hD hS hl
theorem hs_X0_pointTo : yX0_pointTo.cls = RX0 ∧ yX0_pointTo.cls ≠ "java/lang/invoke/MethodHandle" ∧ yX0_pointTo.cls ≠ "java/lang/invoke/VarHandle" ∧ (parseMethodDescriptor yX0_pointTo.desc).map (fun d => d.parameters.length) = some 1 := by decide +kernel
