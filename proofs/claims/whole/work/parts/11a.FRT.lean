set_option maxRecDepth 20000 in
theorem in_X0_isFull_X0 : ∀ w ∈ wsX00, w ∈ wsX0_isFull := by decide +kernel
def f_X0_isFull  (F_ : tF_) : Option (Int32) :=
match F_ with
| (fkeys, fdays, famounts, fversions, fcount) =>
if fcount < 60 then
some (0 : Int32)
else
some (1 : Int32)
abbrev rm_X0_isFull : Room := { frames := 0, cells := 0, slots := 0, locals := 0 }
set_option maxHeartbeats 4000000 in
set_option maxRecDepth 100000 in
theorem c_X0_isFull (l : Launch) (dC : Nat → ClassId) (dI : Nat → Nat → Nat) (cI cZ cC cJ cD : ClassId) (f0 f_keys f_days f_amounts f_versions : Nat) (sz : Nat) (fkeys : Nat → Int32) (fdays : Nat → Int32) (famounts : Nat → Int32) (fversions : Nat → Int32) (fcount : Int32)  (R : Int32) (hf : f_X0_isFull  (fkeys, fdays, famounts, fversions, fcount) = some R) : Met l yX0_isFull wsX0_isFull rm_X0_isFull (Pc_ (dC, dI) (ty_ cI cZ cC cJ cD) (wF_ f0 f_keys f_days f_amounts f_versions cI fkeys fdays famounts fversions fcount) sz [.ref f0]) (Qi_ (dC, dI) (ty_ cI cZ cC cJ cD) R (wF_ f0 f_keys f_days f_amounts f_versions cI fkeys fdays famounts fversions fcount) (va_A (wF_ f0 f_keys f_days f_amounts f_versions cI fkeys fdays famounts fversions fcount) sz)) 0 0 (va_A (wF_ f0 f_keys f_days f_amounts f_versions cI fkeys fdays famounts fversions fcount) sz) := by
  refine met_ (cc := cX0_isFull) (maxL := 1) (ret := (some .boolean)) (Qcf := fun A => Qi_ (dC, dI) (ty_ cI cZ cC cJ cD) R (wF_ f0 f_keys f_days f_amounts f_versions cI fkeys fdays famounts fversions fcount) A) (by decide) rfl (Nat.le_of_ble_eq_true rfl) ?_
  intro p e s m args below meth c A ls hx hb hr hts hown hlocks hml hA hP hK hD hl
  have hown : s.vm.findClass RX0 = some m.cls := hown
  have hl : lv_has ls 1 [(0, .ref f0)] := hl
  have hS : va_S A s.heap s.heap [] := va_S.rf
  have fl24_ : (Cond.fieldLink RX0 24 "DimensionLoader$Facts" "count" "I").before args s = true := hts _ (List.mem_of_getElem? (i := 1) rfl)
  have inX0_ : ∀ w ∈ wsX00, w ∈ wsX0_isFull := in_X0_isFull_X0
  unfold f_X0_isFull at hf
  dsimp only at hf
  refine lv_aload_n hx hb dX0_isFull_0 rfl (lv_at hl 0 rfl) ?_
  refine va_get (D := (dC, dI)) (ci := 2) (v := .int fcount) (C := RX0) (T := TX0) (N := 5) hx hb hts inX0_ hown hK hP 0 rfl rfl 4 (by decide) fl24_ (fun _ h9 => h9) rfl dX0_isFull_1 ?_
  refine lv_bipush (v := 60) hx hb dX0_isFull_4 (by decide) ?_
  refine lv_icmp_lt (tgt := 13) hx hb dX0_isFull_6 (by decide) (fun c1 => ?_) (fun c1 => ?_)
  · have hf := ite_T c1 hf
    refine lv_iconst (v := 0) hx hb dX0_isFull_13 (by decide) ?_
    have hR := Option.some.inj hf
    subst hR
    exact W.zret (v := (0 : Int32)) hx hb hr (by decide) (fun t ht hW => ⟨⟨(0 : Int32), (), rfl, rfl, by rw [ht]; exact hP, va_K.moved hW.alike hK, hD⟩, hS.F ht⟩) hS.2.2 dX0_isFull_14
  · have hf := ite_F c1 hf
    refine lv_iconst (v := 1) hx hb dX0_isFull_9 (by decide) ?_
    refine lv_goto (tgt := 14) hx hb dX0_isFull_10 (by decide) ?_
    have hR := Option.some.inj hf
    subst hR
    exact W.zret (v := (1 : Int32)) hx hb hr (by decide) (fun t ht hW => ⟨⟨(1 : Int32), (), rfl, rfl, by rw [ht]; exact hP, va_K.moved hW.alike hK, hD⟩, hS.F ht⟩) hS.2.2 dX0_isFull_14
theorem hs_X0_isFull : yX0_isFull.cls = RX0 ∧ yX0_isFull.cls ≠ "java/lang/invoke/MethodHandle" ∧ yX0_isFull.cls ≠ "java/lang/invoke/VarHandle" ∧ (parseMethodDescriptor yX0_isFull.desc).map (fun d => d.parameters.length) = some 0 := by decide +kernel
set_option maxRecDepth 20000 in
theorem in_X0_add_X0 : ∀ w ∈ wsX00, w ∈ wsX0_add := by decide +kernel
def f_X0_add (a1 : Int32) (a2 : Int32) (a3 : Int32) (a4 : Int32) (F_ : tF_) : Option (tF_) :=
match F_ with
| (fkeys, fdays, famounts, fversions, fcount) =>
bd_ (f_X0_isFull (fkeys, fdays, famounts, fversions, fcount)) (fun r1 =>
if r1 = 0 then
gd_ fcount 60 (nm_ (upd fkeys fcount.toNatClampNeg a1) (fun u9 =>
gd_ fcount 60 (nm_ (upd fdays fcount.toNatClampNeg a2) (fun u13 =>
gd_ fcount 60 (nm_ (upd famounts fcount.toNatClampNeg a3) (fun u17 =>
gd_ fcount 60 (nm_ (upd fversions fcount.toNatClampNeg a4) (fun u21 =>
some (u9, u13, u17, u21, fcount + 1)))))))))
else
some (fkeys, fdays, famounts, fversions, fcount))
abbrev rm_X0_add : Room := { frames := 1, cells := 0, slots := 0, locals := 20 }
set_option maxHeartbeats 4000000 in
set_option maxRecDepth 100000 in
theorem c_X0_add (l : Launch) (dC : Nat → ClassId) (dI : Nat → Nat → Nat) (cI cZ cC cJ cD : ClassId) (f0 f_keys f_days f_amounts f_versions : Nat) (sz : Nat) (fkeys : Nat → Int32) (fdays : Nat → Int32) (famounts : Nat → Int32) (fversions : Nat → Int32) (fcount : Int32) (a1 : Int32) (a2 : Int32) (a3 : Int32) (a4 : Int32) (R : tF_) (hf : f_X0_add a1 a2 a3 a4 (fkeys, fdays, famounts, fversions, fcount) = some R) : Met l yX0_add wsX0_add rm_X0_add (Pc_ (dC, dI) (ty_ cI cZ cC cJ cD) (wF_ f0 f_keys f_days f_amounts f_versions cI fkeys fdays famounts fversions fcount) sz [.ref f0, .int a1, .int a2, .int a3, .int a4]) (Qv_ (dC, dI) (ty_ cI cZ cC cJ cD) (wF_ f0 f_keys f_days f_amounts f_versions cI R.1 R.2.1 R.2.2.1 R.2.2.2.1 R.2.2.2.2) (va_A (wF_ f0 f_keys f_days f_amounts f_versions cI fkeys fdays famounts fversions fcount) sz)) 0 0 (va_A (wF_ f0 f_keys f_days f_amounts f_versions cI fkeys fdays famounts fversions fcount) sz) := by
  refine met_ (cc := cX0_add) (maxL := 5) (ret := none) (Qcf := fun A => Qv_ (dC, dI) (ty_ cI cZ cC cJ cD) (wF_ f0 f_keys f_days f_amounts f_versions cI R.1 R.2.1 R.2.2.1 R.2.2.2.1 R.2.2.2.2) A) (by decide) rfl (Nat.le_of_ble_eq_true rfl) ?_
  intro p e s m args below meth c A ls hx hb hr hts hown hlocks hml hA hP hK hD hl
  have hown : s.vm.findClass RX0 = some m.cls := hown
  have hl : lv_has ls 5 [(0, .ref f0), (1, .int a1), (2, .int a2), (3, .int a3), (4, .int a4)] := hl
  have hS : va_S A s.heap s.heap [] := va_S.rf
  have fl9_ : (Cond.fieldLink RX0 9 "DimensionLoader$Facts" "keys" "[I").before args s = true := hts _ (List.mem_of_getElem? (i := 1) rfl)
  have fl15_ : (Cond.fieldLink RX0 15 "DimensionLoader$Facts" "days" "[I").before args s = true := hts _ (List.mem_of_getElem? (i := 3) rfl)
  have fl18_ : (Cond.fieldLink RX0 18 "DimensionLoader$Facts" "amounts" "[I").before args s = true := hts _ (List.mem_of_getElem? (i := 4) rfl)
  have fl21_ : (Cond.fieldLink RX0 21 "DimensionLoader$Facts" "versions" "[I").before args s = true := hts _ (List.mem_of_getElem? (i := 5) rfl)
  have fl24_ : (Cond.fieldLink RX0 24 "DimensionLoader$Facts" "count" "I").before args s = true := hts _ (List.mem_of_getElem? (i := 2) rfl)
  have inX0_ : ∀ w ∈ wsX00, w ∈ wsX0_add := in_X0_add_X0
  unfold f_X0_add at hf
  dsimp only at hf
  refine lv_aload_n hx hb dX0_add_0 rfl (lv_at hl 0 rfl) ?_
  obtain ⟨R2, g3, hf⟩ := bd_B hf
  obtain ⟨r1, rfl⟩ : ∃ z, z = R2 := ⟨_, rfl⟩
  have hPc := hP
  have hDc := hD
  have hFc := va_free (wc := wF_ f0 f_keys f_days f_amounts f_versions cI fkeys fdays famounts fversions fcount) hD hS hA [0, 1, 2, 3, 4] rfl
  refine va_calli (va_runV (As := []) (rest := []) ⟨hx, hb, hml, hown, hts⟩ (c_X0_isFull l dC dI cI cZ cC cJ cD f0 f_keys f_days f_amounts f_versions s.heap.size fkeys fdays famounts fversions fcount r1 g3) (cwV 0 hts gX0_add_X0_isFull rfl rfl rfl hs_X0_isFull ⟨Nat.le_of_ble_eq_true rfl, Nat.le_of_ble_eq_true rfl⟩) (preV_ (ci := 2) (q0 := 0) hPc hK hDc rfl rfl rfl rfl) rfl rfl hl.1 rfl (lv_room (Nat.le_of_ble_eq_true rfl)) dX0_add_1 ⟨Nat.le_of_ble_eq_true rfl, Nat.le_of_ble_eq_true rfl⟩) hS (fun q _ h => hFc q h) hFc (fun z5 u t H4 locs ht hvm hw hB hz1 hk1 hS => ?_)
  have hw : r1 = z5 := hw.symm
  subst hw
  obtain ⟨hP, hD⟩ := aft_ (Wr := []) (Wc' := wF_ f0 f_keys f_days f_amounts f_versions cI fkeys fdays famounts fversions fcount) (W2 := wF_ f0 f_keys f_days f_amounts f_versions cI fkeys fdays famounts fversions fcount) hP hD [0, 1, 2, 3, 4] [] [0, 1, 2, 3, 4] rfl rfl (by decide) (by decide) (by decide) hk1 hFc hB ht rfl
  refine lv_if_eq (tgt := 8) hx hb dX0_add_4 (by decide) (fun c6 => ?_) (fun c6 => ?_)
  · have hf := ite_T c6 hf
    refine lv_aload_n hx hb dX0_add_8 rfl (lv_at hl 0 rfl) ?_
    refine va_get (D := (dC, dI)) (ci := 2) (v := .ref f_keys) (C := RX0) (T := TX0) (N := 5) hx hb hts inX0_ hown hK hP 0 rfl rfl 0 (by decide) fl9_ (fun _ h9 => h9) rfl dX0_add_9 ?_
    refine lv_aload_n hx hb dX0_add_12 rfl (lv_at hl 0 rfl) ?_
    refine va_get (D := (dC, dI)) (ci := 2) (v := .int fcount) (C := RX0) (T := TX0) (N := 5) hx hb hts inX0_ hown hK hP 0 rfl rfl 4 (by decide) fl24_ (fun _ h9 => h9) rfl dX0_add_13 ?_
    refine lv_iload_n hx hb dX0_add_16 rfl (lv_at hl 1 rfl) ?_
    obtain ⟨h7, hf⟩ := gd_T hf
    refine va_iast hx hb hK hP hD hS 1 0 rfl rfl h7 dX0_add_17 (fun H8 locs hP hD hS => ?_)
    have hP : va_P (dC, dI) vwCl (wF_ f0 f_keys f_days f_amounts f_versions cI (upd fkeys fcount.toNatClampNeg a1) fdays famounts fversions fcount) H8 := hP
    have hD : va_D A (wF_ f0 f_keys f_days f_amounts f_versions cI (upd fkeys fcount.toNatClampNeg a1) fdays famounts fversions fcount) := hD
    obtain ⟨u9, e10, hf⟩ := nm_T hf
    rw [← e10] at hP hD
    refine lv_aload_n hx hb dX0_add_18 rfl (lv_at hl 0 rfl) ?_
    refine va_get (D := (dC, dI)) (ci := 2) (v := .ref f_days) (C := RX0) (T := TX0) (N := 5) hx hb hts inX0_ hown hK hP 0 rfl rfl 1 (by decide) fl15_ (fun _ h9 => h9) rfl dX0_add_19 ?_
    refine lv_aload_n hx hb dX0_add_22 rfl (lv_at hl 0 rfl) ?_
    refine va_get (D := (dC, dI)) (ci := 2) (v := .int fcount) (C := RX0) (T := TX0) (N := 5) hx hb hts inX0_ hown hK hP 0 rfl rfl 4 (by decide) fl24_ (fun _ h9 => h9) rfl dX0_add_23 ?_
    refine lv_iload_n hx hb dX0_add_26 rfl (lv_at hl 2 rfl) ?_
    obtain ⟨h11, hf⟩ := gd_T hf
    refine va_iast hx hb hK hP hD hS 2 0 rfl rfl h11 dX0_add_27 (fun H12 locs hP hD hS => ?_)
    have hP : va_P (dC, dI) vwCl (wF_ f0 f_keys f_days f_amounts f_versions cI u9 (upd fdays fcount.toNatClampNeg a2) famounts fversions fcount) H12 := hP
    have hD : va_D A (wF_ f0 f_keys f_days f_amounts f_versions cI u9 (upd fdays fcount.toNatClampNeg a2) famounts fversions fcount) := hD
    obtain ⟨u13, e14, hf⟩ := nm_T hf
    rw [← e14] at hP hD
    refine lv_aload_n hx hb dX0_add_28 rfl (lv_at hl 0 rfl) ?_
    refine va_get (D := (dC, dI)) (ci := 2) (v := .ref f_amounts) (C := RX0) (T := TX0) (N := 5) hx hb hts inX0_ hown hK hP 0 rfl rfl 2 (by decide) fl18_ (fun _ h9 => h9) rfl dX0_add_29 ?_
    refine lv_aload_n hx hb dX0_add_32 rfl (lv_at hl 0 rfl) ?_
    refine va_get (D := (dC, dI)) (ci := 2) (v := .int fcount) (C := RX0) (T := TX0) (N := 5) hx hb hts inX0_ hown hK hP 0 rfl rfl 4 (by decide) fl24_ (fun _ h9 => h9) rfl dX0_add_33 ?_
    refine lv_iload_n hx hb dX0_add_36 rfl (lv_at hl 3 rfl) ?_
    obtain ⟨h15, hf⟩ := gd_T hf
    refine va_iast hx hb hK hP hD hS 3 0 rfl rfl h15 dX0_add_37 (fun H16 locs hP hD hS => ?_)
    have hP : va_P (dC, dI) vwCl (wF_ f0 f_keys f_days f_amounts f_versions cI u9 u13 (upd famounts fcount.toNatClampNeg a3) fversions fcount) H16 := hP
    have hD : va_D A (wF_ f0 f_keys f_days f_amounts f_versions cI u9 u13 (upd famounts fcount.toNatClampNeg a3) fversions fcount) := hD
    obtain ⟨u17, e18, hf⟩ := nm_T hf
    rw [← e18] at hP hD
    refine lv_aload_n hx hb dX0_add_38 rfl (lv_at hl 0 rfl) ?_
    refine va_get (D := (dC, dI)) (ci := 2) (v := .ref f_versions) (C := RX0) (T := TX0) (N := 5) hx hb hts inX0_ hown hK hP 0 rfl rfl 3 (by decide) fl21_ (fun _ h9 => h9) rfl dX0_add_39 ?_
    refine lv_aload_n hx hb dX0_add_42 rfl (lv_at hl 0 rfl) ?_
    refine va_get (D := (dC, dI)) (ci := 2) (v := .int fcount) (C := RX0) (T := TX0) (N := 5) hx hb hts inX0_ hown hK hP 0 rfl rfl 4 (by decide) fl24_ (fun _ h9 => h9) rfl dX0_add_43 ?_
    refine lv_iload hx hb dX0_add_46 (lv_at hl 4 rfl) ?_
    obtain ⟨h19, hf⟩ := gd_T hf
    refine va_iast hx hb hK hP hD hS 4 0 rfl rfl h19 dX0_add_48 (fun H20 locs hP hD hS => ?_)
    have hP : va_P (dC, dI) vwCl (wF_ f0 f_keys f_days f_amounts f_versions cI u9 u13 u17 (upd fversions fcount.toNatClampNeg a4) fcount) H20 := hP
    have hD : va_D A (wF_ f0 f_keys f_days f_amounts f_versions cI u9 u13 u17 (upd fversions fcount.toNatClampNeg a4) fcount) := hD
    obtain ⟨u21, e22, hf⟩ := nm_T hf
    rw [← e22] at hP hD
    refine lv_aload_n hx hb dX0_add_49 rfl (lv_at hl 0 rfl) ?_
    refine lv_dup hx hb dX0_add_50 rfl ?_
    refine va_get (D := (dC, dI)) (ci := 2) (v := .int fcount) (C := RX0) (T := TX0) (N := 5) hx hb hts inX0_ hown hK hP 0 rfl rfl 4 (by decide) fl24_ (fun _ h9 => h9) rfl dX0_add_51 ?_
    refine lv_iconst (v := 1) hx hb dX0_add_54 (by decide) ?_
    refine lv_iadd hx hb dX0_add_55 ?_
    refine va_put (D := (dC, dI)) (ci := 2) (v := .int (fcount + 1)) (ty := .int) (C := RX0) (T := TX0) (N := 5) hx hb hts inX0_ tyX0 tyX0_ok nmX0 hown hK hP hD hS 0 rfl rfl 4 (by decide) fl24_ (fun _ h9 => h9) rfl (by decide +kernel) (by first | rfl | decide) (by first | rfl | decide) (Nat.le_of_ble_eq_true rfl) dX0_add_56 (fun H23 locs hP hD hS => ?_)
    have hP : va_P (dC, dI) vwCl (wF_ f0 f_keys f_days f_amounts f_versions cI u9 u13 u17 u21 (fcount + 1)) H23 := hP
    have hD : va_D A (wF_ f0 f_keys f_days f_amounts f_versions cI u9 u13 u17 u21 (fcount + 1)) := hD
    have hR := Option.some.inj hf
    subst hR
    exact W.vret hx hb hr (fun t ht hW => ⟨⟨(), rfl, trivial, by rw [ht]; exact hP, va_K.moved hW.alike hK, hD⟩, hS.F ht⟩) hS.2.2 dX0_add_59
  · have hf := ite_F c6 hf
    have hR := Option.some.inj hf
    subst hR
    exact W.vret hx hb hr (fun t ht hW => ⟨⟨(), rfl, trivial, by rw [ht]; exact hP, va_K.moved hW.alike hK, hD⟩, hS.F ht⟩) hS.2.2 dX0_add_7
theorem hs_X0_add : yX0_add.cls = RX0 ∧ yX0_add.cls ≠ "java/lang/invoke/MethodHandle" ∧ yX0_add.cls ≠ "java/lang/invoke/VarHandle" ∧ (parseMethodDescriptor yX0_add.desc).map (fun d => d.parameters.length) = some 4 := by decide +kernel
set_option maxRecDepth 20000 in
theorem in_X0_pointFrom_X0 : ∀ w ∈ wsX00, w ∈ wsX0_pointFrom := by decide +kernel
def f_X0_pointFrom_S2 (k_ : Int32 → Int32 → Int32 → tF_ → Option (Int32)) (l3 : Int32) (l1 : Int32) (l2 : Int32) (F_ : tF_) : Option (Int32) :=
match F_ with
| (fkeys, fdays, famounts, fversions, fcount) =>
if fcount ≤ l3 then
some (0 : Int32)
else
gd_ l3 60 (
if (fversions l3.toNatClampNeg) = l2 then
gd_ l3 60 (
if (fdays l3.toNatClampNeg) < l1 then
k_ (l3 + 1) l1 l2 (fkeys, fdays, famounts, fversions, fcount)
else
some (1 : Int32))
else
k_ (l3 + 1) l1 l2 (fkeys, fdays, famounts, fversions, fcount))
def f_X0_pointFrom_L2 : Nat → Int32 → Int32 → Int32 → tF_ → Option (Int32)
  | 0 => fun _ _ _ _ => none
  | n + 1 => fun l3 l1 l2 F_ => f_X0_pointFrom_S2 (f_X0_pointFrom_L2 n) l3 l1 l2 F_
def f_X0_pointFrom (a1 : Int32) (a2 : Int32) (F_ : tF_) : Option (Int32) :=
match F_ with
| (fkeys, fdays, famounts, fversions, fcount) =>
f_X0_pointFrom_L2 fu_ (0 : Int32) a1 a2 (fkeys, fdays, famounts, fversions, fcount)
abbrev rm_X0_pointFrom : Room := { frames := 0, cells := 0, slots := 0, locals := 0 }
set_option maxHeartbeats 4000000 in
set_option maxRecDepth 100000 in
theorem c_X0_pointFrom (l : Launch) (dC : Nat → ClassId) (dI : Nat → Nat → Nat) (cI cZ cC cJ cD : ClassId) (f0 f_keys f_days f_amounts f_versions : Nat) (sz : Nat) (fkeys : Nat → Int32) (fdays : Nat → Int32) (famounts : Nat → Int32) (fversions : Nat → Int32) (fcount : Int32) (a1 : Int32) (a2 : Int32) (R : Int32) (hf : f_X0_pointFrom a1 a2 (fkeys, fdays, famounts, fversions, fcount) = some R) : Met l yX0_pointFrom wsX0_pointFrom rm_X0_pointFrom (Pc_ (dC, dI) (ty_ cI cZ cC cJ cD) (wF_ f0 f_keys f_days f_amounts f_versions cI fkeys fdays famounts fversions fcount) sz [.ref f0, .int a1, .int a2]) (Qi_ (dC, dI) (ty_ cI cZ cC cJ cD) R (wF_ f0 f_keys f_days f_amounts f_versions cI fkeys fdays famounts fversions fcount) (va_A (wF_ f0 f_keys f_days f_amounts f_versions cI fkeys fdays famounts fversions fcount) sz)) 0 0 (va_A (wF_ f0 f_keys f_days f_amounts f_versions cI fkeys fdays famounts fversions fcount) sz) := by
  refine met_ (cc := cX0_pointFrom) (maxL := 4) (ret := (some .boolean)) (Qcf := fun A => Qi_ (dC, dI) (ty_ cI cZ cC cJ cD) R (wF_ f0 f_keys f_days f_amounts f_versions cI fkeys fdays famounts fversions fcount) A) (by decide) rfl (Nat.le_of_ble_eq_true rfl) ?_
  intro p e s m args below meth c A ls hx hb hr hts hown hlocks hml hA hP hK hD hl
  have hown : s.vm.findClass RX0 = some m.cls := hown
  have hl : lv_has ls 4 [(0, .ref f0), (1, .int a1), (2, .int a2)] := hl
  have hS : va_S A s.heap s.heap [] := va_S.rf
  have fl15_ : (Cond.fieldLink RX0 15 "DimensionLoader$Facts" "days" "[I").before args s = true := hts _ (List.mem_of_getElem? (i := 3) rfl)
  have fl21_ : (Cond.fieldLink RX0 21 "DimensionLoader$Facts" "versions" "[I").before args s = true := hts _ (List.mem_of_getElem? (i := 2) rfl)
  have fl24_ : (Cond.fieldLink RX0 24 "DimensionLoader$Facts" "count" "I").before args s = true := hts _ (List.mem_of_getElem? (i := 1) rfl)
  have inX0_ : ∀ w ∈ wsX00, w ∈ wsX0_pointFrom := in_X0_pointFrom_X0
  unfold f_X0_pointFrom at hf
  dsimp only at hf
  refine lv_iconst (v := 0) hx hb dX0_pointFrom_0 (by decide) ?_
  refine lv_istore_n (lv' := [(3, .int 0), (0, .ref f0), (1, .int a1), (2, .int a2)]) hx hb dX0_pointFrom_1 rfl hl (by decide) rfl (fun ls hl => ?_)
  have lp2 : ∀ (n : Nat) (l3 : Int32) (l1 : Int32) (l2 : Int32) (fkeys : Nat → Int32) (fdays : Nat → Int32) (famounts : Nat → Int32) (fversions : Nat → Int32) (fcount : Int32) (H1 : Heap) (locs : List Loc) (ls : Array Slot), f_X0_pointFrom_L2 n l3 l1 l2 (fkeys, fdays, famounts, fversions, fcount) = some R → va_P (dC, dI) vwCl (wF_ f0 f_keys f_days f_amounts f_versions cI fkeys fdays famounts fversions fcount) H1 → va_D A (wF_ f0 f_keys f_days f_amounts f_versions cI fkeys fdays famounts fversions fcount) → va_S A s.heap H1 locs → lv_has ls 4 [(3, .int l3), (0, .ref f0), (1, .int l1), (2, .int l2)] → W p l e (headSpec wsX0_pointFrom rm_X0_pointFrom).room s m args below meth c H1 locs 0 0 (MQ below (Qi_ (dC, dI) (ty_ cI cZ cC cJ cD) R (wF_ f0 f_keys f_days f_amounts f_versions cI fkeys fdays famounts fversions fcount) A) args s 0 0 A) (F0 m 2 ls []) := by
    intro n
    induction n with
    | zero => intro l3 l1 l2 fkeys fdays famounts fversions fcount H1 locs ls hf hP hD hS hl; exact absurd hf (by simp [f_X0_pointFrom_L2])
    | succ n ih =>
      intro l3 l1 l2 fkeys fdays famounts fversions fcount H1 locs ls hf hP hD hS hl
      have hf : f_X0_pointFrom_S2 (f_X0_pointFrom_L2 n) l3 l1 l2 (fkeys, fdays, famounts, fversions, fcount) = some R := hf
      unfold f_X0_pointFrom_S2 at hf
      dsimp only at hf
      refine lv_iload_n hx hb dX0_pointFrom_2 rfl (lv_at hl 0 rfl) ?_
      refine lv_aload_n hx hb dX0_pointFrom_3 rfl (lv_at hl 1 rfl) ?_
      refine va_get (D := (dC, dI)) (ci := 2) (v := .int fcount) (C := RX0) (T := TX0) (N := 5) hx hb hts inX0_ hown hK hP 0 rfl rfl 4 (by decide) fl24_ (fun _ h9 => h9) rfl dX0_pointFrom_4 ?_
      refine lv_icmp_ge (tgt := 38) hx hb dX0_pointFrom_7 (by decide) (fun c2 => ?_) (fun c2 => ?_)
      · have hf := ite_T c2 hf
        refine lv_iconst (v := 0) hx hb dX0_pointFrom_38 (by decide) ?_
        have hR := Option.some.inj hf
        subst hR
        exact W.zret (v := (0 : Int32)) hx hb hr (by decide) (fun t ht hW => ⟨⟨(0 : Int32), (), rfl, rfl, by rw [ht]; exact hP, va_K.moved hW.alike hK, hD⟩, hS.F ht⟩) hS.2.2 dX0_pointFrom_39
      · have hf := ite_F c2 hf
        refine lv_aload_n hx hb dX0_pointFrom_10 rfl (lv_at hl 1 rfl) ?_
        refine va_get (D := (dC, dI)) (ci := 2) (v := .ref f_versions) (C := RX0) (T := TX0) (N := 5) hx hb hts inX0_ hown hK hP 0 rfl rfl 3 (by decide) fl21_ (fun _ h9 => h9) rfl dX0_pointFrom_11 ?_
        refine lv_iload_n hx hb dX0_pointFrom_14 rfl (lv_at hl 0 rfl) ?_
        obtain ⟨h3, hf⟩ := gd_T hf
        refine va_iald hx hb hK hP 4 0 rfl rfl h3 dX0_pointFrom_15 ?_
        refine lv_iload_n hx hb dX0_pointFrom_16 rfl (lv_at hl 3 rfl) ?_
        refine lv_icmp_ne (tgt := 32) hx hb dX0_pointFrom_17 (by decide) (fun c4 => ?_) (fun c4 => ?_)
        · have hf := ite_F c4 hf
          refine lv_iinc (v := l3 + 1) (lv' := [(3, .int (l3 + 1)), (0, .ref f0), (1, .int l1), (2, .int l2)]) hx hb dX0_pointFrom_32 hl (k := 0) rfl (by first | rfl | decide) (by decide) rfl (fun ls hl => ?_)
          refine lv_goto (tgt := 2) hx hb dX0_pointFrom_35 (by decide) ?_
          exact ih (l3 + 1) l1 l2 fkeys fdays famounts fversions fcount _ _ _ hf hP hD hS (lv_sub hl [0, 1, 2, 3] rfl)
        · have hf := ite_T c4 hf
          refine lv_aload_n hx hb dX0_pointFrom_20 rfl (lv_at hl 1 rfl) ?_
          refine va_get (D := (dC, dI)) (ci := 2) (v := .ref f_days) (C := RX0) (T := TX0) (N := 5) hx hb hts inX0_ hown hK hP 0 rfl rfl 1 (by decide) fl15_ (fun _ h9 => h9) rfl dX0_pointFrom_21 ?_
          refine lv_iload_n hx hb dX0_pointFrom_24 rfl (lv_at hl 0 rfl) ?_
          obtain ⟨h5, hf⟩ := gd_T hf
          refine va_iald hx hb hK hP 2 0 rfl rfl h5 dX0_pointFrom_25 ?_
          refine lv_iload_n hx hb dX0_pointFrom_26 rfl (lv_at hl 2 rfl) ?_
          refine lv_icmp_lt (tgt := 32) hx hb dX0_pointFrom_27 (by decide) (fun c6 => ?_) (fun c6 => ?_)
          · have hf := ite_T c6 hf
            refine lv_iinc (v := l3 + 1) (lv' := [(3, .int (l3 + 1)), (0, .ref f0), (1, .int l1), (2, .int l2)]) hx hb dX0_pointFrom_32 hl (k := 0) rfl (by first | rfl | decide) (by decide) rfl (fun ls hl => ?_)
            refine lv_goto (tgt := 2) hx hb dX0_pointFrom_35 (by decide) ?_
            exact ih (l3 + 1) l1 l2 fkeys fdays famounts fversions fcount _ _ _ hf hP hD hS (lv_sub hl [0, 1, 2, 3] rfl)
          · have hf := ite_F c6 hf
            refine lv_iconst (v := 1) hx hb dX0_pointFrom_30 (by decide) ?_
            have hR := Option.some.inj hf
            subst hR
            exact W.zret (v := (1 : Int32)) hx hb hr (by decide) (fun t ht hW => ⟨⟨(1 : Int32), (), rfl, rfl, by rw [ht]; exact hP, va_K.moved hW.alike hK, hD⟩, hS.F ht⟩) hS.2.2 dX0_pointFrom_31
  exact lp2 fu_ (0 : Int32) a1 a2 fkeys fdays famounts fversions fcount _ _ _ hf hP hD hS hl
theorem hs_X0_pointFrom : yX0_pointFrom.cls = RX0 ∧ yX0_pointFrom.cls ≠ "java/lang/invoke/MethodHandle" ∧ yX0_pointFrom.cls ≠ "java/lang/invoke/VarHandle" ∧ (parseMethodDescriptor yX0_pointFrom.desc).map (fun d => d.parameters.length) = some 2 := by decide +kernel
set_option maxRecDepth 20000 in
theorem in_X0_countOf_X0 : ∀ w ∈ wsX00, w ∈ wsX0_countOf := by decide +kernel
def f_X0_countOf_S4 (k_ : Int32 → Int32 → Int32 → tF_ → Option (Int32)) (l3 : Int32) (l2 : Int32) (l1 : Int32) (F_ : tF_) : Option (Int32) :=
match F_ with
| (fkeys, fdays, famounts, fversions, fcount) =>
if fcount ≤ l3 then
some l2
else
gd_ l3 60 (
if (fversions l3.toNatClampNeg) = l1 then
k_ (l3 + 1) (l2 + 1) l1 (fkeys, fdays, famounts, fversions, fcount)
else
k_ (l3 + 1) l2 l1 (fkeys, fdays, famounts, fversions, fcount))
def f_X0_countOf_L4 : Nat → Int32 → Int32 → Int32 → tF_ → Option (Int32)
  | 0 => fun _ _ _ _ => none
  | n + 1 => fun l3 l2 l1 F_ => f_X0_countOf_S4 (f_X0_countOf_L4 n) l3 l2 l1 F_
def f_X0_countOf (a1 : Int32) (F_ : tF_) : Option (Int32) :=
match F_ with
| (fkeys, fdays, famounts, fversions, fcount) =>
f_X0_countOf_L4 fu_ (0 : Int32) (0 : Int32) a1 (fkeys, fdays, famounts, fversions, fcount)
abbrev rm_X0_countOf : Room := { frames := 0, cells := 0, slots := 0, locals := 0 }
set_option maxHeartbeats 4000000 in
set_option maxRecDepth 100000 in
theorem c_X0_countOf (l : Launch) (dC : Nat → ClassId) (dI : Nat → Nat → Nat) (cI cZ cC cJ cD : ClassId) (f0 f_keys f_days f_amounts f_versions : Nat) (sz : Nat) (fkeys : Nat → Int32) (fdays : Nat → Int32) (famounts : Nat → Int32) (fversions : Nat → Int32) (fcount : Int32) (a1 : Int32) (R : Int32) (hf : f_X0_countOf a1 (fkeys, fdays, famounts, fversions, fcount) = some R) : Met l yX0_countOf wsX0_countOf rm_X0_countOf (Pc_ (dC, dI) (ty_ cI cZ cC cJ cD) (wF_ f0 f_keys f_days f_amounts f_versions cI fkeys fdays famounts fversions fcount) sz [.ref f0, .int a1]) (Qi_ (dC, dI) (ty_ cI cZ cC cJ cD) R (wF_ f0 f_keys f_days f_amounts f_versions cI fkeys fdays famounts fversions fcount) (va_A (wF_ f0 f_keys f_days f_amounts f_versions cI fkeys fdays famounts fversions fcount) sz)) 0 0 (va_A (wF_ f0 f_keys f_days f_amounts f_versions cI fkeys fdays famounts fversions fcount) sz) := by
  refine met_ (cc := cX0_countOf) (maxL := 4) (ret := (some .int)) (Qcf := fun A => Qi_ (dC, dI) (ty_ cI cZ cC cJ cD) R (wF_ f0 f_keys f_days f_amounts f_versions cI fkeys fdays famounts fversions fcount) A) (by decide) rfl (Nat.le_of_ble_eq_true rfl) ?_
  intro p e s m args below meth c A ls hx hb hr hts hown hlocks hml hA hP hK hD hl
  have hown : s.vm.findClass RX0 = some m.cls := hown
  have hl : lv_has ls 4 [(0, .ref f0), (1, .int a1)] := hl
  have hS : va_S A s.heap s.heap [] := va_S.rf
  have fl21_ : (Cond.fieldLink RX0 21 "DimensionLoader$Facts" "versions" "[I").before args s = true := hts _ (List.mem_of_getElem? (i := 2) rfl)
  have fl24_ : (Cond.fieldLink RX0 24 "DimensionLoader$Facts" "count" "I").before args s = true := hts _ (List.mem_of_getElem? (i := 1) rfl)
  have inX0_ : ∀ w ∈ wsX00, w ∈ wsX0_countOf := in_X0_countOf_X0
  unfold f_X0_countOf at hf
  dsimp only at hf
  refine lv_iconst (v := 0) hx hb dX0_countOf_0 (by decide) ?_
  refine lv_istore_n (lv' := [(2, .int 0), (0, .ref f0), (1, .int a1)]) hx hb dX0_countOf_1 rfl hl (by decide) rfl (fun ls hl => ?_)
  refine lv_iconst (v := 0) hx hb dX0_countOf_2 (by decide) ?_
  refine lv_istore_n (lv' := [(3, .int 0), (2, .int 0), (0, .ref f0), (1, .int a1)]) hx hb dX0_countOf_3 rfl hl (by decide) rfl (fun ls hl => ?_)
  have lp4 : ∀ (n : Nat) (l3 : Int32) (l2 : Int32) (l1 : Int32) (fkeys : Nat → Int32) (fdays : Nat → Int32) (famounts : Nat → Int32) (fversions : Nat → Int32) (fcount : Int32) (H1 : Heap) (locs : List Loc) (ls : Array Slot), f_X0_countOf_L4 n l3 l2 l1 (fkeys, fdays, famounts, fversions, fcount) = some R → va_P (dC, dI) vwCl (wF_ f0 f_keys f_days f_amounts f_versions cI fkeys fdays famounts fversions fcount) H1 → va_D A (wF_ f0 f_keys f_days f_amounts f_versions cI fkeys fdays famounts fversions fcount) → va_S A s.heap H1 locs → lv_has ls 4 [(3, .int l3), (2, .int l2), (0, .ref f0), (1, .int l1)] → W p l e (headSpec wsX0_countOf rm_X0_countOf).room s m args below meth c H1 locs 0 0 (MQ below (Qi_ (dC, dI) (ty_ cI cZ cC cJ cD) R (wF_ f0 f_keys f_days f_amounts f_versions cI fkeys fdays famounts fversions fcount) A) args s 0 0 A) (F0 m 4 ls []) := by
    intro n
    induction n with
    | zero => intro l3 l2 l1 fkeys fdays famounts fversions fcount H1 locs ls hf hP hD hS hl; exact absurd hf (by simp [f_X0_countOf_L4])
    | succ n ih =>
      intro l3 l2 l1 fkeys fdays famounts fversions fcount H1 locs ls hf hP hD hS hl
      have hf : f_X0_countOf_S4 (f_X0_countOf_L4 n) l3 l2 l1 (fkeys, fdays, famounts, fversions, fcount) = some R := hf
      unfold f_X0_countOf_S4 at hf
      dsimp only at hf
      refine lv_iload_n hx hb dX0_countOf_4 rfl (lv_at hl 0 rfl) ?_
      refine lv_aload_n hx hb dX0_countOf_5 rfl (lv_at hl 2 rfl) ?_
      refine va_get (D := (dC, dI)) (ci := 2) (v := .int fcount) (C := RX0) (T := TX0) (N := 5) hx hb hts inX0_ hown hK hP 0 rfl rfl 4 (by decide) fl24_ (fun _ h9 => h9) rfl dX0_countOf_6 ?_
      refine lv_icmp_ge (tgt := 31) hx hb dX0_countOf_9 (by decide) (fun c2 => ?_) (fun c2 => ?_)
      · have hf := ite_T c2 hf
        refine lv_iload_n hx hb dX0_countOf_31 rfl (lv_at hl 1 rfl) ?_
        have hR := Option.some.inj hf
        subst hR
        exact W.iret (v := l2) hx hb hr (fun t ht hW => ⟨⟨l2, (), rfl, rfl, by rw [ht]; exact hP, va_K.moved hW.alike hK, hD⟩, hS.F ht⟩) hS.2.2 dX0_countOf_32
      · have hf := ite_F c2 hf
        refine lv_aload_n hx hb dX0_countOf_12 rfl (lv_at hl 2 rfl) ?_
        refine va_get (D := (dC, dI)) (ci := 2) (v := .ref f_versions) (C := RX0) (T := TX0) (N := 5) hx hb hts inX0_ hown hK hP 0 rfl rfl 3 (by decide) fl21_ (fun _ h9 => h9) rfl dX0_countOf_13 ?_
        refine lv_iload_n hx hb dX0_countOf_16 rfl (lv_at hl 0 rfl) ?_
        obtain ⟨h3, hf⟩ := gd_T hf
        refine va_iald hx hb hK hP 4 0 rfl rfl h3 dX0_countOf_17 ?_
        refine lv_iload_n hx hb dX0_countOf_18 rfl (lv_at hl 3 rfl) ?_
        refine lv_icmp_ne (tgt := 25) hx hb dX0_countOf_19 (by decide) (fun c4 => ?_) (fun c4 => ?_)
        · have hf := ite_F c4 hf
          refine lv_iinc (v := l3 + 1) (lv' := [(3, .int (l3 + 1)), (2, .int l2), (0, .ref f0), (1, .int l1)]) hx hb dX0_countOf_25 hl (k := 0) rfl (by first | rfl | decide) (by decide) rfl (fun ls hl => ?_)
          refine lv_goto (tgt := 4) hx hb dX0_countOf_28 (by decide) ?_
          exact ih (l3 + 1) l2 l1 fkeys fdays famounts fversions fcount _ _ _ hf hP hD hS (lv_sub hl [0, 1, 2, 3] rfl)
        · have hf := ite_T c4 hf
          refine lv_iinc (v := l2 + 1) (lv' := [(2, .int (l2 + 1)), (3, .int l3), (0, .ref f0), (1, .int l1)]) hx hb dX0_countOf_22 hl (k := 1) rfl (by first | rfl | decide) (by decide) rfl (fun ls hl => ?_)
          refine lv_iinc (v := l3 + 1) (lv' := [(3, .int (l3 + 1)), (2, .int (l2 + 1)), (0, .ref f0), (1, .int l1)]) hx hb dX0_countOf_25 hl (k := 1) rfl (by first | rfl | decide) (by decide) rfl (fun ls hl => ?_)
          refine lv_goto (tgt := 4) hx hb dX0_countOf_28 (by decide) ?_
          exact ih (l3 + 1) (l2 + 1) l1 fkeys fdays famounts fversions fcount _ _ _ hf hP hD hS (lv_sub hl [0, 1, 2, 3] rfl)
  exact lp4 fu_ (0 : Int32) (0 : Int32) a1 fkeys fdays famounts fversions fcount _ _ _ hf hP hD hS hl
theorem hs_X0_countOf : yX0_countOf.cls = RX0 ∧ yX0_countOf.cls ≠ "java/lang/invoke/MethodHandle" ∧ yX0_countOf.cls ≠ "java/lang/invoke/VarHandle" ∧ (parseMethodDescriptor yX0_countOf.desc).map (fun d => d.parameters.length) = some 1 := by decide +kernel
set_option maxRecDepth 20000 in
theorem in_X0_sumOf_X0 : ∀ w ∈ wsX00, w ∈ wsX0_sumOf := by decide +kernel
def f_X0_sumOf_S5 (k_ : Int32 → Int64 → Int32 → tF_ → Option (Int64)) (l4 : Int32) (l2 : Int64) (l1 : Int32) (F_ : tF_) : Option (Int64) :=
match F_ with
| (fkeys, fdays, famounts, fversions, fcount) =>
if fcount ≤ l4 then
some l2
else
gd_ l4 60 (
if (fversions l4.toNatClampNeg) = l1 then
gd_ l4 60 (
k_ (l4 + 1) (l2 + ((famounts l4.toNatClampNeg).toInt64)) l1 (fkeys, fdays, famounts, fversions, fcount))
else
k_ (l4 + 1) l2 l1 (fkeys, fdays, famounts, fversions, fcount))
def f_X0_sumOf_L5 : Nat → Int32 → Int64 → Int32 → tF_ → Option (Int64)
  | 0 => fun _ _ _ _ => none
  | n + 1 => fun l4 l2 l1 F_ => f_X0_sumOf_S5 (f_X0_sumOf_L5 n) l4 l2 l1 F_
def f_X0_sumOf (a1 : Int32) (F_ : tF_) : Option (Int64) :=
match F_ with
| (fkeys, fdays, famounts, fversions, fcount) =>
f_X0_sumOf_L5 fu_ (0 : Int32) (0 : Int64) a1 (fkeys, fdays, famounts, fversions, fcount)
abbrev rm_X0_sumOf : Room := { frames := 0, cells := 0, slots := 0, locals := 0 }
set_option maxHeartbeats 4000000 in
set_option maxRecDepth 100000 in
theorem c_X0_sumOf (l : Launch) (dC : Nat → ClassId) (dI : Nat → Nat → Nat) (cI cZ cC cJ cD : ClassId) (f0 f_keys f_days f_amounts f_versions : Nat) (sz : Nat) (fkeys : Nat → Int32) (fdays : Nat → Int32) (famounts : Nat → Int32) (fversions : Nat → Int32) (fcount : Int32) (a1 : Int32) (R : Int64) (hf : f_X0_sumOf a1 (fkeys, fdays, famounts, fversions, fcount) = some R) : Met l yX0_sumOf wsX0_sumOf rm_X0_sumOf (Pc_ (dC, dI) (ty_ cI cZ cC cJ cD) (wF_ f0 f_keys f_days f_amounts f_versions cI fkeys fdays famounts fversions fcount) sz [.ref f0, .int a1]) (Ql_ (dC, dI) (ty_ cI cZ cC cJ cD) R (wF_ f0 f_keys f_days f_amounts f_versions cI fkeys fdays famounts fversions fcount) (va_A (wF_ f0 f_keys f_days f_amounts f_versions cI fkeys fdays famounts fversions fcount) sz)) 0 0 (va_A (wF_ f0 f_keys f_days f_amounts f_versions cI fkeys fdays famounts fversions fcount) sz) := by
  refine met_ (cc := cX0_sumOf) (maxL := 5) (ret := (some .long)) (Qcf := fun A => Ql_ (dC, dI) (ty_ cI cZ cC cJ cD) R (wF_ f0 f_keys f_days f_amounts f_versions cI fkeys fdays famounts fversions fcount) A) (by decide) rfl (Nat.le_of_ble_eq_true rfl) ?_
  intro p e s m args below meth c A ls hx hb hr hts hown hlocks hml hA hP hK hD hl
  have hown : s.vm.findClass RX0 = some m.cls := hown
  have hl : lv_has ls 5 [(0, .ref f0), (1, .int a1)] := hl
  have hS : va_S A s.heap s.heap [] := va_S.rf
  have fl18_ : (Cond.fieldLink RX0 18 "DimensionLoader$Facts" "amounts" "[I").before args s = true := hts _ (List.mem_of_getElem? (i := 3) rfl)
  have fl21_ : (Cond.fieldLink RX0 21 "DimensionLoader$Facts" "versions" "[I").before args s = true := hts _ (List.mem_of_getElem? (i := 2) rfl)
  have fl24_ : (Cond.fieldLink RX0 24 "DimensionLoader$Facts" "count" "I").before args s = true := hts _ (List.mem_of_getElem? (i := 1) rfl)
  have inX0_ : ∀ w ∈ wsX00, w ∈ wsX0_sumOf := in_X0_sumOf_X0
  unfold f_X0_sumOf at hf
  dsimp only at hf
  refine lv_lconst (v := 0) hx hb dX0_sumOf_0 (by decide) ?_
  refine lv_lstore_n (lv' := [(2, .long 0), (0, .ref f0), (1, .int a1)]) hx hb dX0_sumOf_1 rfl hl (by decide) rfl (fun ls hl => ?_)
  refine lv_iconst (v := 0) hx hb dX0_sumOf_2 (by decide) ?_
  refine lv_istore (lv' := [(4, .int 0), (2, .long 0), (0, .ref f0), (1, .int a1)]) hx hb dX0_sumOf_3 hl (by decide) rfl (fun ls hl => ?_)
  have lp5 : ∀ (n : Nat) (l4 : Int32) (l2 : Int64) (l1 : Int32) (fkeys : Nat → Int32) (fdays : Nat → Int32) (famounts : Nat → Int32) (fversions : Nat → Int32) (fcount : Int32) (H1 : Heap) (locs : List Loc) (ls : Array Slot), f_X0_sumOf_L5 n l4 l2 l1 (fkeys, fdays, famounts, fversions, fcount) = some R → va_P (dC, dI) vwCl (wF_ f0 f_keys f_days f_amounts f_versions cI fkeys fdays famounts fversions fcount) H1 → va_D A (wF_ f0 f_keys f_days f_amounts f_versions cI fkeys fdays famounts fversions fcount) → va_S A s.heap H1 locs → lv_has ls 5 [(4, .int l4), (2, .long l2), (0, .ref f0), (1, .int l1)] → W p l e (headSpec wsX0_sumOf rm_X0_sumOf).room s m args below meth c H1 locs 0 0 (MQ below (Ql_ (dC, dI) (ty_ cI cZ cC cJ cD) R (wF_ f0 f_keys f_days f_amounts f_versions cI fkeys fdays famounts fversions fcount) A) args s 0 0 A) (F0 m 5 ls []) := by
    intro n
    induction n with
    | zero => intro l4 l2 l1 fkeys fdays famounts fversions fcount H1 locs ls hf hP hD hS hl; exact absurd hf (by simp [f_X0_sumOf_L5])
    | succ n ih =>
      intro l4 l2 l1 fkeys fdays famounts fversions fcount H1 locs ls hf hP hD hS hl
      have hf : f_X0_sumOf_S5 (f_X0_sumOf_L5 n) l4 l2 l1 (fkeys, fdays, famounts, fversions, fcount) = some R := hf
      unfold f_X0_sumOf_S5 at hf
      dsimp only at hf
      refine lv_iload hx hb dX0_sumOf_5 (lv_at hl 0 rfl) ?_
      refine lv_aload_n hx hb dX0_sumOf_7 rfl (lv_at hl 2 rfl) ?_
      refine va_get (D := (dC, dI)) (ci := 2) (v := .int fcount) (C := RX0) (T := TX0) (N := 5) hx hb hts inX0_ hown hK hP 0 rfl rfl 4 (by decide) fl24_ (fun _ h9 => h9) rfl dX0_sumOf_8 ?_
      refine lv_icmp_ge (tgt := 42) hx hb dX0_sumOf_11 (by decide) (fun c2 => ?_) (fun c2 => ?_)
      · have hf := ite_T c2 hf
        refine lv_lload_n hx hb dX0_sumOf_42 rfl (lv_at hl 1 rfl) ?_
        have hR := Option.some.inj hf
        subst hR
        exact W.lret (v := l2) hx hb hr (fun t ht hW => ⟨⟨l2, (), rfl, rfl, by rw [ht]; exact hP, va_K.moved hW.alike hK, hD⟩, hS.F ht⟩) hS.2.2 dX0_sumOf_43
      · have hf := ite_F c2 hf
        refine lv_aload_n hx hb dX0_sumOf_14 rfl (lv_at hl 2 rfl) ?_
        refine va_get (D := (dC, dI)) (ci := 2) (v := .ref f_versions) (C := RX0) (T := TX0) (N := 5) hx hb hts inX0_ hown hK hP 0 rfl rfl 3 (by decide) fl21_ (fun _ h9 => h9) rfl dX0_sumOf_15 ?_
        refine lv_iload hx hb dX0_sumOf_18 (lv_at hl 0 rfl) ?_
        obtain ⟨h3, hf⟩ := gd_T hf
        refine va_iald hx hb hK hP 4 0 rfl rfl h3 dX0_sumOf_20 ?_
        refine lv_iload_n hx hb dX0_sumOf_21 rfl (lv_at hl 3 rfl) ?_
        refine lv_icmp_ne (tgt := 36) hx hb dX0_sumOf_22 (by decide) (fun c4 => ?_) (fun c4 => ?_)
        · have hf := ite_F c4 hf
          refine lv_iinc (v := l4 + 1) (lv' := [(4, .int (l4 + 1)), (2, .long l2), (0, .ref f0), (1, .int l1)]) hx hb dX0_sumOf_36 hl (k := 0) rfl (by first | rfl | decide) (by decide) rfl (fun ls hl => ?_)
          refine lv_goto (tgt := 5) hx hb dX0_sumOf_39 (by decide) ?_
          exact ih (l4 + 1) l2 l1 fkeys fdays famounts fversions fcount _ _ _ hf hP hD hS (lv_sub hl [0, 1, 2, 3] rfl)
        · have hf := ite_T c4 hf
          refine lv_lload_n hx hb dX0_sumOf_25 rfl (lv_at hl 1 rfl) ?_
          refine lv_aload_n hx hb dX0_sumOf_26 rfl (lv_at hl 2 rfl) ?_
          refine va_get (D := (dC, dI)) (ci := 2) (v := .ref f_amounts) (C := RX0) (T := TX0) (N := 5) hx hb hts inX0_ hown hK hP 0 rfl rfl 2 (by decide) fl18_ (fun _ h9 => h9) rfl dX0_sumOf_27 ?_
          refine lv_iload hx hb dX0_sumOf_30 (lv_at hl 0 rfl) ?_
          obtain ⟨h5, hf⟩ := gd_T hf
          refine va_iald hx hb hK hP 3 0 rfl rfl h5 dX0_sumOf_32 ?_
          refine lv_i2l hx hb dX0_sumOf_33 rfl ?_
          refine lv_ladd hx hb dX0_sumOf_34 ?_
          refine lv_lstore_n (lv' := [(2, .long (l2 + ((famounts l4.toNatClampNeg).toInt64))), (4, .int l4), (0, .ref f0), (1, .int l1)]) hx hb dX0_sumOf_35 rfl hl (by decide) rfl (fun ls hl => ?_)
          refine lv_iinc (v := l4 + 1) (lv' := [(4, .int (l4 + 1)), (2, .long (l2 + ((famounts l4.toNatClampNeg).toInt64))), (0, .ref f0), (1, .int l1)]) hx hb dX0_sumOf_36 hl (k := 1) rfl (by first | rfl | decide) (by decide) rfl (fun ls hl => ?_)
          refine lv_goto (tgt := 5) hx hb dX0_sumOf_39 (by decide) ?_
          exact ih (l4 + 1) (l2 + ((famounts l4.toNatClampNeg).toInt64)) l1 fkeys fdays famounts fversions fcount _ _ _ hf hP hD hS (lv_sub hl [0, 1, 2, 3] rfl)
  exact lp5 fu_ (0 : Int32) (0 : Int64) a1 fkeys fdays famounts fversions fcount _ _ _ hf hP hD hS hl
theorem hs_X0_sumOf : yX0_sumOf.cls = RX0 ∧ yX0_sumOf.cls ≠ "java/lang/invoke/MethodHandle" ∧ yX0_sumOf.cls ≠ "java/lang/invoke/VarHandle" ∧ (parseMethodDescriptor yX0_sumOf.desc).map (fun d => d.parameters.length) = some 1 := by decide +kernel
set_option maxRecDepth 20000 in
theorem in_X1_isBehind_X1 : ∀ w ∈ wsX10, w ∈ wsX1_isBehind := by decide +kernel
def f_X1_isBehind (a1 : Int32) (a2 : Int32) (a3 : Int32) (R_ : tR_) : Option (Int32) :=
match R_ with
| (rkeys, rdays, rvalues, rcount) =>
gd_ a1 20 (
if a3 < (rdays a1.toNatClampNeg) then
some (1 : Int32)
else
gd_ a1 20 (
if (rdays a1.toNatClampNeg) = a3 then
gd_ a1 20 (
if (rkeys a1.toNatClampNeg) ≤ a2 then
some (0 : Int32)
else
some (1 : Int32))
else
some (0 : Int32)))
abbrev rm_X1_isBehind : Room := { frames := 0, cells := 0, slots := 0, locals := 0 }
set_option maxHeartbeats 4000000 in
set_option maxRecDepth 100000 in
theorem c_X1_isBehind (l : Launch) (dC : Nat → ClassId) (dI : Nat → Nat → Nat) (cI cZ cC cJ cD : ClassId) (r0 r_keys r_days r_values : Nat) (sz : Nat) (rkeys : Nat → Int32) (rdays : Nat → Int32) (rvalues : Nat → Int32) (rcount : Int32) (a1 : Int32) (a2 : Int32) (a3 : Int32) (R : Int32) (hf : f_X1_isBehind a1 a2 a3 (rkeys, rdays, rvalues, rcount) = some R) : Met l yX1_isBehind wsX1_isBehind rm_X1_isBehind (Pc_ (dC, dI) (ty_ cI cZ cC cJ cD) (wR_ r0 r_keys r_days r_values cI rkeys rdays rvalues rcount) sz [.ref r0, .int a1, .int a2, .int a3]) (Qi_ (dC, dI) (ty_ cI cZ cC cJ cD) R (wR_ r0 r_keys r_days r_values cI rkeys rdays rvalues rcount) (va_A (wR_ r0 r_keys r_days r_values cI rkeys rdays rvalues rcount) sz)) 0 0 (va_A (wR_ r0 r_keys r_days r_values cI rkeys rdays rvalues rcount) sz) := by
  refine met_ (cc := cX1_isBehind) (maxL := 4) (ret := (some .boolean)) (Qcf := fun A => Qi_ (dC, dI) (ty_ cI cZ cC cJ cD) R (wR_ r0 r_keys r_days r_values cI rkeys rdays rvalues rcount) A) (by decide) rfl (Nat.le_of_ble_eq_true rfl) ?_
  intro p e s m args below meth c A ls hx hb hr hts hown hlocks hml hA hP hK hD hl
  have hown : s.vm.findClass RX1 = some m.cls := hown
  have hl : lv_has ls 4 [(0, .ref r0), (1, .int a1), (2, .int a2), (3, .int a3)] := hl
  have hS : va_S A s.heap s.heap [] := va_S.rf
  have fl9_ : (Cond.fieldLink RX1 9 "DimensionLoader$Rows" "keys" "[I").before args s = true := hts _ (List.mem_of_getElem? (i := 2) rfl)
  have fl15_ : (Cond.fieldLink RX1 15 "DimensionLoader$Rows" "days" "[I").before args s = true := hts _ (List.mem_of_getElem? (i := 1) rfl)
  have inX1_ : ∀ w ∈ wsX10, w ∈ wsX1_isBehind := in_X1_isBehind_X1
  unfold f_X1_isBehind at hf
  dsimp only at hf
  refine lv_aload_n hx hb dX1_isBehind_0 rfl (lv_at hl 0 rfl) ?_
  refine va_get (D := (dC, dI)) (ci := 3) (v := .ref r_days) (C := RX1) (T := TX1) (N := 4) hx hb hts inX1_ hown hK hP 0 rfl rfl 1 (by decide) fl15_ (fun _ h9 => h9) rfl dX1_isBehind_1 ?_
  refine lv_iload_n hx hb dX1_isBehind_4 rfl (lv_at hl 1 rfl) ?_
  obtain ⟨h1, hf⟩ := gd_T hf
  refine va_iald hx hb hK hP 2 0 rfl rfl h1 dX1_isBehind_5 ?_
  refine lv_iload_n hx hb dX1_isBehind_6 rfl (lv_at hl 3 rfl) ?_
  refine lv_icmp_gt (tgt := 30) hx hb dX1_isBehind_7 (by decide) (fun c2 => ?_) (fun c2 => ?_)
  · have hf := ite_T c2 hf
    refine lv_iconst (v := 1) hx hb dX1_isBehind_30 (by decide) ?_
    refine lv_goto (tgt := 35) hx hb dX1_isBehind_31 (by decide) ?_
    have hR := Option.some.inj hf
    subst hR
    exact W.zret (v := (1 : Int32)) hx hb hr (by decide) (fun t ht hW => ⟨⟨(1 : Int32), (), rfl, rfl, by rw [ht]; exact hP, va_K.moved hW.alike hK, hD⟩, hS.F ht⟩) hS.2.2 dX1_isBehind_35
  · have hf := ite_F c2 hf
    refine lv_aload_n hx hb dX1_isBehind_10 rfl (lv_at hl 0 rfl) ?_
    refine va_get (D := (dC, dI)) (ci := 3) (v := .ref r_days) (C := RX1) (T := TX1) (N := 4) hx hb hts inX1_ hown hK hP 0 rfl rfl 1 (by decide) fl15_ (fun _ h9 => h9) rfl dX1_isBehind_11 ?_
    refine lv_iload_n hx hb dX1_isBehind_14 rfl (lv_at hl 1 rfl) ?_
    obtain ⟨h3, hf⟩ := gd_T hf
    refine va_iald hx hb hK hP 2 0 rfl rfl h3 dX1_isBehind_15 ?_
    refine lv_iload_n hx hb dX1_isBehind_16 rfl (lv_at hl 3 rfl) ?_
    refine lv_icmp_ne (tgt := 34) hx hb dX1_isBehind_17 (by decide) (fun c4 => ?_) (fun c4 => ?_)
    · have hf := ite_F c4 hf
      refine lv_iconst (v := 0) hx hb dX1_isBehind_34 (by decide) ?_
      have hR := Option.some.inj hf
      subst hR
      exact W.zret (v := (0 : Int32)) hx hb hr (by decide) (fun t ht hW => ⟨⟨(0 : Int32), (), rfl, rfl, by rw [ht]; exact hP, va_K.moved hW.alike hK, hD⟩, hS.F ht⟩) hS.2.2 dX1_isBehind_35
    · have hf := ite_T c4 hf
      refine lv_aload_n hx hb dX1_isBehind_20 rfl (lv_at hl 0 rfl) ?_
      refine va_get (D := (dC, dI)) (ci := 3) (v := .ref r_keys) (C := RX1) (T := TX1) (N := 4) hx hb hts inX1_ hown hK hP 0 rfl rfl 0 (by decide) fl9_ (fun _ h9 => h9) rfl dX1_isBehind_21 ?_
      refine lv_iload_n hx hb dX1_isBehind_24 rfl (lv_at hl 1 rfl) ?_
      obtain ⟨h5, hf⟩ := gd_T hf
      refine va_iald hx hb hK hP 1 0 rfl rfl h5 dX1_isBehind_25 ?_
      refine lv_iload_n hx hb dX1_isBehind_26 rfl (lv_at hl 2 rfl) ?_
      refine lv_icmp_le (tgt := 34) hx hb dX1_isBehind_27 (by decide) (fun c6 => ?_) (fun c6 => ?_)
      · have hf := ite_T c6 hf
        refine lv_iconst (v := 0) hx hb dX1_isBehind_34 (by decide) ?_
        have hR := Option.some.inj hf
        subst hR
        exact W.zret (v := (0 : Int32)) hx hb hr (by decide) (fun t ht hW => ⟨⟨(0 : Int32), (), rfl, rfl, by rw [ht]; exact hP, va_K.moved hW.alike hK, hD⟩, hS.F ht⟩) hS.2.2 dX1_isBehind_35
      · have hf := ite_F c6 hf
        refine lv_iconst (v := 1) hx hb dX1_isBehind_30 (by decide) ?_
        refine lv_goto (tgt := 35) hx hb dX1_isBehind_31 (by decide) ?_
        have hR := Option.some.inj hf
        subst hR
        exact W.zret (v := (1 : Int32)) hx hb hr (by decide) (fun t ht hW => ⟨⟨(1 : Int32), (), rfl, rfl, by rw [ht]; exact hP, va_K.moved hW.alike hK, hD⟩, hS.F ht⟩) hS.2.2 dX1_isBehind_35
theorem hs_X1_isBehind : yX1_isBehind.cls = RX1 ∧ yX1_isBehind.cls ≠ "java/lang/invoke/MethodHandle" ∧ yX1_isBehind.cls ≠ "java/lang/invoke/VarHandle" ∧ (parseMethodDescriptor yX1_isBehind.desc).map (fun d => d.parameters.length) = some 3 := by decide +kernel
set_option maxRecDepth 20000 in
theorem in_X1_set_X1 : ∀ w ∈ wsX10, w ∈ wsX1_set := by decide +kernel
def f_X1_set (a1 : Int32) (a2 : Int32) (a3 : Int32) (a4 : Int32) (R_ : tR_) : Option (tR_) :=
match R_ with
| (rkeys, rdays, rvalues, rcount) =>
gd_ a1 20 (nm_ (upd rkeys a1.toNatClampNeg a2) (fun u3 =>
gd_ a1 20 (nm_ (upd rdays a1.toNatClampNeg a3) (fun u7 =>
gd_ a1 20 (nm_ (upd rvalues a1.toNatClampNeg a4) (fun u11 =>
some (u3, u7, u11, rcount)))))))
abbrev rm_X1_set : Room := { frames := 0, cells := 0, slots := 0, locals := 0 }
set_option maxHeartbeats 4000000 in
set_option maxRecDepth 100000 in
theorem c_X1_set (l : Launch) (dC : Nat → ClassId) (dI : Nat → Nat → Nat) (cI cZ cC cJ cD : ClassId) (r0 r_keys r_days r_values : Nat) (sz : Nat) (rkeys : Nat → Int32) (rdays : Nat → Int32) (rvalues : Nat → Int32) (rcount : Int32) (a1 : Int32) (a2 : Int32) (a3 : Int32) (a4 : Int32) (R : tR_) (hf : f_X1_set a1 a2 a3 a4 (rkeys, rdays, rvalues, rcount) = some R) : Met l yX1_set wsX1_set rm_X1_set (Pc_ (dC, dI) (ty_ cI cZ cC cJ cD) (wR_ r0 r_keys r_days r_values cI rkeys rdays rvalues rcount) sz [.ref r0, .int a1, .int a2, .int a3, .int a4]) (Qv_ (dC, dI) (ty_ cI cZ cC cJ cD) (wR_ r0 r_keys r_days r_values cI R.1 R.2.1 R.2.2.1 R.2.2.2) (va_A (wR_ r0 r_keys r_days r_values cI rkeys rdays rvalues rcount) sz)) 0 0 (va_A (wR_ r0 r_keys r_days r_values cI rkeys rdays rvalues rcount) sz) := by
  refine met_ (cc := cX1_set) (maxL := 5) (ret := none) (Qcf := fun A => Qv_ (dC, dI) (ty_ cI cZ cC cJ cD) (wR_ r0 r_keys r_days r_values cI R.1 R.2.1 R.2.2.1 R.2.2.2) A) (by decide) rfl (Nat.le_of_ble_eq_true rfl) ?_
  intro p e s m args below meth c A ls hx hb hr hts hown hlocks hml hA hP hK hD hl
  have hown : s.vm.findClass RX1 = some m.cls := hown
  have hl : lv_has ls 5 [(0, .ref r0), (1, .int a1), (2, .int a2), (3, .int a3), (4, .int a4)] := hl
  have hS : va_S A s.heap s.heap [] := va_S.rf
  have fl9_ : (Cond.fieldLink RX1 9 "DimensionLoader$Rows" "keys" "[I").before args s = true := hts _ (List.mem_of_getElem? (i := 1) rfl)
  have fl15_ : (Cond.fieldLink RX1 15 "DimensionLoader$Rows" "days" "[I").before args s = true := hts _ (List.mem_of_getElem? (i := 2) rfl)
  have fl18_ : (Cond.fieldLink RX1 18 "DimensionLoader$Rows" "values" "[I").before args s = true := hts _ (List.mem_of_getElem? (i := 3) rfl)
  have inX1_ : ∀ w ∈ wsX10, w ∈ wsX1_set := in_X1_set_X1
  unfold f_X1_set at hf
  dsimp only at hf
  refine lv_aload_n hx hb dX1_set_0 rfl (lv_at hl 0 rfl) ?_
  refine va_get (D := (dC, dI)) (ci := 3) (v := .ref r_keys) (C := RX1) (T := TX1) (N := 4) hx hb hts inX1_ hown hK hP 0 rfl rfl 0 (by decide) fl9_ (fun _ h9 => h9) rfl dX1_set_1 ?_
  refine lv_iload_n hx hb dX1_set_4 rfl (lv_at hl 1 rfl) ?_
  refine lv_iload_n hx hb dX1_set_5 rfl (lv_at hl 2 rfl) ?_
  obtain ⟨h1, hf⟩ := gd_T hf
  refine va_iast hx hb hK hP hD hS 1 0 rfl rfl h1 dX1_set_6 (fun H2 locs hP hD hS => ?_)
  have hP : va_P (dC, dI) vwCl (wR_ r0 r_keys r_days r_values cI (upd rkeys a1.toNatClampNeg a2) rdays rvalues rcount) H2 := hP
  have hD : va_D A (wR_ r0 r_keys r_days r_values cI (upd rkeys a1.toNatClampNeg a2) rdays rvalues rcount) := hD
  obtain ⟨u3, e4, hf⟩ := nm_T hf
  rw [← e4] at hP hD
  refine lv_aload_n hx hb dX1_set_7 rfl (lv_at hl 0 rfl) ?_
  refine va_get (D := (dC, dI)) (ci := 3) (v := .ref r_days) (C := RX1) (T := TX1) (N := 4) hx hb hts inX1_ hown hK hP 0 rfl rfl 1 (by decide) fl15_ (fun _ h9 => h9) rfl dX1_set_8 ?_
  refine lv_iload_n hx hb dX1_set_11 rfl (lv_at hl 1 rfl) ?_
  refine lv_iload_n hx hb dX1_set_12 rfl (lv_at hl 3 rfl) ?_
  obtain ⟨h5, hf⟩ := gd_T hf
  refine va_iast hx hb hK hP hD hS 2 0 rfl rfl h5 dX1_set_13 (fun H6 locs hP hD hS => ?_)
  have hP : va_P (dC, dI) vwCl (wR_ r0 r_keys r_days r_values cI u3 (upd rdays a1.toNatClampNeg a3) rvalues rcount) H6 := hP
  have hD : va_D A (wR_ r0 r_keys r_days r_values cI u3 (upd rdays a1.toNatClampNeg a3) rvalues rcount) := hD
  obtain ⟨u7, e8, hf⟩ := nm_T hf
  rw [← e8] at hP hD
  refine lv_aload_n hx hb dX1_set_14 rfl (lv_at hl 0 rfl) ?_
  refine va_get (D := (dC, dI)) (ci := 3) (v := .ref r_values) (C := RX1) (T := TX1) (N := 4) hx hb hts inX1_ hown hK hP 0 rfl rfl 2 (by decide) fl18_ (fun _ h9 => h9) rfl dX1_set_15 ?_
  refine lv_iload_n hx hb dX1_set_18 rfl (lv_at hl 1 rfl) ?_
  refine lv_iload hx hb dX1_set_19 (lv_at hl 4 rfl) ?_
  obtain ⟨h9, hf⟩ := gd_T hf
  refine va_iast hx hb hK hP hD hS 3 0 rfl rfl h9 dX1_set_21 (fun H10 locs hP hD hS => ?_)
  have hP : va_P (dC, dI) vwCl (wR_ r0 r_keys r_days r_values cI u3 u7 (upd rvalues a1.toNatClampNeg a4) rcount) H10 := hP
  have hD : va_D A (wR_ r0 r_keys r_days r_values cI u3 u7 (upd rvalues a1.toNatClampNeg a4) rcount) := hD
  obtain ⟨u11, e12, hf⟩ := nm_T hf
  rw [← e12] at hP hD
  have hR := Option.some.inj hf
  subst hR
  exact W.vret hx hb hr (fun t ht hW => ⟨⟨(), rfl, trivial, by rw [ht]; exact hP, va_K.moved hW.alike hK, hD⟩, hS.F ht⟩) hS.2.2 dX1_set_22
theorem hs_X1_set : yX1_set.cls = RX1 ∧ yX1_set.cls ≠ "java/lang/invoke/MethodHandle" ∧ yX1_set.cls ≠ "java/lang/invoke/VarHandle" ∧ (parseMethodDescriptor yX1_set.desc).map (fun d => d.parameters.length) = some 4 := by decide +kernel
set_option maxRecDepth 20000 in
theorem in_X1_insert_X1 : ∀ w ∈ wsX10, w ∈ wsX1_insert := by decide +kernel
def f_X1_insert_S17 (k_ : Int32 → Int32 → Int32 → Int32 → tR_ → Option (Int32 × tR_)) (l4 : Int32) (l1 : Int32) (l2 : Int32) (l3 : Int32) (R_ : tR_) : Option (Int32 × tR_) :=
match R_ with
| (rkeys, rdays, rvalues, rcount) =>
if l4 ≤ 0 then
bd_ (f_X1_set l4 l1 l2 l3 (rkeys, rdays, rvalues, rcount)) (fun (rk4, rd5, rv6, rc7) =>
some ((1 : Int32), (rk4, rd5, rv6, rc7 + 1)))
else
bd_ (f_X1_isBehind (l4 - 1) l1 l2 (rkeys, rdays, rvalues, rcount)) (fun r13 =>
if r13 = 0 then
bd_ (f_X1_set l4 l1 l2 l3 (rkeys, rdays, rvalues, rcount)) (fun (rk19, rd20, rv21, rc22) =>
some ((1 : Int32), (rk19, rd20, rv21, rc22 + 1)))
else
gd_ (l4 - 1) 20 (
gd_ (l4 - 1) 20 (
gd_ (l4 - 1) 20 (
bd_ (f_X1_set l4 (rkeys ((l4 - 1).toNatClampNeg)) (rdays ((l4 - 1).toNatClampNeg)) (rvalues ((l4 - 1).toNatClampNeg)) (rkeys, rdays, rvalues, rcount)) (fun (rk31, rd32, rv33, rc34) =>
k_ (l4 + (-1)) l1 l2 l3 (rk31, rd32, rv33, rc34))))))
def f_X1_insert_L17 : Nat → Int32 → Int32 → Int32 → Int32 → tR_ → Option (Int32 × tR_)
  | 0 => fun _ _ _ _ _ => none
  | n + 1 => fun l4 l1 l2 l3 R_ => f_X1_insert_S17 (f_X1_insert_L17 n) l4 l1 l2 l3 R_
def f_X1_insert (a1 : Int32) (a2 : Int32) (a3 : Int32) (R_ : tR_) : Option (Int32 × tR_) :=
match R_ with
| (rkeys, rdays, rvalues, rcount) =>
if rcount < 20 then
f_X1_insert_L17 fu_ rcount a1 a2 a3 (rkeys, rdays, rvalues, rcount)
else
some ((0 : Int32), (rkeys, rdays, rvalues, rcount))
abbrev rm_X1_insert : Room := { frames := 1, cells := 0, slots := 0, locals := 24 }
set_option maxHeartbeats 4000000 in
set_option maxRecDepth 100000 in
theorem c_X1_insert (l : Launch) (dC : Nat → ClassId) (dI : Nat → Nat → Nat) (cI cZ cC cJ cD : ClassId) (r0 r_keys r_days r_values : Nat) (sz : Nat) (rkeys : Nat → Int32) (rdays : Nat → Int32) (rvalues : Nat → Int32) (rcount : Int32) (a1 : Int32) (a2 : Int32) (a3 : Int32) (R : Int32 × tR_) (hf : f_X1_insert a1 a2 a3 (rkeys, rdays, rvalues, rcount) = some R) : Met l yX1_insert wsX1_insert rm_X1_insert (Pc_ (dC, dI) (ty_ cI cZ cC cJ cD) (wR_ r0 r_keys r_days r_values cI rkeys rdays rvalues rcount) sz [.ref r0, .int a1, .int a2, .int a3]) (Qi_ (dC, dI) (ty_ cI cZ cC cJ cD) R.1 (wR_ r0 r_keys r_days r_values cI R.2.1 R.2.2.1 R.2.2.2.1 R.2.2.2.2) (va_A (wR_ r0 r_keys r_days r_values cI rkeys rdays rvalues rcount) sz)) 0 0 (va_A (wR_ r0 r_keys r_days r_values cI rkeys rdays rvalues rcount) sz) := by
  refine met_ (cc := cX1_insert) (maxL := 5) (ret := (some .boolean)) (Qcf := fun A => Qi_ (dC, dI) (ty_ cI cZ cC cJ cD) R.1 (wR_ r0 r_keys r_days r_values cI R.2.1 R.2.2.1 R.2.2.2.1 R.2.2.2.2) A) (by decide) rfl (Nat.le_of_ble_eq_true rfl) ?_
  intro p e s m args below meth c A ls hx hb hr hts hown hlocks hml hA hP hK hD hl
  have hown : s.vm.findClass RX1 = some m.cls := hown
  have hl : lv_has ls 5 [(0, .ref r0), (1, .int a1), (2, .int a2), (3, .int a3)] := hl
  have hS : va_S A s.heap s.heap [] := va_S.rf
  have fl9_ : (Cond.fieldLink RX1 9 "DimensionLoader$Rows" "keys" "[I").before args s = true := hts _ (List.mem_of_getElem? (i := 2) rfl)
  have fl15_ : (Cond.fieldLink RX1 15 "DimensionLoader$Rows" "days" "[I").before args s = true := hts _ (List.mem_of_getElem? (i := 3) rfl)
  have fl18_ : (Cond.fieldLink RX1 18 "DimensionLoader$Rows" "values" "[I").before args s = true := hts _ (List.mem_of_getElem? (i := 4) rfl)
  have fl21_ : (Cond.fieldLink RX1 21 "DimensionLoader$Rows" "count" "I").before args s = true := hts _ (List.mem_of_getElem? (i := 1) rfl)
  have inX1_ : ∀ w ∈ wsX10, w ∈ wsX1_insert := in_X1_insert_X1
  unfold f_X1_insert at hf
  dsimp only at hf
  refine lv_aload_n hx hb dX1_insert_0 rfl (lv_at hl 0 rfl) ?_
  refine va_get (D := (dC, dI)) (ci := 3) (v := .int rcount) (C := RX1) (T := TX1) (N := 4) hx hb hts inX1_ hown hK hP 0 rfl rfl 3 (by decide) fl21_ (fun _ h9 => h9) rfl dX1_insert_1 ?_
  refine lv_bipush (v := 20) hx hb dX1_insert_4 (by decide) ?_
  refine lv_icmp_lt (tgt := 11) hx hb dX1_insert_6 (by decide) (fun c1 => ?_) (fun c1 => ?_)
  · have hf := ite_T c1 hf
    refine lv_aload_n hx hb dX1_insert_11 rfl (lv_at hl 0 rfl) ?_
    refine va_get (D := (dC, dI)) (ci := 3) (v := .int rcount) (C := RX1) (T := TX1) (N := 4) hx hb hts inX1_ hown hK hP 0 rfl rfl 3 (by decide) fl21_ (fun _ h9 => h9) rfl dX1_insert_12 ?_
    refine lv_istore (lv' := [(4, .int rcount), (0, .ref r0), (1, .int a1), (2, .int a2), (3, .int a3)]) hx hb dX1_insert_15 hl (by decide) rfl (fun ls hl => ?_)
    have lp17 : ∀ (n : Nat) (l4 : Int32) (l1 : Int32) (l2 : Int32) (l3 : Int32) (rkeys : Nat → Int32) (rdays : Nat → Int32) (rvalues : Nat → Int32) (rcount : Int32) (H2 : Heap) (locs : List Loc) (ls : Array Slot), f_X1_insert_L17 n l4 l1 l2 l3 (rkeys, rdays, rvalues, rcount) = some R → va_P (dC, dI) vwCl (wR_ r0 r_keys r_days r_values cI rkeys rdays rvalues rcount) H2 → va_D A (wR_ r0 r_keys r_days r_values cI rkeys rdays rvalues rcount) → va_S A s.heap H2 locs → lv_has ls 5 [(4, .int l4), (0, .ref r0), (1, .int l1), (2, .int l2), (3, .int l3)] → W p l e (headSpec wsX1_insert rm_X1_insert).room s m args below meth c H2 locs 0 0 (MQ below (Qi_ (dC, dI) (ty_ cI cZ cC cJ cD) R.1 (wR_ r0 r_keys r_days r_values cI R.2.1 R.2.2.1 R.2.2.2.1 R.2.2.2.2) A) args s 0 0 A) (F0 m 17 ls []) := by
      intro n
      induction n with
      | zero => intro l4 l1 l2 l3 rkeys rdays rvalues rcount H2 locs ls hf hP hD hS hl; exact absurd hf (by simp [f_X1_insert_L17])
      | succ n ih =>
        intro l4 l1 l2 l3 rkeys rdays rvalues rcount H2 locs ls hf hP hD hS hl
        have hf : f_X1_insert_S17 (f_X1_insert_L17 n) l4 l1 l2 l3 (rkeys, rdays, rvalues, rcount) = some R := hf
        unfold f_X1_insert_S17 at hf
        dsimp only at hf
        refine lv_iload hx hb dX1_insert_17 (lv_at hl 0 rfl) ?_
        refine lv_if_le (tgt := 74) hx hb dX1_insert_19 (by decide) (fun c3 => ?_) (fun c3 => ?_)
        · have hf := ite_T c3 hf
          refine lv_aload_n hx hb dX1_insert_74 rfl (lv_at hl 1 rfl) ?_
          refine lv_iload hx hb dX1_insert_75 (lv_at hl 0 rfl) ?_
          refine lv_iload_n hx hb dX1_insert_77 rfl (lv_at hl 2 rfl) ?_
          refine lv_iload_n hx hb dX1_insert_78 rfl (lv_at hl 3 rfl) ?_
          refine lv_iload_n hx hb dX1_insert_79 rfl (lv_at hl 4 rfl) ?_
          obtain ⟨R8, g9, hf⟩ := bd_B hf
          obtain ⟨rk4, rd5, rv6, rc7⟩ := R8
          dsimp only at hf
          have hPc := hP
          have hDc := hD
          have hFc := va_free (wc := wR_ r0 r_keys r_days r_values cI rkeys rdays rvalues rcount) hD hS hA [0, 1, 2, 3] rfl
          refine va_callv (va_runV (As := [.int l4, .int l1, .int l2, .int l3]) (rest := []) ⟨hx, hb, hml, hown, hts⟩ (c_X1_set l dC dI cI cZ cC cJ cD r0 r_keys r_days r_values H2.size rkeys rdays rvalues rcount l4 l1 l2 l3 (rk4, rd5, rv6, rc7) g9) (cwV 4 hts gX1_insert_X1_set rfl rfl rfl hs_X1_set ⟨Nat.le_of_ble_eq_true rfl, Nat.le_of_ble_eq_true rfl⟩) (preV_ (ci := 3) (q0 := 0) hPc hK hDc rfl rfl rfl rfl) rfl rfl hl.1 rfl (lv_room (Nat.le_of_ble_eq_true rfl)) dX1_insert_80 ⟨Nat.le_of_ble_eq_true rfl, Nat.le_of_ble_eq_true rfl⟩) hS (fun q _ h => hFc q h) hFc (fun u t H10 locs ht hvm hw hB hz1 hk1 hS => ?_)
          obtain ⟨hP, hD⟩ := aft_ (Wr := []) (Wc' := wR_ r0 r_keys r_days r_values cI rk4 rd5 rv6 rc7) (W2 := wR_ r0 r_keys r_days r_values cI rk4 rd5 rv6 rc7) hP hD [0, 1, 2, 3] [] [0, 1, 2, 3] rfl rfl (by decide) (by decide) (by decide) hk1 hFc hB ht rfl
          refine lv_aload_n hx hb dX1_insert_83 rfl (lv_at hl 1 rfl) ?_
          refine lv_dup hx hb dX1_insert_84 rfl ?_
          refine va_get (D := (dC, dI)) (ci := 3) (v := .int rc7) (C := RX1) (T := TX1) (N := 4) hx hb hts inX1_ hown hK hP 0 rfl rfl 3 (by decide) fl21_ (fun _ h9 => h9) rfl dX1_insert_85 ?_
          refine lv_iconst (v := 1) hx hb dX1_insert_88 (by decide) ?_
          refine lv_iadd hx hb dX1_insert_89 ?_
          refine va_put (D := (dC, dI)) (ci := 3) (v := .int (rc7 + 1)) (ty := .int) (C := RX1) (T := TX1) (N := 4) hx hb hts inX1_ tyX1 tyX1_ok nmX1 hown hK hP hD hS 0 rfl rfl 3 (by decide) fl21_ (fun _ h9 => h9) rfl (by decide +kernel) (by first | rfl | decide) (by first | rfl | decide) (Nat.le_of_ble_eq_true rfl) dX1_insert_90 (fun H12 locs hP hD hS => ?_)
          have hP : va_P (dC, dI) vwCl (wR_ r0 r_keys r_days r_values cI rk4 rd5 rv6 (rc7 + 1)) H12 := hP
          have hD : va_D A (wR_ r0 r_keys r_days r_values cI rk4 rd5 rv6 (rc7 + 1)) := hD
          refine lv_iconst (v := 1) hx hb dX1_insert_93 (by decide) ?_
          have hR := Option.some.inj hf
          subst hR
          exact W.zret (v := (1 : Int32)) hx hb hr (by decide) (fun t ht hW => ⟨⟨(1 : Int32), (), rfl, rfl, by rw [ht]; exact hP, va_K.moved hW.alike hK, hD⟩, hS.F ht⟩) hS.2.2 dX1_insert_94
        · have hf := ite_F c3 hf
          refine lv_aload_n hx hb dX1_insert_22 rfl (lv_at hl 1 rfl) ?_
          refine lv_iload hx hb dX1_insert_23 (lv_at hl 0 rfl) ?_
          refine lv_iconst (v := 1) hx hb dX1_insert_25 (by decide) ?_
          refine lv_isub hx hb dX1_insert_26 ?_
          refine lv_iload_n hx hb dX1_insert_27 rfl (lv_at hl 2 rfl) ?_
          refine lv_iload_n hx hb dX1_insert_28 rfl (lv_at hl 3 rfl) ?_
          obtain ⟨R14, g15, hf⟩ := bd_B hf
          obtain ⟨r13, rfl⟩ : ∃ z, z = R14 := ⟨_, rfl⟩
          have hPc := hP
          have hDc := hD
          have hFc := va_free (wc := wR_ r0 r_keys r_days r_values cI rkeys rdays rvalues rcount) hD hS hA [0, 1, 2, 3] rfl
          refine va_calli (va_runV (As := [.int (l4 - 1), .int l1, .int l2]) (rest := []) ⟨hx, hb, hml, hown, hts⟩ (c_X1_isBehind l dC dI cI cZ cC cJ cD r0 r_keys r_days r_values H2.size rkeys rdays rvalues rcount (l4 - 1) l1 l2 r13 g15) (cwV 3 hts gX1_insert_X1_isBehind rfl rfl rfl hs_X1_isBehind ⟨Nat.le_of_ble_eq_true rfl, Nat.le_of_ble_eq_true rfl⟩) (preV_ (ci := 3) (q0 := 0) hPc hK hDc rfl rfl rfl rfl) rfl rfl hl.1 rfl (lv_room (Nat.le_of_ble_eq_true rfl)) dX1_insert_29 ⟨Nat.le_of_ble_eq_true rfl, Nat.le_of_ble_eq_true rfl⟩) hS (fun q _ h => hFc q h) hFc (fun z17 u t H16 locs ht hvm hw hB hz1 hk1 hS => ?_)
          have hw : r13 = z17 := hw.symm
          subst hw
          obtain ⟨hP, hD⟩ := aft_ (Wr := []) (Wc' := wR_ r0 r_keys r_days r_values cI rkeys rdays rvalues rcount) (W2 := wR_ r0 r_keys r_days r_values cI rkeys rdays rvalues rcount) hP hD [0, 1, 2, 3] [] [0, 1, 2, 3] rfl rfl (by decide) (by decide) (by decide) hk1 hFc hB ht rfl
          refine lv_if_eq (tgt := 74) hx hb dX1_insert_32 (by decide) (fun c18 => ?_) (fun c18 => ?_)
          · have hf := ite_T c18 hf
            refine lv_aload_n hx hb dX1_insert_74 rfl (lv_at hl 1 rfl) ?_
            refine lv_iload hx hb dX1_insert_75 (lv_at hl 0 rfl) ?_
            refine lv_iload_n hx hb dX1_insert_77 rfl (lv_at hl 2 rfl) ?_
            refine lv_iload_n hx hb dX1_insert_78 rfl (lv_at hl 3 rfl) ?_
            refine lv_iload_n hx hb dX1_insert_79 rfl (lv_at hl 4 rfl) ?_
            obtain ⟨R23, g24, hf⟩ := bd_B hf
            obtain ⟨rk19, rd20, rv21, rc22⟩ := R23
            dsimp only at hf
            have hPc := hP
            have hDc := hD
            have hFc := va_free (wc := wR_ r0 r_keys r_days r_values cI rkeys rdays rvalues rcount) hD hS hA [0, 1, 2, 3] rfl
            refine va_callv (va_runV (As := [.int l4, .int l1, .int l2, .int l3]) (rest := []) ⟨hx, hb, hml, hown, hts⟩ (c_X1_set l dC dI cI cZ cC cJ cD r0 r_keys r_days r_values H16.size rkeys rdays rvalues rcount l4 l1 l2 l3 (rk19, rd20, rv21, rc22) g24) (cwV 4 hts gX1_insert_X1_set rfl rfl rfl hs_X1_set ⟨Nat.le_of_ble_eq_true rfl, Nat.le_of_ble_eq_true rfl⟩) (preV_ (ci := 3) (q0 := 0) hPc hK hDc rfl rfl rfl rfl) rfl rfl hl.1 rfl (lv_room (Nat.le_of_ble_eq_true rfl)) dX1_insert_80 ⟨Nat.le_of_ble_eq_true rfl, Nat.le_of_ble_eq_true rfl⟩) hS (fun q _ h => hFc q h) hFc (fun u t H25 locs ht hvm hw hB hz1 hk1 hS => ?_)
            obtain ⟨hP, hD⟩ := aft_ (Wr := []) (Wc' := wR_ r0 r_keys r_days r_values cI rk19 rd20 rv21 rc22) (W2 := wR_ r0 r_keys r_days r_values cI rk19 rd20 rv21 rc22) hP hD [0, 1, 2, 3] [] [0, 1, 2, 3] rfl rfl (by decide) (by decide) (by decide) hk1 hFc hB ht rfl
            refine lv_aload_n hx hb dX1_insert_83 rfl (lv_at hl 1 rfl) ?_
            refine lv_dup hx hb dX1_insert_84 rfl ?_
            refine va_get (D := (dC, dI)) (ci := 3) (v := .int rc22) (C := RX1) (T := TX1) (N := 4) hx hb hts inX1_ hown hK hP 0 rfl rfl 3 (by decide) fl21_ (fun _ h9 => h9) rfl dX1_insert_85 ?_
            refine lv_iconst (v := 1) hx hb dX1_insert_88 (by decide) ?_
            refine lv_iadd hx hb dX1_insert_89 ?_
            refine va_put (D := (dC, dI)) (ci := 3) (v := .int (rc22 + 1)) (ty := .int) (C := RX1) (T := TX1) (N := 4) hx hb hts inX1_ tyX1 tyX1_ok nmX1 hown hK hP hD hS 0 rfl rfl 3 (by decide) fl21_ (fun _ h9 => h9) rfl (by decide +kernel) (by first | rfl | decide) (by first | rfl | decide) (Nat.le_of_ble_eq_true rfl) dX1_insert_90 (fun H27 locs hP hD hS => ?_)
            have hP : va_P (dC, dI) vwCl (wR_ r0 r_keys r_days r_values cI rk19 rd20 rv21 (rc22 + 1)) H27 := hP
            have hD : va_D A (wR_ r0 r_keys r_days r_values cI rk19 rd20 rv21 (rc22 + 1)) := hD
            refine lv_iconst (v := 1) hx hb dX1_insert_93 (by decide) ?_
            have hR := Option.some.inj hf
            subst hR
            exact W.zret (v := (1 : Int32)) hx hb hr (by decide) (fun t ht hW => ⟨⟨(1 : Int32), (), rfl, rfl, by rw [ht]; exact hP, va_K.moved hW.alike hK, hD⟩, hS.F ht⟩) hS.2.2 dX1_insert_94
          · have hf := ite_F c18 hf
            refine lv_aload_n hx hb dX1_insert_35 rfl (lv_at hl 1 rfl) ?_
            refine lv_iload hx hb dX1_insert_36 (lv_at hl 0 rfl) ?_
            refine lv_aload_n hx hb dX1_insert_38 rfl (lv_at hl 1 rfl) ?_
            refine va_get (D := (dC, dI)) (ci := 3) (v := .ref r_keys) (C := RX1) (T := TX1) (N := 4) hx hb hts inX1_ hown hK hP 0 rfl rfl 0 (by decide) fl9_ (fun _ h9 => h9) rfl dX1_insert_39 ?_
            refine lv_iload hx hb dX1_insert_42 (lv_at hl 0 rfl) ?_
            refine lv_iconst (v := 1) hx hb dX1_insert_44 (by decide) ?_
            refine lv_isub hx hb dX1_insert_45 ?_
            obtain ⟨h28, hf⟩ := gd_T hf
            refine va_iald hx hb hK hP 1 0 rfl rfl h28 dX1_insert_46 ?_
            refine lv_aload_n hx hb dX1_insert_47 rfl (lv_at hl 1 rfl) ?_
            refine va_get (D := (dC, dI)) (ci := 3) (v := .ref r_days) (C := RX1) (T := TX1) (N := 4) hx hb hts inX1_ hown hK hP 0 rfl rfl 1 (by decide) fl15_ (fun _ h9 => h9) rfl dX1_insert_48 ?_
            refine lv_iload hx hb dX1_insert_51 (lv_at hl 0 rfl) ?_
            refine lv_iconst (v := 1) hx hb dX1_insert_53 (by decide) ?_
            refine lv_isub hx hb dX1_insert_54 ?_
            obtain ⟨h29, hf⟩ := gd_T hf
            refine va_iald hx hb hK hP 2 0 rfl rfl h29 dX1_insert_55 ?_
            refine lv_aload_n hx hb dX1_insert_56 rfl (lv_at hl 1 rfl) ?_
            refine va_get (D := (dC, dI)) (ci := 3) (v := .ref r_values) (C := RX1) (T := TX1) (N := 4) hx hb hts inX1_ hown hK hP 0 rfl rfl 2 (by decide) fl18_ (fun _ h9 => h9) rfl dX1_insert_57 ?_
            refine lv_iload hx hb dX1_insert_60 (lv_at hl 0 rfl) ?_
            refine lv_iconst (v := 1) hx hb dX1_insert_62 (by decide) ?_
            refine lv_isub hx hb dX1_insert_63 ?_
            obtain ⟨h30, hf⟩ := gd_T hf
            refine va_iald hx hb hK hP 3 0 rfl rfl h30 dX1_insert_64 ?_
            obtain ⟨R35, g36, hf⟩ := bd_B hf
            obtain ⟨rk31, rd32, rv33, rc34⟩ := R35
            dsimp only at hf
            have hPc := hP
            have hDc := hD
            have hFc := va_free (wc := wR_ r0 r_keys r_days r_values cI rkeys rdays rvalues rcount) hD hS hA [0, 1, 2, 3] rfl
            refine va_callv (va_runV (As := [.int l4, .int (rkeys ((l4 - 1).toNatClampNeg)), .int (rdays ((l4 - 1).toNatClampNeg)), .int (rvalues ((l4 - 1).toNatClampNeg))]) (rest := []) ⟨hx, hb, hml, hown, hts⟩ (c_X1_set l dC dI cI cZ cC cJ cD r0 r_keys r_days r_values H16.size rkeys rdays rvalues rcount l4 (rkeys ((l4 - 1).toNatClampNeg)) (rdays ((l4 - 1).toNatClampNeg)) (rvalues ((l4 - 1).toNatClampNeg)) (rk31, rd32, rv33, rc34) g36) (cwV 4 hts gX1_insert_X1_set rfl rfl rfl hs_X1_set ⟨Nat.le_of_ble_eq_true rfl, Nat.le_of_ble_eq_true rfl⟩) (preV_ (ci := 3) (q0 := 0) hPc hK hDc rfl rfl rfl rfl) rfl rfl hl.1 rfl (lv_room (Nat.le_of_ble_eq_true rfl)) dX1_insert_65 ⟨Nat.le_of_ble_eq_true rfl, Nat.le_of_ble_eq_true rfl⟩) hS (fun q _ h => hFc q h) hFc (fun u t H37 locs ht hvm hw hB hz1 hk1 hS => ?_)
            obtain ⟨hP, hD⟩ := aft_ (Wr := []) (Wc' := wR_ r0 r_keys r_days r_values cI rk31 rd32 rv33 rc34) (W2 := wR_ r0 r_keys r_days r_values cI rk31 rd32 rv33 rc34) hP hD [0, 1, 2, 3] [] [0, 1, 2, 3] rfl rfl (by decide) (by decide) (by decide) hk1 hFc hB ht rfl
            refine lv_iinc (v := l4 + (-1)) (lv' := [(4, .int (l4 + (-1))), (0, .ref r0), (1, .int l1), (2, .int l2), (3, .int l3)]) hx hb dX1_insert_68 hl (k := 0) rfl (by first | rfl | decide) (by decide) rfl (fun ls hl => ?_)
            refine lv_goto (tgt := 17) hx hb dX1_insert_71 (by decide) ?_
            exact ih (l4 + (-1)) l1 l2 l3 rk31 rd32 rv33 rc34 _ _ _ hf hP hD hS (lv_sub hl [0, 1, 2, 3, 4] rfl)
    exact lp17 fu_ rcount a1 a2 a3 rkeys rdays rvalues rcount _ _ _ hf hP hD hS hl
  · have hf := ite_F c1 hf
    refine lv_iconst (v := 0) hx hb dX1_insert_9 (by decide) ?_
    have hR := Option.some.inj hf
    subst hR
    exact W.zret (v := (0 : Int32)) hx hb hr (by decide) (fun t ht hW => ⟨⟨(0 : Int32), (), rfl, rfl, by rw [ht]; exact hP, va_K.moved hW.alike hK, hD⟩, hS.F ht⟩) hS.2.2 dX1_insert_10
theorem hs_X1_insert : yX1_insert.cls = RX1 ∧ yX1_insert.cls ≠ "java/lang/invoke/MethodHandle" ∧ yX1_insert.cls ≠ "java/lang/invoke/VarHandle" ∧ (parseMethodDescriptor yX1_insert.desc).map (fun d => d.parameters.length) = some 3 := by decide +kernel
set_option maxRecDepth 20000 in
theorem in_X1_addLast_X1 : ∀ w ∈ wsX10, w ∈ wsX1_addLast := by decide +kernel
def f_X1_addLast (a1 : Int32) (a2 : Int32) (a3 : Int32) (R_ : tR_) : Option (Int32 × tR_) :=
match R_ with
| (rkeys, rdays, rvalues, rcount) =>
if rcount < 20 then
bd_ (f_X1_set rcount a1 a2 a3 (rkeys, rdays, rvalues, rcount)) (fun (rk2, rd3, rv4, rc5) =>
some ((1 : Int32), (rk2, rd3, rv4, rc5 + 1)))
else
some ((0 : Int32), (rkeys, rdays, rvalues, rcount))
abbrev rm_X1_addLast : Room := { frames := 1, cells := 0, slots := 0, locals := 24 }
set_option maxHeartbeats 4000000 in
set_option maxRecDepth 100000 in
theorem c_X1_addLast (l : Launch) (dC : Nat → ClassId) (dI : Nat → Nat → Nat) (cI cZ cC cJ cD : ClassId) (r0 r_keys r_days r_values : Nat) (sz : Nat) (rkeys : Nat → Int32) (rdays : Nat → Int32) (rvalues : Nat → Int32) (rcount : Int32) (a1 : Int32) (a2 : Int32) (a3 : Int32) (R : Int32 × tR_) (hf : f_X1_addLast a1 a2 a3 (rkeys, rdays, rvalues, rcount) = some R) : Met l yX1_addLast wsX1_addLast rm_X1_addLast (Pc_ (dC, dI) (ty_ cI cZ cC cJ cD) (wR_ r0 r_keys r_days r_values cI rkeys rdays rvalues rcount) sz [.ref r0, .int a1, .int a2, .int a3]) (Qi_ (dC, dI) (ty_ cI cZ cC cJ cD) R.1 (wR_ r0 r_keys r_days r_values cI R.2.1 R.2.2.1 R.2.2.2.1 R.2.2.2.2) (va_A (wR_ r0 r_keys r_days r_values cI rkeys rdays rvalues rcount) sz)) 0 0 (va_A (wR_ r0 r_keys r_days r_values cI rkeys rdays rvalues rcount) sz) := by
  refine met_ (cc := cX1_addLast) (maxL := 4) (ret := (some .boolean)) (Qcf := fun A => Qi_ (dC, dI) (ty_ cI cZ cC cJ cD) R.1 (wR_ r0 r_keys r_days r_values cI R.2.1 R.2.2.1 R.2.2.2.1 R.2.2.2.2) A) (by decide) rfl (Nat.le_of_ble_eq_true rfl) ?_
  intro p e s m args below meth c A ls hx hb hr hts hown hlocks hml hA hP hK hD hl
  have hown : s.vm.findClass RX1 = some m.cls := hown
  have hl : lv_has ls 4 [(0, .ref r0), (1, .int a1), (2, .int a2), (3, .int a3)] := hl
  have hS : va_S A s.heap s.heap [] := va_S.rf
  have fl21_ : (Cond.fieldLink RX1 21 "DimensionLoader$Rows" "count" "I").before args s = true := hts _ (List.mem_of_getElem? (i := 1) rfl)
  have inX1_ : ∀ w ∈ wsX10, w ∈ wsX1_addLast := in_X1_addLast_X1
  unfold f_X1_addLast at hf
  dsimp only at hf
  refine lv_aload_n hx hb dX1_addLast_0 rfl (lv_at hl 0 rfl) ?_
  refine va_get (D := (dC, dI)) (ci := 3) (v := .int rcount) (C := RX1) (T := TX1) (N := 4) hx hb hts inX1_ hown hK hP 0 rfl rfl 3 (by decide) fl21_ (fun _ h9 => h9) rfl dX1_addLast_1 ?_
  refine lv_bipush (v := 20) hx hb dX1_addLast_4 (by decide) ?_
  refine lv_icmp_lt (tgt := 11) hx hb dX1_addLast_6 (by decide) (fun c1 => ?_) (fun c1 => ?_)
  · have hf := ite_T c1 hf
    refine lv_aload_n hx hb dX1_addLast_11 rfl (lv_at hl 0 rfl) ?_
    refine lv_aload_n hx hb dX1_addLast_12 rfl (lv_at hl 0 rfl) ?_
    refine va_get (D := (dC, dI)) (ci := 3) (v := .int rcount) (C := RX1) (T := TX1) (N := 4) hx hb hts inX1_ hown hK hP 0 rfl rfl 3 (by decide) fl21_ (fun _ h9 => h9) rfl dX1_addLast_13 ?_
    refine lv_iload_n hx hb dX1_addLast_16 rfl (lv_at hl 1 rfl) ?_
    refine lv_iload_n hx hb dX1_addLast_17 rfl (lv_at hl 2 rfl) ?_
    refine lv_iload_n hx hb dX1_addLast_18 rfl (lv_at hl 3 rfl) ?_
    obtain ⟨R6, g7, hf⟩ := bd_B hf
    obtain ⟨rk2, rd3, rv4, rc5⟩ := R6
    dsimp only at hf
    have hPc := hP
    have hDc := hD
    have hFc := va_free (wc := wR_ r0 r_keys r_days r_values cI rkeys rdays rvalues rcount) hD hS hA [0, 1, 2, 3] rfl
    refine va_callv (va_runV (As := [.int rcount, .int a1, .int a2, .int a3]) (rest := []) ⟨hx, hb, hml, hown, hts⟩ (c_X1_set l dC dI cI cZ cC cJ cD r0 r_keys r_days r_values s.heap.size rkeys rdays rvalues rcount rcount a1 a2 a3 (rk2, rd3, rv4, rc5) g7) (cwV 4 hts gX1_addLast_X1_set rfl rfl rfl hs_X1_set ⟨Nat.le_of_ble_eq_true rfl, Nat.le_of_ble_eq_true rfl⟩) (preV_ (ci := 3) (q0 := 0) hPc hK hDc rfl rfl rfl rfl) rfl rfl hl.1 rfl (lv_room (Nat.le_of_ble_eq_true rfl)) dX1_addLast_19 ⟨Nat.le_of_ble_eq_true rfl, Nat.le_of_ble_eq_true rfl⟩) hS (fun q _ h => hFc q h) hFc (fun u t H8 locs ht hvm hw hB hz1 hk1 hS => ?_)
    obtain ⟨hP, hD⟩ := aft_ (Wr := []) (Wc' := wR_ r0 r_keys r_days r_values cI rk2 rd3 rv4 rc5) (W2 := wR_ r0 r_keys r_days r_values cI rk2 rd3 rv4 rc5) hP hD [0, 1, 2, 3] [] [0, 1, 2, 3] rfl rfl (by decide) (by decide) (by decide) hk1 hFc hB ht rfl
    refine lv_aload_n hx hb dX1_addLast_22 rfl (lv_at hl 0 rfl) ?_
    refine lv_dup hx hb dX1_addLast_23 rfl ?_
    refine va_get (D := (dC, dI)) (ci := 3) (v := .int rc5) (C := RX1) (T := TX1) (N := 4) hx hb hts inX1_ hown hK hP 0 rfl rfl 3 (by decide) fl21_ (fun _ h9 => h9) rfl dX1_addLast_24 ?_
    refine lv_iconst (v := 1) hx hb dX1_addLast_27 (by decide) ?_
    refine lv_iadd hx hb dX1_addLast_28 ?_
    refine va_put (D := (dC, dI)) (ci := 3) (v := .int (rc5 + 1)) (ty := .int) (C := RX1) (T := TX1) (N := 4) hx hb hts inX1_ tyX1 tyX1_ok nmX1 hown hK hP hD hS 0 rfl rfl 3 (by decide) fl21_ (fun _ h9 => h9) rfl (by decide +kernel) (by first | rfl | decide) (by first | rfl | decide) (Nat.le_of_ble_eq_true rfl) dX1_addLast_29 (fun H10 locs hP hD hS => ?_)
    have hP : va_P (dC, dI) vwCl (wR_ r0 r_keys r_days r_values cI rk2 rd3 rv4 (rc5 + 1)) H10 := hP
    have hD : va_D A (wR_ r0 r_keys r_days r_values cI rk2 rd3 rv4 (rc5 + 1)) := hD
    refine lv_iconst (v := 1) hx hb dX1_addLast_32 (by decide) ?_
    have hR := Option.some.inj hf
    subst hR
    exact W.zret (v := (1 : Int32)) hx hb hr (by decide) (fun t ht hW => ⟨⟨(1 : Int32), (), rfl, rfl, by rw [ht]; exact hP, va_K.moved hW.alike hK, hD⟩, hS.F ht⟩) hS.2.2 dX1_addLast_33
  · have hf := ite_F c1 hf
    refine lv_iconst (v := 0) hx hb dX1_addLast_9 (by decide) ?_
    have hR := Option.some.inj hf
    subst hR
    exact W.zret (v := (0 : Int32)) hx hb hr (by decide) (fun t ht hW => ⟨⟨(0 : Int32), (), rfl, rfl, by rw [ht]; exact hP, va_K.moved hW.alike hK, hD⟩, hS.F ht⟩) hS.2.2 dX1_addLast_10
theorem hs_X1_addLast : yX1_addLast.cls = RX1 ∧ yX1_addLast.cls ≠ "java/lang/invoke/MethodHandle" ∧ yX1_addLast.cls ≠ "java/lang/invoke/VarHandle" ∧ (parseMethodDescriptor yX1_addLast.desc).map (fun d => d.parameters.length) = some 3 := by decide +kernel
set_option maxRecDepth 20000 in
theorem in_X1_dropFirst_X1 : ∀ w ∈ wsX10, w ∈ wsX1_dropFirst := by decide +kernel
def f_X1_dropFirst_S15 (k_ : Int32 → Int32 → tR_ → Option (tR_)) (l2 : Int32) (l1 : Int32) (R_ : tR_) : Option (tR_) :=
match R_ with
| (rkeys, rdays, rvalues, rcount) =>
if rcount ≤ l2 then
some (rkeys, rdays, rvalues, rcount - l1)
else
gd_ l2 20 (
gd_ l2 20 (
gd_ l2 20 (
bd_ (f_X1_set (l2 - l1) (rkeys l2.toNatClampNeg) (rdays l2.toNatClampNeg) (rvalues l2.toNatClampNeg) (rkeys, rdays, rvalues, rcount)) (fun (rk9, rd10, rv11, rc12) =>
k_ (l2 + 1) l1 (rk9, rd10, rv11, rc12)))))
def f_X1_dropFirst_L15 : Nat → Int32 → Int32 → tR_ → Option (tR_)
  | 0 => fun _ _ _ => none
  | n + 1 => fun l2 l1 R_ => f_X1_dropFirst_S15 (f_X1_dropFirst_L15 n) l2 l1 R_
def f_X1_dropFirst (a1 : Int32) (R_ : tR_) : Option (tR_) :=
match R_ with
| (rkeys, rdays, rvalues, rcount) =>
if a1 < 0 then
some (rkeys, rdays, rvalues, rcount)
else
if a1 ≤ rcount then
f_X1_dropFirst_L15 fu_ a1 a1 (rkeys, rdays, rvalues, rcount)
else
some (rkeys, rdays, rvalues, rcount)
abbrev rm_X1_dropFirst : Room := { frames := 1, cells := 0, slots := 0, locals := 24 }
set_option maxHeartbeats 4000000 in
set_option maxRecDepth 100000 in
theorem c_X1_dropFirst (l : Launch) (dC : Nat → ClassId) (dI : Nat → Nat → Nat) (cI cZ cC cJ cD : ClassId) (r0 r_keys r_days r_values : Nat) (sz : Nat) (rkeys : Nat → Int32) (rdays : Nat → Int32) (rvalues : Nat → Int32) (rcount : Int32) (a1 : Int32) (R : tR_) (hf : f_X1_dropFirst a1 (rkeys, rdays, rvalues, rcount) = some R) : Met l yX1_dropFirst wsX1_dropFirst rm_X1_dropFirst (Pc_ (dC, dI) (ty_ cI cZ cC cJ cD) (wR_ r0 r_keys r_days r_values cI rkeys rdays rvalues rcount) sz [.ref r0, .int a1]) (Qv_ (dC, dI) (ty_ cI cZ cC cJ cD) (wR_ r0 r_keys r_days r_values cI R.1 R.2.1 R.2.2.1 R.2.2.2) (va_A (wR_ r0 r_keys r_days r_values cI rkeys rdays rvalues rcount) sz)) 0 0 (va_A (wR_ r0 r_keys r_days r_values cI rkeys rdays rvalues rcount) sz) := by
  refine met_ (cc := cX1_dropFirst) (maxL := 3) (ret := none) (Qcf := fun A => Qv_ (dC, dI) (ty_ cI cZ cC cJ cD) (wR_ r0 r_keys r_days r_values cI R.1 R.2.1 R.2.2.1 R.2.2.2) A) (by decide) rfl (Nat.le_of_ble_eq_true rfl) ?_
  intro p e s m args below meth c A ls hx hb hr hts hown hlocks hml hA hP hK hD hl
  have hown : s.vm.findClass RX1 = some m.cls := hown
  have hl : lv_has ls 3 [(0, .ref r0), (1, .int a1)] := hl
  have hS : va_S A s.heap s.heap [] := va_S.rf
  have fl9_ : (Cond.fieldLink RX1 9 "DimensionLoader$Rows" "keys" "[I").before args s = true := hts _ (List.mem_of_getElem? (i := 2) rfl)
  have fl15_ : (Cond.fieldLink RX1 15 "DimensionLoader$Rows" "days" "[I").before args s = true := hts _ (List.mem_of_getElem? (i := 3) rfl)
  have fl18_ : (Cond.fieldLink RX1 18 "DimensionLoader$Rows" "values" "[I").before args s = true := hts _ (List.mem_of_getElem? (i := 4) rfl)
  have fl21_ : (Cond.fieldLink RX1 21 "DimensionLoader$Rows" "count" "I").before args s = true := hts _ (List.mem_of_getElem? (i := 1) rfl)
  have inX1_ : ∀ w ∈ wsX10, w ∈ wsX1_dropFirst := in_X1_dropFirst_X1
  unfold f_X1_dropFirst at hf
  dsimp only at hf
  refine lv_iload_n hx hb dX1_dropFirst_0 rfl (lv_at hl 1 rfl) ?_
  refine lv_if_lt (tgt := 12) hx hb dX1_dropFirst_1 (by decide) (fun c1 => ?_) (fun c1 => ?_)
  · have hf := ite_T c1 hf
    have hR := Option.some.inj hf
    subst hR
    exact W.vret hx hb hr (fun t ht hW => ⟨⟨(), rfl, trivial, by rw [ht]; exact hP, va_K.moved hW.alike hK, hD⟩, hS.F ht⟩) hS.2.2 dX1_dropFirst_12
  · have hf := ite_F c1 hf
    refine lv_iload_n hx hb dX1_dropFirst_4 rfl (lv_at hl 1 rfl) ?_
    refine lv_aload_n hx hb dX1_dropFirst_5 rfl (lv_at hl 0 rfl) ?_
    refine va_get (D := (dC, dI)) (ci := 3) (v := .int rcount) (C := RX1) (T := TX1) (N := 4) hx hb hts inX1_ hown hK hP 0 rfl rfl 3 (by decide) fl21_ (fun _ h9 => h9) rfl dX1_dropFirst_6 ?_
    refine lv_icmp_le (tgt := 13) hx hb dX1_dropFirst_9 (by decide) (fun c2 => ?_) (fun c2 => ?_)
    · have hf := ite_T c2 hf
      refine lv_iload_n hx hb dX1_dropFirst_13 rfl (lv_at hl 1 rfl) ?_
      refine lv_istore_n (lv' := [(2, .int a1), (0, .ref r0), (1, .int a1)]) hx hb dX1_dropFirst_14 rfl hl (by decide) rfl (fun ls hl => ?_)
      have lp15 : ∀ (n : Nat) (l2 : Int32) (l1 : Int32) (rkeys : Nat → Int32) (rdays : Nat → Int32) (rvalues : Nat → Int32) (rcount : Int32) (H3 : Heap) (locs : List Loc) (ls : Array Slot), f_X1_dropFirst_L15 n l2 l1 (rkeys, rdays, rvalues, rcount) = some R → va_P (dC, dI) vwCl (wR_ r0 r_keys r_days r_values cI rkeys rdays rvalues rcount) H3 → va_D A (wR_ r0 r_keys r_days r_values cI rkeys rdays rvalues rcount) → va_S A s.heap H3 locs → lv_has ls 3 [(2, .int l2), (0, .ref r0), (1, .int l1)] → W p l e (headSpec wsX1_dropFirst rm_X1_dropFirst).room s m args below meth c H3 locs 0 0 (MQ below (Qv_ (dC, dI) (ty_ cI cZ cC cJ cD) (wR_ r0 r_keys r_days r_values cI R.1 R.2.1 R.2.2.1 R.2.2.2) A) args s 0 0 A) (F0 m 15 ls []) := by
        intro n
        induction n with
        | zero => intro l2 l1 rkeys rdays rvalues rcount H3 locs ls hf hP hD hS hl; exact absurd hf (by simp [f_X1_dropFirst_L15])
        | succ n ih =>
          intro l2 l1 rkeys rdays rvalues rcount H3 locs ls hf hP hD hS hl
          have hf : f_X1_dropFirst_S15 (f_X1_dropFirst_L15 n) l2 l1 (rkeys, rdays, rvalues, rcount) = some R := hf
          unfold f_X1_dropFirst_S15 at hf
          dsimp only at hf
          refine lv_iload_n hx hb dX1_dropFirst_15 rfl (lv_at hl 0 rfl) ?_
          refine lv_aload_n hx hb dX1_dropFirst_16 rfl (lv_at hl 1 rfl) ?_
          refine va_get (D := (dC, dI)) (ci := 3) (v := .int rcount) (C := RX1) (T := TX1) (N := 4) hx hb hts inX1_ hown hK hP 0 rfl rfl 3 (by decide) fl21_ (fun _ h9 => h9) rfl dX1_dropFirst_17 ?_
          refine lv_icmp_ge (tgt := 54) hx hb dX1_dropFirst_20 (by decide) (fun c4 => ?_) (fun c4 => ?_)
          · have hf := ite_T c4 hf
            refine lv_aload_n hx hb dX1_dropFirst_54 rfl (lv_at hl 1 rfl) ?_
            refine lv_dup hx hb dX1_dropFirst_55 rfl ?_
            refine va_get (D := (dC, dI)) (ci := 3) (v := .int rcount) (C := RX1) (T := TX1) (N := 4) hx hb hts inX1_ hown hK hP 0 rfl rfl 3 (by decide) fl21_ (fun _ h9 => h9) rfl dX1_dropFirst_56 ?_
            refine lv_iload_n hx hb dX1_dropFirst_59 rfl (lv_at hl 2 rfl) ?_
            refine lv_isub hx hb dX1_dropFirst_60 ?_
            refine va_put (D := (dC, dI)) (ci := 3) (v := .int (rcount - l1)) (ty := .int) (C := RX1) (T := TX1) (N := 4) hx hb hts inX1_ tyX1 tyX1_ok nmX1 hown hK hP hD hS 0 rfl rfl 3 (by decide) fl21_ (fun _ h9 => h9) rfl (by decide +kernel) (by first | rfl | decide) (by first | rfl | decide) (Nat.le_of_ble_eq_true rfl) dX1_dropFirst_61 (fun H5 locs hP hD hS => ?_)
            have hP : va_P (dC, dI) vwCl (wR_ r0 r_keys r_days r_values cI rkeys rdays rvalues (rcount - l1)) H5 := hP
            have hD : va_D A (wR_ r0 r_keys r_days r_values cI rkeys rdays rvalues (rcount - l1)) := hD
            have hR := Option.some.inj hf
            subst hR
            exact W.vret hx hb hr (fun t ht hW => ⟨⟨(), rfl, trivial, by rw [ht]; exact hP, va_K.moved hW.alike hK, hD⟩, hS.F ht⟩) hS.2.2 dX1_dropFirst_64
          · have hf := ite_F c4 hf
            refine lv_aload_n hx hb dX1_dropFirst_23 rfl (lv_at hl 1 rfl) ?_
            refine lv_iload_n hx hb dX1_dropFirst_24 rfl (lv_at hl 0 rfl) ?_
            refine lv_iload_n hx hb dX1_dropFirst_25 rfl (lv_at hl 2 rfl) ?_
            refine lv_isub hx hb dX1_dropFirst_26 ?_
            refine lv_aload_n hx hb dX1_dropFirst_27 rfl (lv_at hl 1 rfl) ?_
            refine va_get (D := (dC, dI)) (ci := 3) (v := .ref r_keys) (C := RX1) (T := TX1) (N := 4) hx hb hts inX1_ hown hK hP 0 rfl rfl 0 (by decide) fl9_ (fun _ h9 => h9) rfl dX1_dropFirst_28 ?_
            refine lv_iload_n hx hb dX1_dropFirst_31 rfl (lv_at hl 0 rfl) ?_
            obtain ⟨h6, hf⟩ := gd_T hf
            refine va_iald hx hb hK hP 1 0 rfl rfl h6 dX1_dropFirst_32 ?_
            refine lv_aload_n hx hb dX1_dropFirst_33 rfl (lv_at hl 1 rfl) ?_
            refine va_get (D := (dC, dI)) (ci := 3) (v := .ref r_days) (C := RX1) (T := TX1) (N := 4) hx hb hts inX1_ hown hK hP 0 rfl rfl 1 (by decide) fl15_ (fun _ h9 => h9) rfl dX1_dropFirst_34 ?_
            refine lv_iload_n hx hb dX1_dropFirst_37 rfl (lv_at hl 0 rfl) ?_
            obtain ⟨h7, hf⟩ := gd_T hf
            refine va_iald hx hb hK hP 2 0 rfl rfl h7 dX1_dropFirst_38 ?_
            refine lv_aload_n hx hb dX1_dropFirst_39 rfl (lv_at hl 1 rfl) ?_
            refine va_get (D := (dC, dI)) (ci := 3) (v := .ref r_values) (C := RX1) (T := TX1) (N := 4) hx hb hts inX1_ hown hK hP 0 rfl rfl 2 (by decide) fl18_ (fun _ h9 => h9) rfl dX1_dropFirst_40 ?_
            refine lv_iload_n hx hb dX1_dropFirst_43 rfl (lv_at hl 0 rfl) ?_
            obtain ⟨h8, hf⟩ := gd_T hf
            refine va_iald hx hb hK hP 3 0 rfl rfl h8 dX1_dropFirst_44 ?_
            obtain ⟨R13, g14, hf⟩ := bd_B hf
            obtain ⟨rk9, rd10, rv11, rc12⟩ := R13
            dsimp only at hf
            have hPc := hP
            have hDc := hD
            have hFc := va_free (wc := wR_ r0 r_keys r_days r_values cI rkeys rdays rvalues rcount) hD hS hA [0, 1, 2, 3] rfl
            refine va_callv (va_runV (As := [.int (l2 - l1), .int (rkeys l2.toNatClampNeg), .int (rdays l2.toNatClampNeg), .int (rvalues l2.toNatClampNeg)]) (rest := []) ⟨hx, hb, hml, hown, hts⟩ (c_X1_set l dC dI cI cZ cC cJ cD r0 r_keys r_days r_values H3.size rkeys rdays rvalues rcount (l2 - l1) (rkeys l2.toNatClampNeg) (rdays l2.toNatClampNeg) (rvalues l2.toNatClampNeg) (rk9, rd10, rv11, rc12) g14) (cwV 4 hts gX1_dropFirst_X1_set rfl rfl rfl hs_X1_set ⟨Nat.le_of_ble_eq_true rfl, Nat.le_of_ble_eq_true rfl⟩) (preV_ (ci := 3) (q0 := 0) hPc hK hDc rfl rfl rfl rfl) rfl rfl hl.1 rfl (lv_room (Nat.le_of_ble_eq_true rfl)) dX1_dropFirst_45 ⟨Nat.le_of_ble_eq_true rfl, Nat.le_of_ble_eq_true rfl⟩) hS (fun q _ h => hFc q h) hFc (fun u t H15 locs ht hvm hw hB hz1 hk1 hS => ?_)
            obtain ⟨hP, hD⟩ := aft_ (Wr := []) (Wc' := wR_ r0 r_keys r_days r_values cI rk9 rd10 rv11 rc12) (W2 := wR_ r0 r_keys r_days r_values cI rk9 rd10 rv11 rc12) hP hD [0, 1, 2, 3] [] [0, 1, 2, 3] rfl rfl (by decide) (by decide) (by decide) hk1 hFc hB ht rfl
            refine lv_iinc (v := l2 + 1) (lv' := [(2, .int (l2 + 1)), (0, .ref r0), (1, .int l1)]) hx hb dX1_dropFirst_48 hl (k := 0) rfl (by first | rfl | decide) (by decide) rfl (fun ls hl => ?_)
            refine lv_goto (tgt := 15) hx hb dX1_dropFirst_51 (by decide) ?_
            exact ih (l2 + 1) l1 rk9 rd10 rv11 rc12 _ _ _ hf hP hD hS (lv_sub hl [0, 1, 2] rfl)
      exact lp15 fu_ a1 a1 rkeys rdays rvalues rcount _ _ _ hf hP hD hS hl
    · have hf := ite_F c2 hf
      have hR := Option.some.inj hf
      subst hR
      exact W.vret hx hb hr (fun t ht hW => ⟨⟨(), rfl, trivial, by rw [ht]; exact hP, va_K.moved hW.alike hK, hD⟩, hS.F ht⟩) hS.2.2 dX1_dropFirst_12
theorem hs_X1_dropFirst : yX1_dropFirst.cls = RX1 ∧ yX1_dropFirst.cls ≠ "java/lang/invoke/MethodHandle" ∧ yX1_dropFirst.cls ≠ "java/lang/invoke/VarHandle" ∧ (parseMethodDescriptor yX1_dropFirst.desc).map (fun d => d.parameters.length) = some 1 := by decide +kernel
set_option maxRecDepth 20000 in
theorem in_X3_add_X3 : ∀ w ∈ wsX30, w ∈ wsX3_add := by decide +kernel
def f_X3_add (a1 : Int32) (T_ : tT_) : Option (Int32 × tT_) :=
match T_ with
| (tcharacters, tlength, tplace) =>
if tlength < 30 then
gd_ tlength 30 (nm_ (upd tcharacters tlength.toNatClampNeg (vp_nar .char a1)) (fun u4 =>
some ((1 : Int32), (u4, tlength + 1, tplace))))
else
some ((0 : Int32), (tcharacters, tlength, tplace))
abbrev rm_X3_add : Room := { frames := 0, cells := 0, slots := 0, locals := 0 }
set_option maxHeartbeats 4000000 in
set_option maxRecDepth 100000 in
theorem c_X3_add (l : Launch) (dC : Nat → ClassId) (dI : Nat → Nat → Nat) (cI cZ cC cJ cD : ClassId) (t0 t_characters : Nat) (sz : Nat) (tcharacters : Nat → Int32) (tlength : Int32) (tplace : Int32) (a1 : Int32) (R : Int32 × tT_) (hf : f_X3_add a1 (tcharacters, tlength, tplace) = some R) : Met l yX3_add wsX3_add rm_X3_add (Pc_ (dC, dI) (ty_ cI cZ cC cJ cD) (wT_ t0 t_characters cC tcharacters tlength tplace) sz [.ref t0, .int a1]) (Qi_ (dC, dI) (ty_ cI cZ cC cJ cD) R.1 (wT_ t0 t_characters cC R.2.1 R.2.2.1 R.2.2.2) (va_A (wT_ t0 t_characters cC tcharacters tlength tplace) sz)) 0 0 (va_A (wT_ t0 t_characters cC tcharacters tlength tplace) sz) := by
  refine met_ (cc := cX3_add) (maxL := 2) (ret := (some .boolean)) (Qcf := fun A => Qi_ (dC, dI) (ty_ cI cZ cC cJ cD) R.1 (wT_ t0 t_characters cC R.2.1 R.2.2.1 R.2.2.2) A) (by decide) rfl (Nat.le_of_ble_eq_true rfl) ?_
  intro p e s m args below meth c A ls hx hb hr hts hown hlocks hml hA hP hK hD hl
  have hown : s.vm.findClass RX3 = some m.cls := hown
  have hl : lv_has ls 2 [(0, .ref t0), (1, .int a1)] := hl
  have hS : va_S A s.heap s.heap [] := va_S.rf
  have fl9_ : (Cond.fieldLink RX3 9 "DimensionLoader$Text" "characters" "[C").before args s = true := hts _ (List.mem_of_getElem? (i := 2) rfl)
  have fl15_ : (Cond.fieldLink RX3 15 "DimensionLoader$Text" "length" "I").before args s = true := hts _ (List.mem_of_getElem? (i := 1) rfl)
  have inX3_ : ∀ w ∈ wsX30, w ∈ wsX3_add := in_X3_add_X3
  unfold f_X3_add at hf
  dsimp only at hf
  refine lv_aload_n hx hb dX3_add_0 rfl (lv_at hl 0 rfl) ?_
  refine va_get (D := (dC, dI)) (ci := 5) (v := .int tlength) (C := RX3) (T := TX3) (N := 3) hx hb hts inX3_ hown hK hP 0 rfl rfl 1 (by decide) fl15_ (fun _ h9 => h9) rfl dX3_add_1 ?_
  refine lv_bipush (v := 30) hx hb dX3_add_4 (by decide) ?_
  refine lv_icmp_lt (tgt := 11) hx hb dX3_add_6 (by decide) (fun c1 => ?_) (fun c1 => ?_)
  · have hf := ite_T c1 hf
    refine lv_aload_n hx hb dX3_add_11 rfl (lv_at hl 0 rfl) ?_
    refine va_get (D := (dC, dI)) (ci := 5) (v := .ref t_characters) (C := RX3) (T := TX3) (N := 3) hx hb hts inX3_ hown hK hP 0 rfl rfl 0 (by decide) fl9_ (fun _ h9 => h9) rfl dX3_add_12 ?_
    refine lv_aload_n hx hb dX3_add_15 rfl (lv_at hl 0 rfl) ?_
    refine va_get (D := (dC, dI)) (ci := 5) (v := .int tlength) (C := RX3) (T := TX3) (N := 3) hx hb hts inX3_ hown hK hP 0 rfl rfl 1 (by decide) fl15_ (fun _ h9 => h9) rfl dX3_add_16 ?_
    refine lv_iload_n hx hb dX3_add_19 rfl (lv_at hl 1 rfl) ?_
    obtain ⟨h2, hf⟩ := gd_T hf
    refine va_cast hx hb hK hP hD hS 1 2 rfl rfl h2 dX3_add_20 (fun H3 locs hP hD hS => ?_)
    have hP : va_P (dC, dI) vwCl (wT_ t0 t_characters cC (upd tcharacters tlength.toNatClampNeg (vp_nar .char a1)) tlength tplace) H3 := hP
    have hD : va_D A (wT_ t0 t_characters cC (upd tcharacters tlength.toNatClampNeg (vp_nar .char a1)) tlength tplace) := hD
    obtain ⟨u4, e5, hf⟩ := nm_T hf
    rw [← e5] at hP hD
    refine lv_aload_n hx hb dX3_add_21 rfl (lv_at hl 0 rfl) ?_
    refine lv_dup hx hb dX3_add_22 rfl ?_
    refine va_get (D := (dC, dI)) (ci := 5) (v := .int tlength) (C := RX3) (T := TX3) (N := 3) hx hb hts inX3_ hown hK hP 0 rfl rfl 1 (by decide) fl15_ (fun _ h9 => h9) rfl dX3_add_23 ?_
    refine lv_iconst (v := 1) hx hb dX3_add_26 (by decide) ?_
    refine lv_iadd hx hb dX3_add_27 ?_
    refine va_put (D := (dC, dI)) (ci := 5) (v := .int (tlength + 1)) (ty := .int) (C := RX3) (T := TX3) (N := 3) hx hb hts inX3_ tyX3 tyX3_ok nmX3 hown hK hP hD hS 0 rfl rfl 1 (by decide) fl15_ (fun _ h9 => h9) rfl (by decide +kernel) (by first | rfl | decide) (by first | rfl | decide) (Nat.le_of_ble_eq_true rfl) dX3_add_28 (fun H6 locs hP hD hS => ?_)
    have hP : va_P (dC, dI) vwCl (wT_ t0 t_characters cC u4 (tlength + 1) tplace) H6 := hP
    have hD : va_D A (wT_ t0 t_characters cC u4 (tlength + 1) tplace) := hD
    refine lv_iconst (v := 1) hx hb dX3_add_31 (by decide) ?_
    have hR := Option.some.inj hf
    subst hR
    exact W.zret (v := (1 : Int32)) hx hb hr (by decide) (fun t ht hW => ⟨⟨(1 : Int32), (), rfl, rfl, by rw [ht]; exact hP, va_K.moved hW.alike hK, hD⟩, hS.F ht⟩) hS.2.2 dX3_add_32
  · have hf := ite_F c1 hf
    refine lv_iconst (v := 0) hx hb dX3_add_9 (by decide) ?_
    have hR := Option.some.inj hf
    subst hR
    exact W.zret (v := (0 : Int32)) hx hb hr (by decide) (fun t ht hW => ⟨⟨(0 : Int32), (), rfl, rfl, by rw [ht]; exact hP, va_K.moved hW.alike hK, hD⟩, hS.F ht⟩) hS.2.2 dX3_add_10
theorem hs_X3_add : yX3_add.cls = RX3 ∧ yX3_add.cls ≠ "java/lang/invoke/MethodHandle" ∧ yX3_add.cls ≠ "java/lang/invoke/VarHandle" ∧ (parseMethodDescriptor yX3_add.desc).map (fun d => d.parameters.length) = some 1 := by decide +kernel
set_option maxRecDepth 20000 in
theorem in_X3_take_X3 : ∀ w ∈ wsX30, w ∈ wsX3_take := by decide +kernel
def f_X3_take (a1 : Int32) (T_ : tT_) : Option (Int32 × tT_) :=
match T_ with
| (tcharacters, tlength, tplace) =>
if tlength ≤ tplace then
some ((0 : Int32), (tcharacters, tlength, tplace))
else
gd_ tplace 30 (
if (tcharacters tplace.toNatClampNeg) = a1 then
some ((1 : Int32), (tcharacters, tlength, tplace + 1))
else
some ((0 : Int32), (tcharacters, tlength, tplace)))
abbrev rm_X3_take : Room := { frames := 0, cells := 0, slots := 0, locals := 0 }
set_option maxHeartbeats 4000000 in
set_option maxRecDepth 100000 in
theorem c_X3_take (l : Launch) (dC : Nat → ClassId) (dI : Nat → Nat → Nat) (cI cZ cC cJ cD : ClassId) (t0 t_characters : Nat) (sz : Nat) (tcharacters : Nat → Int32) (tlength : Int32) (tplace : Int32) (a1 : Int32) (R : Int32 × tT_) (hf : f_X3_take a1 (tcharacters, tlength, tplace) = some R) : Met l yX3_take wsX3_take rm_X3_take (Pc_ (dC, dI) (ty_ cI cZ cC cJ cD) (wT_ t0 t_characters cC tcharacters tlength tplace) sz [.ref t0, .int a1]) (Qi_ (dC, dI) (ty_ cI cZ cC cJ cD) R.1 (wT_ t0 t_characters cC R.2.1 R.2.2.1 R.2.2.2) (va_A (wT_ t0 t_characters cC tcharacters tlength tplace) sz)) 0 0 (va_A (wT_ t0 t_characters cC tcharacters tlength tplace) sz) := by
  refine met_ (cc := cX3_take) (maxL := 2) (ret := (some .boolean)) (Qcf := fun A => Qi_ (dC, dI) (ty_ cI cZ cC cJ cD) R.1 (wT_ t0 t_characters cC R.2.1 R.2.2.1 R.2.2.2) A) (by decide) rfl (Nat.le_of_ble_eq_true rfl) ?_
  intro p e s m args below meth c A ls hx hb hr hts hown hlocks hml hA hP hK hD hl
  have hown : s.vm.findClass RX3 = some m.cls := hown
  have hl : lv_has ls 2 [(0, .ref t0), (1, .int a1)] := hl
  have hS : va_S A s.heap s.heap [] := va_S.rf
  have fl9_ : (Cond.fieldLink RX3 9 "DimensionLoader$Text" "characters" "[C").before args s = true := hts _ (List.mem_of_getElem? (i := 3) rfl)
  have fl15_ : (Cond.fieldLink RX3 15 "DimensionLoader$Text" "length" "I").before args s = true := hts _ (List.mem_of_getElem? (i := 2) rfl)
  have fl24_ : (Cond.fieldLink RX3 24 "DimensionLoader$Text" "place" "I").before args s = true := hts _ (List.mem_of_getElem? (i := 1) rfl)
  have inX3_ : ∀ w ∈ wsX30, w ∈ wsX3_take := in_X3_take_X3
  unfold f_X3_take at hf
  dsimp only at hf
  refine lv_aload_n hx hb dX3_take_0 rfl (lv_at hl 0 rfl) ?_
  refine va_get (D := (dC, dI)) (ci := 5) (v := .int tplace) (C := RX3) (T := TX3) (N := 3) hx hb hts inX3_ hown hK hP 0 rfl rfl 2 (by decide) fl24_ (fun _ h9 => h9) rfl dX3_take_1 ?_
  refine lv_aload_n hx hb dX3_take_4 rfl (lv_at hl 0 rfl) ?_
  refine va_get (D := (dC, dI)) (ci := 5) (v := .int tlength) (C := RX3) (T := TX3) (N := 3) hx hb hts inX3_ hown hK hP 0 rfl rfl 1 (by decide) fl15_ (fun _ h9 => h9) rfl dX3_take_5 ?_
  refine lv_icmp_ge (tgt := 36) hx hb dX3_take_8 (by decide) (fun c1 => ?_) (fun c1 => ?_)
  · have hf := ite_T c1 hf
    refine lv_iconst (v := 0) hx hb dX3_take_36 (by decide) ?_
    have hR := Option.some.inj hf
    subst hR
    exact W.zret (v := (0 : Int32)) hx hb hr (by decide) (fun t ht hW => ⟨⟨(0 : Int32), (), rfl, rfl, by rw [ht]; exact hP, va_K.moved hW.alike hK, hD⟩, hS.F ht⟩) hS.2.2 dX3_take_37
  · have hf := ite_F c1 hf
    refine lv_aload_n hx hb dX3_take_11 rfl (lv_at hl 0 rfl) ?_
    refine va_get (D := (dC, dI)) (ci := 5) (v := .ref t_characters) (C := RX3) (T := TX3) (N := 3) hx hb hts inX3_ hown hK hP 0 rfl rfl 0 (by decide) fl9_ (fun _ h9 => h9) rfl dX3_take_12 ?_
    refine lv_aload_n hx hb dX3_take_15 rfl (lv_at hl 0 rfl) ?_
    refine va_get (D := (dC, dI)) (ci := 5) (v := .int tplace) (C := RX3) (T := TX3) (N := 3) hx hb hts inX3_ hown hK hP 0 rfl rfl 2 (by decide) fl24_ (fun _ h9 => h9) rfl dX3_take_16 ?_
    obtain ⟨h2, hf⟩ := gd_T hf
    refine va_cald hx hb hK hP 1 2 rfl rfl h2 dX3_take_19 ?_
    refine lv_iload_n hx hb dX3_take_20 rfl (lv_at hl 1 rfl) ?_
    refine lv_icmp_ne (tgt := 36) hx hb dX3_take_21 (by decide) (fun c3 => ?_) (fun c3 => ?_)
    · have hf := ite_F c3 hf
      refine lv_iconst (v := 0) hx hb dX3_take_36 (by decide) ?_
      have hR := Option.some.inj hf
      subst hR
      exact W.zret (v := (0 : Int32)) hx hb hr (by decide) (fun t ht hW => ⟨⟨(0 : Int32), (), rfl, rfl, by rw [ht]; exact hP, va_K.moved hW.alike hK, hD⟩, hS.F ht⟩) hS.2.2 dX3_take_37
    · have hf := ite_T c3 hf
      refine lv_aload_n hx hb dX3_take_24 rfl (lv_at hl 0 rfl) ?_
      refine lv_dup hx hb dX3_take_25 rfl ?_
      refine va_get (D := (dC, dI)) (ci := 5) (v := .int tplace) (C := RX3) (T := TX3) (N := 3) hx hb hts inX3_ hown hK hP 0 rfl rfl 2 (by decide) fl24_ (fun _ h9 => h9) rfl dX3_take_26 ?_
      refine lv_iconst (v := 1) hx hb dX3_take_29 (by decide) ?_
      refine lv_iadd hx hb dX3_take_30 ?_
      refine va_put (D := (dC, dI)) (ci := 5) (v := .int (tplace + 1)) (ty := .int) (C := RX3) (T := TX3) (N := 3) hx hb hts inX3_ tyX3 tyX3_ok nmX3 hown hK hP hD hS 0 rfl rfl 2 (by decide) fl24_ (fun _ h9 => h9) rfl (by decide +kernel) (by first | rfl | decide) (by first | rfl | decide) (Nat.le_of_ble_eq_true rfl) dX3_take_31 (fun H4 locs hP hD hS => ?_)
      have hP : va_P (dC, dI) vwCl (wT_ t0 t_characters cC tcharacters tlength (tplace + 1)) H4 := hP
      have hD : va_D A (wT_ t0 t_characters cC tcharacters tlength (tplace + 1)) := hD
      refine lv_iconst (v := 1) hx hb dX3_take_34 (by decide) ?_
      have hR := Option.some.inj hf
      subst hR
      exact W.zret (v := (1 : Int32)) hx hb hr (by decide) (fun t ht hW => ⟨⟨(1 : Int32), (), rfl, rfl, by rw [ht]; exact hP, va_K.moved hW.alike hK, hD⟩, hS.F ht⟩) hS.2.2 dX3_take_35
theorem hs_X3_take : yX3_take.cls = RX3 ∧ yX3_take.cls ≠ "java/lang/invoke/MethodHandle" ∧ yX3_take.cls ≠ "java/lang/invoke/VarHandle" ∧ (parseMethodDescriptor yX3_take.desc).map (fun d => d.parameters.length) = some 1 := by decide +kernel
set_option maxRecDepth 20000 in
theorem in_X3_takeDigit_X3 : ∀ w ∈ wsX30, w ∈ wsX3_takeDigit := by decide +kernel
def f_X3_takeDigit (a1 : Int32) (T_ : tT_) : Option (Int32 × tT_) :=
match T_ with
| (tcharacters, tlength, tplace) =>
if tlength ≤ tplace then
some ((-1 : Int32), (tcharacters, tlength, tplace))
else
gd_ tplace 30 (
if (tcharacters tplace.toNatClampNeg) < 48 then
some ((-1 : Int32), (tcharacters, tlength, tplace))
else
gd_ tplace 30 (
if (tcharacters tplace.toNatClampNeg) ≤ a1 then
gd_ tplace 30 (
some ((tcharacters tplace.toNatClampNeg) - 48, (tcharacters, tlength, tplace + 1)))
else
some ((-1 : Int32), (tcharacters, tlength, tplace))))
abbrev rm_X3_takeDigit : Room := { frames := 0, cells := 0, slots := 0, locals := 0 }
set_option maxHeartbeats 4000000 in
set_option maxRecDepth 100000 in
theorem c_X3_takeDigit (l : Launch) (dC : Nat → ClassId) (dI : Nat → Nat → Nat) (cI cZ cC cJ cD : ClassId) (t0 t_characters : Nat) (sz : Nat) (tcharacters : Nat → Int32) (tlength : Int32) (tplace : Int32) (a1 : Int32) (R : Int32 × tT_) (hf : f_X3_takeDigit a1 (tcharacters, tlength, tplace) = some R) : Met l yX3_takeDigit wsX3_takeDigit rm_X3_takeDigit (Pc_ (dC, dI) (ty_ cI cZ cC cJ cD) (wT_ t0 t_characters cC tcharacters tlength tplace) sz [.ref t0, .int a1]) (Qi_ (dC, dI) (ty_ cI cZ cC cJ cD) R.1 (wT_ t0 t_characters cC R.2.1 R.2.2.1 R.2.2.2) (va_A (wT_ t0 t_characters cC tcharacters tlength tplace) sz)) 0 0 (va_A (wT_ t0 t_characters cC tcharacters tlength tplace) sz) := by
  refine met_ (cc := cX3_takeDigit) (maxL := 3) (ret := (some .int)) (Qcf := fun A => Qi_ (dC, dI) (ty_ cI cZ cC cJ cD) R.1 (wT_ t0 t_characters cC R.2.1 R.2.2.1 R.2.2.2) A) (by decide) rfl (Nat.le_of_ble_eq_true rfl) ?_
  intro p e s m args below meth c A ls hx hb hr hts hown hlocks hml hA hP hK hD hl
  have hown : s.vm.findClass RX3 = some m.cls := hown
  have hl : lv_has ls 3 [(0, .ref t0), (1, .int a1)] := hl
  have hS : va_S A s.heap s.heap [] := va_S.rf
  have fl9_ : (Cond.fieldLink RX3 9 "DimensionLoader$Text" "characters" "[C").before args s = true := hts _ (List.mem_of_getElem? (i := 3) rfl)
  have fl15_ : (Cond.fieldLink RX3 15 "DimensionLoader$Text" "length" "I").before args s = true := hts _ (List.mem_of_getElem? (i := 2) rfl)
  have fl24_ : (Cond.fieldLink RX3 24 "DimensionLoader$Text" "place" "I").before args s = true := hts _ (List.mem_of_getElem? (i := 1) rfl)
  have inX3_ : ∀ w ∈ wsX30, w ∈ wsX3_takeDigit := in_X3_takeDigit_X3
  unfold f_X3_takeDigit at hf
  dsimp only at hf
  refine lv_aload_n hx hb dX3_takeDigit_0 rfl (lv_at hl 0 rfl) ?_
  refine va_get (D := (dC, dI)) (ci := 5) (v := .int tplace) (C := RX3) (T := TX3) (N := 3) hx hb hts inX3_ hown hK hP 0 rfl rfl 2 (by decide) fl24_ (fun _ h9 => h9) rfl dX3_takeDigit_1 ?_
  refine lv_aload_n hx hb dX3_takeDigit_4 rfl (lv_at hl 0 rfl) ?_
  refine va_get (D := (dC, dI)) (ci := 5) (v := .int tlength) (C := RX3) (T := TX3) (N := 3) hx hb hts inX3_ hown hK hP 0 rfl rfl 1 (by decide) fl15_ (fun _ h9 => h9) rfl dX3_takeDigit_5 ?_
  refine lv_icmp_ge (tgt := 38) hx hb dX3_takeDigit_8 (by decide) (fun c1 => ?_) (fun c1 => ?_)
  · have hf := ite_T c1 hf
    refine lv_iconst (v := (-1)) hx hb dX3_takeDigit_38 (by decide) ?_
    have hR := Option.some.inj hf
    subst hR
    exact W.iret (v := (-1 : Int32)) hx hb hr (fun t ht hW => ⟨⟨(-1 : Int32), (), rfl, rfl, by rw [ht]; exact hP, va_K.moved hW.alike hK, hD⟩, hS.F ht⟩) hS.2.2 dX3_takeDigit_39
  · have hf := ite_F c1 hf
    refine lv_aload_n hx hb dX3_takeDigit_11 rfl (lv_at hl 0 rfl) ?_
    refine va_get (D := (dC, dI)) (ci := 5) (v := .ref t_characters) (C := RX3) (T := TX3) (N := 3) hx hb hts inX3_ hown hK hP 0 rfl rfl 0 (by decide) fl9_ (fun _ h9 => h9) rfl dX3_takeDigit_12 ?_
    refine lv_aload_n hx hb dX3_takeDigit_15 rfl (lv_at hl 0 rfl) ?_
    refine va_get (D := (dC, dI)) (ci := 5) (v := .int tplace) (C := RX3) (T := TX3) (N := 3) hx hb hts inX3_ hown hK hP 0 rfl rfl 2 (by decide) fl24_ (fun _ h9 => h9) rfl dX3_takeDigit_16 ?_
    obtain ⟨h2, hf⟩ := gd_T hf
    refine va_cald hx hb hK hP 1 2 rfl rfl h2 dX3_takeDigit_19 ?_
    refine lv_bipush (v := 48) hx hb dX3_takeDigit_20 (by decide) ?_
    refine lv_icmp_lt (tgt := 38) hx hb dX3_takeDigit_22 (by decide) (fun c3 => ?_) (fun c3 => ?_)
    · have hf := ite_T c3 hf
      refine lv_iconst (v := (-1)) hx hb dX3_takeDigit_38 (by decide) ?_
      have hR := Option.some.inj hf
      subst hR
      exact W.iret (v := (-1 : Int32)) hx hb hr (fun t ht hW => ⟨⟨(-1 : Int32), (), rfl, rfl, by rw [ht]; exact hP, va_K.moved hW.alike hK, hD⟩, hS.F ht⟩) hS.2.2 dX3_takeDigit_39
    · have hf := ite_F c3 hf
      refine lv_aload_n hx hb dX3_takeDigit_25 rfl (lv_at hl 0 rfl) ?_
      refine va_get (D := (dC, dI)) (ci := 5) (v := .ref t_characters) (C := RX3) (T := TX3) (N := 3) hx hb hts inX3_ hown hK hP 0 rfl rfl 0 (by decide) fl9_ (fun _ h9 => h9) rfl dX3_takeDigit_26 ?_
      refine lv_aload_n hx hb dX3_takeDigit_29 rfl (lv_at hl 0 rfl) ?_
      refine va_get (D := (dC, dI)) (ci := 5) (v := .int tplace) (C := RX3) (T := TX3) (N := 3) hx hb hts inX3_ hown hK hP 0 rfl rfl 2 (by decide) fl24_ (fun _ h9 => h9) rfl dX3_takeDigit_30 ?_
      obtain ⟨h4, hf⟩ := gd_T hf
      refine va_cald hx hb hK hP 1 2 rfl rfl h4 dX3_takeDigit_33 ?_
      refine lv_iload_n hx hb dX3_takeDigit_34 rfl (lv_at hl 1 rfl) ?_
      refine lv_icmp_le (tgt := 40) hx hb dX3_takeDigit_35 (by decide) (fun c5 => ?_) (fun c5 => ?_)
      · have hf := ite_T c5 hf
        refine lv_aload_n hx hb dX3_takeDigit_40 rfl (lv_at hl 0 rfl) ?_
        refine va_get (D := (dC, dI)) (ci := 5) (v := .ref t_characters) (C := RX3) (T := TX3) (N := 3) hx hb hts inX3_ hown hK hP 0 rfl rfl 0 (by decide) fl9_ (fun _ h9 => h9) rfl dX3_takeDigit_41 ?_
        refine lv_aload_n hx hb dX3_takeDigit_44 rfl (lv_at hl 0 rfl) ?_
        refine va_get (D := (dC, dI)) (ci := 5) (v := .int tplace) (C := RX3) (T := TX3) (N := 3) hx hb hts inX3_ hown hK hP 0 rfl rfl 2 (by decide) fl24_ (fun _ h9 => h9) rfl dX3_takeDigit_45 ?_
        obtain ⟨h6, hf⟩ := gd_T hf
        refine va_cald hx hb hK hP 1 2 rfl rfl h6 dX3_takeDigit_48 ?_
        refine lv_bipush (v := 48) hx hb dX3_takeDigit_49 (by decide) ?_
        refine lv_isub hx hb dX3_takeDigit_51 ?_
        refine lv_istore_n (lv' := [(2, .int ((tcharacters tplace.toNatClampNeg) - 48)), (0, .ref t0), (1, .int a1)]) hx hb dX3_takeDigit_52 rfl hl (by decide) rfl (fun ls hl => ?_)
        refine lv_aload_n hx hb dX3_takeDigit_53 rfl (lv_at hl 1 rfl) ?_
        refine lv_dup hx hb dX3_takeDigit_54 rfl ?_
        refine va_get (D := (dC, dI)) (ci := 5) (v := .int tplace) (C := RX3) (T := TX3) (N := 3) hx hb hts inX3_ hown hK hP 0 rfl rfl 2 (by decide) fl24_ (fun _ h9 => h9) rfl dX3_takeDigit_55 ?_
        refine lv_iconst (v := 1) hx hb dX3_takeDigit_58 (by decide) ?_
        refine lv_iadd hx hb dX3_takeDigit_59 ?_
        refine va_put (D := (dC, dI)) (ci := 5) (v := .int (tplace + 1)) (ty := .int) (C := RX3) (T := TX3) (N := 3) hx hb hts inX3_ tyX3 tyX3_ok nmX3 hown hK hP hD hS 0 rfl rfl 2 (by decide) fl24_ (fun _ h9 => h9) rfl (by decide +kernel) (by first | rfl | decide) (by first | rfl | decide) (Nat.le_of_ble_eq_true rfl) dX3_takeDigit_60 (fun H7 locs hP hD hS => ?_)
        have hP : va_P (dC, dI) vwCl (wT_ t0 t_characters cC tcharacters tlength (tplace + 1)) H7 := hP
        have hD : va_D A (wT_ t0 t_characters cC tcharacters tlength (tplace + 1)) := hD
        refine lv_iload_n hx hb dX3_takeDigit_63 rfl (lv_at hl 0 rfl) ?_
        have hR := Option.some.inj hf
        subst hR
        exact W.iret (v := (tcharacters tplace.toNatClampNeg) - 48) hx hb hr (fun t ht hW => ⟨⟨(tcharacters tplace.toNatClampNeg) - 48, (), rfl, rfl, by rw [ht]; exact hP, va_K.moved hW.alike hK, hD⟩, hS.F ht⟩) hS.2.2 dX3_takeDigit_64
      · have hf := ite_F c5 hf
        refine lv_iconst (v := (-1)) hx hb dX3_takeDigit_38 (by decide) ?_
        have hR := Option.some.inj hf
        subst hR
        exact W.iret (v := (-1 : Int32)) hx hb hr (fun t ht hW => ⟨⟨(-1 : Int32), (), rfl, rfl, by rw [ht]; exact hP, va_K.moved hW.alike hK, hD⟩, hS.F ht⟩) hS.2.2 dX3_takeDigit_39
theorem hs_X3_takeDigit : yX3_takeDigit.cls = RX3 ∧ yX3_takeDigit.cls ≠ "java/lang/invoke/MethodHandle" ∧ yX3_takeDigit.cls ≠ "java/lang/invoke/VarHandle" ∧ (parseMethodDescriptor yX3_takeDigit.desc).map (fun d => d.parameters.length) = some 1 := by decide +kernel
def f_X3_takeNumber_S16 (k_ : Int32 → Int32 → tT_ → Option (Int32 × tT_)) (l2 : Int32) (l1 : Int32) (T_ : tT_) : Option (Int32 × tT_) :=
match T_ with
| (tcharacters, tlength, tplace) =>
if 3 ≤ l2 then
some (l1, (tcharacters, tlength, tplace))
else
bd_ (f_X3_takeDigit (57 : Int32) (tcharacters, tlength, tplace)) (fun (r12, (tc13, tl14, tp15)) =>
if r12 = (-1) then
some (l1, (tc13, tl14, tp15))
else
k_ (l2 + 1) ((l1 * 10) + r12) (tc13, tl14, tp15))
def f_X3_takeNumber_L16 : Nat → Int32 → Int32 → tT_ → Option (Int32 × tT_)
  | 0 => fun _ _ _ => none
  | n + 1 => fun l2 l1 T_ => f_X3_takeNumber_S16 (f_X3_takeNumber_L16 n) l2 l1 T_
def f_X3_takeNumber  (T_ : tT_) : Option (Int32 × tT_) :=
match T_ with
| (tcharacters, tlength, tplace) =>
bd_ (f_X3_takeDigit (57 : Int32) (tcharacters, tlength, tplace)) (fun (r1, (tc2, tl3, tp4)) =>
if r1 = (-1) then
some ((-1 : Int32), (tc2, tl3, tp4))
else
f_X3_takeNumber_L16 fu_ (1 : Int32) r1 (tc2, tl3, tp4))
abbrev rm_X3_takeNumber : Room := { frames := 1, cells := 0, slots := 0, locals := 22 }
set_option maxHeartbeats 4000000 in
set_option maxRecDepth 100000 in
theorem c_X3_takeNumber (l : Launch) (dC : Nat → ClassId) (dI : Nat → Nat → Nat) (cI cZ cC cJ cD : ClassId) (t0 t_characters : Nat) (sz : Nat) (tcharacters : Nat → Int32) (tlength : Int32) (tplace : Int32)  (R : Int32 × tT_) (hf : f_X3_takeNumber  (tcharacters, tlength, tplace) = some R) : Met l yX3_takeNumber wsX3_takeNumber rm_X3_takeNumber (Pc_ (dC, dI) (ty_ cI cZ cC cJ cD) (wT_ t0 t_characters cC tcharacters tlength tplace) sz [.ref t0]) (Qi_ (dC, dI) (ty_ cI cZ cC cJ cD) R.1 (wT_ t0 t_characters cC R.2.1 R.2.2.1 R.2.2.2) (va_A (wT_ t0 t_characters cC tcharacters tlength tplace) sz)) 0 0 (va_A (wT_ t0 t_characters cC tcharacters tlength tplace) sz) := by
  refine met_ (cc := cX3_takeNumber) (maxL := 4) (ret := (some .int)) (Qcf := fun A => Qi_ (dC, dI) (ty_ cI cZ cC cJ cD) R.1 (wT_ t0 t_characters cC R.2.1 R.2.2.1 R.2.2.2) A) (by decide) rfl (Nat.le_of_ble_eq_true rfl) ?_
  intro p e s m args below meth c A ls hx hb hr hts hown hlocks hml hA hP hK hD hl
  have hown : s.vm.findClass RX3 = some m.cls := hown
  have hl : lv_has ls 4 [(0, .ref t0)] := hl
  have hS : va_S A s.heap s.heap [] := va_S.rf
  unfold f_X3_takeNumber at hf
  dsimp only at hf
  refine lv_aload_n hx hb dX3_takeNumber_0 rfl (lv_at hl 0 rfl) ?_
  refine lv_bipush (v := 57) hx hb dX3_takeNumber_1 (by decide) ?_
  obtain ⟨R5, g6, hf⟩ := bd_B hf
  obtain ⟨r1, ⟨tc2, tl3, tp4⟩⟩ := R5
  dsimp only at hf
  have hPc := hP
  have hDc := hD
  have hFc := va_free (wc := wT_ t0 t_characters cC tcharacters tlength tplace) hD hS hA [0, 1] rfl
  refine va_calli (va_runV (As := [.int 57]) (rest := []) ⟨hx, hb, hml, hown, hts⟩ (c_X3_takeDigit l dC dI cI cZ cC cJ cD t0 t_characters s.heap.size tcharacters tlength tplace (57 : Int32) (r1, (tc2, tl3, tp4)) g6) (cwV 1 hts gX3_takeNumber_X3_takeDigit rfl rfl rfl hs_X3_takeDigit ⟨Nat.le_of_ble_eq_true rfl, Nat.le_of_ble_eq_true rfl⟩) (preV_ (ci := 5) (q0 := 0) hPc hK hDc rfl rfl rfl rfl) rfl rfl hl.1 rfl (lv_room (Nat.le_of_ble_eq_true rfl)) dX3_takeNumber_3 ⟨Nat.le_of_ble_eq_true rfl, Nat.le_of_ble_eq_true rfl⟩) hS (fun q _ h => hFc q h) hFc (fun z8 u t H7 locs ht hvm hw hB hz1 hk1 hS => ?_)
  have hw : r1 = z8 := hw.symm
  subst hw
  obtain ⟨hP, hD⟩ := aft_ (Wr := []) (Wc' := wT_ t0 t_characters cC tc2 tl3 tp4) (W2 := wT_ t0 t_characters cC tc2 tl3 tp4) hP hD [0, 1] [] [0, 1] rfl rfl (by decide) (by decide) (by decide) hk1 hFc hB ht rfl
  refine lv_istore_n (lv' := [(1, .int r1), (0, .ref t0)]) hx hb dX3_takeNumber_6 rfl hl (by decide) rfl (fun ls hl => ?_)
  refine lv_iload_n hx hb dX3_takeNumber_7 rfl (lv_at hl 0 rfl) ?_
  refine lv_iconst (v := (-1)) hx hb dX3_takeNumber_8 (by decide) ?_
  refine lv_icmp_ne (tgt := 14) hx hb dX3_takeNumber_9 (by decide) (fun c9 => ?_) (fun c9 => ?_)
  · have hf := ite_F c9 hf
    refine lv_iconst (v := 1) hx hb dX3_takeNumber_14 (by decide) ?_
    refine lv_istore_n (lv' := [(2, .int 1), (1, .int r1), (0, .ref t0)]) hx hb dX3_takeNumber_15 rfl hl (by decide) rfl (fun ls hl => ?_)
    have lp16 : ∀ (n : Nat) (l2 : Int32) (l1 : Int32) (tcharacters : Nat → Int32) (tlength : Int32) (tplace : Int32) (H10 : Heap) (locs : List Loc) (ls : Array Slot), f_X3_takeNumber_L16 n l2 l1 (tcharacters, tlength, tplace) = some R → va_P (dC, dI) vwCl (wT_ t0 t_characters cC tcharacters tlength tplace) H10 → va_D A (wT_ t0 t_characters cC tcharacters tlength tplace) → va_S A s.heap H10 locs → lv_has ls 4 [(2, .int l2), (1, .int l1), (0, .ref t0)] → W p l e (headSpec wsX3_takeNumber rm_X3_takeNumber).room s m args below meth c H10 locs 0 0 (MQ below (Qi_ (dC, dI) (ty_ cI cZ cC cJ cD) R.1 (wT_ t0 t_characters cC R.2.1 R.2.2.1 R.2.2.2) A) args s 0 0 A) (F0 m 16 ls []) := by
      intro n
      induction n with
      | zero => intro l2 l1 tcharacters tlength tplace H10 locs ls hf hP hD hS hl; exact absurd hf (by simp [f_X3_takeNumber_L16])
      | succ n ih =>
        intro l2 l1 tcharacters tlength tplace H10 locs ls hf hP hD hS hl
        have hf : f_X3_takeNumber_S16 (f_X3_takeNumber_L16 n) l2 l1 (tcharacters, tlength, tplace) = some R := hf
        unfold f_X3_takeNumber_S16 at hf
        dsimp only at hf
        refine lv_iload_n hx hb dX3_takeNumber_16 rfl (lv_at hl 0 rfl) ?_
        refine lv_iconst (v := 3) hx hb dX3_takeNumber_17 (by decide) ?_
        refine lv_icmp_ge (tgt := 48) hx hb dX3_takeNumber_18 (by decide) (fun c11 => ?_) (fun c11 => ?_)
        · have hf := ite_T c11 hf
          refine lv_iload_n hx hb dX3_takeNumber_48 rfl (lv_at hl 1 rfl) ?_
          have hR := Option.some.inj hf
          subst hR
          exact W.iret (v := l1) hx hb hr (fun t ht hW => ⟨⟨l1, (), rfl, rfl, by rw [ht]; exact hP, va_K.moved hW.alike hK, hD⟩, hS.F ht⟩) hS.2.2 dX3_takeNumber_49
        · have hf := ite_F c11 hf
          refine lv_aload_n hx hb dX3_takeNumber_21 rfl (lv_at hl 2 rfl) ?_
          refine lv_bipush (v := 57) hx hb dX3_takeNumber_22 (by decide) ?_
          obtain ⟨R16, g17, hf⟩ := bd_B hf
          obtain ⟨r12, ⟨tc13, tl14, tp15⟩⟩ := R16
          dsimp only at hf
          have hPc := hP
          have hDc := hD
          have hFc := va_free (wc := wT_ t0 t_characters cC tcharacters tlength tplace) hD hS hA [0, 1] rfl
          refine va_calli (va_runV (As := [.int 57]) (rest := []) ⟨hx, hb, hml, hown, hts⟩ (c_X3_takeDigit l dC dI cI cZ cC cJ cD t0 t_characters H10.size tcharacters tlength tplace (57 : Int32) (r12, (tc13, tl14, tp15)) g17) (cwV 1 hts gX3_takeNumber_X3_takeDigit rfl rfl rfl hs_X3_takeDigit ⟨Nat.le_of_ble_eq_true rfl, Nat.le_of_ble_eq_true rfl⟩) (preV_ (ci := 5) (q0 := 0) hPc hK hDc rfl rfl rfl rfl) rfl rfl hl.1 rfl (lv_room (Nat.le_of_ble_eq_true rfl)) dX3_takeNumber_24 ⟨Nat.le_of_ble_eq_true rfl, Nat.le_of_ble_eq_true rfl⟩) hS (fun q _ h => hFc q h) hFc (fun z19 u t H18 locs ht hvm hw hB hz1 hk1 hS => ?_)
          have hw : r12 = z19 := hw.symm
          subst hw
          obtain ⟨hP, hD⟩ := aft_ (Wr := []) (Wc' := wT_ t0 t_characters cC tc13 tl14 tp15) (W2 := wT_ t0 t_characters cC tc13 tl14 tp15) hP hD [0, 1] [] [0, 1] rfl rfl (by decide) (by decide) (by decide) hk1 hFc hB ht rfl
          refine lv_istore_n (lv' := [(3, .int r12), (2, .int l2), (1, .int l1), (0, .ref t0)]) hx hb dX3_takeNumber_27 rfl hl (by decide) rfl (fun ls hl => ?_)
          refine lv_iload_n hx hb dX3_takeNumber_28 rfl (lv_at hl 0 rfl) ?_
          refine lv_iconst (v := (-1)) hx hb dX3_takeNumber_29 (by decide) ?_
          refine lv_icmp_ne (tgt := 35) hx hb dX3_takeNumber_30 (by decide) (fun c20 => ?_) (fun c20 => ?_)
          · have hf := ite_F c20 hf
            refine lv_iload_n hx hb dX3_takeNumber_35 rfl (lv_at hl 2 rfl) ?_
            refine lv_bipush (v := 10) hx hb dX3_takeNumber_36 (by decide) ?_
            refine lv_imul hx hb dX3_takeNumber_38 ?_
            refine lv_iload_n hx hb dX3_takeNumber_39 rfl (lv_at hl 0 rfl) ?_
            refine lv_iadd hx hb dX3_takeNumber_40 ?_
            refine lv_istore_n (lv' := [(1, .int ((l1 * 10) + r12)), (3, .int r12), (2, .int l2), (0, .ref t0)]) hx hb dX3_takeNumber_41 rfl hl (by decide) rfl (fun ls hl => ?_)
            refine lv_iinc (v := l2 + 1) (lv' := [(2, .int (l2 + 1)), (1, .int ((l1 * 10) + r12)), (3, .int r12), (0, .ref t0)]) hx hb dX3_takeNumber_42 hl (k := 2) rfl (by first | rfl | decide) (by decide) rfl (fun ls hl => ?_)
            refine lv_goto (tgt := 16) hx hb dX3_takeNumber_45 (by decide) ?_
            exact ih (l2 + 1) ((l1 * 10) + r12) tc13 tl14 tp15 _ _ _ hf hP hD hS (lv_sub hl [0, 1, 3] rfl)
          · have hf := ite_T c20 hf
            refine lv_iload_n hx hb dX3_takeNumber_33 rfl (lv_at hl 2 rfl) ?_
            have hR := Option.some.inj hf
            subst hR
            exact W.iret (v := l1) hx hb hr (fun t ht hW => ⟨⟨l1, (), rfl, rfl, by rw [ht]; exact hP, va_K.moved hW.alike hK, hD⟩, hS.F ht⟩) hS.2.2 dX3_takeNumber_34
    exact lp16 fu_ (1 : Int32) r1 tc2 tl3 tp4 _ _ _ hf hP hD hS hl
  · have hf := ite_T c9 hf
    refine lv_iconst (v := (-1)) hx hb dX3_takeNumber_12 (by decide) ?_
    have hR := Option.some.inj hf
    subst hR
    exact W.iret (v := (-1 : Int32)) hx hb hr (fun t ht hW => ⟨⟨(-1 : Int32), (), rfl, rfl, by rw [ht]; exact hP, va_K.moved hW.alike hK, hD⟩, hS.F ht⟩) hS.2.2 dX3_takeNumber_13
theorem hs_X3_takeNumber : yX3_takeNumber.cls = RX3 ∧ yX3_takeNumber.cls ≠ "java/lang/invoke/MethodHandle" ∧ yX3_takeNumber.cls ≠ "java/lang/invoke/VarHandle" ∧ (parseMethodDescriptor yX3_takeNumber.desc).map (fun d => d.parameters.length) = some 0 := by decide +kernel
set_option maxRecDepth 20000 in
theorem in_X0_copy_X0 : ∀ w ∈ wsX00, w ∈ wsX0_copy := by decide +kernel
def f_X0_copy_S2 (k_ : Int32 → tF_ → tF_ → Option (tF_)) (l2 : Int32) (F_ : tF_) (G_ : tF_) : Option (tF_) :=
match F_ with
| (fkeys, fdays, famounts, fversions, fcount) =>
match G_ with
| (gkeys, gdays, gamounts, gversions, gcount) =>
if gcount ≤ l2 then
some (fkeys, fdays, famounts, fversions, gcount)
else
gd_ l2 60 (
gd_ l2 60 (nm_ (upd fkeys l2.toNatClampNeg (gkeys l2.toNatClampNeg)) (fun u7 =>
gd_ l2 60 (
gd_ l2 60 (nm_ (upd fdays l2.toNatClampNeg (gdays l2.toNatClampNeg)) (fun u12 =>
gd_ l2 60 (
gd_ l2 60 (nm_ (upd famounts l2.toNatClampNeg (gamounts l2.toNatClampNeg)) (fun u17 =>
gd_ l2 60 (
gd_ l2 60 (nm_ (upd fversions l2.toNatClampNeg (gversions l2.toNatClampNeg)) (fun u22 =>
k_ (l2 + 1) (u7, u12, u17, u22, fcount) (gkeys, gdays, gamounts, gversions, gcount)))))))))))))
def f_X0_copy_L2 : Nat → Int32 → tF_ → tF_ → Option (tF_)
  | 0 => fun _ _ _ => none
  | n + 1 => fun l2 F_ G_ => f_X0_copy_S2 (f_X0_copy_L2 n) l2 F_ G_
def f_X0_copy  (F_ : tF_) (G_ : tF_) : Option (tF_) :=
match F_ with
| (fkeys, fdays, famounts, fversions, fcount) =>
match G_ with
| (gkeys, gdays, gamounts, gversions, gcount) =>
f_X0_copy_L2 fu_ (0 : Int32) (fkeys, fdays, famounts, fversions, fcount) (gkeys, gdays, gamounts, gversions, gcount)
abbrev rm_X0_copy : Room := { frames := 0, cells := 0, slots := 0, locals := 0 }
set_option maxHeartbeats 4000000 in
set_option maxRecDepth 100000 in
theorem c_X0_copy (l : Launch) (dC : Nat → ClassId) (dI : Nat → Nat → Nat) (cI cZ cC cJ cD : ClassId) (f0 f_keys f_days f_amounts f_versions g0 g_keys g_days g_amounts g_versions : Nat) (sz : Nat) (fkeys : Nat → Int32) (fdays : Nat → Int32) (famounts : Nat → Int32) (fversions : Nat → Int32) (fcount : Int32) (gkeys : Nat → Int32) (gdays : Nat → Int32) (gamounts : Nat → Int32) (gversions : Nat → Int32) (gcount : Int32)  (R : tF_) (hf : f_X0_copy  (fkeys, fdays, famounts, fversions, fcount) (gkeys, gdays, gamounts, gversions, gcount) = some R) : Met l yX0_copy wsX0_copy rm_X0_copy (Pc_ (dC, dI) (ty_ cI cZ cC cJ cD) (wF_ f0 f_keys f_days f_amounts f_versions cI fkeys fdays famounts fversions fcount ++ wF_ g0 g_keys g_days g_amounts g_versions cI gkeys gdays gamounts gversions gcount) sz [.ref f0, .ref g0]) (Qv_ (dC, dI) (ty_ cI cZ cC cJ cD) (wF_ f0 f_keys f_days f_amounts f_versions cI R.1 R.2.1 R.2.2.1 R.2.2.2.1 R.2.2.2.2 ++ wF_ g0 g_keys g_days g_amounts g_versions cI gkeys gdays gamounts gversions gcount) (va_A (wF_ f0 f_keys f_days f_amounts f_versions cI fkeys fdays famounts fversions fcount ++ wF_ g0 g_keys g_days g_amounts g_versions cI gkeys gdays gamounts gversions gcount) sz)) 0 0 (va_A (wF_ f0 f_keys f_days f_amounts f_versions cI fkeys fdays famounts fversions fcount ++ wF_ g0 g_keys g_days g_amounts g_versions cI gkeys gdays gamounts gversions gcount) sz) := by
  refine met_ (cc := cX0_copy) (maxL := 3) (ret := none) (Qcf := fun A => Qv_ (dC, dI) (ty_ cI cZ cC cJ cD) (wF_ f0 f_keys f_days f_amounts f_versions cI R.1 R.2.1 R.2.2.1 R.2.2.2.1 R.2.2.2.2 ++ wF_ g0 g_keys g_days g_amounts g_versions cI gkeys gdays gamounts gversions gcount) A) (by decide) rfl (Nat.le_of_ble_eq_true rfl) ?_
  intro p e s m args below meth c A ls hx hb hr hts hown hlocks hml hA hP hK hD hl
  have hown : s.vm.findClass RX0 = some m.cls := hown
  have hl : lv_has ls 3 [(0, .ref f0), (1, .ref g0)] := hl
  have hS : va_S A s.heap s.heap [] := va_S.rf
  have fl9_ : (Cond.fieldLink RX0 9 "DimensionLoader$Facts" "keys" "[I").before args s = true := hts _ (List.mem_of_getElem? (i := 2) rfl)
  have fl15_ : (Cond.fieldLink RX0 15 "DimensionLoader$Facts" "days" "[I").before args s = true := hts _ (List.mem_of_getElem? (i := 3) rfl)
  have fl18_ : (Cond.fieldLink RX0 18 "DimensionLoader$Facts" "amounts" "[I").before args s = true := hts _ (List.mem_of_getElem? (i := 4) rfl)
  have fl21_ : (Cond.fieldLink RX0 21 "DimensionLoader$Facts" "versions" "[I").before args s = true := hts _ (List.mem_of_getElem? (i := 5) rfl)
  have fl24_ : (Cond.fieldLink RX0 24 "DimensionLoader$Facts" "count" "I").before args s = true := hts _ (List.mem_of_getElem? (i := 1) rfl)
  have inX0_ : ∀ w ∈ wsX00, w ∈ wsX0_copy := in_X0_copy_X0
  unfold f_X0_copy at hf
  dsimp only at hf
  refine lv_iconst (v := 0) hx hb dX0_copy_0 (by decide) ?_
  refine lv_istore_n (lv' := [(2, .int 0), (0, .ref f0), (1, .ref g0)]) hx hb dX0_copy_1 rfl hl (by decide) rfl (fun ls hl => ?_)
  have lp2 : ∀ (n : Nat) (l2 : Int32) (fkeys : Nat → Int32) (fdays : Nat → Int32) (famounts : Nat → Int32) (fversions : Nat → Int32) (fcount : Int32) (gkeys : Nat → Int32) (gdays : Nat → Int32) (gamounts : Nat → Int32) (gversions : Nat → Int32) (gcount : Int32) (H1 : Heap) (locs : List Loc) (ls : Array Slot), f_X0_copy_L2 n l2 (fkeys, fdays, famounts, fversions, fcount) (gkeys, gdays, gamounts, gversions, gcount) = some R → va_P (dC, dI) vwCl (wF_ f0 f_keys f_days f_amounts f_versions cI fkeys fdays famounts fversions fcount ++ wF_ g0 g_keys g_days g_amounts g_versions cI gkeys gdays gamounts gversions gcount) H1 → va_D A (wF_ f0 f_keys f_days f_amounts f_versions cI fkeys fdays famounts fversions fcount ++ wF_ g0 g_keys g_days g_amounts g_versions cI gkeys gdays gamounts gversions gcount) → va_S A s.heap H1 locs → lv_has ls 3 [(2, .int l2), (0, .ref f0), (1, .ref g0)] → W p l e (headSpec wsX0_copy rm_X0_copy).room s m args below meth c H1 locs 0 0 (MQ below (Qv_ (dC, dI) (ty_ cI cZ cC cJ cD) (wF_ f0 f_keys f_days f_amounts f_versions cI R.1 R.2.1 R.2.2.1 R.2.2.2.1 R.2.2.2.2 ++ wF_ g0 g_keys g_days g_amounts g_versions cI gkeys gdays gamounts gversions gcount) A) args s 0 0 A) (F0 m 2 ls []) := by
    intro n
    induction n with
    | zero => intro l2 fkeys fdays famounts fversions fcount gkeys gdays gamounts gversions gcount H1 locs ls hf hP hD hS hl; exact absurd hf (by simp [f_X0_copy_L2])
    | succ n ih =>
      intro l2 fkeys fdays famounts fversions fcount gkeys gdays gamounts gversions gcount H1 locs ls hf hP hD hS hl
      have hf : f_X0_copy_S2 (f_X0_copy_L2 n) l2 (fkeys, fdays, famounts, fversions, fcount) (gkeys, gdays, gamounts, gversions, gcount) = some R := hf
      unfold f_X0_copy_S2 at hf
      dsimp only at hf
      refine lv_iload_n hx hb dX0_copy_2 rfl (lv_at hl 0 rfl) ?_
      refine lv_aload_n hx hb dX0_copy_3 rfl (lv_at hl 2 rfl) ?_
      refine va_get (D := (dC, dI)) (ci := 2) (v := .int gcount) (C := RX0) (T := TX0) (N := 5) hx hb hts inX0_ hown hK hP 5 rfl rfl 4 (by decide) fl24_ (fun _ h9 => h9) rfl dX0_copy_4 ?_
      refine lv_icmp_ge (tgt := 64) hx hb dX0_copy_7 (by decide) (fun c2 => ?_) (fun c2 => ?_)
      · have hf := ite_T c2 hf
        refine lv_aload_n hx hb dX0_copy_64 rfl (lv_at hl 1 rfl) ?_
        refine lv_aload_n hx hb dX0_copy_65 rfl (lv_at hl 2 rfl) ?_
        refine va_get (D := (dC, dI)) (ci := 2) (v := .int gcount) (C := RX0) (T := TX0) (N := 5) hx hb hts inX0_ hown hK hP 5 rfl rfl 4 (by decide) fl24_ (fun _ h9 => h9) rfl dX0_copy_66 ?_
        refine va_put (D := (dC, dI)) (ci := 2) (v := .int gcount) (ty := .int) (C := RX0) (T := TX0) (N := 5) hx hb hts inX0_ tyX0 tyX0_ok nmX0 hown hK hP hD hS 0 rfl rfl 4 (by decide) fl24_ (fun _ h9 => h9) rfl (by decide +kernel) (by first | rfl | decide) (by first | rfl | decide) (Nat.le_of_ble_eq_true rfl) dX0_copy_69 (fun H3 locs hP hD hS => ?_)
        have hP : va_P (dC, dI) vwCl (wF_ f0 f_keys f_days f_amounts f_versions cI fkeys fdays famounts fversions gcount ++ wF_ g0 g_keys g_days g_amounts g_versions cI gkeys gdays gamounts gversions gcount) H3 := hP
        have hD : va_D A (wF_ f0 f_keys f_days f_amounts f_versions cI fkeys fdays famounts fversions gcount ++ wF_ g0 g_keys g_days g_amounts g_versions cI gkeys gdays gamounts gversions gcount) := hD
        have hR := Option.some.inj hf
        subst hR
        exact W.vret hx hb hr (fun t ht hW => ⟨⟨(), rfl, trivial, by rw [ht]; exact hP, va_K.moved hW.alike hK, hD⟩, hS.F ht⟩) hS.2.2 dX0_copy_72
      · have hf := ite_F c2 hf
        refine lv_aload_n hx hb dX0_copy_10 rfl (lv_at hl 1 rfl) ?_
        refine va_get (D := (dC, dI)) (ci := 2) (v := .ref f_keys) (C := RX0) (T := TX0) (N := 5) hx hb hts inX0_ hown hK hP 0 rfl rfl 0 (by decide) fl9_ (fun _ h9 => h9) rfl dX0_copy_11 ?_
        refine lv_iload_n hx hb dX0_copy_14 rfl (lv_at hl 0 rfl) ?_
        refine lv_aload_n hx hb dX0_copy_15 rfl (lv_at hl 2 rfl) ?_
        refine va_get (D := (dC, dI)) (ci := 2) (v := .ref g_keys) (C := RX0) (T := TX0) (N := 5) hx hb hts inX0_ hown hK hP 5 rfl rfl 0 (by decide) fl9_ (fun _ h9 => h9) rfl dX0_copy_16 ?_
        refine lv_iload_n hx hb dX0_copy_19 rfl (lv_at hl 0 rfl) ?_
        obtain ⟨h4, hf⟩ := gd_T hf
        refine va_iald hx hb hK hP 6 0 rfl rfl h4 dX0_copy_20 ?_
        obtain ⟨h5, hf⟩ := gd_T hf
        refine va_iast hx hb hK hP hD hS 1 0 rfl rfl h5 dX0_copy_21 (fun H6 locs hP hD hS => ?_)
        have hP : va_P (dC, dI) vwCl (wF_ f0 f_keys f_days f_amounts f_versions cI (upd fkeys l2.toNatClampNeg (gkeys l2.toNatClampNeg)) fdays famounts fversions fcount ++ wF_ g0 g_keys g_days g_amounts g_versions cI gkeys gdays gamounts gversions gcount) H6 := hP
        have hD : va_D A (wF_ f0 f_keys f_days f_amounts f_versions cI (upd fkeys l2.toNatClampNeg (gkeys l2.toNatClampNeg)) fdays famounts fversions fcount ++ wF_ g0 g_keys g_days g_amounts g_versions cI gkeys gdays gamounts gversions gcount) := hD
        obtain ⟨u7, e8, hf⟩ := nm_T hf
        rw [← e8] at hP hD
        refine lv_aload_n hx hb dX0_copy_22 rfl (lv_at hl 1 rfl) ?_
        refine va_get (D := (dC, dI)) (ci := 2) (v := .ref f_days) (C := RX0) (T := TX0) (N := 5) hx hb hts inX0_ hown hK hP 0 rfl rfl 1 (by decide) fl15_ (fun _ h9 => h9) rfl dX0_copy_23 ?_
        refine lv_iload_n hx hb dX0_copy_26 rfl (lv_at hl 0 rfl) ?_
        refine lv_aload_n hx hb dX0_copy_27 rfl (lv_at hl 2 rfl) ?_
        refine va_get (D := (dC, dI)) (ci := 2) (v := .ref g_days) (C := RX0) (T := TX0) (N := 5) hx hb hts inX0_ hown hK hP 5 rfl rfl 1 (by decide) fl15_ (fun _ h9 => h9) rfl dX0_copy_28 ?_
        refine lv_iload_n hx hb dX0_copy_31 rfl (lv_at hl 0 rfl) ?_
        obtain ⟨h9, hf⟩ := gd_T hf
        refine va_iald hx hb hK hP 7 0 rfl rfl h9 dX0_copy_32 ?_
        obtain ⟨h10, hf⟩ := gd_T hf
        refine va_iast hx hb hK hP hD hS 2 0 rfl rfl h10 dX0_copy_33 (fun H11 locs hP hD hS => ?_)
        have hP : va_P (dC, dI) vwCl (wF_ f0 f_keys f_days f_amounts f_versions cI u7 (upd fdays l2.toNatClampNeg (gdays l2.toNatClampNeg)) famounts fversions fcount ++ wF_ g0 g_keys g_days g_amounts g_versions cI gkeys gdays gamounts gversions gcount) H11 := hP
        have hD : va_D A (wF_ f0 f_keys f_days f_amounts f_versions cI u7 (upd fdays l2.toNatClampNeg (gdays l2.toNatClampNeg)) famounts fversions fcount ++ wF_ g0 g_keys g_days g_amounts g_versions cI gkeys gdays gamounts gversions gcount) := hD
        obtain ⟨u12, e13, hf⟩ := nm_T hf
        rw [← e13] at hP hD
        refine lv_aload_n hx hb dX0_copy_34 rfl (lv_at hl 1 rfl) ?_
        refine va_get (D := (dC, dI)) (ci := 2) (v := .ref f_amounts) (C := RX0) (T := TX0) (N := 5) hx hb hts inX0_ hown hK hP 0 rfl rfl 2 (by decide) fl18_ (fun _ h9 => h9) rfl dX0_copy_35 ?_
        refine lv_iload_n hx hb dX0_copy_38 rfl (lv_at hl 0 rfl) ?_
        refine lv_aload_n hx hb dX0_copy_39 rfl (lv_at hl 2 rfl) ?_
        refine va_get (D := (dC, dI)) (ci := 2) (v := .ref g_amounts) (C := RX0) (T := TX0) (N := 5) hx hb hts inX0_ hown hK hP 5 rfl rfl 2 (by decide) fl18_ (fun _ h9 => h9) rfl dX0_copy_40 ?_
        refine lv_iload_n hx hb dX0_copy_43 rfl (lv_at hl 0 rfl) ?_
        obtain ⟨h14, hf⟩ := gd_T hf
        refine va_iald hx hb hK hP 8 0 rfl rfl h14 dX0_copy_44 ?_
        obtain ⟨h15, hf⟩ := gd_T hf
        refine va_iast hx hb hK hP hD hS 3 0 rfl rfl h15 dX0_copy_45 (fun H16 locs hP hD hS => ?_)
        have hP : va_P (dC, dI) vwCl (wF_ f0 f_keys f_days f_amounts f_versions cI u7 u12 (upd famounts l2.toNatClampNeg (gamounts l2.toNatClampNeg)) fversions fcount ++ wF_ g0 g_keys g_days g_amounts g_versions cI gkeys gdays gamounts gversions gcount) H16 := hP
        have hD : va_D A (wF_ f0 f_keys f_days f_amounts f_versions cI u7 u12 (upd famounts l2.toNatClampNeg (gamounts l2.toNatClampNeg)) fversions fcount ++ wF_ g0 g_keys g_days g_amounts g_versions cI gkeys gdays gamounts gversions gcount) := hD
        obtain ⟨u17, e18, hf⟩ := nm_T hf
        rw [← e18] at hP hD
        refine lv_aload_n hx hb dX0_copy_46 rfl (lv_at hl 1 rfl) ?_
        refine va_get (D := (dC, dI)) (ci := 2) (v := .ref f_versions) (C := RX0) (T := TX0) (N := 5) hx hb hts inX0_ hown hK hP 0 rfl rfl 3 (by decide) fl21_ (fun _ h9 => h9) rfl dX0_copy_47 ?_
        refine lv_iload_n hx hb dX0_copy_50 rfl (lv_at hl 0 rfl) ?_
        refine lv_aload_n hx hb dX0_copy_51 rfl (lv_at hl 2 rfl) ?_
        refine va_get (D := (dC, dI)) (ci := 2) (v := .ref g_versions) (C := RX0) (T := TX0) (N := 5) hx hb hts inX0_ hown hK hP 5 rfl rfl 3 (by decide) fl21_ (fun _ h9 => h9) rfl dX0_copy_52 ?_
        refine lv_iload_n hx hb dX0_copy_55 rfl (lv_at hl 0 rfl) ?_
        obtain ⟨h19, hf⟩ := gd_T hf
        refine va_iald hx hb hK hP 9 0 rfl rfl h19 dX0_copy_56 ?_
        obtain ⟨h20, hf⟩ := gd_T hf
        refine va_iast hx hb hK hP hD hS 4 0 rfl rfl h20 dX0_copy_57 (fun H21 locs hP hD hS => ?_)
        have hP : va_P (dC, dI) vwCl (wF_ f0 f_keys f_days f_amounts f_versions cI u7 u12 u17 (upd fversions l2.toNatClampNeg (gversions l2.toNatClampNeg)) fcount ++ wF_ g0 g_keys g_days g_amounts g_versions cI gkeys gdays gamounts gversions gcount) H21 := hP
        have hD : va_D A (wF_ f0 f_keys f_days f_amounts f_versions cI u7 u12 u17 (upd fversions l2.toNatClampNeg (gversions l2.toNatClampNeg)) fcount ++ wF_ g0 g_keys g_days g_amounts g_versions cI gkeys gdays gamounts gversions gcount) := hD
        obtain ⟨u22, e23, hf⟩ := nm_T hf
        rw [← e23] at hP hD
        refine lv_iinc (v := l2 + 1) (lv' := [(2, .int (l2 + 1)), (0, .ref f0), (1, .ref g0)]) hx hb dX0_copy_58 hl (k := 0) rfl (by first | rfl | decide) (by decide) rfl (fun ls hl => ?_)
        refine lv_goto (tgt := 2) hx hb dX0_copy_61 (by decide) ?_
        exact ih (l2 + 1) u7 u12 u17 u22 fcount gkeys gdays gamounts gversions gcount _ _ _ hf hP hD hS (lv_sub hl [0, 1, 2] rfl)
  exact lp2 fu_ (0 : Int32) fkeys fdays famounts fversions fcount gkeys gdays gamounts gversions gcount _ _ _ hf hP hD hS hl
theorem hs_X0_copy : yX0_copy.cls = RX0 ∧ yX0_copy.cls ≠ "java/lang/invoke/MethodHandle" ∧ yX0_copy.cls ≠ "java/lang/invoke/VarHandle" ∧ (parseMethodDescriptor yX0_copy.desc).map (fun d => d.parameters.length) = some 1 := by decide +kernel
set_option maxRecDepth 20000 in
theorem in_X0_pointTo_X0 : ∀ w ∈ wsX00, w ∈ wsX0_pointTo := by decide +kernel
def f_X0_pointTo_S4 (k_ : Int32 → Int32 → tF_ → tV_ → Option (Int32 × tF_)) (l3 : Int32) (l2 : Int32) (F_ : tF_) (V_ : tV_) : Option (Int32 × tF_) :=
match F_ with
| (fkeys, fdays, famounts, fversions, fcount) =>
match V_ with
| (vkeys, vfirsts, vends, vvalues, vinferred, vgone, vmade) =>
if fcount ≤ l3 then
some (l2, (fkeys, fdays, famounts, fversions, fcount))
else
gd_ l3 60 (
gd_ l3 60 (
bd_ (f_X4_onDay (fkeys l3.toNatClampNeg) (fdays l3.toNatClampNeg) (vkeys, vfirsts, vends, vvalues, vinferred, vgone, vmade)) (fun r5 =>
gd_ l3 60 (
if r5 = (fversions l3.toNatClampNeg) then
k_ (l3 + 1) l2 (fkeys, fdays, famounts, fversions, fcount) (vkeys, vfirsts, vends, vvalues, vinferred, vgone, vmade)
else
gd_ l3 60 (nm_ (upd fversions l3.toNatClampNeg r5) (fun u14 =>
k_ (l3 + 1) (l2 + 1) (fkeys, fdays, famounts, u14, fcount) (vkeys, vfirsts, vends, vvalues, vinferred, vgone, vmade)))))))
def f_X0_pointTo_L4 : Nat → Int32 → Int32 → tF_ → tV_ → Option (Int32 × tF_)
  | 0 => fun _ _ _ _ => none
  | n + 1 => fun l3 l2 F_ V_ => f_X0_pointTo_S4 (f_X0_pointTo_L4 n) l3 l2 F_ V_
def f_X0_pointTo  (F_ : tF_) (V_ : tV_) : Option (Int32 × tF_) :=
match F_ with
| (fkeys, fdays, famounts, fversions, fcount) =>
match V_ with
| (vkeys, vfirsts, vends, vvalues, vinferred, vgone, vmade) =>
f_X0_pointTo_L4 fu_ (0 : Int32) (0 : Int32) (fkeys, fdays, famounts, fversions, fcount) (vkeys, vfirsts, vends, vvalues, vinferred, vgone, vmade)
abbrev rm_X0_pointTo : Room := { frames := 3, cells := 0, slots := 0, locals := 66 }
set_option maxHeartbeats 4000000 in
set_option maxRecDepth 100000 in
theorem c_X0_pointTo (l : Launch) (dC : Nat → ClassId) (dI : Nat → Nat → Nat) (cI cZ cC cJ cD : ClassId) (f0 f_keys f_days f_amounts f_versions v0 v_keys v_firsts v_ends v_values v_inferred v_gone : Nat) (sz : Nat) (fkeys : Nat → Int32) (fdays : Nat → Int32) (famounts : Nat → Int32) (fversions : Nat → Int32) (fcount : Int32) (vkeys : Nat → Int32) (vfirsts : Nat → Int32) (vends : Nat → Int32) (vvalues : Nat → Int32) (vinferred : Nat → Int32) (vgone : Nat → Int32) (vmade : Int32)  (R : Int32 × tF_) (hf : f_X0_pointTo  (fkeys, fdays, famounts, fversions, fcount) (vkeys, vfirsts, vends, vvalues, vinferred, vgone, vmade) = some R) : Met l yX0_pointTo wsX0_pointTo rm_X0_pointTo (Pc_ (dC, dI) (ty_ cI cZ cC cJ cD) (wF_ f0 f_keys f_days f_amounts f_versions cI fkeys fdays famounts fversions fcount ++ wV_ v0 v_keys v_firsts v_ends v_values v_inferred v_gone cI cZ vkeys vfirsts vends vvalues vinferred vgone vmade) sz [.ref f0, .ref v0]) (Qi_ (dC, dI) (ty_ cI cZ cC cJ cD) R.1 (wF_ f0 f_keys f_days f_amounts f_versions cI R.2.1 R.2.2.1 R.2.2.2.1 R.2.2.2.2.1 R.2.2.2.2.2 ++ wV_ v0 v_keys v_firsts v_ends v_values v_inferred v_gone cI cZ vkeys vfirsts vends vvalues vinferred vgone vmade) (va_A (wF_ f0 f_keys f_days f_amounts f_versions cI fkeys fdays famounts fversions fcount ++ wV_ v0 v_keys v_firsts v_ends v_values v_inferred v_gone cI cZ vkeys vfirsts vends vvalues vinferred vgone vmade) sz)) 0 0 (va_A (wF_ f0 f_keys f_days f_amounts f_versions cI fkeys fdays famounts fversions fcount ++ wV_ v0 v_keys v_firsts v_ends v_values v_inferred v_gone cI cZ vkeys vfirsts vends vvalues vinferred vgone vmade) sz) := by
  refine met_ (cc := cX0_pointTo) (maxL := 5) (ret := (some .int)) (Qcf := fun A => Qi_ (dC, dI) (ty_ cI cZ cC cJ cD) R.1 (wF_ f0 f_keys f_days f_amounts f_versions cI R.2.1 R.2.2.1 R.2.2.2.1 R.2.2.2.2.1 R.2.2.2.2.2 ++ wV_ v0 v_keys v_firsts v_ends v_values v_inferred v_gone cI cZ vkeys vfirsts vends vvalues vinferred vgone vmade) A) (by decide) rfl (Nat.le_of_ble_eq_true rfl) ?_
  intro p e s m args below meth c A ls hx hb hr hts hown hlocks hml hA hP hK hD hl
  have hown : s.vm.findClass RX0 = some m.cls := hown
  have hl : lv_has ls 5 [(0, .ref f0), (1, .ref v0)] := hl
  have hS : va_S A s.heap s.heap [] := va_S.rf
  have fl9_ : (Cond.fieldLink RX0 9 "DimensionLoader$Facts" "keys" "[I").before args s = true := hts _ (List.mem_of_getElem? (i := 2) rfl)
  have fl15_ : (Cond.fieldLink RX0 15 "DimensionLoader$Facts" "days" "[I").before args s = true := hts _ (List.mem_of_getElem? (i := 3) rfl)
  have fl21_ : (Cond.fieldLink RX0 21 "DimensionLoader$Facts" "versions" "[I").before args s = true := hts _ (List.mem_of_getElem? (i := 4) rfl)
  have fl24_ : (Cond.fieldLink RX0 24 "DimensionLoader$Facts" "count" "I").before args s = true := hts _ (List.mem_of_getElem? (i := 1) rfl)
  have inX0_ : ∀ w ∈ wsX00, w ∈ wsX0_pointTo := in_X0_pointTo_X0
  unfold f_X0_pointTo at hf
  dsimp only at hf
  refine lv_iconst (v := 0) hx hb dX0_pointTo_0 (by decide) ?_
  refine lv_istore_n (lv' := [(2, .int 0), (0, .ref f0), (1, .ref v0)]) hx hb dX0_pointTo_1 rfl hl (by decide) rfl (fun ls hl => ?_)
  refine lv_iconst (v := 0) hx hb dX0_pointTo_2 (by decide) ?_
  refine lv_istore_n (lv' := [(3, .int 0), (2, .int 0), (0, .ref f0), (1, .ref v0)]) hx hb dX0_pointTo_3 rfl hl (by decide) rfl (fun ls hl => ?_)
  have lp4 : ∀ (n : Nat) (l3 : Int32) (l2 : Int32) (fkeys : Nat → Int32) (fdays : Nat → Int32) (famounts : Nat → Int32) (fversions : Nat → Int32) (fcount : Int32) (vkeys : Nat → Int32) (vfirsts : Nat → Int32) (vends : Nat → Int32) (vvalues : Nat → Int32) (vinferred : Nat → Int32) (vgone : Nat → Int32) (vmade : Int32) (H1 : Heap) (locs : List Loc) (ls : Array Slot), f_X0_pointTo_L4 n l3 l2 (fkeys, fdays, famounts, fversions, fcount) (vkeys, vfirsts, vends, vvalues, vinferred, vgone, vmade) = some R → va_P (dC, dI) vwCl (wF_ f0 f_keys f_days f_amounts f_versions cI fkeys fdays famounts fversions fcount ++ wV_ v0 v_keys v_firsts v_ends v_values v_inferred v_gone cI cZ vkeys vfirsts vends vvalues vinferred vgone vmade) H1 → va_D A (wF_ f0 f_keys f_days f_amounts f_versions cI fkeys fdays famounts fversions fcount ++ wV_ v0 v_keys v_firsts v_ends v_values v_inferred v_gone cI cZ vkeys vfirsts vends vvalues vinferred vgone vmade) → va_S A s.heap H1 locs → lv_has ls 5 [(3, .int l3), (2, .int l2), (0, .ref f0), (1, .ref v0)] → W p l e (headSpec wsX0_pointTo rm_X0_pointTo).room s m args below meth c H1 locs 0 0 (MQ below (Qi_ (dC, dI) (ty_ cI cZ cC cJ cD) R.1 (wF_ f0 f_keys f_days f_amounts f_versions cI R.2.1 R.2.2.1 R.2.2.2.1 R.2.2.2.2.1 R.2.2.2.2.2 ++ wV_ v0 v_keys v_firsts v_ends v_values v_inferred v_gone cI cZ vkeys vfirsts vends vvalues vinferred vgone vmade) A) args s 0 0 A) (F0 m 4 ls []) := by
    intro n
    induction n with
    | zero => intro l3 l2 fkeys fdays famounts fversions fcount vkeys vfirsts vends vvalues vinferred vgone vmade H1 locs ls hf hP hD hS hl; exact absurd hf (by simp [f_X0_pointTo_L4])
    | succ n ih =>
      intro l3 l2 fkeys fdays famounts fversions fcount vkeys vfirsts vends vvalues vinferred vgone vmade H1 locs ls hf hP hD hS hl
      have hf : f_X0_pointTo_S4 (f_X0_pointTo_L4 n) l3 l2 (fkeys, fdays, famounts, fversions, fcount) (vkeys, vfirsts, vends, vvalues, vinferred, vgone, vmade) = some R := hf
      unfold f_X0_pointTo_S4 at hf
      dsimp only at hf
      refine lv_iload_n hx hb dX0_pointTo_4 rfl (lv_at hl 0 rfl) ?_
      refine lv_aload_n hx hb dX0_pointTo_5 rfl (lv_at hl 2 rfl) ?_
      refine va_get (D := (dC, dI)) (ci := 2) (v := .int fcount) (C := RX0) (T := TX0) (N := 5) hx hb hts inX0_ hown hK hP 0 rfl rfl 4 (by decide) fl24_ (fun _ h9 => h9) rfl dX0_pointTo_6 ?_
      refine lv_icmp_ge (tgt := 58) hx hb dX0_pointTo_9 (by decide) (fun c2 => ?_) (fun c2 => ?_)
      · have hf := ite_T c2 hf
        refine lv_iload_n hx hb dX0_pointTo_58 rfl (lv_at hl 1 rfl) ?_
        have hR := Option.some.inj hf
        subst hR
        exact W.iret (v := l2) hx hb hr (fun t ht hW => ⟨⟨l2, (), rfl, rfl, by rw [ht]; exact hP, va_K.moved hW.alike hK, hD⟩, hS.F ht⟩) hS.2.2 dX0_pointTo_59
      · have hf := ite_F c2 hf
        refine lv_aload_n hx hb dX0_pointTo_12 rfl (lv_at hl 3 rfl) ?_
        refine lv_aload_n hx hb dX0_pointTo_13 rfl (lv_at hl 2 rfl) ?_
        refine va_get (D := (dC, dI)) (ci := 2) (v := .ref f_keys) (C := RX0) (T := TX0) (N := 5) hx hb hts inX0_ hown hK hP 0 rfl rfl 0 (by decide) fl9_ (fun _ h9 => h9) rfl dX0_pointTo_14 ?_
        refine lv_iload_n hx hb dX0_pointTo_17 rfl (lv_at hl 0 rfl) ?_
        obtain ⟨h3, hf⟩ := gd_T hf
        refine va_iald hx hb hK hP 1 0 rfl rfl h3 dX0_pointTo_18 ?_
        refine lv_aload_n hx hb dX0_pointTo_19 rfl (lv_at hl 2 rfl) ?_
        refine va_get (D := (dC, dI)) (ci := 2) (v := .ref f_days) (C := RX0) (T := TX0) (N := 5) hx hb hts inX0_ hown hK hP 0 rfl rfl 1 (by decide) fl15_ (fun _ h9 => h9) rfl dX0_pointTo_20 ?_
        refine lv_iload_n hx hb dX0_pointTo_23 rfl (lv_at hl 0 rfl) ?_
        obtain ⟨h4, hf⟩ := gd_T hf
        refine va_iald hx hb hK hP 2 0 rfl rfl h4 dX0_pointTo_24 ?_
        obtain ⟨R6, g7, hf⟩ := bd_B hf
        obtain ⟨r5, rfl⟩ : ∃ z, z = R6 := ⟨_, rfl⟩
        have hPc := hP.sub (ws' := wV_ v0 v_keys v_firsts v_ends v_values v_inferred v_gone cI cZ vkeys vfirsts vends vvalues vinferred vgone vmade) [5, 6, 7, 8, 9, 10, 11] rfl
        have hDc := hD.sub (ws' := wV_ v0 v_keys v_firsts v_ends v_values v_inferred v_gone cI cZ vkeys vfirsts vends vvalues vinferred vgone vmade) [5, 6, 7, 8, 9, 10, 11] (by decide) rfl
        have hFc := va_free (wc := wV_ v0 v_keys v_firsts v_ends v_values v_inferred v_gone cI cZ vkeys vfirsts vends vvalues vinferred vgone vmade) hD hS hA [5, 6, 7, 8, 9, 10, 11] rfl
        refine va_calli (va_runV (As := [.int (fkeys l3.toNatClampNeg), .int (fdays l3.toNatClampNeg)]) (rest := []) ⟨hx, hb, hml, hown, hts⟩ (c_X4_onDay l dC dI cI cZ cC cJ cD v0 v_keys v_firsts v_ends v_values v_inferred v_gone H1.size vkeys vfirsts vends vvalues vinferred vgone vmade (fkeys l3.toNatClampNeg) (fdays l3.toNatClampNeg) r5 g7) (cwV 2 hts gX0_pointTo_X4_onDay rfl rfl rfl hs_X4_onDay ⟨Nat.le_of_ble_eq_true rfl, Nat.le_of_ble_eq_true rfl⟩) (preV_ (ci := 6) (q0 := 0) hPc hK hDc rfl rfl rfl rfl) rfl rfl hl.1 rfl (lv_room (Nat.le_of_ble_eq_true rfl)) dX0_pointTo_25 ⟨Nat.le_of_ble_eq_true rfl, Nat.le_of_ble_eq_true rfl⟩) hS (fun q _ h => hFc q h) hFc (fun z9 u t H8 locs ht hvm hw hB hz1 hk1 hS => ?_)
        have hw : r5 = z9 := hw.symm
        subst hw
        obtain ⟨hP, hD⟩ := aft_ (Wr := wF_ f0 f_keys f_days f_amounts f_versions cI fkeys fdays famounts fversions fcount) (Wc' := wV_ v0 v_keys v_firsts v_ends v_values v_inferred v_gone cI cZ vkeys vfirsts vends vvalues vinferred vgone vmade) (W2 := wF_ f0 f_keys f_days f_amounts f_versions cI fkeys fdays famounts fversions fcount ++ wV_ v0 v_keys v_firsts v_ends v_values v_inferred v_gone cI cZ vkeys vfirsts vends vvalues vinferred vgone vmade) hP hD [5, 6, 7, 8, 9, 10, 11] [0, 1, 2, 3, 4] [0, 1, 2, 3, 4, 5, 6, 7, 8, 9, 10, 11] rfl rfl (by decide) (by decide) (by decide) hk1 hFc hB ht rfl
        refine lv_istore (lv' := [(4, .int r5), (3, .int l3), (2, .int l2), (0, .ref f0), (1, .ref v0)]) hx hb dX0_pointTo_28 hl (by decide) rfl (fun ls hl => ?_)
        refine lv_iload hx hb dX0_pointTo_30 (lv_at hl 0 rfl) ?_
        refine lv_aload_n hx hb dX0_pointTo_32 rfl (lv_at hl 3 rfl) ?_
        refine va_get (D := (dC, dI)) (ci := 2) (v := .ref f_versions) (C := RX0) (T := TX0) (N := 5) hx hb hts inX0_ hown hK hP 0 rfl rfl 3 (by decide) fl21_ (fun _ h9 => h9) rfl dX0_pointTo_33 ?_
        refine lv_iload_n hx hb dX0_pointTo_36 rfl (lv_at hl 1 rfl) ?_
        obtain ⟨h10, hf⟩ := gd_T hf
        refine va_iald hx hb hK hP 4 0 rfl rfl h10 dX0_pointTo_37 ?_
        refine lv_icmp_eq (tgt := 52) hx hb dX0_pointTo_38 (by decide) (fun c11 => ?_) (fun c11 => ?_)
        · have hf := ite_T c11 hf
          refine lv_iinc (v := l3 + 1) (lv' := [(3, .int (l3 + 1)), (4, .int r5), (2, .int l2), (0, .ref f0), (1, .ref v0)]) hx hb dX0_pointTo_52 hl (k := 1) rfl (by first | rfl | decide) (by decide) rfl (fun ls hl => ?_)
          refine lv_goto (tgt := 4) hx hb dX0_pointTo_55 (by decide) ?_
          exact ih (l3 + 1) l2 fkeys fdays famounts fversions fcount vkeys vfirsts vends vvalues vinferred vgone vmade _ _ _ hf hP hD hS (lv_sub hl [0, 2, 3, 4] rfl)
        · have hf := ite_F c11 hf
          refine lv_aload_n hx hb dX0_pointTo_41 rfl (lv_at hl 3 rfl) ?_
          refine va_get (D := (dC, dI)) (ci := 2) (v := .ref f_versions) (C := RX0) (T := TX0) (N := 5) hx hb hts inX0_ hown hK hP 0 rfl rfl 3 (by decide) fl21_ (fun _ h9 => h9) rfl dX0_pointTo_42 ?_
          refine lv_iload_n hx hb dX0_pointTo_45 rfl (lv_at hl 1 rfl) ?_
          refine lv_iload hx hb dX0_pointTo_46 (lv_at hl 0 rfl) ?_
          obtain ⟨h12, hf⟩ := gd_T hf
          refine va_iast hx hb hK hP hD hS 4 0 rfl rfl h12 dX0_pointTo_48 (fun H13 locs hP hD hS => ?_)
          have hP : va_P (dC, dI) vwCl (wF_ f0 f_keys f_days f_amounts f_versions cI fkeys fdays famounts (upd fversions l3.toNatClampNeg r5) fcount ++ wV_ v0 v_keys v_firsts v_ends v_values v_inferred v_gone cI cZ vkeys vfirsts vends vvalues vinferred vgone vmade) H13 := hP
          have hD : va_D A (wF_ f0 f_keys f_days f_amounts f_versions cI fkeys fdays famounts (upd fversions l3.toNatClampNeg r5) fcount ++ wV_ v0 v_keys v_firsts v_ends v_values v_inferred v_gone cI cZ vkeys vfirsts vends vvalues vinferred vgone vmade) := hD
          obtain ⟨u14, e15, hf⟩ := nm_T hf
          rw [← e15] at hP hD
          refine lv_iinc (v := l2 + 1) (lv' := [(2, .int (l2 + 1)), (4, .int r5), (3, .int l3), (0, .ref f0), (1, .ref v0)]) hx hb dX0_pointTo_49 hl (k := 2) rfl (by first | rfl | decide) (by decide) rfl (fun ls hl => ?_)
          refine lv_iinc (v := l3 + 1) (lv' := [(3, .int (l3 + 1)), (2, .int (l2 + 1)), (4, .int r5), (0, .ref f0), (1, .ref v0)]) hx hb dX0_pointTo_52 hl (k := 2) rfl (by first | rfl | decide) (by decide) rfl (fun ls hl => ?_)
          refine lv_goto (tgt := 4) hx hb dX0_pointTo_55 (by decide) ?_
          exact ih (l3 + 1) (l2 + 1) fkeys fdays famounts u14 fcount vkeys vfirsts vends vvalues vinferred vgone vmade _ _ _ hf hP hD hS (lv_sub hl [0, 1, 3, 4] rfl)
  exact lp4 fu_ (0 : Int32) (0 : Int32) fkeys fdays famounts fversions fcount vkeys vfirsts vends vvalues vinferred vgone vmade _ _ _ hf hP hD hS hl
theorem hs_X0_pointTo : yX0_pointTo.cls = RX0 ∧ yX0_pointTo.cls ≠ "java/lang/invoke/MethodHandle" ∧ yX0_pointTo.cls ≠ "java/lang/invoke/VarHandle" ∧ (parseMethodDescriptor yX0_pointTo.desc).map (fun d => d.parameters.length) = some 1 := by decide +kernel
set_option maxRecDepth 20000 in
theorem in_X1_copy_X1 : ∀ w ∈ wsX10, w ∈ wsX1_copy := by decide +kernel
def f_X1_copy_S2 (k_ : Int32 → tR_ → tR_ → Option (tR_)) (l2 : Int32) (R_ : tR_) (Q_ : tR_) : Option (tR_) :=
match R_ with
| (rkeys, rdays, rvalues, rcount) =>
match Q_ with
| (qkeys, qdays, qvalues, qcount) =>
if qcount ≤ l2 then
some (rkeys, rdays, rvalues, qcount)
else
gd_ l2 20 (
gd_ l2 20 (
gd_ l2 20 (
bd_ (f_X1_set l2 (qkeys l2.toNatClampNeg) (qdays l2.toNatClampNeg) (qvalues l2.toNatClampNeg) (rkeys, rdays, rvalues, rcount)) (fun (rk7, rd8, rv9, rc10) =>
k_ (l2 + 1) (rk7, rd8, rv9, rc10) (qkeys, qdays, qvalues, qcount)))))
def f_X1_copy_L2 : Nat → Int32 → tR_ → tR_ → Option (tR_)
  | 0 => fun _ _ _ => none
  | n + 1 => fun l2 R_ Q_ => f_X1_copy_S2 (f_X1_copy_L2 n) l2 R_ Q_
def f_X1_copy  (R_ : tR_) (Q_ : tR_) : Option (tR_) :=
match R_ with
| (rkeys, rdays, rvalues, rcount) =>
match Q_ with
| (qkeys, qdays, qvalues, qcount) =>
f_X1_copy_L2 fu_ (0 : Int32) (rkeys, rdays, rvalues, rcount) (qkeys, qdays, qvalues, qcount)
abbrev rm_X1_copy : Room := { frames := 1, cells := 0, slots := 0, locals := 24 }
set_option maxHeartbeats 4000000 in
set_option maxRecDepth 100000 in
theorem c_X1_copy (l : Launch) (dC : Nat → ClassId) (dI : Nat → Nat → Nat) (cI cZ cC cJ cD : ClassId) (r0 r_keys r_days r_values q0 q_keys q_days q_values : Nat) (sz : Nat) (rkeys : Nat → Int32) (rdays : Nat → Int32) (rvalues : Nat → Int32) (rcount : Int32) (qkeys : Nat → Int32) (qdays : Nat → Int32) (qvalues : Nat → Int32) (qcount : Int32)  (R : tR_) (hf : f_X1_copy  (rkeys, rdays, rvalues, rcount) (qkeys, qdays, qvalues, qcount) = some R) : Met l yX1_copy wsX1_copy rm_X1_copy (Pc_ (dC, dI) (ty_ cI cZ cC cJ cD) (wR_ r0 r_keys r_days r_values cI rkeys rdays rvalues rcount ++ wR_ q0 q_keys q_days q_values cI qkeys qdays qvalues qcount) sz [.ref r0, .ref q0]) (Qv_ (dC, dI) (ty_ cI cZ cC cJ cD) (wR_ r0 r_keys r_days r_values cI R.1 R.2.1 R.2.2.1 R.2.2.2 ++ wR_ q0 q_keys q_days q_values cI qkeys qdays qvalues qcount) (va_A (wR_ r0 r_keys r_days r_values cI rkeys rdays rvalues rcount ++ wR_ q0 q_keys q_days q_values cI qkeys qdays qvalues qcount) sz)) 0 0 (va_A (wR_ r0 r_keys r_days r_values cI rkeys rdays rvalues rcount ++ wR_ q0 q_keys q_days q_values cI qkeys qdays qvalues qcount) sz) := by
  refine met_ (cc := cX1_copy) (maxL := 3) (ret := none) (Qcf := fun A => Qv_ (dC, dI) (ty_ cI cZ cC cJ cD) (wR_ r0 r_keys r_days r_values cI R.1 R.2.1 R.2.2.1 R.2.2.2 ++ wR_ q0 q_keys q_days q_values cI qkeys qdays qvalues qcount) A) (by decide) rfl (Nat.le_of_ble_eq_true rfl) ?_
  intro p e s m args below meth c A ls hx hb hr hts hown hlocks hml hA hP hK hD hl
  have hown : s.vm.findClass RX1 = some m.cls := hown
  have hl : lv_has ls 3 [(0, .ref r0), (1, .ref q0)] := hl
  have hS : va_S A s.heap s.heap [] := va_S.rf
  have fl9_ : (Cond.fieldLink RX1 9 "DimensionLoader$Rows" "keys" "[I").before args s = true := hts _ (List.mem_of_getElem? (i := 2) rfl)
  have fl15_ : (Cond.fieldLink RX1 15 "DimensionLoader$Rows" "days" "[I").before args s = true := hts _ (List.mem_of_getElem? (i := 3) rfl)
  have fl18_ : (Cond.fieldLink RX1 18 "DimensionLoader$Rows" "values" "[I").before args s = true := hts _ (List.mem_of_getElem? (i := 4) rfl)
  have fl21_ : (Cond.fieldLink RX1 21 "DimensionLoader$Rows" "count" "I").before args s = true := hts _ (List.mem_of_getElem? (i := 1) rfl)
  have inX1_ : ∀ w ∈ wsX10, w ∈ wsX1_copy := in_X1_copy_X1
  unfold f_X1_copy at hf
  dsimp only at hf
  refine lv_iconst (v := 0) hx hb dX1_copy_0 (by decide) ?_
  refine lv_istore_n (lv' := [(2, .int 0), (0, .ref r0), (1, .ref q0)]) hx hb dX1_copy_1 rfl hl (by decide) rfl (fun ls hl => ?_)
  have lp2 : ∀ (n : Nat) (l2 : Int32) (rkeys : Nat → Int32) (rdays : Nat → Int32) (rvalues : Nat → Int32) (rcount : Int32) (qkeys : Nat → Int32) (qdays : Nat → Int32) (qvalues : Nat → Int32) (qcount : Int32) (H1 : Heap) (locs : List Loc) (ls : Array Slot), f_X1_copy_L2 n l2 (rkeys, rdays, rvalues, rcount) (qkeys, qdays, qvalues, qcount) = some R → va_P (dC, dI) vwCl (wR_ r0 r_keys r_days r_values cI rkeys rdays rvalues rcount ++ wR_ q0 q_keys q_days q_values cI qkeys qdays qvalues qcount) H1 → va_D A (wR_ r0 r_keys r_days r_values cI rkeys rdays rvalues rcount ++ wR_ q0 q_keys q_days q_values cI qkeys qdays qvalues qcount) → va_S A s.heap H1 locs → lv_has ls 3 [(2, .int l2), (0, .ref r0), (1, .ref q0)] → W p l e (headSpec wsX1_copy rm_X1_copy).room s m args below meth c H1 locs 0 0 (MQ below (Qv_ (dC, dI) (ty_ cI cZ cC cJ cD) (wR_ r0 r_keys r_days r_values cI R.1 R.2.1 R.2.2.1 R.2.2.2 ++ wR_ q0 q_keys q_days q_values cI qkeys qdays qvalues qcount) A) args s 0 0 A) (F0 m 2 ls []) := by
    intro n
    induction n with
    | zero => intro l2 rkeys rdays rvalues rcount qkeys qdays qvalues qcount H1 locs ls hf hP hD hS hl; exact absurd hf (by simp [f_X1_copy_L2])
    | succ n ih =>
      intro l2 rkeys rdays rvalues rcount qkeys qdays qvalues qcount H1 locs ls hf hP hD hS hl
      have hf : f_X1_copy_S2 (f_X1_copy_L2 n) l2 (rkeys, rdays, rvalues, rcount) (qkeys, qdays, qvalues, qcount) = some R := hf
      unfold f_X1_copy_S2 at hf
      dsimp only at hf
      refine lv_iload_n hx hb dX1_copy_2 rfl (lv_at hl 0 rfl) ?_
      refine lv_aload_n hx hb dX1_copy_3 rfl (lv_at hl 2 rfl) ?_
      refine va_get (D := (dC, dI)) (ci := 3) (v := .int qcount) (C := RX1) (T := TX1) (N := 4) hx hb hts inX1_ hown hK hP 4 rfl rfl 3 (by decide) fl21_ (fun _ h9 => h9) rfl dX1_copy_4 ?_
      refine lv_icmp_ge (tgt := 39) hx hb dX1_copy_7 (by decide) (fun c2 => ?_) (fun c2 => ?_)
      · have hf := ite_T c2 hf
        refine lv_aload_n hx hb dX1_copy_39 rfl (lv_at hl 1 rfl) ?_
        refine lv_aload_n hx hb dX1_copy_40 rfl (lv_at hl 2 rfl) ?_
        refine va_get (D := (dC, dI)) (ci := 3) (v := .int qcount) (C := RX1) (T := TX1) (N := 4) hx hb hts inX1_ hown hK hP 4 rfl rfl 3 (by decide) fl21_ (fun _ h9 => h9) rfl dX1_copy_41 ?_
        refine va_put (D := (dC, dI)) (ci := 3) (v := .int qcount) (ty := .int) (C := RX1) (T := TX1) (N := 4) hx hb hts inX1_ tyX1 tyX1_ok nmX1 hown hK hP hD hS 0 rfl rfl 3 (by decide) fl21_ (fun _ h9 => h9) rfl (by decide +kernel) (by first | rfl | decide) (by first | rfl | decide) (Nat.le_of_ble_eq_true rfl) dX1_copy_44 (fun H3 locs hP hD hS => ?_)
        have hP : va_P (dC, dI) vwCl (wR_ r0 r_keys r_days r_values cI rkeys rdays rvalues qcount ++ wR_ q0 q_keys q_days q_values cI qkeys qdays qvalues qcount) H3 := hP
        have hD : va_D A (wR_ r0 r_keys r_days r_values cI rkeys rdays rvalues qcount ++ wR_ q0 q_keys q_days q_values cI qkeys qdays qvalues qcount) := hD
        have hR := Option.some.inj hf
        subst hR
        exact W.vret hx hb hr (fun t ht hW => ⟨⟨(), rfl, trivial, by rw [ht]; exact hP, va_K.moved hW.alike hK, hD⟩, hS.F ht⟩) hS.2.2 dX1_copy_47
      · have hf := ite_F c2 hf
        refine lv_aload_n hx hb dX1_copy_10 rfl (lv_at hl 1 rfl) ?_
        refine lv_iload_n hx hb dX1_copy_11 rfl (lv_at hl 0 rfl) ?_
        refine lv_aload_n hx hb dX1_copy_12 rfl (lv_at hl 2 rfl) ?_
        refine va_get (D := (dC, dI)) (ci := 3) (v := .ref q_keys) (C := RX1) (T := TX1) (N := 4) hx hb hts inX1_ hown hK hP 4 rfl rfl 0 (by decide) fl9_ (fun _ h9 => h9) rfl dX1_copy_13 ?_
        refine lv_iload_n hx hb dX1_copy_16 rfl (lv_at hl 0 rfl) ?_
        obtain ⟨h4, hf⟩ := gd_T hf
        refine va_iald hx hb hK hP 5 0 rfl rfl h4 dX1_copy_17 ?_
        refine lv_aload_n hx hb dX1_copy_18 rfl (lv_at hl 2 rfl) ?_
        refine va_get (D := (dC, dI)) (ci := 3) (v := .ref q_days) (C := RX1) (T := TX1) (N := 4) hx hb hts inX1_ hown hK hP 4 rfl rfl 1 (by decide) fl15_ (fun _ h9 => h9) rfl dX1_copy_19 ?_
        refine lv_iload_n hx hb dX1_copy_22 rfl (lv_at hl 0 rfl) ?_
        obtain ⟨h5, hf⟩ := gd_T hf
        refine va_iald hx hb hK hP 6 0 rfl rfl h5 dX1_copy_23 ?_
        refine lv_aload_n hx hb dX1_copy_24 rfl (lv_at hl 2 rfl) ?_
        refine va_get (D := (dC, dI)) (ci := 3) (v := .ref q_values) (C := RX1) (T := TX1) (N := 4) hx hb hts inX1_ hown hK hP 4 rfl rfl 2 (by decide) fl18_ (fun _ h9 => h9) rfl dX1_copy_25 ?_
        refine lv_iload_n hx hb dX1_copy_28 rfl (lv_at hl 0 rfl) ?_
        obtain ⟨h6, hf⟩ := gd_T hf
        refine va_iald hx hb hK hP 7 0 rfl rfl h6 dX1_copy_29 ?_
        obtain ⟨R11, g12, hf⟩ := bd_B hf
        obtain ⟨rk7, rd8, rv9, rc10⟩ := R11
        dsimp only at hf
        have hPc := hP.sub (ws' := wR_ r0 r_keys r_days r_values cI rkeys rdays rvalues rcount) [0, 1, 2, 3] rfl
        have hDc := hD.sub (ws' := wR_ r0 r_keys r_days r_values cI rkeys rdays rvalues rcount) [0, 1, 2, 3] (by decide) rfl
        have hFc := va_free (wc := wR_ r0 r_keys r_days r_values cI rkeys rdays rvalues rcount) hD hS hA [0, 1, 2, 3] rfl
        refine va_callv (va_runV (As := [.int l2, .int (qkeys l2.toNatClampNeg), .int (qdays l2.toNatClampNeg), .int (qvalues l2.toNatClampNeg)]) (rest := []) ⟨hx, hb, hml, hown, hts⟩ (c_X1_set l dC dI cI cZ cC cJ cD r0 r_keys r_days r_values H1.size rkeys rdays rvalues rcount l2 (qkeys l2.toNatClampNeg) (qdays l2.toNatClampNeg) (qvalues l2.toNatClampNeg) (rk7, rd8, rv9, rc10) g12) (cwV 4 hts gX1_copy_X1_set rfl rfl rfl hs_X1_set ⟨Nat.le_of_ble_eq_true rfl, Nat.le_of_ble_eq_true rfl⟩) (preV_ (ci := 3) (q0 := 0) hPc hK hDc rfl rfl rfl rfl) rfl rfl hl.1 rfl (lv_room (Nat.le_of_ble_eq_true rfl)) dX1_copy_30 ⟨Nat.le_of_ble_eq_true rfl, Nat.le_of_ble_eq_true rfl⟩) hS (fun q _ h => hFc q h) hFc (fun u t H13 locs ht hvm hw hB hz1 hk1 hS => ?_)
        obtain ⟨hP, hD⟩ := aft_ (Wr := wR_ q0 q_keys q_days q_values cI qkeys qdays qvalues qcount) (Wc' := wR_ r0 r_keys r_days r_values cI rk7 rd8 rv9 rc10) (W2 := wR_ r0 r_keys r_days r_values cI rk7 rd8 rv9 rc10 ++ wR_ q0 q_keys q_days q_values cI qkeys qdays qvalues qcount) hP hD [0, 1, 2, 3] [4, 5, 6, 7] [4, 5, 6, 7, 0, 1, 2, 3] rfl rfl (by decide) (by decide) (by decide) hk1 hFc hB ht rfl
        refine lv_iinc (v := l2 + 1) (lv' := [(2, .int (l2 + 1)), (0, .ref r0), (1, .ref q0)]) hx hb dX1_copy_33 hl (k := 0) rfl (by first | rfl | decide) (by decide) rfl (fun ls hl => ?_)
        refine lv_goto (tgt := 2) hx hb dX1_copy_36 (by decide) ?_
        exact ih (l2 + 1) rk7 rd8 rv9 rc10 qkeys qdays qvalues qcount _ _ _ hf hP hD hS (lv_sub hl [0, 1, 2] rfl)
  exact lp2 fu_ (0 : Int32) rkeys rdays rvalues rcount qkeys qdays qvalues qcount _ _ _ hf hP hD hS hl
theorem hs_X1_copy : yX1_copy.cls = RX1 ∧ yX1_copy.cls ≠ "java/lang/invoke/MethodHandle" ∧ yX1_copy.cls ≠ "java/lang/invoke/VarHandle" ∧ (parseMethodDescriptor yX1_copy.desc).map (fun d => d.parameters.length) = some 1 := by decide +kernel
def f_X3_takeRow  (T_ : tT_) (R_ : tR_) : Option (Int32 × tT_ × tR_) :=
match T_ with
| (tcharacters, tlength, tplace) =>
match R_ with
| (rkeys, rdays, rvalues, rcount) =>
bd_ (f_X3_take (107 : Int32) (tcharacters, tlength, tplace)) (fun (r1, (tc2, tl3, tp4)) =>
if r1 = 0 then
some ((0 : Int32), (tc2, tl3, tp4), (rkeys, rdays, rvalues, rcount))
else
bd_ (f_X3_takeDigit (55 : Int32) (tc2, tl3, tp4)) (fun (r10, (tc11, tl12, tp13)) =>
if r10 = (-1) then
some ((0 : Int32), (tc11, tl12, tp13), (rkeys, rdays, rvalues, rcount))
else
bd_ (f_X3_take (64 : Int32) (tc11, tl12, tp13)) (fun (r19, (tc20, tl21, tp22)) =>
if r19 = 0 then
some ((0 : Int32), (tc20, tl21, tp22), (rkeys, rdays, rvalues, rcount))
else
bd_ (f_X3_takeNumber (tc20, tl21, tp22)) (fun (r28, (tc29, tl30, tp31)) =>
if r28 = (-1) then
some ((0 : Int32), (tc29, tl30, tp31), (rkeys, rdays, rvalues, rcount))
else
bd_ (f_X3_take (61 : Int32) (tc29, tl30, tp31)) (fun (r37, (tc38, tl39, tp40)) =>
if r37 = 0 then
some ((0 : Int32), (tc38, tl39, tp40), (rkeys, rdays, rvalues, rcount))
else
bd_ (f_X3_take (45 : Int32) (tc38, tl39, tp40)) (fun (r46, (tc47, tl48, tp49)) =>
bd_ (f_X3_takeNumber (tc47, tl48, tp49)) (fun (r54, (tc55, tl56, tp57)) =>
if r54 = (-1) then
some ((0 : Int32), (tc55, tl56, tp57), (rkeys, rdays, rvalues, rcount))
else
if r46 = 0 then
bd_ (f_X1_addLast r10 r28 r54 (rkeys, rdays, rvalues, rcount)) (fun (r64, (rk65, rd66, rv67, rc68)) =>
gb_ r64 (some (r64, (tc55, tl56, tp57), (rk65, rd66, rv67, rc68))))
else
bd_ (f_X1_addLast r10 r28 (-r54) (rkeys, rdays, rvalues, rcount)) (fun (r74, (rk75, rd76, rv77, rc78)) =>
gb_ r74 (some (r74, (tc55, tl56, tp57), (rk75, rd76, rv77, rc78)))))))))))
abbrev rm_X3_takeRow : Room := { frames := 2, cells := 0, slots := 0, locals := 47 }
set_option maxHeartbeats 4000000 in
set_option maxRecDepth 100000 in
theorem c_X3_takeRow (l : Launch) (dC : Nat → ClassId) (dI : Nat → Nat → Nat) (cI cZ cC cJ cD : ClassId) (t0 t_characters r0 r_keys r_days r_values : Nat) (sz : Nat) (tcharacters : Nat → Int32) (tlength : Int32) (tplace : Int32) (rkeys : Nat → Int32) (rdays : Nat → Int32) (rvalues : Nat → Int32) (rcount : Int32)  (R : Int32 × tT_ × tR_) (hf : f_X3_takeRow  (tcharacters, tlength, tplace) (rkeys, rdays, rvalues, rcount) = some R) : Met l yX3_takeRow wsX3_takeRow rm_X3_takeRow (Pc_ (dC, dI) (ty_ cI cZ cC cJ cD) (wT_ t0 t_characters cC tcharacters tlength tplace ++ wR_ r0 r_keys r_days r_values cI rkeys rdays rvalues rcount) sz [.ref t0, .ref r0]) (Qi_ (dC, dI) (ty_ cI cZ cC cJ cD) R.1 (wT_ t0 t_characters cC R.2.1.1 R.2.1.2.1 R.2.1.2.2 ++ wR_ r0 r_keys r_days r_values cI R.2.2.1 R.2.2.2.1 R.2.2.2.2.1 R.2.2.2.2.2) (va_A (wT_ t0 t_characters cC tcharacters tlength tplace ++ wR_ r0 r_keys r_days r_values cI rkeys rdays rvalues rcount) sz)) 0 0 (va_A (wT_ t0 t_characters cC tcharacters tlength tplace ++ wR_ r0 r_keys r_days r_values cI rkeys rdays rvalues rcount) sz) := by
  refine met_ (cc := cX3_takeRow) (maxL := 6) (ret := (some .boolean)) (Qcf := fun A => Qi_ (dC, dI) (ty_ cI cZ cC cJ cD) R.1 (wT_ t0 t_characters cC R.2.1.1 R.2.1.2.1 R.2.1.2.2 ++ wR_ r0 r_keys r_days r_values cI R.2.2.1 R.2.2.2.1 R.2.2.2.2.1 R.2.2.2.2.2) A) (by decide) rfl (Nat.le_of_ble_eq_true rfl) ?_
  intro p e s m args below meth c A ls hx hb hr hts hown hlocks hml hA hP hK hD hl
  have hown : s.vm.findClass RX3 = some m.cls := hown
  have hl : lv_has ls 6 [(0, .ref t0), (1, .ref r0)] := hl
  have hS : va_S A s.heap s.heap [] := va_S.rf
  unfold f_X3_takeRow at hf
  dsimp only at hf
  refine lv_aload_n hx hb dX3_takeRow_0 rfl (lv_at hl 0 rfl) ?_
  refine lv_bipush (v := 107) hx hb dX3_takeRow_1 (by decide) ?_
  obtain ⟨R5, g6, hf⟩ := bd_B hf
  obtain ⟨r1, ⟨tc2, tl3, tp4⟩⟩ := R5
  dsimp only at hf
  have hPc := hP.sub (ws' := wT_ t0 t_characters cC tcharacters tlength tplace) [0, 1] rfl
  have hDc := hD.sub (ws' := wT_ t0 t_characters cC tcharacters tlength tplace) [0, 1] (by decide) rfl
  have hFc := va_free (wc := wT_ t0 t_characters cC tcharacters tlength tplace) hD hS hA [0, 1] rfl
  refine va_calli (va_runV (As := [.int 107]) (rest := []) ⟨hx, hb, hml, hown, hts⟩ (c_X3_take l dC dI cI cZ cC cJ cD t0 t_characters s.heap.size tcharacters tlength tplace (107 : Int32) (r1, (tc2, tl3, tp4)) g6) (cwV 1 hts gX3_takeRow_X3_take rfl rfl rfl hs_X3_take ⟨Nat.le_of_ble_eq_true rfl, Nat.le_of_ble_eq_true rfl⟩) (preV_ (ci := 5) (q0 := 0) hPc hK hDc rfl rfl rfl rfl) rfl rfl hl.1 rfl (lv_room (Nat.le_of_ble_eq_true rfl)) dX3_takeRow_3 ⟨Nat.le_of_ble_eq_true rfl, Nat.le_of_ble_eq_true rfl⟩) hS (fun q _ h => hFc q h) hFc (fun z8 u t H7 locs ht hvm hw hB hz1 hk1 hS => ?_)
  have hw : r1 = z8 := hw.symm
  subst hw
  obtain ⟨hP, hD⟩ := aft_ (Wr := wR_ r0 r_keys r_days r_values cI rkeys rdays rvalues rcount) (Wc' := wT_ t0 t_characters cC tc2 tl3 tp4) (W2 := wT_ t0 t_characters cC tc2 tl3 tp4 ++ wR_ r0 r_keys r_days r_values cI rkeys rdays rvalues rcount) hP hD [0, 1] [2, 3, 4, 5] [4, 5, 0, 1, 2, 3] rfl rfl (by decide) (by decide) (by decide) hk1 hFc hB ht rfl
  refine lv_if_ne (tgt := 11) hx hb dX3_takeRow_6 (by decide) (fun c9 => ?_) (fun c9 => ?_)
  · have hf := ite_F c9 hf
    refine lv_aload_n hx hb dX3_takeRow_11 rfl (lv_at hl 0 rfl) ?_
    refine lv_bipush (v := 55) hx hb dX3_takeRow_12 (by decide) ?_
    obtain ⟨R14, g15, hf⟩ := bd_B hf
    obtain ⟨r10, ⟨tc11, tl12, tp13⟩⟩ := R14
    dsimp only at hf
    have hPc := hP.sub (ws' := wT_ t0 t_characters cC tc2 tl3 tp4) [0, 1] rfl
    have hDc := hD.sub (ws' := wT_ t0 t_characters cC tc2 tl3 tp4) [0, 1] (by decide) rfl
    have hFc := va_free (wc := wT_ t0 t_characters cC tc2 tl3 tp4) hD hS hA [0, 1] rfl
    refine va_calli (va_runV (As := [.int 55]) (rest := []) ⟨hx, hb, hml, hown, hts⟩ (c_X3_takeDigit l dC dI cI cZ cC cJ cD t0 t_characters H7.size tc2 tl3 tp4 (55 : Int32) (r10, (tc11, tl12, tp13)) g15) (cwV 1 hts gX3_takeRow_X3_takeDigit rfl rfl rfl hs_X3_takeDigit ⟨Nat.le_of_ble_eq_true rfl, Nat.le_of_ble_eq_true rfl⟩) (preV_ (ci := 5) (q0 := 0) hPc hK hDc rfl rfl rfl rfl) rfl rfl hl.1 rfl (lv_room (Nat.le_of_ble_eq_true rfl)) dX3_takeRow_14 ⟨Nat.le_of_ble_eq_true rfl, Nat.le_of_ble_eq_true rfl⟩) hS (fun q _ h => hFc q h) hFc (fun z17 u t H16 locs ht hvm hw hB hz1 hk1 hS => ?_)
    have hw : r10 = z17 := hw.symm
    subst hw
    obtain ⟨hP, hD⟩ := aft_ (Wr := wR_ r0 r_keys r_days r_values cI rkeys rdays rvalues rcount) (Wc' := wT_ t0 t_characters cC tc11 tl12 tp13) (W2 := wT_ t0 t_characters cC tc11 tl12 tp13 ++ wR_ r0 r_keys r_days r_values cI rkeys rdays rvalues rcount) hP hD [0, 1] [2, 3, 4, 5] [4, 5, 0, 1, 2, 3] rfl rfl (by decide) (by decide) (by decide) hk1 hFc hB ht rfl
    refine lv_istore_n (lv' := [(2, .int r10), (0, .ref t0), (1, .ref r0)]) hx hb dX3_takeRow_17 rfl hl (by decide) rfl (fun ls hl => ?_)
    refine lv_iload_n hx hb dX3_takeRow_18 rfl (lv_at hl 0 rfl) ?_
    refine lv_iconst (v := (-1)) hx hb dX3_takeRow_19 (by decide) ?_
    refine lv_icmp_eq (tgt := 32) hx hb dX3_takeRow_20 (by decide) (fun c18 => ?_) (fun c18 => ?_)
    · have hf := ite_T c18 hf
      refine lv_iconst (v := 0) hx hb dX3_takeRow_32 (by decide) ?_
      have hR := Option.some.inj hf
      subst hR
      exact W.zret (v := (0 : Int32)) hx hb hr (by decide) (fun t ht hW => ⟨⟨(0 : Int32), (), rfl, rfl, by rw [ht]; exact hP, va_K.moved hW.alike hK, hD⟩, hS.F ht⟩) hS.2.2 dX3_takeRow_33
    · have hf := ite_F c18 hf
      refine lv_aload_n hx hb dX3_takeRow_23 rfl (lv_at hl 1 rfl) ?_
      refine lv_bipush (v := 64) hx hb dX3_takeRow_24 (by decide) ?_
      obtain ⟨R23, g24, hf⟩ := bd_B hf
      obtain ⟨r19, ⟨tc20, tl21, tp22⟩⟩ := R23
      dsimp only at hf
      have hPc := hP.sub (ws' := wT_ t0 t_characters cC tc11 tl12 tp13) [0, 1] rfl
      have hDc := hD.sub (ws' := wT_ t0 t_characters cC tc11 tl12 tp13) [0, 1] (by decide) rfl
      have hFc := va_free (wc := wT_ t0 t_characters cC tc11 tl12 tp13) hD hS hA [0, 1] rfl
      refine va_calli (va_runV (As := [.int 64]) (rest := []) ⟨hx, hb, hml, hown, hts⟩ (c_X3_take l dC dI cI cZ cC cJ cD t0 t_characters H16.size tc11 tl12 tp13 (64 : Int32) (r19, (tc20, tl21, tp22)) g24) (cwV 1 hts gX3_takeRow_X3_take rfl rfl rfl hs_X3_take ⟨Nat.le_of_ble_eq_true rfl, Nat.le_of_ble_eq_true rfl⟩) (preV_ (ci := 5) (q0 := 0) hPc hK hDc rfl rfl rfl rfl) rfl rfl hl.1 rfl (lv_room (Nat.le_of_ble_eq_true rfl)) dX3_takeRow_26 ⟨Nat.le_of_ble_eq_true rfl, Nat.le_of_ble_eq_true rfl⟩) hS (fun q _ h => hFc q h) hFc (fun z26 u t H25 locs ht hvm hw hB hz1 hk1 hS => ?_)
      have hw : r19 = z26 := hw.symm
      subst hw
      obtain ⟨hP, hD⟩ := aft_ (Wr := wR_ r0 r_keys r_days r_values cI rkeys rdays rvalues rcount) (Wc' := wT_ t0 t_characters cC tc20 tl21 tp22) (W2 := wT_ t0 t_characters cC tc20 tl21 tp22 ++ wR_ r0 r_keys r_days r_values cI rkeys rdays rvalues rcount) hP hD [0, 1] [2, 3, 4, 5] [4, 5, 0, 1, 2, 3] rfl rfl (by decide) (by decide) (by decide) hk1 hFc hB ht rfl
      refine lv_if_ne (tgt := 34) hx hb dX3_takeRow_29 (by decide) (fun c27 => ?_) (fun c27 => ?_)
      · have hf := ite_F c27 hf
        refine lv_aload_n hx hb dX3_takeRow_34 rfl (lv_at hl 1 rfl) ?_
        obtain ⟨R32, g33, hf⟩ := bd_B hf
        obtain ⟨r28, ⟨tc29, tl30, tp31⟩⟩ := R32
        dsimp only at hf
        have hPc := hP.sub (ws' := wT_ t0 t_characters cC tc20 tl21 tp22) [0, 1] rfl
        have hDc := hD.sub (ws' := wT_ t0 t_characters cC tc20 tl21 tp22) [0, 1] (by decide) rfl
        have hFc := va_free (wc := wT_ t0 t_characters cC tc20 tl21 tp22) hD hS hA [0, 1] rfl
        refine va_calli (va_runV (As := []) (rest := []) ⟨hx, hb, hml, hown, hts⟩ (c_X3_takeNumber l dC dI cI cZ cC cJ cD t0 t_characters H25.size tc20 tl21 tp22 (r28, (tc29, tl30, tp31)) g33) (cwV 0 hts gX3_takeRow_X3_takeNumber rfl rfl rfl hs_X3_takeNumber ⟨Nat.le_of_ble_eq_true rfl, Nat.le_of_ble_eq_true rfl⟩) (preV_ (ci := 5) (q0 := 0) hPc hK hDc rfl rfl rfl rfl) rfl rfl hl.1 rfl (lv_room (Nat.le_of_ble_eq_true rfl)) dX3_takeRow_35 ⟨Nat.le_of_ble_eq_true rfl, Nat.le_of_ble_eq_true rfl⟩) hS (fun q _ h => hFc q h) hFc (fun z35 u t H34 locs ht hvm hw hB hz1 hk1 hS => ?_)
        have hw : r28 = z35 := hw.symm
        subst hw
        obtain ⟨hP, hD⟩ := aft_ (Wr := wR_ r0 r_keys r_days r_values cI rkeys rdays rvalues rcount) (Wc' := wT_ t0 t_characters cC tc29 tl30 tp31) (W2 := wT_ t0 t_characters cC tc29 tl30 tp31 ++ wR_ r0 r_keys r_days r_values cI rkeys rdays rvalues rcount) hP hD [0, 1] [2, 3, 4, 5] [4, 5, 0, 1, 2, 3] rfl rfl (by decide) (by decide) (by decide) hk1 hFc hB ht rfl
        refine lv_istore_n (lv' := [(3, .int r28), (2, .int r10), (0, .ref t0), (1, .ref r0)]) hx hb dX3_takeRow_38 rfl hl (by decide) rfl (fun ls hl => ?_)
        refine lv_iload_n hx hb dX3_takeRow_39 rfl (lv_at hl 0 rfl) ?_
        refine lv_iconst (v := (-1)) hx hb dX3_takeRow_40 (by decide) ?_
        refine lv_icmp_eq (tgt := 53) hx hb dX3_takeRow_41 (by decide) (fun c36 => ?_) (fun c36 => ?_)
        · have hf := ite_T c36 hf
          refine lv_iconst (v := 0) hx hb dX3_takeRow_53 (by decide) ?_
          have hR := Option.some.inj hf
          subst hR
          exact W.zret (v := (0 : Int32)) hx hb hr (by decide) (fun t ht hW => ⟨⟨(0 : Int32), (), rfl, rfl, by rw [ht]; exact hP, va_K.moved hW.alike hK, hD⟩, hS.F ht⟩) hS.2.2 dX3_takeRow_54
        · have hf := ite_F c36 hf
          refine lv_aload_n hx hb dX3_takeRow_44 rfl (lv_at hl 2 rfl) ?_
          refine lv_bipush (v := 61) hx hb dX3_takeRow_45 (by decide) ?_
          obtain ⟨R41, g42, hf⟩ := bd_B hf
          obtain ⟨r37, ⟨tc38, tl39, tp40⟩⟩ := R41
          dsimp only at hf
          have hPc := hP.sub (ws' := wT_ t0 t_characters cC tc29 tl30 tp31) [0, 1] rfl
          have hDc := hD.sub (ws' := wT_ t0 t_characters cC tc29 tl30 tp31) [0, 1] (by decide) rfl
          have hFc := va_free (wc := wT_ t0 t_characters cC tc29 tl30 tp31) hD hS hA [0, 1] rfl
          refine va_calli (va_runV (As := [.int 61]) (rest := []) ⟨hx, hb, hml, hown, hts⟩ (c_X3_take l dC dI cI cZ cC cJ cD t0 t_characters H34.size tc29 tl30 tp31 (61 : Int32) (r37, (tc38, tl39, tp40)) g42) (cwV 1 hts gX3_takeRow_X3_take rfl rfl rfl hs_X3_take ⟨Nat.le_of_ble_eq_true rfl, Nat.le_of_ble_eq_true rfl⟩) (preV_ (ci := 5) (q0 := 0) hPc hK hDc rfl rfl rfl rfl) rfl rfl hl.1 rfl (lv_room (Nat.le_of_ble_eq_true rfl)) dX3_takeRow_47 ⟨Nat.le_of_ble_eq_true rfl, Nat.le_of_ble_eq_true rfl⟩) hS (fun q _ h => hFc q h) hFc (fun z44 u t H43 locs ht hvm hw hB hz1 hk1 hS => ?_)
          have hw : r37 = z44 := hw.symm
          subst hw
          obtain ⟨hP, hD⟩ := aft_ (Wr := wR_ r0 r_keys r_days r_values cI rkeys rdays rvalues rcount) (Wc' := wT_ t0 t_characters cC tc38 tl39 tp40) (W2 := wT_ t0 t_characters cC tc38 tl39 tp40 ++ wR_ r0 r_keys r_days r_values cI rkeys rdays rvalues rcount) hP hD [0, 1] [2, 3, 4, 5] [4, 5, 0, 1, 2, 3] rfl rfl (by decide) (by decide) (by decide) hk1 hFc hB ht rfl
          refine lv_if_ne (tgt := 55) hx hb dX3_takeRow_50 (by decide) (fun c45 => ?_) (fun c45 => ?_)
          · have hf := ite_F c45 hf
            refine lv_aload_n hx hb dX3_takeRow_55 rfl (lv_at hl 2 rfl) ?_
            refine lv_bipush (v := 45) hx hb dX3_takeRow_56 (by decide) ?_
            obtain ⟨R50, g51, hf⟩ := bd_B hf
            obtain ⟨r46, ⟨tc47, tl48, tp49⟩⟩ := R50
            dsimp only at hf
            have hPc := hP.sub (ws' := wT_ t0 t_characters cC tc38 tl39 tp40) [0, 1] rfl
            have hDc := hD.sub (ws' := wT_ t0 t_characters cC tc38 tl39 tp40) [0, 1] (by decide) rfl
            have hFc := va_free (wc := wT_ t0 t_characters cC tc38 tl39 tp40) hD hS hA [0, 1] rfl
            refine va_calli (va_runV (As := [.int 45]) (rest := []) ⟨hx, hb, hml, hown, hts⟩ (c_X3_take l dC dI cI cZ cC cJ cD t0 t_characters H43.size tc38 tl39 tp40 (45 : Int32) (r46, (tc47, tl48, tp49)) g51) (cwV 1 hts gX3_takeRow_X3_take rfl rfl rfl hs_X3_take ⟨Nat.le_of_ble_eq_true rfl, Nat.le_of_ble_eq_true rfl⟩) (preV_ (ci := 5) (q0 := 0) hPc hK hDc rfl rfl rfl rfl) rfl rfl hl.1 rfl (lv_room (Nat.le_of_ble_eq_true rfl)) dX3_takeRow_58 ⟨Nat.le_of_ble_eq_true rfl, Nat.le_of_ble_eq_true rfl⟩) hS (fun q _ h => hFc q h) hFc (fun z53 u t H52 locs ht hvm hw hB hz1 hk1 hS => ?_)
            have hw : r46 = z53 := hw.symm
            subst hw
            obtain ⟨hP, hD⟩ := aft_ (Wr := wR_ r0 r_keys r_days r_values cI rkeys rdays rvalues rcount) (Wc' := wT_ t0 t_characters cC tc47 tl48 tp49) (W2 := wT_ t0 t_characters cC tc47 tl48 tp49 ++ wR_ r0 r_keys r_days r_values cI rkeys rdays rvalues rcount) hP hD [0, 1] [2, 3, 4, 5] [4, 5, 0, 1, 2, 3] rfl rfl (by decide) (by decide) (by decide) hk1 hFc hB ht rfl
            refine lv_istore (lv' := [(4, .int r46), (3, .int r28), (2, .int r10), (0, .ref t0), (1, .ref r0)]) hx hb dX3_takeRow_61 hl (by decide) rfl (fun ls hl => ?_)
            refine lv_aload_n hx hb dX3_takeRow_63 rfl (lv_at hl 3 rfl) ?_
            obtain ⟨R58, g59, hf⟩ := bd_B hf
            obtain ⟨r54, ⟨tc55, tl56, tp57⟩⟩ := R58
            dsimp only at hf
            have hPc := hP.sub (ws' := wT_ t0 t_characters cC tc47 tl48 tp49) [0, 1] rfl
            have hDc := hD.sub (ws' := wT_ t0 t_characters cC tc47 tl48 tp49) [0, 1] (by decide) rfl
            have hFc := va_free (wc := wT_ t0 t_characters cC tc47 tl48 tp49) hD hS hA [0, 1] rfl
            refine va_calli (va_runV (As := []) (rest := []) ⟨hx, hb, hml, hown, hts⟩ (c_X3_takeNumber l dC dI cI cZ cC cJ cD t0 t_characters H52.size tc47 tl48 tp49 (r54, (tc55, tl56, tp57)) g59) (cwV 0 hts gX3_takeRow_X3_takeNumber rfl rfl rfl hs_X3_takeNumber ⟨Nat.le_of_ble_eq_true rfl, Nat.le_of_ble_eq_true rfl⟩) (preV_ (ci := 5) (q0 := 0) hPc hK hDc rfl rfl rfl rfl) rfl rfl hl.1 rfl (lv_room (Nat.le_of_ble_eq_true rfl)) dX3_takeRow_64 ⟨Nat.le_of_ble_eq_true rfl, Nat.le_of_ble_eq_true rfl⟩) hS (fun q _ h => hFc q h) hFc (fun z61 u t H60 locs ht hvm hw hB hz1 hk1 hS => ?_)
            have hw : r54 = z61 := hw.symm
            subst hw
            obtain ⟨hP, hD⟩ := aft_ (Wr := wR_ r0 r_keys r_days r_values cI rkeys rdays rvalues rcount) (Wc' := wT_ t0 t_characters cC tc55 tl56 tp57) (W2 := wT_ t0 t_characters cC tc55 tl56 tp57 ++ wR_ r0 r_keys r_days r_values cI rkeys rdays rvalues rcount) hP hD [0, 1] [2, 3, 4, 5] [4, 5, 0, 1, 2, 3] rfl rfl (by decide) (by decide) (by decide) hk1 hFc hB ht rfl
            refine lv_istore (lv' := [(5, .int r54), (4, .int r46), (3, .int r28), (2, .int r10), (0, .ref t0), (1, .ref r0)]) hx hb dX3_takeRow_67 hl (by decide) rfl (fun ls hl => ?_)
            refine lv_iload hx hb dX3_takeRow_69 (lv_at hl 0 rfl) ?_
            refine lv_iconst (v := (-1)) hx hb dX3_takeRow_71 (by decide) ?_
            refine lv_icmp_ne (tgt := 77) hx hb dX3_takeRow_72 (by decide) (fun c62 => ?_) (fun c62 => ?_)
            · have hf := ite_F c62 hf
              refine lv_aload_n hx hb dX3_takeRow_77 rfl (lv_at hl 5 rfl) ?_
              refine lv_iload_n hx hb dX3_takeRow_78 rfl (lv_at hl 3 rfl) ?_
              refine lv_iload_n hx hb dX3_takeRow_79 rfl (lv_at hl 2 rfl) ?_
              refine lv_iload hx hb dX3_takeRow_80 (lv_at hl 1 rfl) ?_
              refine lv_if_eq (tgt := 91) hx hb dX3_takeRow_82 (by decide) (fun c63 => ?_) (fun c63 => ?_)
              · have hf := ite_T c63 hf
                refine lv_iload hx hb dX3_takeRow_91 (lv_at hl 0 rfl) ?_
                obtain ⟨R69, g70, hf⟩ := bd_B hf
                obtain ⟨r64, ⟨rk65, rd66, rv67, rc68⟩⟩ := R69
                dsimp only at hf
                have hPc := hP.sub (ws' := wR_ r0 r_keys r_days r_values cI rkeys rdays rvalues rcount) [2, 3, 4, 5] rfl
                have hDc := hD.sub (ws' := wR_ r0 r_keys r_days r_values cI rkeys rdays rvalues rcount) [2, 3, 4, 5] (by decide) rfl
                have hFc := va_free (wc := wR_ r0 r_keys r_days r_values cI rkeys rdays rvalues rcount) hD hS hA [2, 3, 4, 5] rfl
                refine va_calli (va_runV (As := [.int r10, .int r28, .int r54]) (rest := []) ⟨hx, hb, hml, hown, hts⟩ (c_X1_addLast l dC dI cI cZ cC cJ cD r0 r_keys r_days r_values H60.size rkeys rdays rvalues rcount r10 r28 r54 (r64, (rk65, rd66, rv67, rc68)) g70) (cwV 3 hts gX3_takeRow_X1_addLast rfl rfl rfl hs_X1_addLast ⟨Nat.le_of_ble_eq_true rfl, Nat.le_of_ble_eq_true rfl⟩) (preV_ (ci := 3) (q0 := 0) hPc hK hDc rfl rfl rfl rfl) rfl rfl hl.1 rfl (lv_room (Nat.le_of_ble_eq_true rfl)) dX3_takeRow_93 ⟨Nat.le_of_ble_eq_true rfl, Nat.le_of_ble_eq_true rfl⟩) hS (fun q _ h => hFc q h) hFc (fun z72 u t H71 locs ht hvm hw hB hz1 hk1 hS => ?_)
                have hw : r64 = z72 := hw.symm
                subst hw
                obtain ⟨hP, hD⟩ := aft_ (Wr := wT_ t0 t_characters cC tc55 tl56 tp57) (Wc' := wR_ r0 r_keys r_days r_values cI rk65 rd66 rv67 rc68) (W2 := wT_ t0 t_characters cC tc55 tl56 tp57 ++ wR_ r0 r_keys r_days r_values cI rk65 rd66 rv67 rc68) hP hD [2, 3, 4, 5] [0, 1] [0, 1, 2, 3, 4, 5] rfl rfl (by decide) (by decide) (by decide) hk1 hFc hB ht rfl
                obtain ⟨h73, hf⟩ := gb_T hf
                have hR := Option.some.inj hf
                subst hR
                exact W.zret (v := r64) hx hb hr (nar_b h73) (fun t ht hW => ⟨⟨r64, (), rfl, rfl, by rw [ht]; exact hP, va_K.moved hW.alike hK, hD⟩, hS.F ht⟩) hS.2.2 dX3_takeRow_96
              · have hf := ite_F c63 hf
                refine lv_iload hx hb dX3_takeRow_85 (lv_at hl 0 rfl) ?_
                refine lv_ineg hx hb dX3_takeRow_87 ?_
                refine lv_goto (tgt := 93) hx hb dX3_takeRow_88 (by decide) ?_
                obtain ⟨R79, g80, hf⟩ := bd_B hf
                obtain ⟨r74, ⟨rk75, rd76, rv77, rc78⟩⟩ := R79
                dsimp only at hf
                have hPc := hP.sub (ws' := wR_ r0 r_keys r_days r_values cI rkeys rdays rvalues rcount) [2, 3, 4, 5] rfl
                have hDc := hD.sub (ws' := wR_ r0 r_keys r_days r_values cI rkeys rdays rvalues rcount) [2, 3, 4, 5] (by decide) rfl
                have hFc := va_free (wc := wR_ r0 r_keys r_days r_values cI rkeys rdays rvalues rcount) hD hS hA [2, 3, 4, 5] rfl
                refine va_calli (va_runV (As := [.int r10, .int r28, .int (-r54)]) (rest := []) ⟨hx, hb, hml, hown, hts⟩ (c_X1_addLast l dC dI cI cZ cC cJ cD r0 r_keys r_days r_values H60.size rkeys rdays rvalues rcount r10 r28 (-r54) (r74, (rk75, rd76, rv77, rc78)) g80) (cwV 3 hts gX3_takeRow_X1_addLast rfl rfl rfl hs_X1_addLast ⟨Nat.le_of_ble_eq_true rfl, Nat.le_of_ble_eq_true rfl⟩) (preV_ (ci := 3) (q0 := 0) hPc hK hDc rfl rfl rfl rfl) rfl rfl hl.1 rfl (lv_room (Nat.le_of_ble_eq_true rfl)) dX3_takeRow_93 ⟨Nat.le_of_ble_eq_true rfl, Nat.le_of_ble_eq_true rfl⟩) hS (fun q _ h => hFc q h) hFc (fun z82 u t H81 locs ht hvm hw hB hz1 hk1 hS => ?_)
                have hw : r74 = z82 := hw.symm
                subst hw
                obtain ⟨hP, hD⟩ := aft_ (Wr := wT_ t0 t_characters cC tc55 tl56 tp57) (Wc' := wR_ r0 r_keys r_days r_values cI rk75 rd76 rv77 rc78) (W2 := wT_ t0 t_characters cC tc55 tl56 tp57 ++ wR_ r0 r_keys r_days r_values cI rk75 rd76 rv77 rc78) hP hD [2, 3, 4, 5] [0, 1] [0, 1, 2, 3, 4, 5] rfl rfl (by decide) (by decide) (by decide) hk1 hFc hB ht rfl
                obtain ⟨h83, hf⟩ := gb_T hf
                have hR := Option.some.inj hf
                subst hR
                exact W.zret (v := r74) hx hb hr (nar_b h83) (fun t ht hW => ⟨⟨r74, (), rfl, rfl, by rw [ht]; exact hP, va_K.moved hW.alike hK, hD⟩, hS.F ht⟩) hS.2.2 dX3_takeRow_96
            · have hf := ite_T c62 hf
              refine lv_iconst (v := 0) hx hb dX3_takeRow_75 (by decide) ?_
              have hR := Option.some.inj hf
              subst hR
              exact W.zret (v := (0 : Int32)) hx hb hr (by decide) (fun t ht hW => ⟨⟨(0 : Int32), (), rfl, rfl, by rw [ht]; exact hP, va_K.moved hW.alike hK, hD⟩, hS.F ht⟩) hS.2.2 dX3_takeRow_76
          · have hf := ite_T c45 hf
            refine lv_iconst (v := 0) hx hb dX3_takeRow_53 (by decide) ?_
            have hR := Option.some.inj hf
            subst hR
            exact W.zret (v := (0 : Int32)) hx hb hr (by decide) (fun t ht hW => ⟨⟨(0 : Int32), (), rfl, rfl, by rw [ht]; exact hP, va_K.moved hW.alike hK, hD⟩, hS.F ht⟩) hS.2.2 dX3_takeRow_54
      · have hf := ite_T c27 hf
        refine lv_iconst (v := 0) hx hb dX3_takeRow_32 (by decide) ?_
        have hR := Option.some.inj hf
        subst hR
        exact W.zret (v := (0 : Int32)) hx hb hr (by decide) (fun t ht hW => ⟨⟨(0 : Int32), (), rfl, rfl, by rw [ht]; exact hP, va_K.moved hW.alike hK, hD⟩, hS.F ht⟩) hS.2.2 dX3_takeRow_33
  · have hf := ite_T c9 hf
    refine lv_iconst (v := 0) hx hb dX3_takeRow_9 (by decide) ?_
    have hR := Option.some.inj hf
    subst hR
    exact W.zret (v := (0 : Int32)) hx hb hr (by decide) (fun t ht hW => ⟨⟨(0 : Int32), (), rfl, rfl, by rw [ht]; exact hP, va_K.moved hW.alike hK, hD⟩, hS.F ht⟩) hS.2.2 dX3_takeRow_10
theorem hs_X3_takeRow : yX3_takeRow.cls = RX3 ∧ yX3_takeRow.cls ≠ "java/lang/invoke/MethodHandle" ∧ yX3_takeRow.cls ≠ "java/lang/invoke/VarHandle" ∧ (parseMethodDescriptor yX3_takeRow.desc).map (fun d => d.parameters.length) = some 1 := by decide +kernel
set_option maxRecDepth 20000 in
theorem in_X3_takeRows_X1 : ∀ w ∈ wsX10, w ∈ wsX3_takeRows := by decide +kernel
set_option maxRecDepth 20000 in
theorem in_X3_takeRows_X3 : ∀ w ∈ wsX30, w ∈ wsX3_takeRows := by decide +kernel
def f_X3_takeRows_S12 (k_ : Int32 → tT_ → tR_ → Option (Int32 × tT_ × tR_)) (l2 : Int32) (T_ : tT_) (R_ : tR_) : Option (Int32 × tT_ × tR_) :=
match T_ with
| (tcharacters, tlength, tplace) =>
match R_ with
| (rkeys, rdays, rvalues, rcount) =>
if tlength < l2 then
some ((0 : Int32), (tcharacters, tlength, tplace), (rkeys, rdays, rvalues, rcount))
else
bd_ (f_X3_takeRow (tcharacters, tlength, tplace) (rkeys, rdays, rvalues, rcount)) (fun (r5, (tc6, tl7, tp8), (rk9, rd10, rv11, rc12)) =>
if r5 = 0 then
some ((0 : Int32), (tc6, tl7, tp8), (rk9, rd10, rv11, rc12))
else
if tp8 = tl7 then
some ((1 : Int32), (tc6, tl7, tp8), (rk9, rd10, rv11, rc12))
else
bd_ (f_X3_take (44 : Int32) (tc6, tl7, tp8)) (fun (r19, (tc20, tl21, tp22)) =>
if r19 = 0 then
some ((0 : Int32), (tc20, tl21, tp22), (rk9, rd10, rv11, rc12))
else
k_ (l2 + 1) (tc20, tl21, tp22) (rk9, rd10, rv11, rc12)))
def f_X3_takeRows_L12 : Nat → Int32 → tT_ → tR_ → Option (Int32 × tT_ × tR_)
  | 0 => fun _ _ _ => none
  | n + 1 => fun l2 T_ R_ => f_X3_takeRows_S12 (f_X3_takeRows_L12 n) l2 T_ R_
def f_X3_takeRows  (T_ : tT_) (R_ : tR_) : Option (Int32 × tT_ × tR_) :=
match T_ with
| (tcharacters, tlength, tplace) =>
match R_ with
| (rkeys, rdays, rvalues, rcount) =>
f_X3_takeRows_L12 fu_ (0 : Int32) (tcharacters, tlength, 0) (rkeys, rdays, rvalues, 0)
abbrev rm_X3_takeRows : Room := { frames := 3, cells := 0, slots := 0, locals := 72 }
set_option maxHeartbeats 4000000 in
set_option maxRecDepth 100000 in
theorem c_X3_takeRows (l : Launch) (dC : Nat → ClassId) (dI : Nat → Nat → Nat) (cI cZ cC cJ cD : ClassId) (t0 t_characters r0 r_keys r_days r_values : Nat) (sz : Nat) (tcharacters : Nat → Int32) (tlength : Int32) (tplace : Int32) (rkeys : Nat → Int32) (rdays : Nat → Int32) (rvalues : Nat → Int32) (rcount : Int32)  (R : Int32 × tT_ × tR_) (hf : f_X3_takeRows  (tcharacters, tlength, tplace) (rkeys, rdays, rvalues, rcount) = some R) : Met l yX3_takeRows wsX3_takeRows rm_X3_takeRows (Pc_ (dC, dI) (ty_ cI cZ cC cJ cD) (wT_ t0 t_characters cC tcharacters tlength tplace ++ wR_ r0 r_keys r_days r_values cI rkeys rdays rvalues rcount) sz [.ref t0, .ref r0]) (Qi_ (dC, dI) (ty_ cI cZ cC cJ cD) R.1 (wT_ t0 t_characters cC R.2.1.1 R.2.1.2.1 R.2.1.2.2 ++ wR_ r0 r_keys r_days r_values cI R.2.2.1 R.2.2.2.1 R.2.2.2.2.1 R.2.2.2.2.2) (va_A (wT_ t0 t_characters cC tcharacters tlength tplace ++ wR_ r0 r_keys r_days r_values cI rkeys rdays rvalues rcount) sz)) 0 0 (va_A (wT_ t0 t_characters cC tcharacters tlength tplace ++ wR_ r0 r_keys r_days r_values cI rkeys rdays rvalues rcount) sz) := by
  refine met_ (cc := cX3_takeRows) (maxL := 3) (ret := (some .boolean)) (Qcf := fun A => Qi_ (dC, dI) (ty_ cI cZ cC cJ cD) R.1 (wT_ t0 t_characters cC R.2.1.1 R.2.1.2.1 R.2.1.2.2 ++ wR_ r0 r_keys r_days r_values cI R.2.2.1 R.2.2.2.1 R.2.2.2.2.1 R.2.2.2.2.2) A) (by decide) rfl (Nat.le_of_ble_eq_true rfl) ?_
  intro p e s m args below meth c A ls hx hb hr hts hown hlocks hml hA hP hK hD hl
  have hown : s.vm.findClass RX3 = some m.cls := hown
  have hl : lv_has ls 3 [(0, .ref t0), (1, .ref r0)] := hl
  have hS : va_S A s.heap s.heap [] := va_S.rf
  have fl15_ : (Cond.fieldLink RX3 15 "DimensionLoader$Text" "length" "I").before args s = true := hts _ (List.mem_of_getElem? (i := 3) rfl)
  have fl19_ : (Cond.fieldLink RX3 19 "DimensionLoader$Rows" "count" "I").before args s = true := hts _ (List.mem_of_getElem? (i := 1) rfl)
  have fl24_ : (Cond.fieldLink RX3 24 "DimensionLoader$Text" "place" "I").before args s = true := hts _ (List.mem_of_getElem? (i := 2) rfl)
  have inX1_ : ∀ w ∈ wsX10, w ∈ wsX3_takeRows := in_X3_takeRows_X1
  have inX3_ : ∀ w ∈ wsX30, w ∈ wsX3_takeRows := in_X3_takeRows_X3
  unfold f_X3_takeRows at hf
  dsimp only at hf
  refine lv_aload_n hx hb dX3_takeRows_0 rfl (lv_at hl 1 rfl) ?_
  refine lv_iconst (v := 0) hx hb dX3_takeRows_1 (by decide) ?_
  refine va_put (D := (dC, dI)) (ci := 3) (v := .int 0) (ty := .int) (C := RX1) (T := TX1) (N := 4) hx hb hts inX1_ tyX1 tyX1_ok nmX1 hown hK hP hD hS 2 rfl rfl 3 (by decide) fl19_ (fun _ h9 => h9) rfl (by decide +kernel) (by first | rfl | decide) (by first | rfl | decide) (Nat.le_of_ble_eq_true rfl) dX3_takeRows_2 (fun H1 locs hP hD hS => ?_)
  have hP : va_P (dC, dI) vwCl (wT_ t0 t_characters cC tcharacters tlength tplace ++ wR_ r0 r_keys r_days r_values cI rkeys rdays rvalues 0) H1 := hP
  have hD : va_D A (wT_ t0 t_characters cC tcharacters tlength tplace ++ wR_ r0 r_keys r_days r_values cI rkeys rdays rvalues 0) := hD
  refine lv_aload_n hx hb dX3_takeRows_5 rfl (lv_at hl 0 rfl) ?_
  refine lv_iconst (v := 0) hx hb dX3_takeRows_6 (by decide) ?_
  refine va_put (D := (dC, dI)) (ci := 5) (v := .int 0) (ty := .int) (C := RX3) (T := TX3) (N := 3) hx hb hts inX3_ tyX3 tyX3_ok nmX3 hown hK hP hD hS 0 rfl rfl 2 (by decide) fl24_ (fun _ h9 => h9) rfl (by decide +kernel) (by first | rfl | decide) (by first | rfl | decide) (Nat.le_of_ble_eq_true rfl) dX3_takeRows_7 (fun H2 locs hP hD hS => ?_)
  have hP : va_P (dC, dI) vwCl (wT_ t0 t_characters cC tcharacters tlength 0 ++ wR_ r0 r_keys r_days r_values cI rkeys rdays rvalues 0) H2 := hP
  have hD : va_D A (wT_ t0 t_characters cC tcharacters tlength 0 ++ wR_ r0 r_keys r_days r_values cI rkeys rdays rvalues 0) := hD
  refine lv_iconst (v := 0) hx hb dX3_takeRows_10 (by decide) ?_
  refine lv_istore_n (lv' := [(2, .int 0), (0, .ref t0), (1, .ref r0)]) hx hb dX3_takeRows_11 rfl hl (by decide) rfl (fun ls hl => ?_)
  have lp12 : ∀ (n : Nat) (l2 : Int32) (tcharacters : Nat → Int32) (tlength : Int32) (tplace : Int32) (rkeys : Nat → Int32) (rdays : Nat → Int32) (rvalues : Nat → Int32) (rcount : Int32) (H3 : Heap) (locs : List Loc) (ls : Array Slot), f_X3_takeRows_L12 n l2 (tcharacters, tlength, tplace) (rkeys, rdays, rvalues, rcount) = some R → va_P (dC, dI) vwCl (wT_ t0 t_characters cC tcharacters tlength tplace ++ wR_ r0 r_keys r_days r_values cI rkeys rdays rvalues rcount) H3 → va_D A (wT_ t0 t_characters cC tcharacters tlength tplace ++ wR_ r0 r_keys r_days r_values cI rkeys rdays rvalues rcount) → va_S A s.heap H3 locs → lv_has ls 3 [(2, .int l2), (0, .ref t0), (1, .ref r0)] → W p l e (headSpec wsX3_takeRows rm_X3_takeRows).room s m args below meth c H3 locs 0 0 (MQ below (Qi_ (dC, dI) (ty_ cI cZ cC cJ cD) R.1 (wT_ t0 t_characters cC R.2.1.1 R.2.1.2.1 R.2.1.2.2 ++ wR_ r0 r_keys r_days r_values cI R.2.2.1 R.2.2.2.1 R.2.2.2.2.1 R.2.2.2.2.2) A) args s 0 0 A) (F0 m 12 ls []) := by
    intro n
    induction n with
    | zero => intro l2 tcharacters tlength tplace rkeys rdays rvalues rcount H3 locs ls hf hP hD hS hl; exact absurd hf (by simp [f_X3_takeRows_L12])
    | succ n ih =>
      intro l2 tcharacters tlength tplace rkeys rdays rvalues rcount H3 locs ls hf hP hD hS hl
      have hf : f_X3_takeRows_S12 (f_X3_takeRows_L12 n) l2 (tcharacters, tlength, tplace) (rkeys, rdays, rvalues, rcount) = some R := hf
      unfold f_X3_takeRows_S12 at hf
      dsimp only at hf
      refine lv_iload_n hx hb dX3_takeRows_12 rfl (lv_at hl 0 rfl) ?_
      refine lv_aload_n hx hb dX3_takeRows_13 rfl (lv_at hl 1 rfl) ?_
      refine va_get (D := (dC, dI)) (ci := 5) (v := .int tlength) (C := RX3) (T := TX3) (N := 3) hx hb hts inX3_ hown hK hP 0 rfl rfl 1 (by decide) fl15_ (fun _ h9 => h9) rfl dX3_takeRows_14 ?_
      refine lv_icmp_gt (tgt := 60) hx hb dX3_takeRows_17 (by decide) (fun c4 => ?_) (fun c4 => ?_)
      · have hf := ite_T c4 hf
        refine lv_iconst (v := 0) hx hb dX3_takeRows_60 (by decide) ?_
        have hR := Option.some.inj hf
        subst hR
        exact W.zret (v := (0 : Int32)) hx hb hr (by decide) (fun t ht hW => ⟨⟨(0 : Int32), (), rfl, rfl, by rw [ht]; exact hP, va_K.moved hW.alike hK, hD⟩, hS.F ht⟩) hS.2.2 dX3_takeRows_61
      · have hf := ite_F c4 hf
        refine lv_aload_n hx hb dX3_takeRows_20 rfl (lv_at hl 1 rfl) ?_
        refine lv_aload_n hx hb dX3_takeRows_21 rfl (lv_at hl 2 rfl) ?_
        obtain ⟨R13, g14, hf⟩ := bd_B hf
        obtain ⟨r5, ⟨tc6, tl7, tp8⟩, ⟨rk9, rd10, rv11, rc12⟩⟩ := R13
        dsimp only at hf
        have hPc := hP
        have hDc := hD
        have hFc := va_free (wc := wT_ t0 t_characters cC tcharacters tlength tplace ++ wR_ r0 r_keys r_days r_values cI rkeys rdays rvalues rcount) hD hS hA [0, 1, 2, 3, 4, 5] rfl
        refine va_calli (va_runV (As := [.ref r0]) (rest := []) ⟨hx, hb, hml, hown, hts⟩ (c_X3_takeRow l dC dI cI cZ cC cJ cD t0 t_characters r0 r_keys r_days r_values H3.size tcharacters tlength tplace rkeys rdays rvalues rcount (r5, (tc6, tl7, tp8), (rk9, rd10, rv11, rc12)) g14) (cwV 1 hts gX3_takeRows_X3_takeRow rfl rfl rfl hs_X3_takeRow ⟨Nat.le_of_ble_eq_true rfl, Nat.le_of_ble_eq_true rfl⟩) (preV_ (ci := 5) (q0 := 0) hPc hK hDc rfl rfl rfl rfl) rfl rfl hl.1 rfl (lv_room (Nat.le_of_ble_eq_true rfl)) dX3_takeRows_22 ⟨Nat.le_of_ble_eq_true rfl, Nat.le_of_ble_eq_true rfl⟩) hS (fun q _ h => hFc q h) hFc (fun z16 u t H15 locs ht hvm hw hB hz1 hk1 hS => ?_)
        have hw : r5 = z16 := hw.symm
        subst hw
        obtain ⟨hP, hD⟩ := aft_ (Wr := []) (Wc' := wT_ t0 t_characters cC tc6 tl7 tp8 ++ wR_ r0 r_keys r_days r_values cI rk9 rd10 rv11 rc12) (W2 := wT_ t0 t_characters cC tc6 tl7 tp8 ++ wR_ r0 r_keys r_days r_values cI rk9 rd10 rv11 rc12) hP hD [0, 1, 2, 3, 4, 5] [] [0, 1, 2, 3, 4, 5] rfl rfl (by decide) (by decide) (by decide) hk1 hFc hB ht rfl
        refine lv_if_ne (tgt := 30) hx hb dX3_takeRows_25 (by decide) (fun c17 => ?_) (fun c17 => ?_)
        · have hf := ite_F c17 hf
          refine lv_aload_n hx hb dX3_takeRows_30 rfl (lv_at hl 1 rfl) ?_
          refine va_get (D := (dC, dI)) (ci := 5) (v := .int tp8) (C := RX3) (T := TX3) (N := 3) hx hb hts inX3_ hown hK hP 0 rfl rfl 2 (by decide) fl24_ (fun _ h9 => h9) rfl dX3_takeRows_31 ?_
          refine lv_aload_n hx hb dX3_takeRows_34 rfl (lv_at hl 1 rfl) ?_
          refine va_get (D := (dC, dI)) (ci := 5) (v := .int tl7) (C := RX3) (T := TX3) (N := 3) hx hb hts inX3_ hown hK hP 0 rfl rfl 1 (by decide) fl15_ (fun _ h9 => h9) rfl dX3_takeRows_35 ?_
          refine lv_icmp_ne (tgt := 43) hx hb dX3_takeRows_38 (by decide) (fun c18 => ?_) (fun c18 => ?_)
          · have hf := ite_F c18 hf
            refine lv_aload_n hx hb dX3_takeRows_43 rfl (lv_at hl 1 rfl) ?_
            refine lv_bipush (v := 44) hx hb dX3_takeRows_44 (by decide) ?_
            obtain ⟨R23, g24, hf⟩ := bd_B hf
            obtain ⟨r19, ⟨tc20, tl21, tp22⟩⟩ := R23
            dsimp only at hf
            have hPc := hP.sub (ws' := wT_ t0 t_characters cC tc6 tl7 tp8) [0, 1] rfl
            have hDc := hD.sub (ws' := wT_ t0 t_characters cC tc6 tl7 tp8) [0, 1] (by decide) rfl
            have hFc := va_free (wc := wT_ t0 t_characters cC tc6 tl7 tp8) hD hS hA [0, 1] rfl
            refine va_calli (va_runV (As := [.int 44]) (rest := []) ⟨hx, hb, hml, hown, hts⟩ (c_X3_take l dC dI cI cZ cC cJ cD t0 t_characters H15.size tc6 tl7 tp8 (44 : Int32) (r19, (tc20, tl21, tp22)) g24) (cwV 1 hts gX3_takeRows_X3_take rfl rfl rfl hs_X3_take ⟨Nat.le_of_ble_eq_true rfl, Nat.le_of_ble_eq_true rfl⟩) (preV_ (ci := 5) (q0 := 0) hPc hK hDc rfl rfl rfl rfl) rfl rfl hl.1 rfl (lv_room (Nat.le_of_ble_eq_true rfl)) dX3_takeRows_46 ⟨Nat.le_of_ble_eq_true rfl, Nat.le_of_ble_eq_true rfl⟩) hS (fun q _ h => hFc q h) hFc (fun z26 u t H25 locs ht hvm hw hB hz1 hk1 hS => ?_)
            have hw : r19 = z26 := hw.symm
            subst hw
            obtain ⟨hP, hD⟩ := aft_ (Wr := wR_ r0 r_keys r_days r_values cI rk9 rd10 rv11 rc12) (Wc' := wT_ t0 t_characters cC tc20 tl21 tp22) (W2 := wT_ t0 t_characters cC tc20 tl21 tp22 ++ wR_ r0 r_keys r_days r_values cI rk9 rd10 rv11 rc12) hP hD [0, 1] [2, 3, 4, 5] [4, 5, 0, 1, 2, 3] rfl rfl (by decide) (by decide) (by decide) hk1 hFc hB ht rfl
            refine lv_if_ne (tgt := 54) hx hb dX3_takeRows_49 (by decide) (fun c27 => ?_) (fun c27 => ?_)
            · have hf := ite_F c27 hf
              refine lv_iinc (v := l2 + 1) (lv' := [(2, .int (l2 + 1)), (0, .ref t0), (1, .ref r0)]) hx hb dX3_takeRows_54 hl (k := 0) rfl (by first | rfl | decide) (by decide) rfl (fun ls hl => ?_)
              refine lv_goto (tgt := 12) hx hb dX3_takeRows_57 (by decide) ?_
              exact ih (l2 + 1) tc20 tl21 tp22 rk9 rd10 rv11 rc12 _ _ _ hf hP hD hS (lv_sub hl [0, 1, 2] rfl)
            · have hf := ite_T c27 hf
              refine lv_iconst (v := 0) hx hb dX3_takeRows_52 (by decide) ?_
              have hR := Option.some.inj hf
              subst hR
              exact W.zret (v := (0 : Int32)) hx hb hr (by decide) (fun t ht hW => ⟨⟨(0 : Int32), (), rfl, rfl, by rw [ht]; exact hP, va_K.moved hW.alike hK, hD⟩, hS.F ht⟩) hS.2.2 dX3_takeRows_53
          · have hf := ite_T c18 hf
            refine lv_iconst (v := 1) hx hb dX3_takeRows_41 (by decide) ?_
            have hR := Option.some.inj hf
            subst hR
            exact W.zret (v := (1 : Int32)) hx hb hr (by decide) (fun t ht hW => ⟨⟨(1 : Int32), (), rfl, rfl, by rw [ht]; exact hP, va_K.moved hW.alike hK, hD⟩, hS.F ht⟩) hS.2.2 dX3_takeRows_42
        · have hf := ite_T c17 hf
          refine lv_iconst (v := 0) hx hb dX3_takeRows_28 (by decide) ?_
          have hR := Option.some.inj hf
          subst hR
          exact W.zret (v := (0 : Int32)) hx hb hr (by decide) (fun t ht hW => ⟨⟨(0 : Int32), (), rfl, rfl, by rw [ht]; exact hP, va_K.moved hW.alike hK, hD⟩, hS.F ht⟩) hS.2.2 dX3_takeRows_29
  exact lp12 fu_ (0 : Int32) tcharacters tlength (0 : Int32) rkeys rdays rvalues (0 : Int32) _ _ _ hf hP hD hS hl
theorem hs_X3_takeRows : yX3_takeRows.cls = RX3 ∧ yX3_takeRows.cls ≠ "java/lang/invoke/MethodHandle" ∧ yX3_takeRows.cls ≠ "java/lang/invoke/VarHandle" ∧ (parseMethodDescriptor yX3_takeRows.desc).map (fun d => d.parameters.length) = some 1 := by decide +kernel
