set_option maxRecDepth 20000 in
theorem in_X4_countOf_X4 : ∀ w ∈ wsX40, w ∈ wsX4_countOf := by decide +kernel
def f_X4_countOf_S4 (k_ : Int32 → Int32 → Int32 → tV_ → Option (Int32)) (l3 : Int32) (l2 : Int32) (l1 : Int32) (V_ : tV_) : Option (Int32) :=
match V_ with
| (vkeys, vfirsts, vends, vvalues, vinferred, vgone, vmade) =>
if vmade ≤ l3 then
some l2
else
bd_ (f_X4_isOf l3 l1 (vkeys, vfirsts, vends, vvalues, vinferred, vgone, vmade)) (fun r3 =>
if r3 = 0 then
k_ (l3 + 1) l2 l1 (vkeys, vfirsts, vends, vvalues, vinferred, vgone, vmade)
else
k_ (l3 + 1) (l2 + 1) l1 (vkeys, vfirsts, vends, vvalues, vinferred, vgone, vmade))
def f_X4_countOf_L4 : Nat → Int32 → Int32 → Int32 → tV_ → Option (Int32)
  | 0 => fun _ _ _ _ => none
  | n + 1 => fun l3 l2 l1 V_ => f_X4_countOf_S4 (f_X4_countOf_L4 n) l3 l2 l1 V_
def f_X4_countOf (a1 : Int32) (V_ : tV_) : Option (Int32) :=
match V_ with
| (vkeys, vfirsts, vends, vvalues, vinferred, vgone, vmade) =>
f_X4_countOf_L4 fu_ (0 : Int32) (0 : Int32) a1 (vkeys, vfirsts, vends, vvalues, vinferred, vgone, vmade)
abbrev rm_X4_countOf : Room := { frames := 2, cells := 0, slots := 0, locals := 43 }
set_option maxHeartbeats 4000000 in
set_option maxRecDepth 100000 in
theorem c_X4_countOf (l : Launch) (dC : Nat → ClassId) (dI : Nat → Nat → Nat) (cI cZ cC cJ cD : ClassId) (v0 v_keys v_firsts v_ends v_values v_inferred v_gone : Nat) (sz : Nat) (vkeys : Nat → Int32) (vfirsts : Nat → Int32) (vends : Nat → Int32) (vvalues : Nat → Int32) (vinferred : Nat → Int32) (vgone : Nat → Int32) (vmade : Int32) (a1 : Int32) (R : Int32) (hf : f_X4_countOf a1 (vkeys, vfirsts, vends, vvalues, vinferred, vgone, vmade) = some R) : Met l yX4_countOf wsX4_countOf rm_X4_countOf (Pc_ (dC, dI) (ty_ cI cZ cC cJ cD) (wV_ v0 v_keys v_firsts v_ends v_values v_inferred v_gone cI cZ vkeys vfirsts vends vvalues vinferred vgone vmade) sz [.ref v0, .int a1]) (Qi_ (dC, dI) (ty_ cI cZ cC cJ cD) R (wV_ v0 v_keys v_firsts v_ends v_values v_inferred v_gone cI cZ vkeys vfirsts vends vvalues vinferred vgone vmade) (va_A (wV_ v0 v_keys v_firsts v_ends v_values v_inferred v_gone cI cZ vkeys vfirsts vends vvalues vinferred vgone vmade) sz)) 0 0 (va_A (wV_ v0 v_keys v_firsts v_ends v_values v_inferred v_gone cI cZ vkeys vfirsts vends vvalues vinferred vgone vmade) sz) := by
  refine met_ (cc := cX4_countOf) (maxL := 4) (ret := (some .int)) (Qcf := fun A => Qi_ (dC, dI) (ty_ cI cZ cC cJ cD) R (wV_ v0 v_keys v_firsts v_ends v_values v_inferred v_gone cI cZ vkeys vfirsts vends vvalues vinferred vgone vmade) A) (by decide) rfl (Nat.le_of_ble_eq_true rfl) ?_
  intro p e s m args below meth c A ls hx hb hr hts hown hlocks hml hA hP hK hD hl
  have hown : s.vm.findClass RX4 = some m.cls := hown
  have hl : lv_has ls 4 [(0, .ref v0), (1, .int a1)] := hl
  have hS : va_S A s.heap s.heap [] := va_S.rf
  have fl31_ : (Cond.fieldLink RX4 31 "DimensionLoader$Versions" "made" "I").before args s = true := hts _ (List.mem_of_getElem? (i := 1) rfl)
  have inX4_ : ∀ w ∈ wsX40, w ∈ wsX4_countOf := in_X4_countOf_X4
  unfold f_X4_countOf at hf
  dsimp only at hf
  refine lv_iconst (v := 0) hx hb dX4_countOf_0 (by decide) ?_
  refine lv_istore_n (lv' := [(2, .int 0), (0, .ref v0), (1, .int a1)]) hx hb dX4_countOf_1 rfl hl (by decide) rfl (fun ls hl => ?_)
  refine lv_iconst (v := 0) hx hb dX4_countOf_2 (by decide) ?_
  refine lv_istore_n (lv' := [(3, .int 0), (2, .int 0), (0, .ref v0), (1, .int a1)]) hx hb dX4_countOf_3 rfl hl (by decide) rfl (fun ls hl => ?_)
  have lp4 : ∀ (n : Nat) (l3 : Int32) (l2 : Int32) (l1 : Int32) (vkeys : Nat → Int32) (vfirsts : Nat → Int32) (vends : Nat → Int32) (vvalues : Nat → Int32) (vinferred : Nat → Int32) (vgone : Nat → Int32) (vmade : Int32) (H1 : Heap) (locs : List Loc) (ls : Array Slot), f_X4_countOf_L4 n l3 l2 l1 (vkeys, vfirsts, vends, vvalues, vinferred, vgone, vmade) = some R → va_P (dC, dI) vwCl (wV_ v0 v_keys v_firsts v_ends v_values v_inferred v_gone cI cZ vkeys vfirsts vends vvalues vinferred vgone vmade) H1 → va_D A (wV_ v0 v_keys v_firsts v_ends v_values v_inferred v_gone cI cZ vkeys vfirsts vends vvalues vinferred vgone vmade) → va_S A s.heap H1 locs → lv_has ls 4 [(3, .int l3), (2, .int l2), (0, .ref v0), (1, .int l1)] → W p l e (headSpec wsX4_countOf rm_X4_countOf).room s m args below meth c H1 locs 0 0 (MQ below (Qi_ (dC, dI) (ty_ cI cZ cC cJ cD) R (wV_ v0 v_keys v_firsts v_ends v_values v_inferred v_gone cI cZ vkeys vfirsts vends vvalues vinferred vgone vmade) A) args s 0 0 A) (F0 m 4 ls []) := by
    intro n
    induction n with
    | zero => intro l3 l2 l1 vkeys vfirsts vends vvalues vinferred vgone vmade H1 locs ls hf hP hD hS hl; exact absurd hf (by simp [f_X4_countOf_L4])
    | succ n ih =>
      intro l3 l2 l1 vkeys vfirsts vends vvalues vinferred vgone vmade H1 locs ls hf hP hD hS hl
      have hf : f_X4_countOf_S4 (f_X4_countOf_L4 n) l3 l2 l1 (vkeys, vfirsts, vends, vvalues, vinferred, vgone, vmade) = some R := hf
      unfold f_X4_countOf_S4 at hf
      dsimp only at hf
      refine lv_iload_n hx hb dX4_countOf_4 rfl (lv_at hl 0 rfl) ?_
      refine lv_aload_n hx hb dX4_countOf_5 rfl (lv_at hl 2 rfl) ?_
      refine va_get (D := (dC, dI)) (ci := 6) (v := .int vmade) (C := RX4) (T := TX4) (N := 7) hx hb hts inX4_ hown hK hP 0 rfl rfl 6 (by decide) fl31_ (fun _ h9 => h9) rfl dX4_countOf_6 ?_
      refine lv_icmp_ge (tgt := 30) hx hb dX4_countOf_9 (by decide) (fun c2 => ?_) (fun c2 => ?_)
      · have hf := ite_T c2 hf
        refine lv_iload_n hx hb dX4_countOf_30 rfl (lv_at hl 1 rfl) ?_
        have hR := Option.some.inj hf
        subst hR
        exact W.iret (v := l2) hx hb hr (fun t ht hW => ⟨⟨l2, (), rfl, rfl, by rw [ht]; exact hP, va_K.moved hW.alike hK, hD⟩, hS.F ht⟩) hS.2.2 dX4_countOf_31
      · have hf := ite_F c2 hf
        refine lv_aload_n hx hb dX4_countOf_12 rfl (lv_at hl 2 rfl) ?_
        refine lv_iload_n hx hb dX4_countOf_13 rfl (lv_at hl 0 rfl) ?_
        refine lv_iload_n hx hb dX4_countOf_14 rfl (lv_at hl 3 rfl) ?_
        obtain ⟨R4, g5, hf⟩ := bd_B hf
        obtain ⟨r3, rfl⟩ : ∃ z, z = R4 := ⟨_, rfl⟩
        have hPc := hP
        have hDc := hD
        have hFc := va_free (wc := wV_ v0 v_keys v_firsts v_ends v_values v_inferred v_gone cI cZ vkeys vfirsts vends vvalues vinferred vgone vmade) hD hS hA [0, 1, 2, 3, 4, 5, 6] rfl
        refine va_calli (va_runV (As := [.int l3, .int l1]) (rest := []) ⟨hx, hb, hml, hown, hts⟩ (c_X4_isOf l dC dI cI cZ cC cJ cD v0 v_keys v_firsts v_ends v_values v_inferred v_gone H1.size vkeys vfirsts vends vvalues vinferred vgone vmade l3 l1 r3 g5) (cwV 2 hts gX4_countOf_X4_isOf rfl rfl rfl hs_X4_isOf ⟨Nat.le_of_ble_eq_true rfl, Nat.le_of_ble_eq_true rfl⟩) (preV_ (ci := 6) (q0 := 0) hPc hK hDc rfl rfl rfl rfl) rfl rfl hl.1 rfl (lv_room (Nat.le_of_ble_eq_true rfl)) dX4_countOf_15 ⟨Nat.le_of_ble_eq_true rfl, Nat.le_of_ble_eq_true rfl⟩) hS (fun q _ h => hFc q h) hFc (fun z7 u t H6 locs ht hvm hw hB hz1 hk1 hS => ?_)
        have hw : r3 = z7 := hw.symm
        subst hw
        obtain ⟨hP, hD⟩ := aft_ (Wr := []) (Wc' := wV_ v0 v_keys v_firsts v_ends v_values v_inferred v_gone cI cZ vkeys vfirsts vends vvalues vinferred vgone vmade) (W2 := wV_ v0 v_keys v_firsts v_ends v_values v_inferred v_gone cI cZ vkeys vfirsts vends vvalues vinferred vgone vmade) hP hD [0, 1, 2, 3, 4, 5, 6] [] [0, 1, 2, 3, 4, 5, 6] rfl rfl (by decide) (by decide) (by decide) hk1 hFc hB ht rfl
        refine lv_if_eq (tgt := 24) hx hb dX4_countOf_18 (by decide) (fun c8 => ?_) (fun c8 => ?_)
        · have hf := ite_T c8 hf
          refine lv_iinc (v := l3 + 1) (lv' := [(3, .int (l3 + 1)), (2, .int l2), (0, .ref v0), (1, .int l1)]) hx hb dX4_countOf_24 hl (k := 0) rfl (by first | rfl | decide) (by decide) rfl (fun ls hl => ?_)
          refine lv_goto (tgt := 4) hx hb dX4_countOf_27 (by decide) ?_
          exact ih (l3 + 1) l2 l1 vkeys vfirsts vends vvalues vinferred vgone vmade _ _ _ hf hP hD hS (lv_sub hl [0, 1, 2, 3] rfl)
        · have hf := ite_F c8 hf
          refine lv_iinc (v := l2 + 1) (lv' := [(2, .int (l2 + 1)), (3, .int l3), (0, .ref v0), (1, .int l1)]) hx hb dX4_countOf_21 hl (k := 1) rfl (by first | rfl | decide) (by decide) rfl (fun ls hl => ?_)
          refine lv_iinc (v := l3 + 1) (lv' := [(3, .int (l3 + 1)), (2, .int (l2 + 1)), (0, .ref v0), (1, .int l1)]) hx hb dX4_countOf_24 hl (k := 1) rfl (by first | rfl | decide) (by decide) rfl (fun ls hl => ?_)
          refine lv_goto (tgt := 4) hx hb dX4_countOf_27 (by decide) ?_
          exact ih (l3 + 1) (l2 + 1) l1 vkeys vfirsts vends vvalues vinferred vgone vmade _ _ _ hf hP hD hS (lv_sub hl [0, 1, 2, 3] rfl)
  exact lp4 fu_ (0 : Int32) (0 : Int32) a1 vkeys vfirsts vends vvalues vinferred vgone vmade _ _ _ hf hP hD hS hl
theorem hs_X4_countOf : yX4_countOf.cls = RX4 ∧ yX4_countOf.cls ≠ "java/lang/invoke/MethodHandle" ∧ yX4_countOf.cls ≠ "java/lang/invoke/VarHandle" ∧ (parseMethodDescriptor yX4_countOf.desc).map (fun d => d.parameters.length) = some 1 := by decide +kernel
set_option maxRecDepth 20000 in
theorem in_X4_atPlace_X4 : ∀ w ∈ wsX40, w ∈ wsX4_atPlace := by decide +kernel
def f_X4_atPlace_S24 (k_ : Int32 → Int32 → Int32 → Int32 → tV_ → Option (Int32)) (l4 : Int32) (l3 : Int32) (l1 : Int32) (l2 : Int32) (V_ : tV_) : Option (Int32) :=
match V_ with
| (vkeys, vfirsts, vends, vvalues, vinferred, vgone, vmade) =>
if l2 ≤ l4 then
some l3
else
if l3 = (-1) then
some l3
else
gd_ l3 60 (
bd_ (f_X4_next l1 (vfirsts l3.toNatClampNeg) (vkeys, vfirsts, vends, vvalues, vinferred, vgone, vmade)) (fun r12 =>
k_ (l4 + 1) r12 l1 l2 (vkeys, vfirsts, vends, vvalues, vinferred, vgone, vmade)))
def f_X4_atPlace_L24 : Nat → Int32 → Int32 → Int32 → Int32 → tV_ → Option (Int32)
  | 0 => fun _ _ _ _ _ => none
  | n + 1 => fun l4 l3 l1 l2 V_ => f_X4_atPlace_S24 (f_X4_atPlace_L24 n) l4 l3 l1 l2 V_
def f_X4_atPlace (a1 : Int32) (a2 : Int32) (V_ : tV_) : Option (Int32) :=
match V_ with
| (vkeys, vfirsts, vends, vvalues, vinferred, vgone, vmade) =>
if a2 < 0 then
some (-1 : Int32)
else
if a2 < vmade then
bd_ (f_X4_next a1 (-1 : Int32) (vkeys, vfirsts, vends, vvalues, vinferred, vgone, vmade)) (fun r3 =>
f_X4_atPlace_L24 fu_ (0 : Int32) r3 a1 a2 (vkeys, vfirsts, vends, vvalues, vinferred, vgone, vmade))
else
some (-1 : Int32)
abbrev rm_X4_atPlace : Room := { frames := 3, cells := 0, slots := 0, locals := 67 }
set_option maxHeartbeats 4000000 in
set_option maxRecDepth 100000 in
theorem c_X4_atPlace (l : Launch) (dC : Nat → ClassId) (dI : Nat → Nat → Nat) (cI cZ cC cJ cD : ClassId) (v0 v_keys v_firsts v_ends v_values v_inferred v_gone : Nat) (sz : Nat) (vkeys : Nat → Int32) (vfirsts : Nat → Int32) (vends : Nat → Int32) (vvalues : Nat → Int32) (vinferred : Nat → Int32) (vgone : Nat → Int32) (vmade : Int32) (a1 : Int32) (a2 : Int32) (R : Int32) (hf : f_X4_atPlace a1 a2 (vkeys, vfirsts, vends, vvalues, vinferred, vgone, vmade) = some R) : Met l yX4_atPlace wsX4_atPlace rm_X4_atPlace (Pc_ (dC, dI) (ty_ cI cZ cC cJ cD) (wV_ v0 v_keys v_firsts v_ends v_values v_inferred v_gone cI cZ vkeys vfirsts vends vvalues vinferred vgone vmade) sz [.ref v0, .int a1, .int a2]) (Qi_ (dC, dI) (ty_ cI cZ cC cJ cD) R (wV_ v0 v_keys v_firsts v_ends v_values v_inferred v_gone cI cZ vkeys vfirsts vends vvalues vinferred vgone vmade) (va_A (wV_ v0 v_keys v_firsts v_ends v_values v_inferred v_gone cI cZ vkeys vfirsts vends vvalues vinferred vgone vmade) sz)) 0 0 (va_A (wV_ v0 v_keys v_firsts v_ends v_values v_inferred v_gone cI cZ vkeys vfirsts vends vvalues vinferred vgone vmade) sz) := by
  refine met_ (cc := cX4_atPlace) (maxL := 5) (ret := (some .int)) (Qcf := fun A => Qi_ (dC, dI) (ty_ cI cZ cC cJ cD) R (wV_ v0 v_keys v_firsts v_ends v_values v_inferred v_gone cI cZ vkeys vfirsts vends vvalues vinferred vgone vmade) A) (by decide) rfl (Nat.le_of_ble_eq_true rfl) ?_
  intro p e s m args below meth c A ls hx hb hr hts hown hlocks hml hA hP hK hD hl
  have hown : s.vm.findClass RX4 = some m.cls := hown
  have hl : lv_has ls 5 [(0, .ref v0), (1, .int a1), (2, .int a2)] := hl
  have hS : va_S A s.heap s.heap [] := va_S.rf
  have fl15_ : (Cond.fieldLink RX4 15 "DimensionLoader$Versions" "firsts" "[I").before args s = true := hts _ (List.mem_of_getElem? (i := 2) rfl)
  have fl31_ : (Cond.fieldLink RX4 31 "DimensionLoader$Versions" "made" "I").before args s = true := hts _ (List.mem_of_getElem? (i := 1) rfl)
  have inX4_ : ∀ w ∈ wsX40, w ∈ wsX4_atPlace := in_X4_atPlace_X4
  unfold f_X4_atPlace at hf
  dsimp only at hf
  refine lv_iload_n hx hb dX4_atPlace_0 rfl (lv_at hl 2 rfl) ?_
  refine lv_if_lt (tgt := 12) hx hb dX4_atPlace_1 (by decide) (fun c1 => ?_) (fun c1 => ?_)
  · have hf := ite_T c1 hf
    refine lv_iconst (v := (-1)) hx hb dX4_atPlace_12 (by decide) ?_
    have hR := Option.some.inj hf
    subst hR
    exact W.iret (v := (-1 : Int32)) hx hb hr (fun t ht hW => ⟨⟨(-1 : Int32), (), rfl, rfl, by rw [ht]; exact hP, va_K.moved hW.alike hK, hD⟩, hS.F ht⟩) hS.2.2 dX4_atPlace_13
  · have hf := ite_F c1 hf
    refine lv_iload_n hx hb dX4_atPlace_4 rfl (lv_at hl 2 rfl) ?_
    refine lv_aload_n hx hb dX4_atPlace_5 rfl (lv_at hl 0 rfl) ?_
    refine va_get (D := (dC, dI)) (ci := 6) (v := .int vmade) (C := RX4) (T := TX4) (N := 7) hx hb hts inX4_ hown hK hP 0 rfl rfl 6 (by decide) fl31_ (fun _ h9 => h9) rfl dX4_atPlace_6 ?_
    refine lv_icmp_lt (tgt := 14) hx hb dX4_atPlace_9 (by decide) (fun c2 => ?_) (fun c2 => ?_)
    · have hf := ite_T c2 hf
      refine lv_aload_n hx hb dX4_atPlace_14 rfl (lv_at hl 0 rfl) ?_
      refine lv_iload_n hx hb dX4_atPlace_15 rfl (lv_at hl 1 rfl) ?_
      refine lv_iconst (v := (-1)) hx hb dX4_atPlace_16 (by decide) ?_
      obtain ⟨R4, g5, hf⟩ := bd_B hf
      obtain ⟨r3, rfl⟩ : ∃ z, z = R4 := ⟨_, rfl⟩
      have hPc := hP
      have hDc := hD
      have hFc := va_free (wc := wV_ v0 v_keys v_firsts v_ends v_values v_inferred v_gone cI cZ vkeys vfirsts vends vvalues vinferred vgone vmade) hD hS hA [0, 1, 2, 3, 4, 5, 6] rfl
      refine va_calli (va_runV (As := [.int a1, .int (-1)]) (rest := []) ⟨hx, hb, hml, hown, hts⟩ (c_X4_next l dC dI cI cZ cC cJ cD v0 v_keys v_firsts v_ends v_values v_inferred v_gone s.heap.size vkeys vfirsts vends vvalues vinferred vgone vmade a1 (-1 : Int32) r3 g5) (cwV 2 hts gX4_atPlace_X4_next rfl rfl rfl hs_X4_next ⟨Nat.le_of_ble_eq_true rfl, Nat.le_of_ble_eq_true rfl⟩) (preV_ (ci := 6) (q0 := 0) hPc hK hDc rfl rfl rfl rfl) rfl rfl hl.1 rfl (lv_room (Nat.le_of_ble_eq_true rfl)) dX4_atPlace_17 ⟨Nat.le_of_ble_eq_true rfl, Nat.le_of_ble_eq_true rfl⟩) hS (fun q _ h => hFc q h) hFc (fun z7 u t H6 locs ht hvm hw hB hz1 hk1 hS => ?_)
      have hw : r3 = z7 := hw.symm
      subst hw
      obtain ⟨hP, hD⟩ := aft_ (Wr := []) (Wc' := wV_ v0 v_keys v_firsts v_ends v_values v_inferred v_gone cI cZ vkeys vfirsts vends vvalues vinferred vgone vmade) (W2 := wV_ v0 v_keys v_firsts v_ends v_values v_inferred v_gone cI cZ vkeys vfirsts vends vvalues vinferred vgone vmade) hP hD [0, 1, 2, 3, 4, 5, 6] [] [0, 1, 2, 3, 4, 5, 6] rfl rfl (by decide) (by decide) (by decide) hk1 hFc hB ht rfl
      refine lv_istore_n (lv' := [(3, .int r3), (0, .ref v0), (1, .int a1), (2, .int a2)]) hx hb dX4_atPlace_20 rfl hl (by decide) rfl (fun ls hl => ?_)
      refine lv_iconst (v := 0) hx hb dX4_atPlace_21 (by decide) ?_
      refine lv_istore (lv' := [(4, .int 0), (3, .int r3), (0, .ref v0), (1, .int a1), (2, .int a2)]) hx hb dX4_atPlace_22 hl (by decide) rfl (fun ls hl => ?_)
      have lp24 : ∀ (n : Nat) (l4 : Int32) (l3 : Int32) (l1 : Int32) (l2 : Int32) (vkeys : Nat → Int32) (vfirsts : Nat → Int32) (vends : Nat → Int32) (vvalues : Nat → Int32) (vinferred : Nat → Int32) (vgone : Nat → Int32) (vmade : Int32) (H8 : Heap) (locs : List Loc) (ls : Array Slot), f_X4_atPlace_L24 n l4 l3 l1 l2 (vkeys, vfirsts, vends, vvalues, vinferred, vgone, vmade) = some R → va_P (dC, dI) vwCl (wV_ v0 v_keys v_firsts v_ends v_values v_inferred v_gone cI cZ vkeys vfirsts vends vvalues vinferred vgone vmade) H8 → va_D A (wV_ v0 v_keys v_firsts v_ends v_values v_inferred v_gone cI cZ vkeys vfirsts vends vvalues vinferred vgone vmade) → va_S A s.heap H8 locs → lv_has ls 5 [(4, .int l4), (3, .int l3), (0, .ref v0), (1, .int l1), (2, .int l2)] → W p l e (headSpec wsX4_atPlace rm_X4_atPlace).room s m args below meth c H8 locs 0 0 (MQ below (Qi_ (dC, dI) (ty_ cI cZ cC cJ cD) R (wV_ v0 v_keys v_firsts v_ends v_values v_inferred v_gone cI cZ vkeys vfirsts vends vvalues vinferred vgone vmade) A) args s 0 0 A) (F0 m 24 ls []) := by
        intro n
        induction n with
        | zero => intro l4 l3 l1 l2 vkeys vfirsts vends vvalues vinferred vgone vmade H8 locs ls hf hP hD hS hl; exact absurd hf (by simp [f_X4_atPlace_L24])
        | succ n ih =>
          intro l4 l3 l1 l2 vkeys vfirsts vends vvalues vinferred vgone vmade H8 locs ls hf hP hD hS hl
          have hf : f_X4_atPlace_S24 (f_X4_atPlace_L24 n) l4 l3 l1 l2 (vkeys, vfirsts, vends, vvalues, vinferred, vgone, vmade) = some R := hf
          unfold f_X4_atPlace_S24 at hf
          dsimp only at hf
          refine lv_iload hx hb dX4_atPlace_24 (lv_at hl 0 rfl) ?_
          refine lv_iload_n hx hb dX4_atPlace_26 rfl (lv_at hl 4 rfl) ?_
          refine lv_icmp_ge (tgt := 53) hx hb dX4_atPlace_27 (by decide) (fun c9 => ?_) (fun c9 => ?_)
          · have hf := ite_T c9 hf
            refine lv_iload_n hx hb dX4_atPlace_53 rfl (lv_at hl 1 rfl) ?_
            have hR := Option.some.inj hf
            subst hR
            exact W.iret (v := l3) hx hb hr (fun t ht hW => ⟨⟨l3, (), rfl, rfl, by rw [ht]; exact hP, va_K.moved hW.alike hK, hD⟩, hS.F ht⟩) hS.2.2 dX4_atPlace_54
          · have hf := ite_F c9 hf
            refine lv_iload_n hx hb dX4_atPlace_30 rfl (lv_at hl 1 rfl) ?_
            refine lv_iconst (v := (-1)) hx hb dX4_atPlace_31 (by decide) ?_
            refine lv_icmp_eq (tgt := 53) hx hb dX4_atPlace_32 (by decide) (fun c10 => ?_) (fun c10 => ?_)
            · have hf := ite_T c10 hf
              refine lv_iload_n hx hb dX4_atPlace_53 rfl (lv_at hl 1 rfl) ?_
              have hR := Option.some.inj hf
              subst hR
              exact W.iret (v := l3) hx hb hr (fun t ht hW => ⟨⟨l3, (), rfl, rfl, by rw [ht]; exact hP, va_K.moved hW.alike hK, hD⟩, hS.F ht⟩) hS.2.2 dX4_atPlace_54
            · have hf := ite_F c10 hf
              refine lv_aload_n hx hb dX4_atPlace_35 rfl (lv_at hl 2 rfl) ?_
              refine lv_iload_n hx hb dX4_atPlace_36 rfl (lv_at hl 3 rfl) ?_
              refine lv_aload_n hx hb dX4_atPlace_37 rfl (lv_at hl 2 rfl) ?_
              refine va_get (D := (dC, dI)) (ci := 6) (v := .ref v_firsts) (C := RX4) (T := TX4) (N := 7) hx hb hts inX4_ hown hK hP 0 rfl rfl 1 (by decide) fl15_ (fun _ h9 => h9) rfl dX4_atPlace_38 ?_
              refine lv_iload_n hx hb dX4_atPlace_41 rfl (lv_at hl 1 rfl) ?_
              obtain ⟨h11, hf⟩ := gd_T hf
              refine va_iald hx hb hK hP 2 0 rfl rfl h11 dX4_atPlace_42 ?_
              obtain ⟨R13, g14, hf⟩ := bd_B hf
              obtain ⟨r12, rfl⟩ : ∃ z, z = R13 := ⟨_, rfl⟩
              have hPc := hP
              have hDc := hD
              have hFc := va_free (wc := wV_ v0 v_keys v_firsts v_ends v_values v_inferred v_gone cI cZ vkeys vfirsts vends vvalues vinferred vgone vmade) hD hS hA [0, 1, 2, 3, 4, 5, 6] rfl
              refine va_calli (va_runV (As := [.int l1, .int (vfirsts l3.toNatClampNeg)]) (rest := []) ⟨hx, hb, hml, hown, hts⟩ (c_X4_next l dC dI cI cZ cC cJ cD v0 v_keys v_firsts v_ends v_values v_inferred v_gone H8.size vkeys vfirsts vends vvalues vinferred vgone vmade l1 (vfirsts l3.toNatClampNeg) r12 g14) (cwV 2 hts gX4_atPlace_X4_next rfl rfl rfl hs_X4_next ⟨Nat.le_of_ble_eq_true rfl, Nat.le_of_ble_eq_true rfl⟩) (preV_ (ci := 6) (q0 := 0) hPc hK hDc rfl rfl rfl rfl) rfl rfl hl.1 rfl (lv_room (Nat.le_of_ble_eq_true rfl)) dX4_atPlace_43 ⟨Nat.le_of_ble_eq_true rfl, Nat.le_of_ble_eq_true rfl⟩) hS (fun q _ h => hFc q h) hFc (fun z16 u t H15 locs ht hvm hw hB hz1 hk1 hS => ?_)
              have hw : r12 = z16 := hw.symm
              subst hw
              obtain ⟨hP, hD⟩ := aft_ (Wr := []) (Wc' := wV_ v0 v_keys v_firsts v_ends v_values v_inferred v_gone cI cZ vkeys vfirsts vends vvalues vinferred vgone vmade) (W2 := wV_ v0 v_keys v_firsts v_ends v_values v_inferred v_gone cI cZ vkeys vfirsts vends vvalues vinferred vgone vmade) hP hD [0, 1, 2, 3, 4, 5, 6] [] [0, 1, 2, 3, 4, 5, 6] rfl rfl (by decide) (by decide) (by decide) hk1 hFc hB ht rfl
              refine lv_istore_n (lv' := [(3, .int r12), (4, .int l4), (0, .ref v0), (1, .int l1), (2, .int l2)]) hx hb dX4_atPlace_46 rfl hl (by decide) rfl (fun ls hl => ?_)
              refine lv_iinc (v := l4 + 1) (lv' := [(4, .int (l4 + 1)), (3, .int r12), (0, .ref v0), (1, .int l1), (2, .int l2)]) hx hb dX4_atPlace_47 hl (k := 1) rfl (by first | rfl | decide) (by decide) rfl (fun ls hl => ?_)
              refine lv_goto (tgt := 24) hx hb dX4_atPlace_50 (by decide) ?_
              exact ih (l4 + 1) r12 l1 l2 vkeys vfirsts vends vvalues vinferred vgone vmade _ _ _ hf hP hD hS (lv_sub hl [0, 1, 2, 3, 4] rfl)
      exact lp24 fu_ (0 : Int32) r3 a1 a2 vkeys vfirsts vends vvalues vinferred vgone vmade _ _ _ hf hP hD hS hl
    · have hf := ite_F c2 hf
      refine lv_iconst (v := (-1)) hx hb dX4_atPlace_12 (by decide) ?_
      have hR := Option.some.inj hf
      subst hR
      exact W.iret (v := (-1 : Int32)) hx hb hr (fun t ht hW => ⟨⟨(-1 : Int32), (), rfl, rfl, by rw [ht]; exact hP, va_K.moved hW.alike hK, hD⟩, hS.F ht⟩) hS.2.2 dX4_atPlace_13
theorem hs_X4_atPlace : yX4_atPlace.cls = RX4 ∧ yX4_atPlace.cls ≠ "java/lang/invoke/MethodHandle" ∧ yX4_atPlace.cls ≠ "java/lang/invoke/VarHandle" ∧ (parseMethodDescriptor yX4_atPlace.desc).map (fun d => d.parameters.length) = some 2 := by decide +kernel
set_option maxRecDepth 20000 in
theorem in_X4_gapBehind_X4 : ∀ w ∈ wsX40, w ∈ wsX4_gapBehind := by decide +kernel
def f_X4_gapBehind (a1 : Int32) (V_ : tV_) : Option (Int32) :=
match V_ with
| (vkeys, vfirsts, vends, vvalues, vinferred, vgone, vmade) =>
bd_ (f_X4_has a1 (vkeys, vfirsts, vends, vvalues, vinferred, vgone, vmade)) (fun r1 =>
if r1 = 0 then
some (0 : Int32)
else
gd_ a1 60 (
gd_ a1 60 (
bd_ (f_X4_nextFirst (vkeys a1.toNatClampNeg) (vfirsts a1.toNatClampNeg) (vkeys, vfirsts, vends, vvalues, vinferred, vgone, vmade)) (fun r9 =>
gd_ a1 60 (
some (r9 - (vends a1.toNatClampNeg)))))))
abbrev rm_X4_gapBehind : Room := { frames := 4, cells := 0, slots := 0, locals := 90 }
set_option maxHeartbeats 4000000 in
set_option maxRecDepth 100000 in
theorem c_X4_gapBehind (l : Launch) (dC : Nat → ClassId) (dI : Nat → Nat → Nat) (cI cZ cC cJ cD : ClassId) (v0 v_keys v_firsts v_ends v_values v_inferred v_gone : Nat) (sz : Nat) (vkeys : Nat → Int32) (vfirsts : Nat → Int32) (vends : Nat → Int32) (vvalues : Nat → Int32) (vinferred : Nat → Int32) (vgone : Nat → Int32) (vmade : Int32) (a1 : Int32) (R : Int32) (hf : f_X4_gapBehind a1 (vkeys, vfirsts, vends, vvalues, vinferred, vgone, vmade) = some R) : Met l yX4_gapBehind wsX4_gapBehind rm_X4_gapBehind (Pc_ (dC, dI) (ty_ cI cZ cC cJ cD) (wV_ v0 v_keys v_firsts v_ends v_values v_inferred v_gone cI cZ vkeys vfirsts vends vvalues vinferred vgone vmade) sz [.ref v0, .int a1]) (Qi_ (dC, dI) (ty_ cI cZ cC cJ cD) R (wV_ v0 v_keys v_firsts v_ends v_values v_inferred v_gone cI cZ vkeys vfirsts vends vvalues vinferred vgone vmade) (va_A (wV_ v0 v_keys v_firsts v_ends v_values v_inferred v_gone cI cZ vkeys vfirsts vends vvalues vinferred vgone vmade) sz)) 0 0 (va_A (wV_ v0 v_keys v_firsts v_ends v_values v_inferred v_gone cI cZ vkeys vfirsts vends vvalues vinferred vgone vmade) sz) := by
  refine met_ (cc := cX4_gapBehind) (maxL := 2) (ret := (some .int)) (Qcf := fun A => Qi_ (dC, dI) (ty_ cI cZ cC cJ cD) R (wV_ v0 v_keys v_firsts v_ends v_values v_inferred v_gone cI cZ vkeys vfirsts vends vvalues vinferred vgone vmade) A) (by decide) rfl (Nat.le_of_ble_eq_true rfl) ?_
  intro p e s m args below meth c A ls hx hb hr hts hown hlocks hml hA hP hK hD hl
  have hown : s.vm.findClass RX4 = some m.cls := hown
  have hl : lv_has ls 2 [(0, .ref v0), (1, .int a1)] := hl
  have hS : va_S A s.heap s.heap [] := va_S.rf
  have fl9_ : (Cond.fieldLink RX4 9 "DimensionLoader$Versions" "keys" "[I").before args s = true := hts _ (List.mem_of_getElem? (i := 1) rfl)
  have fl15_ : (Cond.fieldLink RX4 15 "DimensionLoader$Versions" "firsts" "[I").before args s = true := hts _ (List.mem_of_getElem? (i := 2) rfl)
  have fl18_ : (Cond.fieldLink RX4 18 "DimensionLoader$Versions" "ends" "[I").before args s = true := hts _ (List.mem_of_getElem? (i := 3) rfl)
  have inX4_ : ∀ w ∈ wsX40, w ∈ wsX4_gapBehind := in_X4_gapBehind_X4
  unfold f_X4_gapBehind at hf
  dsimp only at hf
  refine lv_aload_n hx hb dX4_gapBehind_0 rfl (lv_at hl 0 rfl) ?_
  refine lv_iload_n hx hb dX4_gapBehind_1 rfl (lv_at hl 1 rfl) ?_
  obtain ⟨R2, g3, hf⟩ := bd_B hf
  obtain ⟨r1, rfl⟩ : ∃ z, z = R2 := ⟨_, rfl⟩
  have hPc := hP
  have hDc := hD
  have hFc := va_free (wc := wV_ v0 v_keys v_firsts v_ends v_values v_inferred v_gone cI cZ vkeys vfirsts vends vvalues vinferred vgone vmade) hD hS hA [0, 1, 2, 3, 4, 5, 6] rfl
  refine va_calli (va_runV (As := [.int a1]) (rest := []) ⟨hx, hb, hml, hown, hts⟩ (c_X4_has l dC dI cI cZ cC cJ cD v0 v_keys v_firsts v_ends v_values v_inferred v_gone s.heap.size vkeys vfirsts vends vvalues vinferred vgone vmade a1 r1 g3) (cwV 1 hts gX4_gapBehind_X4_has rfl rfl rfl hs_X4_has ⟨Nat.le_of_ble_eq_true rfl, Nat.le_of_ble_eq_true rfl⟩) (preV_ (ci := 6) (q0 := 0) hPc hK hDc rfl rfl rfl rfl) rfl rfl hl.1 rfl (lv_room (Nat.le_of_ble_eq_true rfl)) dX4_gapBehind_2 ⟨Nat.le_of_ble_eq_true rfl, Nat.le_of_ble_eq_true rfl⟩) hS (fun q _ h => hFc q h) hFc (fun z5 u t H4 locs ht hvm hw hB hz1 hk1 hS => ?_)
  have hw : r1 = z5 := hw.symm
  subst hw
  obtain ⟨hP, hD⟩ := aft_ (Wr := []) (Wc' := wV_ v0 v_keys v_firsts v_ends v_values v_inferred v_gone cI cZ vkeys vfirsts vends vvalues vinferred vgone vmade) (W2 := wV_ v0 v_keys v_firsts v_ends v_values v_inferred v_gone cI cZ vkeys vfirsts vends vvalues vinferred vgone vmade) hP hD [0, 1, 2, 3, 4, 5, 6] [] [0, 1, 2, 3, 4, 5, 6] rfl rfl (by decide) (by decide) (by decide) hk1 hFc hB ht rfl
  refine lv_if_eq (tgt := 34) hx hb dX4_gapBehind_5 (by decide) (fun c6 => ?_) (fun c6 => ?_)
  · have hf := ite_T c6 hf
    refine lv_iconst (v := 0) hx hb dX4_gapBehind_34 (by decide) ?_
    have hR := Option.some.inj hf
    subst hR
    exact W.iret (v := (0 : Int32)) hx hb hr (fun t ht hW => ⟨⟨(0 : Int32), (), rfl, rfl, by rw [ht]; exact hP, va_K.moved hW.alike hK, hD⟩, hS.F ht⟩) hS.2.2 dX4_gapBehind_35
  · have hf := ite_F c6 hf
    refine lv_aload_n hx hb dX4_gapBehind_8 rfl (lv_at hl 0 rfl) ?_
    refine lv_aload_n hx hb dX4_gapBehind_9 rfl (lv_at hl 0 rfl) ?_
    refine va_get (D := (dC, dI)) (ci := 6) (v := .ref v_keys) (C := RX4) (T := TX4) (N := 7) hx hb hts inX4_ hown hK hP 0 rfl rfl 0 (by decide) fl9_ (fun _ h9 => h9) rfl dX4_gapBehind_10 ?_
    refine lv_iload_n hx hb dX4_gapBehind_13 rfl (lv_at hl 1 rfl) ?_
    obtain ⟨h7, hf⟩ := gd_T hf
    refine va_iald hx hb hK hP 1 0 rfl rfl h7 dX4_gapBehind_14 ?_
    refine lv_aload_n hx hb dX4_gapBehind_15 rfl (lv_at hl 0 rfl) ?_
    refine va_get (D := (dC, dI)) (ci := 6) (v := .ref v_firsts) (C := RX4) (T := TX4) (N := 7) hx hb hts inX4_ hown hK hP 0 rfl rfl 1 (by decide) fl15_ (fun _ h9 => h9) rfl dX4_gapBehind_16 ?_
    refine lv_iload_n hx hb dX4_gapBehind_19 rfl (lv_at hl 1 rfl) ?_
    obtain ⟨h8, hf⟩ := gd_T hf
    refine va_iald hx hb hK hP 2 0 rfl rfl h8 dX4_gapBehind_20 ?_
    obtain ⟨R10, g11, hf⟩ := bd_B hf
    obtain ⟨r9, rfl⟩ : ∃ z, z = R10 := ⟨_, rfl⟩
    have hPc := hP
    have hDc := hD
    have hFc := va_free (wc := wV_ v0 v_keys v_firsts v_ends v_values v_inferred v_gone cI cZ vkeys vfirsts vends vvalues vinferred vgone vmade) hD hS hA [0, 1, 2, 3, 4, 5, 6] rfl
    refine va_calli (va_runV (As := [.int (vkeys a1.toNatClampNeg), .int (vfirsts a1.toNatClampNeg)]) (rest := []) ⟨hx, hb, hml, hown, hts⟩ (c_X4_nextFirst l dC dI cI cZ cC cJ cD v0 v_keys v_firsts v_ends v_values v_inferred v_gone H4.size vkeys vfirsts vends vvalues vinferred vgone vmade (vkeys a1.toNatClampNeg) (vfirsts a1.toNatClampNeg) r9 g11) (cwV 2 hts gX4_gapBehind_X4_nextFirst rfl rfl rfl hs_X4_nextFirst ⟨Nat.le_of_ble_eq_true rfl, Nat.le_of_ble_eq_true rfl⟩) (preV_ (ci := 6) (q0 := 0) hPc hK hDc rfl rfl rfl rfl) rfl rfl hl.1 rfl (lv_room (Nat.le_of_ble_eq_true rfl)) dX4_gapBehind_21 ⟨Nat.le_of_ble_eq_true rfl, Nat.le_of_ble_eq_true rfl⟩) hS (fun q _ h => hFc q h) hFc (fun z13 u t H12 locs ht hvm hw hB hz1 hk1 hS => ?_)
    have hw : r9 = z13 := hw.symm
    subst hw
    obtain ⟨hP, hD⟩ := aft_ (Wr := []) (Wc' := wV_ v0 v_keys v_firsts v_ends v_values v_inferred v_gone cI cZ vkeys vfirsts vends vvalues vinferred vgone vmade) (W2 := wV_ v0 v_keys v_firsts v_ends v_values v_inferred v_gone cI cZ vkeys vfirsts vends vvalues vinferred vgone vmade) hP hD [0, 1, 2, 3, 4, 5, 6] [] [0, 1, 2, 3, 4, 5, 6] rfl rfl (by decide) (by decide) (by decide) hk1 hFc hB ht rfl
    refine lv_aload_n hx hb dX4_gapBehind_24 rfl (lv_at hl 0 rfl) ?_
    refine va_get (D := (dC, dI)) (ci := 6) (v := .ref v_ends) (C := RX4) (T := TX4) (N := 7) hx hb hts inX4_ hown hK hP 0 rfl rfl 2 (by decide) fl18_ (fun _ h9 => h9) rfl dX4_gapBehind_25 ?_
    refine lv_iload_n hx hb dX4_gapBehind_28 rfl (lv_at hl 1 rfl) ?_
    obtain ⟨h14, hf⟩ := gd_T hf
    refine va_iald hx hb hK hP 3 0 rfl rfl h14 dX4_gapBehind_29 ?_
    refine lv_isub hx hb dX4_gapBehind_30 ?_
    refine lv_goto (tgt := 35) hx hb dX4_gapBehind_31 (by decide) ?_
    have hR := Option.some.inj hf
    subst hR
    exact W.iret (v := r9 - (vends a1.toNatClampNeg)) hx hb hr (fun t ht hW => ⟨⟨r9 - (vends a1.toNatClampNeg), (), rfl, rfl, by rw [ht]; exact hP, va_K.moved hW.alike hK, hD⟩, hS.F ht⟩) hS.2.2 dX4_gapBehind_35
theorem hs_X4_gapBehind : yX4_gapBehind.cls = RX4 ∧ yX4_gapBehind.cls ≠ "java/lang/invoke/MethodHandle" ∧ yX4_gapBehind.cls ≠ "java/lang/invoke/VarHandle" ∧ (parseMethodDescriptor yX4_gapBehind.desc).map (fun d => d.parameters.length) = some 1 := by decide +kernel
set_option maxRecDepth 20000 in
theorem in_X4_countGaps_X4 : ∀ w ∈ wsX40, w ∈ wsX4_countGaps := by decide +kernel
def f_X4_countGaps_S4 (k_ : Int32 → Int32 → Int32 → tV_ → Option (Int32)) (l3 : Int32) (l2 : Int32) (l1 : Int32) (V_ : tV_) : Option (Int32) :=
match V_ with
| (vkeys, vfirsts, vends, vvalues, vinferred, vgone, vmade) =>
if vmade ≤ l3 then
some l2
else
bd_ (f_X4_isOf l3 l1 (vkeys, vfirsts, vends, vvalues, vinferred, vgone, vmade)) (fun r3 =>
if r3 = 0 then
k_ (l3 + 1) l2 l1 (vkeys, vfirsts, vends, vvalues, vinferred, vgone, vmade)
else
bd_ (f_X4_gapBehind l3 (vkeys, vfirsts, vends, vvalues, vinferred, vgone, vmade)) (fun r9 =>
if r9 ≤ 0 then
k_ (l3 + 1) l2 l1 (vkeys, vfirsts, vends, vvalues, vinferred, vgone, vmade)
else
k_ (l3 + 1) (l2 + 1) l1 (vkeys, vfirsts, vends, vvalues, vinferred, vgone, vmade)))
def f_X4_countGaps_L4 : Nat → Int32 → Int32 → Int32 → tV_ → Option (Int32)
  | 0 => fun _ _ _ _ => none
  | n + 1 => fun l3 l2 l1 V_ => f_X4_countGaps_S4 (f_X4_countGaps_L4 n) l3 l2 l1 V_
def f_X4_countGaps (a1 : Int32) (V_ : tV_) : Option (Int32) :=
match V_ with
| (vkeys, vfirsts, vends, vvalues, vinferred, vgone, vmade) =>
f_X4_countGaps_L4 fu_ (0 : Int32) (0 : Int32) a1 (vkeys, vfirsts, vends, vvalues, vinferred, vgone, vmade)
abbrev rm_X4_countGaps : Room := { frames := 5, cells := 0, slots := 0, locals := 111 }
set_option maxHeartbeats 4000000 in
set_option maxRecDepth 100000 in
theorem c_X4_countGaps (l : Launch) (dC : Nat → ClassId) (dI : Nat → Nat → Nat) (cI cZ cC cJ cD : ClassId) (v0 v_keys v_firsts v_ends v_values v_inferred v_gone : Nat) (sz : Nat) (vkeys : Nat → Int32) (vfirsts : Nat → Int32) (vends : Nat → Int32) (vvalues : Nat → Int32) (vinferred : Nat → Int32) (vgone : Nat → Int32) (vmade : Int32) (a1 : Int32) (R : Int32) (hf : f_X4_countGaps a1 (vkeys, vfirsts, vends, vvalues, vinferred, vgone, vmade) = some R) : Met l yX4_countGaps wsX4_countGaps rm_X4_countGaps (Pc_ (dC, dI) (ty_ cI cZ cC cJ cD) (wV_ v0 v_keys v_firsts v_ends v_values v_inferred v_gone cI cZ vkeys vfirsts vends vvalues vinferred vgone vmade) sz [.ref v0, .int a1]) (Qi_ (dC, dI) (ty_ cI cZ cC cJ cD) R (wV_ v0 v_keys v_firsts v_ends v_values v_inferred v_gone cI cZ vkeys vfirsts vends vvalues vinferred vgone vmade) (va_A (wV_ v0 v_keys v_firsts v_ends v_values v_inferred v_gone cI cZ vkeys vfirsts vends vvalues vinferred vgone vmade) sz)) 0 0 (va_A (wV_ v0 v_keys v_firsts v_ends v_values v_inferred v_gone cI cZ vkeys vfirsts vends vvalues vinferred vgone vmade) sz) := by
  refine met_ (cc := cX4_countGaps) (maxL := 4) (ret := (some .int)) (Qcf := fun A => Qi_ (dC, dI) (ty_ cI cZ cC cJ cD) R (wV_ v0 v_keys v_firsts v_ends v_values v_inferred v_gone cI cZ vkeys vfirsts vends vvalues vinferred vgone vmade) A) (by decide) rfl (Nat.le_of_ble_eq_true rfl) ?_
  intro p e s m args below meth c A ls hx hb hr hts hown hlocks hml hA hP hK hD hl
  have hown : s.vm.findClass RX4 = some m.cls := hown
  have hl : lv_has ls 4 [(0, .ref v0), (1, .int a1)] := hl
  have hS : va_S A s.heap s.heap [] := va_S.rf
  have fl31_ : (Cond.fieldLink RX4 31 "DimensionLoader$Versions" "made" "I").before args s = true := hts _ (List.mem_of_getElem? (i := 1) rfl)
  have inX4_ : ∀ w ∈ wsX40, w ∈ wsX4_countGaps := in_X4_countGaps_X4
  unfold f_X4_countGaps at hf
  dsimp only at hf
  refine lv_iconst (v := 0) hx hb dX4_countGaps_0 (by decide) ?_
  refine lv_istore_n (lv' := [(2, .int 0), (0, .ref v0), (1, .int a1)]) hx hb dX4_countGaps_1 rfl hl (by decide) rfl (fun ls hl => ?_)
  refine lv_iconst (v := 0) hx hb dX4_countGaps_2 (by decide) ?_
  refine lv_istore_n (lv' := [(3, .int 0), (2, .int 0), (0, .ref v0), (1, .int a1)]) hx hb dX4_countGaps_3 rfl hl (by decide) rfl (fun ls hl => ?_)
  have lp4 : ∀ (n : Nat) (l3 : Int32) (l2 : Int32) (l1 : Int32) (vkeys : Nat → Int32) (vfirsts : Nat → Int32) (vends : Nat → Int32) (vvalues : Nat → Int32) (vinferred : Nat → Int32) (vgone : Nat → Int32) (vmade : Int32) (H1 : Heap) (locs : List Loc) (ls : Array Slot), f_X4_countGaps_L4 n l3 l2 l1 (vkeys, vfirsts, vends, vvalues, vinferred, vgone, vmade) = some R → va_P (dC, dI) vwCl (wV_ v0 v_keys v_firsts v_ends v_values v_inferred v_gone cI cZ vkeys vfirsts vends vvalues vinferred vgone vmade) H1 → va_D A (wV_ v0 v_keys v_firsts v_ends v_values v_inferred v_gone cI cZ vkeys vfirsts vends vvalues vinferred vgone vmade) → va_S A s.heap H1 locs → lv_has ls 4 [(3, .int l3), (2, .int l2), (0, .ref v0), (1, .int l1)] → W p l e (headSpec wsX4_countGaps rm_X4_countGaps).room s m args below meth c H1 locs 0 0 (MQ below (Qi_ (dC, dI) (ty_ cI cZ cC cJ cD) R (wV_ v0 v_keys v_firsts v_ends v_values v_inferred v_gone cI cZ vkeys vfirsts vends vvalues vinferred vgone vmade) A) args s 0 0 A) (F0 m 4 ls []) := by
    intro n
    induction n with
    | zero => intro l3 l2 l1 vkeys vfirsts vends vvalues vinferred vgone vmade H1 locs ls hf hP hD hS hl; exact absurd hf (by simp [f_X4_countGaps_L4])
    | succ n ih =>
      intro l3 l2 l1 vkeys vfirsts vends vvalues vinferred vgone vmade H1 locs ls hf hP hD hS hl
      have hf : f_X4_countGaps_S4 (f_X4_countGaps_L4 n) l3 l2 l1 (vkeys, vfirsts, vends, vvalues, vinferred, vgone, vmade) = some R := hf
      unfold f_X4_countGaps_S4 at hf
      dsimp only at hf
      refine lv_iload_n hx hb dX4_countGaps_4 rfl (lv_at hl 0 rfl) ?_
      refine lv_aload_n hx hb dX4_countGaps_5 rfl (lv_at hl 2 rfl) ?_
      refine va_get (D := (dC, dI)) (ci := 6) (v := .int vmade) (C := RX4) (T := TX4) (N := 7) hx hb hts inX4_ hown hK hP 0 rfl rfl 6 (by decide) fl31_ (fun _ h9 => h9) rfl dX4_countGaps_6 ?_
      refine lv_icmp_ge (tgt := 38) hx hb dX4_countGaps_9 (by decide) (fun c2 => ?_) (fun c2 => ?_)
      · have hf := ite_T c2 hf
        refine lv_iload_n hx hb dX4_countGaps_38 rfl (lv_at hl 1 rfl) ?_
        have hR := Option.some.inj hf
        subst hR
        exact W.iret (v := l2) hx hb hr (fun t ht hW => ⟨⟨l2, (), rfl, rfl, by rw [ht]; exact hP, va_K.moved hW.alike hK, hD⟩, hS.F ht⟩) hS.2.2 dX4_countGaps_39
      · have hf := ite_F c2 hf
        refine lv_aload_n hx hb dX4_countGaps_12 rfl (lv_at hl 2 rfl) ?_
        refine lv_iload_n hx hb dX4_countGaps_13 rfl (lv_at hl 0 rfl) ?_
        refine lv_iload_n hx hb dX4_countGaps_14 rfl (lv_at hl 3 rfl) ?_
        obtain ⟨R4, g5, hf⟩ := bd_B hf
        obtain ⟨r3, rfl⟩ : ∃ z, z = R4 := ⟨_, rfl⟩
        have hPc := hP
        have hDc := hD
        have hFc := va_free (wc := wV_ v0 v_keys v_firsts v_ends v_values v_inferred v_gone cI cZ vkeys vfirsts vends vvalues vinferred vgone vmade) hD hS hA [0, 1, 2, 3, 4, 5, 6] rfl
        refine va_calli (va_runV (As := [.int l3, .int l1]) (rest := []) ⟨hx, hb, hml, hown, hts⟩ (c_X4_isOf l dC dI cI cZ cC cJ cD v0 v_keys v_firsts v_ends v_values v_inferred v_gone H1.size vkeys vfirsts vends vvalues vinferred vgone vmade l3 l1 r3 g5) (cwV 2 hts gX4_countGaps_X4_isOf rfl rfl rfl hs_X4_isOf ⟨Nat.le_of_ble_eq_true rfl, Nat.le_of_ble_eq_true rfl⟩) (preV_ (ci := 6) (q0 := 0) hPc hK hDc rfl rfl rfl rfl) rfl rfl hl.1 rfl (lv_room (Nat.le_of_ble_eq_true rfl)) dX4_countGaps_15 ⟨Nat.le_of_ble_eq_true rfl, Nat.le_of_ble_eq_true rfl⟩) hS (fun q _ h => hFc q h) hFc (fun z7 u t H6 locs ht hvm hw hB hz1 hk1 hS => ?_)
        have hw : r3 = z7 := hw.symm
        subst hw
        obtain ⟨hP, hD⟩ := aft_ (Wr := []) (Wc' := wV_ v0 v_keys v_firsts v_ends v_values v_inferred v_gone cI cZ vkeys vfirsts vends vvalues vinferred vgone vmade) (W2 := wV_ v0 v_keys v_firsts v_ends v_values v_inferred v_gone cI cZ vkeys vfirsts vends vvalues vinferred vgone vmade) hP hD [0, 1, 2, 3, 4, 5, 6] [] [0, 1, 2, 3, 4, 5, 6] rfl rfl (by decide) (by decide) (by decide) hk1 hFc hB ht rfl
        refine lv_if_eq (tgt := 32) hx hb dX4_countGaps_18 (by decide) (fun c8 => ?_) (fun c8 => ?_)
        · have hf := ite_T c8 hf
          refine lv_iinc (v := l3 + 1) (lv' := [(3, .int (l3 + 1)), (2, .int l2), (0, .ref v0), (1, .int l1)]) hx hb dX4_countGaps_32 hl (k := 0) rfl (by first | rfl | decide) (by decide) rfl (fun ls hl => ?_)
          refine lv_goto (tgt := 4) hx hb dX4_countGaps_35 (by decide) ?_
          exact ih (l3 + 1) l2 l1 vkeys vfirsts vends vvalues vinferred vgone vmade _ _ _ hf hP hD hS (lv_sub hl [0, 1, 2, 3] rfl)
        · have hf := ite_F c8 hf
          refine lv_aload_n hx hb dX4_countGaps_21 rfl (lv_at hl 2 rfl) ?_
          refine lv_iload_n hx hb dX4_countGaps_22 rfl (lv_at hl 0 rfl) ?_
          obtain ⟨R10, g11, hf⟩ := bd_B hf
          obtain ⟨r9, rfl⟩ : ∃ z, z = R10 := ⟨_, rfl⟩
          have hPc := hP
          have hDc := hD
          have hFc := va_free (wc := wV_ v0 v_keys v_firsts v_ends v_values v_inferred v_gone cI cZ vkeys vfirsts vends vvalues vinferred vgone vmade) hD hS hA [0, 1, 2, 3, 4, 5, 6] rfl
          refine va_calli (va_runV (As := [.int l3]) (rest := []) ⟨hx, hb, hml, hown, hts⟩ (c_X4_gapBehind l dC dI cI cZ cC cJ cD v0 v_keys v_firsts v_ends v_values v_inferred v_gone H6.size vkeys vfirsts vends vvalues vinferred vgone vmade l3 r9 g11) (cwV 1 hts gX4_countGaps_X4_gapBehind rfl rfl rfl hs_X4_gapBehind ⟨Nat.le_of_ble_eq_true rfl, Nat.le_of_ble_eq_true rfl⟩) (preV_ (ci := 6) (q0 := 0) hPc hK hDc rfl rfl rfl rfl) rfl rfl hl.1 rfl (lv_room (Nat.le_of_ble_eq_true rfl)) dX4_countGaps_23 ⟨Nat.le_of_ble_eq_true rfl, Nat.le_of_ble_eq_true rfl⟩) hS (fun q _ h => hFc q h) hFc (fun z13 u t H12 locs ht hvm hw hB hz1 hk1 hS => ?_)
          have hw : r9 = z13 := hw.symm
          subst hw
          obtain ⟨hP, hD⟩ := aft_ (Wr := []) (Wc' := wV_ v0 v_keys v_firsts v_ends v_values v_inferred v_gone cI cZ vkeys vfirsts vends vvalues vinferred vgone vmade) (W2 := wV_ v0 v_keys v_firsts v_ends v_values v_inferred v_gone cI cZ vkeys vfirsts vends vvalues vinferred vgone vmade) hP hD [0, 1, 2, 3, 4, 5, 6] [] [0, 1, 2, 3, 4, 5, 6] rfl rfl (by decide) (by decide) (by decide) hk1 hFc hB ht rfl
          refine lv_if_le (tgt := 32) hx hb dX4_countGaps_26 (by decide) (fun c14 => ?_) (fun c14 => ?_)
          · have hf := ite_T c14 hf
            refine lv_iinc (v := l3 + 1) (lv' := [(3, .int (l3 + 1)), (2, .int l2), (0, .ref v0), (1, .int l1)]) hx hb dX4_countGaps_32 hl (k := 0) rfl (by first | rfl | decide) (by decide) rfl (fun ls hl => ?_)
            refine lv_goto (tgt := 4) hx hb dX4_countGaps_35 (by decide) ?_
            exact ih (l3 + 1) l2 l1 vkeys vfirsts vends vvalues vinferred vgone vmade _ _ _ hf hP hD hS (lv_sub hl [0, 1, 2, 3] rfl)
          · have hf := ite_F c14 hf
            refine lv_iinc (v := l2 + 1) (lv' := [(2, .int (l2 + 1)), (3, .int l3), (0, .ref v0), (1, .int l1)]) hx hb dX4_countGaps_29 hl (k := 1) rfl (by first | rfl | decide) (by decide) rfl (fun ls hl => ?_)
            refine lv_iinc (v := l3 + 1) (lv' := [(3, .int (l3 + 1)), (2, .int (l2 + 1)), (0, .ref v0), (1, .int l1)]) hx hb dX4_countGaps_32 hl (k := 1) rfl (by first | rfl | decide) (by decide) rfl (fun ls hl => ?_)
            refine lv_goto (tgt := 4) hx hb dX4_countGaps_35 (by decide) ?_
            exact ih (l3 + 1) (l2 + 1) l1 vkeys vfirsts vends vvalues vinferred vgone vmade _ _ _ hf hP hD hS (lv_sub hl [0, 1, 2, 3] rfl)
  exact lp4 fu_ (0 : Int32) (0 : Int32) a1 vkeys vfirsts vends vvalues vinferred vgone vmade _ _ _ hf hP hD hS hl
theorem hs_X4_countGaps : yX4_countGaps.cls = RX4 ∧ yX4_countGaps.cls ≠ "java/lang/invoke/MethodHandle" ∧ yX4_countGaps.cls ≠ "java/lang/invoke/VarHandle" ∧ (parseMethodDescriptor yX4_countGaps.desc).map (fun d => d.parameters.length) = some 1 := by decide +kernel
set_option maxRecDepth 20000 in
theorem in_X4_aheadOfGap_X4 : ∀ w ∈ wsX40, w ∈ wsX4_aheadOfGap := by decide +kernel
def f_X4_aheadOfGap_S13 (k_ : Int32 → Int32 → Int32 → Int32 → Int32 → tV_ → Option (Int32)) (l5 : Int32) (l4 : Int32) (l3 : Int32) (l1 : Int32) (l2 : Int32) (V_ : tV_) : Option (Int32) :=
match V_ with
| (vkeys, vfirsts, vends, vvalues, vinferred, vgone, vmade) =>
if vmade ≤ l5 then
some (-1 : Int32)
else
if l4 = (-1) then
some (-1 : Int32)
else
bd_ (f_X4_gapBehind l4 (vkeys, vfirsts, vends, vvalues, vinferred, vgone, vmade)) (fun r9 =>
if r9 ≤ 0 then
gd_ l4 60 (
bd_ (f_X4_next l1 (vfirsts l4.toNatClampNeg) (vkeys, vfirsts, vends, vvalues, vinferred, vgone, vmade)) (fun r16 =>
k_ (l5 + 1) r16 l3 l1 l2 (vkeys, vfirsts, vends, vvalues, vinferred, vgone, vmade)))
else
if l3 = l2 then
some l4
else
gd_ l4 60 (
bd_ (f_X4_next l1 (vfirsts l4.toNatClampNeg) (vkeys, vfirsts, vends, vvalues, vinferred, vgone, vmade)) (fun r23 =>
k_ (l5 + 1) r23 (l3 + 1) l1 l2 (vkeys, vfirsts, vends, vvalues, vinferred, vgone, vmade))))
def f_X4_aheadOfGap_L13 : Nat → Int32 → Int32 → Int32 → Int32 → Int32 → tV_ → Option (Int32)
  | 0 => fun _ _ _ _ _ _ => none
  | n + 1 => fun l5 l4 l3 l1 l2 V_ => f_X4_aheadOfGap_S13 (f_X4_aheadOfGap_L13 n) l5 l4 l3 l1 l2 V_
def f_X4_aheadOfGap (a1 : Int32) (a2 : Int32) (V_ : tV_) : Option (Int32) :=
match V_ with
| (vkeys, vfirsts, vends, vvalues, vinferred, vgone, vmade) =>
bd_ (f_X4_next a1 (-1 : Int32) (vkeys, vfirsts, vends, vvalues, vinferred, vgone, vmade)) (fun r1 =>
f_X4_aheadOfGap_L13 fu_ (0 : Int32) r1 (0 : Int32) a1 a2 (vkeys, vfirsts, vends, vvalues, vinferred, vgone, vmade))
abbrev rm_X4_aheadOfGap : Room := { frames := 5, cells := 0, slots := 0, locals := 111 }
set_option maxHeartbeats 4000000 in
set_option maxRecDepth 100000 in
theorem c_X4_aheadOfGap (l : Launch) (dC : Nat → ClassId) (dI : Nat → Nat → Nat) (cI cZ cC cJ cD : ClassId) (v0 v_keys v_firsts v_ends v_values v_inferred v_gone : Nat) (sz : Nat) (vkeys : Nat → Int32) (vfirsts : Nat → Int32) (vends : Nat → Int32) (vvalues : Nat → Int32) (vinferred : Nat → Int32) (vgone : Nat → Int32) (vmade : Int32) (a1 : Int32) (a2 : Int32) (R : Int32) (hf : f_X4_aheadOfGap a1 a2 (vkeys, vfirsts, vends, vvalues, vinferred, vgone, vmade) = some R) : Met l yX4_aheadOfGap wsX4_aheadOfGap rm_X4_aheadOfGap (Pc_ (dC, dI) (ty_ cI cZ cC cJ cD) (wV_ v0 v_keys v_firsts v_ends v_values v_inferred v_gone cI cZ vkeys vfirsts vends vvalues vinferred vgone vmade) sz [.ref v0, .int a1, .int a2]) (Qi_ (dC, dI) (ty_ cI cZ cC cJ cD) R (wV_ v0 v_keys v_firsts v_ends v_values v_inferred v_gone cI cZ vkeys vfirsts vends vvalues vinferred vgone vmade) (va_A (wV_ v0 v_keys v_firsts v_ends v_values v_inferred v_gone cI cZ vkeys vfirsts vends vvalues vinferred vgone vmade) sz)) 0 0 (va_A (wV_ v0 v_keys v_firsts v_ends v_values v_inferred v_gone cI cZ vkeys vfirsts vends vvalues vinferred vgone vmade) sz) := by
  refine met_ (cc := cX4_aheadOfGap) (maxL := 6) (ret := (some .int)) (Qcf := fun A => Qi_ (dC, dI) (ty_ cI cZ cC cJ cD) R (wV_ v0 v_keys v_firsts v_ends v_values v_inferred v_gone cI cZ vkeys vfirsts vends vvalues vinferred vgone vmade) A) (by decide) rfl (Nat.le_of_ble_eq_true rfl) ?_
  intro p e s m args below meth c A ls hx hb hr hts hown hlocks hml hA hP hK hD hl
  have hown : s.vm.findClass RX4 = some m.cls := hown
  have hl : lv_has ls 6 [(0, .ref v0), (1, .int a1), (2, .int a2)] := hl
  have hS : va_S A s.heap s.heap [] := va_S.rf
  have fl15_ : (Cond.fieldLink RX4 15 "DimensionLoader$Versions" "firsts" "[I").before args s = true := hts _ (List.mem_of_getElem? (i := 2) rfl)
  have fl31_ : (Cond.fieldLink RX4 31 "DimensionLoader$Versions" "made" "I").before args s = true := hts _ (List.mem_of_getElem? (i := 1) rfl)
  have inX4_ : ∀ w ∈ wsX40, w ∈ wsX4_aheadOfGap := in_X4_aheadOfGap_X4
  unfold f_X4_aheadOfGap at hf
  dsimp only at hf
  refine lv_iconst (v := 0) hx hb dX4_aheadOfGap_0 (by decide) ?_
  refine lv_istore_n (lv' := [(3, .int 0), (0, .ref v0), (1, .int a1), (2, .int a2)]) hx hb dX4_aheadOfGap_1 rfl hl (by decide) rfl (fun ls hl => ?_)
  refine lv_aload_n hx hb dX4_aheadOfGap_2 rfl (lv_at hl 1 rfl) ?_
  refine lv_iload_n hx hb dX4_aheadOfGap_3 rfl (lv_at hl 2 rfl) ?_
  refine lv_iconst (v := (-1)) hx hb dX4_aheadOfGap_4 (by decide) ?_
  obtain ⟨R2, g3, hf⟩ := bd_B hf
  obtain ⟨r1, rfl⟩ : ∃ z, z = R2 := ⟨_, rfl⟩
  have hPc := hP
  have hDc := hD
  have hFc := va_free (wc := wV_ v0 v_keys v_firsts v_ends v_values v_inferred v_gone cI cZ vkeys vfirsts vends vvalues vinferred vgone vmade) hD hS hA [0, 1, 2, 3, 4, 5, 6] rfl
  refine va_calli (va_runV (As := [.int a1, .int (-1)]) (rest := []) ⟨hx, hb, hml, hown, hts⟩ (c_X4_next l dC dI cI cZ cC cJ cD v0 v_keys v_firsts v_ends v_values v_inferred v_gone s.heap.size vkeys vfirsts vends vvalues vinferred vgone vmade a1 (-1 : Int32) r1 g3) (cwV 2 hts gX4_aheadOfGap_X4_next rfl rfl rfl hs_X4_next ⟨Nat.le_of_ble_eq_true rfl, Nat.le_of_ble_eq_true rfl⟩) (preV_ (ci := 6) (q0 := 0) hPc hK hDc rfl rfl rfl rfl) rfl rfl hl.1 rfl (lv_room (Nat.le_of_ble_eq_true rfl)) dX4_aheadOfGap_5 ⟨Nat.le_of_ble_eq_true rfl, Nat.le_of_ble_eq_true rfl⟩) hS (fun q _ h => hFc q h) hFc (fun z5 u t H4 locs ht hvm hw hB hz1 hk1 hS => ?_)
  have hw : r1 = z5 := hw.symm
  subst hw
  obtain ⟨hP, hD⟩ := aft_ (Wr := []) (Wc' := wV_ v0 v_keys v_firsts v_ends v_values v_inferred v_gone cI cZ vkeys vfirsts vends vvalues vinferred vgone vmade) (W2 := wV_ v0 v_keys v_firsts v_ends v_values v_inferred v_gone cI cZ vkeys vfirsts vends vvalues vinferred vgone vmade) hP hD [0, 1, 2, 3, 4, 5, 6] [] [0, 1, 2, 3, 4, 5, 6] rfl rfl (by decide) (by decide) (by decide) hk1 hFc hB ht rfl
  refine lv_istore (lv' := [(4, .int r1), (3, .int 0), (0, .ref v0), (1, .int a1), (2, .int a2)]) hx hb dX4_aheadOfGap_8 hl (by decide) rfl (fun ls hl => ?_)
  refine lv_iconst (v := 0) hx hb dX4_aheadOfGap_10 (by decide) ?_
  refine lv_istore (lv' := [(5, .int 0), (4, .int r1), (3, .int 0), (0, .ref v0), (1, .int a1), (2, .int a2)]) hx hb dX4_aheadOfGap_11 hl (by decide) rfl (fun ls hl => ?_)
  have lp13 : ∀ (n : Nat) (l5 : Int32) (l4 : Int32) (l3 : Int32) (l1 : Int32) (l2 : Int32) (vkeys : Nat → Int32) (vfirsts : Nat → Int32) (vends : Nat → Int32) (vvalues : Nat → Int32) (vinferred : Nat → Int32) (vgone : Nat → Int32) (vmade : Int32) (H6 : Heap) (locs : List Loc) (ls : Array Slot), f_X4_aheadOfGap_L13 n l5 l4 l3 l1 l2 (vkeys, vfirsts, vends, vvalues, vinferred, vgone, vmade) = some R → va_P (dC, dI) vwCl (wV_ v0 v_keys v_firsts v_ends v_values v_inferred v_gone cI cZ vkeys vfirsts vends vvalues vinferred vgone vmade) H6 → va_D A (wV_ v0 v_keys v_firsts v_ends v_values v_inferred v_gone cI cZ vkeys vfirsts vends vvalues vinferred vgone vmade) → va_S A s.heap H6 locs → lv_has ls 6 [(5, .int l5), (4, .int l4), (3, .int l3), (0, .ref v0), (1, .int l1), (2, .int l2)] → W p l e (headSpec wsX4_aheadOfGap rm_X4_aheadOfGap).room s m args below meth c H6 locs 0 0 (MQ below (Qi_ (dC, dI) (ty_ cI cZ cC cJ cD) R (wV_ v0 v_keys v_firsts v_ends v_values v_inferred v_gone cI cZ vkeys vfirsts vends vvalues vinferred vgone vmade) A) args s 0 0 A) (F0 m 13 ls []) := by
    intro n
    induction n with
    | zero => intro l5 l4 l3 l1 l2 vkeys vfirsts vends vvalues vinferred vgone vmade H6 locs ls hf hP hD hS hl; exact absurd hf (by simp [f_X4_aheadOfGap_L13])
    | succ n ih =>
      intro l5 l4 l3 l1 l2 vkeys vfirsts vends vvalues vinferred vgone vmade H6 locs ls hf hP hD hS hl
      have hf : f_X4_aheadOfGap_S13 (f_X4_aheadOfGap_L13 n) l5 l4 l3 l1 l2 (vkeys, vfirsts, vends, vvalues, vinferred, vgone, vmade) = some R := hf
      unfold f_X4_aheadOfGap_S13 at hf
      dsimp only at hf
      refine lv_iload hx hb dX4_aheadOfGap_13 (lv_at hl 0 rfl) ?_
      refine lv_aload_n hx hb dX4_aheadOfGap_15 rfl (lv_at hl 3 rfl) ?_
      refine va_get (D := (dC, dI)) (ci := 6) (v := .int vmade) (C := RX4) (T := TX4) (N := 7) hx hb hts inX4_ hown hK hP 0 rfl rfl 6 (by decide) fl31_ (fun _ h9 => h9) rfl dX4_aheadOfGap_16 ?_
      refine lv_icmp_ge (tgt := 68) hx hb dX4_aheadOfGap_19 (by decide) (fun c7 => ?_) (fun c7 => ?_)
      · have hf := ite_T c7 hf
        refine lv_iconst (v := (-1)) hx hb dX4_aheadOfGap_68 (by decide) ?_
        have hR := Option.some.inj hf
        subst hR
        exact W.iret (v := (-1 : Int32)) hx hb hr (fun t ht hW => ⟨⟨(-1 : Int32), (), rfl, rfl, by rw [ht]; exact hP, va_K.moved hW.alike hK, hD⟩, hS.F ht⟩) hS.2.2 dX4_aheadOfGap_69
      · have hf := ite_F c7 hf
        refine lv_iload hx hb dX4_aheadOfGap_22 (lv_at hl 1 rfl) ?_
        refine lv_iconst (v := (-1)) hx hb dX4_aheadOfGap_24 (by decide) ?_
        refine lv_icmp_eq (tgt := 68) hx hb dX4_aheadOfGap_25 (by decide) (fun c8 => ?_) (fun c8 => ?_)
        · have hf := ite_T c8 hf
          refine lv_iconst (v := (-1)) hx hb dX4_aheadOfGap_68 (by decide) ?_
          have hR := Option.some.inj hf
          subst hR
          exact W.iret (v := (-1 : Int32)) hx hb hr (fun t ht hW => ⟨⟨(-1 : Int32), (), rfl, rfl, by rw [ht]; exact hP, va_K.moved hW.alike hK, hD⟩, hS.F ht⟩) hS.2.2 dX4_aheadOfGap_69
        · have hf := ite_F c8 hf
          refine lv_aload_n hx hb dX4_aheadOfGap_28 rfl (lv_at hl 3 rfl) ?_
          refine lv_iload hx hb dX4_aheadOfGap_29 (lv_at hl 1 rfl) ?_
          obtain ⟨R10, g11, hf⟩ := bd_B hf
          obtain ⟨r9, rfl⟩ : ∃ z, z = R10 := ⟨_, rfl⟩
          have hPc := hP
          have hDc := hD
          have hFc := va_free (wc := wV_ v0 v_keys v_firsts v_ends v_values v_inferred v_gone cI cZ vkeys vfirsts vends vvalues vinferred vgone vmade) hD hS hA [0, 1, 2, 3, 4, 5, 6] rfl
          refine va_calli (va_runV (As := [.int l4]) (rest := []) ⟨hx, hb, hml, hown, hts⟩ (c_X4_gapBehind l dC dI cI cZ cC cJ cD v0 v_keys v_firsts v_ends v_values v_inferred v_gone H6.size vkeys vfirsts vends vvalues vinferred vgone vmade l4 r9 g11) (cwV 1 hts gX4_aheadOfGap_X4_gapBehind rfl rfl rfl hs_X4_gapBehind ⟨Nat.le_of_ble_eq_true rfl, Nat.le_of_ble_eq_true rfl⟩) (preV_ (ci := 6) (q0 := 0) hPc hK hDc rfl rfl rfl rfl) rfl rfl hl.1 rfl (lv_room (Nat.le_of_ble_eq_true rfl)) dX4_aheadOfGap_31 ⟨Nat.le_of_ble_eq_true rfl, Nat.le_of_ble_eq_true rfl⟩) hS (fun q _ h => hFc q h) hFc (fun z13 u t H12 locs ht hvm hw hB hz1 hk1 hS => ?_)
          have hw : r9 = z13 := hw.symm
          subst hw
          obtain ⟨hP, hD⟩ := aft_ (Wr := []) (Wc' := wV_ v0 v_keys v_firsts v_ends v_values v_inferred v_gone cI cZ vkeys vfirsts vends vvalues vinferred vgone vmade) (W2 := wV_ v0 v_keys v_firsts v_ends v_values v_inferred v_gone cI cZ vkeys vfirsts vends vvalues vinferred vgone vmade) hP hD [0, 1, 2, 3, 4, 5, 6] [] [0, 1, 2, 3, 4, 5, 6] rfl rfl (by decide) (by decide) (by decide) hk1 hFc hB ht rfl
          refine lv_if_le (tgt := 48) hx hb dX4_aheadOfGap_34 (by decide) (fun c14 => ?_) (fun c14 => ?_)
          · have hf := ite_T c14 hf
            refine lv_aload_n hx hb dX4_aheadOfGap_48 rfl (lv_at hl 3 rfl) ?_
            refine lv_iload_n hx hb dX4_aheadOfGap_49 rfl (lv_at hl 4 rfl) ?_
            refine lv_aload_n hx hb dX4_aheadOfGap_50 rfl (lv_at hl 3 rfl) ?_
            refine va_get (D := (dC, dI)) (ci := 6) (v := .ref v_firsts) (C := RX4) (T := TX4) (N := 7) hx hb hts inX4_ hown hK hP 0 rfl rfl 1 (by decide) fl15_ (fun _ h9 => h9) rfl dX4_aheadOfGap_51 ?_
            refine lv_iload hx hb dX4_aheadOfGap_54 (lv_at hl 1 rfl) ?_
            obtain ⟨h15, hf⟩ := gd_T hf
            refine va_iald hx hb hK hP 2 0 rfl rfl h15 dX4_aheadOfGap_56 ?_
            obtain ⟨R17, g18, hf⟩ := bd_B hf
            obtain ⟨r16, rfl⟩ : ∃ z, z = R17 := ⟨_, rfl⟩
            have hPc := hP
            have hDc := hD
            have hFc := va_free (wc := wV_ v0 v_keys v_firsts v_ends v_values v_inferred v_gone cI cZ vkeys vfirsts vends vvalues vinferred vgone vmade) hD hS hA [0, 1, 2, 3, 4, 5, 6] rfl
            refine va_calli (va_runV (As := [.int l1, .int (vfirsts l4.toNatClampNeg)]) (rest := []) ⟨hx, hb, hml, hown, hts⟩ (c_X4_next l dC dI cI cZ cC cJ cD v0 v_keys v_firsts v_ends v_values v_inferred v_gone H12.size vkeys vfirsts vends vvalues vinferred vgone vmade l1 (vfirsts l4.toNatClampNeg) r16 g18) (cwV 2 hts gX4_aheadOfGap_X4_next rfl rfl rfl hs_X4_next ⟨Nat.le_of_ble_eq_true rfl, Nat.le_of_ble_eq_true rfl⟩) (preV_ (ci := 6) (q0 := 0) hPc hK hDc rfl rfl rfl rfl) rfl rfl hl.1 rfl (lv_room (Nat.le_of_ble_eq_true rfl)) dX4_aheadOfGap_57 ⟨Nat.le_of_ble_eq_true rfl, Nat.le_of_ble_eq_true rfl⟩) hS (fun q _ h => hFc q h) hFc (fun z20 u t H19 locs ht hvm hw hB hz1 hk1 hS => ?_)
            have hw : r16 = z20 := hw.symm
            subst hw
            obtain ⟨hP, hD⟩ := aft_ (Wr := []) (Wc' := wV_ v0 v_keys v_firsts v_ends v_values v_inferred v_gone cI cZ vkeys vfirsts vends vvalues vinferred vgone vmade) (W2 := wV_ v0 v_keys v_firsts v_ends v_values v_inferred v_gone cI cZ vkeys vfirsts vends vvalues vinferred vgone vmade) hP hD [0, 1, 2, 3, 4, 5, 6] [] [0, 1, 2, 3, 4, 5, 6] rfl rfl (by decide) (by decide) (by decide) hk1 hFc hB ht rfl
            refine lv_istore (lv' := [(4, .int r16), (5, .int l5), (3, .int l3), (0, .ref v0), (1, .int l1), (2, .int l2)]) hx hb dX4_aheadOfGap_60 hl (by decide) rfl (fun ls hl => ?_)
            refine lv_iinc (v := l5 + 1) (lv' := [(5, .int (l5 + 1)), (4, .int r16), (3, .int l3), (0, .ref v0), (1, .int l1), (2, .int l2)]) hx hb dX4_aheadOfGap_62 hl (k := 1) rfl (by first | rfl | decide) (by decide) rfl (fun ls hl => ?_)
            refine lv_goto (tgt := 13) hx hb dX4_aheadOfGap_65 (by decide) ?_
            exact ih (l5 + 1) r16 l3 l1 l2 vkeys vfirsts vends vvalues vinferred vgone vmade _ _ _ hf hP hD hS (lv_sub hl [0, 1, 2, 3, 4, 5] rfl)
          · have hf := ite_F c14 hf
            refine lv_iload_n hx hb dX4_aheadOfGap_37 rfl (lv_at hl 2 rfl) ?_
            refine lv_iload_n hx hb dX4_aheadOfGap_38 rfl (lv_at hl 5 rfl) ?_
            refine lv_icmp_ne (tgt := 45) hx hb dX4_aheadOfGap_39 (by decide) (fun c21 => ?_) (fun c21 => ?_)
            · have hf := ite_F c21 hf
              refine lv_iinc (v := l3 + 1) (lv' := [(3, .int (l3 + 1)), (5, .int l5), (4, .int l4), (0, .ref v0), (1, .int l1), (2, .int l2)]) hx hb dX4_aheadOfGap_45 hl (k := 2) rfl (by first | rfl | decide) (by decide) rfl (fun ls hl => ?_)
              refine lv_aload_n hx hb dX4_aheadOfGap_48 rfl (lv_at hl 3 rfl) ?_
              refine lv_iload_n hx hb dX4_aheadOfGap_49 rfl (lv_at hl 4 rfl) ?_
              refine lv_aload_n hx hb dX4_aheadOfGap_50 rfl (lv_at hl 3 rfl) ?_
              refine va_get (D := (dC, dI)) (ci := 6) (v := .ref v_firsts) (C := RX4) (T := TX4) (N := 7) hx hb hts inX4_ hown hK hP 0 rfl rfl 1 (by decide) fl15_ (fun _ h9 => h9) rfl dX4_aheadOfGap_51 ?_
              refine lv_iload hx hb dX4_aheadOfGap_54 (lv_at hl 2 rfl) ?_
              obtain ⟨h22, hf⟩ := gd_T hf
              refine va_iald hx hb hK hP 2 0 rfl rfl h22 dX4_aheadOfGap_56 ?_
              obtain ⟨R24, g25, hf⟩ := bd_B hf
              obtain ⟨r23, rfl⟩ : ∃ z, z = R24 := ⟨_, rfl⟩
              have hPc := hP
              have hDc := hD
              have hFc := va_free (wc := wV_ v0 v_keys v_firsts v_ends v_values v_inferred v_gone cI cZ vkeys vfirsts vends vvalues vinferred vgone vmade) hD hS hA [0, 1, 2, 3, 4, 5, 6] rfl
              refine va_calli (va_runV (As := [.int l1, .int (vfirsts l4.toNatClampNeg)]) (rest := []) ⟨hx, hb, hml, hown, hts⟩ (c_X4_next l dC dI cI cZ cC cJ cD v0 v_keys v_firsts v_ends v_values v_inferred v_gone H12.size vkeys vfirsts vends vvalues vinferred vgone vmade l1 (vfirsts l4.toNatClampNeg) r23 g25) (cwV 2 hts gX4_aheadOfGap_X4_next rfl rfl rfl hs_X4_next ⟨Nat.le_of_ble_eq_true rfl, Nat.le_of_ble_eq_true rfl⟩) (preV_ (ci := 6) (q0 := 0) hPc hK hDc rfl rfl rfl rfl) rfl rfl hl.1 rfl (lv_room (Nat.le_of_ble_eq_true rfl)) dX4_aheadOfGap_57 ⟨Nat.le_of_ble_eq_true rfl, Nat.le_of_ble_eq_true rfl⟩) hS (fun q _ h => hFc q h) hFc (fun z27 u t H26 locs ht hvm hw hB hz1 hk1 hS => ?_)
              have hw : r23 = z27 := hw.symm
              subst hw
              obtain ⟨hP, hD⟩ := aft_ (Wr := []) (Wc' := wV_ v0 v_keys v_firsts v_ends v_values v_inferred v_gone cI cZ vkeys vfirsts vends vvalues vinferred vgone vmade) (W2 := wV_ v0 v_keys v_firsts v_ends v_values v_inferred v_gone cI cZ vkeys vfirsts vends vvalues vinferred vgone vmade) hP hD [0, 1, 2, 3, 4, 5, 6] [] [0, 1, 2, 3, 4, 5, 6] rfl rfl (by decide) (by decide) (by decide) hk1 hFc hB ht rfl
              refine lv_istore (lv' := [(4, .int r23), (3, .int (l3 + 1)), (5, .int l5), (0, .ref v0), (1, .int l1), (2, .int l2)]) hx hb dX4_aheadOfGap_60 hl (by decide) rfl (fun ls hl => ?_)
              refine lv_iinc (v := l5 + 1) (lv' := [(5, .int (l5 + 1)), (4, .int r23), (3, .int (l3 + 1)), (0, .ref v0), (1, .int l1), (2, .int l2)]) hx hb dX4_aheadOfGap_62 hl (k := 2) rfl (by first | rfl | decide) (by decide) rfl (fun ls hl => ?_)
              refine lv_goto (tgt := 13) hx hb dX4_aheadOfGap_65 (by decide) ?_
              exact ih (l5 + 1) r23 (l3 + 1) l1 l2 vkeys vfirsts vends vvalues vinferred vgone vmade _ _ _ hf hP hD hS (lv_sub hl [0, 1, 2, 3, 4, 5] rfl)
            · have hf := ite_T c21 hf
              refine lv_iload hx hb dX4_aheadOfGap_42 (lv_at hl 1 rfl) ?_
              have hR := Option.some.inj hf
              subst hR
              exact W.iret (v := l4) hx hb hr (fun t ht hW => ⟨⟨l4, (), rfl, rfl, by rw [ht]; exact hP, va_K.moved hW.alike hK, hD⟩, hS.F ht⟩) hS.2.2 dX4_aheadOfGap_44
  exact lp13 fu_ (0 : Int32) r1 (0 : Int32) a1 a2 vkeys vfirsts vends vvalues vinferred vgone vmade _ _ _ hf hP hD hS hl
theorem hs_X4_aheadOfGap : yX4_aheadOfGap.cls = RX4 ∧ yX4_aheadOfGap.cls ≠ "java/lang/invoke/MethodHandle" ∧ yX4_aheadOfGap.cls ≠ "java/lang/invoke/VarHandle" ∧ (parseMethodDescriptor yX4_aheadOfGap.desc).map (fun d => d.parameters.length) = some 2 := by decide +kernel
set_option maxRecDepth 20000 in
theorem in_X4_sumDays_X4 : ∀ w ∈ wsX40, w ∈ wsX4_sumDays := by decide +kernel
def f_X4_sumDays_S4 (k_ : Int32 → Int32 → Int32 → tV_ → Option (Int32)) (l3 : Int32) (l2 : Int32) (l1 : Int32) (V_ : tV_) : Option (Int32) :=
match V_ with
| (vkeys, vfirsts, vends, vvalues, vinferred, vgone, vmade) =>
if vmade ≤ l3 then
some l2
else
bd_ (f_X4_isOf l3 l1 (vkeys, vfirsts, vends, vvalues, vinferred, vgone, vmade)) (fun r3 =>
if r3 = 0 then
k_ (l3 + 1) l2 l1 (vkeys, vfirsts, vends, vvalues, vinferred, vgone, vmade)
else
bd_ (f_X4_days l3 (vkeys, vfirsts, vends, vvalues, vinferred, vgone, vmade)) (fun r9 =>
k_ (l3 + 1) (l2 + r9) l1 (vkeys, vfirsts, vends, vvalues, vinferred, vgone, vmade)))
def f_X4_sumDays_L4 : Nat → Int32 → Int32 → Int32 → tV_ → Option (Int32)
  | 0 => fun _ _ _ _ => none
  | n + 1 => fun l3 l2 l1 V_ => f_X4_sumDays_S4 (f_X4_sumDays_L4 n) l3 l2 l1 V_
def f_X4_sumDays (a1 : Int32) (V_ : tV_) : Option (Int32) :=
match V_ with
| (vkeys, vfirsts, vends, vvalues, vinferred, vgone, vmade) =>
f_X4_sumDays_L4 fu_ (0 : Int32) (0 : Int32) a1 (vkeys, vfirsts, vends, vvalues, vinferred, vgone, vmade)
abbrev rm_X4_sumDays : Room := { frames := 2, cells := 0, slots := 0, locals := 43 }
set_option maxHeartbeats 4000000 in
set_option maxRecDepth 100000 in
theorem c_X4_sumDays (l : Launch) (dC : Nat → ClassId) (dI : Nat → Nat → Nat) (cI cZ cC cJ cD : ClassId) (v0 v_keys v_firsts v_ends v_values v_inferred v_gone : Nat) (sz : Nat) (vkeys : Nat → Int32) (vfirsts : Nat → Int32) (vends : Nat → Int32) (vvalues : Nat → Int32) (vinferred : Nat → Int32) (vgone : Nat → Int32) (vmade : Int32) (a1 : Int32) (R : Int32) (hf : f_X4_sumDays a1 (vkeys, vfirsts, vends, vvalues, vinferred, vgone, vmade) = some R) : Met l yX4_sumDays wsX4_sumDays rm_X4_sumDays (Pc_ (dC, dI) (ty_ cI cZ cC cJ cD) (wV_ v0 v_keys v_firsts v_ends v_values v_inferred v_gone cI cZ vkeys vfirsts vends vvalues vinferred vgone vmade) sz [.ref v0, .int a1]) (Qi_ (dC, dI) (ty_ cI cZ cC cJ cD) R (wV_ v0 v_keys v_firsts v_ends v_values v_inferred v_gone cI cZ vkeys vfirsts vends vvalues vinferred vgone vmade) (va_A (wV_ v0 v_keys v_firsts v_ends v_values v_inferred v_gone cI cZ vkeys vfirsts vends vvalues vinferred vgone vmade) sz)) 0 0 (va_A (wV_ v0 v_keys v_firsts v_ends v_values v_inferred v_gone cI cZ vkeys vfirsts vends vvalues vinferred vgone vmade) sz) := by
  refine met_ (cc := cX4_sumDays) (maxL := 4) (ret := (some .int)) (Qcf := fun A => Qi_ (dC, dI) (ty_ cI cZ cC cJ cD) R (wV_ v0 v_keys v_firsts v_ends v_values v_inferred v_gone cI cZ vkeys vfirsts vends vvalues vinferred vgone vmade) A) (by decide) rfl (Nat.le_of_ble_eq_true rfl) ?_
  intro p e s m args below meth c A ls hx hb hr hts hown hlocks hml hA hP hK hD hl
  have hown : s.vm.findClass RX4 = some m.cls := hown
  have hl : lv_has ls 4 [(0, .ref v0), (1, .int a1)] := hl
  have hS : va_S A s.heap s.heap [] := va_S.rf
  have fl31_ : (Cond.fieldLink RX4 31 "DimensionLoader$Versions" "made" "I").before args s = true := hts _ (List.mem_of_getElem? (i := 1) rfl)
  have inX4_ : ∀ w ∈ wsX40, w ∈ wsX4_sumDays := in_X4_sumDays_X4
  unfold f_X4_sumDays at hf
  dsimp only at hf
  refine lv_iconst (v := 0) hx hb dX4_sumDays_0 (by decide) ?_
  refine lv_istore_n (lv' := [(2, .int 0), (0, .ref v0), (1, .int a1)]) hx hb dX4_sumDays_1 rfl hl (by decide) rfl (fun ls hl => ?_)
  refine lv_iconst (v := 0) hx hb dX4_sumDays_2 (by decide) ?_
  refine lv_istore_n (lv' := [(3, .int 0), (2, .int 0), (0, .ref v0), (1, .int a1)]) hx hb dX4_sumDays_3 rfl hl (by decide) rfl (fun ls hl => ?_)
  have lp4 : ∀ (n : Nat) (l3 : Int32) (l2 : Int32) (l1 : Int32) (vkeys : Nat → Int32) (vfirsts : Nat → Int32) (vends : Nat → Int32) (vvalues : Nat → Int32) (vinferred : Nat → Int32) (vgone : Nat → Int32) (vmade : Int32) (H1 : Heap) (locs : List Loc) (ls : Array Slot), f_X4_sumDays_L4 n l3 l2 l1 (vkeys, vfirsts, vends, vvalues, vinferred, vgone, vmade) = some R → va_P (dC, dI) vwCl (wV_ v0 v_keys v_firsts v_ends v_values v_inferred v_gone cI cZ vkeys vfirsts vends vvalues vinferred vgone vmade) H1 → va_D A (wV_ v0 v_keys v_firsts v_ends v_values v_inferred v_gone cI cZ vkeys vfirsts vends vvalues vinferred vgone vmade) → va_S A s.heap H1 locs → lv_has ls 4 [(3, .int l3), (2, .int l2), (0, .ref v0), (1, .int l1)] → W p l e (headSpec wsX4_sumDays rm_X4_sumDays).room s m args below meth c H1 locs 0 0 (MQ below (Qi_ (dC, dI) (ty_ cI cZ cC cJ cD) R (wV_ v0 v_keys v_firsts v_ends v_values v_inferred v_gone cI cZ vkeys vfirsts vends vvalues vinferred vgone vmade) A) args s 0 0 A) (F0 m 4 ls []) := by
    intro n
    induction n with
    | zero => intro l3 l2 l1 vkeys vfirsts vends vvalues vinferred vgone vmade H1 locs ls hf hP hD hS hl; exact absurd hf (by simp [f_X4_sumDays_L4])
    | succ n ih =>
      intro l3 l2 l1 vkeys vfirsts vends vvalues vinferred vgone vmade H1 locs ls hf hP hD hS hl
      have hf : f_X4_sumDays_S4 (f_X4_sumDays_L4 n) l3 l2 l1 (vkeys, vfirsts, vends, vvalues, vinferred, vgone, vmade) = some R := hf
      unfold f_X4_sumDays_S4 at hf
      dsimp only at hf
      refine lv_iload_n hx hb dX4_sumDays_4 rfl (lv_at hl 0 rfl) ?_
      refine lv_aload_n hx hb dX4_sumDays_5 rfl (lv_at hl 2 rfl) ?_
      refine va_get (D := (dC, dI)) (ci := 6) (v := .int vmade) (C := RX4) (T := TX4) (N := 7) hx hb hts inX4_ hown hK hP 0 rfl rfl 6 (by decide) fl31_ (fun _ h9 => h9) rfl dX4_sumDays_6 ?_
      refine lv_icmp_ge (tgt := 35) hx hb dX4_sumDays_9 (by decide) (fun c2 => ?_) (fun c2 => ?_)
      · have hf := ite_T c2 hf
        refine lv_iload_n hx hb dX4_sumDays_35 rfl (lv_at hl 1 rfl) ?_
        have hR := Option.some.inj hf
        subst hR
        exact W.iret (v := l2) hx hb hr (fun t ht hW => ⟨⟨l2, (), rfl, rfl, by rw [ht]; exact hP, va_K.moved hW.alike hK, hD⟩, hS.F ht⟩) hS.2.2 dX4_sumDays_36
      · have hf := ite_F c2 hf
        refine lv_aload_n hx hb dX4_sumDays_12 rfl (lv_at hl 2 rfl) ?_
        refine lv_iload_n hx hb dX4_sumDays_13 rfl (lv_at hl 0 rfl) ?_
        refine lv_iload_n hx hb dX4_sumDays_14 rfl (lv_at hl 3 rfl) ?_
        obtain ⟨R4, g5, hf⟩ := bd_B hf
        obtain ⟨r3, rfl⟩ : ∃ z, z = R4 := ⟨_, rfl⟩
        have hPc := hP
        have hDc := hD
        have hFc := va_free (wc := wV_ v0 v_keys v_firsts v_ends v_values v_inferred v_gone cI cZ vkeys vfirsts vends vvalues vinferred vgone vmade) hD hS hA [0, 1, 2, 3, 4, 5, 6] rfl
        refine va_calli (va_runV (As := [.int l3, .int l1]) (rest := []) ⟨hx, hb, hml, hown, hts⟩ (c_X4_isOf l dC dI cI cZ cC cJ cD v0 v_keys v_firsts v_ends v_values v_inferred v_gone H1.size vkeys vfirsts vends vvalues vinferred vgone vmade l3 l1 r3 g5) (cwV 2 hts gX4_sumDays_X4_isOf rfl rfl rfl hs_X4_isOf ⟨Nat.le_of_ble_eq_true rfl, Nat.le_of_ble_eq_true rfl⟩) (preV_ (ci := 6) (q0 := 0) hPc hK hDc rfl rfl rfl rfl) rfl rfl hl.1 rfl (lv_room (Nat.le_of_ble_eq_true rfl)) dX4_sumDays_15 ⟨Nat.le_of_ble_eq_true rfl, Nat.le_of_ble_eq_true rfl⟩) hS (fun q _ h => hFc q h) hFc (fun z7 u t H6 locs ht hvm hw hB hz1 hk1 hS => ?_)
        have hw : r3 = z7 := hw.symm
        subst hw
        obtain ⟨hP, hD⟩ := aft_ (Wr := []) (Wc' := wV_ v0 v_keys v_firsts v_ends v_values v_inferred v_gone cI cZ vkeys vfirsts vends vvalues vinferred vgone vmade) (W2 := wV_ v0 v_keys v_firsts v_ends v_values v_inferred v_gone cI cZ vkeys vfirsts vends vvalues vinferred vgone vmade) hP hD [0, 1, 2, 3, 4, 5, 6] [] [0, 1, 2, 3, 4, 5, 6] rfl rfl (by decide) (by decide) (by decide) hk1 hFc hB ht rfl
        refine lv_if_eq (tgt := 29) hx hb dX4_sumDays_18 (by decide) (fun c8 => ?_) (fun c8 => ?_)
        · have hf := ite_T c8 hf
          refine lv_iinc (v := l3 + 1) (lv' := [(3, .int (l3 + 1)), (2, .int l2), (0, .ref v0), (1, .int l1)]) hx hb dX4_sumDays_29 hl (k := 0) rfl (by first | rfl | decide) (by decide) rfl (fun ls hl => ?_)
          refine lv_goto (tgt := 4) hx hb dX4_sumDays_32 (by decide) ?_
          exact ih (l3 + 1) l2 l1 vkeys vfirsts vends vvalues vinferred vgone vmade _ _ _ hf hP hD hS (lv_sub hl [0, 1, 2, 3] rfl)
        · have hf := ite_F c8 hf
          refine lv_iload_n hx hb dX4_sumDays_21 rfl (lv_at hl 1 rfl) ?_
          refine lv_aload_n hx hb dX4_sumDays_22 rfl (lv_at hl 2 rfl) ?_
          refine lv_iload_n hx hb dX4_sumDays_23 rfl (lv_at hl 0 rfl) ?_
          obtain ⟨R10, g11, hf⟩ := bd_B hf
          obtain ⟨r9, rfl⟩ : ∃ z, z = R10 := ⟨_, rfl⟩
          have hPc := hP
          have hDc := hD
          have hFc := va_free (wc := wV_ v0 v_keys v_firsts v_ends v_values v_inferred v_gone cI cZ vkeys vfirsts vends vvalues vinferred vgone vmade) hD hS hA [0, 1, 2, 3, 4, 5, 6] rfl
          refine va_calli (va_runV (As := [.int l3]) (rest := [.int l2]) ⟨hx, hb, hml, hown, hts⟩ (c_X4_days l dC dI cI cZ cC cJ cD v0 v_keys v_firsts v_ends v_values v_inferred v_gone H6.size vkeys vfirsts vends vvalues vinferred vgone vmade l3 r9 g11) (cwV 1 hts gX4_sumDays_X4_days rfl rfl rfl hs_X4_days ⟨Nat.le_of_ble_eq_true rfl, Nat.le_of_ble_eq_true rfl⟩) (preV_ (ci := 6) (q0 := 0) hPc hK hDc rfl rfl rfl rfl) rfl rfl hl.1 rfl (lv_room (Nat.le_of_ble_eq_true rfl)) dX4_sumDays_24 ⟨Nat.le_of_ble_eq_true rfl, Nat.le_of_ble_eq_true rfl⟩) hS (fun q _ h => hFc q h) hFc (fun z13 u t H12 locs ht hvm hw hB hz1 hk1 hS => ?_)
          have hw : r9 = z13 := hw.symm
          subst hw
          obtain ⟨hP, hD⟩ := aft_ (Wr := []) (Wc' := wV_ v0 v_keys v_firsts v_ends v_values v_inferred v_gone cI cZ vkeys vfirsts vends vvalues vinferred vgone vmade) (W2 := wV_ v0 v_keys v_firsts v_ends v_values v_inferred v_gone cI cZ vkeys vfirsts vends vvalues vinferred vgone vmade) hP hD [0, 1, 2, 3, 4, 5, 6] [] [0, 1, 2, 3, 4, 5, 6] rfl rfl (by decide) (by decide) (by decide) hk1 hFc hB ht rfl
          refine lv_iadd hx hb dX4_sumDays_27 ?_
          refine lv_istore_n (lv' := [(2, .int (l2 + r9)), (3, .int l3), (0, .ref v0), (1, .int l1)]) hx hb dX4_sumDays_28 rfl hl (by decide) rfl (fun ls hl => ?_)
          refine lv_iinc (v := l3 + 1) (lv' := [(3, .int (l3 + 1)), (2, .int (l2 + r9)), (0, .ref v0), (1, .int l1)]) hx hb dX4_sumDays_29 hl (k := 1) rfl (by first | rfl | decide) (by decide) rfl (fun ls hl => ?_)
          refine lv_goto (tgt := 4) hx hb dX4_sumDays_32 (by decide) ?_
          exact ih (l3 + 1) (l2 + r9) l1 vkeys vfirsts vends vvalues vinferred vgone vmade _ _ _ hf hP hD hS (lv_sub hl [0, 1, 2, 3] rfl)
  exact lp4 fu_ (0 : Int32) (0 : Int32) a1 vkeys vfirsts vends vvalues vinferred vgone vmade _ _ _ hf hP hD hS hl
theorem hs_X4_sumDays : yX4_sumDays.cls = RX4 ∧ yX4_sumDays.cls ≠ "java/lang/invoke/MethodHandle" ∧ yX4_sumDays.cls ≠ "java/lang/invoke/VarHandle" ∧ (parseMethodDescriptor yX4_sumDays.desc).map (fun d => d.parameters.length) = some 1 := by decide +kernel
