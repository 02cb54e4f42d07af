set_option maxRecDepth 20000 in
theorem in_X1_init_X1 : ∀ w ∈ wsX10, w ∈ wsX1_init := by decide +kernel
theorem hk_X1 : yX1_init.cls ≠ "java/lang/invoke/MethodHandle" ∧ yX1_init.cls ≠ "java/lang/invoke/VarHandle" ∧ (parseMethodDescriptor yX1_init.desc).map (fun d => d.parameters.length) = some 0 := by decide +kernel
abbrev rk_X1 : Room := { frames := 1, cells := 3, slots := 60, locals := 12 }
set_option maxHeartbeats 4000000 in
set_option maxRecDepth 100000 in
theorem k_X1 (l : Launch) (dC : Nat → ClassId) (dI : Nat → Nat → Nat) (cI cZ cC cJ cD : ClassId) (h0 : Nat) (sz : Nat) : Met l yX1_init wsX1_init rk_X1 (Pk_ (dC, dI) (ty_ cI cZ cC cJ cD) ([(h0, .inr (3, [.null, .null, .null, .int 0]))]) sz [.ref h0]) (va_Qv (fun (_ : Unit) => True) (fun _ t => ∃ (q1 q3 q5 : Nat), Bw_ (dC, dI) (ty_ cI cZ cC cJ cD) (va_A ([(h0, .inr (3, [.null, .null, .null, .int 0]))]) sz) (wR_ h0 q1 q3 q5 cI (fun _ => 0) (fun _ => 0) (fun _ => 0) 0) t) (va_A ([(h0, .inr (3, [.null, .null, .null, .int 0]))]) sz)) 3 60 (va_A ([(h0, .inr (3, [.null, .null, .null, .int 0]))]) sz) := by
  refine metk_ (cc := cX1_init) (maxL := 1) (ret := none) (Qcf := fun A => va_Qv (fun (_ : Unit) => True) (fun _ t => ∃ (q1 q3 q5 : Nat), Bw_ (dC, dI) (ty_ cI cZ cC cJ cD) (A) (wR_ h0 q1 q3 q5 cI (fun _ => 0) (fun _ => 0) (fun _ => 0) 0) t) (A)) (by decide) rfl (Nat.le_of_ble_eq_true rfl) ?_
  intro p e s m args below meth c A ls hx hb hr hts hown hlocks hml hin hN hA hP hK hD hl
  have hown : s.vm.findClass RX1 = some m.cls := hown
  have hin : meth.name = "<init>" := hin
  have hl : lv_has ls 1 [(0, .ref h0)] := hl
  have hS : va_S A s.heap s.heap [] := va_S.rf
  refine lv_aload_n hx hb dX1_init_0 rfl (lv_at hl 0 rfl) ?_
  refine W.objInit hx hb hown (hts _ (List.mem_of_getElem? (i := 1) rfl)) (hts _ (List.mem_of_getElem? (i := 2) rfl)) (hts _ (List.mem_of_getElem? (i := 3) rfl)) rfl (by rw [hml]; exact hl.1) rfl dX1_init_1 (Nat.le_of_ble_eq_true rfl) (Nat.le_of_ble_eq_true rfl) ?_
  refine W.eq (g2 := F0 m 4 ls []) rfl ?_
  refine lv_aload_n hx hb dX1_init_4 rfl (lv_at hl 0 rfl) ?_
  refine lv_bipush (v := 20) hx hb dX1_init_5 (by decide) ?_
  refine va_newa (atype := .int) (ty := .int) (N' := 20) (a0 := (20, .inl (fun _ => 0))) hx hb (hts _ (List.mem_of_getElem? (i := 4) rfl)) rfl hK hP hD hS hA (fun _ => rfl) (by decide) (by decide) (Nat.le_of_ble_eq_true rfl) (Nat.le_of_ble_eq_true rfl) (Nat.le_of_ble_eq_true rfl) dX1_init_7 (fun q1 cA H1_ hK hP hD hS => ?_)
  have e9 := same_ hK 0 5 rfl rfl (fun _ h => nomatch h)
  subst e9
  have hK : va_K (dC, dI) vwCl (ty_ cI cZ cC cJ cD) s := hK.sub (tys' := (ty_ cI cZ cC cJ cD)) [0, 1, 2, 3, 4] rfl
  have hP : va_P (dC, dI) vwCl ([(h0, .inr (3, [.null, .null, .null, .int 0])), (q1, .inl (cI, 20, .inl (fun _ => 0)))]) H1_ := hP
  have hD : va_D A ([(h0, .inr (3, [.null, .null, .null, .int 0])), (q1, .inl (cI, 20, .inl (fun _ => 0)))]) := hD
  refine va_putF (D := (dC, dI)) (ci := 3) (v := .ref q1) (ty := (.array .int)) (C := RX1) (T := TX1) (N := 4) hx hb hts in_X1_init_X1 tyX1 tyX1_ok nmX1 hown hK hP hD hS 0 rfl rfl 0 (by decide) (hts _ (List.mem_of_getElem? (i := 5) rfl)) (fun _ h9 => h9) rfl hin rfl (by decide +kernel) (by first | rfl | decide) (by first | rfl | decide) (Nat.le_of_ble_eq_true rfl) dX1_init_9 (fun H2_ locs hP hD hS => ?_)
  have hP : va_P (dC, dI) vwCl ([(h0, .inr (3, [.ref q1, .null, .null, .int 0])), (q1, .inl (cI, 20, .inl (fun _ => 0)))]) H2_ := hP
  have hD : va_D A ([(h0, .inr (3, [.ref q1, .null, .null, .int 0])), (q1, .inl (cI, 20, .inl (fun _ => 0)))]) := hD
  refine lv_aload_n hx hb dX1_init_12 rfl (lv_at hl 0 rfl) ?_
  refine lv_bipush (v := 20) hx hb dX1_init_13 (by decide) ?_
  refine va_newa (atype := .int) (ty := .int) (N' := 20) (a0 := (20, .inl (fun _ => 0))) hx hb (hts _ (List.mem_of_getElem? (i := 4) rfl)) rfl hK hP hD hS hA (fun _ => rfl) (by decide) (by decide) (Nat.le_of_ble_eq_true rfl) (Nat.le_of_ble_eq_true rfl) (Nat.le_of_ble_eq_true rfl) dX1_init_15 (fun q3 cA H3_ hK hP hD hS => ?_)
  have e9 := same_ hK 0 5 rfl rfl (fun _ h => nomatch h)
  subst e9
  have hK : va_K (dC, dI) vwCl (ty_ cI cZ cC cJ cD) s := hK.sub (tys' := (ty_ cI cZ cC cJ cD)) [0, 1, 2, 3, 4] rfl
  have hP : va_P (dC, dI) vwCl ([(h0, .inr (3, [.ref q1, .null, .null, .int 0])), (q1, .inl (cI, 20, .inl (fun _ => 0))), (q3, .inl (cI, 20, .inl (fun _ => 0)))]) H3_ := hP
  have hD : va_D A ([(h0, .inr (3, [.ref q1, .null, .null, .int 0])), (q1, .inl (cI, 20, .inl (fun _ => 0))), (q3, .inl (cI, 20, .inl (fun _ => 0)))]) := hD
  refine va_putF (D := (dC, dI)) (ci := 3) (v := .ref q3) (ty := (.array .int)) (C := RX1) (T := TX1) (N := 4) hx hb hts in_X1_init_X1 tyX1 tyX1_ok nmX1 hown hK hP hD hS 0 rfl rfl 1 (by decide) (hts _ (List.mem_of_getElem? (i := 6) rfl)) (fun _ h9 => h9) rfl hin rfl (by decide +kernel) (by first | rfl | decide) (by first | rfl | decide) (Nat.le_of_ble_eq_true rfl) dX1_init_17 (fun H4_ locs hP hD hS => ?_)
  have hP : va_P (dC, dI) vwCl ([(h0, .inr (3, [.ref q1, .ref q3, .null, .int 0])), (q1, .inl (cI, 20, .inl (fun _ => 0))), (q3, .inl (cI, 20, .inl (fun _ => 0)))]) H4_ := hP
  have hD : va_D A ([(h0, .inr (3, [.ref q1, .ref q3, .null, .int 0])), (q1, .inl (cI, 20, .inl (fun _ => 0))), (q3, .inl (cI, 20, .inl (fun _ => 0)))]) := hD
  refine lv_aload_n hx hb dX1_init_20 rfl (lv_at hl 0 rfl) ?_
  refine lv_bipush (v := 20) hx hb dX1_init_21 (by decide) ?_
  refine va_newa (atype := .int) (ty := .int) (N' := 20) (a0 := (20, .inl (fun _ => 0))) hx hb (hts _ (List.mem_of_getElem? (i := 4) rfl)) rfl hK hP hD hS hA (fun _ => rfl) (by decide) (by decide) (Nat.le_of_ble_eq_true rfl) (Nat.le_of_ble_eq_true rfl) (Nat.le_of_ble_eq_true rfl) dX1_init_23 (fun q5 cA H5_ hK hP hD hS => ?_)
  have e9 := same_ hK 0 5 rfl rfl (fun _ h => nomatch h)
  subst e9
  have hK : va_K (dC, dI) vwCl (ty_ cI cZ cC cJ cD) s := hK.sub (tys' := (ty_ cI cZ cC cJ cD)) [0, 1, 2, 3, 4] rfl
  have hP : va_P (dC, dI) vwCl ([(h0, .inr (3, [.ref q1, .ref q3, .null, .int 0])), (q1, .inl (cI, 20, .inl (fun _ => 0))), (q3, .inl (cI, 20, .inl (fun _ => 0))), (q5, .inl (cI, 20, .inl (fun _ => 0)))]) H5_ := hP
  have hD : va_D A ([(h0, .inr (3, [.ref q1, .ref q3, .null, .int 0])), (q1, .inl (cI, 20, .inl (fun _ => 0))), (q3, .inl (cI, 20, .inl (fun _ => 0))), (q5, .inl (cI, 20, .inl (fun _ => 0)))]) := hD
  refine va_putF (D := (dC, dI)) (ci := 3) (v := .ref q5) (ty := (.array .int)) (C := RX1) (T := TX1) (N := 4) hx hb hts in_X1_init_X1 tyX1 tyX1_ok nmX1 hown hK hP hD hS 0 rfl rfl 2 (by decide) (hts _ (List.mem_of_getElem? (i := 7) rfl)) (fun _ h9 => h9) rfl hin rfl (by decide +kernel) (by first | rfl | decide) (by first | rfl | decide) (Nat.le_of_ble_eq_true rfl) dX1_init_25 (fun H6_ locs hP hD hS => ?_)
  have hP : va_P (dC, dI) vwCl ([(h0, .inr (3, [.ref q1, .ref q3, .ref q5, .int 0])), (q1, .inl (cI, 20, .inl (fun _ => 0))), (q3, .inl (cI, 20, .inl (fun _ => 0))), (q5, .inl (cI, 20, .inl (fun _ => 0)))]) H6_ := hP
  have hD : va_D A ([(h0, .inr (3, [.ref q1, .ref q3, .ref q5, .int 0])), (q1, .inl (cI, 20, .inl (fun _ => 0))), (q3, .inl (cI, 20, .inl (fun _ => 0))), (q5, .inl (cI, 20, .inl (fun _ => 0)))]) := hD
  have hP9 := hP.sub (ws' := wR_ h0 q1 q3 q5 cI (fun _ => 0) (fun _ => 0) (fun _ => 0) 0) [0, 1, 2, 3] rfl
  have hD9 := hD.sub (ws' := wR_ h0 q1 q3 q5 cI (fun _ => 0) (fun _ => 0) (fun _ => 0) 0) [0, 1, 2, 3] (by decide) rfl
  exact W.vret hx hb hr (fun t ht hW => ⟨⟨(), rfl, trivial, q1, q3, q5, by rw [ht]; exact hP9, va_K.moved hW.alike hK, hD9⟩, hS.F ht⟩) hS.2.2 dX1_init_28
