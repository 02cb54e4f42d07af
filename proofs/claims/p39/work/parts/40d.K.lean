set_option maxRecDepth 20000 in
theorem in_X3_init_X3 : ∀ w ∈ wsX30, w ∈ wsX3_init := by decide +kernel
theorem hk_X3 : yX3_init.cls ≠ "java/lang/invoke/MethodHandle" ∧ yX3_init.cls ≠ "java/lang/invoke/VarHandle" ∧ (parseMethodDescriptor yX3_init.desc).map (fun d => d.parameters.length) = some 0 := by decide +kernel
abbrev rk_X3 : Room := { frames := 1, cells := 1, slots := 30, locals := 12 }
set_option maxHeartbeats 4000000 in
set_option maxRecDepth 100000 in
theorem k_X3 (l : Launch) (dC : Nat → ClassId) (dI : Nat → Nat → Nat) (cI cZ cC cJ cD : ClassId) (h0 : Nat) (sz : Nat) : Met l yX3_init wsX3_init rk_X3 (Pk_ (dC, dI) (ty_ cI cZ cC cJ cD) ([(h0, .inr (5, [.null, .int 0, .int 0]))]) sz [.ref h0]) (va_Qv (fun (_ : Unit) => True) (fun _ t => ∃ (q1 : Nat), Bw_ (dC, dI) (ty_ cI cZ cC cJ cD) (va_A ([(h0, .inr (5, [.null, .int 0, .int 0]))]) sz) (wT_ h0 q1 cC (fun _ => 0) 0 0) t) (va_A ([(h0, .inr (5, [.null, .int 0, .int 0]))]) sz)) 1 30 (va_A ([(h0, .inr (5, [.null, .int 0, .int 0]))]) sz) := by
  refine metk_ (cc := cX3_init) (maxL := 1) (ret := none) (Qcf := fun A => va_Qv (fun (_ : Unit) => True) (fun _ t => ∃ (q1 : Nat), Bw_ (dC, dI) (ty_ cI cZ cC cJ cD) (A) (wT_ h0 q1 cC (fun _ => 0) 0 0) t) (A)) (by decide) rfl (Nat.le_of_ble_eq_true rfl) ?_
  intro p e s m args below meth c A ls hx hb hr hts hown hlocks hml hin hN hA hP hK hD hl
  have hown : s.vm.findClass RX3 = some m.cls := hown
  have hin : meth.name = "<init>" := hin
  have hl : lv_has ls 1 [(0, .ref h0)] := hl
  have hS : va_S A s.heap s.heap [] := va_S.rf
  refine lv_aload_n hx hb dX3_init_0 rfl (lv_at hl 0 rfl) ?_
  refine W.objInit hx hb hown (hts _ (List.mem_of_getElem? (i := 1) rfl)) (hts _ (List.mem_of_getElem? (i := 2) rfl)) (hts _ (List.mem_of_getElem? (i := 3) rfl)) rfl (by rw [hml]; exact hl.1) rfl dX3_init_1 (Nat.le_of_ble_eq_true rfl) (Nat.le_of_ble_eq_true rfl) ?_
  refine W.eq (g2 := F0 m 4 ls []) rfl ?_
  refine lv_aload_n hx hb dX3_init_4 rfl (lv_at hl 0 rfl) ?_
  refine lv_bipush (v := 30) hx hb dX3_init_5 (by decide) ?_
  refine va_newa (atype := .char) (ty := .char) (N' := 30) (a0 := (30, .inl (fun _ => 0))) hx hb (hts _ (List.mem_of_getElem? (i := 4) rfl)) rfl hK hP hD hS hA (fun _ => rfl) (by decide) (by decide) (Nat.le_of_ble_eq_true rfl) (Nat.le_of_ble_eq_true rfl) (Nat.le_of_ble_eq_true rfl) dX3_init_7 (fun q1 cA H1_ hK hP hD hS => ?_)
  have e9 := same_ hK 2 5 rfl rfl (fun _ h => nomatch h)
  subst e9
  have hK : va_K (dC, dI) vwCl (ty_ cI cZ cC cJ cD) s := hK.sub (tys' := (ty_ cI cZ cC cJ cD)) [0, 1, 2, 3, 4] rfl
  have hP : va_P (dC, dI) vwCl ([(h0, .inr (5, [.null, .int 0, .int 0])), (q1, .inl (cC, 30, .inl (fun _ => 0)))]) H1_ := hP
  have hD : va_D A ([(h0, .inr (5, [.null, .int 0, .int 0])), (q1, .inl (cC, 30, .inl (fun _ => 0)))]) := hD
  refine va_putF (D := (dC, dI)) (ci := 5) (v := .ref q1) (ty := (.array .char)) (C := RX3) (T := TX3) (N := 3) hx hb hts in_X3_init_X3 tyX3 tyX3_ok nmX3 hown hK hP hD hS 0 rfl rfl 0 (by decide) (hts _ (List.mem_of_getElem? (i := 5) rfl)) (fun _ h9 => h9) rfl hin rfl (by decide +kernel) (by first | rfl | decide) (by first | rfl | decide) (Nat.le_of_ble_eq_true rfl) dX3_init_9 (fun H2_ locs hP hD hS => ?_)
  have hP : va_P (dC, dI) vwCl ([(h0, .inr (5, [.ref q1, .int 0, .int 0])), (q1, .inl (cC, 30, .inl (fun _ => 0)))]) H2_ := hP
  have hD : va_D A ([(h0, .inr (5, [.ref q1, .int 0, .int 0])), (q1, .inl (cC, 30, .inl (fun _ => 0)))]) := hD
  have hP9 := hP.sub (ws' := wT_ h0 q1 cC (fun _ => 0) 0 0) [0, 1] rfl
  have hD9 := hD.sub (ws' := wT_ h0 q1 cC (fun _ => 0) 0 0) [0, 1] (by decide) rfl
  exact W.vret hx hb hr (fun t ht hW => ⟨⟨(), rfl, trivial, q1, by rw [ht]; exact hP9, va_K.moved hW.alike hK, hD9⟩, hS.F ht⟩) hS.2.2 dX3_init_12
