set_option maxHeartbeats 8000000 in
set_option maxRecDepth 100000 in
theorem seg_E4 {p : Program} {l : Launch} {e : Env} {s : State} {m : MethodId} {below : List Frame} {meth : Method} {c : Code} {dC : Nat → ClassId} {dI : Nat → Nat → Nat} {cI cZ cC cJ cD cO : ClassId} {b L : Nat} {xs : Nat → Int32} (hst : l.stackTraces = false) (hL : L ≤ 260) (C0 : lw_At p s m meth c b L xs) (hts : ∀ w ∈ wsL_law, w.before #[Value.ref b] s = true) (hZ : Zq_ (fun q : Nat => s.heap.size ≤ q) s s.heap) (hC : Ca_ s) (hK : va_K (dC, dI) vwCl (ty_ cI cZ cC cJ cD) s) (hKo : va_K (dC, dI) vwCl [(cO, .array .int)] s) (d0 s0 z0 b0 q0 t0 v0 f0 r0 v_keys v_firsts v_ends v_values v_inferred v_gone f_keys f_days f_amounts f_versions r_keys r_days r_values w0 x0 y0 : Nat) (K : Nat) (yr : Nat → Nat) (j0 n0 : Nat) (CN SN : Nat) (hCN : CN + 100 ≤ 600390) (hSN : SN + 1000 ≤ 7288080) (R : Unit)   (l7 : Int32) (l8 : Int32) (l10 : Int32) (dhasSaved : Int32) (dkeptError : Int32) (dmoved : Int32) (vkeys : Nat → Int32) (vfirsts : Nat → Int32) (vends : Nat → Int32) (vvalues : Nat → Int32) (vinferred : Nat → Int32) (vgone : Nat → Int32) (vmade : Int32) (fkeys : Nat → Int32) (fdays : Nat → Int32) (famounts : Nat → Int32) (fversions : Nat → Int32) (fcount : Int32) (rkeys : Nat → Int32) (rdays : Nat → Int32) (rvalues : Nat → Int32) (rcount : Int32) (wv : Nat → Int32) (xv : Nat → Int32) (jv : Nat → Int64) (nv : Nat → Int32) (zv : Nat → Nat → Int32) (H : Heap) (locs : List Loc) (ls : Array Slot) (hf : f_law_E4 xs L K  l7 l8 l10 (dhasSaved, dkeptError, dmoved) () (vkeys, vfirsts, vends, vvalues, vinferred, vgone, vmade) (fkeys, fdays, famounts, fversions, fcount) (rkeys, rdays, rvalues, rcount) wv xv () jv nv zv = some R) (hP : va_P (dC, dI) vwCl (((wD_ d0 s0 z0 b0 q0 t0 dhasSaved dkeptError dmoved ++ wS_ s0 v0 f0 r0 ++ wV_ v0 v_keys v_firsts v_ends v_values v_inferred v_gone cI cZ vkeys vfirsts vends vvalues vinferred vgone vmade ++ wF_ f0 f_keys f_days f_amounts f_versions cI fkeys fdays famounts fversions fcount ++ wR_ r0 r_keys r_days r_values cI rkeys rdays rvalues rcount) ++ (wI_ w0 cI 180 wv ++ (wI_ x0 cI 180 xv ++ wY_ y0 cO K yr ++ wJ_ j0 cJ 60 jv ++ wI_ n0 cI 60 nv))) ++ rw_ cI K yr zv) H) (hD : va_D (fun q : Nat => s.heap.size ≤ q) (((wD_ d0 s0 z0 b0 q0 t0 dhasSaved dkeptError dmoved ++ wS_ s0 v0 f0 r0 ++ wV_ v0 v_keys v_firsts v_ends v_values v_inferred v_gone cI cZ vkeys vfirsts vends vvalues vinferred vgone vmade ++ wF_ f0 f_keys f_days f_amounts f_versions cI fkeys fdays famounts fversions fcount ++ wR_ r0 r_keys r_days r_values cI rkeys rdays rvalues rcount) ++ (wI_ w0 cI 180 wv ++ (wI_ x0 cI 180 xv ++ wY_ y0 cO K yr ++ wJ_ j0 cJ 60 jv ++ wI_ n0 cI 60 nv))) ++ rw_ cI K yr zv)) (hS : va_S (fun q : Nat => s.heap.size ≤ q) s.heap H locs) (hl : lv_has ls 22 [(0, .ref b), (1, .ref d0), (4, .ref y0), (5, .ref w0), (6, .ref x0), (7, .int l7), (8, .int l8), (10, .int l10), (11, .ref j0), (12, .ref n0)]) : W p l e room_1 s m #[Value.ref b] below meth c H locs (CN + 0) (SN + 0) (lw_Z below #[Value.ref b] s) (F0 m 1329 ls []) := by
  obtain ⟨hx, hb, hr, hml, hown, -, hX, hbl, hlocks, -⟩ := C0
  have hown : s.vm.findClass RL = some m.cls := hown
  obtain ⟨hU, hN⟩ := hZ
  have hL31 : L < 2 ^ 31 := by omega
  obtain ⟨A, hAe⟩ : ∃ A : Nat → Prop, A = (fun q : Nat => s.heap.size ≤ q) := ⟨_, rfl⟩
  rw [← hAe] at hD hS hU hN
  have hA : ∀ q : Nat, s.heap.size ≤ q → A q := fun q h => by rw [hAe]; exact h
  have hbA : ¬ A b := by rw [hAe]; exact Nat.not_le.mpr hbl
  unfold f_law_E4 at hf
  try dsimp only at hf
  refine lv_aload_n hx hb dL_law_1329 rfl (lv_at hl 1 rfl) ?_
  obtain ⟨R2, g3, hf⟩ := bd_B hf
  obtain ⟨r1, rfl⟩ : ∃ z, z = R2 := ⟨_, rfl⟩
  have hPc : va_P (dC, dI) vwCl (wD_ d0 s0 z0 b0 q0 t0 dhasSaved dkeptError dmoved ++ wS_ s0 v0 f0 r0 ++ wV_ v0 v_keys v_firsts v_ends v_values v_inferred v_gone cI cZ vkeys vfirsts vends vvalues vinferred vgone vmade ++ wF_ f0 f_keys f_days f_amounts f_versions cI fkeys fdays famounts fversions fcount ++ wR_ r0 r_keys r_days r_values cI rkeys rdays rvalues rcount) H := P_pre (P_pre hP)
  have hDc : va_D A (wD_ d0 s0 z0 b0 q0 t0 dhasSaved dkeptError dmoved ++ wS_ s0 v0 f0 r0 ++ wV_ v0 v_keys v_firsts v_ends v_values v_inferred v_gone cI cZ vkeys vfirsts vends vvalues vinferred vgone vmade ++ wF_ f0 f_keys f_days f_amounts f_versions cI fkeys fdays famounts fversions fcount ++ wR_ r0 r_keys r_days r_values cI rkeys rdays rvalues rcount) := D_pre (D_pre hD)
  have hFc := F_of hDc hS hA
  refine va_calli (va_runV (As := []) (rest := []) ⟨hx, hb, hml, hown, hts⟩ (c_X5_versionCount l dC dI cI cZ cC cJ cD d0 s0 z0 b0 q0 t0 v0 f0 r0 v_keys v_firsts v_ends v_values v_inferred v_gone f_keys f_days f_amounts f_versions r_keys r_days r_values H.size dhasSaved dkeptError dmoved vkeys vfirsts vends vvalues vinferred vgone vmade fkeys fdays famounts fversions fcount rkeys rdays rvalues rcount r1 g3) (cwV 0 hts gL_law_X5_versionCount rfl rfl rfl hs_X5_versionCount ⟨Nat.le_of_ble_eq_true rfl, Nat.le_of_ble_eq_true rfl⟩) (preV_ (ci := 7) (q0 := 0) hPc hK hDc rfl rfl rfl rfl) rfl rfl hl.1 rfl (lv_room (Nat.le_of_ble_eq_true rfl)) dL_law_1330 ⟨by show _ ≤ 600390; omega, by show _ ≤ 7288080; omega⟩) hS (fun q _ h => hFc q h) hFc (fun z5 u t H4 locs ht hvm hw hB hz1 hk1 hS => ?_)
  have hw : r1 = z5 := hw.symm
  subst hw
  obtain ⟨hP, hD⟩ := preJ_ (X' := wD_ d0 s0 z0 b0 q0 t0 dhasSaved dkeptError dmoved ++ wS_ s0 v0 f0 r0 ++ wV_ v0 v_keys v_firsts v_ends v_values v_inferred v_gone cI cZ vkeys vfirsts vends vvalues vinferred vgone vmade ++ wF_ f0 f_keys f_days f_amounts f_versions cI fkeys fdays famounts fversions fcount ++ wR_ r0 r_keys r_days r_values cI rkeys rdays rvalues rcount) hP hD rfl hk1 hB ht
  refine lv_iload hx hb dL_law_1333 (lv_at hl 7 rfl) ?_
  refine lv_icmp_ne (tgt := 1363) hx hb dL_law_1335 (by decide) (fun c6 => ?_) (fun c6 => ?_)
  · have hf := ite_F c6 hf
    refine lv_iconst (v := 0) hx hb dL_law_1363 (by decide) ?_
    exact absurd hf (fun h => nomatch h)
  · have hf := ite_T c6 hf
    refine lv_aload_n hx hb dL_law_1338 rfl (lv_at hl 1 rfl) ?_
    obtain ⟨R8, g9, hf⟩ := bd_B hf
    obtain ⟨r7, rfl⟩ : ∃ z, z = R8 := ⟨_, rfl⟩
    have hPc : va_P (dC, dI) vwCl (wD_ d0 s0 z0 b0 q0 t0 dhasSaved dkeptError dmoved ++ wS_ s0 v0 f0 r0 ++ wV_ v0 v_keys v_firsts v_ends v_values v_inferred v_gone cI cZ vkeys vfirsts vends vvalues vinferred vgone vmade ++ wF_ f0 f_keys f_days f_amounts f_versions cI fkeys fdays famounts fversions fcount ++ wR_ r0 r_keys r_days r_values cI rkeys rdays rvalues rcount) H4 := P_pre (P_pre hP)
    have hDc : va_D A (wD_ d0 s0 z0 b0 q0 t0 dhasSaved dkeptError dmoved ++ wS_ s0 v0 f0 r0 ++ wV_ v0 v_keys v_firsts v_ends v_values v_inferred v_gone cI cZ vkeys vfirsts vends vvalues vinferred vgone vmade ++ wF_ f0 f_keys f_days f_amounts f_versions cI fkeys fdays famounts fversions fcount ++ wR_ r0 r_keys r_days r_values cI rkeys rdays rvalues rcount) := D_pre (D_pre hD)
    have hFc := F_of hDc hS hA
    refine va_calli (va_runV (As := []) (rest := []) ⟨hx, hb, hml, hown, hts⟩ (c_X5_removedCount l dC dI cI cZ cC cJ cD d0 s0 z0 b0 q0 t0 v0 f0 r0 v_keys v_firsts v_ends v_values v_inferred v_gone f_keys f_days f_amounts f_versions r_keys r_days r_values H4.size dhasSaved dkeptError dmoved vkeys vfirsts vends vvalues vinferred vgone vmade fkeys fdays famounts fversions fcount rkeys rdays rvalues rcount r7 g9) (cwV 0 hts gL_law_X5_removedCount rfl rfl rfl hs_X5_removedCount ⟨Nat.le_of_ble_eq_true rfl, Nat.le_of_ble_eq_true rfl⟩) (preV_ (ci := 7) (q0 := 0) hPc hK hDc rfl rfl rfl rfl) rfl rfl hl.1 rfl (lv_room (Nat.le_of_ble_eq_true rfl)) dL_law_1339 ⟨by show _ ≤ 600390; omega, by show _ ≤ 7288080; omega⟩) hS (fun q _ h => hFc q h) hFc (fun z11 u t H10 locs ht hvm hw hB hz1 hk1 hS => ?_)
    have hw : r7 = z11 := hw.symm
    subst hw
    obtain ⟨hP, hD⟩ := preJ_ (X' := wD_ d0 s0 z0 b0 q0 t0 dhasSaved dkeptError dmoved ++ wS_ s0 v0 f0 r0 ++ wV_ v0 v_keys v_firsts v_ends v_values v_inferred v_gone cI cZ vkeys vfirsts vends vvalues vinferred vgone vmade ++ wF_ f0 f_keys f_days f_amounts f_versions cI fkeys fdays famounts fversions fcount ++ wR_ r0 r_keys r_days r_values cI rkeys rdays rvalues rcount) hP hD rfl hk1 hB ht
    refine lv_iload hx hb dL_law_1342 (lv_at hl 5 rfl) ?_
    refine lv_iload hx hb dL_law_1344 (lv_at hl 7 rfl) ?_
    refine lv_isub hx hb dL_law_1346 ?_
    refine lv_icmp_ne (tgt := 1363) hx hb dL_law_1347 (by decide) (fun c12 => ?_) (fun c12 => ?_)
    · have hf := ite_F c12 hf
      refine lv_iconst (v := 0) hx hb dL_law_1363 (by decide) ?_
      exact absurd hf (fun h => nomatch h)
    · have hf := ite_T c12 hf
      refine lv_aload_n hx hb dL_law_1350 rfl (lv_at hl 1 rfl) ?_
      obtain ⟨R14, g15, hf⟩ := bd_B hf
      obtain ⟨r13, rfl⟩ : ∃ z, z = R14 := ⟨_, rfl⟩
      have hPc : va_P (dC, dI) vwCl (wD_ d0 s0 z0 b0 q0 t0 dhasSaved dkeptError dmoved ++ wS_ s0 v0 f0 r0 ++ wV_ v0 v_keys v_firsts v_ends v_values v_inferred v_gone cI cZ vkeys vfirsts vends vvalues vinferred vgone vmade ++ wF_ f0 f_keys f_days f_amounts f_versions cI fkeys fdays famounts fversions fcount ++ wR_ r0 r_keys r_days r_values cI rkeys rdays rvalues rcount) H10 := P_pre (P_pre hP)
      have hDc : va_D A (wD_ d0 s0 z0 b0 q0 t0 dhasSaved dkeptError dmoved ++ wS_ s0 v0 f0 r0 ++ wV_ v0 v_keys v_firsts v_ends v_values v_inferred v_gone cI cZ vkeys vfirsts vends vvalues vinferred vgone vmade ++ wF_ f0 f_keys f_days f_amounts f_versions cI fkeys fdays famounts fversions fcount ++ wR_ r0 r_keys r_days r_values cI rkeys rdays rvalues rcount) := D_pre (D_pre hD)
      have hFc := F_of hDc hS hA
      refine va_calli (va_runV (As := []) (rest := []) ⟨hx, hb, hml, hown, hts⟩ (c_X5_factCount l dC dI cI cZ cC cJ cD d0 s0 z0 b0 q0 t0 v0 f0 r0 v_keys v_firsts v_ends v_values v_inferred v_gone f_keys f_days f_amounts f_versions r_keys r_days r_values H10.size dhasSaved dkeptError dmoved vkeys vfirsts vends vvalues vinferred vgone vmade fkeys fdays famounts fversions fcount rkeys rdays rvalues rcount r13 g15) (cwV 0 hts gL_law_X5_factCount rfl rfl rfl hs_X5_factCount ⟨Nat.le_of_ble_eq_true rfl, Nat.le_of_ble_eq_true rfl⟩) (preV_ (ci := 7) (q0 := 0) hPc hK hDc rfl rfl rfl rfl) rfl rfl hl.1 rfl (lv_room (Nat.le_of_ble_eq_true rfl)) dL_law_1351 ⟨by show _ ≤ 600390; omega, by show _ ≤ 7288080; omega⟩) hS (fun q _ h => hFc q h) hFc (fun z17 u t H16 locs ht hvm hw hB hz1 hk1 hS => ?_)
      have hw : r13 = z17 := hw.symm
      subst hw
      obtain ⟨hP, hD⟩ := preJ_ (X' := wD_ d0 s0 z0 b0 q0 t0 dhasSaved dkeptError dmoved ++ wS_ s0 v0 f0 r0 ++ wV_ v0 v_keys v_firsts v_ends v_values v_inferred v_gone cI cZ vkeys vfirsts vends vvalues vinferred vgone vmade ++ wF_ f0 f_keys f_days f_amounts f_versions cI fkeys fdays famounts fversions fcount ++ wR_ r0 r_keys r_days r_values cI rkeys rdays rvalues rcount) hP hD rfl hk1 hB ht
      refine lv_iload hx hb dL_law_1354 (lv_at hl 6 rfl) ?_
      refine lv_icmp_ne (tgt := 1363) hx hb dL_law_1356 (by decide) (fun c18 => ?_) (fun c18 => ?_)
      · have hf := ite_F c18 hf
        refine lv_iconst (v := 0) hx hb dL_law_1363 (by decide) ?_
        exact absurd hf (fun h => nomatch h)
      · have hf := ite_T c18 hf
        refine lv_iconst (v := 1) hx hb dL_law_1359 (by decide) ?_
        refine lv_goto (tgt := 1364) hx hb dL_law_1360 (by decide) ?_
        refine va_forget (fun q hq => by have h9 := hS.2.2 q hq; rw [hAe] at h9; exact h9) ?_
        refine W.widen (k := 600390) (n := 7288080) (by omega) (by omega) ?_
        refine W.base ?_
        exact lw_ret (Drawn.sameBut.refl s.drawn lw_cs) hx hb hr hlocks dL_law_1364
