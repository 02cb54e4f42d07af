set_option maxHeartbeats 8000000 in
set_option maxRecDepth 100000 in
theorem seg_B1 {p : Program} {l : Launch} {e : Env} {s : State} {m : MethodId} {below : List Frame} {meth : Method} {c : Code} {dC : Nat → ClassId} {dI : Nat → Nat → Nat} {cI cZ cC cJ cD cO : ClassId} {b L : Nat} {xs : Nat → Int32} (hst : l.stackTraces = false) (hL : L ≤ 260) (C0 : lw_At p s m meth c b L xs) (hts : ∀ w ∈ wsL_law, w.before #[Value.ref b] s = true) (hZ : Zq_ (fun q : Nat => s.heap.size ≤ q) s s.heap) (hC : Ca_ s) (hK : va_K (dC, dI) vwCl (ty_ cI cZ cC cJ cD) s) (hKo : va_K (dC, dI) vwCl [(cO, .array .int)] s) (d0 s0 z0 b0 q0 t0 v0 f0 r0 v_keys v_firsts v_ends v_values v_inferred v_gone f_keys f_days f_amounts f_versions r_keys r_days r_values w0 x0 y0 : Nat) (K : Nat) (yr : Nat → Nat) (mw u0 : Nat) (CN SN : Nat) (hCN : CN + 100 ≤ 600390) (hSN : SN + 1000 ≤ 7288080) (R : Unit) (k953 : Int32 → Int32 → Int32 → Int32 → Int32 → Int32 → tD_ → tS_ → tV_ → tF_ → tR_ → tI_ → tI_ → tY_ → tI_ → tZ_ → Option Unit) (hk953 : ∀ (l2 : Int32) (l3 : Int32) (l7 : Int32) (l8 : Int32) (l9 : Int32) (l10 : Int32) (dhasSaved : Int32) (dkeptError : Int32) (dmoved : Int32) (vkeys : Nat → Int32) (vfirsts : Nat → Int32) (vends : Nat → Int32) (vvalues : Nat → Int32) (vinferred : Nat → Int32) (vgone : Nat → Int32) (vmade : Int32) (fkeys : Nat → Int32) (fdays : Nat → Int32) (famounts : Nat → Int32) (fversions : Nat → Int32) (fcount : Int32) (rkeys : Nat → Int32) (rdays : Nat → Int32) (rvalues : Nat → Int32) (rcount : Int32) (wv : Nat → Int32) (xv : Nat → Int32) (uv : Nat → Int32) (zv : Nat → Nat → Int32) (H : Heap) (locs : List Loc) (ls : Array Slot), k953 l2 l3 l7 l8 l9 l10 (dhasSaved, dkeptError, dmoved) () (vkeys, vfirsts, vends, vvalues, vinferred, vgone, vmade) (fkeys, fdays, famounts, fversions, fcount) (rkeys, rdays, rvalues, rcount) wv xv () uv zv = some R → va_P (dC, dI) vwCl (((wD_ d0 s0 z0 b0 q0 t0 dhasSaved dkeptError dmoved ++ wS_ s0 v0 f0 r0 ++ wV_ v0 v_keys v_firsts v_ends v_values v_inferred v_gone cI cZ vkeys vfirsts vends vvalues vinferred vgone vmade ++ wF_ f0 f_keys f_days f_amounts f_versions cI fkeys fdays famounts fversions fcount ++ wR_ r0 r_keys r_days r_values cI rkeys rdays rvalues rcount) ++ (wI_ w0 cI 180 wv ++ (wI_ x0 cI 180 xv ++ wY_ y0 cO K yr ++ wI_ u0 cI mw uv))) ++ rw_ cI K yr zv) H → va_D (fun q : Nat => s.heap.size ≤ q) (((wD_ d0 s0 z0 b0 q0 t0 dhasSaved dkeptError dmoved ++ wS_ s0 v0 f0 r0 ++ wV_ v0 v_keys v_firsts v_ends v_values v_inferred v_gone cI cZ vkeys vfirsts vends vvalues vinferred vgone vmade ++ wF_ f0 f_keys f_days f_amounts f_versions cI fkeys fdays famounts fversions fcount ++ wR_ r0 r_keys r_days r_values cI rkeys rdays rvalues rcount) ++ (wI_ w0 cI 180 wv ++ (wI_ x0 cI 180 xv ++ wY_ y0 cO K yr ++ wI_ u0 cI mw uv))) ++ rw_ cI K yr zv) → va_S (fun q : Nat => s.heap.size ≤ q) s.heap H locs → lv_has ls 22 [(0, .ref b), (1, .ref d0), (2, .int l2), (3, .int l3), (4, .ref y0), (5, .ref w0), (6, .ref x0), (7, .int l7), (8, .int l8), (9, .int l9), (10, .int l10), (15, .ref u0)] → W p l e room_1 s m #[Value.ref b] below meth c H locs (CN + 10) (SN + 60) (lw_Z below #[Value.ref b] s) (F0 m 953 ls [])) (l2 : Int32) (l3 : Int32) (l7 : Int32) (l8 : Int32) (l9 : Int32) (l10 : Int32) (l11 : Int32) (l12 : Int32) (l13 : Int32) (l14 : Int32) (dhasSaved : Int32) (dkeptError : Int32) (dmoved : Int32) (vkeys : Nat → Int32) (vfirsts : Nat → Int32) (vends : Nat → Int32) (vvalues : Nat → Int32) (vinferred : Nat → Int32) (vgone : Nat → Int32) (vmade : Int32) (fkeys : Nat → Int32) (fdays : Nat → Int32) (famounts : Nat → Int32) (fversions : Nat → Int32) (fcount : Int32) (rkeys : Nat → Int32) (rdays : Nat → Int32) (rvalues : Nat → Int32) (rcount : Int32) (wv : Nat → Int32) (xv : Nat → Int32) (uv : Nat → Int32) (zv : Nat → Nat → Int32) (H : Heap) (locs : List Loc) (ls : Array Slot) (hf : f_law_B1 xs L K mw k953 l2 l3 l7 l8 l9 l10 l11 l12 l13 l14 (dhasSaved, dkeptError, dmoved) () (vkeys, vfirsts, vends, vvalues, vinferred, vgone, vmade) (fkeys, fdays, famounts, fversions, fcount) (rkeys, rdays, rvalues, rcount) wv xv () uv zv = some R) (hP : va_P (dC, dI) vwCl (((wD_ d0 s0 z0 b0 q0 t0 dhasSaved dkeptError dmoved ++ wS_ s0 v0 f0 r0 ++ wV_ v0 v_keys v_firsts v_ends v_values v_inferred v_gone cI cZ vkeys vfirsts vends vvalues vinferred vgone vmade ++ wF_ f0 f_keys f_days f_amounts f_versions cI fkeys fdays famounts fversions fcount ++ wR_ r0 r_keys r_days r_values cI rkeys rdays rvalues rcount) ++ (wI_ w0 cI 180 wv ++ (wI_ x0 cI 180 xv ++ wY_ y0 cO K yr ++ wI_ u0 cI mw uv))) ++ rw_ cI K yr zv) H) (hD : va_D (fun q : Nat => s.heap.size ≤ q) (((wD_ d0 s0 z0 b0 q0 t0 dhasSaved dkeptError dmoved ++ wS_ s0 v0 f0 r0 ++ wV_ v0 v_keys v_firsts v_ends v_values v_inferred v_gone cI cZ vkeys vfirsts vends vvalues vinferred vgone vmade ++ wF_ f0 f_keys f_days f_amounts f_versions cI fkeys fdays famounts fversions fcount ++ wR_ r0 r_keys r_days r_values cI rkeys rdays rvalues rcount) ++ (wI_ w0 cI 180 wv ++ (wI_ x0 cI 180 xv ++ wY_ y0 cO K yr ++ wI_ u0 cI mw uv))) ++ rw_ cI K yr zv)) (hS : va_S (fun q : Nat => s.heap.size ≤ q) s.heap H locs) (hl : lv_has ls 22 [(0, .ref b), (1, .ref d0), (2, .int l2), (3, .int l3), (4, .ref y0), (5, .ref w0), (6, .ref x0), (7, .int l7), (8, .int l8), (9, .int l9), (10, .int l10), (11, .int l11), (12, .int l12), (13, .int l13), (14, .int l14), (15, .ref u0)]) : W p l e room_1 s m #[Value.ref b] below meth c H locs (CN + 0) (SN + 0) (lw_Z below #[Value.ref b] s) (F0 m 208 ls []) := by
  obtain ⟨hx, hb, hr, hml, hown, -, hX, hbl, hlocks, -⟩ := C0
  have hown : s.vm.findClass RL = some m.cls := hown
  obtain ⟨hU, hN⟩ := hZ
  have hL31 : L < 2 ^ 31 := by omega
  obtain ⟨A, hAe⟩ : ∃ A : Nat → Prop, A = (fun q : Nat => s.heap.size ≤ q) := ⟨_, rfl⟩
  rw [← hAe] at hD hS hU hN hk953
  have hA : ∀ q : Nat, s.heap.size ≤ q → A q := fun q h => by rw [hAe]; exact h
  have hbA : ¬ A b := by rw [hAe]; exact Nat.not_le.mpr hbl
  unfold f_law_B1 at hf
  try dsimp only at hf
  refine lv_aload_n hx hb dL_law_208 rfl (lv_at hl 0 rfl) ?_
  refine lv_iload hx hb dL_law_209 (lv_at hl 11 rfl) ?_
  refine lv_iconst (v := 3) hx hb dL_law_211 (by decide) ?_
  refine lv_iadd hx hb dL_law_212 ?_
  refine lv_iconst (v := 3) hx hb dL_law_213 (by decide) ?_
  obtain ⟨h1, hf⟩ := gp_T hf
  have hF9 : ∀ q : Nat, H.size ≤ q → A q := fun q h => hA q (Nat.le_trans hS.1 h)
  refine va_calli (va_runS (As := [.ref b, .int (l11 + 3), .int 3]) (rest := []) ⟨hx, hb, hml, hown, hts⟩ (c_L_draw l b L xs H.size (l11 + 3) (3 : Int32) h1 hL31) (cwS 3 hts gL_law_L_draw rfl rfl rfl hs_L_draw ⟨Nat.le_of_ble_eq_true rfl, Nat.le_of_ble_eq_true rfl⟩) (preX_ hX hbl hbA hS rfl) rfl rfl hl.1 rfl (lv_room (Nat.le_of_ble_eq_true rfl)) dL_law_214 ⟨by show _ ≤ 600390; omega, by show _ ≤ 7288080; omega⟩) hS (fun q _ h => hF9 q h) hF9 (fun z3 u t H5 locs ht hvm hw hB hz1 hk1 hS => ?_)
  have hP : va_P (dC, dI) vwCl (((wD_ d0 s0 z0 b0 q0 t0 dhasSaved dkeptError dmoved ++ wS_ s0 v0 f0 r0 ++ wV_ v0 v_keys v_firsts v_ends v_values v_inferred v_gone cI cZ vkeys vfirsts vends vvalues vinferred vgone vmade ++ wF_ f0 f_keys f_days f_amounts f_versions cI fkeys fdays famounts fversions fcount ++ wR_ r0 r_keys r_days r_values cI rkeys rdays rvalues rcount) ++ (wI_ w0 cI 180 wv ++ (wI_ x0 cI 180 xv ++ wY_ y0 cO K yr ++ wI_ u0 cI mw uv))) ++ rw_ cI K yr zv) H5 := hP.kept (fun k q hq => hk1 q.1 (hP k q hq).lt (Nat.not_le.mpr (hP k q hq).lt))
  obtain ⟨r2, e4, hf⟩ := nm_T hf
  have hw : r2 = z3 := e4.trans hw.symm
  subst hw
  refine lv_istore (lv' := [(16, .int r2), (0, .ref b), (1, .ref d0), (2, .int l2), (3, .int l3), (4, .ref y0), (5, .ref w0), (6, .ref x0), (7, .int l7), (8, .int l8), (9, .int l9), (10, .int l10), (11, .int l11), (12, .int l12), (13, .int l13), (14, .int l14), (15, .ref u0)]) hx hb dL_law_217 hl (by decide) rfl (fun ls hl => ?_)
  refine lv_aload hx hb dL_law_219 (lv_at hl 5 rfl) ?_
  refine lv_iload hx hb dL_law_221 (lv_at hl 13 rfl) ?_
  obtain ⟨h6, hf⟩ := gd_T hf
  refine ald_Y hx hb hKo hP 20 0 rfl rfl h6 dL_law_223 ?_
  refine lv_aload hx hb dL_law_224 (lv_at hl 6 rfl) ?_
  refine lv_iload hx hb dL_law_226 (lv_at hl 8 rfl) ?_
  refine lv_iload hx hb dL_law_228 (lv_at hl 13 rfl) ?_
  refine lv_iload hx hb dL_law_230 (lv_at hl 14 rfl) ?_
  refine lv_iload hx hb dL_law_232 (lv_at hl 0 rfl) ?_
  obtain ⟨R7, g8, hf⟩ := bd_B hf
  obtain ⟨r11, yv12, wv13⟩ := R7
  try dsimp only at hf
  have hPc : va_P (dC, dI) vwCl (wI_ (yr l12.toNatClampNeg) cI 1000 (zv l12.toNatClampNeg) ++ wI_ w0 cI 180 wv) H5 := P_mem hP (rowW_m (in_lt h6))
  have hDc : va_D A (wI_ (yr l12.toNatClampNeg) cI 1000 (zv l12.toNatClampNeg) ++ wI_ w0 cI 180 wv) := rowW_D hD (in_lt h6)
  have hFc := F_of hDc hS hA
  refine va_calli (va_runS (As := [.ref (yr l12.toNatClampNeg), .ref w0, .int l7, .int l12, .int l13, .int r2]) (rest := []) ⟨hx, hb, hml, hown, hts⟩ (c_L_change l dC dI cI cZ cC cJ cD (yr l12.toNatClampNeg) w0 H5.size (zv l12.toNatClampNeg) wv l7 l12 l13 r2 (r11, yv12, wv13) g8) (cwS 6 hts gL_law_L_change rfl rfl rfl hs_L_change ⟨Nat.le_of_ble_eq_true rfl, Nat.le_of_ble_eq_true rfl⟩) (preS_ hPc hK hDc rfl) rfl rfl hl.1 rfl (lv_room (Nat.le_of_ble_eq_true rfl)) dL_law_234 ⟨by show _ ≤ 600390; omega, by show _ ≤ 7288080; omega⟩) hS (fun q _ h => hFc q h) hFc (fun z10 u t H9 locs ht hvm hw hB hz1 hk1 hS => ?_)
  have hw : r11 = z10 := hw.symm
  subst hw
  obtain ⟨hP, hD⟩ := rowW_ (new := yv12) (w' := wI_ w0 cI 180 wv13) hP hD (in_lt h6) rfl hk1 hB ht
  obtain ⟨u14, e15, hf⟩ := nm_T hf
  rw [← e15] at hP hD
  refine lv_istore (lv' := [(7, .int r11), (16, .int r2), (0, .ref b), (1, .ref d0), (2, .int l2), (3, .int l3), (4, .ref y0), (5, .ref w0), (6, .ref x0), (8, .int l8), (9, .int l9), (10, .int l10), (11, .int l11), (12, .int l12), (13, .int l13), (14, .int l14), (15, .ref u0)]) hx hb dL_law_237 hl (by decide) rfl (fun ls hl => ?_)
  refine lv_aload_n hx hb dL_law_239 rfl (lv_at hl 3 rfl) ?_
  refine lv_iload hx hb dL_law_240 (lv_at hl 13 rfl) ?_
  refine lv_iload hx hb dL_law_242 (lv_at hl 14 rfl) ?_
  refine lv_iload hx hb dL_law_244 (lv_at hl 1 rfl) ?_
  obtain ⟨R33, g34, hf⟩ := bd_B hf
  obtain ⟨x16, ⟨dh18, dk19, dm20⟩, ⟨vk21, vf22, ve23, vv24, vi25, vg26, vm27⟩, ⟨fk28, fd29, fa30, fv31, fc32⟩⟩ := R33
  try dsimp only at hf
  have hPc : va_P (dC, dI) vwCl (wD_ d0 s0 z0 b0 q0 t0 dhasSaved dkeptError dmoved ++ wS_ s0 v0 f0 r0 ++ wV_ v0 v_keys v_firsts v_ends v_values v_inferred v_gone cI cZ vkeys vfirsts vends vvalues vinferred vgone vmade ++ wF_ f0 f_keys f_days f_amounts f_versions cI fkeys fdays famounts fversions fcount ++ wR_ r0 r_keys r_days r_values cI rkeys rdays rvalues rcount) H9 := P_pre (P_pre hP)
  have hDc : va_D A (wD_ d0 s0 z0 b0 q0 t0 dhasSaved dkeptError dmoved ++ wS_ s0 v0 f0 r0 ++ wV_ v0 v_keys v_firsts v_ends v_values v_inferred v_gone cI cZ vkeys vfirsts vends vvalues vinferred vgone vmade ++ wF_ f0 f_keys f_days f_amounts f_versions cI fkeys fdays famounts fversions fcount ++ wR_ r0 r_keys r_days r_values cI rkeys rdays rvalues rcount) := D_pre (D_pre hD)
  have hFc := F_of hDc hS hA
  cases x16 with
  | error E39 =>
    exact absurd hf (fun h => nomatch h)
  | ok r17 =>
    refine va_calli (va_runV (As := [.int l12, .int l13, .int r2]) (rest := []) ⟨hx, hb, hml, hown, hts⟩ (cn_X5_change l dC dI cI cZ cC cJ cD d0 s0 z0 b0 q0 t0 v0 f0 r0 v_keys v_firsts v_ends v_values v_inferred v_gone f_keys f_days f_amounts f_versions r_keys r_days r_values H9.size dhasSaved dkeptError dmoved vkeys vfirsts vends vvalues vinferred vgone vmade fkeys fdays famounts fversions fcount rkeys rdays rvalues rcount l12 l13 r2 ((Except.ok r17), (dh18, dk19, dm20), (vk21, vf22, ve23, vv24, vi25, vg26, vm27), (fk28, fd29, fa30, fv31, fc32)) g34 r17 rfl) (cwV 3 hts gL_law_X5_change rfl rfl rfl hs_X5_change ⟨Nat.le_of_ble_eq_true rfl, Nat.le_of_ble_eq_true rfl⟩) (preV_ (ci := 7) (q0 := 0) hPc hK hDc rfl rfl rfl rfl) rfl rfl hl.1 rfl (lv_room (Nat.le_of_ble_eq_true rfl)) dL_law_246 ⟨by show _ ≤ 600390; omega, by show _ ≤ 7288080; omega⟩) hS (fun q _ h => hFc q h) hFc (fun z38 u t H37 locs ht hvm hw hB hz1 hk1 hS => ?_)
    have hw : r17 = z38 := hw.symm
    subst hw
    obtain ⟨hP, hD⟩ := preJ_ (X' := wD_ d0 s0 z0 b0 q0 t0 dh18 dk19 dm20 ++ wS_ s0 v0 f0 r0 ++ wV_ v0 v_keys v_firsts v_ends v_values v_inferred v_gone cI cZ vk21 vf22 ve23 vv24 vi25 vg26 vm27 ++ wF_ f0 f_keys f_days f_amounts f_versions cI fk28 fd29 fa30 fv31 fc32 ++ wR_ r0 r_keys r_days r_values cI rkeys rdays rvalues rcount) hP hD rfl hk1 hB ht
    refine lv_aload hx hb dL_law_249 (lv_at hl 6 rfl) ?_
    refine lv_iload hx hb dL_law_251 (lv_at hl 13 rfl) ?_
    obtain ⟨h40, hf⟩ := gd_T hf
    refine ald_Y hx hb hKo hP 20 0 rfl rfl h40 dL_law_253 ?_
    refine lv_iload hx hb dL_law_254 (lv_at hl 14 rfl) ?_
    obtain ⟨h41, hf⟩ := gd_T hf
    refine va_iald hx hb hK hP _ 0 (rw_at (in_lt h40)) rfl h41 dL_law_256 ?_
    refine lv_icmp_eq (tgt := 262) hx hb dL_law_257 (by decide) (fun c42 => ?_) (fun c42 => ?_)
    · have hf := ite_T c42 hf
      refine lv_goto (tgt := 953) hx hb dL_law_262 (by decide) ?_
      refine W.widen (k := CN + 10) (n := SN + 60) (by omega) (by omega) ?_
      exact hk953 l2 l3 r11 l8 l9 l10 dh18 dk19 dm20 vk21 vf22 ve23 vv24 vi25 vg26 vm27 fk28 fd29 fa30 fv31 fc32 rkeys rdays rvalues rcount wv13 xv uv u14 _ _ _ hf hP hD hS (lv_sub hl [2, 3, 4, 5, 6, 7, 8, 0, 9, 10, 11, 16] rfl)
    · have hf := ite_F c42 hf
      refine lv_iconst (v := 0) hx hb dL_law_260 (by decide) ?_
      exact absurd hf (fun h => nomatch h)
