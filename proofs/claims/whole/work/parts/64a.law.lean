def f_law_c0 (k_ : Int32 → tD_ → tS_ → tV_ → tF_ → tR_ → tS_ → tV_ → tF_ → tR_ → tV_ → tR_ → tT_ → tM_ → tO_ → tP_ → Option Unit) (xs : Nat → Int32) (L : Nat) (l5 : Int32) (D_ : tD_) (S_ : tS_) (V_ : tV_) (F_ : tF_) (R_ : tR_) (Z_ : tS_) (W_ : tV_) (G_ : tF_) (H_ : tR_) (B_ : tV_) (Q_ : tR_) (T_ : tT_) (M_ : tM_) (ov : tO_) (pv : tP_) : Option Unit :=
match D_ with
| (dhasSaved, dkeptError, dmoved) =>
match V_ with
| (vkeys, vfirsts, vends, vvalues, vinferred, vgone, vmade) =>
match F_ with
| (fkeys, fdays, famounts, fversions, fcount) =>
match R_ with
| (rkeys, rdays, rvalues, rcount) =>
match W_ with
| (wkeys, wfirsts, wends, wvalues, winferred, wgone, wmade) =>
match G_ with
| (gkeys, gdays, gamounts, gversions, gcount) =>
match H_ with
| (hkeys, hdays, hvalues, hcount) =>
match B_ with
| (bkeys, bfirsts, bends, bvalues, binferred, bgone, bmade) =>
match Q_ with
| (qkeys, qdays, qvalues, qcount) =>
match T_ with
| (tcharacters, tlength, tplace) =>
match M_ with
| (mg, mkept, mspare, mhasKept, mwas, mwasMany, manew, mthrown, mtext, mlength, mspot, mvalue, merror, mtold, mtolds) =>
gd_ (l5 + 1) L (
gd_ (l5 + 2) L (
gd_ (l5 + 3) L (
bd_ (f_L_change (xs (l5 + 1).toNatClampNeg) (xs (l5 + 2).toNatClampNeg) (xs (l5 + 3).toNatClampNeg) (dhasSaved, dkeptError, dmoved) () (vkeys, vfirsts, vends, vvalues, vinferred, vgone, vmade) (fkeys, fdays, famounts, fversions, fcount) (rkeys, rdays, rvalues, rcount) ov) (fun (r4, (dh5, dk6, dm7), (vk8, vf9, ve10, vv11, vi12, vg13, vm14), (fk15, fd16, fa17, fv18, fc19), ov20) =>
gd_ (l5 + 1) L (
gd_ (l5 + 2) L (
gd_ (l5 + 3) L (
bd_ (f_X6_change (xs (l5 + 1).toNatClampNeg) (xs (l5 + 2).toNatClampNeg) (xs (l5 + 3).toNatClampNeg) (mg, mkept, mspare, mhasKept, mwas, mwasMany, manew, mthrown, mtext, mlength, mspot, mvalue, merror, mtold, mtolds)) (fun (r28, (mg29, mk30, ms31, mh32, mw33, mw34, ma35, mt36, mt37, ml38, ms39, mv40, me41, mt42, mt43)) =>
bd_ (f_X6_thrown (mg29, mk30, ms31, mh32, mw33, mw34, ma35, mt36, mt37, ml38, ms39, mv40, me41, mt42, mt43)) (fun r48 =>
if r48 = r4 then
if r4 = 0 then
gd_ (0 : Int32) 1 (
if (lg_cmp (ov20 (0 : Int32).toNatClampNeg) r28.toInt64) = 0 then
k_ (l5 + 4) (dh5, dk6, dm7) () (vk8, vf9, ve10, vv11, vi12, vg13, vm14) (fk15, fd16, fa17, fv18, fc19) (rkeys, rdays, rvalues, rcount) () (wkeys, wfirsts, wends, wvalues, winferred, wgone, wmade) (gkeys, gdays, gamounts, gversions, gcount) (hkeys, hdays, hvalues, hcount) (bkeys, bfirsts, bends, bvalues, binferred, bgone, bmade) (qkeys, qdays, qvalues, qcount) (tcharacters, tlength, tplace) (mg29, mk30, ms31, mh32, mw33, mw34, ma35, mt36, mt37, ml38, ms39, mv40, me41, mt42, mt43) ov20 pv
else
none)
else
k_ (l5 + 4) (dh5, dk6, dm7) () (vk8, vf9, ve10, vv11, vi12, vg13, vm14) (fk15, fd16, fa17, fv18, fc19) (rkeys, rdays, rvalues, rcount) () (wkeys, wfirsts, wends, wvalues, winferred, wgone, wmade) (gkeys, gdays, gamounts, gversions, gcount) (hkeys, hdays, hvalues, hcount) (bkeys, bfirsts, bends, bvalues, binferred, bgone, bmade) (qkeys, qdays, qvalues, qcount) (tcharacters, tlength, tplace) (mg29, mk30, ms31, mh32, mw33, mw34, ma35, mt36, mt37, ml38, ms39, mv40, me41, mt42, mt43) ov20 pv
else
none)))))))))
set_option maxHeartbeats 8000000 in
set_option maxRecDepth 100000 in
theorem lc_0 {p : Program} {l : Launch} {e : Env} {s : State} {m : MethodId} {below : List Frame} {meth : Method} {c : Code} {dC : Nat → ClassId} {dI : Nat → Nat → Nat} {cI cZ cC cJ cD : ClassId} {b L : Nat} {xs : Nat → Int32} (hst : l.stackTraces = false) (hL : L ≤ 2048) (C0 : lw_At p s m meth c b L xs) (hts : ∀ w ∈ wsL_law, w.before #[Value.ref b] s = true) (hZ : Zq_ (fun q : Nat => s.heap.size ≤ q) s s.heap) (hC : Ca_ s) (hK : va_K (dC, dI) vwCl (ty_ cI cZ cC cJ cD) s) (d0 s0 z0 b0 q0 t0 v0 f0 r0 v_keys v_firsts v_ends v_values v_inferred v_gone f_keys f_days f_amounts f_versions r_keys r_days r_values w0 g0 h0 w_keys w_firsts w_ends w_values w_inferred w_gone g_keys g_days g_amounts g_versions h_keys h_days h_values b_keys b_firsts b_ends b_values b_inferred b_gone q_keys q_days q_values t_characters m0 m_g m_kept m_spare m_was m_text m_told o0 p0 : Nat) (j : Nat) (hj : 4 * j + 4 ≤ L) (l5 : Int32) (k_ : Int32 → tD_ → tS_ → tV_ → tF_ → tR_ → tS_ → tV_ → tF_ → tR_ → tV_ → tR_ → tT_ → tM_ → tO_ → tP_ → Option Unit) (ih : ∀ (dhasSaved : Int32) (dkeptError : Int32) (dmoved : Int32) (vkeys : Nat → Int32) (vfirsts : Nat → Int32) (vends : Nat → Int32) (vvalues : Nat → Int32) (vinferred : Nat → Int32) (vgone : Nat → Int32) (vmade : Int32) (fkeys : Nat → Int32) (fdays : Nat → Int32) (famounts : Nat → Int32) (fversions : Nat → Int32) (fcount : Int32) (rkeys : Nat → Int32) (rdays : Nat → Int32) (rvalues : Nat → Int32) (rcount : Int32) (wkeys : Nat → Int32) (wfirsts : Nat → Int32) (wends : Nat → Int32) (wvalues : Nat → Int32) (winferred : Nat → Int32) (wgone : Nat → Int32) (wmade : Int32) (gkeys : Nat → Int32) (gdays : Nat → Int32) (gamounts : Nat → Int32) (gversions : Nat → Int32) (gcount : Int32) (hkeys : Nat → Int32) (hdays : Nat → Int32) (hvalues : Nat → Int32) (hcount : Int32) (bkeys : Nat → Int32) (bfirsts : Nat → Int32) (bends : Nat → Int32) (bvalues : Nat → Int32) (binferred : Nat → Int32) (bgone : Nat → Int32) (bmade : Int32) (qkeys : Nat → Int32) (qdays : Nat → Int32) (qvalues : Nat → Int32) (qcount : Int32) (tcharacters : Nat → Int32) (tlength : Int32) (tplace : Int32) (mg : Nat → Int32) (mkept : Nat → Int32) (mspare : Nat → Int32) (mhasKept : Int32) (mwas : Nat → Int32) (mwasMany : Int32) (manew : Int32) (mthrown : Int32) (mtext : Nat → Int32) (mlength : Int32) (mspot : Int32) (mvalue : Int32) (merror : Int32) (mtold : Nat → Int32) (mtolds : Int32) (ov : Nat → Int64) (pv : Nat → UInt64) (H : Heap) (locs : List Loc) (ls : Array Slot), k_ (l5 + 4) (dhasSaved, dkeptError, dmoved) () (vkeys, vfirsts, vends, vvalues, vinferred, vgone, vmade) (fkeys, fdays, famounts, fversions, fcount) (rkeys, rdays, rvalues, rcount) () (wkeys, wfirsts, wends, wvalues, winferred, wgone, wmade) (gkeys, gdays, gamounts, gversions, gcount) (hkeys, hdays, hvalues, hcount) (bkeys, bfirsts, bends, bvalues, binferred, bgone, bmade) (qkeys, qdays, qvalues, qcount) (tcharacters, tlength, tplace) (mg, mkept, mspare, mhasKept, mwas, mwasMany, manew, mthrown, mtext, mlength, mspot, mvalue, merror, mtold, mtolds) ov pv = some () → va_P (dC, dI) vwCl (wD_ d0 s0 z0 b0 q0 t0 dhasSaved dkeptError dmoved ++ wS_ s0 v0 f0 r0 ++ wV_ v0 v_keys v_firsts v_ends v_values v_inferred v_gone cI cZ vkeys vfirsts vends vvalues vinferred vgone vmade ++ wF_ f0 f_keys f_days f_amounts f_versions cI fkeys fdays famounts fversions fcount ++ wR_ r0 r_keys r_days r_values cI rkeys rdays rvalues rcount ++ wS_ z0 w0 g0 h0 ++ wV_ w0 w_keys w_firsts w_ends w_values w_inferred w_gone cI cZ wkeys wfirsts wends wvalues winferred wgone wmade ++ wF_ g0 g_keys g_days g_amounts g_versions cI gkeys gdays gamounts gversions gcount ++ wR_ h0 h_keys h_days h_values cI hkeys hdays hvalues hcount ++ wV_ b0 b_keys b_firsts b_ends b_values b_inferred b_gone cI cZ bkeys bfirsts bends bvalues binferred bgone bmade ++ wR_ q0 q_keys q_days q_values cI qkeys qdays qvalues qcount ++ wT_ t0 t_characters cC tcharacters tlength tplace ++ wM_ m0 m_g m_kept m_spare m_was m_text m_told cI mg mkept mspare mhasKept mwas mwasMany manew mthrown mtext mlength mspot mvalue merror mtold mtolds ++ wO_ o0 cJ ov ++ wP_ p0 cD pv) H → va_D (fun q : Nat => s.heap.size ≤ q) (wD_ d0 s0 z0 b0 q0 t0 dhasSaved dkeptError dmoved ++ wS_ s0 v0 f0 r0 ++ wV_ v0 v_keys v_firsts v_ends v_values v_inferred v_gone cI cZ vkeys vfirsts vends vvalues vinferred vgone vmade ++ wF_ f0 f_keys f_days f_amounts f_versions cI fkeys fdays famounts fversions fcount ++ wR_ r0 r_keys r_days r_values cI rkeys rdays rvalues rcount ++ wS_ z0 w0 g0 h0 ++ wV_ w0 w_keys w_firsts w_ends w_values w_inferred w_gone cI cZ wkeys wfirsts wends wvalues winferred wgone wmade ++ wF_ g0 g_keys g_days g_amounts g_versions cI gkeys gdays gamounts gversions gcount ++ wR_ h0 h_keys h_days h_values cI hkeys hdays hvalues hcount ++ wV_ b0 b_keys b_firsts b_ends b_values b_inferred b_gone cI cZ bkeys bfirsts bends bvalues binferred bgone bmade ++ wR_ q0 q_keys q_days q_values cI qkeys qdays qvalues qcount ++ wT_ t0 t_characters cC tcharacters tlength tplace ++ wM_ m0 m_g m_kept m_spare m_was m_text m_told cI mg mkept mspare mhasKept mwas mwasMany manew mthrown mtext mlength mspot mvalue merror mtold mtolds ++ wO_ o0 cJ ov ++ wP_ p0 cD pv) → va_S (fun q : Nat => s.heap.size ≤ q) s.heap H locs → lv_has ls 9 [(0, .ref b), (1, .ref d0), (2, .ref m0), (3, .ref o0), (4, .ref p0), (5, .int (l5 + 4))] → W p l e room_1 s m #[Value.ref b] below meth c H locs (57 + 4 * (j + 1)) (3797 + 24 * (j + 1)) (lw_Z below #[Value.ref b] s) (F0 m 28 ls [])) (dhasSaved : Int32) (dkeptError : Int32) (dmoved : Int32) (vkeys : Nat → Int32) (vfirsts : Nat → Int32) (vends : Nat → Int32) (vvalues : Nat → Int32) (vinferred : Nat → Int32) (vgone : Nat → Int32) (vmade : Int32) (fkeys : Nat → Int32) (fdays : Nat → Int32) (famounts : Nat → Int32) (fversions : Nat → Int32) (fcount : Int32) (rkeys : Nat → Int32) (rdays : Nat → Int32) (rvalues : Nat → Int32) (rcount : Int32) (wkeys : Nat → Int32) (wfirsts : Nat → Int32) (wends : Nat → Int32) (wvalues : Nat → Int32) (winferred : Nat → Int32) (wgone : Nat → Int32) (wmade : Int32) (gkeys : Nat → Int32) (gdays : Nat → Int32) (gamounts : Nat → Int32) (gversions : Nat → Int32) (gcount : Int32) (hkeys : Nat → Int32) (hdays : Nat → Int32) (hvalues : Nat → Int32) (hcount : Int32) (bkeys : Nat → Int32) (bfirsts : Nat → Int32) (bends : Nat → Int32) (bvalues : Nat → Int32) (binferred : Nat → Int32) (bgone : Nat → Int32) (bmade : Int32) (qkeys : Nat → Int32) (qdays : Nat → Int32) (qvalues : Nat → Int32) (qcount : Int32) (tcharacters : Nat → Int32) (tlength : Int32) (tplace : Int32) (mg : Nat → Int32) (mkept : Nat → Int32) (mspare : Nat → Int32) (mhasKept : Int32) (mwas : Nat → Int32) (mwasMany : Int32) (manew : Int32) (mthrown : Int32) (mtext : Nat → Int32) (mlength : Int32) (mspot : Int32) (mvalue : Int32) (merror : Int32) (mtold : Nat → Int32) (mtolds : Int32) (ov : Nat → Int64) (pv : Nat → UInt64) (H : Heap) (locs : List Loc) (ls : Array Slot) (hf : f_law_c0 k_ xs L l5 (dhasSaved, dkeptError, dmoved) () (vkeys, vfirsts, vends, vvalues, vinferred, vgone, vmade) (fkeys, fdays, famounts, fversions, fcount) (rkeys, rdays, rvalues, rcount) () (wkeys, wfirsts, wends, wvalues, winferred, wgone, wmade) (gkeys, gdays, gamounts, gversions, gcount) (hkeys, hdays, hvalues, hcount) (bkeys, bfirsts, bends, bvalues, binferred, bgone, bmade) (qkeys, qdays, qvalues, qcount) (tcharacters, tlength, tplace) (mg, mkept, mspare, mhasKept, mwas, mwasMany, manew, mthrown, mtext, mlength, mspot, mvalue, merror, mtold, mtolds) ov pv = some ()) (hP : va_P (dC, dI) vwCl (wD_ d0 s0 z0 b0 q0 t0 dhasSaved dkeptError dmoved ++ wS_ s0 v0 f0 r0 ++ wV_ v0 v_keys v_firsts v_ends v_values v_inferred v_gone cI cZ vkeys vfirsts vends vvalues vinferred vgone vmade ++ wF_ f0 f_keys f_days f_amounts f_versions cI fkeys fdays famounts fversions fcount ++ wR_ r0 r_keys r_days r_values cI rkeys rdays rvalues rcount ++ wS_ z0 w0 g0 h0 ++ wV_ w0 w_keys w_firsts w_ends w_values w_inferred w_gone cI cZ wkeys wfirsts wends wvalues winferred wgone wmade ++ wF_ g0 g_keys g_days g_amounts g_versions cI gkeys gdays gamounts gversions gcount ++ wR_ h0 h_keys h_days h_values cI hkeys hdays hvalues hcount ++ wV_ b0 b_keys b_firsts b_ends b_values b_inferred b_gone cI cZ bkeys bfirsts bends bvalues binferred bgone bmade ++ wR_ q0 q_keys q_days q_values cI qkeys qdays qvalues qcount ++ wT_ t0 t_characters cC tcharacters tlength tplace ++ wM_ m0 m_g m_kept m_spare m_was m_text m_told cI mg mkept mspare mhasKept mwas mwasMany manew mthrown mtext mlength mspot mvalue merror mtold mtolds ++ wO_ o0 cJ ov ++ wP_ p0 cD pv) H) (hD : va_D (fun q : Nat => s.heap.size ≤ q) (wD_ d0 s0 z0 b0 q0 t0 dhasSaved dkeptError dmoved ++ wS_ s0 v0 f0 r0 ++ wV_ v0 v_keys v_firsts v_ends v_values v_inferred v_gone cI cZ vkeys vfirsts vends vvalues vinferred vgone vmade ++ wF_ f0 f_keys f_days f_amounts f_versions cI fkeys fdays famounts fversions fcount ++ wR_ r0 r_keys r_days r_values cI rkeys rdays rvalues rcount ++ wS_ z0 w0 g0 h0 ++ wV_ w0 w_keys w_firsts w_ends w_values w_inferred w_gone cI cZ wkeys wfirsts wends wvalues winferred wgone wmade ++ wF_ g0 g_keys g_days g_amounts g_versions cI gkeys gdays gamounts gversions gcount ++ wR_ h0 h_keys h_days h_values cI hkeys hdays hvalues hcount ++ wV_ b0 b_keys b_firsts b_ends b_values b_inferred b_gone cI cZ bkeys bfirsts bends bvalues binferred bgone bmade ++ wR_ q0 q_keys q_days q_values cI qkeys qdays qvalues qcount ++ wT_ t0 t_characters cC tcharacters tlength tplace ++ wM_ m0 m_g m_kept m_spare m_was m_text m_told cI mg mkept mspare mhasKept mwas mwasMany manew mthrown mtext mlength mspot mvalue merror mtold mtolds ++ wO_ o0 cJ ov ++ wP_ p0 cD pv)) (hS : va_S (fun q : Nat => s.heap.size ≤ q) s.heap H locs) (hl : lv_has ls 9 [(0, .ref b), (1, .ref d0), (2, .ref m0), (3, .ref o0), (4, .ref p0), (5, .int l5)]) : W p l e room_1 s m #[Value.ref b] below meth c H locs (57 + 4 * j) (3797 + 24 * j) (lw_Z below #[Value.ref b] s) (F0 m 204 ls []) := by
  obtain ⟨hx, hb, hr, hml, hown, -, hX, hbl, hlocks, -⟩ := C0
  have hown : s.vm.findClass RL = some m.cls := hown
  obtain ⟨hU, hN⟩ := hZ
  obtain ⟨A, hAe⟩ : ∃ A : Nat → Prop, A = (fun q : Nat => s.heap.size ≤ q) := ⟨_, rfl⟩
  rw [← hAe] at hD hS hU hN ih
  have hA : ∀ q : Nat, s.heap.size ≤ q → A q := fun q h => by rw [hAe]; exact h
  have hbA : ¬ A b := by rw [hAe]; exact Nat.not_le.mpr hbl
  unfold f_law_c0 at hf
  dsimp only at hf
  refine lv_aload_n hx hb dL_law_204 rfl (lv_at hl 1 rfl) ?_
  refine lv_aload_n hx hb dL_law_205 rfl (lv_at hl 0 rfl) ?_
  refine lv_iload hx hb dL_law_206 (lv_at hl 5 rfl) ?_
  refine lv_iconst (v := 1) hx hb dL_law_208 (by decide) ?_
  refine lv_iadd hx hb dL_law_209 ?_
  obtain ⟨h1, hf⟩ := gd_T hf
  refine va_sld hx hb hX hbl hbA hS h1 dL_law_210 ?_
  refine lv_aload_n hx hb dL_law_211 rfl (lv_at hl 0 rfl) ?_
  refine lv_iload hx hb dL_law_212 (lv_at hl 5 rfl) ?_
  refine lv_iconst (v := 2) hx hb dL_law_214 (by decide) ?_
  refine lv_iadd hx hb dL_law_215 ?_
  obtain ⟨h2, hf⟩ := gd_T hf
  refine va_sld hx hb hX hbl hbA hS h2 dL_law_216 ?_
  refine lv_aload_n hx hb dL_law_217 rfl (lv_at hl 0 rfl) ?_
  refine lv_iload hx hb dL_law_218 (lv_at hl 5 rfl) ?_
  refine lv_iconst (v := 3) hx hb dL_law_220 (by decide) ?_
  refine lv_iadd hx hb dL_law_221 ?_
  obtain ⟨h3, hf⟩ := gd_T hf
  refine va_sld hx hb hX hbl hbA hS h3 dL_law_222 ?_
  refine lv_aload_n hx hb dL_law_223 rfl (lv_at hl 3 rfl) ?_
  obtain ⟨R21, g22, hf⟩ := bd_B hf
  obtain ⟨r4, ⟨dh5, dk6, dm7⟩, ⟨vk8, vf9, ve10, vv11, vi12, vg13, vm14⟩, ⟨fk15, fd16, fa17, fv18, fc19⟩, ov20⟩ := R21
  dsimp only at hf
  have hPc : va_P (dC, dI) vwCl (wD_ d0 s0 z0 b0 q0 t0 dhasSaved dkeptError dmoved ++ wS_ s0 v0 f0 r0 ++ wV_ v0 v_keys v_firsts v_ends v_values v_inferred v_gone cI cZ vkeys vfirsts vends vvalues vinferred vgone vmade ++ wF_ f0 f_keys f_days f_amounts f_versions cI fkeys fdays famounts fversions fcount ++ wR_ r0 r_keys r_days r_values cI rkeys rdays rvalues rcount ++ wO_ o0 cJ ov) H := bl_P (bp_dsvfro _ _ _ _ _ _ _ _ _ _ _ _ _ _ _) hP
  have hDc : va_D A (wD_ d0 s0 z0 b0 q0 t0 dhasSaved dkeptError dmoved ++ wS_ s0 v0 f0 r0 ++ wV_ v0 v_keys v_firsts v_ends v_values v_inferred v_gone cI cZ vkeys vfirsts vends vvalues vinferred vgone vmade ++ wF_ f0 f_keys f_days f_amounts f_versions cI fkeys fdays famounts fversions fcount ++ wR_ r0 r_keys r_days r_values cI rkeys rdays rvalues rcount ++ wO_ o0 cJ ov) := bl_D (bp_dsvfro _ _ _ _ _ _ _ _ _ _ _ _ _ _ _) hD
  have hFc : ∀ q, va_A (wD_ d0 s0 z0 b0 q0 t0 dhasSaved dkeptError dmoved ++ wS_ s0 v0 f0 r0 ++ wV_ v0 v_keys v_firsts v_ends v_values v_inferred v_gone cI cZ vkeys vfirsts vends vvalues vinferred vgone vmade ++ wF_ f0 f_keys f_days f_amounts f_versions cI fkeys fdays famounts fversions fcount ++ wR_ r0 r_keys r_days r_values cI rkeys rdays rvalues rcount ++ wO_ o0 cJ ov) H.size q → A q := bl_F (bp_dsvfro _ _ _ _ _ _ _ _ _ _ _ _ _ _ _) hD hS hA
  refine va_calli (vx_runSW (As := [.ref d0, .int (xs (l5 + 1).toNatClampNeg), .int (xs (l5 + 2).toNatClampNeg), .int (xs (l5 + 3).toNatClampNeg), .ref o0]) (rest := []) ⟨hx, hb, hml, hown, hts⟩ (c_L_change l dC dI cI cZ cC cJ cD hst d0 s0 z0 b0 q0 t0 v0 f0 r0 v_keys v_firsts v_ends v_values v_inferred v_gone f_keys f_days f_amounts f_versions r_keys r_days r_values o0 H.size dhasSaved dkeptError dmoved vkeys vfirsts vends vvalues vinferred vgone vmade fkeys fdays famounts fversions fcount rkeys rdays rvalues rcount ov (xs (l5 + 1).toNatClampNeg) (xs (l5 + 2).toNatClampNeg) (xs (l5 + 3).toNatClampNeg) (r4, (dh5, dk6, dm7), (vk8, vf9, ve10, vv11, vi12, vg13, vm14), (fk15, fd16, fa17, fv18, fc19), ov20) g22) (vx_cwSW 5 hts gL_law_L_change rfl rfl rfl hs_L_change ⟨Nat.le_of_ble_eq_true rfl, Nat.le_of_ble_eq_true rfl⟩) (preL_ hPc hK hDc rfl hS hU hN hFc hC) rfl rfl hl.1 rfl (lv_room (Nat.le_of_ble_eq_true rfl)) dL_law_224 ⟨by show _ ≤ 3153; omega, by show _ ≤ 122725; omega⟩) hS (fun q _ h => hFc q h) hFc (fun z24 u t H23 locs ht hvm hw hB hz1 hk1 hS => ?_)
  have hw : r4 = z24 := hw.symm
  subst hw
  obtain ⟨hP, hD⟩ : va_P (dC, dI) vwCl (wD_ d0 s0 z0 b0 q0 t0 dh5 dk6 dm7 ++ wS_ s0 v0 f0 r0 ++ wV_ v0 v_keys v_firsts v_ends v_values v_inferred v_gone cI cZ vk8 vf9 ve10 vv11 vi12 vg13 vm14 ++ wF_ f0 f_keys f_days f_amounts f_versions cI fk15 fd16 fa17 fv18 fc19 ++ wR_ r0 r_keys r_days r_values cI rkeys rdays rvalues rcount ++ wS_ z0 w0 g0 h0 ++ wV_ w0 w_keys w_firsts w_ends w_values w_inferred w_gone cI cZ wkeys wfirsts wends wvalues winferred wgone wmade ++ wF_ g0 g_keys g_days g_amounts g_versions cI gkeys gdays gamounts gversions gcount ++ wR_ h0 h_keys h_days h_values cI hkeys hdays hvalues hcount ++ wV_ b0 b_keys b_firsts b_ends b_values b_inferred b_gone cI cZ bkeys bfirsts bends bvalues binferred bgone bmade ++ wR_ q0 q_keys q_days q_values cI qkeys qdays qvalues qcount ++ wT_ t0 t_characters cC tcharacters tlength tplace ++ wM_ m0 m_g m_kept m_spare m_was m_text m_told cI mg mkept mspare mhasKept mwas mwasMany manew mthrown mtext mlength mspot mvalue merror mtold mtolds ++ wO_ o0 cJ ov20 ++ wP_ p0 cD pv) H23 ∧ va_D A (wD_ d0 s0 z0 b0 q0 t0 dh5 dk6 dm7 ++ wS_ s0 v0 f0 r0 ++ wV_ v0 v_keys v_firsts v_ends v_values v_inferred v_gone cI cZ vk8 vf9 ve10 vv11 vi12 vg13 vm14 ++ wF_ f0 f_keys f_days f_amounts f_versions cI fk15 fd16 fa17 fv18 fc19 ++ wR_ r0 r_keys r_days r_values cI rkeys rdays rvalues rcount ++ wS_ z0 w0 g0 h0 ++ wV_ w0 w_keys w_firsts w_ends w_values w_inferred w_gone cI cZ wkeys wfirsts wends wvalues winferred wgone wmade ++ wF_ g0 g_keys g_days g_amounts g_versions cI gkeys gdays gamounts gversions gcount ++ wR_ h0 h_keys h_days h_values cI hkeys hdays hvalues hcount ++ wV_ b0 b_keys b_firsts b_ends b_values b_inferred b_gone cI cZ bkeys bfirsts bends bvalues binferred bgone bmade ++ wR_ q0 q_keys q_days q_values cI qkeys qdays qvalues qcount ++ wT_ t0 t_characters cC tcharacters tlength tplace ++ wM_ m0 m_g m_kept m_spare m_was m_text m_told cI mg mkept mspare mhasKept mwas mwasMany manew mthrown mtext mlength mspot mvalue merror mtold mtolds ++ wO_ o0 cJ ov20 ++ wP_ p0 cD pv) := bl_J (bp_dsvfro _ _ _ _ _ _ _ _ _ _ _ _ _ _ _) (bp_dsvfro _ _ _ _ _ _ _ _ _ _ _ _ _ _ _) hP hD hk1 hFc hB ht
  refine lv_istore (lv' := [(6, .int r4), (0, .ref b), (1, .ref d0), (2, .ref m0), (3, .ref o0), (4, .ref p0), (5, .int l5)]) hx hb dL_law_227 hl (by decide) rfl (fun ls hl => ?_)
  refine lv_aload_n hx hb dL_law_229 rfl (lv_at hl 3 rfl) ?_
  refine lv_aload_n hx hb dL_law_230 rfl (lv_at hl 1 rfl) ?_
  refine lv_iload hx hb dL_law_231 (lv_at hl 6 rfl) ?_
  refine lv_iconst (v := 1) hx hb dL_law_233 (by decide) ?_
  refine lv_iadd hx hb dL_law_234 ?_
  obtain ⟨h25, hf⟩ := gd_T hf
  refine va_sld hx hb hX hbl hbA hS h25 dL_law_235 ?_
  refine lv_aload_n hx hb dL_law_236 rfl (lv_at hl 1 rfl) ?_
  refine lv_iload hx hb dL_law_237 (lv_at hl 6 rfl) ?_
  refine lv_iconst (v := 2) hx hb dL_law_239 (by decide) ?_
  refine lv_iadd hx hb dL_law_240 ?_
  obtain ⟨h26, hf⟩ := gd_T hf
  refine va_sld hx hb hX hbl hbA hS h26 dL_law_241 ?_
  refine lv_aload_n hx hb dL_law_242 rfl (lv_at hl 1 rfl) ?_
  refine lv_iload hx hb dL_law_243 (lv_at hl 6 rfl) ?_
  refine lv_iconst (v := 3) hx hb dL_law_245 (by decide) ?_
  refine lv_iadd hx hb dL_law_246 ?_
  obtain ⟨h27, hf⟩ := gd_T hf
  refine va_sld hx hb hX hbl hbA hS h27 dL_law_247 ?_
  obtain ⟨R44, g45, hf⟩ := bd_B hf
  obtain ⟨r28, ⟨mg29, mk30, ms31, mh32, mw33, mw34, ma35, mt36, mt37, ml38, ms39, mv40, me41, mt42, mt43⟩⟩ := R44
  dsimp only at hf
  have hPc : va_P (dC, dI) vwCl (wM_ m0 m_g m_kept m_spare m_was m_text m_told cI mg mkept mspare mhasKept mwas mwasMany manew mthrown mtext mlength mspot mvalue merror mtold mtolds) H23 := bl_P (bp_m _ _ _ _ _ _ _ _ _ _ _ _ _ _ _) hP
  have hDc : va_D A (wM_ m0 m_g m_kept m_spare m_was m_text m_told cI mg mkept mspare mhasKept mwas mwasMany manew mthrown mtext mlength mspot mvalue merror mtold mtolds) := bl_D (bp_m _ _ _ _ _ _ _ _ _ _ _ _ _ _ _) hD
  have hFc : ∀ q, va_A (wM_ m0 m_g m_kept m_spare m_was m_text m_told cI mg mkept mspare mhasKept mwas mwasMany manew mthrown mtext mlength mspot mvalue merror mtold mtolds) H23.size q → A q := bl_F (bp_m _ _ _ _ _ _ _ _ _ _ _ _ _ _ _) hD hS hA
  refine va_calli (va_runV (As := [.int (xs (l5 + 1).toNatClampNeg), .int (xs (l5 + 2).toNatClampNeg), .int (xs (l5 + 3).toNatClampNeg)]) (rest := []) ⟨hx, hb, hml, hown, hts⟩ (c_X6_change l dC dI cI cZ cC cJ cD m0 m_g m_kept m_spare m_was m_text m_told H23.size mg mkept mspare mhasKept mwas mwasMany manew mthrown mtext mlength mspot mvalue merror mtold mtolds (xs (l5 + 1).toNatClampNeg) (xs (l5 + 2).toNatClampNeg) (xs (l5 + 3).toNatClampNeg) (r28, (mg29, mk30, ms31, mh32, mw33, mw34, ma35, mt36, mt37, ml38, ms39, mv40, me41, mt42, mt43)) g45) (cwV 3 hts gL_law_X6_change rfl rfl rfl hs_X6_change ⟨Nat.le_of_ble_eq_true rfl, Nat.le_of_ble_eq_true rfl⟩) (preV_ (ci := 8) (q0 := 0) hPc hK hDc rfl rfl rfl rfl) rfl rfl hl.1 rfl (lv_room (Nat.le_of_ble_eq_true rfl)) dL_law_248 ⟨by show _ ≤ 3153; omega, by show _ ≤ 122725; omega⟩) hS (fun q _ h => hFc q h) hFc (fun z47 u t H46 locs ht hvm hw hB hz1 hk1 hS => ?_)
  have hw : r28 = z47 := hw.symm
  subst hw
  obtain ⟨hP, hD⟩ : va_P (dC, dI) vwCl (wD_ d0 s0 z0 b0 q0 t0 dh5 dk6 dm7 ++ wS_ s0 v0 f0 r0 ++ wV_ v0 v_keys v_firsts v_ends v_values v_inferred v_gone cI cZ vk8 vf9 ve10 vv11 vi12 vg13 vm14 ++ wF_ f0 f_keys f_days f_amounts f_versions cI fk15 fd16 fa17 fv18 fc19 ++ wR_ r0 r_keys r_days r_values cI rkeys rdays rvalues rcount ++ wS_ z0 w0 g0 h0 ++ wV_ w0 w_keys w_firsts w_ends w_values w_inferred w_gone cI cZ wkeys wfirsts wends wvalues winferred wgone wmade ++ wF_ g0 g_keys g_days g_amounts g_versions cI gkeys gdays gamounts gversions gcount ++ wR_ h0 h_keys h_days h_values cI hkeys hdays hvalues hcount ++ wV_ b0 b_keys b_firsts b_ends b_values b_inferred b_gone cI cZ bkeys bfirsts bends bvalues binferred bgone bmade ++ wR_ q0 q_keys q_days q_values cI qkeys qdays qvalues qcount ++ wT_ t0 t_characters cC tcharacters tlength tplace ++ wM_ m0 m_g m_kept m_spare m_was m_text m_told cI mg29 mk30 ms31 mh32 mw33 mw34 ma35 mt36 mt37 ml38 ms39 mv40 me41 mt42 mt43 ++ wO_ o0 cJ ov20 ++ wP_ p0 cD pv) H46 ∧ va_D A (wD_ d0 s0 z0 b0 q0 t0 dh5 dk6 dm7 ++ wS_ s0 v0 f0 r0 ++ wV_ v0 v_keys v_firsts v_ends v_values v_inferred v_gone cI cZ vk8 vf9 ve10 vv11 vi12 vg13 vm14 ++ wF_ f0 f_keys f_days f_amounts f_versions cI fk15 fd16 fa17 fv18 fc19 ++ wR_ r0 r_keys r_days r_values cI rkeys rdays rvalues rcount ++ wS_ z0 w0 g0 h0 ++ wV_ w0 w_keys w_firsts w_ends w_values w_inferred w_gone cI cZ wkeys wfirsts wends wvalues winferred wgone wmade ++ wF_ g0 g_keys g_days g_amounts g_versions cI gkeys gdays gamounts gversions gcount ++ wR_ h0 h_keys h_days h_values cI hkeys hdays hvalues hcount ++ wV_ b0 b_keys b_firsts b_ends b_values b_inferred b_gone cI cZ bkeys bfirsts bends bvalues binferred bgone bmade ++ wR_ q0 q_keys q_days q_values cI qkeys qdays qvalues qcount ++ wT_ t0 t_characters cC tcharacters tlength tplace ++ wM_ m0 m_g m_kept m_spare m_was m_text m_told cI mg29 mk30 ms31 mh32 mw33 mw34 ma35 mt36 mt37 ml38 ms39 mv40 me41 mt42 mt43 ++ wO_ o0 cJ ov20 ++ wP_ p0 cD pv) := bl_J (bp_m _ _ _ _ _ _ _ _ _ _ _ _ _ _ _) (bp_m _ _ _ _ _ _ _ _ _ _ _ _ _ _ _) hP hD hk1 hFc hB ht
  refine lv_istore (lv' := [(7, .int r28), (6, .int r4), (0, .ref b), (1, .ref d0), (2, .ref m0), (3, .ref o0), (4, .ref p0), (5, .int l5)]) hx hb dL_law_251 hl (by decide) rfl (fun ls hl => ?_)
  refine lv_aload_n hx hb dL_law_253 rfl (lv_at hl 4 rfl) ?_
  obtain ⟨R49, g50, hf⟩ := bd_B hf
  obtain ⟨r48, rfl⟩ : ∃ z, z = R49 := ⟨_, rfl⟩
  have hPc : va_P (dC, dI) vwCl (wM_ m0 m_g m_kept m_spare m_was m_text m_told cI mg29 mk30 ms31 mh32 mw33 mw34 ma35 mt36 mt37 ml38 ms39 mv40 me41 mt42 mt43) H46 := bl_P (bp_m _ _ _ _ _ _ _ _ _ _ _ _ _ _ _) hP
  have hDc : va_D A (wM_ m0 m_g m_kept m_spare m_was m_text m_told cI mg29 mk30 ms31 mh32 mw33 mw34 ma35 mt36 mt37 ml38 ms39 mv40 me41 mt42 mt43) := bl_D (bp_m _ _ _ _ _ _ _ _ _ _ _ _ _ _ _) hD
  have hFc : ∀ q, va_A (wM_ m0 m_g m_kept m_spare m_was m_text m_told cI mg29 mk30 ms31 mh32 mw33 mw34 ma35 mt36 mt37 ml38 ms39 mv40 me41 mt42 mt43) H46.size q → A q := bl_F (bp_m _ _ _ _ _ _ _ _ _ _ _ _ _ _ _) hD hS hA
  refine va_calli (va_runV (As := []) (rest := []) ⟨hx, hb, hml, hown, hts⟩ (c_X6_thrown l dC dI cI cZ cC cJ cD m0 m_g m_kept m_spare m_was m_text m_told H46.size mg29 mk30 ms31 mh32 mw33 mw34 ma35 mt36 mt37 ml38 ms39 mv40 me41 mt42 mt43 r48 g50) (cwV 0 hts gL_law_X6_thrown rfl rfl rfl hs_X6_thrown ⟨Nat.le_of_ble_eq_true rfl, Nat.le_of_ble_eq_true rfl⟩) (preV_ (ci := 8) (q0 := 0) hPc hK hDc rfl rfl rfl rfl) rfl rfl hl.1 rfl (lv_room (Nat.le_of_ble_eq_true rfl)) dL_law_254 ⟨by show _ ≤ 3153; omega, by show _ ≤ 122725; omega⟩) hS (fun q _ h => hFc q h) hFc (fun z52 u t H51 locs ht hvm hw hB hz1 hk1 hS => ?_)
  have hw : r48 = z52 := hw.symm
  subst hw
  obtain ⟨hP, hD⟩ : va_P (dC, dI) vwCl (wD_ d0 s0 z0 b0 q0 t0 dh5 dk6 dm7 ++ wS_ s0 v0 f0 r0 ++ wV_ v0 v_keys v_firsts v_ends v_values v_inferred v_gone cI cZ vk8 vf9 ve10 vv11 vi12 vg13 vm14 ++ wF_ f0 f_keys f_days f_amounts f_versions cI fk15 fd16 fa17 fv18 fc19 ++ wR_ r0 r_keys r_days r_values cI rkeys rdays rvalues rcount ++ wS_ z0 w0 g0 h0 ++ wV_ w0 w_keys w_firsts w_ends w_values w_inferred w_gone cI cZ wkeys wfirsts wends wvalues winferred wgone wmade ++ wF_ g0 g_keys g_days g_amounts g_versions cI gkeys gdays gamounts gversions gcount ++ wR_ h0 h_keys h_days h_values cI hkeys hdays hvalues hcount ++ wV_ b0 b_keys b_firsts b_ends b_values b_inferred b_gone cI cZ bkeys bfirsts bends bvalues binferred bgone bmade ++ wR_ q0 q_keys q_days q_values cI qkeys qdays qvalues qcount ++ wT_ t0 t_characters cC tcharacters tlength tplace ++ wM_ m0 m_g m_kept m_spare m_was m_text m_told cI mg29 mk30 ms31 mh32 mw33 mw34 ma35 mt36 mt37 ml38 ms39 mv40 me41 mt42 mt43 ++ wO_ o0 cJ ov20 ++ wP_ p0 cD pv) H51 ∧ va_D A (wD_ d0 s0 z0 b0 q0 t0 dh5 dk6 dm7 ++ wS_ s0 v0 f0 r0 ++ wV_ v0 v_keys v_firsts v_ends v_values v_inferred v_gone cI cZ vk8 vf9 ve10 vv11 vi12 vg13 vm14 ++ wF_ f0 f_keys f_days f_amounts f_versions cI fk15 fd16 fa17 fv18 fc19 ++ wR_ r0 r_keys r_days r_values cI rkeys rdays rvalues rcount ++ wS_ z0 w0 g0 h0 ++ wV_ w0 w_keys w_firsts w_ends w_values w_inferred w_gone cI cZ wkeys wfirsts wends wvalues winferred wgone wmade ++ wF_ g0 g_keys g_days g_amounts g_versions cI gkeys gdays gamounts gversions gcount ++ wR_ h0 h_keys h_days h_values cI hkeys hdays hvalues hcount ++ wV_ b0 b_keys b_firsts b_ends b_values b_inferred b_gone cI cZ bkeys bfirsts bends bvalues binferred bgone bmade ++ wR_ q0 q_keys q_days q_values cI qkeys qdays qvalues qcount ++ wT_ t0 t_characters cC tcharacters tlength tplace ++ wM_ m0 m_g m_kept m_spare m_was m_text m_told cI mg29 mk30 ms31 mh32 mw33 mw34 ma35 mt36 mt37 ml38 ms39 mv40 me41 mt42 mt43 ++ wO_ o0 cJ ov20 ++ wP_ p0 cD pv) := bl_J (bp_m _ _ _ _ _ _ _ _ _ _ _ _ _ _ _) (bp_m _ _ _ _ _ _ _ _ _ _ _ _ _ _ _) hP hD hk1 hFc hB ht
  refine lv_iload hx hb dL_law_257 (lv_at hl 1 rfl) ?_
  refine lv_icmp_eq (tgt := 264) hx hb dL_law_259 (by decide) (fun c53 => ?_) (fun c53 => ?_)
  · have hf := ite_T c53 hf
    refine lv_iload hx hb dL_law_264 (lv_at hl 1 rfl) ?_
    refine lv_if_ne (tgt := 281) hx hb dL_law_266 (by decide) (fun c54 => ?_) (fun c54 => ?_)
    · have hf := ite_F c54 hf
      refine lv_goto (tgt := 2052) hx hb dL_law_281 (by decide) ?_
      refine lv_iinc (v := l5 + 4) (lv' := [(5, .int (l5 + 4)), (7, .int r28), (6, .int r4), (0, .ref b), (1, .ref d0), (2, .ref m0), (3, .ref o0), (4, .ref p0)]) hx hb dL_law_2052 hl (k := 7) rfl (by first | rfl | decide) (by decide) rfl (fun ls hl => ?_)
      refine lv_goto (tgt := 28) hx hb dL_law_2055 (by decide) ?_
      refine W.widen (k := 57 + 4 * (j + 1)) (n := 3797 + 24 * (j + 1)) (by omega) (by omega) ?_
      exact ih dh5 dk6 dm7 vk8 vf9 ve10 vv11 vi12 vg13 vm14 fk15 fd16 fa17 fv18 fc19 rkeys rdays rvalues rcount wkeys wfirsts wends wvalues winferred wgone wmade gkeys gdays gamounts gversions gcount hkeys hdays hvalues hcount bkeys bfirsts bends bvalues binferred bgone bmade qkeys qdays qvalues qcount tcharacters tlength tplace mg29 mk30 ms31 mh32 mw33 mw34 ma35 mt36 mt37 ml38 ms39 mv40 me41 mt42 mt43 ov20 pv _ _ _ hf hP hD hS (lv_sub hl [3, 4, 5, 6, 7, 0] rfl)
    · have hf := ite_T c54 hf
      refine lv_aload_n hx hb dL_law_269 rfl (lv_at hl 5 rfl) ?_
      refine lv_iconst (v := 0) hx hb dL_law_270 (by decide) ?_
      have hP9 : va_P (dC, dI) vwCl (wO_ o0 cJ ov20) H51 := bl_P (bp_o _ _ _ _ _ _ _ _ _ _ _ _ _ _ _) hP
      obtain ⟨h55, hf⟩ := gd_T hf
      refine va_lald hx hb hK hP9 0 3 rfl rfl h55 dL_law_271 ?_
      refine lv_iload hx hb dL_law_272 (lv_at hl 0 rfl) ?_
      refine lv_i2l hx hb dL_law_274 rfl ?_
      refine W.lcmp hx hb dL_law_275 ?_
      refine lv_if_eq (tgt := 281) hx hb dL_law_276 (by decide) (fun c56 => ?_) (fun c56 => ?_)
      · have hf := ite_T c56 hf
        refine lv_goto (tgt := 2052) hx hb dL_law_281 (by decide) ?_
        refine lv_iinc (v := l5 + 4) (lv' := [(5, .int (l5 + 4)), (7, .int r28), (6, .int r4), (0, .ref b), (1, .ref d0), (2, .ref m0), (3, .ref o0), (4, .ref p0)]) hx hb dL_law_2052 hl (k := 7) rfl (by first | rfl | decide) (by decide) rfl (fun ls hl => ?_)
        refine lv_goto (tgt := 28) hx hb dL_law_2055 (by decide) ?_
        refine W.widen (k := 57 + 4 * (j + 1)) (n := 3797 + 24 * (j + 1)) (by omega) (by omega) ?_
        exact ih dh5 dk6 dm7 vk8 vf9 ve10 vv11 vi12 vg13 vm14 fk15 fd16 fa17 fv18 fc19 rkeys rdays rvalues rcount wkeys wfirsts wends wvalues winferred wgone wmade gkeys gdays gamounts gversions gcount hkeys hdays hvalues hcount bkeys bfirsts bends bvalues binferred bgone bmade qkeys qdays qvalues qcount tcharacters tlength tplace mg29 mk30 ms31 mh32 mw33 mw34 ma35 mt36 mt37 ml38 ms39 mv40 me41 mt42 mt43 ov20 pv _ _ _ hf hP hD hS (lv_sub hl [3, 4, 5, 6, 7, 0] rfl)
      · have hf := ite_F c56 hf
        refine lv_iconst (v := 0) hx hb dL_law_279 (by decide) ?_
        exact absurd hf (fun h => nomatch h)
  · have hf := ite_F c53 hf
    refine lv_iconst (v := 0) hx hb dL_law_262 (by decide) ?_
    exact absurd hf (fun h => nomatch h)
