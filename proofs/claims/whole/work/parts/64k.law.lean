def f_law_c23 (k_ : Int32 → tD_ → tS_ → tV_ → tF_ → tR_ → tS_ → tV_ → tF_ → tR_ → tV_ → tR_ → tT_ → tM_ → tO_ → tP_ → Option Unit) (xs : Nat → Int32) (L : Nat) (l5 : Int32) (D_ : tD_) (S_ : tS_) (V_ : tV_) (F_ : tF_) (R_ : tR_) (Z_ : tS_) (W_ : tV_) (G_ : tF_) (H_ : tR_) (B_ : tV_) (Q_ : tR_) (T_ : tT_) (M_ : tM_) (ov : tO_) (pv : tP_) : Option Unit :=
match D_ with
| (dhasSaved, dkeptError, dmoved) =>
match V_ with
| (vkeys, vfirsts, vends, vvalues, vinferred, vgone, vmade) =>
match F_ with
| (fkeys, fdays, famounts, fversions, fcount) =>
match R_ with
| (rkeys, rdays, rvalues, rcount) =>
match W_ with
| (wkeys, wfirsts, wends, wvalues, winferred, wgone, wmade) =>
match G_ with
| (gkeys, gdays, gamounts, gversions, gcount) =>
match H_ with
| (hkeys, hdays, hvalues, hcount) =>
match B_ with
| (bkeys, bfirsts, bends, bvalues, binferred, bgone, bmade) =>
match Q_ with
| (qkeys, qdays, qvalues, qcount) =>
match T_ with
| (tcharacters, tlength, tplace) =>
match M_ with
| (mg, mkept, mspare, mhasKept, mwas, mwasMany, manew, mthrown, mtext, mlength, mspot, mvalue, merror, mtold, mtolds) =>
gd_ (l5 + 1) L (
gd_ (l5 + 2) L (
gd_ (l5 + 3) L (
if (xs (l5 + 3).toNatClampNeg) = 0 then
bd_ (f_L_gapDay (xs (l5 + 1).toNatClampNeg) (xs (l5 + 2).toNatClampNeg) (0 : Int32) (dhasSaved, dkeptError, dmoved) () (vkeys, vfirsts, vends, vvalues, vinferred, vgone, vmade) (fkeys, fdays, famounts, fversions, fcount) (rkeys, rdays, rvalues, rcount) ov) (fun (r5, ov6) =>
gd_ (l5 + 1) L (
gd_ (l5 + 2) L (
gd_ (l5 + 3) L (
if (xs (l5 + 3).toNatClampNeg) = 0 then
bd_ (f_X6_gapDay (xs (l5 + 1).toNatClampNeg) (xs (l5 + 2).toNatClampNeg) (0 : Int32) (mg, mkept, mspare, mhasKept, mwas, mwasMany, manew, mthrown, mtext, mlength, mspot, mvalue, merror, mtold, mtolds)) (fun (r15, (mg16, mk17, ms18, mh19, mw20, mw21, ma22, mt23, mt24, ml25, ms26, mv27, me28, mt29, mt30)) =>
bd_ (f_X6_thrown (mg16, mk17, ms18, mh19, mw20, mw21, ma22, mt23, mt24, ml25, ms26, mv27, me28, mt29, mt30)) (fun r35 =>
if r35 = r5 then
if r5 = 0 then
gd_ (0 : Int32) 1 (
if (lg_cmp (ov6 (0 : Int32).toNatClampNeg) r15.toInt64) = 0 then
k_ (l5 + 4) (dhasSaved, dkeptError, dmoved) () (vkeys, vfirsts, vends, vvalues, vinferred, vgone, vmade) (fkeys, fdays, famounts, fversions, fcount) (rkeys, rdays, rvalues, rcount) () (wkeys, wfirsts, wends, wvalues, winferred, wgone, wmade) (gkeys, gdays, gamounts, gversions, gcount) (hkeys, hdays, hvalues, hcount) (bkeys, bfirsts, bends, bvalues, binferred, bgone, bmade) (qkeys, qdays, qvalues, qcount) (tcharacters, tlength, tplace) (mg16, mk17, ms18, mh19, mw20, mw21, ma22, mt23, mt24, ml25, ms26, mv27, me28, mt29, mt30) ov6 pv
else
none)
else
k_ (l5 + 4) (dhasSaved, dkeptError, dmoved) () (vkeys, vfirsts, vends, vvalues, vinferred, vgone, vmade) (fkeys, fdays, famounts, fversions, fcount) (rkeys, rdays, rvalues, rcount) () (wkeys, wfirsts, wends, wvalues, winferred, wgone, wmade) (gkeys, gdays, gamounts, gversions, gcount) (hkeys, hdays, hvalues, hcount) (bkeys, bfirsts, bends, bvalues, binferred, bgone, bmade) (qkeys, qdays, qvalues, qcount) (tcharacters, tlength, tplace) (mg16, mk17, ms18, mh19, mw20, mw21, ma22, mt23, mt24, ml25, ms26, mv27, me28, mt29, mt30) ov6 pv
else
none))
else
bd_ (f_X6_gapDay (xs (l5 + 1).toNatClampNeg) (xs (l5 + 2).toNatClampNeg) (1 : Int32) (mg, mkept, mspare, mhasKept, mwas, mwasMany, manew, mthrown, mtext, mlength, mspot, mvalue, merror, mtold, mtolds)) (fun (r44, (mg45, mk46, ms47, mh48, mw49, mw50, ma51, mt52, mt53, ml54, ms55, mv56, me57, mt58, mt59)) =>
bd_ (f_X6_thrown (mg45, mk46, ms47, mh48, mw49, mw50, ma51, mt52, mt53, ml54, ms55, mv56, me57, mt58, mt59)) (fun r64 =>
if r64 = r5 then
if r5 = 0 then
gd_ (0 : Int32) 1 (
if (lg_cmp (ov6 (0 : Int32).toNatClampNeg) r44.toInt64) = 0 then
k_ (l5 + 4) (dhasSaved, dkeptError, dmoved) () (vkeys, vfirsts, vends, vvalues, vinferred, vgone, vmade) (fkeys, fdays, famounts, fversions, fcount) (rkeys, rdays, rvalues, rcount) () (wkeys, wfirsts, wends, wvalues, winferred, wgone, wmade) (gkeys, gdays, gamounts, gversions, gcount) (hkeys, hdays, hvalues, hcount) (bkeys, bfirsts, bends, bvalues, binferred, bgone, bmade) (qkeys, qdays, qvalues, qcount) (tcharacters, tlength, tplace) (mg45, mk46, ms47, mh48, mw49, mw50, ma51, mt52, mt53, ml54, ms55, mv56, me57, mt58, mt59) ov6 pv
else
none)
else
k_ (l5 + 4) (dhasSaved, dkeptError, dmoved) () (vkeys, vfirsts, vends, vvalues, vinferred, vgone, vmade) (fkeys, fdays, famounts, fversions, fcount) (rkeys, rdays, rvalues, rcount) () (wkeys, wfirsts, wends, wvalues, winferred, wgone, wmade) (gkeys, gdays, gamounts, gversions, gcount) (hkeys, hdays, hvalues, hcount) (bkeys, bfirsts, bends, bvalues, binferred, bgone, bmade) (qkeys, qdays, qvalues, qcount) (tcharacters, tlength, tplace) (mg45, mk46, ms47, mh48, mw49, mw50, ma51, mt52, mt53, ml54, ms55, mv56, me57, mt58, mt59) ov6 pv
else
none))))))
else
bd_ (f_L_gapDay (xs (l5 + 1).toNatClampNeg) (xs (l5 + 2).toNatClampNeg) (1 : Int32) (dhasSaved, dkeptError, dmoved) () (vkeys, vfirsts, vends, vvalues, vinferred, vgone, vmade) (fkeys, fdays, famounts, fversions, fcount) (rkeys, rdays, rvalues, rcount) ov) (fun (r73, ov74) =>
gd_ (l5 + 1) L (
gd_ (l5 + 2) L (
gd_ (l5 + 3) L (
if (xs (l5 + 3).toNatClampNeg) = 0 then
bd_ (f_X6_gapDay (xs (l5 + 1).toNatClampNeg) (xs (l5 + 2).toNatClampNeg) (0 : Int32) (mg, mkept, mspare, mhasKept, mwas, mwasMany, manew, mthrown, mtext, mlength, mspot, mvalue, merror, mtold, mtolds)) (fun (r83, (mg84, mk85, ms86, mh87, mw88, mw89, ma90, mt91, mt92, ml93, ms94, mv95, me96, mt97, mt98)) =>
bd_ (f_X6_thrown (mg84, mk85, ms86, mh87, mw88, mw89, ma90, mt91, mt92, ml93, ms94, mv95, me96, mt97, mt98)) (fun r103 =>
if r103 = r73 then
if r73 = 0 then
gd_ (0 : Int32) 1 (
if (lg_cmp (ov74 (0 : Int32).toNatClampNeg) r83.toInt64) = 0 then
k_ (l5 + 4) (dhasSaved, dkeptError, dmoved) () (vkeys, vfirsts, vends, vvalues, vinferred, vgone, vmade) (fkeys, fdays, famounts, fversions, fcount) (rkeys, rdays, rvalues, rcount) () (wkeys, wfirsts, wends, wvalues, winferred, wgone, wmade) (gkeys, gdays, gamounts, gversions, gcount) (hkeys, hdays, hvalues, hcount) (bkeys, bfirsts, bends, bvalues, binferred, bgone, bmade) (qkeys, qdays, qvalues, qcount) (tcharacters, tlength, tplace) (mg84, mk85, ms86, mh87, mw88, mw89, ma90, mt91, mt92, ml93, ms94, mv95, me96, mt97, mt98) ov74 pv
else
none)
else
k_ (l5 + 4) (dhasSaved, dkeptError, dmoved) () (vkeys, vfirsts, vends, vvalues, vinferred, vgone, vmade) (fkeys, fdays, famounts, fversions, fcount) (rkeys, rdays, rvalues, rcount) () (wkeys, wfirsts, wends, wvalues, winferred, wgone, wmade) (gkeys, gdays, gamounts, gversions, gcount) (hkeys, hdays, hvalues, hcount) (bkeys, bfirsts, bends, bvalues, binferred, bgone, bmade) (qkeys, qdays, qvalues, qcount) (tcharacters, tlength, tplace) (mg84, mk85, ms86, mh87, mw88, mw89, ma90, mt91, mt92, ml93, ms94, mv95, me96, mt97, mt98) ov74 pv
else
none))
else
bd_ (f_X6_gapDay (xs (l5 + 1).toNatClampNeg) (xs (l5 + 2).toNatClampNeg) (1 : Int32) (mg, mkept, mspare, mhasKept, mwas, mwasMany, manew, mthrown, mtext, mlength, mspot, mvalue, merror, mtold, mtolds)) (fun (r112, (mg113, mk114, ms115, mh116, mw117, mw118, ma119, mt120, mt121, ml122, ms123, mv124, me125, mt126, mt127)) =>
bd_ (f_X6_thrown (mg113, mk114, ms115, mh116, mw117, mw118, ma119, mt120, mt121, ml122, ms123, mv124, me125, mt126, mt127)) (fun r132 =>
if r132 = r73 then
if r73 = 0 then
gd_ (0 : Int32) 1 (
if (lg_cmp (ov74 (0 : Int32).toNatClampNeg) r112.toInt64) = 0 then
k_ (l5 + 4) (dhasSaved, dkeptError, dmoved) () (vkeys, vfirsts, vends, vvalues, vinferred, vgone, vmade) (fkeys, fdays, famounts, fversions, fcount) (rkeys, rdays, rvalues, rcount) () (wkeys, wfirsts, wends, wvalues, winferred, wgone, wmade) (gkeys, gdays, gamounts, gversions, gcount) (hkeys, hdays, hvalues, hcount) (bkeys, bfirsts, bends, bvalues, binferred, bgone, bmade) (qkeys, qdays, qvalues, qcount) (tcharacters, tlength, tplace) (mg113, mk114, ms115, mh116, mw117, mw118, ma119, mt120, mt121, ml122, ms123, mv124, me125, mt126, mt127) ov74 pv
else
none)
else
k_ (l5 + 4) (dhasSaved, dkeptError, dmoved) () (vkeys, vfirsts, vends, vvalues, vinferred, vgone, vmade) (fkeys, fdays, famounts, fversions, fcount) (rkeys, rdays, rvalues, rcount) () (wkeys, wfirsts, wends, wvalues, winferred, wgone, wmade) (gkeys, gdays, gamounts, gversions, gcount) (hkeys, hdays, hvalues, hcount) (bkeys, bfirsts, bends, bvalues, binferred, bgone, bmade) (qkeys, qdays, qvalues, qcount) (tcharacters, tlength, tplace) (mg113, mk114, ms115, mh116, mw117, mw118, ma119, mt120, mt121, ml122, ms123, mv124, me125, mt126, mt127) ov74 pv
else
none)))))))))
set_option maxHeartbeats 8000000 in
set_option maxRecDepth 100000 in
theorem lc_23 {p : Program} {l : Launch} {e : Env} {s : State} {m : MethodId} {below : List Frame} {meth : Method} {c : Code} {dC : Nat → ClassId} {dI : Nat → Nat → Nat} {cI cZ cC cJ cD : ClassId} {b L : Nat} {xs : Nat → Int32} (hst : l.stackTraces = false) (hL : L ≤ 2048) (C0 : lw_At p s m meth c b L xs) (hts : ∀ w ∈ wsL_law, w.before #[Value.ref b] s = true) (hZ : Zq_ (fun q : Nat => s.heap.size ≤ q) s s.heap) (hC : Ca_ s) (hK : va_K (dC, dI) vwCl (ty_ cI cZ cC cJ cD) s) (d0 s0 z0 b0 q0 t0 v0 f0 r0 v_keys v_firsts v_ends v_values v_inferred v_gone f_keys f_days f_amounts f_versions r_keys r_days r_values w0 g0 h0 w_keys w_firsts w_ends w_values w_inferred w_gone g_keys g_days g_amounts g_versions h_keys h_days h_values b_keys b_firsts b_ends b_values b_inferred b_gone q_keys q_days q_values t_characters m0 m_g m_kept m_spare m_was m_text m_told o0 p0 : Nat) (j : Nat) (hj : 4 * j + 4 ≤ L) (l5 : Int32) (k_ : Int32 → tD_ → tS_ → tV_ → tF_ → tR_ → tS_ → tV_ → tF_ → tR_ → tV_ → tR_ → tT_ → tM_ → tO_ → tP_ → Option Unit) (ih : ∀ (dhasSaved : Int32) (dkeptError : Int32) (dmoved : Int32) (vkeys : Nat → Int32) (vfirsts : Nat → Int32) (vends : Nat → Int32) (vvalues : Nat → Int32) (vinferred : Nat → Int32) (vgone : Nat → Int32) (vmade : Int32) (fkeys : Nat → Int32) (fdays : Nat → Int32) (famounts : Nat → Int32) (fversions : Nat → Int32) (fcount : Int32) (rkeys : Nat → Int32) (rdays : Nat → Int32) (rvalues : Nat → Int32) (rcount : Int32) (wkeys : Nat → Int32) (wfirsts : Nat → Int32) (wends : Nat → Int32) (wvalues : Nat → Int32) (winferred : Nat → Int32) (wgone : Nat → Int32) (wmade : Int32) (gkeys : Nat → Int32) (gdays : Nat → Int32) (gamounts : Nat → Int32) (gversions : Nat → Int32) (gcount : Int32) (hkeys : Nat → Int32) (hdays : Nat → Int32) (hvalues : Nat → Int32) (hcount : Int32) (bkeys : Nat → Int32) (bfirsts : Nat → Int32) (bends : Nat → Int32) (bvalues : Nat → Int32) (binferred : Nat → Int32) (bgone : Nat → Int32) (bmade : Int32) (qkeys : Nat → Int32) (qdays : Nat → Int32) (qvalues : Nat → Int32) (qcount : Int32) (tcharacters : Nat → Int32) (tlength : Int32) (tplace : Int32) (mg : Nat → Int32) (mkept : Nat → Int32) (mspare : Nat → Int32) (mhasKept : Int32) (mwas : Nat → Int32) (mwasMany : Int32) (manew : Int32) (mthrown : Int32) (mtext : Nat → Int32) (mlength : Int32) (mspot : Int32) (mvalue : Int32) (merror : Int32) (mtold : Nat → Int32) (mtolds : Int32) (ov : Nat → Int64) (pv : Nat → UInt64) (H : Heap) (locs : List Loc) (ls : Array Slot), k_ (l5 + 4) (dhasSaved, dkeptError, dmoved) () (vkeys, vfirsts, vends, vvalues, vinferred, vgone, vmade) (fkeys, fdays, famounts, fversions, fcount) (rkeys, rdays, rvalues, rcount) () (wkeys, wfirsts, wends, wvalues, winferred, wgone, wmade) (gkeys, gdays, gamounts, gversions, gcount) (hkeys, hdays, hvalues, hcount) (bkeys, bfirsts, bends, bvalues, binferred, bgone, bmade) (qkeys, qdays, qvalues, qcount) (tcharacters, tlength, tplace) (mg, mkept, mspare, mhasKept, mwas, mwasMany, manew, mthrown, mtext, mlength, mspot, mvalue, merror, mtold, mtolds) ov pv = some () → va_P (dC, dI) vwCl (wD_ d0 s0 z0 b0 q0 t0 dhasSaved dkeptError dmoved ++ wS_ s0 v0 f0 r0 ++ wV_ v0 v_keys v_firsts v_ends v_values v_inferred v_gone cI cZ vkeys vfirsts vends vvalues vinferred vgone vmade ++ wF_ f0 f_keys f_days f_amounts f_versions cI fkeys fdays famounts fversions fcount ++ wR_ r0 r_keys r_days r_values cI rkeys rdays rvalues rcount ++ wS_ z0 w0 g0 h0 ++ wV_ w0 w_keys w_firsts w_ends w_values w_inferred w_gone cI cZ wkeys wfirsts wends wvalues winferred wgone wmade ++ wF_ g0 g_keys g_days g_amounts g_versions cI gkeys gdays gamounts gversions gcount ++ wR_ h0 h_keys h_days h_values cI hkeys hdays hvalues hcount ++ wV_ b0 b_keys b_firsts b_ends b_values b_inferred b_gone cI cZ bkeys bfirsts bends bvalues binferred bgone bmade ++ wR_ q0 q_keys q_days q_values cI qkeys qdays qvalues qcount ++ wT_ t0 t_characters cC tcharacters tlength tplace ++ wM_ m0 m_g m_kept m_spare m_was m_text m_told cI mg mkept mspare mhasKept mwas mwasMany manew mthrown mtext mlength mspot mvalue merror mtold mtolds ++ wO_ o0 cJ ov ++ wP_ p0 cD pv) H → va_D (fun q : Nat => s.heap.size ≤ q) (wD_ d0 s0 z0 b0 q0 t0 dhasSaved dkeptError dmoved ++ wS_ s0 v0 f0 r0 ++ wV_ v0 v_keys v_firsts v_ends v_values v_inferred v_gone cI cZ vkeys vfirsts vends vvalues vinferred vgone vmade ++ wF_ f0 f_keys f_days f_amounts f_versions cI fkeys fdays famounts fversions fcount ++ wR_ r0 r_keys r_days r_values cI rkeys rdays rvalues rcount ++ wS_ z0 w0 g0 h0 ++ wV_ w0 w_keys w_firsts w_ends w_values w_inferred w_gone cI cZ wkeys wfirsts wends wvalues winferred wgone wmade ++ wF_ g0 g_keys g_days g_amounts g_versions cI gkeys gdays gamounts gversions gcount ++ wR_ h0 h_keys h_days h_values cI hkeys hdays hvalues hcount ++ wV_ b0 b_keys b_firsts b_ends b_values b_inferred b_gone cI cZ bkeys bfirsts bends bvalues binferred bgone bmade ++ wR_ q0 q_keys q_days q_values cI qkeys qdays qvalues qcount ++ wT_ t0 t_characters cC tcharacters tlength tplace ++ wM_ m0 m_g m_kept m_spare m_was m_text m_told cI mg mkept mspare mhasKept mwas mwasMany manew mthrown mtext mlength mspot mvalue merror mtold mtolds ++ wO_ o0 cJ ov ++ wP_ p0 cD pv) → va_S (fun q : Nat => s.heap.size ≤ q) s.heap H locs → lv_has ls 9 [(0, .ref b), (1, .ref d0), (2, .ref m0), (3, .ref o0), (4, .ref p0), (5, .int (l5 + 4))] → W p l e room_1 s m #[Value.ref b] below meth c H locs (57 + 4 * (j + 1)) (3797 + 24 * (j + 1)) (lw_Z below #[Value.ref b] s) (F0 m 28 ls [])) (dhasSaved : Int32) (dkeptError : Int32) (dmoved : Int32) (vkeys : Nat → Int32) (vfirsts : Nat → Int32) (vends : Nat → Int32) (vvalues : Nat → Int32) (vinferred : Nat → Int32) (vgone : Nat → Int32) (vmade : Int32) (fkeys : Nat → Int32) (fdays : Nat → Int32) (famounts : Nat → Int32) (fversions : Nat → Int32) (fcount : Int32) (rkeys : Nat → Int32) (rdays : Nat → Int32) (rvalues : Nat → Int32) (rcount : Int32) (wkeys : Nat → Int32) (wfirsts : Nat → Int32) (wends : Nat → Int32) (wvalues : Nat → Int32) (winferred : Nat → Int32) (wgone : Nat → Int32) (wmade : Int32) (gkeys : Nat → Int32) (gdays : Nat → Int32) (gamounts : Nat → Int32) (gversions : Nat → Int32) (gcount : Int32) (hkeys : Nat → Int32) (hdays : Nat → Int32) (hvalues : Nat → Int32) (hcount : Int32) (bkeys : Nat → Int32) (bfirsts : Nat → Int32) (bends : Nat → Int32) (bvalues : Nat → Int32) (binferred : Nat → Int32) (bgone : Nat → Int32) (bmade : Int32) (qkeys : Nat → Int32) (qdays : Nat → Int32) (qvalues : Nat → Int32) (qcount : Int32) (tcharacters : Nat → Int32) (tlength : Int32) (tplace : Int32) (mg : Nat → Int32) (mkept : Nat → Int32) (mspare : Nat → Int32) (mhasKept : Int32) (mwas : Nat → Int32) (mwasMany : Int32) (manew : Int32) (mthrown : Int32) (mtext : Nat → Int32) (mlength : Int32) (mspot : Int32) (mvalue : Int32) (merror : Int32) (mtold : Nat → Int32) (mtolds : Int32) (ov : Nat → Int64) (pv : Nat → UInt64) (H : Heap) (locs : List Loc) (ls : Array Slot) (hf : f_law_c23 k_ xs L l5 (dhasSaved, dkeptError, dmoved) () (vkeys, vfirsts, vends, vvalues, vinferred, vgone, vmade) (fkeys, fdays, famounts, fversions, fcount) (rkeys, rdays, rvalues, rcount) () (wkeys, wfirsts, wends, wvalues, winferred, wgone, wmade) (gkeys, gdays, gamounts, gversions, gcount) (hkeys, hdays, hvalues, hcount) (bkeys, bfirsts, bends, bvalues, binferred, bgone, bmade) (qkeys, qdays, qvalues, qcount) (tcharacters, tlength, tplace) (mg, mkept, mspare, mhasKept, mwas, mwasMany, manew, mthrown, mtext, mlength, mspot, mvalue, merror, mtold, mtolds) ov pv = some ()) (hP : va_P (dC, dI) vwCl (wD_ d0 s0 z0 b0 q0 t0 dhasSaved dkeptError dmoved ++ wS_ s0 v0 f0 r0 ++ wV_ v0 v_keys v_firsts v_ends v_values v_inferred v_gone cI cZ vkeys vfirsts vends vvalues vinferred vgone vmade ++ wF_ f0 f_keys f_days f_amounts f_versions cI fkeys fdays famounts fversions fcount ++ wR_ r0 r_keys r_days r_values cI rkeys rdays rvalues rcount ++ wS_ z0 w0 g0 h0 ++ wV_ w0 w_keys w_firsts w_ends w_values w_inferred w_gone cI cZ wkeys wfirsts wends wvalues winferred wgone wmade ++ wF_ g0 g_keys g_days g_amounts g_versions cI gkeys gdays gamounts gversions gcount ++ wR_ h0 h_keys h_days h_values cI hkeys hdays hvalues hcount ++ wV_ b0 b_keys b_firsts b_ends b_values b_inferred b_gone cI cZ bkeys bfirsts bends bvalues binferred bgone bmade ++ wR_ q0 q_keys q_days q_values cI qkeys qdays qvalues qcount ++ wT_ t0 t_characters cC tcharacters tlength tplace ++ wM_ m0 m_g m_kept m_spare m_was m_text m_told cI mg mkept mspare mhasKept mwas mwasMany manew mthrown mtext mlength mspot mvalue merror mtold mtolds ++ wO_ o0 cJ ov ++ wP_ p0 cD pv) H) (hD : va_D (fun q : Nat => s.heap.size ≤ q) (wD_ d0 s0 z0 b0 q0 t0 dhasSaved dkeptError dmoved ++ wS_ s0 v0 f0 r0 ++ wV_ v0 v_keys v_firsts v_ends v_values v_inferred v_gone cI cZ vkeys vfirsts vends vvalues vinferred vgone vmade ++ wF_ f0 f_keys f_days f_amounts f_versions cI fkeys fdays famounts fversions fcount ++ wR_ r0 r_keys r_days r_values cI rkeys rdays rvalues rcount ++ wS_ z0 w0 g0 h0 ++ wV_ w0 w_keys w_firsts w_ends w_values w_inferred w_gone cI cZ wkeys wfirsts wends wvalues winferred wgone wmade ++ wF_ g0 g_keys g_days g_amounts g_versions cI gkeys gdays gamounts gversions gcount ++ wR_ h0 h_keys h_days h_values cI hkeys hdays hvalues hcount ++ wV_ b0 b_keys b_firsts b_ends b_values b_inferred b_gone cI cZ bkeys bfirsts bends bvalues binferred bgone bmade ++ wR_ q0 q_keys q_days q_values cI qkeys qdays qvalues qcount ++ wT_ t0 t_characters cC tcharacters tlength tplace ++ wM_ m0 m_g m_kept m_spare m_was m_text m_told cI mg mkept mspare mhasKept mwas mwasMany manew mthrown mtext mlength mspot mvalue merror mtold mtolds ++ wO_ o0 cJ ov ++ wP_ p0 cD pv)) (hS : va_S (fun q : Nat => s.heap.size ≤ q) s.heap H locs) (hl : lv_has ls 9 [(0, .ref b), (1, .ref d0), (2, .ref m0), (3, .ref o0), (4, .ref p0), (5, .int l5)]) : W p l e room_1 s m #[Value.ref b] below meth c H locs (57 + 4 * j) (3797 + 24 * j) (lw_Z below #[Value.ref b] s) (F0 m 1371 ls []) := by
  obtain ⟨hx, hb, hr, hml, hown, -, hX, hbl, hlocks, -⟩ := C0
  have hown : s.vm.findClass RL = some m.cls := hown
  obtain ⟨hU, hN⟩ := hZ
  obtain ⟨A, hAe⟩ : ∃ A : Nat → Prop, A = (fun q : Nat => s.heap.size ≤ q) := ⟨_, rfl⟩
  rw [← hAe] at hD hS hU hN ih
  have hA : ∀ q : Nat, s.heap.size ≤ q → A q := fun q h => by rw [hAe]; exact h
  have hbA : ¬ A b := by rw [hAe]; exact Nat.not_le.mpr hbl
  unfold f_law_c23 at hf
  dsimp only at hf
  refine lv_aload_n hx hb dL_law_1371 rfl (lv_at hl 1 rfl) ?_
  refine lv_aload_n hx hb dL_law_1372 rfl (lv_at hl 0 rfl) ?_
  refine lv_iload hx hb dL_law_1373 (lv_at hl 5 rfl) ?_
  refine lv_iconst (v := 1) hx hb dL_law_1375 (by decide) ?_
  refine lv_iadd hx hb dL_law_1376 ?_
  obtain ⟨h1, hf⟩ := gd_T hf
  refine va_sld hx hb hX hbl hbA hS h1 dL_law_1377 ?_
  refine lv_aload_n hx hb dL_law_1378 rfl (lv_at hl 0 rfl) ?_
  refine lv_iload hx hb dL_law_1379 (lv_at hl 5 rfl) ?_
  refine lv_iconst (v := 2) hx hb dL_law_1381 (by decide) ?_
  refine lv_iadd hx hb dL_law_1382 ?_
  obtain ⟨h2, hf⟩ := gd_T hf
  refine va_sld hx hb hX hbl hbA hS h2 dL_law_1383 ?_
  refine lv_aload_n hx hb dL_law_1384 rfl (lv_at hl 0 rfl) ?_
  refine lv_iload hx hb dL_law_1385 (lv_at hl 5 rfl) ?_
  refine lv_iconst (v := 3) hx hb dL_law_1387 (by decide) ?_
  refine lv_iadd hx hb dL_law_1388 ?_
  obtain ⟨h3, hf⟩ := gd_T hf
  refine va_sld hx hb hX hbl hbA hS h3 dL_law_1389 ?_
  refine lv_if_eq (tgt := 1397) hx hb dL_law_1390 (by decide) (fun c4 => ?_) (fun c4 => ?_)
  · have hf := ite_T c4 hf
    refine lv_iconst (v := 0) hx hb dL_law_1397 (by decide) ?_
    refine lv_aload_n hx hb dL_law_1398 rfl (lv_at hl 3 rfl) ?_
    obtain ⟨R7, g8, hf⟩ := bd_B hf
    obtain ⟨r5, ov6⟩ := R7
    dsimp only at hf
    have hPc : va_P (dC, dI) vwCl (wD_ d0 s0 z0 b0 q0 t0 dhasSaved dkeptError dmoved ++ wS_ s0 v0 f0 r0 ++ wV_ v0 v_keys v_firsts v_ends v_values v_inferred v_gone cI cZ vkeys vfirsts vends vvalues vinferred vgone vmade ++ wF_ f0 f_keys f_days f_amounts f_versions cI fkeys fdays famounts fversions fcount ++ wR_ r0 r_keys r_days r_values cI rkeys rdays rvalues rcount ++ wO_ o0 cJ ov) H := bl_P (bp_dsvfro _ _ _ _ _ _ _ _ _ _ _ _ _ _ _) hP
    have hDc : va_D A (wD_ d0 s0 z0 b0 q0 t0 dhasSaved dkeptError dmoved ++ wS_ s0 v0 f0 r0 ++ wV_ v0 v_keys v_firsts v_ends v_values v_inferred v_gone cI cZ vkeys vfirsts vends vvalues vinferred vgone vmade ++ wF_ f0 f_keys f_days f_amounts f_versions cI fkeys fdays famounts fversions fcount ++ wR_ r0 r_keys r_days r_values cI rkeys rdays rvalues rcount ++ wO_ o0 cJ ov) := bl_D (bp_dsvfro _ _ _ _ _ _ _ _ _ _ _ _ _ _ _) hD
    have hFc : ∀ q, va_A (wD_ d0 s0 z0 b0 q0 t0 dhasSaved dkeptError dmoved ++ wS_ s0 v0 f0 r0 ++ wV_ v0 v_keys v_firsts v_ends v_values v_inferred v_gone cI cZ vkeys vfirsts vends vvalues vinferred vgone vmade ++ wF_ f0 f_keys f_days f_amounts f_versions cI fkeys fdays famounts fversions fcount ++ wR_ r0 r_keys r_days r_values cI rkeys rdays rvalues rcount ++ wO_ o0 cJ ov) H.size q → A q := bl_F (bp_dsvfro _ _ _ _ _ _ _ _ _ _ _ _ _ _ _) hD hS hA
    refine va_calli (vx_runSW (As := [.ref d0, .int (xs (l5 + 1).toNatClampNeg), .int (xs (l5 + 2).toNatClampNeg), .int 0, .ref o0]) (rest := []) ⟨hx, hb, hml, hown, hts⟩ (c_L_gapDay l dC dI cI cZ cC cJ cD hst d0 s0 z0 b0 q0 t0 v0 f0 r0 v_keys v_firsts v_ends v_values v_inferred v_gone f_keys f_days f_amounts f_versions r_keys r_days r_values o0 H.size dhasSaved dkeptError dmoved vkeys vfirsts vends vvalues vinferred vgone vmade fkeys fdays famounts fversions fcount rkeys rdays rvalues rcount ov (xs (l5 + 1).toNatClampNeg) (xs (l5 + 2).toNatClampNeg) (0 : Int32) (r5, ov6) g8) (vx_cwSW 5 hts gL_law_L_gapDay rfl rfl rfl hs_L_gapDay ⟨Nat.le_of_ble_eq_true rfl, Nat.le_of_ble_eq_true rfl⟩) (preL_ hPc hK hDc rfl hS hU hN hFc hC) rfl rfl hl.1 rfl (lv_room (Nat.le_of_ble_eq_true rfl)) dL_law_1399 ⟨by show _ ≤ 3153; omega, by show _ ≤ 122725; omega⟩) hS (fun q _ h => hFc q h) hFc (fun z10 u t H9 locs ht hvm hw hB hz1 hk1 hS => ?_)
    have hw : r5 = z10 := hw.symm
    subst hw
    obtain ⟨hP, hD⟩ : va_P (dC, dI) vwCl (wD_ d0 s0 z0 b0 q0 t0 dhasSaved dkeptError dmoved ++ wS_ s0 v0 f0 r0 ++ wV_ v0 v_keys v_firsts v_ends v_values v_inferred v_gone cI cZ vkeys vfirsts vends vvalues vinferred vgone vmade ++ wF_ f0 f_keys f_days f_amounts f_versions cI fkeys fdays famounts fversions fcount ++ wR_ r0 r_keys r_days r_values cI rkeys rdays rvalues rcount ++ wS_ z0 w0 g0 h0 ++ wV_ w0 w_keys w_firsts w_ends w_values w_inferred w_gone cI cZ wkeys wfirsts wends wvalues winferred wgone wmade ++ wF_ g0 g_keys g_days g_amounts g_versions cI gkeys gdays gamounts gversions gcount ++ wR_ h0 h_keys h_days h_values cI hkeys hdays hvalues hcount ++ wV_ b0 b_keys b_firsts b_ends b_values b_inferred b_gone cI cZ bkeys bfirsts bends bvalues binferred bgone bmade ++ wR_ q0 q_keys q_days q_values cI qkeys qdays qvalues qcount ++ wT_ t0 t_characters cC tcharacters tlength tplace ++ wM_ m0 m_g m_kept m_spare m_was m_text m_told cI mg mkept mspare mhasKept mwas mwasMany manew mthrown mtext mlength mspot mvalue merror mtold mtolds ++ wO_ o0 cJ ov6 ++ wP_ p0 cD pv) H9 ∧ va_D A (wD_ d0 s0 z0 b0 q0 t0 dhasSaved dkeptError dmoved ++ wS_ s0 v0 f0 r0 ++ wV_ v0 v_keys v_firsts v_ends v_values v_inferred v_gone cI cZ vkeys vfirsts vends vvalues vinferred vgone vmade ++ wF_ f0 f_keys f_days f_amounts f_versions cI fkeys fdays famounts fversions fcount ++ wR_ r0 r_keys r_days r_values cI rkeys rdays rvalues rcount ++ wS_ z0 w0 g0 h0 ++ wV_ w0 w_keys w_firsts w_ends w_values w_inferred w_gone cI cZ wkeys wfirsts wends wvalues winferred wgone wmade ++ wF_ g0 g_keys g_days g_amounts g_versions cI gkeys gdays gamounts gversions gcount ++ wR_ h0 h_keys h_days h_values cI hkeys hdays hvalues hcount ++ wV_ b0 b_keys b_firsts b_ends b_values b_inferred b_gone cI cZ bkeys bfirsts bends bvalues binferred bgone bmade ++ wR_ q0 q_keys q_days q_values cI qkeys qdays qvalues qcount ++ wT_ t0 t_characters cC tcharacters tlength tplace ++ wM_ m0 m_g m_kept m_spare m_was m_text m_told cI mg mkept mspare mhasKept mwas mwasMany manew mthrown mtext mlength mspot mvalue merror mtold mtolds ++ wO_ o0 cJ ov6 ++ wP_ p0 cD pv) := bl_J (bp_dsvfro _ _ _ _ _ _ _ _ _ _ _ _ _ _ _) (bp_dsvfro _ _ _ _ _ _ _ _ _ _ _ _ _ _ _) hP hD hk1 hFc hB ht
    refine lv_istore (lv' := [(6, .int r5), (0, .ref b), (1, .ref d0), (2, .ref m0), (3, .ref o0), (4, .ref p0), (5, .int l5)]) hx hb dL_law_1402 hl (by decide) rfl (fun ls hl => ?_)
    refine lv_aload_n hx hb dL_law_1404 rfl (lv_at hl 3 rfl) ?_
    refine lv_aload_n hx hb dL_law_1405 rfl (lv_at hl 1 rfl) ?_
    refine lv_iload hx hb dL_law_1406 (lv_at hl 6 rfl) ?_
    refine lv_iconst (v := 1) hx hb dL_law_1408 (by decide) ?_
    refine lv_iadd hx hb dL_law_1409 ?_
    obtain ⟨h11, hf⟩ := gd_T hf
    refine va_sld hx hb hX hbl hbA hS h11 dL_law_1410 ?_
    refine lv_aload_n hx hb dL_law_1411 rfl (lv_at hl 1 rfl) ?_
    refine lv_iload hx hb dL_law_1412 (lv_at hl 6 rfl) ?_
    refine lv_iconst (v := 2) hx hb dL_law_1414 (by decide) ?_
    refine lv_iadd hx hb dL_law_1415 ?_
    obtain ⟨h12, hf⟩ := gd_T hf
    refine va_sld hx hb hX hbl hbA hS h12 dL_law_1416 ?_
    refine lv_aload_n hx hb dL_law_1417 rfl (lv_at hl 1 rfl) ?_
    refine lv_iload hx hb dL_law_1418 (lv_at hl 6 rfl) ?_
    refine lv_iconst (v := 3) hx hb dL_law_1420 (by decide) ?_
    refine lv_iadd hx hb dL_law_1421 ?_
    obtain ⟨h13, hf⟩ := gd_T hf
    refine va_sld hx hb hX hbl hbA hS h13 dL_law_1422 ?_
    refine lv_if_eq (tgt := 1430) hx hb dL_law_1423 (by decide) (fun c14 => ?_) (fun c14 => ?_)
    · have hf := ite_T c14 hf
      refine lv_iconst (v := 0) hx hb dL_law_1430 (by decide) ?_
      obtain ⟨R31, g32, hf⟩ := bd_B hf
      obtain ⟨r15, ⟨mg16, mk17, ms18, mh19, mw20, mw21, ma22, mt23, mt24, ml25, ms26, mv27, me28, mt29, mt30⟩⟩ := R31
      dsimp only at hf
      have hPc : va_P (dC, dI) vwCl (wM_ m0 m_g m_kept m_spare m_was m_text m_told cI mg mkept mspare mhasKept mwas mwasMany manew mthrown mtext mlength mspot mvalue merror mtold mtolds) H9 := bl_P (bp_m _ _ _ _ _ _ _ _ _ _ _ _ _ _ _) hP
      have hDc : va_D A (wM_ m0 m_g m_kept m_spare m_was m_text m_told cI mg mkept mspare mhasKept mwas mwasMany manew mthrown mtext mlength mspot mvalue merror mtold mtolds) := bl_D (bp_m _ _ _ _ _ _ _ _ _ _ _ _ _ _ _) hD
      have hFc : ∀ q, va_A (wM_ m0 m_g m_kept m_spare m_was m_text m_told cI mg mkept mspare mhasKept mwas mwasMany manew mthrown mtext mlength mspot mvalue merror mtold mtolds) H9.size q → A q := bl_F (bp_m _ _ _ _ _ _ _ _ _ _ _ _ _ _ _) hD hS hA
      refine va_calli (va_runV (As := [.int (xs (l5 + 1).toNatClampNeg), .int (xs (l5 + 2).toNatClampNeg), .int 0]) (rest := []) ⟨hx, hb, hml, hown, hts⟩ (c_X6_gapDay l dC dI cI cZ cC cJ cD m0 m_g m_kept m_spare m_was m_text m_told H9.size mg mkept mspare mhasKept mwas mwasMany manew mthrown mtext mlength mspot mvalue merror mtold mtolds (xs (l5 + 1).toNatClampNeg) (xs (l5 + 2).toNatClampNeg) (0 : Int32) (r15, (mg16, mk17, ms18, mh19, mw20, mw21, ma22, mt23, mt24, ml25, ms26, mv27, me28, mt29, mt30)) g32) (cwV 3 hts gL_law_X6_gapDay rfl rfl rfl hs_X6_gapDay ⟨Nat.le_of_ble_eq_true rfl, Nat.le_of_ble_eq_true rfl⟩) (preV_ (ci := 8) (q0 := 0) hPc hK hDc rfl rfl rfl rfl) rfl rfl hl.1 rfl (lv_room (Nat.le_of_ble_eq_true rfl)) dL_law_1431 ⟨by show _ ≤ 3153; omega, by show _ ≤ 122725; omega⟩) hS (fun q _ h => hFc q h) hFc (fun z34 u t H33 locs ht hvm hw hB hz1 hk1 hS => ?_)
      have hw : r15 = z34 := hw.symm
      subst hw
      obtain ⟨hP, hD⟩ : va_P (dC, dI) vwCl (wD_ d0 s0 z0 b0 q0 t0 dhasSaved dkeptError dmoved ++ wS_ s0 v0 f0 r0 ++ wV_ v0 v_keys v_firsts v_ends v_values v_inferred v_gone cI cZ vkeys vfirsts vends vvalues vinferred vgone vmade ++ wF_ f0 f_keys f_days f_amounts f_versions cI fkeys fdays famounts fversions fcount ++ wR_ r0 r_keys r_days r_values cI rkeys rdays rvalues rcount ++ wS_ z0 w0 g0 h0 ++ wV_ w0 w_keys w_firsts w_ends w_values w_inferred w_gone cI cZ wkeys wfirsts wends wvalues winferred wgone wmade ++ wF_ g0 g_keys g_days g_amounts g_versions cI gkeys gdays gamounts gversions gcount ++ wR_ h0 h_keys h_days h_values cI hkeys hdays hvalues hcount ++ wV_ b0 b_keys b_firsts b_ends b_values b_inferred b_gone cI cZ bkeys bfirsts bends bvalues binferred bgone bmade ++ wR_ q0 q_keys q_days q_values cI qkeys qdays qvalues qcount ++ wT_ t0 t_characters cC tcharacters tlength tplace ++ wM_ m0 m_g m_kept m_spare m_was m_text m_told cI mg16 mk17 ms18 mh19 mw20 mw21 ma22 mt23 mt24 ml25 ms26 mv27 me28 mt29 mt30 ++ wO_ o0 cJ ov6 ++ wP_ p0 cD pv) H33 ∧ va_D A (wD_ d0 s0 z0 b0 q0 t0 dhasSaved dkeptError dmoved ++ wS_ s0 v0 f0 r0 ++ wV_ v0 v_keys v_firsts v_ends v_values v_inferred v_gone cI cZ vkeys vfirsts vends vvalues vinferred vgone vmade ++ wF_ f0 f_keys f_days f_amounts f_versions cI fkeys fdays famounts fversions fcount ++ wR_ r0 r_keys r_days r_values cI rkeys rdays rvalues rcount ++ wS_ z0 w0 g0 h0 ++ wV_ w0 w_keys w_firsts w_ends w_values w_inferred w_gone cI cZ wkeys wfirsts wends wvalues winferred wgone wmade ++ wF_ g0 g_keys g_days g_amounts g_versions cI gkeys gdays gamounts gversions gcount ++ wR_ h0 h_keys h_days h_values cI hkeys hdays hvalues hcount ++ wV_ b0 b_keys b_firsts b_ends b_values b_inferred b_gone cI cZ bkeys bfirsts bends bvalues binferred bgone bmade ++ wR_ q0 q_keys q_days q_values cI qkeys qdays qvalues qcount ++ wT_ t0 t_characters cC tcharacters tlength tplace ++ wM_ m0 m_g m_kept m_spare m_was m_text m_told cI mg16 mk17 ms18 mh19 mw20 mw21 ma22 mt23 mt24 ml25 ms26 mv27 me28 mt29 mt30 ++ wO_ o0 cJ ov6 ++ wP_ p0 cD pv) := bl_J (bp_m _ _ _ _ _ _ _ _ _ _ _ _ _ _ _) (bp_m _ _ _ _ _ _ _ _ _ _ _ _ _ _ _) hP hD hk1 hFc hB ht
      refine lv_istore (lv' := [(7, .int r15), (6, .int r5), (0, .ref b), (1, .ref d0), (2, .ref m0), (3, .ref o0), (4, .ref p0), (5, .int l5)]) hx hb dL_law_1434 hl (by decide) rfl (fun ls hl => ?_)
      refine lv_aload_n hx hb dL_law_1436 rfl (lv_at hl 4 rfl) ?_
      obtain ⟨R36, g37, hf⟩ := bd_B hf
      obtain ⟨r35, rfl⟩ : ∃ z, z = R36 := ⟨_, rfl⟩
      have hPc : va_P (dC, dI) vwCl (wM_ m0 m_g m_kept m_spare m_was m_text m_told cI mg16 mk17 ms18 mh19 mw20 mw21 ma22 mt23 mt24 ml25 ms26 mv27 me28 mt29 mt30) H33 := bl_P (bp_m _ _ _ _ _ _ _ _ _ _ _ _ _ _ _) hP
      have hDc : va_D A (wM_ m0 m_g m_kept m_spare m_was m_text m_told cI mg16 mk17 ms18 mh19 mw20 mw21 ma22 mt23 mt24 ml25 ms26 mv27 me28 mt29 mt30) := bl_D (bp_m _ _ _ _ _ _ _ _ _ _ _ _ _ _ _) hD
      have hFc : ∀ q, va_A (wM_ m0 m_g m_kept m_spare m_was m_text m_told cI mg16 mk17 ms18 mh19 mw20 mw21 ma22 mt23 mt24 ml25 ms26 mv27 me28 mt29 mt30) H33.size q → A q := bl_F (bp_m _ _ _ _ _ _ _ _ _ _ _ _ _ _ _) hD hS hA
      refine va_calli (va_runV (As := []) (rest := []) ⟨hx, hb, hml, hown, hts⟩ (c_X6_thrown l dC dI cI cZ cC cJ cD m0 m_g m_kept m_spare m_was m_text m_told H33.size mg16 mk17 ms18 mh19 mw20 mw21 ma22 mt23 mt24 ml25 ms26 mv27 me28 mt29 mt30 r35 g37) (cwV 0 hts gL_law_X6_thrown rfl rfl rfl hs_X6_thrown ⟨Nat.le_of_ble_eq_true rfl, Nat.le_of_ble_eq_true rfl⟩) (preV_ (ci := 8) (q0 := 0) hPc hK hDc rfl rfl rfl rfl) rfl rfl hl.1 rfl (lv_room (Nat.le_of_ble_eq_true rfl)) dL_law_1437 ⟨by show _ ≤ 3153; omega, by show _ ≤ 122725; omega⟩) hS (fun q _ h => hFc q h) hFc (fun z39 u t H38 locs ht hvm hw hB hz1 hk1 hS => ?_)
      have hw : r35 = z39 := hw.symm
      subst hw
      obtain ⟨hP, hD⟩ : va_P (dC, dI) vwCl (wD_ d0 s0 z0 b0 q0 t0 dhasSaved dkeptError dmoved ++ wS_ s0 v0 f0 r0 ++ wV_ v0 v_keys v_firsts v_ends v_values v_inferred v_gone cI cZ vkeys vfirsts vends vvalues vinferred vgone vmade ++ wF_ f0 f_keys f_days f_amounts f_versions cI fkeys fdays famounts fversions fcount ++ wR_ r0 r_keys r_days r_values cI rkeys rdays rvalues rcount ++ wS_ z0 w0 g0 h0 ++ wV_ w0 w_keys w_firsts w_ends w_values w_inferred w_gone cI cZ wkeys wfirsts wends wvalues winferred wgone wmade ++ wF_ g0 g_keys g_days g_amounts g_versions cI gkeys gdays gamounts gversions gcount ++ wR_ h0 h_keys h_days h_values cI hkeys hdays hvalues hcount ++ wV_ b0 b_keys b_firsts b_ends b_values b_inferred b_gone cI cZ bkeys bfirsts bends bvalues binferred bgone bmade ++ wR_ q0 q_keys q_days q_values cI qkeys qdays qvalues qcount ++ wT_ t0 t_characters cC tcharacters tlength tplace ++ wM_ m0 m_g m_kept m_spare m_was m_text m_told cI mg16 mk17 ms18 mh19 mw20 mw21 ma22 mt23 mt24 ml25 ms26 mv27 me28 mt29 mt30 ++ wO_ o0 cJ ov6 ++ wP_ p0 cD pv) H38 ∧ va_D A (wD_ d0 s0 z0 b0 q0 t0 dhasSaved dkeptError dmoved ++ wS_ s0 v0 f0 r0 ++ wV_ v0 v_keys v_firsts v_ends v_values v_inferred v_gone cI cZ vkeys vfirsts vends vvalues vinferred vgone vmade ++ wF_ f0 f_keys f_days f_amounts f_versions cI fkeys fdays famounts fversions fcount ++ wR_ r0 r_keys r_days r_values cI rkeys rdays rvalues rcount ++ wS_ z0 w0 g0 h0 ++ wV_ w0 w_keys w_firsts w_ends w_values w_inferred w_gone cI cZ wkeys wfirsts wends wvalues winferred wgone wmade ++ wF_ g0 g_keys g_days g_amounts g_versions cI gkeys gdays gamounts gversions gcount ++ wR_ h0 h_keys h_days h_values cI hkeys hdays hvalues hcount ++ wV_ b0 b_keys b_firsts b_ends b_values b_inferred b_gone cI cZ bkeys bfirsts bends bvalues binferred bgone bmade ++ wR_ q0 q_keys q_days q_values cI qkeys qdays qvalues qcount ++ wT_ t0 t_characters cC tcharacters tlength tplace ++ wM_ m0 m_g m_kept m_spare m_was m_text m_told cI mg16 mk17 ms18 mh19 mw20 mw21 ma22 mt23 mt24 ml25 ms26 mv27 me28 mt29 mt30 ++ wO_ o0 cJ ov6 ++ wP_ p0 cD pv) := bl_J (bp_m _ _ _ _ _ _ _ _ _ _ _ _ _ _ _) (bp_m _ _ _ _ _ _ _ _ _ _ _ _ _ _ _) hP hD hk1 hFc hB ht
      refine lv_iload hx hb dL_law_1440 (lv_at hl 1 rfl) ?_
      refine lv_icmp_eq (tgt := 1447) hx hb dL_law_1442 (by decide) (fun c40 => ?_) (fun c40 => ?_)
      · have hf := ite_T c40 hf
        refine lv_iload hx hb dL_law_1447 (lv_at hl 1 rfl) ?_
        refine lv_if_ne (tgt := 1464) hx hb dL_law_1449 (by decide) (fun c41 => ?_) (fun c41 => ?_)
        · have hf := ite_F c41 hf
          refine lv_goto (tgt := 2052) hx hb dL_law_1464 (by decide) ?_
          refine lv_iinc (v := l5 + 4) (lv' := [(5, .int (l5 + 4)), (7, .int r15), (6, .int r5), (0, .ref b), (1, .ref d0), (2, .ref m0), (3, .ref o0), (4, .ref p0)]) hx hb dL_law_2052 hl (k := 7) rfl (by first | rfl | decide) (by decide) rfl (fun ls hl => ?_)
          refine lv_goto (tgt := 28) hx hb dL_law_2055 (by decide) ?_
          refine W.widen (k := 57 + 4 * (j + 1)) (n := 3797 + 24 * (j + 1)) (by omega) (by omega) ?_
          exact ih dhasSaved dkeptError dmoved vkeys vfirsts vends vvalues vinferred vgone vmade fkeys fdays famounts fversions fcount rkeys rdays rvalues rcount wkeys wfirsts wends wvalues winferred wgone wmade gkeys gdays gamounts gversions gcount hkeys hdays hvalues hcount bkeys bfirsts bends bvalues binferred bgone bmade qkeys qdays qvalues qcount tcharacters tlength tplace mg16 mk17 ms18 mh19 mw20 mw21 ma22 mt23 mt24 ml25 ms26 mv27 me28 mt29 mt30 ov6 pv _ _ _ hf hP hD hS (lv_sub hl [3, 4, 5, 6, 7, 0] rfl)
        · have hf := ite_T c41 hf
          refine lv_aload_n hx hb dL_law_1452 rfl (lv_at hl 5 rfl) ?_
          refine lv_iconst (v := 0) hx hb dL_law_1453 (by decide) ?_
          have hP9 : va_P (dC, dI) vwCl (wO_ o0 cJ ov6) H38 := bl_P (bp_o _ _ _ _ _ _ _ _ _ _ _ _ _ _ _) hP
          obtain ⟨h42, hf⟩ := gd_T hf
          refine va_lald hx hb hK hP9 0 3 rfl rfl h42 dL_law_1454 ?_
          refine lv_iload hx hb dL_law_1455 (lv_at hl 0 rfl) ?_
          refine lv_i2l hx hb dL_law_1457 rfl ?_
          refine W.lcmp hx hb dL_law_1458 ?_
          refine lv_if_eq (tgt := 1464) hx hb dL_law_1459 (by decide) (fun c43 => ?_) (fun c43 => ?_)
          · have hf := ite_T c43 hf
            refine lv_goto (tgt := 2052) hx hb dL_law_1464 (by decide) ?_
            refine lv_iinc (v := l5 + 4) (lv' := [(5, .int (l5 + 4)), (7, .int r15), (6, .int r5), (0, .ref b), (1, .ref d0), (2, .ref m0), (3, .ref o0), (4, .ref p0)]) hx hb dL_law_2052 hl (k := 7) rfl (by first | rfl | decide) (by decide) rfl (fun ls hl => ?_)
            refine lv_goto (tgt := 28) hx hb dL_law_2055 (by decide) ?_
            refine W.widen (k := 57 + 4 * (j + 1)) (n := 3797 + 24 * (j + 1)) (by omega) (by omega) ?_
            exact ih dhasSaved dkeptError dmoved vkeys vfirsts vends vvalues vinferred vgone vmade fkeys fdays famounts fversions fcount rkeys rdays rvalues rcount wkeys wfirsts wends wvalues winferred wgone wmade gkeys gdays gamounts gversions gcount hkeys hdays hvalues hcount bkeys bfirsts bends bvalues binferred bgone bmade qkeys qdays qvalues qcount tcharacters tlength tplace mg16 mk17 ms18 mh19 mw20 mw21 ma22 mt23 mt24 ml25 ms26 mv27 me28 mt29 mt30 ov6 pv _ _ _ hf hP hD hS (lv_sub hl [3, 4, 5, 6, 7, 0] rfl)
          · have hf := ite_F c43 hf
            refine lv_iconst (v := 0) hx hb dL_law_1462 (by decide) ?_
            exact absurd hf (fun h => nomatch h)
      · have hf := ite_F c40 hf
        refine lv_iconst (v := 0) hx hb dL_law_1445 (by decide) ?_
        exact absurd hf (fun h => nomatch h)
    · have hf := ite_F c14 hf
      refine lv_iconst (v := 1) hx hb dL_law_1426 (by decide) ?_
      refine lv_goto (tgt := 1431) hx hb dL_law_1427 (by decide) ?_
      obtain ⟨R60, g61, hf⟩ := bd_B hf
      obtain ⟨r44, ⟨mg45, mk46, ms47, mh48, mw49, mw50, ma51, mt52, mt53, ml54, ms55, mv56, me57, mt58, mt59⟩⟩ := R60
      dsimp only at hf
      have hPc : va_P (dC, dI) vwCl (wM_ m0 m_g m_kept m_spare m_was m_text m_told cI mg mkept mspare mhasKept mwas mwasMany manew mthrown mtext mlength mspot mvalue merror mtold mtolds) H9 := bl_P (bp_m _ _ _ _ _ _ _ _ _ _ _ _ _ _ _) hP
      have hDc : va_D A (wM_ m0 m_g m_kept m_spare m_was m_text m_told cI mg mkept mspare mhasKept mwas mwasMany manew mthrown mtext mlength mspot mvalue merror mtold mtolds) := bl_D (bp_m _ _ _ _ _ _ _ _ _ _ _ _ _ _ _) hD
      have hFc : ∀ q, va_A (wM_ m0 m_g m_kept m_spare m_was m_text m_told cI mg mkept mspare mhasKept mwas mwasMany manew mthrown mtext mlength mspot mvalue merror mtold mtolds) H9.size q → A q := bl_F (bp_m _ _ _ _ _ _ _ _ _ _ _ _ _ _ _) hD hS hA
      refine va_calli (va_runV (As := [.int (xs (l5 + 1).toNatClampNeg), .int (xs (l5 + 2).toNatClampNeg), .int 1]) (rest := []) ⟨hx, hb, hml, hown, hts⟩ (c_X6_gapDay l dC dI cI cZ cC cJ cD m0 m_g m_kept m_spare m_was m_text m_told H9.size mg mkept mspare mhasKept mwas mwasMany manew mthrown mtext mlength mspot mvalue merror mtold mtolds (xs (l5 + 1).toNatClampNeg) (xs (l5 + 2).toNatClampNeg) (1 : Int32) (r44, (mg45, mk46, ms47, mh48, mw49, mw50, ma51, mt52, mt53, ml54, ms55, mv56, me57, mt58, mt59)) g61) (cwV 3 hts gL_law_X6_gapDay rfl rfl rfl hs_X6_gapDay ⟨Nat.le_of_ble_eq_true rfl, Nat.le_of_ble_eq_true rfl⟩) (preV_ (ci := 8) (q0 := 0) hPc hK hDc rfl rfl rfl rfl) rfl rfl hl.1 rfl (lv_room (Nat.le_of_ble_eq_true rfl)) dL_law_1431 ⟨by show _ ≤ 3153; omega, by show _ ≤ 122725; omega⟩) hS (fun q _ h => hFc q h) hFc (fun z63 u t H62 locs ht hvm hw hB hz1 hk1 hS => ?_)
      have hw : r44 = z63 := hw.symm
      subst hw
      obtain ⟨hP, hD⟩ : va_P (dC, dI) vwCl (wD_ d0 s0 z0 b0 q0 t0 dhasSaved dkeptError dmoved ++ wS_ s0 v0 f0 r0 ++ wV_ v0 v_keys v_firsts v_ends v_values v_inferred v_gone cI cZ vkeys vfirsts vends vvalues vinferred vgone vmade ++ wF_ f0 f_keys f_days f_amounts f_versions cI fkeys fdays famounts fversions fcount ++ wR_ r0 r_keys r_days r_values cI rkeys rdays rvalues rcount ++ wS_ z0 w0 g0 h0 ++ wV_ w0 w_keys w_firsts w_ends w_values w_inferred w_gone cI cZ wkeys wfirsts wends wvalues winferred wgone wmade ++ wF_ g0 g_keys g_days g_amounts g_versions cI gkeys gdays gamounts gversions gcount ++ wR_ h0 h_keys h_days h_values cI hkeys hdays hvalues hcount ++ wV_ b0 b_keys b_firsts b_ends b_values b_inferred b_gone cI cZ bkeys bfirsts bends bvalues binferred bgone bmade ++ wR_ q0 q_keys q_days q_values cI qkeys qdays qvalues qcount ++ wT_ t0 t_characters cC tcharacters tlength tplace ++ wM_ m0 m_g m_kept m_spare m_was m_text m_told cI mg45 mk46 ms47 mh48 mw49 mw50 ma51 mt52 mt53 ml54 ms55 mv56 me57 mt58 mt59 ++ wO_ o0 cJ ov6 ++ wP_ p0 cD pv) H62 ∧ va_D A (wD_ d0 s0 z0 b0 q0 t0 dhasSaved dkeptError dmoved ++ wS_ s0 v0 f0 r0 ++ wV_ v0 v_keys v_firsts v_ends v_values v_inferred v_gone cI cZ vkeys vfirsts vends vvalues vinferred vgone vmade ++ wF_ f0 f_keys f_days f_amounts f_versions cI fkeys fdays famounts fversions fcount ++ wR_ r0 r_keys r_days r_values cI rkeys rdays rvalues rcount ++ wS_ z0 w0 g0 h0 ++ wV_ w0 w_keys w_firsts w_ends w_values w_inferred w_gone cI cZ wkeys wfirsts wends wvalues winferred wgone wmade ++ wF_ g0 g_keys g_days g_amounts g_versions cI gkeys gdays gamounts gversions gcount ++ wR_ h0 h_keys h_days h_values cI hkeys hdays hvalues hcount ++ wV_ b0 b_keys b_firsts b_ends b_values b_inferred b_gone cI cZ bkeys bfirsts bends bvalues binferred bgone bmade ++ wR_ q0 q_keys q_days q_values cI qkeys qdays qvalues qcount ++ wT_ t0 t_characters cC tcharacters tlength tplace ++ wM_ m0 m_g m_kept m_spare m_was m_text m_told cI mg45 mk46 ms47 mh48 mw49 mw50 ma51 mt52 mt53 ml54 ms55 mv56 me57 mt58 mt59 ++ wO_ o0 cJ ov6 ++ wP_ p0 cD pv) := bl_J (bp_m _ _ _ _ _ _ _ _ _ _ _ _ _ _ _) (bp_m _ _ _ _ _ _ _ _ _ _ _ _ _ _ _) hP hD hk1 hFc hB ht
      refine lv_istore (lv' := [(7, .int r44), (6, .int r5), (0, .ref b), (1, .ref d0), (2, .ref m0), (3, .ref o0), (4, .ref p0), (5, .int l5)]) hx hb dL_law_1434 hl (by decide) rfl (fun ls hl => ?_)
      refine lv_aload_n hx hb dL_law_1436 rfl (lv_at hl 4 rfl) ?_
      obtain ⟨R65, g66, hf⟩ := bd_B hf
      obtain ⟨r64, rfl⟩ : ∃ z, z = R65 := ⟨_, rfl⟩
      have hPc : va_P (dC, dI) vwCl (wM_ m0 m_g m_kept m_spare m_was m_text m_told cI mg45 mk46 ms47 mh48 mw49 mw50 ma51 mt52 mt53 ml54 ms55 mv56 me57 mt58 mt59) H62 := bl_P (bp_m _ _ _ _ _ _ _ _ _ _ _ _ _ _ _) hP
      have hDc : va_D A (wM_ m0 m_g m_kept m_spare m_was m_text m_told cI mg45 mk46 ms47 mh48 mw49 mw50 ma51 mt52 mt53 ml54 ms55 mv56 me57 mt58 mt59) := bl_D (bp_m _ _ _ _ _ _ _ _ _ _ _ _ _ _ _) hD
      have hFc : ∀ q, va_A (wM_ m0 m_g m_kept m_spare m_was m_text m_told cI mg45 mk46 ms47 mh48 mw49 mw50 ma51 mt52 mt53 ml54 ms55 mv56 me57 mt58 mt59) H62.size q → A q := bl_F (bp_m _ _ _ _ _ _ _ _ _ _ _ _ _ _ _) hD hS hA
      refine va_calli (va_runV (As := []) (rest := []) ⟨hx, hb, hml, hown, hts⟩ (c_X6_thrown l dC dI cI cZ cC cJ cD m0 m_g m_kept m_spare m_was m_text m_told H62.size mg45 mk46 ms47 mh48 mw49 mw50 ma51 mt52 mt53 ml54 ms55 mv56 me57 mt58 mt59 r64 g66) (cwV 0 hts gL_law_X6_thrown rfl rfl rfl hs_X6_thrown ⟨Nat.le_of_ble_eq_true rfl, Nat.le_of_ble_eq_true rfl⟩) (preV_ (ci := 8) (q0 := 0) hPc hK hDc rfl rfl rfl rfl) rfl rfl hl.1 rfl (lv_room (Nat.le_of_ble_eq_true rfl)) dL_law_1437 ⟨by show _ ≤ 3153; omega, by show _ ≤ 122725; omega⟩) hS (fun q _ h => hFc q h) hFc (fun z68 u t H67 locs ht hvm hw hB hz1 hk1 hS => ?_)
      have hw : r64 = z68 := hw.symm
      subst hw
      obtain ⟨hP, hD⟩ : va_P (dC, dI) vwCl (wD_ d0 s0 z0 b0 q0 t0 dhasSaved dkeptError dmoved ++ wS_ s0 v0 f0 r0 ++ wV_ v0 v_keys v_firsts v_ends v_values v_inferred v_gone cI cZ vkeys vfirsts vends vvalues vinferred vgone vmade ++ wF_ f0 f_keys f_days f_amounts f_versions cI fkeys fdays famounts fversions fcount ++ wR_ r0 r_keys r_days r_values cI rkeys rdays rvalues rcount ++ wS_ z0 w0 g0 h0 ++ wV_ w0 w_keys w_firsts w_ends w_values w_inferred w_gone cI cZ wkeys wfirsts wends wvalues winferred wgone wmade ++ wF_ g0 g_keys g_days g_amounts g_versions cI gkeys gdays gamounts gversions gcount ++ wR_ h0 h_keys h_days h_values cI hkeys hdays hvalues hcount ++ wV_ b0 b_keys b_firsts b_ends b_values b_inferred b_gone cI cZ bkeys bfirsts bends bvalues binferred bgone bmade ++ wR_ q0 q_keys q_days q_values cI qkeys qdays qvalues qcount ++ wT_ t0 t_characters cC tcharacters tlength tplace ++ wM_ m0 m_g m_kept m_spare m_was m_text m_told cI mg45 mk46 ms47 mh48 mw49 mw50 ma51 mt52 mt53 ml54 ms55 mv56 me57 mt58 mt59 ++ wO_ o0 cJ ov6 ++ wP_ p0 cD pv) H67 ∧ va_D A (wD_ d0 s0 z0 b0 q0 t0 dhasSaved dkeptError dmoved ++ wS_ s0 v0 f0 r0 ++ wV_ v0 v_keys v_firsts v_ends v_values v_inferred v_gone cI cZ vkeys vfirsts vends vvalues vinferred vgone vmade ++ wF_ f0 f_keys f_days f_amounts f_versions cI fkeys fdays famounts fversions fcount ++ wR_ r0 r_keys r_days r_values cI rkeys rdays rvalues rcount ++ wS_ z0 w0 g0 h0 ++ wV_ w0 w_keys w_firsts w_ends w_values w_inferred w_gone cI cZ wkeys wfirsts wends wvalues winferred wgone wmade ++ wF_ g0 g_keys g_days g_amounts g_versions cI gkeys gdays gamounts gversions gcount ++ wR_ h0 h_keys h_days h_values cI hkeys hdays hvalues hcount ++ wV_ b0 b_keys b_firsts b_ends b_values b_inferred b_gone cI cZ bkeys bfirsts bends bvalues binferred bgone bmade ++ wR_ q0 q_keys q_days q_values cI qkeys qdays qvalues qcount ++ wT_ t0 t_characters cC tcharacters tlength tplace ++ wM_ m0 m_g m_kept m_spare m_was m_text m_told cI mg45 mk46 ms47 mh48 mw49 mw50 ma51 mt52 mt53 ml54 ms55 mv56 me57 mt58 mt59 ++ wO_ o0 cJ ov6 ++ wP_ p0 cD pv) := bl_J (bp_m _ _ _ _ _ _ _ _ _ _ _ _ _ _ _) (bp_m _ _ _ _ _ _ _ _ _ _ _ _ _ _ _) hP hD hk1 hFc hB ht
      refine lv_iload hx hb dL_law_1440 (lv_at hl 1 rfl) ?_
      refine lv_icmp_eq (tgt := 1447) hx hb dL_law_1442 (by decide) (fun c69 => ?_) (fun c69 => ?_)
      · have hf := ite_T c69 hf
        refine lv_iload hx hb dL_law_1447 (lv_at hl 1 rfl) ?_
        refine lv_if_ne (tgt := 1464) hx hb dL_law_1449 (by decide) (fun c70 => ?_) (fun c70 => ?_)
        · have hf := ite_F c70 hf
          refine lv_goto (tgt := 2052) hx hb dL_law_1464 (by decide) ?_
          refine lv_iinc (v := l5 + 4) (lv' := [(5, .int (l5 + 4)), (7, .int r44), (6, .int r5), (0, .ref b), (1, .ref d0), (2, .ref m0), (3, .ref o0), (4, .ref p0)]) hx hb dL_law_2052 hl (k := 7) rfl (by first | rfl | decide) (by decide) rfl (fun ls hl => ?_)
          refine lv_goto (tgt := 28) hx hb dL_law_2055 (by decide) ?_
          refine W.widen (k := 57 + 4 * (j + 1)) (n := 3797 + 24 * (j + 1)) (by omega) (by omega) ?_
          exact ih dhasSaved dkeptError dmoved vkeys vfirsts vends vvalues vinferred vgone vmade fkeys fdays famounts fversions fcount rkeys rdays rvalues rcount wkeys wfirsts wends wvalues winferred wgone wmade gkeys gdays gamounts gversions gcount hkeys hdays hvalues hcount bkeys bfirsts bends bvalues binferred bgone bmade qkeys qdays qvalues qcount tcharacters tlength tplace mg45 mk46 ms47 mh48 mw49 mw50 ma51 mt52 mt53 ml54 ms55 mv56 me57 mt58 mt59 ov6 pv _ _ _ hf hP hD hS (lv_sub hl [3, 4, 5, 6, 7, 0] rfl)
        · have hf := ite_T c70 hf
          refine lv_aload_n hx hb dL_law_1452 rfl (lv_at hl 5 rfl) ?_
          refine lv_iconst (v := 0) hx hb dL_law_1453 (by decide) ?_
          have hP9 : va_P (dC, dI) vwCl (wO_ o0 cJ ov6) H67 := bl_P (bp_o _ _ _ _ _ _ _ _ _ _ _ _ _ _ _) hP
          obtain ⟨h71, hf⟩ := gd_T hf
          refine va_lald hx hb hK hP9 0 3 rfl rfl h71 dL_law_1454 ?_
          refine lv_iload hx hb dL_law_1455 (lv_at hl 0 rfl) ?_
          refine lv_i2l hx hb dL_law_1457 rfl ?_
          refine W.lcmp hx hb dL_law_1458 ?_
          refine lv_if_eq (tgt := 1464) hx hb dL_law_1459 (by decide) (fun c72 => ?_) (fun c72 => ?_)
          · have hf := ite_T c72 hf
            refine lv_goto (tgt := 2052) hx hb dL_law_1464 (by decide) ?_
            refine lv_iinc (v := l5 + 4) (lv' := [(5, .int (l5 + 4)), (7, .int r44), (6, .int r5), (0, .ref b), (1, .ref d0), (2, .ref m0), (3, .ref o0), (4, .ref p0)]) hx hb dL_law_2052 hl (k := 7) rfl (by first | rfl | decide) (by decide) rfl (fun ls hl => ?_)
            refine lv_goto (tgt := 28) hx hb dL_law_2055 (by decide) ?_
            refine W.widen (k := 57 + 4 * (j + 1)) (n := 3797 + 24 * (j + 1)) (by omega) (by omega) ?_
            exact ih dhasSaved dkeptError dmoved vkeys vfirsts vends vvalues vinferred vgone vmade fkeys fdays famounts fversions fcount rkeys rdays rvalues rcount wkeys wfirsts wends wvalues winferred wgone wmade gkeys gdays gamounts gversions gcount hkeys hdays hvalues hcount bkeys bfirsts bends bvalues binferred bgone bmade qkeys qdays qvalues qcount tcharacters tlength tplace mg45 mk46 ms47 mh48 mw49 mw50 ma51 mt52 mt53 ml54 ms55 mv56 me57 mt58 mt59 ov6 pv _ _ _ hf hP hD hS (lv_sub hl [3, 4, 5, 6, 7, 0] rfl)
          · have hf := ite_F c72 hf
            refine lv_iconst (v := 0) hx hb dL_law_1462 (by decide) ?_
            exact absurd hf (fun h => nomatch h)
      · have hf := ite_F c69 hf
        refine lv_iconst (v := 0) hx hb dL_law_1445 (by decide) ?_
        exact absurd hf (fun h => nomatch h)
  · have hf := ite_F c4 hf
    refine lv_iconst (v := 1) hx hb dL_law_1393 (by decide) ?_
    refine lv_goto (tgt := 1398) hx hb dL_law_1394 (by decide) ?_
    refine lv_aload_n hx hb dL_law_1398 rfl (lv_at hl 3 rfl) ?_
    obtain ⟨R75, g76, hf⟩ := bd_B hf
    obtain ⟨r73, ov74⟩ := R75
    dsimp only at hf
    have hPc : va_P (dC, dI) vwCl (wD_ d0 s0 z0 b0 q0 t0 dhasSaved dkeptError dmoved ++ wS_ s0 v0 f0 r0 ++ wV_ v0 v_keys v_firsts v_ends v_values v_inferred v_gone cI cZ vkeys vfirsts vends vvalues vinferred vgone vmade ++ wF_ f0 f_keys f_days f_amounts f_versions cI fkeys fdays famounts fversions fcount ++ wR_ r0 r_keys r_days r_values cI rkeys rdays rvalues rcount ++ wO_ o0 cJ ov) H := bl_P (bp_dsvfro _ _ _ _ _ _ _ _ _ _ _ _ _ _ _) hP
    have hDc : va_D A (wD_ d0 s0 z0 b0 q0 t0 dhasSaved dkeptError dmoved ++ wS_ s0 v0 f0 r0 ++ wV_ v0 v_keys v_firsts v_ends v_values v_inferred v_gone cI cZ vkeys vfirsts vends vvalues vinferred vgone vmade ++ wF_ f0 f_keys f_days f_amounts f_versions cI fkeys fdays famounts fversions fcount ++ wR_ r0 r_keys r_days r_values cI rkeys rdays rvalues rcount ++ wO_ o0 cJ ov) := bl_D (bp_dsvfro _ _ _ _ _ _ _ _ _ _ _ _ _ _ _) hD
    have hFc : ∀ q, va_A (wD_ d0 s0 z0 b0 q0 t0 dhasSaved dkeptError dmoved ++ wS_ s0 v0 f0 r0 ++ wV_ v0 v_keys v_firsts v_ends v_values v_inferred v_gone cI cZ vkeys vfirsts vends vvalues vinferred vgone vmade ++ wF_ f0 f_keys f_days f_amounts f_versions cI fkeys fdays famounts fversions fcount ++ wR_ r0 r_keys r_days r_values cI rkeys rdays rvalues rcount ++ wO_ o0 cJ ov) H.size q → A q := bl_F (bp_dsvfro _ _ _ _ _ _ _ _ _ _ _ _ _ _ _) hD hS hA
    refine va_calli (vx_runSW (As := [.ref d0, .int (xs (l5 + 1).toNatClampNeg), .int (xs (l5 + 2).toNatClampNeg), .int 1, .ref o0]) (rest := []) ⟨hx, hb, hml, hown, hts⟩ (c_L_gapDay l dC dI cI cZ cC cJ cD hst d0 s0 z0 b0 q0 t0 v0 f0 r0 v_keys v_firsts v_ends v_values v_inferred v_gone f_keys f_days f_amounts f_versions r_keys r_days r_values o0 H.size dhasSaved dkeptError dmoved vkeys vfirsts vends vvalues vinferred vgone vmade fkeys fdays famounts fversions fcount rkeys rdays rvalues rcount ov (xs (l5 + 1).toNatClampNeg) (xs (l5 + 2).toNatClampNeg) (1 : Int32) (r73, ov74) g76) (vx_cwSW 5 hts gL_law_L_gapDay rfl rfl rfl hs_L_gapDay ⟨Nat.le_of_ble_eq_true rfl, Nat.le_of_ble_eq_true rfl⟩) (preL_ hPc hK hDc rfl hS hU hN hFc hC) rfl rfl hl.1 rfl (lv_room (Nat.le_of_ble_eq_true rfl)) dL_law_1399 ⟨by show _ ≤ 3153; omega, by show _ ≤ 122725; omega⟩) hS (fun q _ h => hFc q h) hFc (fun z78 u t H77 locs ht hvm hw hB hz1 hk1 hS => ?_)
    have hw : r73 = z78 := hw.symm
    subst hw
    obtain ⟨hP, hD⟩ : va_P (dC, dI) vwCl (wD_ d0 s0 z0 b0 q0 t0 dhasSaved dkeptError dmoved ++ wS_ s0 v0 f0 r0 ++ wV_ v0 v_keys v_firsts v_ends v_values v_inferred v_gone cI cZ vkeys vfirsts vends vvalues vinferred vgone vmade ++ wF_ f0 f_keys f_days f_amounts f_versions cI fkeys fdays famounts fversions fcount ++ wR_ r0 r_keys r_days r_values cI rkeys rdays rvalues rcount ++ wS_ z0 w0 g0 h0 ++ wV_ w0 w_keys w_firsts w_ends w_values w_inferred w_gone cI cZ wkeys wfirsts wends wvalues winferred wgone wmade ++ wF_ g0 g_keys g_days g_amounts g_versions cI gkeys gdays gamounts gversions gcount ++ wR_ h0 h_keys h_days h_values cI hkeys hdays hvalues hcount ++ wV_ b0 b_keys b_firsts b_ends b_values b_inferred b_gone cI cZ bkeys bfirsts bends bvalues binferred bgone bmade ++ wR_ q0 q_keys q_days q_values cI qkeys qdays qvalues qcount ++ wT_ t0 t_characters cC tcharacters tlength tplace ++ wM_ m0 m_g m_kept m_spare m_was m_text m_told cI mg mkept mspare mhasKept mwas mwasMany manew mthrown mtext mlength mspot mvalue merror mtold mtolds ++ wO_ o0 cJ ov74 ++ wP_ p0 cD pv) H77 ∧ va_D A (wD_ d0 s0 z0 b0 q0 t0 dhasSaved dkeptError dmoved ++ wS_ s0 v0 f0 r0 ++ wV_ v0 v_keys v_firsts v_ends v_values v_inferred v_gone cI cZ vkeys vfirsts vends vvalues vinferred vgone vmade ++ wF_ f0 f_keys f_days f_amounts f_versions cI fkeys fdays famounts fversions fcount ++ wR_ r0 r_keys r_days r_values cI rkeys rdays rvalues rcount ++ wS_ z0 w0 g0 h0 ++ wV_ w0 w_keys w_firsts w_ends w_values w_inferred w_gone cI cZ wkeys wfirsts wends wvalues winferred wgone wmade ++ wF_ g0 g_keys g_days g_amounts g_versions cI gkeys gdays gamounts gversions gcount ++ wR_ h0 h_keys h_days h_values cI hkeys hdays hvalues hcount ++ wV_ b0 b_keys b_firsts b_ends b_values b_inferred b_gone cI cZ bkeys bfirsts bends bvalues binferred bgone bmade ++ wR_ q0 q_keys q_days q_values cI qkeys qdays qvalues qcount ++ wT_ t0 t_characters cC tcharacters tlength tplace ++ wM_ m0 m_g m_kept m_spare m_was m_text m_told cI mg mkept mspare mhasKept mwas mwasMany manew mthrown mtext mlength mspot mvalue merror mtold mtolds ++ wO_ o0 cJ ov74 ++ wP_ p0 cD pv) := bl_J (bp_dsvfro _ _ _ _ _ _ _ _ _ _ _ _ _ _ _) (bp_dsvfro _ _ _ _ _ _ _ _ _ _ _ _ _ _ _) hP hD hk1 hFc hB ht
    refine lv_istore (lv' := [(6, .int r73), (0, .ref b), (1, .ref d0), (2, .ref m0), (3, .ref o0), (4, .ref p0), (5, .int l5)]) hx hb dL_law_1402 hl (by decide) rfl (fun ls hl => ?_)
    refine lv_aload_n hx hb dL_law_1404 rfl (lv_at hl 3 rfl) ?_
    refine lv_aload_n hx hb dL_law_1405 rfl (lv_at hl 1 rfl) ?_
    refine lv_iload hx hb dL_law_1406 (lv_at hl 6 rfl) ?_
    refine lv_iconst (v := 1) hx hb dL_law_1408 (by decide) ?_
    refine lv_iadd hx hb dL_law_1409 ?_
    obtain ⟨h79, hf⟩ := gd_T hf
    refine va_sld hx hb hX hbl hbA hS h79 dL_law_1410 ?_
    refine lv_aload_n hx hb dL_law_1411 rfl (lv_at hl 1 rfl) ?_
    refine lv_iload hx hb dL_law_1412 (lv_at hl 6 rfl) ?_
    refine lv_iconst (v := 2) hx hb dL_law_1414 (by decide) ?_
    refine lv_iadd hx hb dL_law_1415 ?_
    obtain ⟨h80, hf⟩ := gd_T hf
    refine va_sld hx hb hX hbl hbA hS h80 dL_law_1416 ?_
    refine lv_aload_n hx hb dL_law_1417 rfl (lv_at hl 1 rfl) ?_
    refine lv_iload hx hb dL_law_1418 (lv_at hl 6 rfl) ?_
    refine lv_iconst (v := 3) hx hb dL_law_1420 (by decide) ?_
    refine lv_iadd hx hb dL_law_1421 ?_
    obtain ⟨h81, hf⟩ := gd_T hf
    refine va_sld hx hb hX hbl hbA hS h81 dL_law_1422 ?_
    refine lv_if_eq (tgt := 1430) hx hb dL_law_1423 (by decide) (fun c82 => ?_) (fun c82 => ?_)
    · have hf := ite_T c82 hf
      refine lv_iconst (v := 0) hx hb dL_law_1430 (by decide) ?_
      obtain ⟨R99, g100, hf⟩ := bd_B hf
      obtain ⟨r83, ⟨mg84, mk85, ms86, mh87, mw88, mw89, ma90, mt91, mt92, ml93, ms94, mv95, me96, mt97, mt98⟩⟩ := R99
      dsimp only at hf
      have hPc : va_P (dC, dI) vwCl (wM_ m0 m_g m_kept m_spare m_was m_text m_told cI mg mkept mspare mhasKept mwas mwasMany manew mthrown mtext mlength mspot mvalue merror mtold mtolds) H77 := bl_P (bp_m _ _ _ _ _ _ _ _ _ _ _ _ _ _ _) hP
      have hDc : va_D A (wM_ m0 m_g m_kept m_spare m_was m_text m_told cI mg mkept mspare mhasKept mwas mwasMany manew mthrown mtext mlength mspot mvalue merror mtold mtolds) := bl_D (bp_m _ _ _ _ _ _ _ _ _ _ _ _ _ _ _) hD
      have hFc : ∀ q, va_A (wM_ m0 m_g m_kept m_spare m_was m_text m_told cI mg mkept mspare mhasKept mwas mwasMany manew mthrown mtext mlength mspot mvalue merror mtold mtolds) H77.size q → A q := bl_F (bp_m _ _ _ _ _ _ _ _ _ _ _ _ _ _ _) hD hS hA
      refine va_calli (va_runV (As := [.int (xs (l5 + 1).toNatClampNeg), .int (xs (l5 + 2).toNatClampNeg), .int 0]) (rest := []) ⟨hx, hb, hml, hown, hts⟩ (c_X6_gapDay l dC dI cI cZ cC cJ cD m0 m_g m_kept m_spare m_was m_text m_told H77.size mg mkept mspare mhasKept mwas mwasMany manew mthrown mtext mlength mspot mvalue merror mtold mtolds (xs (l5 + 1).toNatClampNeg) (xs (l5 + 2).toNatClampNeg) (0 : Int32) (r83, (mg84, mk85, ms86, mh87, mw88, mw89, ma90, mt91, mt92, ml93, ms94, mv95, me96, mt97, mt98)) g100) (cwV 3 hts gL_law_X6_gapDay rfl rfl rfl hs_X6_gapDay ⟨Nat.le_of_ble_eq_true rfl, Nat.le_of_ble_eq_true rfl⟩) (preV_ (ci := 8) (q0 := 0) hPc hK hDc rfl rfl rfl rfl) rfl rfl hl.1 rfl (lv_room (Nat.le_of_ble_eq_true rfl)) dL_law_1431 ⟨by show _ ≤ 3153; omega, by show _ ≤ 122725; omega⟩) hS (fun q _ h => hFc q h) hFc (fun z102 u t H101 locs ht hvm hw hB hz1 hk1 hS => ?_)
      have hw : r83 = z102 := hw.symm
      subst hw
      obtain ⟨hP, hD⟩ : va_P (dC, dI) vwCl (wD_ d0 s0 z0 b0 q0 t0 dhasSaved dkeptError dmoved ++ wS_ s0 v0 f0 r0 ++ wV_ v0 v_keys v_firsts v_ends v_values v_inferred v_gone cI cZ vkeys vfirsts vends vvalues vinferred vgone vmade ++ wF_ f0 f_keys f_days f_amounts f_versions cI fkeys fdays famounts fversions fcount ++ wR_ r0 r_keys r_days r_values cI rkeys rdays rvalues rcount ++ wS_ z0 w0 g0 h0 ++ wV_ w0 w_keys w_firsts w_ends w_values w_inferred w_gone cI cZ wkeys wfirsts wends wvalues winferred wgone wmade ++ wF_ g0 g_keys g_days g_amounts g_versions cI gkeys gdays gamounts gversions gcount ++ wR_ h0 h_keys h_days h_values cI hkeys hdays hvalues hcount ++ wV_ b0 b_keys b_firsts b_ends b_values b_inferred b_gone cI cZ bkeys bfirsts bends bvalues binferred bgone bmade ++ wR_ q0 q_keys q_days q_values cI qkeys qdays qvalues qcount ++ wT_ t0 t_characters cC tcharacters tlength tplace ++ wM_ m0 m_g m_kept m_spare m_was m_text m_told cI mg84 mk85 ms86 mh87 mw88 mw89 ma90 mt91 mt92 ml93 ms94 mv95 me96 mt97 mt98 ++ wO_ o0 cJ ov74 ++ wP_ p0 cD pv) H101 ∧ va_D A (wD_ d0 s0 z0 b0 q0 t0 dhasSaved dkeptError dmoved ++ wS_ s0 v0 f0 r0 ++ wV_ v0 v_keys v_firsts v_ends v_values v_inferred v_gone cI cZ vkeys vfirsts vends vvalues vinferred vgone vmade ++ wF_ f0 f_keys f_days f_amounts f_versions cI fkeys fdays famounts fversions fcount ++ wR_ r0 r_keys r_days r_values cI rkeys rdays rvalues rcount ++ wS_ z0 w0 g0 h0 ++ wV_ w0 w_keys w_firsts w_ends w_values w_inferred w_gone cI cZ wkeys wfirsts wends wvalues winferred wgone wmade ++ wF_ g0 g_keys g_days g_amounts g_versions cI gkeys gdays gamounts gversions gcount ++ wR_ h0 h_keys h_days h_values cI hkeys hdays hvalues hcount ++ wV_ b0 b_keys b_firsts b_ends b_values b_inferred b_gone cI cZ bkeys bfirsts bends bvalues binferred bgone bmade ++ wR_ q0 q_keys q_days q_values cI qkeys qdays qvalues qcount ++ wT_ t0 t_characters cC tcharacters tlength tplace ++ wM_ m0 m_g m_kept m_spare m_was m_text m_told cI mg84 mk85 ms86 mh87 mw88 mw89 ma90 mt91 mt92 ml93 ms94 mv95 me96 mt97 mt98 ++ wO_ o0 cJ ov74 ++ wP_ p0 cD pv) := bl_J (bp_m _ _ _ _ _ _ _ _ _ _ _ _ _ _ _) (bp_m _ _ _ _ _ _ _ _ _ _ _ _ _ _ _) hP hD hk1 hFc hB ht
      refine lv_istore (lv' := [(7, .int r83), (6, .int r73), (0, .ref b), (1, .ref d0), (2, .ref m0), (3, .ref o0), (4, .ref p0), (5, .int l5)]) hx hb dL_law_1434 hl (by decide) rfl (fun ls hl => ?_)
      refine lv_aload_n hx hb dL_law_1436 rfl (lv_at hl 4 rfl) ?_
      obtain ⟨R104, g105, hf⟩ := bd_B hf
      obtain ⟨r103, rfl⟩ : ∃ z, z = R104 := ⟨_, rfl⟩
      have hPc : va_P (dC, dI) vwCl (wM_ m0 m_g m_kept m_spare m_was m_text m_told cI mg84 mk85 ms86 mh87 mw88 mw89 ma90 mt91 mt92 ml93 ms94 mv95 me96 mt97 mt98) H101 := bl_P (bp_m _ _ _ _ _ _ _ _ _ _ _ _ _ _ _) hP
      have hDc : va_D A (wM_ m0 m_g m_kept m_spare m_was m_text m_told cI mg84 mk85 ms86 mh87 mw88 mw89 ma90 mt91 mt92 ml93 ms94 mv95 me96 mt97 mt98) := bl_D (bp_m _ _ _ _ _ _ _ _ _ _ _ _ _ _ _) hD
      have hFc : ∀ q, va_A (wM_ m0 m_g m_kept m_spare m_was m_text m_told cI mg84 mk85 ms86 mh87 mw88 mw89 ma90 mt91 mt92 ml93 ms94 mv95 me96 mt97 mt98) H101.size q → A q := bl_F (bp_m _ _ _ _ _ _ _ _ _ _ _ _ _ _ _) hD hS hA
      refine va_calli (va_runV (As := []) (rest := []) ⟨hx, hb, hml, hown, hts⟩ (c_X6_thrown l dC dI cI cZ cC cJ cD m0 m_g m_kept m_spare m_was m_text m_told H101.size mg84 mk85 ms86 mh87 mw88 mw89 ma90 mt91 mt92 ml93 ms94 mv95 me96 mt97 mt98 r103 g105) (cwV 0 hts gL_law_X6_thrown rfl rfl rfl hs_X6_thrown ⟨Nat.le_of_ble_eq_true rfl, Nat.le_of_ble_eq_true rfl⟩) (preV_ (ci := 8) (q0 := 0) hPc hK hDc rfl rfl rfl rfl) rfl rfl hl.1 rfl (lv_room (Nat.le_of_ble_eq_true rfl)) dL_law_1437 ⟨by show _ ≤ 3153; omega, by show _ ≤ 122725; omega⟩) hS (fun q _ h => hFc q h) hFc (fun z107 u t H106 locs ht hvm hw hB hz1 hk1 hS => ?_)
      have hw : r103 = z107 := hw.symm
      subst hw
      obtain ⟨hP, hD⟩ : va_P (dC, dI) vwCl (wD_ d0 s0 z0 b0 q0 t0 dhasSaved dkeptError dmoved ++ wS_ s0 v0 f0 r0 ++ wV_ v0 v_keys v_firsts v_ends v_values v_inferred v_gone cI cZ vkeys vfirsts vends vvalues vinferred vgone vmade ++ wF_ f0 f_keys f_days f_amounts f_versions cI fkeys fdays famounts fversions fcount ++ wR_ r0 r_keys r_days r_values cI rkeys rdays rvalues rcount ++ wS_ z0 w0 g0 h0 ++ wV_ w0 w_keys w_firsts w_ends w_values w_inferred w_gone cI cZ wkeys wfirsts wends wvalues winferred wgone wmade ++ wF_ g0 g_keys g_days g_amounts g_versions cI gkeys gdays gamounts gversions gcount ++ wR_ h0 h_keys h_days h_values cI hkeys hdays hvalues hcount ++ wV_ b0 b_keys b_firsts b_ends b_values b_inferred b_gone cI cZ bkeys bfirsts bends bvalues binferred bgone bmade ++ wR_ q0 q_keys q_days q_values cI qkeys qdays qvalues qcount ++ wT_ t0 t_characters cC tcharacters tlength tplace ++ wM_ m0 m_g m_kept m_spare m_was m_text m_told cI mg84 mk85 ms86 mh87 mw88 mw89 ma90 mt91 mt92 ml93 ms94 mv95 me96 mt97 mt98 ++ wO_ o0 cJ ov74 ++ wP_ p0 cD pv) H106 ∧ va_D A (wD_ d0 s0 z0 b0 q0 t0 dhasSaved dkeptError dmoved ++ wS_ s0 v0 f0 r0 ++ wV_ v0 v_keys v_firsts v_ends v_values v_inferred v_gone cI cZ vkeys vfirsts vends vvalues vinferred vgone vmade ++ wF_ f0 f_keys f_days f_amounts f_versions cI fkeys fdays famounts fversions fcount ++ wR_ r0 r_keys r_days r_values cI rkeys rdays rvalues rcount ++ wS_ z0 w0 g0 h0 ++ wV_ w0 w_keys w_firsts w_ends w_values w_inferred w_gone cI cZ wkeys wfirsts wends wvalues winferred wgone wmade ++ wF_ g0 g_keys g_days g_amounts g_versions cI gkeys gdays gamounts gversions gcount ++ wR_ h0 h_keys h_days h_values cI hkeys hdays hvalues hcount ++ wV_ b0 b_keys b_firsts b_ends b_values b_inferred b_gone cI cZ bkeys bfirsts bends bvalues binferred bgone bmade ++ wR_ q0 q_keys q_days q_values cI qkeys qdays qvalues qcount ++ wT_ t0 t_characters cC tcharacters tlength tplace ++ wM_ m0 m_g m_kept m_spare m_was m_text m_told cI mg84 mk85 ms86 mh87 mw88 mw89 ma90 mt91 mt92 ml93 ms94 mv95 me96 mt97 mt98 ++ wO_ o0 cJ ov74 ++ wP_ p0 cD pv) := bl_J (bp_m _ _ _ _ _ _ _ _ _ _ _ _ _ _ _) (bp_m _ _ _ _ _ _ _ _ _ _ _ _ _ _ _) hP hD hk1 hFc hB ht
      refine lv_iload hx hb dL_law_1440 (lv_at hl 1 rfl) ?_
      refine lv_icmp_eq (tgt := 1447) hx hb dL_law_1442 (by decide) (fun c108 => ?_) (fun c108 => ?_)
      · have hf := ite_T c108 hf
        refine lv_iload hx hb dL_law_1447 (lv_at hl 1 rfl) ?_
        refine lv_if_ne (tgt := 1464) hx hb dL_law_1449 (by decide) (fun c109 => ?_) (fun c109 => ?_)
        · have hf := ite_F c109 hf
          refine lv_goto (tgt := 2052) hx hb dL_law_1464 (by decide) ?_
          refine lv_iinc (v := l5 + 4) (lv' := [(5, .int (l5 + 4)), (7, .int r83), (6, .int r73), (0, .ref b), (1, .ref d0), (2, .ref m0), (3, .ref o0), (4, .ref p0)]) hx hb dL_law_2052 hl (k := 7) rfl (by first | rfl | decide) (by decide) rfl (fun ls hl => ?_)
          refine lv_goto (tgt := 28) hx hb dL_law_2055 (by decide) ?_
          refine W.widen (k := 57 + 4 * (j + 1)) (n := 3797 + 24 * (j + 1)) (by omega) (by omega) ?_
          exact ih dhasSaved dkeptError dmoved vkeys vfirsts vends vvalues vinferred vgone vmade fkeys fdays famounts fversions fcount rkeys rdays rvalues rcount wkeys wfirsts wends wvalues winferred wgone wmade gkeys gdays gamounts gversions gcount hkeys hdays hvalues hcount bkeys bfirsts bends bvalues binferred bgone bmade qkeys qdays qvalues qcount tcharacters tlength tplace mg84 mk85 ms86 mh87 mw88 mw89 ma90 mt91 mt92 ml93 ms94 mv95 me96 mt97 mt98 ov74 pv _ _ _ hf hP hD hS (lv_sub hl [3, 4, 5, 6, 7, 0] rfl)
        · have hf := ite_T c109 hf
          refine lv_aload_n hx hb dL_law_1452 rfl (lv_at hl 5 rfl) ?_
          refine lv_iconst (v := 0) hx hb dL_law_1453 (by decide) ?_
          have hP9 : va_P (dC, dI) vwCl (wO_ o0 cJ ov74) H106 := bl_P (bp_o _ _ _ _ _ _ _ _ _ _ _ _ _ _ _) hP
          obtain ⟨h110, hf⟩ := gd_T hf
          refine va_lald hx hb hK hP9 0 3 rfl rfl h110 dL_law_1454 ?_
          refine lv_iload hx hb dL_law_1455 (lv_at hl 0 rfl) ?_
          refine lv_i2l hx hb dL_law_1457 rfl ?_
          refine W.lcmp hx hb dL_law_1458 ?_
          refine lv_if_eq (tgt := 1464) hx hb dL_law_1459 (by decide) (fun c111 => ?_) (fun c111 => ?_)
          · have hf := ite_T c111 hf
            refine lv_goto (tgt := 2052) hx hb dL_law_1464 (by decide) ?_
            refine lv_iinc (v := l5 + 4) (lv' := [(5, .int (l5 + 4)), (7, .int r83), (6, .int r73), (0, .ref b), (1, .ref d0), (2, .ref m0), (3, .ref o0), (4, .ref p0)]) hx hb dL_law_2052 hl (k := 7) rfl (by first | rfl | decide) (by decide) rfl (fun ls hl => ?_)
            refine lv_goto (tgt := 28) hx hb dL_law_2055 (by decide) ?_
            refine W.widen (k := 57 + 4 * (j + 1)) (n := 3797 + 24 * (j + 1)) (by omega) (by omega) ?_
            exact ih dhasSaved dkeptError dmoved vkeys vfirsts vends vvalues vinferred vgone vmade fkeys fdays famounts fversions fcount rkeys rdays rvalues rcount wkeys wfirsts wends wvalues winferred wgone wmade gkeys gdays gamounts gversions gcount hkeys hdays hvalues hcount bkeys bfirsts bends bvalues binferred bgone bmade qkeys qdays qvalues qcount tcharacters tlength tplace mg84 mk85 ms86 mh87 mw88 mw89 ma90 mt91 mt92 ml93 ms94 mv95 me96 mt97 mt98 ov74 pv _ _ _ hf hP hD hS (lv_sub hl [3, 4, 5, 6, 7, 0] rfl)
          · have hf := ite_F c111 hf
            refine lv_iconst (v := 0) hx hb dL_law_1462 (by decide) ?_
            exact absurd hf (fun h => nomatch h)
      · have hf := ite_F c108 hf
        refine lv_iconst (v := 0) hx hb dL_law_1445 (by decide) ?_
        exact absurd hf (fun h => nomatch h)
    · have hf := ite_F c82 hf
      refine lv_iconst (v := 1) hx hb dL_law_1426 (by decide) ?_
      refine lv_goto (tgt := 1431) hx hb dL_law_1427 (by decide) ?_
      obtain ⟨R128, g129, hf⟩ := bd_B hf
      obtain ⟨r112, ⟨mg113, mk114, ms115, mh116, mw117, mw118, ma119, mt120, mt121, ml122, ms123, mv124, me125, mt126, mt127⟩⟩ := R128
      dsimp only at hf
      have hPc : va_P (dC, dI) vwCl (wM_ m0 m_g m_kept m_spare m_was m_text m_told cI mg mkept mspare mhasKept mwas mwasMany manew mthrown mtext mlength mspot mvalue merror mtold mtolds) H77 := bl_P (bp_m _ _ _ _ _ _ _ _ _ _ _ _ _ _ _) hP
      have hDc : va_D A (wM_ m0 m_g m_kept m_spare m_was m_text m_told cI mg mkept mspare mhasKept mwas mwasMany manew mthrown mtext mlength mspot mvalue merror mtold mtolds) := bl_D (bp_m _ _ _ _ _ _ _ _ _ _ _ _ _ _ _) hD
      have hFc : ∀ q, va_A (wM_ m0 m_g m_kept m_spare m_was m_text m_told cI mg mkept mspare mhasKept mwas mwasMany manew mthrown mtext mlength mspot mvalue merror mtold mtolds) H77.size q → A q := bl_F (bp_m _ _ _ _ _ _ _ _ _ _ _ _ _ _ _) hD hS hA
      refine va_calli (va_runV (As := [.int (xs (l5 + 1).toNatClampNeg), .int (xs (l5 + 2).toNatClampNeg), .int 1]) (rest := []) ⟨hx, hb, hml, hown, hts⟩ (c_X6_gapDay l dC dI cI cZ cC cJ cD m0 m_g m_kept m_spare m_was m_text m_told H77.size mg mkept mspare mhasKept mwas mwasMany manew mthrown mtext mlength mspot mvalue merror mtold mtolds (xs (l5 + 1).toNatClampNeg) (xs (l5 + 2).toNatClampNeg) (1 : Int32) (r112, (mg113, mk114, ms115, mh116, mw117, mw118, ma119, mt120, mt121, ml122, ms123, mv124, me125, mt126, mt127)) g129) (cwV 3 hts gL_law_X6_gapDay rfl rfl rfl hs_X6_gapDay ⟨Nat.le_of_ble_eq_true rfl, Nat.le_of_ble_eq_true rfl⟩) (preV_ (ci := 8) (q0 := 0) hPc hK hDc rfl rfl rfl rfl) rfl rfl hl.1 rfl (lv_room (Nat.le_of_ble_eq_true rfl)) dL_law_1431 ⟨by show _ ≤ 3153; omega, by show _ ≤ 122725; omega⟩) hS (fun q _ h => hFc q h) hFc (fun z131 u t H130 locs ht hvm hw hB hz1 hk1 hS => ?_)
      have hw : r112 = z131 := hw.symm
      subst hw
      obtain ⟨hP, hD⟩ : va_P (dC, dI) vwCl (wD_ d0 s0 z0 b0 q0 t0 dhasSaved dkeptError dmoved ++ wS_ s0 v0 f0 r0 ++ wV_ v0 v_keys v_firsts v_ends v_values v_inferred v_gone cI cZ vkeys vfirsts vends vvalues vinferred vgone vmade ++ wF_ f0 f_keys f_days f_amounts f_versions cI fkeys fdays famounts fversions fcount ++ wR_ r0 r_keys r_days r_values cI rkeys rdays rvalues rcount ++ wS_ z0 w0 g0 h0 ++ wV_ w0 w_keys w_firsts w_ends w_values w_inferred w_gone cI cZ wkeys wfirsts wends wvalues winferred wgone wmade ++ wF_ g0 g_keys g_days g_amounts g_versions cI gkeys gdays gamounts gversions gcount ++ wR_ h0 h_keys h_days h_values cI hkeys hdays hvalues hcount ++ wV_ b0 b_keys b_firsts b_ends b_values b_inferred b_gone cI cZ bkeys bfirsts bends bvalues binferred bgone bmade ++ wR_ q0 q_keys q_days q_values cI qkeys qdays qvalues qcount ++ wT_ t0 t_characters cC tcharacters tlength tplace ++ wM_ m0 m_g m_kept m_spare m_was m_text m_told cI mg113 mk114 ms115 mh116 mw117 mw118 ma119 mt120 mt121 ml122 ms123 mv124 me125 mt126 mt127 ++ wO_ o0 cJ ov74 ++ wP_ p0 cD pv) H130 ∧ va_D A (wD_ d0 s0 z0 b0 q0 t0 dhasSaved dkeptError dmoved ++ wS_ s0 v0 f0 r0 ++ wV_ v0 v_keys v_firsts v_ends v_values v_inferred v_gone cI cZ vkeys vfirsts vends vvalues vinferred vgone vmade ++ wF_ f0 f_keys f_days f_amounts f_versions cI fkeys fdays famounts fversions fcount ++ wR_ r0 r_keys r_days r_values cI rkeys rdays rvalues rcount ++ wS_ z0 w0 g0 h0 ++ wV_ w0 w_keys w_firsts w_ends w_values w_inferred w_gone cI cZ wkeys wfirsts wends wvalues winferred wgone wmade ++ wF_ g0 g_keys g_days g_amounts g_versions cI gkeys gdays gamounts gversions gcount ++ wR_ h0 h_keys h_days h_values cI hkeys hdays hvalues hcount ++ wV_ b0 b_keys b_firsts b_ends b_values b_inferred b_gone cI cZ bkeys bfirsts bends bvalues binferred bgone bmade ++ wR_ q0 q_keys q_days q_values cI qkeys qdays qvalues qcount ++ wT_ t0 t_characters cC tcharacters tlength tplace ++ wM_ m0 m_g m_kept m_spare m_was m_text m_told cI mg113 mk114 ms115 mh116 mw117 mw118 ma119 mt120 mt121 ml122 ms123 mv124 me125 mt126 mt127 ++ wO_ o0 cJ ov74 ++ wP_ p0 cD pv) := bl_J (bp_m _ _ _ _ _ _ _ _ _ _ _ _ _ _ _) (bp_m _ _ _ _ _ _ _ _ _ _ _ _ _ _ _) hP hD hk1 hFc hB ht
      refine lv_istore (lv' := [(7, .int r112), (6, .int r73), (0, .ref b), (1, .ref d0), (2, .ref m0), (3, .ref o0), (4, .ref p0), (5, .int l5)]) hx hb dL_law_1434 hl (by decide) rfl (fun ls hl => ?_)
      refine lv_aload_n hx hb dL_law_1436 rfl (lv_at hl 4 rfl) ?_
      obtain ⟨R133, g134, hf⟩ := bd_B hf
      obtain ⟨r132, rfl⟩ : ∃ z, z = R133 := ⟨_, rfl⟩
      have hPc : va_P (dC, dI) vwCl (wM_ m0 m_g m_kept m_spare m_was m_text m_told cI mg113 mk114 ms115 mh116 mw117 mw118 ma119 mt120 mt121 ml122 ms123 mv124 me125 mt126 mt127) H130 := bl_P (bp_m _ _ _ _ _ _ _ _ _ _ _ _ _ _ _) hP
      have hDc : va_D A (wM_ m0 m_g m_kept m_spare m_was m_text m_told cI mg113 mk114 ms115 mh116 mw117 mw118 ma119 mt120 mt121 ml122 ms123 mv124 me125 mt126 mt127) := bl_D (bp_m _ _ _ _ _ _ _ _ _ _ _ _ _ _ _) hD
      have hFc : ∀ q, va_A (wM_ m0 m_g m_kept m_spare m_was m_text m_told cI mg113 mk114 ms115 mh116 mw117 mw118 ma119 mt120 mt121 ml122 ms123 mv124 me125 mt126 mt127) H130.size q → A q := bl_F (bp_m _ _ _ _ _ _ _ _ _ _ _ _ _ _ _) hD hS hA
      refine va_calli (va_runV (As := []) (rest := []) ⟨hx, hb, hml, hown, hts⟩ (c_X6_thrown l dC dI cI cZ cC cJ cD m0 m_g m_kept m_spare m_was m_text m_told H130.size mg113 mk114 ms115 mh116 mw117 mw118 ma119 mt120 mt121 ml122 ms123 mv124 me125 mt126 mt127 r132 g134) (cwV 0 hts gL_law_X6_thrown rfl rfl rfl hs_X6_thrown ⟨Nat.le_of_ble_eq_true rfl, Nat.le_of_ble_eq_true rfl⟩) (preV_ (ci := 8) (q0 := 0) hPc hK hDc rfl rfl rfl rfl) rfl rfl hl.1 rfl (lv_room (Nat.le_of_ble_eq_true rfl)) dL_law_1437 ⟨by show _ ≤ 3153; omega, by show _ ≤ 122725; omega⟩) hS (fun q _ h => hFc q h) hFc (fun z136 u t H135 locs ht hvm hw hB hz1 hk1 hS => ?_)
      have hw : r132 = z136 := hw.symm
      subst hw
      obtain ⟨hP, hD⟩ : va_P (dC, dI) vwCl (wD_ d0 s0 z0 b0 q0 t0 dhasSaved dkeptError dmoved ++ wS_ s0 v0 f0 r0 ++ wV_ v0 v_keys v_firsts v_ends v_values v_inferred v_gone cI cZ vkeys vfirsts vends vvalues vinferred vgone vmade ++ wF_ f0 f_keys f_days f_amounts f_versions cI fkeys fdays famounts fversions fcount ++ wR_ r0 r_keys r_days r_values cI rkeys rdays rvalues rcount ++ wS_ z0 w0 g0 h0 ++ wV_ w0 w_keys w_firsts w_ends w_values w_inferred w_gone cI cZ wkeys wfirsts wends wvalues winferred wgone wmade ++ wF_ g0 g_keys g_days g_amounts g_versions cI gkeys gdays gamounts gversions gcount ++ wR_ h0 h_keys h_days h_values cI hkeys hdays hvalues hcount ++ wV_ b0 b_keys b_firsts b_ends b_values b_inferred b_gone cI cZ bkeys bfirsts bends bvalues binferred bgone bmade ++ wR_ q0 q_keys q_days q_values cI qkeys qdays qvalues qcount ++ wT_ t0 t_characters cC tcharacters tlength tplace ++ wM_ m0 m_g m_kept m_spare m_was m_text m_told cI mg113 mk114 ms115 mh116 mw117 mw118 ma119 mt120 mt121 ml122 ms123 mv124 me125 mt126 mt127 ++ wO_ o0 cJ ov74 ++ wP_ p0 cD pv) H135 ∧ va_D A (wD_ d0 s0 z0 b0 q0 t0 dhasSaved dkeptError dmoved ++ wS_ s0 v0 f0 r0 ++ wV_ v0 v_keys v_firsts v_ends v_values v_inferred v_gone cI cZ vkeys vfirsts vends vvalues vinferred vgone vmade ++ wF_ f0 f_keys f_days f_amounts f_versions cI fkeys fdays famounts fversions fcount ++ wR_ r0 r_keys r_days r_values cI rkeys rdays rvalues rcount ++ wS_ z0 w0 g0 h0 ++ wV_ w0 w_keys w_firsts w_ends w_values w_inferred w_gone cI cZ wkeys wfirsts wends wvalues winferred wgone wmade ++ wF_ g0 g_keys g_days g_amounts g_versions cI gkeys gdays gamounts gversions gcount ++ wR_ h0 h_keys h_days h_values cI hkeys hdays hvalues hcount ++ wV_ b0 b_keys b_firsts b_ends b_values b_inferred b_gone cI cZ bkeys bfirsts bends bvalues binferred bgone bmade ++ wR_ q0 q_keys q_days q_values cI qkeys qdays qvalues qcount ++ wT_ t0 t_characters cC tcharacters tlength tplace ++ wM_ m0 m_g m_kept m_spare m_was m_text m_told cI mg113 mk114 ms115 mh116 mw117 mw118 ma119 mt120 mt121 ml122 ms123 mv124 me125 mt126 mt127 ++ wO_ o0 cJ ov74 ++ wP_ p0 cD pv) := bl_J (bp_m _ _ _ _ _ _ _ _ _ _ _ _ _ _ _) (bp_m _ _ _ _ _ _ _ _ _ _ _ _ _ _ _) hP hD hk1 hFc hB ht
      refine lv_iload hx hb dL_law_1440 (lv_at hl 1 rfl) ?_
      refine lv_icmp_eq (tgt := 1447) hx hb dL_law_1442 (by decide) (fun c137 => ?_) (fun c137 => ?_)
      · have hf := ite_T c137 hf
        refine lv_iload hx hb dL_law_1447 (lv_at hl 1 rfl) ?_
        refine lv_if_ne (tgt := 1464) hx hb dL_law_1449 (by decide) (fun c138 => ?_) (fun c138 => ?_)
        · have hf := ite_F c138 hf
          refine lv_goto (tgt := 2052) hx hb dL_law_1464 (by decide) ?_
          refine lv_iinc (v := l5 + 4) (lv' := [(5, .int (l5 + 4)), (7, .int r112), (6, .int r73), (0, .ref b), (1, .ref d0), (2, .ref m0), (3, .ref o0), (4, .ref p0)]) hx hb dL_law_2052 hl (k := 7) rfl (by first | rfl | decide) (by decide) rfl (fun ls hl => ?_)
          refine lv_goto (tgt := 28) hx hb dL_law_2055 (by decide) ?_
          refine W.widen (k := 57 + 4 * (j + 1)) (n := 3797 + 24 * (j + 1)) (by omega) (by omega) ?_
          exact ih dhasSaved dkeptError dmoved vkeys vfirsts vends vvalues vinferred vgone vmade fkeys fdays famounts fversions fcount rkeys rdays rvalues rcount wkeys wfirsts wends wvalues winferred wgone wmade gkeys gdays gamounts gversions gcount hkeys hdays hvalues hcount bkeys bfirsts bends bvalues binferred bgone bmade qkeys qdays qvalues qcount tcharacters tlength tplace mg113 mk114 ms115 mh116 mw117 mw118 ma119 mt120 mt121 ml122 ms123 mv124 me125 mt126 mt127 ov74 pv _ _ _ hf hP hD hS (lv_sub hl [3, 4, 5, 6, 7, 0] rfl)
        · have hf := ite_T c138 hf
          refine lv_aload_n hx hb dL_law_1452 rfl (lv_at hl 5 rfl) ?_
          refine lv_iconst (v := 0) hx hb dL_law_1453 (by decide) ?_
          have hP9 : va_P (dC, dI) vwCl (wO_ o0 cJ ov74) H135 := bl_P (bp_o _ _ _ _ _ _ _ _ _ _ _ _ _ _ _) hP
          obtain ⟨h139, hf⟩ := gd_T hf
          refine va_lald hx hb hK hP9 0 3 rfl rfl h139 dL_law_1454 ?_
          refine lv_iload hx hb dL_law_1455 (lv_at hl 0 rfl) ?_
          refine lv_i2l hx hb dL_law_1457 rfl ?_
          refine W.lcmp hx hb dL_law_1458 ?_
          refine lv_if_eq (tgt := 1464) hx hb dL_law_1459 (by decide) (fun c140 => ?_) (fun c140 => ?_)
          · have hf := ite_T c140 hf
            refine lv_goto (tgt := 2052) hx hb dL_law_1464 (by decide) ?_
            refine lv_iinc (v := l5 + 4) (lv' := [(5, .int (l5 + 4)), (7, .int r112), (6, .int r73), (0, .ref b), (1, .ref d0), (2, .ref m0), (3, .ref o0), (4, .ref p0)]) hx hb dL_law_2052 hl (k := 7) rfl (by first | rfl | decide) (by decide) rfl (fun ls hl => ?_)
            refine lv_goto (tgt := 28) hx hb dL_law_2055 (by decide) ?_
            refine W.widen (k := 57 + 4 * (j + 1)) (n := 3797 + 24 * (j + 1)) (by omega) (by omega) ?_
            exact ih dhasSaved dkeptError dmoved vkeys vfirsts vends vvalues vinferred vgone vmade fkeys fdays famounts fversions fcount rkeys rdays rvalues rcount wkeys wfirsts wends wvalues winferred wgone wmade gkeys gdays gamounts gversions gcount hkeys hdays hvalues hcount bkeys bfirsts bends bvalues binferred bgone bmade qkeys qdays qvalues qcount tcharacters tlength tplace mg113 mk114 ms115 mh116 mw117 mw118 ma119 mt120 mt121 ml122 ms123 mv124 me125 mt126 mt127 ov74 pv _ _ _ hf hP hD hS (lv_sub hl [3, 4, 5, 6, 7, 0] rfl)
          · have hf := ite_F c140 hf
            refine lv_iconst (v := 0) hx hb dL_law_1462 (by decide) ?_
            exact absurd hf (fun h => nomatch h)
      · have hf := ite_F c137 hf
        refine lv_iconst (v := 0) hx hb dL_law_1445 (by decide) ?_
        exact absurd hf (fun h => nomatch h)
