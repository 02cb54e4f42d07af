set_option maxHeartbeats 8000000 in
set_option maxRecDepth 100000 in
theorem seg_E2 {p : Program} {l : Launch} {e : Env} {s : State} {m : MethodId} {below : List Frame} {meth : Method} {c : Code} {dC : Nat → ClassId} {dI : Nat → Nat → Nat} {cI cZ cC cJ cD cO : ClassId} {b L : Nat} {xs : Nat → Int32} (hst : l.stackTraces = false) (hL : L ≤ 260) (C0 : lw_At p s m meth c b L xs) (hts : ∀ w ∈ wsL_law, w.before #[Value.ref b] s = true) (hZ : Zq_ (fun q : Nat => s.heap.size ≤ q) s s.heap) (hC : Ca_ s) (hK : va_K (dC, dI) vwCl (ty_ cI cZ cC cJ cD) s) (hKo : va_K (dC, dI) vwCl [(cO, .array .int)] s) (d0 s0 z0 b0 q0 t0 v0 f0 r0 v_keys v_firsts v_ends v_values v_inferred v_gone f_keys f_days f_amounts f_versions r_keys r_days r_values w0 x0 y0 : Nat) (K : Nat) (yr : Nat → Nat) (CN SN : Nat) (hCN : CN + 100 ≤ 600390) (hSN : SN + 1000 ≤ 7288080) (R : Unit) (k1238 : Int32 → Int32 → Int32 → Int32 → tD_ → tS_ → tV_ → tF_ → tR_ → tI_ → tI_ → tY_ → tJ_ → tI_ → tZ_ → Option Unit) (hk1238 : ∀ (j0 : Nat) (n0 : Nat) (l2 : Int32) (l7 : Int32) (l8 : Int32) (l10 : Int32) (dhasSaved : Int32) (dkeptError : Int32) (dmoved : Int32) (vkeys : Nat → Int32) (vfirsts : Nat → Int32) (vends : Nat → Int32) (vvalues : Nat → Int32) (vinferred : Nat → Int32) (vgone : Nat → Int32) (vmade : Int32) (fkeys : Nat → Int32) (fdays : Nat → Int32) (famounts : Nat → Int32) (fversions : Nat → Int32) (fcount : Int32) (rkeys : Nat → Int32) (rdays : Nat → Int32) (rvalues : Nat → Int32) (rcount : Int32) (wv : Nat → Int32) (xv : Nat → Int32) (jv : Nat → Int64) (nv : Nat → Int32) (zv : Nat → Nat → Int32) (H : Heap) (locs : List Loc) (ls : Array Slot), k1238 l2 l7 l8 l10 (dhasSaved, dkeptError, dmoved) () (vkeys, vfirsts, vends, vvalues, vinferred, vgone, vmade) (fkeys, fdays, famounts, fversions, fcount) (rkeys, rdays, rvalues, rcount) wv xv () jv nv zv = some R → va_P (dC, dI) vwCl (((wD_ d0 s0 z0 b0 q0 t0 dhasSaved dkeptError dmoved ++ wS_ s0 v0 f0 r0 ++ wV_ v0 v_keys v_firsts v_ends v_values v_inferred v_gone cI cZ vkeys vfirsts vends vvalues vinferred vgone vmade ++ wF_ f0 f_keys f_days f_amounts f_versions cI fkeys fdays famounts fversions fcount ++ wR_ r0 r_keys r_days r_values cI rkeys rdays rvalues rcount) ++ (wI_ w0 cI 180 wv ++ (wI_ x0 cI 180 xv ++ wY_ y0 cO K yr ++ wJ_ j0 cJ 60 jv ++ wI_ n0 cI 60 nv))) ++ rw_ cI K yr zv) H → va_D (fun q : Nat => s.heap.size ≤ q) (((wD_ d0 s0 z0 b0 q0 t0 dhasSaved dkeptError dmoved ++ wS_ s0 v0 f0 r0 ++ wV_ v0 v_keys v_firsts v_ends v_values v_inferred v_gone cI cZ vkeys vfirsts vends vvalues vinferred vgone vmade ++ wF_ f0 f_keys f_days f_amounts f_versions cI fkeys fdays famounts fversions fcount ++ wR_ r0 r_keys r_days r_values cI rkeys rdays rvalues rcount) ++ (wI_ w0 cI 180 wv ++ (wI_ x0 cI 180 xv ++ wY_ y0 cO K yr ++ wJ_ j0 cJ 60 jv ++ wI_ n0 cI 60 nv))) ++ rw_ cI K yr zv) → va_S (fun q : Nat => s.heap.size ≤ q) s.heap H locs → lv_has ls 22 [(0, .ref b), (1, .ref d0), (2, .int l2), (4, .ref y0), (5, .ref w0), (6, .ref x0), (7, .int l7), (8, .int l8), (10, .int l10), (11, .ref j0), (12, .ref n0)] → W p l e room_1 s m #[Value.ref b] below meth c H locs (CN + 20) (SN + 120) (lw_Z below #[Value.ref b] s) (F0 m 1238 ls [])) (l2 : Int32) (l7 : Int32) (l8 : Int32) (l10 : Int32) (dhasSaved : Int32) (dkeptError : Int32) (dmoved : Int32) (vkeys : Nat → Int32) (vfirsts : Nat → Int32) (vends : Nat → Int32) (vvalues : Nat → Int32) (vinferred : Nat → Int32) (vgone : Nat → Int32) (vmade : Int32) (fkeys : Nat → Int32) (fdays : Nat → Int32) (famounts : Nat → Int32) (fversions : Nat → Int32) (fcount : Int32) (rkeys : Nat → Int32) (rdays : Nat → Int32) (rvalues : Nat → Int32) (rcount : Int32) (wv : Nat → Int32) (xv : Nat → Int32) (zv : Nat → Nat → Int32) (H : Heap) (locs : List Loc) (ls : Array Slot) (hf : f_law_E2 xs L K k1238 l2 l7 l8 l10 (dhasSaved, dkeptError, dmoved) () (vkeys, vfirsts, vends, vvalues, vinferred, vgone, vmade) (fkeys, fdays, famounts, fversions, fcount) (rkeys, rdays, rvalues, rcount) wv xv () zv = some R) (hP : va_P (dC, dI) vwCl (((wD_ d0 s0 z0 b0 q0 t0 dhasSaved dkeptError dmoved ++ wS_ s0 v0 f0 r0 ++ wV_ v0 v_keys v_firsts v_ends v_values v_inferred v_gone cI cZ vkeys vfirsts vends vvalues vinferred vgone vmade ++ wF_ f0 f_keys f_days f_amounts f_versions cI fkeys fdays famounts fversions fcount ++ wR_ r0 r_keys r_days r_values cI rkeys rdays rvalues rcount) ++ (wI_ w0 cI 180 wv ++ (wI_ x0 cI 180 xv ++ wY_ y0 cO K yr))) ++ rw_ cI K yr zv) H) (hD : va_D (fun q : Nat => s.heap.size ≤ q) (((wD_ d0 s0 z0 b0 q0 t0 dhasSaved dkeptError dmoved ++ wS_ s0 v0 f0 r0 ++ wV_ v0 v_keys v_firsts v_ends v_values v_inferred v_gone cI cZ vkeys vfirsts vends vvalues vinferred vgone vmade ++ wF_ f0 f_keys f_days f_amounts f_versions cI fkeys fdays famounts fversions fcount ++ wR_ r0 r_keys r_days r_values cI rkeys rdays rvalues rcount) ++ (wI_ w0 cI 180 wv ++ (wI_ x0 cI 180 xv ++ wY_ y0 cO K yr))) ++ rw_ cI K yr zv)) (hS : va_S (fun q : Nat => s.heap.size ≤ q) s.heap H locs) (hl : lv_has ls 22 [(0, .ref b), (1, .ref d0), (2, .int l2), (4, .ref y0), (5, .ref w0), (6, .ref x0), (7, .int l7), (8, .int l8), (10, .int l10)]) : W p l e room_1 s m #[Value.ref b] below meth c H locs (CN + 0) (SN + 0) (lw_Z below #[Value.ref b] s) (F0 m 1075 ls []) := by
  obtain ⟨hx, hb, hr, hml, hown, -, hX, hbl, hlocks, -⟩ := C0
  have hown : s.vm.findClass RL = some m.cls := hown
  obtain ⟨hU, hN⟩ := hZ
  have hL31 : L < 2 ^ 31 := by omega
  obtain ⟨A, hAe⟩ : ∃ A : Nat → Prop, A = (fun q : Nat => s.heap.size ≤ q) := ⟨_, rfl⟩
  rw [← hAe] at hD hS hU hN hk1238
  have hA : ∀ q : Nat, s.heap.size ≤ q → A q := fun q h => by rw [hAe]; exact h
  have hbA : ¬ A b := by rw [hAe]; exact Nat.not_le.mpr hbl
  unfold f_law_E2 at hf
  try dsimp only at hf
  refine lv_bipush (v := 60) hx hb dL_law_1075 (by decide) ?_
  refine va_newa (atype := .long) (ty := .long) (N' := 60) (a0 := (60, .inr (.inl (fun _ => 0)))) hx hb (hts _ (List.mem_of_getElem? (i := 5) rfl)) rfl hK hP hD hS hA (fun _ => rfl) (by decide) rfl (Nat.le_of_ble_eq_true rfl) (by show _ ≤ 600390; omega) (by show _ ≤ 7288080; omega) dL_law_1077 (fun j0 cA H1 hK hP hD hS => ?_)
  have e9 := same_ hK 3 5 rfl rfl (fun _ h => nomatch h)
  subst e9
  have hK : va_K (dC, dI) vwCl (ty_ cI cZ cC cJ cD) s := hK.sub (tys' := (ty_ cI cZ cC cJ cD)) [0, 1, 2, 3, 4] rfl
  have hP := va_P.swap hP
  have hD := va_D.swap hD
  have hP : va_P (dC, dI) vwCl (((wD_ d0 s0 z0 b0 q0 t0 dhasSaved dkeptError dmoved ++ wS_ s0 v0 f0 r0 ++ wV_ v0 v_keys v_firsts v_ends v_values v_inferred v_gone cI cZ vkeys vfirsts vends vvalues vinferred vgone vmade ++ wF_ f0 f_keys f_days f_amounts f_versions cI fkeys fdays famounts fversions fcount ++ wR_ r0 r_keys r_days r_values cI rkeys rdays rvalues rcount) ++ (wI_ w0 cI 180 wv ++ (wI_ x0 cI 180 xv ++ wY_ y0 cO K yr ++ wJ_ j0 cJ 60 (fun _ => 0)))) ++ rw_ cI K yr zv) H1 := hP
  have hD : va_D A (((wD_ d0 s0 z0 b0 q0 t0 dhasSaved dkeptError dmoved ++ wS_ s0 v0 f0 r0 ++ wV_ v0 v_keys v_firsts v_ends v_values v_inferred v_gone cI cZ vkeys vfirsts vends vvalues vinferred vgone vmade ++ wF_ f0 f_keys f_days f_amounts f_versions cI fkeys fdays famounts fversions fcount ++ wR_ r0 r_keys r_days r_values cI rkeys rdays rvalues rcount) ++ (wI_ w0 cI 180 wv ++ (wI_ x0 cI 180 xv ++ wY_ y0 cO K yr ++ wJ_ j0 cJ 60 (fun _ => 0)))) ++ rw_ cI K yr zv) := hD
  refine W.widen (k := CN + 10) (n := SN + 60) (by omega) (by omega) ?_
  refine lv_astore (lv' := [(11, .ref j0), (0, .ref b), (1, .ref d0), (2, .int l2), (4, .ref y0), (5, .ref w0), (6, .ref x0), (7, .int l7), (8, .int l8), (10, .int l10)]) hx hb dL_law_1079 hl (by decide) rfl (fun ls hl => ?_)
  refine lv_bipush (v := 60) hx hb dL_law_1081 (by decide) ?_
  refine va_newa (atype := .int) (ty := .int) (N' := 60) (a0 := (60, .inl (fun _ => 0))) hx hb (hts _ (List.mem_of_getElem? (i := 4) rfl)) rfl hK hP hD hS hA (fun _ => rfl) (by decide) rfl (Nat.le_of_ble_eq_true rfl) (by show _ ≤ 600390; omega) (by show _ ≤ 7288080; omega) dL_law_1083 (fun n0 cA H2 hK hP hD hS => ?_)
  have e9 := same_ hK 0 5 rfl rfl (fun _ h => nomatch h)
  subst e9
  have hK : va_K (dC, dI) vwCl (ty_ cI cZ cC cJ cD) s := hK.sub (tys' := (ty_ cI cZ cC cJ cD)) [0, 1, 2, 3, 4] rfl
  have hP := va_P.swap hP
  have hD := va_D.swap hD
  have hP : va_P (dC, dI) vwCl (((wD_ d0 s0 z0 b0 q0 t0 dhasSaved dkeptError dmoved ++ wS_ s0 v0 f0 r0 ++ wV_ v0 v_keys v_firsts v_ends v_values v_inferred v_gone cI cZ vkeys vfirsts vends vvalues vinferred vgone vmade ++ wF_ f0 f_keys f_days f_amounts f_versions cI fkeys fdays famounts fversions fcount ++ wR_ r0 r_keys r_days r_values cI rkeys rdays rvalues rcount) ++ (wI_ w0 cI 180 wv ++ (wI_ x0 cI 180 xv ++ wY_ y0 cO K yr ++ wJ_ j0 cJ 60 (fun _ => 0) ++ wI_ n0 cI 60 (fun _ => 0)))) ++ rw_ cI K yr zv) H2 := hP
  have hD : va_D A (((wD_ d0 s0 z0 b0 q0 t0 dhasSaved dkeptError dmoved ++ wS_ s0 v0 f0 r0 ++ wV_ v0 v_keys v_firsts v_ends v_values v_inferred v_gone cI cZ vkeys vfirsts vends vvalues vinferred vgone vmade ++ wF_ f0 f_keys f_days f_amounts f_versions cI fkeys fdays famounts fversions fcount ++ wR_ r0 r_keys r_days r_values cI rkeys rdays rvalues rcount) ++ (wI_ w0 cI 180 wv ++ (wI_ x0 cI 180 xv ++ wY_ y0 cO K yr ++ wJ_ j0 cJ 60 (fun _ => 0) ++ wI_ n0 cI 60 (fun _ => 0)))) ++ rw_ cI K yr zv) := hD
  refine W.widen (k := CN + 20) (n := SN + 120) (by omega) (by omega) ?_
  refine lv_astore (lv' := [(12, .ref n0), (11, .ref j0), (0, .ref b), (1, .ref d0), (2, .int l2), (4, .ref y0), (5, .ref w0), (6, .ref x0), (7, .int l7), (8, .int l8), (10, .int l10)]) hx hb dL_law_1085 hl (by decide) rfl (fun ls hl => ?_)
  refine lv_iconst (v := 0) hx hb dL_law_1087 (by decide) ?_
  refine lv_istore (lv' := [(13, .int 0), (12, .ref n0), (11, .ref j0), (0, .ref b), (1, .ref d0), (2, .int l2), (4, .ref y0), (5, .ref w0), (6, .ref x0), (7, .int l7), (8, .int l8), (10, .int l10)]) hx hb dL_law_1088 hl (by decide) rfl (fun ls hl => ?_)
  have hkx1090 : ∀ (l2 : Int32) (l7 : Int32) (l8 : Int32) (l10 : Int32) (l13 : Int32) (dhasSaved : Int32) (dkeptError : Int32) (dmoved : Int32) (vkeys : Nat → Int32) (vfirsts : Nat → Int32) (vends : Nat → Int32) (vvalues : Nat → Int32) (vinferred : Nat → Int32) (vgone : Nat → Int32) (vmade : Int32) (fkeys : Nat → Int32) (fdays : Nat → Int32) (famounts : Nat → Int32) (fversions : Nat → Int32) (fcount : Int32) (rkeys : Nat → Int32) (rdays : Nat → Int32) (rvalues : Nat → Int32) (rcount : Int32) (wv : Nat → Int32) (xv : Nat → Int32) (jv : Nat → Int64) (nv : Nat → Int32) (zv : Nat → Nat → Int32) (H : Heap) (locs : List Loc) (ls : Array Slot), (f_law_E2_X1090 xs L K k1238) l2 l7 l8 l10 l13 (dhasSaved, dkeptError, dmoved) () (vkeys, vfirsts, vends, vvalues, vinferred, vgone, vmade) (fkeys, fdays, famounts, fversions, fcount) (rkeys, rdays, rvalues, rcount) wv xv () jv nv zv = some R → va_P (dC, dI) vwCl (((wD_ d0 s0 z0 b0 q0 t0 dhasSaved dkeptError dmoved ++ wS_ s0 v0 f0 r0 ++ wV_ v0 v_keys v_firsts v_ends v_values v_inferred v_gone cI cZ vkeys vfirsts vends vvalues vinferred vgone vmade ++ wF_ f0 f_keys f_days f_amounts f_versions cI fkeys fdays famounts fversions fcount ++ wR_ r0 r_keys r_days r_values cI rkeys rdays rvalues rcount) ++ (wI_ w0 cI 180 wv ++ (wI_ x0 cI 180 xv ++ wY_ y0 cO K yr ++ wJ_ j0 cJ 60 jv ++ wI_ n0 cI 60 nv))) ++ rw_ cI K yr zv) H → va_D A (((wD_ d0 s0 z0 b0 q0 t0 dhasSaved dkeptError dmoved ++ wS_ s0 v0 f0 r0 ++ wV_ v0 v_keys v_firsts v_ends v_values v_inferred v_gone cI cZ vkeys vfirsts vends vvalues vinferred vgone vmade ++ wF_ f0 f_keys f_days f_amounts f_versions cI fkeys fdays famounts fversions fcount ++ wR_ r0 r_keys r_days r_values cI rkeys rdays rvalues rcount) ++ (wI_ w0 cI 180 wv ++ (wI_ x0 cI 180 xv ++ wY_ y0 cO K yr ++ wJ_ j0 cJ 60 jv ++ wI_ n0 cI 60 nv))) ++ rw_ cI K yr zv) → va_S A s.heap H locs → lv_has ls 22 [(0, .ref b), (1, .ref d0), (2, .int l2), (4, .ref y0), (5, .ref w0), (6, .ref x0), (7, .int l7), (8, .int l8), (10, .int l10), (11, .ref j0), (12, .ref n0), (13, .int l13)] → W p l e room_1 s m #[Value.ref b] below meth c H locs (CN + 20) (SN + 120) (lw_Z below #[Value.ref b] s) (F0 m 1238 ls []) := by
    intro l2 l7 l8 l10 l13 dhasSaved dkeptError dmoved vkeys vfirsts vends vvalues vinferred vgone vmade fkeys fdays famounts fversions fcount rkeys rdays rvalues rcount wv xv jv nv zv H locs ls hf hP hD hS hl
    unfold f_law_E2_X1090 at hf
    try dsimp only at hf
    refine W.widen (k := CN + 20) (n := SN + 120) (by omega) (by omega) ?_
    exact hk1238 j0 n0 l2 l7 l8 l10 dhasSaved dkeptError dmoved vkeys vfirsts vends vvalues vinferred vgone vmade fkeys fdays famounts fversions fcount rkeys rdays rvalues rcount wv xv jv nv zv _ _ _ hf hP hD hS (lv_sub hl [0, 1, 2, 3, 4, 5, 6, 7, 8, 9, 10] rfl)
  have lp1090 : ∀ (n : Nat) (l2 : Int32) (l7 : Int32) (l8 : Int32) (l10 : Int32) (l13 : Int32) (dhasSaved : Int32) (dkeptError : Int32) (dmoved : Int32) (vkeys : Nat → Int32) (vfirsts : Nat → Int32) (vends : Nat → Int32) (vvalues : Nat → Int32) (vinferred : Nat → Int32) (vgone : Nat → Int32) (vmade : Int32) (fkeys : Nat → Int32) (fdays : Nat → Int32) (famounts : Nat → Int32) (fversions : Nat → Int32) (fcount : Int32) (rkeys : Nat → Int32) (rdays : Nat → Int32) (rvalues : Nat → Int32) (rcount : Int32) (wv : Nat → Int32) (xv : Nat → Int32) (jv : Nat → Int64) (nv : Nat → Int32) (zv : Nat → Nat → Int32) (H : Heap) (locs : List Loc) (ls : Array Slot), f_law_E2_L1090 xs L K (f_law_E2_X1090 xs L K k1238) n l2 l7 l8 l10 l13 (dhasSaved, dkeptError, dmoved) () (vkeys, vfirsts, vends, vvalues, vinferred, vgone, vmade) (fkeys, fdays, famounts, fversions, fcount) (rkeys, rdays, rvalues, rcount) wv xv () jv nv zv = some R → va_P (dC, dI) vwCl (((wD_ d0 s0 z0 b0 q0 t0 dhasSaved dkeptError dmoved ++ wS_ s0 v0 f0 r0 ++ wV_ v0 v_keys v_firsts v_ends v_values v_inferred v_gone cI cZ vkeys vfirsts vends vvalues vinferred vgone vmade ++ wF_ f0 f_keys f_days f_amounts f_versions cI fkeys fdays famounts fversions fcount ++ wR_ r0 r_keys r_days r_values cI rkeys rdays rvalues rcount) ++ (wI_ w0 cI 180 wv ++ (wI_ x0 cI 180 xv ++ wY_ y0 cO K yr ++ wJ_ j0 cJ 60 jv ++ wI_ n0 cI 60 nv))) ++ rw_ cI K yr zv) H → va_D A (((wD_ d0 s0 z0 b0 q0 t0 dhasSaved dkeptError dmoved ++ wS_ s0 v0 f0 r0 ++ wV_ v0 v_keys v_firsts v_ends v_values v_inferred v_gone cI cZ vkeys vfirsts vends vvalues vinferred vgone vmade ++ wF_ f0 f_keys f_days f_amounts f_versions cI fkeys fdays famounts fversions fcount ++ wR_ r0 r_keys r_days r_values cI rkeys rdays rvalues rcount) ++ (wI_ w0 cI 180 wv ++ (wI_ x0 cI 180 xv ++ wY_ y0 cO K yr ++ wJ_ j0 cJ 60 jv ++ wI_ n0 cI 60 nv))) ++ rw_ cI K yr zv) → va_S A s.heap H locs → lv_has ls 22 [(0, .ref b), (1, .ref d0), (2, .int l2), (4, .ref y0), (5, .ref w0), (6, .ref x0), (7, .int l7), (8, .int l8), (10, .int l10), (11, .ref j0), (12, .ref n0), (13, .int l13)] → W p l e room_1 s m #[Value.ref b] below meth c H locs (CN + 20) (SN + 120) (lw_Z below #[Value.ref b] s) (F0 m 1090 ls []) := by
    intro n
    induction n with
    | zero => intro l2 l7 l8 l10 l13 dhasSaved dkeptError dmoved vkeys vfirsts vends vvalues vinferred vgone vmade fkeys fdays famounts fversions fcount rkeys rdays rvalues rcount wv xv jv nv zv H locs ls hf hP hD hS hl; exact absurd hf (fun h => nomatch h)
    | succ n ih =>
      intro l2 l7 l8 l10 l13 dhasSaved dkeptError dmoved vkeys vfirsts vends vvalues vinferred vgone vmade fkeys fdays famounts fversions fcount rkeys rdays rvalues rcount wv xv jv nv zv H locs ls hf hP hD hS hl
      have hf : f_law_E2_S1090 xs L K (f_law_E2_X1090 xs L K k1238) (f_law_E2_L1090 xs L K (f_law_E2_X1090 xs L K k1238) n) l2 l7 l8 l10 l13 (dhasSaved, dkeptError, dmoved) () (vkeys, vfirsts, vends, vvalues, vinferred, vgone, vmade) (fkeys, fdays, famounts, fversions, fcount) (rkeys, rdays, rvalues, rcount) wv xv () jv nv zv = some R := hf
      generalize f_law_E2_L1090 xs L K (f_law_E2_X1090 xs L K k1238) n = kl1090 at hf ih
      generalize (f_law_E2_X1090 xs L K k1238) = kx1090 at hf hkx1090
      unfold f_law_E2_S1090 at hf
      try dsimp only at hf
      refine lv_iload hx hb dL_law_1090 (lv_at hl 11 rfl) ?_
      refine lv_iload hx hb dL_law_1092 (lv_at hl 7 rfl) ?_
      refine lv_icmp_ge (tgt := 1238) hx hb dL_law_1094 (by decide) (fun c3 => ?_) (fun c3 => ?_)
      · have hf := ite_T c3 hf
        exact hkx1090 l2 l7 l8 l10 l13 dhasSaved dkeptError dmoved vkeys vfirsts vends vvalues vinferred vgone vmade fkeys fdays famounts fversions fcount rkeys rdays rvalues rcount wv xv jv nv zv _ _ _ hf hP hD hS (lv_sub hl [0, 1, 2, 3, 4, 5, 6, 7, 8, 9, 10, 11] rfl)
      · have hf := ite_F c3 hf
        refine lv_aload hx hb dL_law_1097 (lv_at hl 3 rfl) ?_
        refine lv_aload hx hb dL_law_1099 (lv_at hl 5 rfl) ?_
        refine lv_iconst (v := 3) hx hb dL_law_1101 (by decide) ?_
        refine lv_iload hx hb dL_law_1102 (lv_at hl 11 rfl) ?_
        refine lv_imul hx hb dL_law_1104 ?_
        obtain ⟨h4, hf⟩ := gd_T hf
        refine va_iald hx hb hK hP 19 0 rfl rfl h4 dL_law_1105 ?_
        obtain ⟨h5, hf⟩ := gd_T hf
        refine ald_Y hx hb hKo hP 20 0 rfl rfl h5 dL_law_1106 ?_
        refine lv_aload hx hb dL_law_1107 (lv_at hl 5 rfl) ?_
        refine lv_iconst (v := 3) hx hb dL_law_1109 (by decide) ?_
        refine lv_iload hx hb dL_law_1110 (lv_at hl 11 rfl) ?_
        refine lv_imul hx hb dL_law_1112 ?_
        refine lv_iconst (v := 1) hx hb dL_law_1113 (by decide) ?_
        refine lv_iadd hx hb dL_law_1114 ?_
        obtain ⟨h6, hf⟩ := gd_T hf
        refine va_iald hx hb hK hP 19 0 rfl rfl h6 dL_law_1115 ?_
        obtain ⟨h7, hf⟩ := gd_T hf
        refine va_iald hx hb hK hP _ 0 (rw_at (in_lt h5)) rfl h7 dL_law_1116 ?_
        refine lv_istore (lv' := [(14, .int (zv (xv (3 * l13).toNatClampNeg).toNatClampNeg (xv ((3 * l13) + 1).toNatClampNeg).toNatClampNeg)), (0, .ref b), (1, .ref d0), (2, .int l2), (4, .ref y0), (5, .ref w0), (6, .ref x0), (7, .int l7), (8, .int l8), (10, .int l10), (11, .ref j0), (12, .ref n0), (13, .int l13)]) hx hb dL_law_1117 hl (by decide) rfl (fun ls hl => ?_)
        refine lv_aload hx hb dL_law_1119 (lv_at hl 10 rfl) ?_
        refine lv_iload hx hb dL_law_1121 (lv_at hl 0 rfl) ?_
        refine lv_dup2_11 hx hb dL_law_1123 rfl rfl ?_
        obtain ⟨h8, hf⟩ := gd_T hf
        refine va_lald hx hb hK hP 21 3 rfl rfl h8 dL_law_1124 ?_
        refine lv_aload hx hb dL_law_1125 (lv_at hl 6 rfl) ?_
        refine lv_iconst (v := 3) hx hb dL_law_1127 (by decide) ?_
        refine lv_iload hx hb dL_law_1128 (lv_at hl 12 rfl) ?_
        refine lv_imul hx hb dL_law_1130 ?_
        refine lv_iconst (v := 2) hx hb dL_law_1131 (by decide) ?_
        refine lv_iadd hx hb dL_law_1132 ?_
        obtain ⟨h9, hf⟩ := gd_T hf
        refine va_iald hx hb hK hP 19 0 rfl rfl h9 dL_law_1133 ?_
        refine lv_i2l hx hb dL_law_1134 rfl ?_
        refine lv_ladd hx hb dL_law_1135 ?_
        obtain ⟨h10, hf⟩ := gd_T hf
        refine va_last hx hb hK hP hD hS 21 3 rfl rfl h10 dL_law_1136 (fun H11 locs hP hD hS => ?_)
        have hP : va_P (dC, dI) vwCl (((wD_ d0 s0 z0 b0 q0 t0 dhasSaved dkeptError dmoved ++ wS_ s0 v0 f0 r0 ++ wV_ v0 v_keys v_firsts v_ends v_values v_inferred v_gone cI cZ vkeys vfirsts vends vvalues vinferred vgone vmade ++ wF_ f0 f_keys f_days f_amounts f_versions cI fkeys fdays famounts fversions fcount ++ wR_ r0 r_keys r_days r_values cI rkeys rdays rvalues rcount) ++ (wI_ w0 cI 180 wv ++ (wI_ x0 cI 180 xv ++ wY_ y0 cO K yr ++ wJ_ j0 cJ 60 (vp_updL jv ((zv (xv (3 * l13).toNatClampNeg).toNatClampNeg (xv ((3 * l13) + 1).toNatClampNeg).toNatClampNeg).toNatClampNeg) ((jv (zv (xv (3 * l13).toNatClampNeg).toNatClampNeg (xv ((3 * l13) + 1).toNatClampNeg).toNatClampNeg).toNatClampNeg) + ((xv ((3 * l13) + 2).toNatClampNeg).toInt64))) ++ wI_ n0 cI 60 nv))) ++ rw_ cI K yr zv) H11 := hP
        have hD : va_D A (((wD_ d0 s0 z0 b0 q0 t0 dhasSaved dkeptError dmoved ++ wS_ s0 v0 f0 r0 ++ wV_ v0 v_keys v_firsts v_ends v_values v_inferred v_gone cI cZ vkeys vfirsts vends vvalues vinferred vgone vmade ++ wF_ f0 f_keys f_days f_amounts f_versions cI fkeys fdays famounts fversions fcount ++ wR_ r0 r_keys r_days r_values cI rkeys rdays rvalues rcount) ++ (wI_ w0 cI 180 wv ++ (wI_ x0 cI 180 xv ++ wY_ y0 cO K yr ++ wJ_ j0 cJ 60 (vp_updL jv ((zv (xv (3 * l13).toNatClampNeg).toNatClampNeg (xv ((3 * l13) + 1).toNatClampNeg).toNatClampNeg).toNatClampNeg) ((jv (zv (xv (3 * l13).toNatClampNeg).toNatClampNeg (xv ((3 * l13) + 1).toNatClampNeg).toNatClampNeg).toNatClampNeg) + ((xv ((3 * l13) + 2).toNatClampNeg).toInt64))) ++ wI_ n0 cI 60 nv))) ++ rw_ cI K yr zv) := hD
        obtain ⟨u12, e13, hf⟩ := nm_T hf
        rw [← e13] at hP hD
        refine lv_aload hx hb dL_law_1137 (lv_at hl 11 rfl) ?_
        refine lv_iload hx hb dL_law_1139 (lv_at hl 0 rfl) ?_
        refine lv_dup2_11 hx hb dL_law_1141 rfl rfl ?_
        obtain ⟨h14, hf⟩ := gd_T hf
        refine va_iald hx hb hK hP 22 0 rfl rfl h14 dL_law_1142 ?_
        refine lv_iconst (v := 1) hx hb dL_law_1143 (by decide) ?_
        refine lv_iadd hx hb dL_law_1144 ?_
        obtain ⟨h15, hf⟩ := gd_T hf
        refine va_iast hx hb hK hP hD hS 22 0 rfl rfl h15 dL_law_1145 (fun H16 locs hP hD hS => ?_)
        have hP : va_P (dC, dI) vwCl (((wD_ d0 s0 z0 b0 q0 t0 dhasSaved dkeptError dmoved ++ wS_ s0 v0 f0 r0 ++ wV_ v0 v_keys v_firsts v_ends v_values v_inferred v_gone cI cZ vkeys vfirsts vends vvalues vinferred vgone vmade ++ wF_ f0 f_keys f_days f_amounts f_versions cI fkeys fdays famounts fversions fcount ++ wR_ r0 r_keys r_days r_values cI rkeys rdays rvalues rcount) ++ (wI_ w0 cI 180 wv ++ (wI_ x0 cI 180 xv ++ wY_ y0 cO K yr ++ wJ_ j0 cJ 60 u12 ++ wI_ n0 cI 60 (upd nv ((zv (xv (3 * l13).toNatClampNeg).toNatClampNeg (xv ((3 * l13) + 1).toNatClampNeg).toNatClampNeg).toNatClampNeg) ((nv (zv (xv (3 * l13).toNatClampNeg).toNatClampNeg (xv ((3 * l13) + 1).toNatClampNeg).toNatClampNeg).toNatClampNeg) + 1))))) ++ rw_ cI K yr zv) H16 := hP
        have hD : va_D A (((wD_ d0 s0 z0 b0 q0 t0 dhasSaved dkeptError dmoved ++ wS_ s0 v0 f0 r0 ++ wV_ v0 v_keys v_firsts v_ends v_values v_inferred v_gone cI cZ vkeys vfirsts vends vvalues vinferred vgone vmade ++ wF_ f0 f_keys f_days f_amounts f_versions cI fkeys fdays famounts fversions fcount ++ wR_ r0 r_keys r_days r_values cI rkeys rdays rvalues rcount) ++ (wI_ w0 cI 180 wv ++ (wI_ x0 cI 180 xv ++ wY_ y0 cO K yr ++ wJ_ j0 cJ 60 u12 ++ wI_ n0 cI 60 (upd nv ((zv (xv (3 * l13).toNatClampNeg).toNatClampNeg (xv ((3 * l13) + 1).toNatClampNeg).toNatClampNeg).toNatClampNeg) ((nv (zv (xv (3 * l13).toNatClampNeg).toNatClampNeg (xv ((3 * l13) + 1).toNatClampNeg).toNatClampNeg).toNatClampNeg) + 1))))) ++ rw_ cI K yr zv) := hD
        obtain ⟨u17, e18, hf⟩ := nm_T hf
        rw [← e18] at hP hD
        refine lv_aload_n hx hb dL_law_1146 rfl (lv_at hl 2 rfl) ?_
        refine lv_iload hx hb dL_law_1147 (lv_at hl 12 rfl) ?_
        refine lv_iconst (v := 0) hx hb dL_law_1149 (by decide) ?_
        obtain ⟨R21, g22, hf⟩ := bd_B hf
        obtain ⟨x19, rfl⟩ : ∃ z, z = R21 := ⟨_, rfl⟩
        have hPc : va_P (dC, dI) vwCl (wD_ d0 s0 z0 b0 q0 t0 dhasSaved dkeptError dmoved ++ wS_ s0 v0 f0 r0 ++ wV_ v0 v_keys v_firsts v_ends v_values v_inferred v_gone cI cZ vkeys vfirsts vends vvalues vinferred vgone vmade ++ wF_ f0 f_keys f_days f_amounts f_versions cI fkeys fdays famounts fversions fcount ++ wR_ r0 r_keys r_days r_values cI rkeys rdays rvalues rcount) H16 := P_pre (P_pre hP)
        have hDc : va_D A (wD_ d0 s0 z0 b0 q0 t0 dhasSaved dkeptError dmoved ++ wS_ s0 v0 f0 r0 ++ wV_ v0 v_keys v_firsts v_ends v_values v_inferred v_gone cI cZ vkeys vfirsts vends vvalues vinferred vgone vmade ++ wF_ f0 f_keys f_days f_amounts f_versions cI fkeys fdays famounts fversions fcount ++ wR_ r0 r_keys r_days r_values cI rkeys rdays rvalues rcount) := D_pre (D_pre hD)
        have hFc := F_of hDc hS hA
        cases x19 with
        | error E27 =>
          exact absurd hf (fun h => nomatch h)
        | ok r20 =>
          refine va_calli (va_runV (As := [.int l13, .int 0]) (rest := []) ⟨hx, hb, hml, hown, hts⟩ (cn_X5_fact l dC dI cI cZ cC cJ cD d0 s0 z0 b0 q0 t0 v0 f0 r0 v_keys v_firsts v_ends v_values v_inferred v_gone f_keys f_days f_amounts f_versions r_keys r_days r_values H16.size dhasSaved dkeptError dmoved vkeys vfirsts vends vvalues vinferred vgone vmade fkeys fdays famounts fversions fcount rkeys rdays rvalues rcount l13 (0 : Int32) (Except.ok r20) g22 r20 rfl) (cwV 2 hts gL_law_X5_fact rfl rfl rfl hs_X5_fact ⟨Nat.le_of_ble_eq_true rfl, Nat.le_of_ble_eq_true rfl⟩) (preV_ (ci := 7) (q0 := 0) hPc hK hDc rfl rfl rfl rfl) rfl rfl hl.1 rfl (lv_room (Nat.le_of_ble_eq_true rfl)) dL_law_1150 ⟨by show _ ≤ 600390; omega, by show _ ≤ 7288080; omega⟩) hS (fun q _ h => hFc q h) hFc (fun z26 u t H25 locs ht hvm hw hB hz1 hk1 hS => ?_)
          have hw : r20 = z26 := hw.symm
          subst hw
          obtain ⟨hP, hD⟩ := preJ_ (X' := wD_ d0 s0 z0 b0 q0 t0 dhasSaved dkeptError dmoved ++ wS_ s0 v0 f0 r0 ++ wV_ v0 v_keys v_firsts v_ends v_values v_inferred v_gone cI cZ vkeys vfirsts vends vvalues vinferred vgone vmade ++ wF_ f0 f_keys f_days f_amounts f_versions cI fkeys fdays famounts fversions fcount ++ wR_ r0 r_keys r_days r_values cI rkeys rdays rvalues rcount) hP hD rfl hk1 hB ht
          refine lv_aload hx hb dL_law_1153 (lv_at hl 6 rfl) ?_
          refine lv_iconst (v := 3) hx hb dL_law_1155 (by decide) ?_
          refine lv_iload hx hb dL_law_1156 (lv_at hl 12 rfl) ?_
          refine lv_imul hx hb dL_law_1158 ?_
          obtain ⟨h28, hf⟩ := gd_T hf
          refine va_iald hx hb hK hP 19 0 rfl rfl h28 dL_law_1159 ?_
          refine lv_icmp_ne (tgt := 1230) hx hb dL_law_1160 (by decide) (fun c29 => ?_) (fun c29 => ?_)
          · have hf := ite_F c29 hf
            refine lv_iconst (v := 0) hx hb dL_law_1230 (by decide) ?_
            exact absurd hf (fun h => nomatch h)
          · have hf := ite_T c29 hf
            refine lv_aload_n hx hb dL_law_1163 rfl (lv_at hl 2 rfl) ?_
            refine lv_iload hx hb dL_law_1164 (lv_at hl 12 rfl) ?_
            refine lv_iconst (v := 1) hx hb dL_law_1166 (by decide) ?_
            obtain ⟨R32, g33, hf⟩ := bd_B hf
            obtain ⟨x30, rfl⟩ : ∃ z, z = R32 := ⟨_, rfl⟩
            have hPc : va_P (dC, dI) vwCl (wD_ d0 s0 z0 b0 q0 t0 dhasSaved dkeptError dmoved ++ wS_ s0 v0 f0 r0 ++ wV_ v0 v_keys v_firsts v_ends v_values v_inferred v_gone cI cZ vkeys vfirsts vends vvalues vinferred vgone vmade ++ wF_ f0 f_keys f_days f_amounts f_versions cI fkeys fdays famounts fversions fcount ++ wR_ r0 r_keys r_days r_values cI rkeys rdays rvalues rcount) H25 := P_pre (P_pre hP)
            have hDc : va_D A (wD_ d0 s0 z0 b0 q0 t0 dhasSaved dkeptError dmoved ++ wS_ s0 v0 f0 r0 ++ wV_ v0 v_keys v_firsts v_ends v_values v_inferred v_gone cI cZ vkeys vfirsts vends vvalues vinferred vgone vmade ++ wF_ f0 f_keys f_days f_amounts f_versions cI fkeys fdays famounts fversions fcount ++ wR_ r0 r_keys r_days r_values cI rkeys rdays rvalues rcount) := D_pre (D_pre hD)
            have hFc := F_of hDc hS hA
            cases x30 with
            | error E38 =>
              exact absurd hf (fun h => nomatch h)
            | ok r31 =>
              refine va_calli (va_runV (As := [.int l13, .int 1]) (rest := []) ⟨hx, hb, hml, hown, hts⟩ (cn_X5_fact l dC dI cI cZ cC cJ cD d0 s0 z0 b0 q0 t0 v0 f0 r0 v_keys v_firsts v_ends v_values v_inferred v_gone f_keys f_days f_amounts f_versions r_keys r_days r_values H25.size dhasSaved dkeptError dmoved vkeys vfirsts vends vvalues vinferred vgone vmade fkeys fdays famounts fversions fcount rkeys rdays rvalues rcount l13 (1 : Int32) (Except.ok r31) g33 r31 rfl) (cwV 2 hts gL_law_X5_fact rfl rfl rfl hs_X5_fact ⟨Nat.le_of_ble_eq_true rfl, Nat.le_of_ble_eq_true rfl⟩) (preV_ (ci := 7) (q0 := 0) hPc hK hDc rfl rfl rfl rfl) rfl rfl hl.1 rfl (lv_room (Nat.le_of_ble_eq_true rfl)) dL_law_1167 ⟨by show _ ≤ 600390; omega, by show _ ≤ 7288080; omega⟩) hS (fun q _ h => hFc q h) hFc (fun z37 u t H36 locs ht hvm hw hB hz1 hk1 hS => ?_)
              have hw : r31 = z37 := hw.symm
              subst hw
              obtain ⟨hP, hD⟩ := preJ_ (X' := wD_ d0 s0 z0 b0 q0 t0 dhasSaved dkeptError dmoved ++ wS_ s0 v0 f0 r0 ++ wV_ v0 v_keys v_firsts v_ends v_values v_inferred v_gone cI cZ vkeys vfirsts vends vvalues vinferred vgone vmade ++ wF_ f0 f_keys f_days f_amounts f_versions cI fkeys fdays famounts fversions fcount ++ wR_ r0 r_keys r_days r_values cI rkeys rdays rvalues rcount) hP hD rfl hk1 hB ht
              refine lv_aload hx hb dL_law_1170 (lv_at hl 6 rfl) ?_
              refine lv_iconst (v := 3) hx hb dL_law_1172 (by decide) ?_
              refine lv_iload hx hb dL_law_1173 (lv_at hl 12 rfl) ?_
              refine lv_imul hx hb dL_law_1175 ?_
              refine lv_iconst (v := 1) hx hb dL_law_1176 (by decide) ?_
              refine lv_iadd hx hb dL_law_1177 ?_
              obtain ⟨h39, hf⟩ := gd_T hf
              refine va_iald hx hb hK hP 19 0 rfl rfl h39 dL_law_1178 ?_
              refine lv_icmp_ne (tgt := 1230) hx hb dL_law_1179 (by decide) (fun c40 => ?_) (fun c40 => ?_)
              · have hf := ite_F c40 hf
                refine lv_iconst (v := 0) hx hb dL_law_1230 (by decide) ?_
                exact absurd hf (fun h => nomatch h)
              · have hf := ite_T c40 hf
                refine lv_aload_n hx hb dL_law_1182 rfl (lv_at hl 2 rfl) ?_
                refine lv_iload hx hb dL_law_1183 (lv_at hl 12 rfl) ?_
                refine lv_iconst (v := 2) hx hb dL_law_1185 (by decide) ?_
                obtain ⟨R43, g44, hf⟩ := bd_B hf
                obtain ⟨x41, rfl⟩ : ∃ z, z = R43 := ⟨_, rfl⟩
                have hPc : va_P (dC, dI) vwCl (wD_ d0 s0 z0 b0 q0 t0 dhasSaved dkeptError dmoved ++ wS_ s0 v0 f0 r0 ++ wV_ v0 v_keys v_firsts v_ends v_values v_inferred v_gone cI cZ vkeys vfirsts vends vvalues vinferred vgone vmade ++ wF_ f0 f_keys f_days f_amounts f_versions cI fkeys fdays famounts fversions fcount ++ wR_ r0 r_keys r_days r_values cI rkeys rdays rvalues rcount) H36 := P_pre (P_pre hP)
                have hDc : va_D A (wD_ d0 s0 z0 b0 q0 t0 dhasSaved dkeptError dmoved ++ wS_ s0 v0 f0 r0 ++ wV_ v0 v_keys v_firsts v_ends v_values v_inferred v_gone cI cZ vkeys vfirsts vends vvalues vinferred vgone vmade ++ wF_ f0 f_keys f_days f_amounts f_versions cI fkeys fdays famounts fversions fcount ++ wR_ r0 r_keys r_days r_values cI rkeys rdays rvalues rcount) := D_pre (D_pre hD)
                have hFc := F_of hDc hS hA
                cases x41 with
                | error E49 =>
                  exact absurd hf (fun h => nomatch h)
                | ok r42 =>
                  refine va_calli (va_runV (As := [.int l13, .int 2]) (rest := []) ⟨hx, hb, hml, hown, hts⟩ (cn_X5_fact l dC dI cI cZ cC cJ cD d0 s0 z0 b0 q0 t0 v0 f0 r0 v_keys v_firsts v_ends v_values v_inferred v_gone f_keys f_days f_amounts f_versions r_keys r_days r_values H36.size dhasSaved dkeptError dmoved vkeys vfirsts vends vvalues vinferred vgone vmade fkeys fdays famounts fversions fcount rkeys rdays rvalues rcount l13 (2 : Int32) (Except.ok r42) g44 r42 rfl) (cwV 2 hts gL_law_X5_fact rfl rfl rfl hs_X5_fact ⟨Nat.le_of_ble_eq_true rfl, Nat.le_of_ble_eq_true rfl⟩) (preV_ (ci := 7) (q0 := 0) hPc hK hDc rfl rfl rfl rfl) rfl rfl hl.1 rfl (lv_room (Nat.le_of_ble_eq_true rfl)) dL_law_1186 ⟨by show _ ≤ 600390; omega, by show _ ≤ 7288080; omega⟩) hS (fun q _ h => hFc q h) hFc (fun z48 u t H47 locs ht hvm hw hB hz1 hk1 hS => ?_)
                  have hw : r42 = z48 := hw.symm
                  subst hw
                  obtain ⟨hP, hD⟩ := preJ_ (X' := wD_ d0 s0 z0 b0 q0 t0 dhasSaved dkeptError dmoved ++ wS_ s0 v0 f0 r0 ++ wV_ v0 v_keys v_firsts v_ends v_values v_inferred v_gone cI cZ vkeys vfirsts vends vvalues vinferred vgone vmade ++ wF_ f0 f_keys f_days f_amounts f_versions cI fkeys fdays famounts fversions fcount ++ wR_ r0 r_keys r_days r_values cI rkeys rdays rvalues rcount) hP hD rfl hk1 hB ht
                  refine lv_aload hx hb dL_law_1189 (lv_at hl 6 rfl) ?_
                  refine lv_iconst (v := 3) hx hb dL_law_1191 (by decide) ?_
                  refine lv_iload hx hb dL_law_1192 (lv_at hl 12 rfl) ?_
                  refine lv_imul hx hb dL_law_1194 ?_
                  refine lv_iconst (v := 2) hx hb dL_law_1195 (by decide) ?_
                  refine lv_iadd hx hb dL_law_1196 ?_
                  obtain ⟨h50, hf⟩ := gd_T hf
                  refine va_iald hx hb hK hP 19 0 rfl rfl h50 dL_law_1197 ?_
                  refine lv_icmp_ne (tgt := 1230) hx hb dL_law_1198 (by decide) (fun c51 => ?_) (fun c51 => ?_)
                  · have hf := ite_F c51 hf
                    refine lv_iconst (v := 0) hx hb dL_law_1230 (by decide) ?_
                    exact absurd hf (fun h => nomatch h)
                  · have hf := ite_T c51 hf
                    refine lv_aload_n hx hb dL_law_1201 rfl (lv_at hl 2 rfl) ?_
                    refine lv_iload hx hb dL_law_1202 (lv_at hl 12 rfl) ?_
                    refine lv_iconst (v := 3) hx hb dL_law_1204 (by decide) ?_
                    obtain ⟨R54, g55, hf⟩ := bd_B hf
                    obtain ⟨x52, rfl⟩ : ∃ z, z = R54 := ⟨_, rfl⟩
                    have hPc : va_P (dC, dI) vwCl (wD_ d0 s0 z0 b0 q0 t0 dhasSaved dkeptError dmoved ++ wS_ s0 v0 f0 r0 ++ wV_ v0 v_keys v_firsts v_ends v_values v_inferred v_gone cI cZ vkeys vfirsts vends vvalues vinferred vgone vmade ++ wF_ f0 f_keys f_days f_amounts f_versions cI fkeys fdays famounts fversions fcount ++ wR_ r0 r_keys r_days r_values cI rkeys rdays rvalues rcount) H47 := P_pre (P_pre hP)
                    have hDc : va_D A (wD_ d0 s0 z0 b0 q0 t0 dhasSaved dkeptError dmoved ++ wS_ s0 v0 f0 r0 ++ wV_ v0 v_keys v_firsts v_ends v_values v_inferred v_gone cI cZ vkeys vfirsts vends vvalues vinferred vgone vmade ++ wF_ f0 f_keys f_days f_amounts f_versions cI fkeys fdays famounts fversions fcount ++ wR_ r0 r_keys r_days r_values cI rkeys rdays rvalues rcount) := D_pre (D_pre hD)
                    have hFc := F_of hDc hS hA
                    cases x52 with
                    | error E60 =>
                      exact absurd hf (fun h => nomatch h)
                    | ok r53 =>
                      refine va_calli (va_runV (As := [.int l13, .int 3]) (rest := []) ⟨hx, hb, hml, hown, hts⟩ (cn_X5_fact l dC dI cI cZ cC cJ cD d0 s0 z0 b0 q0 t0 v0 f0 r0 v_keys v_firsts v_ends v_values v_inferred v_gone f_keys f_days f_amounts f_versions r_keys r_days r_values H47.size dhasSaved dkeptError dmoved vkeys vfirsts vends vvalues vinferred vgone vmade fkeys fdays famounts fversions fcount rkeys rdays rvalues rcount l13 (3 : Int32) (Except.ok r53) g55 r53 rfl) (cwV 2 hts gL_law_X5_fact rfl rfl rfl hs_X5_fact ⟨Nat.le_of_ble_eq_true rfl, Nat.le_of_ble_eq_true rfl⟩) (preV_ (ci := 7) (q0 := 0) hPc hK hDc rfl rfl rfl rfl) rfl rfl hl.1 rfl (lv_room (Nat.le_of_ble_eq_true rfl)) dL_law_1205 ⟨by show _ ≤ 600390; omega, by show _ ≤ 7288080; omega⟩) hS (fun q _ h => hFc q h) hFc (fun z59 u t H58 locs ht hvm hw hB hz1 hk1 hS => ?_)
                      have hw : r53 = z59 := hw.symm
                      subst hw
                      obtain ⟨hP, hD⟩ := preJ_ (X' := wD_ d0 s0 z0 b0 q0 t0 dhasSaved dkeptError dmoved ++ wS_ s0 v0 f0 r0 ++ wV_ v0 v_keys v_firsts v_ends v_values v_inferred v_gone cI cZ vkeys vfirsts vends vvalues vinferred vgone vmade ++ wF_ f0 f_keys f_days f_amounts f_versions cI fkeys fdays famounts fversions fcount ++ wR_ r0 r_keys r_days r_values cI rkeys rdays rvalues rcount) hP hD rfl hk1 hB ht
                      refine lv_iload hx hb dL_law_1208 (lv_at hl 0 rfl) ?_
                      refine lv_icmp_ne (tgt := 1230) hx hb dL_law_1210 (by decide) (fun c61 => ?_) (fun c61 => ?_)
                      · have hf := ite_F c61 hf
                        refine lv_iconst (v := 0) hx hb dL_law_1230 (by decide) ?_
                        exact absurd hf (fun h => nomatch h)
                      · have hf := ite_T c61 hf
                        refine lv_aload_n hx hb dL_law_1213 rfl (lv_at hl 2 rfl) ?_
                        refine lv_iload hx hb dL_law_1214 (lv_at hl 12 rfl) ?_
                        refine lv_iconst (v := 4) hx hb dL_law_1216 (by decide) ?_
                        obtain ⟨R64, g65, hf⟩ := bd_B hf
                        obtain ⟨x62, rfl⟩ : ∃ z, z = R64 := ⟨_, rfl⟩
                        have hPc : va_P (dC, dI) vwCl (wD_ d0 s0 z0 b0 q0 t0 dhasSaved dkeptError dmoved ++ wS_ s0 v0 f0 r0 ++ wV_ v0 v_keys v_firsts v_ends v_values v_inferred v_gone cI cZ vkeys vfirsts vends vvalues vinferred vgone vmade ++ wF_ f0 f_keys f_days f_amounts f_versions cI fkeys fdays famounts fversions fcount ++ wR_ r0 r_keys r_days r_values cI rkeys rdays rvalues rcount) H58 := P_pre (P_pre hP)
                        have hDc : va_D A (wD_ d0 s0 z0 b0 q0 t0 dhasSaved dkeptError dmoved ++ wS_ s0 v0 f0 r0 ++ wV_ v0 v_keys v_firsts v_ends v_values v_inferred v_gone cI cZ vkeys vfirsts vends vvalues vinferred vgone vmade ++ wF_ f0 f_keys f_days f_amounts f_versions cI fkeys fdays famounts fversions fcount ++ wR_ r0 r_keys r_days r_values cI rkeys rdays rvalues rcount) := D_pre (D_pre hD)
                        have hFc := F_of hDc hS hA
                        cases x62 with
                        | error E70 =>
                          exact absurd hf (fun h => nomatch h)
                        | ok r63 =>
                          refine va_calli (va_runV (As := [.int l13, .int 4]) (rest := []) ⟨hx, hb, hml, hown, hts⟩ (cn_X5_fact l dC dI cI cZ cC cJ cD d0 s0 z0 b0 q0 t0 v0 f0 r0 v_keys v_firsts v_ends v_values v_inferred v_gone f_keys f_days f_amounts f_versions r_keys r_days r_values H58.size dhasSaved dkeptError dmoved vkeys vfirsts vends vvalues vinferred vgone vmade fkeys fdays famounts fversions fcount rkeys rdays rvalues rcount l13 (4 : Int32) (Except.ok r63) g65 r63 rfl) (cwV 2 hts gL_law_X5_fact rfl rfl rfl hs_X5_fact ⟨Nat.le_of_ble_eq_true rfl, Nat.le_of_ble_eq_true rfl⟩) (preV_ (ci := 7) (q0 := 0) hPc hK hDc rfl rfl rfl rfl) rfl rfl hl.1 rfl (lv_room (Nat.le_of_ble_eq_true rfl)) dL_law_1217 ⟨by show _ ≤ 600390; omega, by show _ ≤ 7288080; omega⟩) hS (fun q _ h => hFc q h) hFc (fun z69 u t H68 locs ht hvm hw hB hz1 hk1 hS => ?_)
                          have hw : r63 = z69 := hw.symm
                          subst hw
                          obtain ⟨hP, hD⟩ := preJ_ (X' := wD_ d0 s0 z0 b0 q0 t0 dhasSaved dkeptError dmoved ++ wS_ s0 v0 f0 r0 ++ wV_ v0 v_keys v_firsts v_ends v_values v_inferred v_gone cI cZ vkeys vfirsts vends vvalues vinferred vgone vmade ++ wF_ f0 f_keys f_days f_amounts f_versions cI fkeys fdays famounts fversions fcount ++ wR_ r0 r_keys r_days r_values cI rkeys rdays rvalues rcount) hP hD rfl hk1 hB ht
                          refine lv_aload hx hb dL_law_1220 (lv_at hl 5 rfl) ?_
                          refine lv_iconst (v := 3) hx hb dL_law_1222 (by decide) ?_
                          refine lv_iload hx hb dL_law_1223 (lv_at hl 0 rfl) ?_
                          refine lv_imul hx hb dL_law_1225 ?_
                          obtain ⟨h71, hf⟩ := gd_T hf
                          refine va_iald hx hb hK hP 18 0 rfl rfl h71 dL_law_1226 ?_
                          refine lv_icmp_eq (tgt := 1232) hx hb dL_law_1227 (by decide) (fun c72 => ?_) (fun c72 => ?_)
                          · have hf := ite_T c72 hf
                            refine lv_iinc (v := l13 + 1) (lv' := [(13, .int (l13 + 1)), (14, .int (zv (xv (3 * l13).toNatClampNeg).toNatClampNeg (xv ((3 * l13) + 1).toNatClampNeg).toNatClampNeg)), (0, .ref b), (1, .ref d0), (2, .int l2), (4, .ref y0), (5, .ref w0), (6, .ref x0), (7, .int l7), (8, .int l8), (10, .int l10), (11, .ref j0), (12, .ref n0)]) hx hb dL_law_1232 hl (k := 12) rfl (by first | rfl | decide) (by decide) rfl (fun ls hl => ?_)
                            refine lv_goto (tgt := 1090) hx hb dL_law_1235 (by decide) ?_
                            exact ih l2 l7 l8 l10 (l13 + 1) dhasSaved dkeptError dmoved vkeys vfirsts vends vvalues vinferred vgone vmade fkeys fdays famounts fversions fcount rkeys rdays rvalues rcount wv xv u12 u17 zv _ _ _ hf hP hD hS (lv_sub hl [2, 3, 4, 5, 6, 7, 8, 9, 10, 11, 12, 0] rfl)
                          · have hf := ite_F c72 hf
                            refine lv_iconst (v := 0) hx hb dL_law_1230 (by decide) ?_
                            exact absurd hf (fun h => nomatch h)
  exact lp1090 fu_ l2 l7 l8 l10 (0 : Int32) dhasSaved dkeptError dmoved vkeys vfirsts vends vvalues vinferred vgone vmade fkeys fdays famounts fversions fcount rkeys rdays rvalues rcount wv xv (fun _ => 0) (fun _ => 0) zv _ _ _ hf hP hD hS (lv_sub hl [3, 4, 5, 6, 7, 8, 9, 10, 11, 2, 1, 0] rfl)
