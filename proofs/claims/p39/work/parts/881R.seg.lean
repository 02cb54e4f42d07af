def f_law_R_J34 (xs : Nat → Int32) (L K : Nat) (k35 : Int32 → Int32 → tD_ → tS_ → tV_ → tF_ → tR_ → Option Unit) (l2 : Int32) (k0_ : Int32) (D_ : tD_) (S_ : tS_) (V_ : tV_) (F_ : tF_) (R_ : tR_) : Option (Unit) :=
match D_ with
| (dhasSaved, dkeptError, dmoved) =>
match V_ with
| (vkeys, vfirsts, vends, vvalues, vinferred, vgone, vmade) =>
match F_ with
| (fkeys, fdays, famounts, fversions, fcount) =>
match R_ with
| (rkeys, rdays, rvalues, rcount) =>
k35 l2 k0_ (dhasSaved, dkeptError, dmoved) () (vkeys, vfirsts, vends, vvalues, vinferred, vgone, vmade) (fkeys, fdays, famounts, fversions, fcount) (rkeys, rdays, rvalues, rcount)
def f_law_R (xs : Nat → Int32) (L K : Nat) (k35 : Int32 → Int32 → tD_ → tS_ → tV_ → tF_ → tR_ → Option Unit)  (D_ : tD_) (S_ : tS_) (V_ : tV_) (F_ : tF_) (R_ : tR_) : Option Unit :=
match D_ with
| (dhasSaved, dkeptError, dmoved) =>
match V_ with
| (vkeys, vfirsts, vends, vvalues, vinferred, vgone, vmade) =>
match F_ with
| (fkeys, fdays, famounts, fversions, fcount) =>
match R_ with
| (rkeys, rdays, rvalues, rcount) =>
gp_ (0 : Int32) (3 : Int32) (nm_ (dw_ xs L (0 : Int32) (3 : Int32)) (fun r2 =>
gp_ (1 : Int32) (2 : Int32) (nm_ (dw_ xs L (1 : Int32) (2 : Int32)) (fun r7 =>
if r7 = 0 then
f_law_R_J34 xs L K k35 (1 + r2) (1000 : Int32) (dhasSaved, dkeptError, dmoved) () (vkeys, vfirsts, vends, vvalues, vinferred, vgone, vmade) (fkeys, fdays, famounts, fversions, fcount) (rkeys, rdays, rvalues, rcount)
else
f_law_R_J34 xs L K k35 (1 + r2) (12 : Int32) (dhasSaved, dkeptError, dmoved) () (vkeys, vfirsts, vends, vvalues, vinferred, vgone, vmade) (fkeys, fdays, famounts, fversions, fcount) (rkeys, rdays, rvalues, rcount)))))
set_option maxHeartbeats 8000000 in
set_option maxRecDepth 100000 in
theorem seg_R {p : Program} {l : Launch} {e : Env} {s : State} {m : MethodId} {below : List Frame} {meth : Method} {c : Code} {dC : Nat → ClassId} {dI : Nat → Nat → Nat} {cI cZ cC cJ cD cO : ClassId} {b L : Nat} {xs : Nat → Int32} (hst : l.stackTraces = false) (hL : L ≤ 260) (C0 : lw_At p s m meth c b L xs) (hts : ∀ w ∈ wsL_law, w.before #[Value.ref b] s = true) (hZ : Zq_ (fun q : Nat => s.heap.size ≤ q) s s.heap) (hC : Ca_ s) (hK : va_K (dC, dI) vwCl (ty_ cI cZ cC cJ cD) s) (d0 s0 z0 b0 q0 t0 v0 f0 r0 v_keys v_firsts v_ends v_values v_inferred v_gone f_keys f_days f_amounts f_versions r_keys r_days r_values : Nat) (K : Nat) (CN SN : Nat) (hCN : CN + 100 ≤ 600390) (hSN : SN + 1000 ≤ 7288080) (R : Unit) (k35 : Int32 → Int32 → tD_ → tS_ → tV_ → tF_ → tR_ → Option Unit) (hk35 : ∀ (l2 : Int32) (l3 : Int32) (dhasSaved : Int32) (dkeptError : Int32) (dmoved : Int32) (vkeys : Nat → Int32) (vfirsts : Nat → Int32) (vends : Nat → Int32) (vvalues : Nat → Int32) (vinferred : Nat → Int32) (vgone : Nat → Int32) (vmade : Int32) (fkeys : Nat → Int32) (fdays : Nat → Int32) (famounts : Nat → Int32) (fversions : Nat → Int32) (fcount : Int32) (rkeys : Nat → Int32) (rdays : Nat → Int32) (rvalues : Nat → Int32) (rcount : Int32) (H : Heap) (locs : List Loc) (ls : Array Slot), k35 l2 l3 (dhasSaved, dkeptError, dmoved) () (vkeys, vfirsts, vends, vvalues, vinferred, vgone, vmade) (fkeys, fdays, famounts, fversions, fcount) (rkeys, rdays, rvalues, rcount) = some R → va_P (dC, dI) vwCl (wD_ d0 s0 z0 b0 q0 t0 dhasSaved dkeptError dmoved ++ wS_ s0 v0 f0 r0 ++ wV_ v0 v_keys v_firsts v_ends v_values v_inferred v_gone cI cZ vkeys vfirsts vends vvalues vinferred vgone vmade ++ wF_ f0 f_keys f_days f_amounts f_versions cI fkeys fdays famounts fversions fcount ++ wR_ r0 r_keys r_days r_values cI rkeys rdays rvalues rcount) H → va_D (fun q : Nat => s.heap.size ≤ q) (wD_ d0 s0 z0 b0 q0 t0 dhasSaved dkeptError dmoved ++ wS_ s0 v0 f0 r0 ++ wV_ v0 v_keys v_firsts v_ends v_values v_inferred v_gone cI cZ vkeys vfirsts vends vvalues vinferred vgone vmade ++ wF_ f0 f_keys f_days f_amounts f_versions cI fkeys fdays famounts fversions fcount ++ wR_ r0 r_keys r_days r_values cI rkeys rdays rvalues rcount) → va_S (fun q : Nat => s.heap.size ≤ q) s.heap H locs → lv_has ls 22 [(0, .ref b), (1, .ref d0), (2, .int l2), (3, .int l3)] → W p l e room_1 s m #[Value.ref b] below meth c H locs (CN + 10) (SN + 60) (lw_Z below #[Value.ref b] s) (F0 m 35 ls []))  (dhasSaved : Int32) (dkeptError : Int32) (dmoved : Int32) (vkeys : Nat → Int32) (vfirsts : Nat → Int32) (vends : Nat → Int32) (vvalues : Nat → Int32) (vinferred : Nat → Int32) (vgone : Nat → Int32) (vmade : Int32) (fkeys : Nat → Int32) (fdays : Nat → Int32) (famounts : Nat → Int32) (fversions : Nat → Int32) (fcount : Int32) (rkeys : Nat → Int32) (rdays : Nat → Int32) (rvalues : Nat → Int32) (rcount : Int32) (H : Heap) (locs : List Loc) (ls : Array Slot) (hf : f_law_R xs L K k35  (dhasSaved, dkeptError, dmoved) () (vkeys, vfirsts, vends, vvalues, vinferred, vgone, vmade) (fkeys, fdays, famounts, fversions, fcount) (rkeys, rdays, rvalues, rcount) = some R) (hP : va_P (dC, dI) vwCl (wD_ d0 s0 z0 b0 q0 t0 dhasSaved dkeptError dmoved ++ wS_ s0 v0 f0 r0 ++ wV_ v0 v_keys v_firsts v_ends v_values v_inferred v_gone cI cZ vkeys vfirsts vends vvalues vinferred vgone vmade ++ wF_ f0 f_keys f_days f_amounts f_versions cI fkeys fdays famounts fversions fcount ++ wR_ r0 r_keys r_days r_values cI rkeys rdays rvalues rcount) H) (hD : va_D (fun q : Nat => s.heap.size ≤ q) (wD_ d0 s0 z0 b0 q0 t0 dhasSaved dkeptError dmoved ++ wS_ s0 v0 f0 r0 ++ wV_ v0 v_keys v_firsts v_ends v_values v_inferred v_gone cI cZ vkeys vfirsts vends vvalues vinferred vgone vmade ++ wF_ f0 f_keys f_days f_amounts f_versions cI fkeys fdays famounts fversions fcount ++ wR_ r0 r_keys r_days r_values cI rkeys rdays rvalues rcount)) (hS : va_S (fun q : Nat => s.heap.size ≤ q) s.heap H locs) (hl : lv_has ls 22 [(0, .ref b), (1, .ref d0)]) : W p l e room_1 s m #[Value.ref b] below meth c H locs (CN + 0) (SN + 0) (lw_Z below #[Value.ref b] s) (F0 m 8 ls []) := by
  obtain ⟨hx, hb, hr, hml, hown, -, hX, hbl, hlocks, -⟩ := C0
  have hown : s.vm.findClass RL = some m.cls := hown
  obtain ⟨hU, hN⟩ := hZ
  have hL31 : L < 2 ^ 31 := by omega
  obtain ⟨A, hAe⟩ : ∃ A : Nat → Prop, A = (fun q : Nat => s.heap.size ≤ q) := ⟨_, rfl⟩
  rw [← hAe] at hD hS hU hN hk35
  have hA : ∀ q : Nat, s.heap.size ≤ q → A q := fun q h => by rw [hAe]; exact h
  have hbA : ¬ A b := by rw [hAe]; exact Nat.not_le.mpr hbl
  unfold f_law_R at hf
  try dsimp only at hf
  have bl34 : ∀ (l2 : Int32) (k0_ : Int32) (dhasSaved : Int32) (dkeptError : Int32) (dmoved : Int32) (vkeys : Nat → Int32) (vfirsts : Nat → Int32) (vends : Nat → Int32) (vvalues : Nat → Int32) (vinferred : Nat → Int32) (vgone : Nat → Int32) (vmade : Int32) (fkeys : Nat → Int32) (fdays : Nat → Int32) (famounts : Nat → Int32) (fversions : Nat → Int32) (fcount : Int32) (rkeys : Nat → Int32) (rdays : Nat → Int32) (rvalues : Nat → Int32) (rcount : Int32) (H : Heap) (locs : List Loc) (ls : Array Slot), f_law_R_J34 xs L K k35 l2 k0_ (dhasSaved, dkeptError, dmoved) () (vkeys, vfirsts, vends, vvalues, vinferred, vgone, vmade) (fkeys, fdays, famounts, fversions, fcount) (rkeys, rdays, rvalues, rcount) = some R → va_P (dC, dI) vwCl (wD_ d0 s0 z0 b0 q0 t0 dhasSaved dkeptError dmoved ++ wS_ s0 v0 f0 r0 ++ wV_ v0 v_keys v_firsts v_ends v_values v_inferred v_gone cI cZ vkeys vfirsts vends vvalues vinferred vgone vmade ++ wF_ f0 f_keys f_days f_amounts f_versions cI fkeys fdays famounts fversions fcount ++ wR_ r0 r_keys r_days r_values cI rkeys rdays rvalues rcount) H → va_D A (wD_ d0 s0 z0 b0 q0 t0 dhasSaved dkeptError dmoved ++ wS_ s0 v0 f0 r0 ++ wV_ v0 v_keys v_firsts v_ends v_values v_inferred v_gone cI cZ vkeys vfirsts vends vvalues vinferred vgone vmade ++ wF_ f0 f_keys f_days f_amounts f_versions cI fkeys fdays famounts fversions fcount ++ wR_ r0 r_keys r_days r_values cI rkeys rdays rvalues rcount) → va_S A s.heap H locs → lv_has ls 22 [(0, .ref b), (1, .ref d0), (2, .int l2)] → W p l e room_1 s m #[Value.ref b] below meth c H locs (CN + 0) (SN + 0) (lw_Z below #[Value.ref b] s) (F0 m 34 ls [.int k0_]) := by
    intro l2 k0_ dhasSaved dkeptError dmoved vkeys vfirsts vends vvalues vinferred vgone vmade fkeys fdays famounts fversions fcount rkeys rdays rvalues rcount H locs ls hf hP hD hS hl
    unfold f_law_R_J34 at hf
    try dsimp only at hf
    refine lv_istore_n (lv' := [(3, .int k0_), (0, .ref b), (1, .ref d0), (2, .int l2)]) hx hb dL_law_34 rfl hl (by decide) rfl (fun ls hl => ?_)
    refine W.widen (k := CN + 10) (n := SN + 60) (by omega) (by omega) ?_
    exact hk35 l2 k0_ dhasSaved dkeptError dmoved vkeys vfirsts vends vvalues vinferred vgone vmade fkeys fdays famounts fversions fcount rkeys rdays rvalues rcount _ _ _ hf hP hD hS (lv_sub hl [1, 2, 3, 0] rfl)
  refine lv_iconst (v := 1) hx hb dL_law_8 (by decide) ?_
  refine lv_aload_n hx hb dL_law_9 rfl (lv_at hl 0 rfl) ?_
  refine lv_iconst (v := 0) hx hb dL_law_10 (by decide) ?_
  refine lv_iconst (v := 3) hx hb dL_law_11 (by decide) ?_
  obtain ⟨h1, hf⟩ := gp_T hf
  have hF9 : ∀ q : Nat, H.size ≤ q → A q := fun q h => hA q (Nat.le_trans hS.1 h)
  refine va_calli (va_runS (As := [.ref b, .int 0, .int 3]) (rest := [.int 1]) ⟨hx, hb, hml, hown, hts⟩ (c_L_draw l b L xs H.size (0 : Int32) (3 : Int32) h1 hL31) (cwS 3 hts gL_law_L_draw rfl rfl rfl hs_L_draw ⟨Nat.le_of_ble_eq_true rfl, Nat.le_of_ble_eq_true rfl⟩) (preX_ hX hbl hbA hS rfl) rfl rfl hl.1 rfl (lv_room (Nat.le_of_ble_eq_true rfl)) dL_law_12 ⟨by show _ ≤ 600390; omega, by show _ ≤ 7288080; omega⟩) hS (fun q _ h => hF9 q h) hF9 (fun z3 u t H5 locs ht hvm hw hB hz1 hk1 hS => ?_)
  have hP : va_P (dC, dI) vwCl (wD_ d0 s0 z0 b0 q0 t0 dhasSaved dkeptError dmoved ++ wS_ s0 v0 f0 r0 ++ wV_ v0 v_keys v_firsts v_ends v_values v_inferred v_gone cI cZ vkeys vfirsts vends vvalues vinferred vgone vmade ++ wF_ f0 f_keys f_days f_amounts f_versions cI fkeys fdays famounts fversions fcount ++ wR_ r0 r_keys r_days r_values cI rkeys rdays rvalues rcount) H5 := hP.kept (fun k q hq => hk1 q.1 (hP k q hq).lt (Nat.not_le.mpr (hP k q hq).lt))
  obtain ⟨r2, e4, hf⟩ := nm_T hf
  have hw : r2 = z3 := e4.trans hw.symm
  subst hw
  refine lv_iadd hx hb dL_law_15 ?_
  refine lv_istore_n (lv' := [(2, .int (1 + r2)), (0, .ref b), (1, .ref d0)]) hx hb dL_law_16 rfl hl (by decide) rfl (fun ls hl => ?_)
  refine lv_aload_n hx hb dL_law_17 rfl (lv_at hl 1 rfl) ?_
  refine lv_iconst (v := 1) hx hb dL_law_18 (by decide) ?_
  refine lv_iconst (v := 2) hx hb dL_law_19 (by decide) ?_
  obtain ⟨h6, hf⟩ := gp_T hf
  have hF9 : ∀ q : Nat, H5.size ≤ q → A q := fun q h => hA q (Nat.le_trans hS.1 h)
  refine va_calli (va_runS (As := [.ref b, .int 1, .int 2]) (rest := []) ⟨hx, hb, hml, hown, hts⟩ (c_L_draw l b L xs H5.size (1 : Int32) (2 : Int32) h6 hL31) (cwS 3 hts gL_law_L_draw rfl rfl rfl hs_L_draw ⟨Nat.le_of_ble_eq_true rfl, Nat.le_of_ble_eq_true rfl⟩) (preX_ hX hbl hbA hS rfl) rfl rfl hl.1 rfl (lv_room (Nat.le_of_ble_eq_true rfl)) dL_law_20 ⟨by show _ ≤ 600390; omega, by show _ ≤ 7288080; omega⟩) hS (fun q _ h => hF9 q h) hF9 (fun z8 u t H10 locs ht hvm hw hB hz1 hk1 hS => ?_)
  have hP : va_P (dC, dI) vwCl (wD_ d0 s0 z0 b0 q0 t0 dhasSaved dkeptError dmoved ++ wS_ s0 v0 f0 r0 ++ wV_ v0 v_keys v_firsts v_ends v_values v_inferred v_gone cI cZ vkeys vfirsts vends vvalues vinferred vgone vmade ++ wF_ f0 f_keys f_days f_amounts f_versions cI fkeys fdays famounts fversions fcount ++ wR_ r0 r_keys r_days r_values cI rkeys rdays rvalues rcount) H10 := hP.kept (fun k q hq => hk1 q.1 (hP k q hq).lt (Nat.not_le.mpr (hP k q hq).lt))
  obtain ⟨r7, e9, hf⟩ := nm_T hf
  have hw : r7 = z8 := e9.trans hw.symm
  subst hw
  refine lv_if_ne (tgt := 32) hx hb dL_law_23 (by decide) (fun c11 => ?_) (fun c11 => ?_)
  · have hf := ite_F c11 hf
    refine lv_bipush (v := 12) hx hb dL_law_32 (by decide) ?_
    exact bl34 (1 + r2) (12 : Int32) dhasSaved dkeptError dmoved vkeys vfirsts vends vvalues vinferred vgone vmade fkeys fdays famounts fversions fcount rkeys rdays rvalues rcount _ _ _ hf hP hD hS (lv_sub hl [1, 2, 0] rfl)
  · have hf := ite_T c11 hf
    refine lv_sipush (v := 1000) hx hb dL_law_26 (by decide) ?_
    refine lv_goto (tgt := 34) hx hb dL_law_29 (by decide) ?_
    exact bl34 (1 + r2) (1000 : Int32) dhasSaved dkeptError dmoved vkeys vfirsts vends vvalues vinferred vgone vmade fkeys fdays famounts fversions fcount rkeys rdays rvalues rcount _ _ _ hf hP hD hS (lv_sub hl [1, 2, 0] rfl)
