set_option maxRecDepth 20000 in
theorem in_X5_makeChanges_X1 : ∀ w ∈ wsX10, w ∈ wsX5_makeChanges := by decide +kernel
set_option maxRecDepth 20000 in
theorem in_X5_makeChanges_X2 : ∀ w ∈ wsX20, w ∈ wsX5_makeChanges := by decide +kernel
set_option maxRecDepth 20000 in
theorem in_X5_makeChanges_X5 : ∀ w ∈ wsX50, w ∈ wsX5_makeChanges := by decide +kernel
def f_X5_makeChangesT_S16 (k_ : Int32 → Int32 → tD_ → tS_ → tV_ → tF_ → tR_ → tV_ → tR_ → Option (Int32 × tD_ × tV_ × tF_ × tV_)) (l3 : Int32) (l2 : Int32) (D_ : tD_) (S_ : tS_) (V_ : tV_) (F_ : tF_) (R_ : tR_) (B_ : tV_) (Q_ : tR_) : Option (Int32 × tD_ × tV_ × tF_ × tV_) :=
match D_ with
| (dhasSaved, dkeptError, dmoved) =>
match V_ with
| (vkeys, vfirsts, vends, vvalues, vinferred, vgone, vmade) =>
match F_ with
| (fkeys, fdays, famounts, fversions, fcount) =>
match R_ with
| (rkeys, rdays, rvalues, rcount) =>
match B_ with
| (bkeys, bfirsts, bends, bvalues, binferred, bgone, bmade) =>
match Q_ with
| (qkeys, qdays, qvalues, qcount) =>
if l2 ≤ l3 then
bd_ (f_X5_pointFacts (dhasSaved, dkeptError, dmoved) () (vkeys, vfirsts, vends, vvalues, vinferred, vgone, vmade) (fkeys, fdays, famounts, fversions, fcount) (rkeys, rdays, rvalues, rcount)) (fun ((dh14, dk15, dm16), (fk17, fd18, fa19, fv20, fc21)) =>
some ((1 : Int32), (dh14, dk15, dm16), (vkeys, vfirsts, vends, vvalues, vinferred, vgone, vmade), (fk17, fd18, fa19, fv20, fc21), (bkeys, bfirsts, bends, bvalues, binferred, bgone, bmade)))
else
if qcount ≤ l3 then
bd_ (f_X5_pointFacts (dhasSaved, dkeptError, dmoved) () (vkeys, vfirsts, vends, vvalues, vinferred, vgone, vmade) (fkeys, fdays, famounts, fversions, fcount) (rkeys, rdays, rvalues, rcount)) (fun ((dh27, dk28, dm29), (fk30, fd31, fa32, fv33, fc34)) =>
some ((1 : Int32), (dh27, dk28, dm29), (vkeys, vfirsts, vends, vvalues, vinferred, vgone, vmade), (fk30, fd31, fa32, fv33, fc34), (bkeys, bfirsts, bends, bvalues, binferred, bgone, bmade)))
else
gd_ l3 20 (
gd_ l3 20 (
gd_ l3 20 (
bd_ (f_X4_put (qkeys l3.toNatClampNeg) (qdays l3.toNatClampNeg) (qvalues l3.toNatClampNeg) (vkeys, vfirsts, vends, vvalues, vinferred, vgone, vmade)) (fun (r42, (vk43, vf44, ve45, vv46, vi47, vg48, vm49)) =>
if r42 = (-1) then
bd_ (f_X4_copy (vk43, vf44, ve45, vv46, vi47, vg48, vm49) (bkeys, bfirsts, bends, bvalues, binferred, bgone, bmade)) (fun (vk55, vf56, ve57, vv58, vi59, vg60, vm61) =>
some ((0 : Int32), (dhasSaved, dkeptError, dmoved), (vk55, vf56, ve57, vv58, vi59, vg60, vm61), (fkeys, fdays, famounts, fversions, fcount), (bkeys, bfirsts, bends, bvalues, binferred, bgone, bmade)))
else
k_ (l3 + 1) l2 (dhasSaved, dkeptError, dmoved) () (vk43, vf44, ve45, vv46, vi47, vg48, vm49) (fkeys, fdays, famounts, fversions, fcount) (rkeys, rdays, rvalues, rcount) (bkeys, bfirsts, bends, bvalues, binferred, bgone, bmade) (qkeys, qdays, qvalues, qcount)))))
def f_X5_makeChangesT_L16 : Nat → Int32 → Int32 → tD_ → tS_ → tV_ → tF_ → tR_ → tV_ → tR_ → Option (Int32 × tD_ × tV_ × tF_ × tV_)
  | 0 => fun _ _ _ _ _ _ _ _ _ => none
  | n + 1 => fun l3 l2 D_ S_ V_ F_ R_ B_ Q_ => f_X5_makeChangesT_S16 (f_X5_makeChangesT_L16 n) l3 l2 D_ S_ V_ F_ R_ B_ Q_
def f_X5_makeChangesT (a2 : Int32) (D_ : tD_) (S_ : tS_) (V_ : tV_) (F_ : tF_) (R_ : tR_) (B_ : tV_) (Q_ : tR_) : Option (Int32 × tD_ × tV_ × tF_ × tV_) :=
match D_ with
| (dhasSaved, dkeptError, dmoved) =>
match V_ with
| (vkeys, vfirsts, vends, vvalues, vinferred, vgone, vmade) =>
match F_ with
| (fkeys, fdays, famounts, fversions, fcount) =>
match R_ with
| (rkeys, rdays, rvalues, rcount) =>
match B_ with
| (bkeys, bfirsts, bends, bvalues, binferred, bgone, bmade) =>
match Q_ with
| (qkeys, qdays, qvalues, qcount) =>
bd_ (f_X4_copy (bkeys, bfirsts, bends, bvalues, binferred, bgone, bmade) (vkeys, vfirsts, vends, vvalues, vinferred, vgone, vmade)) (fun (bk1, bf2, be3, bv4, bi5, bg6, bm7) =>
f_X5_makeChangesT_L16 fu_ (0 : Int32) a2 (dhasSaved, dkeptError, dmoved) () (vkeys, vfirsts, vends, vvalues, vinferred, vgone, vmade) (fkeys, fdays, famounts, fversions, fcount) (rkeys, rdays, rvalues, rcount) (bk1, bf2, be3, bv4, bi5, bg6, bm7) (qkeys, qdays, qvalues, qcount))
abbrev rm_X5_makeChangesT : Room := { frames := 5, cells := 0, slots := 0, locals := 115 }
set_option maxHeartbeats 4000000 in
set_option maxRecDepth 100000 in
theorem c_X5_makeChangesT (l : Launch) (dC : Nat → ClassId) (dI : Nat → Nat → Nat) (cI cZ cC cJ cD : ClassId) (d0 s0 z0 b0 q0 t0 v0 f0 r0 v_keys v_firsts v_ends v_values v_inferred v_gone f_keys f_days f_amounts f_versions r_keys r_days r_values b_keys b_firsts b_ends b_values b_inferred b_gone q_keys q_days q_values : Nat) (sz : Nat) (dhasSaved : Int32) (dkeptError : Int32) (dmoved : Int32) (vkeys : Nat → Int32) (vfirsts : Nat → Int32) (vends : Nat → Int32) (vvalues : Nat → Int32) (vinferred : Nat → Int32) (vgone : Nat → Int32) (vmade : Int32) (fkeys : Nat → Int32) (fdays : Nat → Int32) (famounts : Nat → Int32) (fversions : Nat → Int32) (fcount : Int32) (rkeys : Nat → Int32) (rdays : Nat → Int32) (rvalues : Nat → Int32) (rcount : Int32) (bkeys : Nat → Int32) (bfirsts : Nat → Int32) (bends : Nat → Int32) (bvalues : Nat → Int32) (binferred : Nat → Int32) (bgone : Nat → Int32) (bmade : Int32) (qkeys : Nat → Int32) (qdays : Nat → Int32) (qvalues : Nat → Int32) (qcount : Int32) (a2 : Int32) (R : Int32 × tD_ × tV_ × tF_ × tV_) (hf : f_X5_makeChangesT a2 (dhasSaved, dkeptError, dmoved) () (vkeys, vfirsts, vends, vvalues, vinferred, vgone, vmade) (fkeys, fdays, famounts, fversions, fcount) (rkeys, rdays, rvalues, rcount) (bkeys, bfirsts, bends, bvalues, binferred, bgone, bmade) (qkeys, qdays, qvalues, qcount) = some R) : Met l yX5_makeChanges wsX5_makeChanges rm_X5_makeChangesT (Pc_ (dC, dI) (ty_ cI cZ cC cJ cD) (wD_ d0 s0 z0 b0 q0 t0 dhasSaved dkeptError dmoved ++ wS_ s0 v0 f0 r0 ++ wV_ v0 v_keys v_firsts v_ends v_values v_inferred v_gone cI cZ vkeys vfirsts vends vvalues vinferred vgone vmade ++ wF_ f0 f_keys f_days f_amounts f_versions cI fkeys fdays famounts fversions fcount ++ wR_ r0 r_keys r_days r_values cI rkeys rdays rvalues rcount ++ wV_ b0 b_keys b_firsts b_ends b_values b_inferred b_gone cI cZ bkeys bfirsts bends bvalues binferred bgone bmade ++ wR_ q0 q_keys q_days q_values cI qkeys qdays qvalues qcount) sz [.ref d0, .ref q0, .int a2]) (Qi_ (dC, dI) (ty_ cI cZ cC cJ cD) R.1 (wD_ d0 s0 z0 b0 q0 t0 R.2.1.1 R.2.1.2.1 R.2.1.2.2 ++ wS_ s0 v0 f0 r0 ++ wV_ v0 v_keys v_firsts v_ends v_values v_inferred v_gone cI cZ R.2.2.1.1 R.2.2.1.2.1 R.2.2.1.2.2.1 R.2.2.1.2.2.2.1 R.2.2.1.2.2.2.2.1 R.2.2.1.2.2.2.2.2.1 R.2.2.1.2.2.2.2.2.2 ++ wF_ f0 f_keys f_days f_amounts f_versions cI R.2.2.2.1.1 R.2.2.2.1.2.1 R.2.2.2.1.2.2.1 R.2.2.2.1.2.2.2.1 R.2.2.2.1.2.2.2.2 ++ wR_ r0 r_keys r_days r_values cI rkeys rdays rvalues rcount ++ wV_ b0 b_keys b_firsts b_ends b_values b_inferred b_gone cI cZ R.2.2.2.2.1 R.2.2.2.2.2.1 R.2.2.2.2.2.2.1 R.2.2.2.2.2.2.2.1 R.2.2.2.2.2.2.2.2.1 R.2.2.2.2.2.2.2.2.2.1 R.2.2.2.2.2.2.2.2.2.2 ++ wR_ q0 q_keys q_days q_values cI qkeys qdays qvalues qcount) (va_A (wD_ d0 s0 z0 b0 q0 t0 dhasSaved dkeptError dmoved ++ wS_ s0 v0 f0 r0 ++ wV_ v0 v_keys v_firsts v_ends v_values v_inferred v_gone cI cZ vkeys vfirsts vends vvalues vinferred vgone vmade ++ wF_ f0 f_keys f_days f_amounts f_versions cI fkeys fdays famounts fversions fcount ++ wR_ r0 r_keys r_days r_values cI rkeys rdays rvalues rcount ++ wV_ b0 b_keys b_firsts b_ends b_values b_inferred b_gone cI cZ bkeys bfirsts bends bvalues binferred bgone bmade ++ wR_ q0 q_keys q_days q_values cI qkeys qdays qvalues qcount) sz)) 0 0 (va_A (wD_ d0 s0 z0 b0 q0 t0 dhasSaved dkeptError dmoved ++ wS_ s0 v0 f0 r0 ++ wV_ v0 v_keys v_firsts v_ends v_values v_inferred v_gone cI cZ vkeys vfirsts vends vvalues vinferred vgone vmade ++ wF_ f0 f_keys f_days f_amounts f_versions cI fkeys fdays famounts fversions fcount ++ wR_ r0 r_keys r_days r_values cI rkeys rdays rvalues rcount ++ wV_ b0 b_keys b_firsts b_ends b_values b_inferred b_gone cI cZ bkeys bfirsts bends bvalues binferred bgone bmade ++ wR_ q0 q_keys q_days q_values cI qkeys qdays qvalues qcount) sz) := by
  refine met_ (cc := cX5_makeChanges) (maxL := 4) (ret := (some .boolean)) (Qcf := fun A => Qi_ (dC, dI) (ty_ cI cZ cC cJ cD) R.1 (wD_ d0 s0 z0 b0 q0 t0 R.2.1.1 R.2.1.2.1 R.2.1.2.2 ++ wS_ s0 v0 f0 r0 ++ wV_ v0 v_keys v_firsts v_ends v_values v_inferred v_gone cI cZ R.2.2.1.1 R.2.2.1.2.1 R.2.2.1.2.2.1 R.2.2.1.2.2.2.1 R.2.2.1.2.2.2.2.1 R.2.2.1.2.2.2.2.2.1 R.2.2.1.2.2.2.2.2.2 ++ wF_ f0 f_keys f_days f_amounts f_versions cI R.2.2.2.1.1 R.2.2.2.1.2.1 R.2.2.2.1.2.2.1 R.2.2.2.1.2.2.2.1 R.2.2.2.1.2.2.2.2 ++ wR_ r0 r_keys r_days r_values cI rkeys rdays rvalues rcount ++ wV_ b0 b_keys b_firsts b_ends b_values b_inferred b_gone cI cZ R.2.2.2.2.1 R.2.2.2.2.2.1 R.2.2.2.2.2.2.1 R.2.2.2.2.2.2.2.1 R.2.2.2.2.2.2.2.2.1 R.2.2.2.2.2.2.2.2.2.1 R.2.2.2.2.2.2.2.2.2.2 ++ wR_ q0 q_keys q_days q_values cI qkeys qdays qvalues qcount) A) (by decide) rfl (Nat.le_of_ble_eq_true rfl) ?_
  intro p e s m args below meth c A ls hx hb hr hts hown hlocks hml hA hP hK hD hl
  have hown : s.vm.findClass RX5 = some m.cls := hown
  have hl : lv_has ls 4 [(0, .ref d0), (1, .ref q0), (2, .int a2)] := hl
  have hS : va_S A s.heap s.heap [] := va_S.rf
  have fl10_ : (Cond.fieldLink RX5 10 "DimensionLoader" "live" "LDimensionLoader$Store;").before args s = true := hts _ (List.mem_of_getElem? (i := 2) rfl)
  have fl22_ : (Cond.fieldLink RX5 22 "DimensionLoader" "before" "LDimensionLoader$Versions;").before args s = true := hts _ (List.mem_of_getElem? (i := 1) rfl)
  have fl51_ : (Cond.fieldLink RX5 51 "DimensionLoader$Store" "versions" "LDimensionLoader$Versions;").before args s = true := hts _ (List.mem_of_getElem? (i := 3) rfl)
  have fl218_ : (Cond.fieldLink RX5 218 "DimensionLoader$Rows" "count" "I").before args s = true := hts _ (List.mem_of_getElem? (i := 4) rfl)
  have fl219_ : (Cond.fieldLink RX5 219 "DimensionLoader$Rows" "keys" "[I").before args s = true := hts _ (List.mem_of_getElem? (i := 5) rfl)
  have fl220_ : (Cond.fieldLink RX5 220 "DimensionLoader$Rows" "days" "[I").before args s = true := hts _ (List.mem_of_getElem? (i := 6) rfl)
  have fl221_ : (Cond.fieldLink RX5 221 "DimensionLoader$Rows" "values" "[I").before args s = true := hts _ (List.mem_of_getElem? (i := 7) rfl)
  have inX1_ : ∀ w ∈ wsX10, w ∈ wsX5_makeChanges := in_X5_makeChanges_X1
  have inX2_ : ∀ w ∈ wsX20, w ∈ wsX5_makeChanges := in_X5_makeChanges_X2
  have inX5_ : ∀ w ∈ wsX50, w ∈ wsX5_makeChanges := in_X5_makeChanges_X5
  unfold f_X5_makeChangesT at hf
  dsimp only at hf
  refine lv_aload_n hx hb dX5_makeChanges_0 rfl (lv_at hl 0 rfl) ?_
  refine va_get (D := (dC, dI)) (ci := 7) (v := .ref b0) (C := RX5) (T := TX5) (N := 8) hx hb hts inX5_ hown hK hP 0 rfl rfl 2 (by decide) fl22_ (fun _ h9 => h9) rfl dX5_makeChanges_1 ?_
  refine lv_aload_n hx hb dX5_makeChanges_4 rfl (lv_at hl 0 rfl) ?_
  refine va_get (D := (dC, dI)) (ci := 7) (v := .ref s0) (C := RX5) (T := TX5) (N := 8) hx hb hts inX5_ hown hK hP 0 rfl rfl 0 (by decide) fl10_ (fun _ h9 => h9) rfl dX5_makeChanges_5 ?_
  refine va_get (D := (dC, dI)) (ci := 4) (v := .ref v0) (C := RX2) (T := TX2) (N := 3) hx hb hts inX2_ hown hK hP 1 rfl rfl 0 (by decide) fl51_ (fun _ h9 => h9) rfl dX5_makeChanges_8 ?_
  obtain ⟨R8, g9, hf⟩ := bd_B hf
  obtain ⟨bk1, bf2, be3, bv4, bi5, bg6, bm7⟩ := R8
  dsimp only at hf
  have hPc := hP.sub (ws' := wV_ b0 b_keys b_firsts b_ends b_values b_inferred b_gone cI cZ bkeys bfirsts bends bvalues binferred bgone bmade ++ wV_ v0 v_keys v_firsts v_ends v_values v_inferred v_gone cI cZ vkeys vfirsts vends vvalues vinferred vgone vmade) [18, 19, 20, 21, 22, 23, 24, 2, 3, 4, 5, 6, 7, 8] rfl
  have hDc := hD.sub (ws' := wV_ b0 b_keys b_firsts b_ends b_values b_inferred b_gone cI cZ bkeys bfirsts bends bvalues binferred bgone bmade ++ wV_ v0 v_keys v_firsts v_ends v_values v_inferred v_gone cI cZ vkeys vfirsts vends vvalues vinferred vgone vmade) [18, 19, 20, 21, 22, 23, 24, 2, 3, 4, 5, 6, 7, 8] (by decide) rfl
  have hFc := va_free (wc := wV_ b0 b_keys b_firsts b_ends b_values b_inferred b_gone cI cZ bkeys bfirsts bends bvalues binferred bgone bmade ++ wV_ v0 v_keys v_firsts v_ends v_values v_inferred v_gone cI cZ vkeys vfirsts vends vvalues vinferred vgone vmade) hD hS hA [18, 19, 20, 21, 22, 23, 24, 2, 3, 4, 5, 6, 7, 8] rfl
  refine va_callv (va_runV (As := [.ref v0]) (rest := []) ⟨hx, hb, hml, hown, hts⟩ (c_X4_copy l dC dI cI cZ cC cJ cD b0 b_keys b_firsts b_ends b_values b_inferred b_gone v0 v_keys v_firsts v_ends v_values v_inferred v_gone s.heap.size bkeys bfirsts bends bvalues binferred bgone bmade vkeys vfirsts vends vvalues vinferred vgone vmade (bk1, bf2, be3, bv4, bi5, bg6, bm7) g9) (cwV 1 hts gX5_makeChanges_X4_copy rfl rfl rfl hs_X4_copy ⟨Nat.le_of_ble_eq_true rfl, Nat.le_of_ble_eq_true rfl⟩) (preV_ (ci := 6) (q0 := 0) hPc hK hDc rfl rfl rfl rfl) rfl rfl hl.1 rfl (lv_room (Nat.le_of_ble_eq_true rfl)) dX5_makeChanges_11 ⟨Nat.le_of_ble_eq_true rfl, Nat.le_of_ble_eq_true rfl⟩) hS (fun q _ h => hFc q h) hFc (fun u t H10 locs ht hvm hw hB hz1 hk1 hS => ?_)
  obtain ⟨hP, hD⟩ := aft_ (Wr := wD_ d0 s0 z0 b0 q0 t0 dhasSaved dkeptError dmoved ++ wS_ s0 v0 f0 r0 ++ wF_ f0 f_keys f_days f_amounts f_versions cI fkeys fdays famounts fversions fcount ++ wR_ r0 r_keys r_days r_values cI rkeys rdays rvalues rcount ++ wR_ q0 q_keys q_days q_values cI qkeys qdays qvalues qcount) (Wc' := wV_ b0 b_keys b_firsts b_ends b_values b_inferred b_gone cI cZ bk1 bf2 be3 bv4 bi5 bg6 bm7 ++ wV_ v0 v_keys v_firsts v_ends v_values v_inferred v_gone cI cZ vkeys vfirsts vends vvalues vinferred vgone vmade) (W2 := wD_ d0 s0 z0 b0 q0 t0 dhasSaved dkeptError dmoved ++ wS_ s0 v0 f0 r0 ++ wV_ v0 v_keys v_firsts v_ends v_values v_inferred v_gone cI cZ vkeys vfirsts vends vvalues vinferred vgone vmade ++ wF_ f0 f_keys f_days f_amounts f_versions cI fkeys fdays famounts fversions fcount ++ wR_ r0 r_keys r_days r_values cI rkeys rdays rvalues rcount ++ wV_ b0 b_keys b_firsts b_ends b_values b_inferred b_gone cI cZ bk1 bf2 be3 bv4 bi5 bg6 bm7 ++ wR_ q0 q_keys q_days q_values cI qkeys qdays qvalues qcount) hP hD [18, 19, 20, 21, 22, 23, 24, 2, 3, 4, 5, 6, 7, 8] [0, 1, 9, 10, 11, 12, 13, 14, 15, 16, 17, 25, 26, 27, 28] [0, 1, 22, 23, 24, 25, 26, 27, 28, 2, 3, 4, 5, 6, 7, 8, 9, 10, 15, 16, 17, 18, 19, 20, 21, 11, 12, 13, 14] rfl rfl (by decide) (by decide) (by decide) hk1 hFc hB ht rfl
  refine lv_iconst (v := 0) hx hb dX5_makeChanges_14 (by decide) ?_
  refine lv_istore_n (lv' := [(3, .int 0), (0, .ref d0), (1, .ref q0), (2, .int a2)]) hx hb dX5_makeChanges_15 rfl hl (by decide) rfl (fun ls hl => ?_)
  have lp16 : ∀ (n : Nat) (l3 : Int32) (l2 : Int32) (dhasSaved : Int32) (dkeptError : Int32) (dmoved : Int32) (vkeys : Nat → Int32) (vfirsts : Nat → Int32) (vends : Nat → Int32) (vvalues : Nat → Int32) (vinferred : Nat → Int32) (vgone : Nat → Int32) (vmade : Int32) (fkeys : Nat → Int32) (fdays : Nat → Int32) (famounts : Nat → Int32) (fversions : Nat → Int32) (fcount : Int32) (rkeys : Nat → Int32) (rdays : Nat → Int32) (rvalues : Nat → Int32) (rcount : Int32) (bkeys : Nat → Int32) (bfirsts : Nat → Int32) (bends : Nat → Int32) (bvalues : Nat → Int32) (binferred : Nat → Int32) (bgone : Nat → Int32) (bmade : Int32) (qkeys : Nat → Int32) (qdays : Nat → Int32) (qvalues : Nat → Int32) (qcount : Int32) (H12 : Heap) (locs : List Loc) (ls : Array Slot), f_X5_makeChangesT_L16 n l3 l2 (dhasSaved, dkeptError, dmoved) () (vkeys, vfirsts, vends, vvalues, vinferred, vgone, vmade) (fkeys, fdays, famounts, fversions, fcount) (rkeys, rdays, rvalues, rcount) (bkeys, bfirsts, bends, bvalues, binferred, bgone, bmade) (qkeys, qdays, qvalues, qcount) = some R → va_P (dC, dI) vwCl (wD_ d0 s0 z0 b0 q0 t0 dhasSaved dkeptError dmoved ++ wS_ s0 v0 f0 r0 ++ wV_ v0 v_keys v_firsts v_ends v_values v_inferred v_gone cI cZ vkeys vfirsts vends vvalues vinferred vgone vmade ++ wF_ f0 f_keys f_days f_amounts f_versions cI fkeys fdays famounts fversions fcount ++ wR_ r0 r_keys r_days r_values cI rkeys rdays rvalues rcount ++ wV_ b0 b_keys b_firsts b_ends b_values b_inferred b_gone cI cZ bkeys bfirsts bends bvalues binferred bgone bmade ++ wR_ q0 q_keys q_days q_values cI qkeys qdays qvalues qcount) H12 → va_D A (wD_ d0 s0 z0 b0 q0 t0 dhasSaved dkeptError dmoved ++ wS_ s0 v0 f0 r0 ++ wV_ v0 v_keys v_firsts v_ends v_values v_inferred v_gone cI cZ vkeys vfirsts vends vvalues vinferred vgone vmade ++ wF_ f0 f_keys f_days f_amounts f_versions cI fkeys fdays famounts fversions fcount ++ wR_ r0 r_keys r_days r_values cI rkeys rdays rvalues rcount ++ wV_ b0 b_keys b_firsts b_ends b_values b_inferred b_gone cI cZ bkeys bfirsts bends bvalues binferred bgone bmade ++ wR_ q0 q_keys q_days q_values cI qkeys qdays qvalues qcount) → va_S A s.heap H12 locs → lv_has ls 4 [(3, .int l3), (0, .ref d0), (1, .ref q0), (2, .int l2)] → W p l e (headSpec wsX5_makeChanges rm_X5_makeChangesT).room s m args below meth c H12 locs 0 0 (MQ below (Qi_ (dC, dI) (ty_ cI cZ cC cJ cD) R.1 (wD_ d0 s0 z0 b0 q0 t0 R.2.1.1 R.2.1.2.1 R.2.1.2.2 ++ wS_ s0 v0 f0 r0 ++ wV_ v0 v_keys v_firsts v_ends v_values v_inferred v_gone cI cZ R.2.2.1.1 R.2.2.1.2.1 R.2.2.1.2.2.1 R.2.2.1.2.2.2.1 R.2.2.1.2.2.2.2.1 R.2.2.1.2.2.2.2.2.1 R.2.2.1.2.2.2.2.2.2 ++ wF_ f0 f_keys f_days f_amounts f_versions cI R.2.2.2.1.1 R.2.2.2.1.2.1 R.2.2.2.1.2.2.1 R.2.2.2.1.2.2.2.1 R.2.2.2.1.2.2.2.2 ++ wR_ r0 r_keys r_days r_values cI rkeys rdays rvalues rcount ++ wV_ b0 b_keys b_firsts b_ends b_values b_inferred b_gone cI cZ R.2.2.2.2.1 R.2.2.2.2.2.1 R.2.2.2.2.2.2.1 R.2.2.2.2.2.2.2.1 R.2.2.2.2.2.2.2.2.1 R.2.2.2.2.2.2.2.2.2.1 R.2.2.2.2.2.2.2.2.2.2 ++ wR_ q0 q_keys q_days q_values cI qkeys qdays qvalues qcount) A) args s 0 0 A) (F0 m 16 ls []) := by
    intro n
    induction n with
    | zero => intro l3 l2 dhasSaved dkeptError dmoved vkeys vfirsts vends vvalues vinferred vgone vmade fkeys fdays famounts fversions fcount rkeys rdays rvalues rcount bkeys bfirsts bends bvalues binferred bgone bmade qkeys qdays qvalues qcount H12 locs ls hf hP hD hS hl; exact absurd hf (by simp [f_X5_makeChangesT_L16])
    | succ n ih =>
      intro l3 l2 dhasSaved dkeptError dmoved vkeys vfirsts vends vvalues vinferred vgone vmade fkeys fdays famounts fversions fcount rkeys rdays rvalues rcount bkeys bfirsts bends bvalues binferred bgone bmade qkeys qdays qvalues qcount H12 locs ls hf hP hD hS hl
      have hf : f_X5_makeChangesT_S16 (f_X5_makeChangesT_L16 n) l3 l2 (dhasSaved, dkeptError, dmoved) () (vkeys, vfirsts, vends, vvalues, vinferred, vgone, vmade) (fkeys, fdays, famounts, fversions, fcount) (rkeys, rdays, rvalues, rcount) (bkeys, bfirsts, bends, bvalues, binferred, bgone, bmade) (qkeys, qdays, qvalues, qcount) = some R := hf
      unfold f_X5_makeChangesT_S16 at hf
      dsimp only at hf
      refine lv_iload_n hx hb dX5_makeChanges_16 rfl (lv_at hl 0 rfl) ?_
      refine lv_iload_n hx hb dX5_makeChanges_17 rfl (lv_at hl 3 rfl) ?_
      refine lv_icmp_ge (tgt := 83) hx hb dX5_makeChanges_18 (by decide) (fun c13 => ?_) (fun c13 => ?_)
      · have hf := ite_T c13 hf
        refine lv_aload_n hx hb dX5_makeChanges_83 rfl (lv_at hl 1 rfl) ?_
        obtain ⟨R22, g23, hf⟩ := bd_B hf
        obtain ⟨⟨dh14, dk15, dm16⟩, ⟨fk17, fd18, fa19, fv20, fc21⟩⟩ := R22
        dsimp only at hf
        have hPc := hP.sub (ws' := wD_ d0 s0 z0 b0 q0 t0 dhasSaved dkeptError dmoved ++ wS_ s0 v0 f0 r0 ++ wV_ v0 v_keys v_firsts v_ends v_values v_inferred v_gone cI cZ vkeys vfirsts vends vvalues vinferred vgone vmade ++ wF_ f0 f_keys f_days f_amounts f_versions cI fkeys fdays famounts fversions fcount ++ wR_ r0 r_keys r_days r_values cI rkeys rdays rvalues rcount) [0, 1, 2, 3, 4, 5, 6, 7, 8, 9, 10, 11, 12, 13, 14, 15, 16, 17] rfl
        have hDc := hD.sub (ws' := wD_ d0 s0 z0 b0 q0 t0 dhasSaved dkeptError dmoved ++ wS_ s0 v0 f0 r0 ++ wV_ v0 v_keys v_firsts v_ends v_values v_inferred v_gone cI cZ vkeys vfirsts vends vvalues vinferred vgone vmade ++ wF_ f0 f_keys f_days f_amounts f_versions cI fkeys fdays famounts fversions fcount ++ wR_ r0 r_keys r_days r_values cI rkeys rdays rvalues rcount) [0, 1, 2, 3, 4, 5, 6, 7, 8, 9, 10, 11, 12, 13, 14, 15, 16, 17] (by decide) rfl
        have hFc := va_free (wc := wD_ d0 s0 z0 b0 q0 t0 dhasSaved dkeptError dmoved ++ wS_ s0 v0 f0 r0 ++ wV_ v0 v_keys v_firsts v_ends v_values v_inferred v_gone cI cZ vkeys vfirsts vends vvalues vinferred vgone vmade ++ wF_ f0 f_keys f_days f_amounts f_versions cI fkeys fdays famounts fversions fcount ++ wR_ r0 r_keys r_days r_values cI rkeys rdays rvalues rcount) hD hS hA [0, 1, 2, 3, 4, 5, 6, 7, 8, 9, 10, 11, 12, 13, 14, 15, 16, 17] rfl
        refine va_callv (va_runV (As := []) (rest := []) ⟨hx, hb, hml, hown, hts⟩ (c_X5_pointFacts l dC dI cI cZ cC cJ cD d0 s0 z0 b0 q0 t0 v0 f0 r0 v_keys v_firsts v_ends v_values v_inferred v_gone f_keys f_days f_amounts f_versions r_keys r_days r_values H12.size dhasSaved dkeptError dmoved vkeys vfirsts vends vvalues vinferred vgone vmade fkeys fdays famounts fversions fcount rkeys rdays rvalues rcount ((dh14, dk15, dm16), (fk17, fd18, fa19, fv20, fc21)) g23) (cwV 0 hts gX5_makeChanges_X5_pointFacts rfl rfl rfl hs_X5_pointFacts ⟨Nat.le_of_ble_eq_true rfl, Nat.le_of_ble_eq_true rfl⟩) (preV_ (ci := 7) (q0 := 0) hPc hK hDc rfl rfl rfl rfl) rfl rfl hl.1 rfl (lv_room (Nat.le_of_ble_eq_true rfl)) dX5_makeChanges_84 ⟨Nat.le_of_ble_eq_true rfl, Nat.le_of_ble_eq_true rfl⟩) hS (fun q _ h => hFc q h) hFc (fun u t H24 locs ht hvm hw hB hz1 hk1 hS => ?_)
        obtain ⟨hP, hD⟩ := aft_ (Wr := wV_ b0 b_keys b_firsts b_ends b_values b_inferred b_gone cI cZ bkeys bfirsts bends bvalues binferred bgone bmade ++ wR_ q0 q_keys q_days q_values cI qkeys qdays qvalues qcount) (Wc' := wD_ d0 s0 z0 b0 q0 t0 dh14 dk15 dm16 ++ wS_ s0 v0 f0 r0 ++ wV_ v0 v_keys v_firsts v_ends v_values v_inferred v_gone cI cZ vkeys vfirsts vends vvalues vinferred vgone vmade ++ wF_ f0 f_keys f_days f_amounts f_versions cI fk17 fd18 fa19 fv20 fc21 ++ wR_ r0 r_keys r_days r_values cI rkeys rdays rvalues rcount) (W2 := wD_ d0 s0 z0 b0 q0 t0 dh14 dk15 dm16 ++ wS_ s0 v0 f0 r0 ++ wV_ v0 v_keys v_firsts v_ends v_values v_inferred v_gone cI cZ vkeys vfirsts vends vvalues vinferred vgone vmade ++ wF_ f0 f_keys f_days f_amounts f_versions cI fk17 fd18 fa19 fv20 fc21 ++ wR_ r0 r_keys r_days r_values cI rkeys rdays rvalues rcount ++ wV_ b0 b_keys b_firsts b_ends b_values b_inferred b_gone cI cZ bkeys bfirsts bends bvalues binferred bgone bmade ++ wR_ q0 q_keys q_days q_values cI qkeys qdays qvalues qcount) hP hD [0, 1, 2, 3, 4, 5, 6, 7, 8, 9, 10, 11, 12, 13, 14, 15, 16, 17] [18, 19, 20, 21, 22, 23, 24, 25, 26, 27, 28] [11, 12, 13, 14, 15, 16, 17, 18, 19, 20, 21, 22, 23, 24, 25, 26, 27, 28, 0, 1, 2, 3, 4, 5, 6, 7, 8, 9, 10] rfl rfl (by decide) (by decide) (by decide) hk1 hFc hB ht rfl
        refine lv_iconst (v := 1) hx hb dX5_makeChanges_87 (by decide) ?_
        have hR := Option.some.inj hf
        subst hR
        exact W.zret (v := (1 : Int32)) hx hb hr (by decide) (fun t ht hW => ⟨⟨(1 : Int32), (), rfl, rfl, by rw [ht]; exact hP, va_K.moved hW.alike hK, hD⟩, hS.F ht⟩) hS.2.2 dX5_makeChanges_88
      · have hf := ite_F c13 hf
        refine lv_iload_n hx hb dX5_makeChanges_21 rfl (lv_at hl 0 rfl) ?_
        refine lv_aload_n hx hb dX5_makeChanges_22 rfl (lv_at hl 2 rfl) ?_
        refine va_get (D := (dC, dI)) (ci := 3) (v := .int qcount) (C := RX1) (T := TX1) (N := 4) hx hb hts inX1_ hown hK hP 25 rfl rfl 3 (by decide) fl218_ (fun _ h9 => h9) rfl dX5_makeChanges_23 ?_
        refine lv_icmp_ge (tgt := 83) hx hb dX5_makeChanges_26 (by decide) (fun c26 => ?_) (fun c26 => ?_)
        · have hf := ite_T c26 hf
          refine lv_aload_n hx hb dX5_makeChanges_83 rfl (lv_at hl 1 rfl) ?_
          obtain ⟨R35, g36, hf⟩ := bd_B hf
          obtain ⟨⟨dh27, dk28, dm29⟩, ⟨fk30, fd31, fa32, fv33, fc34⟩⟩ := R35
          dsimp only at hf
          have hPc := hP.sub (ws' := wD_ d0 s0 z0 b0 q0 t0 dhasSaved dkeptError dmoved ++ wS_ s0 v0 f0 r0 ++ wV_ v0 v_keys v_firsts v_ends v_values v_inferred v_gone cI cZ vkeys vfirsts vends vvalues vinferred vgone vmade ++ wF_ f0 f_keys f_days f_amounts f_versions cI fkeys fdays famounts fversions fcount ++ wR_ r0 r_keys r_days r_values cI rkeys rdays rvalues rcount) [0, 1, 2, 3, 4, 5, 6, 7, 8, 9, 10, 11, 12, 13, 14, 15, 16, 17] rfl
          have hDc := hD.sub (ws' := wD_ d0 s0 z0 b0 q0 t0 dhasSaved dkeptError dmoved ++ wS_ s0 v0 f0 r0 ++ wV_ v0 v_keys v_firsts v_ends v_values v_inferred v_gone cI cZ vkeys vfirsts vends vvalues vinferred vgone vmade ++ wF_ f0 f_keys f_days f_amounts f_versions cI fkeys fdays famounts fversions fcount ++ wR_ r0 r_keys r_days r_values cI rkeys rdays rvalues rcount) [0, 1, 2, 3, 4, 5, 6, 7, 8, 9, 10, 11, 12, 13, 14, 15, 16, 17] (by decide) rfl
          have hFc := va_free (wc := wD_ d0 s0 z0 b0 q0 t0 dhasSaved dkeptError dmoved ++ wS_ s0 v0 f0 r0 ++ wV_ v0 v_keys v_firsts v_ends v_values v_inferred v_gone cI cZ vkeys vfirsts vends vvalues vinferred vgone vmade ++ wF_ f0 f_keys f_days f_amounts f_versions cI fkeys fdays famounts fversions fcount ++ wR_ r0 r_keys r_days r_values cI rkeys rdays rvalues rcount) hD hS hA [0, 1, 2, 3, 4, 5, 6, 7, 8, 9, 10, 11, 12, 13, 14, 15, 16, 17] rfl
          refine va_callv (va_runV (As := []) (rest := []) ⟨hx, hb, hml, hown, hts⟩ (c_X5_pointFacts l dC dI cI cZ cC cJ cD d0 s0 z0 b0 q0 t0 v0 f0 r0 v_keys v_firsts v_ends v_values v_inferred v_gone f_keys f_days f_amounts f_versions r_keys r_days r_values H12.size dhasSaved dkeptError dmoved vkeys vfirsts vends vvalues vinferred vgone vmade fkeys fdays famounts fversions fcount rkeys rdays rvalues rcount ((dh27, dk28, dm29), (fk30, fd31, fa32, fv33, fc34)) g36) (cwV 0 hts gX5_makeChanges_X5_pointFacts rfl rfl rfl hs_X5_pointFacts ⟨Nat.le_of_ble_eq_true rfl, Nat.le_of_ble_eq_true rfl⟩) (preV_ (ci := 7) (q0 := 0) hPc hK hDc rfl rfl rfl rfl) rfl rfl hl.1 rfl (lv_room (Nat.le_of_ble_eq_true rfl)) dX5_makeChanges_84 ⟨Nat.le_of_ble_eq_true rfl, Nat.le_of_ble_eq_true rfl⟩) hS (fun q _ h => hFc q h) hFc (fun u t H37 locs ht hvm hw hB hz1 hk1 hS => ?_)
          obtain ⟨hP, hD⟩ := aft_ (Wr := wV_ b0 b_keys b_firsts b_ends b_values b_inferred b_gone cI cZ bkeys bfirsts bends bvalues binferred bgone bmade ++ wR_ q0 q_keys q_days q_values cI qkeys qdays qvalues qcount) (Wc' := wD_ d0 s0 z0 b0 q0 t0 dh27 dk28 dm29 ++ wS_ s0 v0 f0 r0 ++ wV_ v0 v_keys v_firsts v_ends v_values v_inferred v_gone cI cZ vkeys vfirsts vends vvalues vinferred vgone vmade ++ wF_ f0 f_keys f_days f_amounts f_versions cI fk30 fd31 fa32 fv33 fc34 ++ wR_ r0 r_keys r_days r_values cI rkeys rdays rvalues rcount) (W2 := wD_ d0 s0 z0 b0 q0 t0 dh27 dk28 dm29 ++ wS_ s0 v0 f0 r0 ++ wV_ v0 v_keys v_firsts v_ends v_values v_inferred v_gone cI cZ vkeys vfirsts vends vvalues vinferred vgone vmade ++ wF_ f0 f_keys f_days f_amounts f_versions cI fk30 fd31 fa32 fv33 fc34 ++ wR_ r0 r_keys r_days r_values cI rkeys rdays rvalues rcount ++ wV_ b0 b_keys b_firsts b_ends b_values b_inferred b_gone cI cZ bkeys bfirsts bends bvalues binferred bgone bmade ++ wR_ q0 q_keys q_days q_values cI qkeys qdays qvalues qcount) hP hD [0, 1, 2, 3, 4, 5, 6, 7, 8, 9, 10, 11, 12, 13, 14, 15, 16, 17] [18, 19, 20, 21, 22, 23, 24, 25, 26, 27, 28] [11, 12, 13, 14, 15, 16, 17, 18, 19, 20, 21, 22, 23, 24, 25, 26, 27, 28, 0, 1, 2, 3, 4, 5, 6, 7, 8, 9, 10] rfl rfl (by decide) (by decide) (by decide) hk1 hFc hB ht rfl
          refine lv_iconst (v := 1) hx hb dX5_makeChanges_87 (by decide) ?_
          have hR := Option.some.inj hf
          subst hR
          exact W.zret (v := (1 : Int32)) hx hb hr (by decide) (fun t ht hW => ⟨⟨(1 : Int32), (), rfl, rfl, by rw [ht]; exact hP, va_K.moved hW.alike hK, hD⟩, hS.F ht⟩) hS.2.2 dX5_makeChanges_88
        · have hf := ite_F c26 hf
          refine lv_aload_n hx hb dX5_makeChanges_29 rfl (lv_at hl 1 rfl) ?_
          refine va_get (D := (dC, dI)) (ci := 7) (v := .ref s0) (C := RX5) (T := TX5) (N := 8) hx hb hts inX5_ hown hK hP 0 rfl rfl 0 (by decide) fl10_ (fun _ h9 => h9) rfl dX5_makeChanges_30 ?_
          refine va_get (D := (dC, dI)) (ci := 4) (v := .ref v0) (C := RX2) (T := TX2) (N := 3) hx hb hts inX2_ hown hK hP 1 rfl rfl 0 (by decide) fl51_ (fun _ h9 => h9) rfl dX5_makeChanges_33 ?_
          refine lv_aload_n hx hb dX5_makeChanges_36 rfl (lv_at hl 2 rfl) ?_
          refine va_get (D := (dC, dI)) (ci := 3) (v := .ref q_keys) (C := RX1) (T := TX1) (N := 4) hx hb hts inX1_ hown hK hP 25 rfl rfl 0 (by decide) fl219_ (fun _ h9 => h9) rfl dX5_makeChanges_37 ?_
          refine lv_iload_n hx hb dX5_makeChanges_40 rfl (lv_at hl 0 rfl) ?_
          obtain ⟨h39, hf⟩ := gd_T hf
          refine va_iald hx hb hK hP 26 0 rfl rfl h39 dX5_makeChanges_41 ?_
          refine lv_aload_n hx hb dX5_makeChanges_42 rfl (lv_at hl 2 rfl) ?_
          refine va_get (D := (dC, dI)) (ci := 3) (v := .ref q_days) (C := RX1) (T := TX1) (N := 4) hx hb hts inX1_ hown hK hP 25 rfl rfl 1 (by decide) fl220_ (fun _ h9 => h9) rfl dX5_makeChanges_43 ?_
          refine lv_iload_n hx hb dX5_makeChanges_46 rfl (lv_at hl 0 rfl) ?_
          obtain ⟨h40, hf⟩ := gd_T hf
          refine va_iald hx hb hK hP 27 0 rfl rfl h40 dX5_makeChanges_47 ?_
          refine lv_aload_n hx hb dX5_makeChanges_48 rfl (lv_at hl 2 rfl) ?_
          refine va_get (D := (dC, dI)) (ci := 3) (v := .ref q_values) (C := RX1) (T := TX1) (N := 4) hx hb hts inX1_ hown hK hP 25 rfl rfl 2 (by decide) fl221_ (fun _ h9 => h9) rfl dX5_makeChanges_49 ?_
          refine lv_iload_n hx hb dX5_makeChanges_52 rfl (lv_at hl 0 rfl) ?_
          obtain ⟨h41, hf⟩ := gd_T hf
          refine va_iald hx hb hK hP 28 0 rfl rfl h41 dX5_makeChanges_53 ?_
          obtain ⟨R50, g51, hf⟩ := bd_B hf
          obtain ⟨r42, ⟨vk43, vf44, ve45, vv46, vi47, vg48, vm49⟩⟩ := R50
          dsimp only at hf
          have hPc := hP.sub (ws' := wV_ v0 v_keys v_firsts v_ends v_values v_inferred v_gone cI cZ vkeys vfirsts vends vvalues vinferred vgone vmade) [2, 3, 4, 5, 6, 7, 8] rfl
          have hDc := hD.sub (ws' := wV_ v0 v_keys v_firsts v_ends v_values v_inferred v_gone cI cZ vkeys vfirsts vends vvalues vinferred vgone vmade) [2, 3, 4, 5, 6, 7, 8] (by decide) rfl
          have hFc := va_free (wc := wV_ v0 v_keys v_firsts v_ends v_values v_inferred v_gone cI cZ vkeys vfirsts vends vvalues vinferred vgone vmade) hD hS hA [2, 3, 4, 5, 6, 7, 8] rfl
          refine va_calli (va_runV (As := [.int (qkeys l3.toNatClampNeg), .int (qdays l3.toNatClampNeg), .int (qvalues l3.toNatClampNeg)]) (rest := []) ⟨hx, hb, hml, hown, hts⟩ (c_X4_put l dC dI cI cZ cC cJ cD v0 v_keys v_firsts v_ends v_values v_inferred v_gone H12.size vkeys vfirsts vends vvalues vinferred vgone vmade (qkeys l3.toNatClampNeg) (qdays l3.toNatClampNeg) (qvalues l3.toNatClampNeg) (r42, (vk43, vf44, ve45, vv46, vi47, vg48, vm49)) g51) (cwV 3 hts gX5_makeChanges_X4_put rfl rfl rfl hs_X4_put ⟨Nat.le_of_ble_eq_true rfl, Nat.le_of_ble_eq_true rfl⟩) (preV_ (ci := 6) (q0 := 0) hPc hK hDc rfl rfl rfl rfl) rfl rfl hl.1 rfl (lv_room (Nat.le_of_ble_eq_true rfl)) dX5_makeChanges_54 ⟨Nat.le_of_ble_eq_true rfl, Nat.le_of_ble_eq_true rfl⟩) hS (fun q _ h => hFc q h) hFc (fun z53 u t H52 locs ht hvm hw hB hz1 hk1 hS => ?_)
          have hw : r42 = z53 := hw.symm
          subst hw
          obtain ⟨hP, hD⟩ := aft_ (Wr := wD_ d0 s0 z0 b0 q0 t0 dhasSaved dkeptError dmoved ++ wS_ s0 v0 f0 r0 ++ wF_ f0 f_keys f_days f_amounts f_versions cI fkeys fdays famounts fversions fcount ++ wR_ r0 r_keys r_days r_values cI rkeys rdays rvalues rcount ++ wV_ b0 b_keys b_firsts b_ends b_values b_inferred b_gone cI cZ bkeys bfirsts bends bvalues binferred bgone bmade ++ wR_ q0 q_keys q_days q_values cI qkeys qdays qvalues qcount) (Wc' := wV_ v0 v_keys v_firsts v_ends v_values v_inferred v_gone cI cZ vk43 vf44 ve45 vv46 vi47 vg48 vm49) (W2 := wD_ d0 s0 z0 b0 q0 t0 dhasSaved dkeptError dmoved ++ wS_ s0 v0 f0 r0 ++ wV_ v0 v_keys v_firsts v_ends v_values v_inferred v_gone cI cZ vk43 vf44 ve45 vv46 vi47 vg48 vm49 ++ wF_ f0 f_keys f_days f_amounts f_versions cI fkeys fdays famounts fversions fcount ++ wR_ r0 r_keys r_days r_values cI rkeys rdays rvalues rcount ++ wV_ b0 b_keys b_firsts b_ends b_values b_inferred b_gone cI cZ bkeys bfirsts bends bvalues binferred bgone bmade ++ wR_ q0 q_keys q_days q_values cI qkeys qdays qvalues qcount) hP hD [2, 3, 4, 5, 6, 7, 8] [0, 1, 9, 10, 11, 12, 13, 14, 15, 16, 17, 18, 19, 20, 21, 22, 23, 24, 25, 26, 27, 28] [0, 1, 22, 23, 24, 25, 26, 27, 28, 2, 3, 4, 5, 6, 7, 8, 9, 10, 11, 12, 13, 14, 15, 16, 17, 18, 19, 20, 21] rfl rfl (by decide) (by decide) (by decide) hk1 hFc hB ht rfl
          refine lv_iconst (v := (-1)) hx hb dX5_makeChanges_57 (by decide) ?_
          refine lv_icmp_ne (tgt := 77) hx hb dX5_makeChanges_58 (by decide) (fun c54 => ?_) (fun c54 => ?_)
          · have hf := ite_F c54 hf
            refine lv_iinc (v := l3 + 1) (lv' := [(3, .int (l3 + 1)), (0, .ref d0), (1, .ref q0), (2, .int l2)]) hx hb dX5_makeChanges_77 hl (k := 0) rfl (by first | rfl | decide) (by decide) rfl (fun ls hl => ?_)
            refine lv_goto (tgt := 16) hx hb dX5_makeChanges_80 (by decide) ?_
            exact ih (l3 + 1) l2 dhasSaved dkeptError dmoved vk43 vf44 ve45 vv46 vi47 vg48 vm49 fkeys fdays famounts fversions fcount rkeys rdays rvalues rcount bkeys bfirsts bends bvalues binferred bgone bmade qkeys qdays qvalues qcount _ _ _ hf hP hD hS (lv_sub hl [0, 1, 2, 3] rfl)
          · have hf := ite_T c54 hf
            refine lv_aload_n hx hb dX5_makeChanges_61 rfl (lv_at hl 1 rfl) ?_
            refine va_get (D := (dC, dI)) (ci := 7) (v := .ref s0) (C := RX5) (T := TX5) (N := 8) hx hb hts inX5_ hown hK hP 0 rfl rfl 0 (by decide) fl10_ (fun _ h9 => h9) rfl dX5_makeChanges_62 ?_
            refine va_get (D := (dC, dI)) (ci := 4) (v := .ref v0) (C := RX2) (T := TX2) (N := 3) hx hb hts inX2_ hown hK hP 1 rfl rfl 0 (by decide) fl51_ (fun _ h9 => h9) rfl dX5_makeChanges_65 ?_
            refine lv_aload_n hx hb dX5_makeChanges_68 rfl (lv_at hl 1 rfl) ?_
            refine va_get (D := (dC, dI)) (ci := 7) (v := .ref b0) (C := RX5) (T := TX5) (N := 8) hx hb hts inX5_ hown hK hP 0 rfl rfl 2 (by decide) fl22_ (fun _ h9 => h9) rfl dX5_makeChanges_69 ?_
            obtain ⟨R62, g63, hf⟩ := bd_B hf
            obtain ⟨vk55, vf56, ve57, vv58, vi59, vg60, vm61⟩ := R62
            dsimp only at hf
            have hPc := hP.sub (ws' := wV_ v0 v_keys v_firsts v_ends v_values v_inferred v_gone cI cZ vk43 vf44 ve45 vv46 vi47 vg48 vm49 ++ wV_ b0 b_keys b_firsts b_ends b_values b_inferred b_gone cI cZ bkeys bfirsts bends bvalues binferred bgone bmade) [2, 3, 4, 5, 6, 7, 8, 18, 19, 20, 21, 22, 23, 24] rfl
            have hDc := hD.sub (ws' := wV_ v0 v_keys v_firsts v_ends v_values v_inferred v_gone cI cZ vk43 vf44 ve45 vv46 vi47 vg48 vm49 ++ wV_ b0 b_keys b_firsts b_ends b_values b_inferred b_gone cI cZ bkeys bfirsts bends bvalues binferred bgone bmade) [2, 3, 4, 5, 6, 7, 8, 18, 19, 20, 21, 22, 23, 24] (by decide) rfl
            have hFc := va_free (wc := wV_ v0 v_keys v_firsts v_ends v_values v_inferred v_gone cI cZ vk43 vf44 ve45 vv46 vi47 vg48 vm49 ++ wV_ b0 b_keys b_firsts b_ends b_values b_inferred b_gone cI cZ bkeys bfirsts bends bvalues binferred bgone bmade) hD hS hA [2, 3, 4, 5, 6, 7, 8, 18, 19, 20, 21, 22, 23, 24] rfl
            refine va_callv (va_runV (As := [.ref b0]) (rest := []) ⟨hx, hb, hml, hown, hts⟩ (c_X4_copy l dC dI cI cZ cC cJ cD v0 v_keys v_firsts v_ends v_values v_inferred v_gone b0 b_keys b_firsts b_ends b_values b_inferred b_gone H52.size vk43 vf44 ve45 vv46 vi47 vg48 vm49 bkeys bfirsts bends bvalues binferred bgone bmade (vk55, vf56, ve57, vv58, vi59, vg60, vm61) g63) (cwV 1 hts gX5_makeChanges_X4_copy rfl rfl rfl hs_X4_copy ⟨Nat.le_of_ble_eq_true rfl, Nat.le_of_ble_eq_true rfl⟩) (preV_ (ci := 6) (q0 := 0) hPc hK hDc rfl rfl rfl rfl) rfl rfl hl.1 rfl (lv_room (Nat.le_of_ble_eq_true rfl)) dX5_makeChanges_72 ⟨Nat.le_of_ble_eq_true rfl, Nat.le_of_ble_eq_true rfl⟩) hS (fun q _ h => hFc q h) hFc (fun u t H64 locs ht hvm hw hB hz1 hk1 hS => ?_)
            obtain ⟨hP, hD⟩ := aft_ (Wr := wD_ d0 s0 z0 b0 q0 t0 dhasSaved dkeptError dmoved ++ wS_ s0 v0 f0 r0 ++ wF_ f0 f_keys f_days f_amounts f_versions cI fkeys fdays famounts fversions fcount ++ wR_ r0 r_keys r_days r_values cI rkeys rdays rvalues rcount ++ wR_ q0 q_keys q_days q_values cI qkeys qdays qvalues qcount) (Wc' := wV_ v0 v_keys v_firsts v_ends v_values v_inferred v_gone cI cZ vk55 vf56 ve57 vv58 vi59 vg60 vm61 ++ wV_ b0 b_keys b_firsts b_ends b_values b_inferred b_gone cI cZ bkeys bfirsts bends bvalues binferred bgone bmade) (W2 := wD_ d0 s0 z0 b0 q0 t0 dhasSaved dkeptError dmoved ++ wS_ s0 v0 f0 r0 ++ wV_ v0 v_keys v_firsts v_ends v_values v_inferred v_gone cI cZ vk55 vf56 ve57 vv58 vi59 vg60 vm61 ++ wF_ f0 f_keys f_days f_amounts f_versions cI fkeys fdays famounts fversions fcount ++ wR_ r0 r_keys r_days r_values cI rkeys rdays rvalues rcount ++ wV_ b0 b_keys b_firsts b_ends b_values b_inferred b_gone cI cZ bkeys bfirsts bends bvalues binferred bgone bmade ++ wR_ q0 q_keys q_days q_values cI qkeys qdays qvalues qcount) hP hD [2, 3, 4, 5, 6, 7, 8, 18, 19, 20, 21, 22, 23, 24] [0, 1, 9, 10, 11, 12, 13, 14, 15, 16, 17, 25, 26, 27, 28] [0, 1, 15, 16, 17, 18, 19, 20, 21, 2, 3, 4, 5, 6, 7, 8, 9, 10, 22, 23, 24, 25, 26, 27, 28, 11, 12, 13, 14] rfl rfl (by decide) (by decide) (by decide) hk1 hFc hB ht rfl
            refine lv_iconst (v := 0) hx hb dX5_makeChanges_75 (by decide) ?_
            have hR := Option.some.inj hf
            subst hR
            exact W.zret (v := (0 : Int32)) hx hb hr (by decide) (fun t ht hW => ⟨⟨(0 : Int32), (), rfl, rfl, by rw [ht]; exact hP, va_K.moved hW.alike hK, hD⟩, hS.F ht⟩) hS.2.2 dX5_makeChanges_76
  exact lp16 fu_ (0 : Int32) a2 dhasSaved dkeptError dmoved vkeys vfirsts vends vvalues vinferred vgone vmade fkeys fdays famounts fversions fcount rkeys rdays rvalues rcount bk1 bf2 be3 bv4 bi5 bg6 bm7 qkeys qdays qvalues qcount _ _ _ hf hP hD hS hl
set_option maxRecDepth 20000 in
theorem in_X5_loadRows_X1 : ∀ w ∈ wsX10, w ∈ wsX5_loadRows := by decide +kernel
set_option maxRecDepth 20000 in
theorem in_X5_loadRows_X2 : ∀ w ∈ wsX20, w ∈ wsX5_loadRows := by decide +kernel
set_option maxRecDepth 20000 in
theorem in_X5_loadRows_X5 : ∀ w ∈ wsX50, w ∈ wsX5_loadRows := by decide +kernel
set_option maxRecDepth 20000 in
theorem at_X5_loadRows_153 : ∀ w ∈ (vx_at0 RX5 153 "java/lang/IllegalArgumentException" ["java/lang/RuntimeException", "java/lang/Exception"]).filter goodWord, w ∈ wsX5_loadRows := by decide +kernel
set_option maxRecDepth 20000 in
theorem at_X5_loadRows_153n : ∀ w ∈ (vx_at0 RX5 153 "java/lang/IllegalArgumentException" ["java/lang/RuntimeException", "java/lang/Exception"]).filter (fun w => !goodWord w), w ∈ ([] : List Cond) := by decide +kernel
set_option maxRecDepth 20000 in
theorem at_X5_loadRows_153g : ∀ w ∈ Cond.classLink RX5 151 "java/lang/IllegalArgumentException" :: Cond.initialized "java/lang/IllegalArgumentException" :: vx_at0 RX5 153 "java/lang/IllegalArgumentException" ["java/lang/RuntimeException", "java/lang/Exception"], vx_ot w = true := by decide +kernel
set_option maxRecDepth 20000 in
theorem at_X5_loadRows_60 : ∀ w ∈ (vx_at0 RX5 60 "java/lang/IllegalStateException" ["java/lang/RuntimeException", "java/lang/Exception"]).filter goodWord, w ∈ wsX5_loadRows := by decide +kernel
set_option maxRecDepth 20000 in
theorem at_X5_loadRows_60n : ∀ w ∈ (vx_at0 RX5 60 "java/lang/IllegalStateException" ["java/lang/RuntimeException", "java/lang/Exception"]).filter (fun w => !goodWord w), w ∈ ([] : List Cond) := by decide +kernel
set_option maxRecDepth 20000 in
theorem at_X5_loadRows_60g : ∀ w ∈ Cond.classLink RX5 58 "java/lang/IllegalStateException" :: Cond.initialized "java/lang/IllegalStateException" :: vx_at0 RX5 60 "java/lang/IllegalStateException" ["java/lang/RuntimeException", "java/lang/Exception"], vx_ot w = true := by decide +kernel
def f_X5_loadRows (a1 : Int32) (D_ : tD_) (S_ : tS_) (V_ : tV_) (F_ : tF_) (R_ : tR_) (B_ : tV_) : Option (Except String Int32 × tD_ × tV_ × tF_ × tR_ × tV_) :=
match D_ with
| (dhasSaved, dkeptError, dmoved) =>
match V_ with
| (vkeys, vfirsts, vends, vvalues, vinferred, vgone, vmade) =>
match F_ with
| (fkeys, fdays, famounts, fversions, fcount) =>
match R_ with
| (rkeys, rdays, rvalues, rcount) =>
match B_ with
| (bkeys, bfirsts, bends, bvalues, binferred, bgone, bmade) =>
if a1 < 1 then
some (Except.error "java/lang/IllegalArgumentException", (dhasSaved, dkeptError, dmoved), (vkeys, vfirsts, vends, vvalues, vinferred, vgone, vmade), (fkeys, fdays, famounts, fversions, fcount), (rkeys, rdays, rvalues, rcount), (bkeys, bfirsts, bends, bvalues, binferred, bgone, bmade))
else
if a1 ≤ 20 then
bd_ (f_X5_makeChanges (if rcount < a1 then rcount else a1) (dhasSaved, dkeptError, dmoved) () (vkeys, vfirsts, vends, vvalues, vinferred, vgone, vmade) (fkeys, fdays, famounts, fversions, fcount) (rkeys, rdays, rvalues, rcount) (bkeys, bfirsts, bends, bvalues, binferred, bgone, bmade)) (fun (r3, (dh4, dk5, dm6), (vk7, vf8, ve9, vv10, vi11, vg12, vm13), (fk14, fd15, fa16, fv17, fc18), (bk19, bf20, be21, bv22, bi23, bg24, bm25)) =>
if r3 = 0 then
some (Except.error "java/lang/IllegalStateException", (dh4, dk5, dm6), (vk7, vf8, ve9, vv10, vi11, vg12, vm13), (fk14, fd15, fa16, fv17, fc18), (rkeys, rdays, rvalues, rcount), (bk19, bf20, be21, bv22, bi23, bg24, bm25))
else
bd_ (f_X1_dropFirst (if rcount < a1 then rcount else a1) (rkeys, rdays, rvalues, rcount)) (fun (rk31, rd32, rv33, rc34) =>
some (Except.ok (if rcount < a1 then rcount else a1), (dh4, dk5, dm6), (vk7, vf8, ve9, vv10, vi11, vg12, vm13), (fk14, fd15, fa16, fv17, fc18), (rk31, rd32, rv33, rc34), (bk19, bf20, be21, bv22, bi23, bg24, bm25))))
else
some (Except.error "java/lang/IllegalArgumentException", (dhasSaved, dkeptError, dmoved), (vkeys, vfirsts, vends, vvalues, vinferred, vgone, vmade), (fkeys, fdays, famounts, fversions, fcount), (rkeys, rdays, rvalues, rcount), (bkeys, bfirsts, bends, bvalues, binferred, bgone, bmade))
abbrev rm_X5_loadRows : Room := { frames := 6, cells := 1, slots := 6, locals := 138 }
set_option maxHeartbeats 4000000 in
set_option maxRecDepth 100000 in
theorem c_X5_loadRows (l : Launch) (dC : Nat → ClassId) (dI : Nat → Nat → Nat) (cI cZ cC cJ cD : ClassId) (hst : l.stackTraces = false) (d0 s0 z0 b0 q0 t0 v0 f0 r0 v_keys v_firsts v_ends v_values v_inferred v_gone f_keys f_days f_amounts f_versions r_keys r_days r_values b_keys b_firsts b_ends b_values b_inferred b_gone : Nat) (sz : Nat) (dhasSaved : Int32) (dkeptError : Int32) (dmoved : Int32) (vkeys : Nat → Int32) (vfirsts : Nat → Int32) (vends : Nat → Int32) (vvalues : Nat → Int32) (vinferred : Nat → Int32) (vgone : Nat → Int32) (vmade : Int32) (fkeys : Nat → Int32) (fdays : Nat → Int32) (famounts : Nat → Int32) (fversions : Nat → Int32) (fcount : Int32) (rkeys : Nat → Int32) (rdays : Nat → Int32) (rvalues : Nat → Int32) (rcount : Int32) (bkeys : Nat → Int32) (bfirsts : Nat → Int32) (bends : Nat → Int32) (bvalues : Nat → Int32) (binferred : Nat → Int32) (bgone : Nat → Int32) (bmade : Int32) (a1 : Int32) (R : Except String Int32 × tD_ × tV_ × tF_ × tR_ × tV_) (hf : f_X5_loadRows a1 (dhasSaved, dkeptError, dmoved) () (vkeys, vfirsts, vends, vvalues, vinferred, vgone, vmade) (fkeys, fdays, famounts, fversions, fcount) (rkeys, rdays, rvalues, rcount) (bkeys, bfirsts, bends, bvalues, binferred, bgone, bmade) = some R) : vx_Met l yX5_loadRows wsX5_loadRows rm_X5_loadRows (Px_ (dC, dI) (ty_ cI cZ cC cJ cD) (wD_ d0 s0 z0 b0 q0 t0 dhasSaved dkeptError dmoved ++ wS_ s0 v0 f0 r0 ++ wV_ v0 v_keys v_firsts v_ends v_values v_inferred v_gone cI cZ vkeys vfirsts vends vvalues vinferred vgone vmade ++ wF_ f0 f_keys f_days f_amounts f_versions cI fkeys fdays famounts fversions fcount ++ wR_ r0 r_keys r_days r_values cI rkeys rdays rvalues rcount ++ wV_ b0 b_keys b_firsts b_ends b_values b_inferred b_gone cI cZ bkeys bfirsts bends bvalues binferred bgone bmade) sz [.ref d0, .int a1]) (Xi_ (dC, dI) (ty_ cI cZ cC cJ cD) R.1 (wD_ d0 s0 z0 b0 q0 t0 R.2.1.1 R.2.1.2.1 R.2.1.2.2 ++ wS_ s0 v0 f0 r0 ++ wV_ v0 v_keys v_firsts v_ends v_values v_inferred v_gone cI cZ R.2.2.1.1 R.2.2.1.2.1 R.2.2.1.2.2.1 R.2.2.1.2.2.2.1 R.2.2.1.2.2.2.2.1 R.2.2.1.2.2.2.2.2.1 R.2.2.1.2.2.2.2.2.2 ++ wF_ f0 f_keys f_days f_amounts f_versions cI R.2.2.2.1.1 R.2.2.2.1.2.1 R.2.2.2.1.2.2.1 R.2.2.2.1.2.2.2.1 R.2.2.2.1.2.2.2.2 ++ wR_ r0 r_keys r_days r_values cI R.2.2.2.2.1.1 R.2.2.2.2.1.2.1 R.2.2.2.2.1.2.2.1 R.2.2.2.2.1.2.2.2 ++ wV_ b0 b_keys b_firsts b_ends b_values b_inferred b_gone cI cZ R.2.2.2.2.2.1 R.2.2.2.2.2.2.1 R.2.2.2.2.2.2.2.1 R.2.2.2.2.2.2.2.2.1 R.2.2.2.2.2.2.2.2.2.1 R.2.2.2.2.2.2.2.2.2.2.1 R.2.2.2.2.2.2.2.2.2.2.2) (va_A (wD_ d0 s0 z0 b0 q0 t0 dhasSaved dkeptError dmoved ++ wS_ s0 v0 f0 r0 ++ wV_ v0 v_keys v_firsts v_ends v_values v_inferred v_gone cI cZ vkeys vfirsts vends vvalues vinferred vgone vmade ++ wF_ f0 f_keys f_days f_amounts f_versions cI fkeys fdays famounts fversions fcount ++ wR_ r0 r_keys r_days r_values cI rkeys rdays rvalues rcount ++ wV_ b0 b_keys b_firsts b_ends b_values b_inferred b_gone cI cZ bkeys bfirsts bends bvalues binferred bgone bmade) sz)) (XX_ (dC, dI) (ty_ cI cZ cC cJ cD) R.1 (wD_ d0 s0 z0 b0 q0 t0 R.2.1.1 R.2.1.2.1 R.2.1.2.2 ++ wS_ s0 v0 f0 r0 ++ wV_ v0 v_keys v_firsts v_ends v_values v_inferred v_gone cI cZ R.2.2.1.1 R.2.2.1.2.1 R.2.2.1.2.2.1 R.2.2.1.2.2.2.1 R.2.2.1.2.2.2.2.1 R.2.2.1.2.2.2.2.2.1 R.2.2.1.2.2.2.2.2.2 ++ wF_ f0 f_keys f_days f_amounts f_versions cI R.2.2.2.1.1 R.2.2.2.1.2.1 R.2.2.2.1.2.2.1 R.2.2.2.1.2.2.2.1 R.2.2.2.1.2.2.2.2 ++ wR_ r0 r_keys r_days r_values cI R.2.2.2.2.1.1 R.2.2.2.2.1.2.1 R.2.2.2.2.1.2.2.1 R.2.2.2.2.1.2.2.2 ++ wV_ b0 b_keys b_firsts b_ends b_values b_inferred b_gone cI cZ R.2.2.2.2.2.1 R.2.2.2.2.2.2.1 R.2.2.2.2.2.2.2.1 R.2.2.2.2.2.2.2.2.1 R.2.2.2.2.2.2.2.2.2.1 R.2.2.2.2.2.2.2.2.2.2.1 R.2.2.2.2.2.2.2.2.2.2.2) (va_A (wD_ d0 s0 z0 b0 q0 t0 dhasSaved dkeptError dmoved ++ wS_ s0 v0 f0 r0 ++ wV_ v0 v_keys v_firsts v_ends v_values v_inferred v_gone cI cZ vkeys vfirsts vends vvalues vinferred vgone vmade ++ wF_ f0 f_keys f_days f_amounts f_versions cI fkeys fdays famounts fversions fcount ++ wR_ r0 r_keys r_days r_values cI rkeys rdays rvalues rcount ++ wV_ b0 b_keys b_firsts b_ends b_values b_inferred b_gone cI cZ bkeys bfirsts bends bvalues binferred bgone bmade) sz)) 1 6 (va_A (wD_ d0 s0 z0 b0 q0 t0 dhasSaved dkeptError dmoved ++ wS_ s0 v0 f0 r0 ++ wV_ v0 v_keys v_firsts v_ends v_values v_inferred v_gone cI cZ vkeys vfirsts vends vvalues vinferred vgone vmade ++ wF_ f0 f_keys f_days f_amounts f_versions cI fkeys fdays famounts fversions fcount ++ wR_ r0 r_keys r_days r_values cI rkeys rdays rvalues rcount ++ wV_ b0 b_keys b_firsts b_ends b_values b_inferred b_gone cI cZ bkeys bfirsts bends bvalues binferred bgone bmade) sz) := by
  refine metx_ (cc := cX5_loadRows) (maxL := 3) (ret := (some .int)) (Qcf := fun A => Xi_ (dC, dI) (ty_ cI cZ cC cJ cD) R.1 (wD_ d0 s0 z0 b0 q0 t0 R.2.1.1 R.2.1.2.1 R.2.1.2.2 ++ wS_ s0 v0 f0 r0 ++ wV_ v0 v_keys v_firsts v_ends v_values v_inferred v_gone cI cZ R.2.2.1.1 R.2.2.1.2.1 R.2.2.1.2.2.1 R.2.2.1.2.2.2.1 R.2.2.1.2.2.2.2.1 R.2.2.1.2.2.2.2.2.1 R.2.2.1.2.2.2.2.2.2 ++ wF_ f0 f_keys f_days f_amounts f_versions cI R.2.2.2.1.1 R.2.2.2.1.2.1 R.2.2.2.1.2.2.1 R.2.2.2.1.2.2.2.1 R.2.2.2.1.2.2.2.2 ++ wR_ r0 r_keys r_days r_values cI R.2.2.2.2.1.1 R.2.2.2.2.1.2.1 R.2.2.2.2.1.2.2.1 R.2.2.2.2.1.2.2.2 ++ wV_ b0 b_keys b_firsts b_ends b_values b_inferred b_gone cI cZ R.2.2.2.2.2.1 R.2.2.2.2.2.2.1 R.2.2.2.2.2.2.2.1 R.2.2.2.2.2.2.2.2.1 R.2.2.2.2.2.2.2.2.2.1 R.2.2.2.2.2.2.2.2.2.2.1 R.2.2.2.2.2.2.2.2.2.2.2) A) (XCf := fun A => XX_ (dC, dI) (ty_ cI cZ cC cJ cD) R.1 (wD_ d0 s0 z0 b0 q0 t0 R.2.1.1 R.2.1.2.1 R.2.1.2.2 ++ wS_ s0 v0 f0 r0 ++ wV_ v0 v_keys v_firsts v_ends v_values v_inferred v_gone cI cZ R.2.2.1.1 R.2.2.1.2.1 R.2.2.1.2.2.1 R.2.2.1.2.2.2.1 R.2.2.1.2.2.2.2.1 R.2.2.1.2.2.2.2.2.1 R.2.2.1.2.2.2.2.2.2 ++ wF_ f0 f_keys f_days f_amounts f_versions cI R.2.2.2.1.1 R.2.2.2.1.2.1 R.2.2.2.1.2.2.1 R.2.2.2.1.2.2.2.1 R.2.2.2.1.2.2.2.2 ++ wR_ r0 r_keys r_days r_values cI R.2.2.2.2.1.1 R.2.2.2.2.1.2.1 R.2.2.2.2.1.2.2.1 R.2.2.2.2.1.2.2.2 ++ wV_ b0 b_keys b_firsts b_ends b_values b_inferred b_gone cI cZ R.2.2.2.2.2.1 R.2.2.2.2.2.2.1 R.2.2.2.2.2.2.2.1 R.2.2.2.2.2.2.2.2.1 R.2.2.2.2.2.2.2.2.2.1 R.2.2.2.2.2.2.2.2.2.2.1 R.2.2.2.2.2.2.2.2.2.2.2) A) (by decide) rfl (Nat.le_of_ble_eq_true rfl) ?_
  intro p e s m args below meth c A ls hx hb hr hts hown hlocks hml htab hA hU hN hP hK hD hl
  have hown : s.vm.findClass RX5 = some m.cls := hown
  have hl : lv_has ls 3 [(0, .ref d0), (1, .int a1)] := hl
  have hS : va_S A s.heap s.heap [] := va_S.rf
  have fl10_ : (Cond.fieldLink RX5 10 "DimensionLoader" "live" "LDimensionLoader$Store;").before args s = true := hts _ (List.mem_of_getElem? (i := 5) rfl)
  have fl212_ : (Cond.fieldLink RX5 212 "DimensionLoader$Store" "rows" "LDimensionLoader$Rows;").before args s = true := hts _ (List.mem_of_getElem? (i := 6) rfl)
  have fl218_ : (Cond.fieldLink RX5 218 "DimensionLoader$Rows" "count" "I").before args s = true := hts _ (List.mem_of_getElem? (i := 7) rfl)
  have inX1_ : ∀ w ∈ wsX10, w ∈ wsX5_loadRows := in_X5_loadRows_X1
  have inX2_ : ∀ w ∈ wsX20, w ∈ wsX5_loadRows := in_X5_loadRows_X2
  have inX5_ : ∀ w ∈ wsX50, w ∈ wsX5_loadRows := in_X5_loadRows_X5
  unfold f_X5_loadRows at hf
  dsimp only at hf
  refine lv_iload_n hx hb dX5_loadRows_0 rfl (lv_at hl 1 rfl) ?_
  refine lv_iconst (v := 1) hx hb dX5_loadRows_1 (by decide) ?_
  refine lv_icmp_lt (tgt := 11) hx hb dX5_loadRows_2 (by decide) (fun c1 => ?_) (fun c1 => ?_)
  · have hf := ite_T c1 hf
    have hR := Option.some.inj hf
    subst hR
    exact vx_throw0 (names := ["java/lang/RuntimeException", "java/lang/Exception"]) hx hb hst hown (by decide +kernel) (by decide +kernel) (hts _ (List.mem_of_getElem? (i := 1) rfl)) (hts _ (List.mem_of_getElem? (i := 2) rfl)) (vx_hat (fun w h => hts w (at_X5_loadRows_153 w h)) at_X5_loadRows_153n vx_n) at_X5_loadRows_153g hU hN hS (hl.1.trans hml.symm) dX5_loadRows_11 dX5_loadRows_14 dX5_loadRows_15 dX5_loadRows_18 (fun x h => (htab x h).elim) (Nat.le_of_ble_eq_true rfl) (Nat.le_of_ble_eq_true rfl) (Nat.le_of_ble_eq_true rfl) (Nat.le_of_ble_eq_true rfl) hlocks (thr_ hS hP hK hD rfl) hS.2.2 (Nat.le_of_ble_eq_true rfl) (Nat.le_of_ble_eq_true rfl)
  · have hf := ite_F c1 hf
    refine lv_iload_n hx hb dX5_loadRows_5 rfl (lv_at hl 1 rfl) ?_
    refine lv_bipush (v := 20) hx hb dX5_loadRows_6 (by decide) ?_
    refine lv_icmp_le (tgt := 19) hx hb dX5_loadRows_8 (by decide) (fun c2 => ?_) (fun c2 => ?_)
    · have hf := ite_T c2 hf
      refine lv_iload_n hx hb dX5_loadRows_19 rfl (lv_at hl 1 rfl) ?_
      refine lv_aload_n hx hb dX5_loadRows_20 rfl (lv_at hl 0 rfl) ?_
      refine va_get (D := (dC, dI)) (ci := 7) (v := .ref s0) (C := RX5) (T := TX5) (N := 8) hx hb hts inX5_ hown hK hP 0 rfl rfl 0 (by decide) fl10_ (fun _ h9 => h9) rfl dX5_loadRows_21 ?_
      refine va_get (D := (dC, dI)) (ci := 4) (v := .ref r0) (C := RX2) (T := TX2) (N := 3) hx hb hts inX2_ hown hK hP 1 rfl rfl 2 (by decide) fl212_ (fun _ h9 => h9) rfl dX5_loadRows_24 ?_
      refine va_get (D := (dC, dI)) (ci := 3) (v := .int rcount) (C := RX1) (T := TX1) (N := 4) hx hb hts inX1_ hown hK hP 14 rfl rfl 3 (by decide) fl218_ (fun _ h9 => h9) rfl dX5_loadRows_27 ?_
      refine va_mmin hx hb (hml.trans hl.1.symm) hown (hts _ (List.mem_of_getElem? (i := 8) rfl)) (hts _ (List.mem_of_getElem? (i := 9) rfl)) (hts _ (List.mem_of_getElem? (i := 10) rfl)) (hts _ (List.mem_of_getElem? (i := 11) rfl)) (Nat.le_of_ble_eq_true rfl) (Nat.le_of_ble_eq_true rfl) (Nat.le_of_ble_eq_true rfl) (Nat.le_of_ble_eq_true rfl) dX5_loadRows_30 ?_
      refine lv_istore_n (lv' := [(2, .int (if rcount < a1 then rcount else a1)), (0, .ref d0), (1, .int a1)]) hx hb dX5_loadRows_33 rfl hl (by decide) rfl (fun ls hl => ?_)
      refine lv_aload_n hx hb dX5_loadRows_34 rfl (lv_at hl 1 rfl) ?_
      refine lv_aload_n hx hb dX5_loadRows_35 rfl (lv_at hl 1 rfl) ?_
      refine va_get (D := (dC, dI)) (ci := 7) (v := .ref s0) (C := RX5) (T := TX5) (N := 8) hx hb hts inX5_ hown hK hP 0 rfl rfl 0 (by decide) fl10_ (fun _ h9 => h9) rfl dX5_loadRows_36 ?_
      refine va_get (D := (dC, dI)) (ci := 4) (v := .ref r0) (C := RX2) (T := TX2) (N := 3) hx hb hts inX2_ hown hK hP 1 rfl rfl 2 (by decide) fl212_ (fun _ h9 => h9) rfl dX5_loadRows_39 ?_
      refine lv_iload_n hx hb dX5_loadRows_42 rfl (lv_at hl 0 rfl) ?_
      obtain ⟨R26, g27, hf⟩ := bd_B hf
      obtain ⟨r3, ⟨dh4, dk5, dm6⟩, ⟨vk7, vf8, ve9, vv10, vi11, vg12, vm13⟩, ⟨fk14, fd15, fa16, fv17, fc18⟩, ⟨bk19, bf20, be21, bv22, bi23, bg24, bm25⟩⟩ := R26
      dsimp only at hf
      have hPc := hP
      have hDc := hD
      have hFc := va_free (wc := wD_ d0 s0 z0 b0 q0 t0 dhasSaved dkeptError dmoved ++ wS_ s0 v0 f0 r0 ++ wV_ v0 v_keys v_firsts v_ends v_values v_inferred v_gone cI cZ vkeys vfirsts vends vvalues vinferred vgone vmade ++ wF_ f0 f_keys f_days f_amounts f_versions cI fkeys fdays famounts fversions fcount ++ wR_ r0 r_keys r_days r_values cI rkeys rdays rvalues rcount ++ wV_ b0 b_keys b_firsts b_ends b_values b_inferred b_gone cI cZ bkeys bfirsts bends bvalues binferred bgone bmade) hD hS hA [0, 1, 2, 3, 4, 5, 6, 7, 8, 9, 10, 11, 12, 13, 14, 15, 16, 17, 18, 19, 20, 21, 22, 23, 24] rfl
      refine va_calli (va_runV (As := [.ref r0, .int (if rcount < a1 then rcount else a1)]) (rest := []) ⟨hx, hb, hml, hown, hts⟩ (c_X5_makeChanges l dC dI cI cZ cC cJ cD d0 s0 z0 b0 q0 t0 v0 f0 r0 v_keys v_firsts v_ends v_values v_inferred v_gone f_keys f_days f_amounts f_versions r_keys r_days r_values b_keys b_firsts b_ends b_values b_inferred b_gone s.heap.size dhasSaved dkeptError dmoved vkeys vfirsts vends vvalues vinferred vgone vmade fkeys fdays famounts fversions fcount rkeys rdays rvalues rcount bkeys bfirsts bends bvalues binferred bgone bmade (if rcount < a1 then rcount else a1) (r3, (dh4, dk5, dm6), (vk7, vf8, ve9, vv10, vi11, vg12, vm13), (fk14, fd15, fa16, fv17, fc18), (bk19, bf20, be21, bv22, bi23, bg24, bm25)) g27) (cwV 2 hts gX5_loadRows_X5_makeChanges rfl rfl rfl hs_X5_makeChanges ⟨Nat.le_of_ble_eq_true rfl, Nat.le_of_ble_eq_true rfl⟩) (preV_ (ci := 7) (q0 := 0) hPc hK hDc rfl rfl rfl rfl) rfl rfl hl.1 rfl (lv_room (Nat.le_of_ble_eq_true rfl)) dX5_loadRows_43 ⟨Nat.le_of_ble_eq_true rfl, Nat.le_of_ble_eq_true rfl⟩) hS (fun q _ h => hFc q h) hFc (fun z29 u t H28 locs ht hvm hw hB hz1 hk1 hS => ?_)
      have hw : r3 = z29 := hw.symm
      subst hw
      obtain ⟨hP, hD⟩ := aft_ (Wr := []) (Wc' := wD_ d0 s0 z0 b0 q0 t0 dh4 dk5 dm6 ++ wS_ s0 v0 f0 r0 ++ wV_ v0 v_keys v_firsts v_ends v_values v_inferred v_gone cI cZ vk7 vf8 ve9 vv10 vi11 vg12 vm13 ++ wF_ f0 f_keys f_days f_amounts f_versions cI fk14 fd15 fa16 fv17 fc18 ++ wR_ r0 r_keys r_days r_values cI rkeys rdays rvalues rcount ++ wV_ b0 b_keys b_firsts b_ends b_values b_inferred b_gone cI cZ bk19 bf20 be21 bv22 bi23 bg24 bm25) (W2 := wD_ d0 s0 z0 b0 q0 t0 dh4 dk5 dm6 ++ wS_ s0 v0 f0 r0 ++ wV_ v0 v_keys v_firsts v_ends v_values v_inferred v_gone cI cZ vk7 vf8 ve9 vv10 vi11 vg12 vm13 ++ wF_ f0 f_keys f_days f_amounts f_versions cI fk14 fd15 fa16 fv17 fc18 ++ wR_ r0 r_keys r_days r_values cI rkeys rdays rvalues rcount ++ wV_ b0 b_keys b_firsts b_ends b_values b_inferred b_gone cI cZ bk19 bf20 be21 bv22 bi23 bg24 bm25) hP hD [0, 1, 2, 3, 4, 5, 6, 7, 8, 9, 10, 11, 12, 13, 14, 15, 16, 17, 18, 19, 20, 21, 22, 23, 24] [] [0, 1, 2, 3, 4, 5, 6, 7, 8, 9, 10, 11, 12, 13, 14, 15, 16, 17, 18, 19, 20, 21, 22, 23, 24] rfl rfl (by decide) (by decide) (by decide) hk1 hFc hB ht rfl
      refine lv_if_ne (tgt := 57) hx hb dX5_loadRows_46 (by decide) (fun c30 => ?_) (fun c30 => ?_)
      · have hf := ite_F c30 hf
        refine lv_aload_n hx hb dX5_loadRows_57 rfl (lv_at hl 1 rfl) ?_
        refine va_get (D := (dC, dI)) (ci := 7) (v := .ref s0) (C := RX5) (T := TX5) (N := 8) hx hb hts inX5_ hown hK hP 0 rfl rfl 0 (by decide) fl10_ (fun _ h9 => h9) rfl dX5_loadRows_58 ?_
        refine va_get (D := (dC, dI)) (ci := 4) (v := .ref r0) (C := RX2) (T := TX2) (N := 3) hx hb hts inX2_ hown hK hP 1 rfl rfl 2 (by decide) fl212_ (fun _ h9 => h9) rfl dX5_loadRows_61 ?_
        refine lv_iload_n hx hb dX5_loadRows_64 rfl (lv_at hl 0 rfl) ?_
        obtain ⟨R35, g36, hf⟩ := bd_B hf
        obtain ⟨rk31, rd32, rv33, rc34⟩ := R35
        dsimp only at hf
        have hPc := hP.sub (ws' := wR_ r0 r_keys r_days r_values cI rkeys rdays rvalues rcount) [14, 15, 16, 17] rfl
        have hDc := hD.sub (ws' := wR_ r0 r_keys r_days r_values cI rkeys rdays rvalues rcount) [14, 15, 16, 17] (by decide) rfl
        have hFc := va_free (wc := wR_ r0 r_keys r_days r_values cI rkeys rdays rvalues rcount) hD hS hA [14, 15, 16, 17] rfl
        refine va_callv (va_runV (As := [.int (if rcount < a1 then rcount else a1)]) (rest := []) ⟨hx, hb, hml, hown, hts⟩ (c_X1_dropFirst l dC dI cI cZ cC cJ cD r0 r_keys r_days r_values H28.size rkeys rdays rvalues rcount (if rcount < a1 then rcount else a1) (rk31, rd32, rv33, rc34) g36) (cwV 1 hts gX5_loadRows_X1_dropFirst rfl rfl rfl hs_X1_dropFirst ⟨Nat.le_of_ble_eq_true rfl, Nat.le_of_ble_eq_true rfl⟩) (preV_ (ci := 3) (q0 := 0) hPc hK hDc rfl rfl rfl rfl) rfl rfl hl.1 rfl (lv_room (Nat.le_of_ble_eq_true rfl)) dX5_loadRows_65 ⟨Nat.le_of_ble_eq_true rfl, Nat.le_of_ble_eq_true rfl⟩) hS (fun q _ h => hFc q h) hFc (fun u t H37 locs ht hvm hw hB hz1 hk1 hS => ?_)
        obtain ⟨hP, hD⟩ := aft_ (Wr := wD_ d0 s0 z0 b0 q0 t0 dh4 dk5 dm6 ++ wS_ s0 v0 f0 r0 ++ wV_ v0 v_keys v_firsts v_ends v_values v_inferred v_gone cI cZ vk7 vf8 ve9 vv10 vi11 vg12 vm13 ++ wF_ f0 f_keys f_days f_amounts f_versions cI fk14 fd15 fa16 fv17 fc18 ++ wV_ b0 b_keys b_firsts b_ends b_values b_inferred b_gone cI cZ bk19 bf20 be21 bv22 bi23 bg24 bm25) (Wc' := wR_ r0 r_keys r_days r_values cI rk31 rd32 rv33 rc34) (W2 := wD_ d0 s0 z0 b0 q0 t0 dh4 dk5 dm6 ++ wS_ s0 v0 f0 r0 ++ wV_ v0 v_keys v_firsts v_ends v_values v_inferred v_gone cI cZ vk7 vf8 ve9 vv10 vi11 vg12 vm13 ++ wF_ f0 f_keys f_days f_amounts f_versions cI fk14 fd15 fa16 fv17 fc18 ++ wR_ r0 r_keys r_days r_values cI rk31 rd32 rv33 rc34 ++ wV_ b0 b_keys b_firsts b_ends b_values b_inferred b_gone cI cZ bk19 bf20 be21 bv22 bi23 bg24 bm25) hP hD [14, 15, 16, 17] [0, 1, 2, 3, 4, 5, 6, 7, 8, 9, 10, 11, 12, 13, 18, 19, 20, 21, 22, 23, 24] [0, 1, 2, 3, 4, 5, 6, 7, 8, 9, 10, 11, 12, 13, 21, 22, 23, 24, 14, 15, 16, 17, 18, 19, 20] rfl rfl (by decide) (by decide) (by decide) hk1 hFc hB ht rfl
        refine lv_iload_n hx hb dX5_loadRows_68 rfl (lv_at hl 0 rfl) ?_
        have hR := Option.some.inj hf
        subst hR
        refine vx_ret (W.widen (k := 1) (n := 6) (Nat.le_of_ble_eq_true rfl) (Nat.le_of_ble_eq_true rfl) ?_)
        exact W.iret (v := if rcount < a1 then rcount else a1) hx hb hr (fun t ht hW => ⟨⟨if rcount < a1 then rcount else a1, (), rfl, rfl, by rw [ht]; exact hP, va_K.moved hW.alike hK, hD⟩, hS.F ht⟩) hS.2.2 dX5_loadRows_69
      · have hf := ite_T c30 hf
        have hR := Option.some.inj hf
        subst hR
        exact vx_throw0 (names := ["java/lang/RuntimeException", "java/lang/Exception"]) hx hb hst hown (by decide +kernel) (by decide +kernel) (hts _ (List.mem_of_getElem? (i := 3) rfl)) (hts _ (List.mem_of_getElem? (i := 4) rfl)) (vx_hat (fun w h => hts w (at_X5_loadRows_60 w h)) at_X5_loadRows_60n vx_n) at_X5_loadRows_60g hU hN hS (hl.1.trans hml.symm) dX5_loadRows_49 dX5_loadRows_52 dX5_loadRows_53 dX5_loadRows_56 (fun x h => (htab x h).elim) (Nat.le_of_ble_eq_true rfl) (Nat.le_of_ble_eq_true rfl) (Nat.le_of_ble_eq_true rfl) (Nat.le_of_ble_eq_true rfl) hlocks (thr_ hS hP hK hD rfl) hS.2.2 (Nat.le_of_ble_eq_true rfl) (Nat.le_of_ble_eq_true rfl)
    · have hf := ite_F c2 hf
      have hR := Option.some.inj hf
      subst hR
      exact vx_throw0 (names := ["java/lang/RuntimeException", "java/lang/Exception"]) hx hb hst hown (by decide +kernel) (by decide +kernel) (hts _ (List.mem_of_getElem? (i := 1) rfl)) (hts _ (List.mem_of_getElem? (i := 2) rfl)) (vx_hat (fun w h => hts w (at_X5_loadRows_153 w h)) at_X5_loadRows_153n vx_n) at_X5_loadRows_153g hU hN hS (hl.1.trans hml.symm) dX5_loadRows_11 dX5_loadRows_14 dX5_loadRows_15 dX5_loadRows_18 (fun x h => (htab x h).elim) (Nat.le_of_ble_eq_true rfl) (Nat.le_of_ble_eq_true rfl) (Nat.le_of_ble_eq_true rfl) (Nat.le_of_ble_eq_true rfl) hlocks (thr_ hS hP hK hD rfl) hS.2.2 (Nat.le_of_ble_eq_true rfl) (Nat.le_of_ble_eq_true rfl)
theorem hs_X5_loadRows : yX5_loadRows.cls = RX5 ∧ yX5_loadRows.cls ≠ "java/lang/invoke/MethodHandle" ∧ yX5_loadRows.cls ≠ "java/lang/invoke/VarHandle" ∧ (parseMethodDescriptor yX5_loadRows.desc).map (fun d => d.parameters.length) = some 1 := by decide +kernel
set_option maxRecDepth 20000 in
theorem in_X5_append_X3 : ∀ w ∈ wsX30, w ∈ wsX5_append := by decide +kernel
set_option maxRecDepth 20000 in
theorem in_X5_append_X5 : ∀ w ∈ wsX50, w ∈ wsX5_append := by decide +kernel
set_option maxRecDepth 20000 in
theorem at_X5_append_153 : ∀ w ∈ (vx_at0 RX5 153 "java/lang/IllegalArgumentException" ["java/lang/RuntimeException", "java/lang/Exception"]).filter goodWord, w ∈ wsX5_append := by decide +kernel
set_option maxRecDepth 20000 in
theorem at_X5_append_153n : ∀ w ∈ (vx_at0 RX5 153 "java/lang/IllegalArgumentException" ["java/lang/RuntimeException", "java/lang/Exception"]).filter (fun w => !goodWord w), w ∈ ([] : List Cond) := by decide +kernel
set_option maxRecDepth 20000 in
theorem at_X5_append_153g : ∀ w ∈ Cond.classLink RX5 151 "java/lang/IllegalArgumentException" :: Cond.initialized "java/lang/IllegalArgumentException" :: vx_at0 RX5 153 "java/lang/IllegalArgumentException" ["java/lang/RuntimeException", "java/lang/Exception"], vx_ot w = true := by decide +kernel
set_option maxRecDepth 20000 in
theorem at_X5_append_60 : ∀ w ∈ (vx_at0 RX5 60 "java/lang/IllegalStateException" ["java/lang/RuntimeException", "java/lang/Exception"]).filter goodWord, w ∈ wsX5_append := by decide +kernel
set_option maxRecDepth 20000 in
theorem at_X5_append_60n : ∀ w ∈ (vx_at0 RX5 60 "java/lang/IllegalStateException" ["java/lang/RuntimeException", "java/lang/Exception"]).filter (fun w => !goodWord w), w ∈ ([] : List Cond) := by decide +kernel
set_option maxRecDepth 20000 in
theorem at_X5_append_60g : ∀ w ∈ Cond.classLink RX5 58 "java/lang/IllegalStateException" :: Cond.initialized "java/lang/IllegalStateException" :: vx_at0 RX5 60 "java/lang/IllegalStateException" ["java/lang/RuntimeException", "java/lang/Exception"], vx_ot w = true := by decide +kernel
def f_X5_append (a1 : Int32) (D_ : tD_) (T_ : tT_) : Option (Except String Int32 × tT_) :=
match D_ with
| (dhasSaved, dkeptError, dmoved) =>
match T_ with
| (tcharacters, tlength, tplace) =>
if a1 < 32 then
some (Except.error "java/lang/IllegalArgumentException", (tcharacters, tlength, tplace))
else
if a1 ≤ 126 then
bd_ (f_X3_add a1 (tcharacters, tlength, tplace)) (fun (r3, (tc4, tl5, tp6)) =>
if r3 = 0 then
some (Except.error "java/lang/IllegalStateException", (tc4, tl5, tp6))
else
some (Except.ok tl5, (tc4, tl5, tp6)))
else
some (Except.error "java/lang/IllegalArgumentException", (tcharacters, tlength, tplace))
abbrev rm_X5_append : Room := { frames := 6, cells := 1, slots := 6, locals := 89 }
set_option maxHeartbeats 4000000 in
set_option maxRecDepth 100000 in
theorem c_X5_append (l : Launch) (dC : Nat → ClassId) (dI : Nat → Nat → Nat) (cI cZ cC cJ cD : ClassId) (hst : l.stackTraces = false) (d0 s0 z0 b0 q0 t0 t_characters : Nat) (sz : Nat) (dhasSaved : Int32) (dkeptError : Int32) (dmoved : Int32) (tcharacters : Nat → Int32) (tlength : Int32) (tplace : Int32) (a1 : Int32) (R : Except String Int32 × tT_) (hf : f_X5_append a1 (dhasSaved, dkeptError, dmoved) (tcharacters, tlength, tplace) = some R) : vx_Met l yX5_append wsX5_append rm_X5_append (Px_ (dC, dI) (ty_ cI cZ cC cJ cD) (wD_ d0 s0 z0 b0 q0 t0 dhasSaved dkeptError dmoved ++ wT_ t0 t_characters cC tcharacters tlength tplace) sz [.ref d0, .int a1]) (Xi_ (dC, dI) (ty_ cI cZ cC cJ cD) R.1 (wD_ d0 s0 z0 b0 q0 t0 dhasSaved dkeptError dmoved ++ wT_ t0 t_characters cC R.2.1 R.2.2.1 R.2.2.2) (va_A (wD_ d0 s0 z0 b0 q0 t0 dhasSaved dkeptError dmoved ++ wT_ t0 t_characters cC tcharacters tlength tplace) sz)) (XX_ (dC, dI) (ty_ cI cZ cC cJ cD) R.1 (wD_ d0 s0 z0 b0 q0 t0 dhasSaved dkeptError dmoved ++ wT_ t0 t_characters cC R.2.1 R.2.2.1 R.2.2.2) (va_A (wD_ d0 s0 z0 b0 q0 t0 dhasSaved dkeptError dmoved ++ wT_ t0 t_characters cC tcharacters tlength tplace) sz)) 1 6 (va_A (wD_ d0 s0 z0 b0 q0 t0 dhasSaved dkeptError dmoved ++ wT_ t0 t_characters cC tcharacters tlength tplace) sz) := by
  refine metx_ (cc := cX5_append) (maxL := 2) (ret := (some .int)) (Qcf := fun A => Xi_ (dC, dI) (ty_ cI cZ cC cJ cD) R.1 (wD_ d0 s0 z0 b0 q0 t0 dhasSaved dkeptError dmoved ++ wT_ t0 t_characters cC R.2.1 R.2.2.1 R.2.2.2) A) (XCf := fun A => XX_ (dC, dI) (ty_ cI cZ cC cJ cD) R.1 (wD_ d0 s0 z0 b0 q0 t0 dhasSaved dkeptError dmoved ++ wT_ t0 t_characters cC R.2.1 R.2.2.1 R.2.2.2) A) (by decide) rfl (Nat.le_of_ble_eq_true rfl) ?_
  intro p e s m args below meth c A ls hx hb hr hts hown hlocks hml htab hA hU hN hP hK hD hl
  have hown : s.vm.findClass RX5 = some m.cls := hown
  have hl : lv_has ls 2 [(0, .ref d0), (1, .int a1)] := hl
  have hS : va_S A s.heap s.heap [] := va_S.rf
  have fl36_ : (Cond.fieldLink RX5 36 "DimensionLoader" "input" "LDimensionLoader$Text;").before args s = true := hts _ (List.mem_of_getElem? (i := 5) rfl)
  have fl237_ : (Cond.fieldLink RX5 237 "DimensionLoader$Text" "length" "I").before args s = true := hts _ (List.mem_of_getElem? (i := 6) rfl)
  have inX3_ : ∀ w ∈ wsX30, w ∈ wsX5_append := in_X5_append_X3
  have inX5_ : ∀ w ∈ wsX50, w ∈ wsX5_append := in_X5_append_X5
  unfold f_X5_append at hf
  dsimp only at hf
  refine lv_iload_n hx hb dX5_append_0 rfl (lv_at hl 1 rfl) ?_
  refine lv_bipush (v := 32) hx hb dX5_append_1 (by decide) ?_
  refine lv_icmp_lt (tgt := 12) hx hb dX5_append_3 (by decide) (fun c1 => ?_) (fun c1 => ?_)
  · have hf := ite_T c1 hf
    have hR := Option.some.inj hf
    subst hR
    exact vx_throw0 (names := ["java/lang/RuntimeException", "java/lang/Exception"]) hx hb hst hown (by decide +kernel) (by decide +kernel) (hts _ (List.mem_of_getElem? (i := 1) rfl)) (hts _ (List.mem_of_getElem? (i := 2) rfl)) (vx_hat (fun w h => hts w (at_X5_append_153 w h)) at_X5_append_153n vx_n) at_X5_append_153g hU hN hS (hl.1.trans hml.symm) dX5_append_12 dX5_append_15 dX5_append_16 dX5_append_19 (fun x h => (htab x h).elim) (Nat.le_of_ble_eq_true rfl) (Nat.le_of_ble_eq_true rfl) (Nat.le_of_ble_eq_true rfl) (Nat.le_of_ble_eq_true rfl) hlocks (thr_ hS hP hK hD rfl) hS.2.2 (Nat.le_of_ble_eq_true rfl) (Nat.le_of_ble_eq_true rfl)
  · have hf := ite_F c1 hf
    refine lv_iload_n hx hb dX5_append_6 rfl (lv_at hl 1 rfl) ?_
    refine lv_bipush (v := 126) hx hb dX5_append_7 (by decide) ?_
    refine lv_icmp_le (tgt := 20) hx hb dX5_append_9 (by decide) (fun c2 => ?_) (fun c2 => ?_)
    · have hf := ite_T c2 hf
      refine lv_aload_n hx hb dX5_append_20 rfl (lv_at hl 0 rfl) ?_
      refine va_get (D := (dC, dI)) (ci := 7) (v := .ref t0) (C := RX5) (T := TX5) (N := 8) hx hb hts inX5_ hown hK hP 0 rfl rfl 4 (by decide) fl36_ (fun _ h9 => h9) rfl dX5_append_21 ?_
      refine lv_iload_n hx hb dX5_append_24 rfl (lv_at hl 1 rfl) ?_
      obtain ⟨R7, g8, hf⟩ := bd_B hf
      obtain ⟨r3, ⟨tc4, tl5, tp6⟩⟩ := R7
      dsimp only at hf
      have hPc := hP.sub (ws' := wT_ t0 t_characters cC tcharacters tlength tplace) [1, 2] rfl
      have hDc := hD.sub (ws' := wT_ t0 t_characters cC tcharacters tlength tplace) [1, 2] (by decide) rfl
      have hFc := va_free (wc := wT_ t0 t_characters cC tcharacters tlength tplace) hD hS hA [1, 2] rfl
      refine va_calli (va_runV (As := [.int a1]) (rest := []) ⟨hx, hb, hml, hown, hts⟩ (c_X3_add l dC dI cI cZ cC cJ cD t0 t_characters s.heap.size tcharacters tlength tplace a1 (r3, (tc4, tl5, tp6)) g8) (cwV 1 hts gX5_append_X3_add rfl rfl rfl hs_X3_add ⟨Nat.le_of_ble_eq_true rfl, Nat.le_of_ble_eq_true rfl⟩) (preV_ (ci := 5) (q0 := 0) hPc hK hDc rfl rfl rfl rfl) rfl rfl hl.1 rfl (lv_room (Nat.le_of_ble_eq_true rfl)) dX5_append_25 ⟨Nat.le_of_ble_eq_true rfl, Nat.le_of_ble_eq_true rfl⟩) hS (fun q _ h => hFc q h) hFc (fun z10 u t H9 locs ht hvm hw hB hz1 hk1 hS => ?_)
      have hw : r3 = z10 := hw.symm
      subst hw
      obtain ⟨hP, hD⟩ := aft_ (Wr := wD_ d0 s0 z0 b0 q0 t0 dhasSaved dkeptError dmoved) (Wc' := wT_ t0 t_characters cC tc4 tl5 tp6) (W2 := wD_ d0 s0 z0 b0 q0 t0 dhasSaved dkeptError dmoved ++ wT_ t0 t_characters cC tc4 tl5 tp6) hP hD [1, 2] [0] [0, 1, 2] rfl rfl (by decide) (by decide) (by decide) hk1 hFc hB ht rfl
      refine lv_if_ne (tgt := 39) hx hb dX5_append_28 (by decide) (fun c11 => ?_) (fun c11 => ?_)
      · have hf := ite_F c11 hf
        refine lv_aload_n hx hb dX5_append_39 rfl (lv_at hl 0 rfl) ?_
        refine va_get (D := (dC, dI)) (ci := 7) (v := .ref t0) (C := RX5) (T := TX5) (N := 8) hx hb hts inX5_ hown hK hP 0 rfl rfl 4 (by decide) fl36_ (fun _ h9 => h9) rfl dX5_append_40 ?_
        refine va_get (D := (dC, dI)) (ci := 5) (v := .int tl5) (C := RX3) (T := TX3) (N := 3) hx hb hts inX3_ hown hK hP 1 rfl rfl 1 (by decide) fl237_ (fun _ h9 => h9) rfl dX5_append_43 ?_
        have hR := Option.some.inj hf
        subst hR
        refine vx_ret (W.widen (k := 1) (n := 6) (Nat.le_of_ble_eq_true rfl) (Nat.le_of_ble_eq_true rfl) ?_)
        exact W.iret (v := tl5) hx hb hr (fun t ht hW => ⟨⟨tl5, (), rfl, rfl, by rw [ht]; exact hP, va_K.moved hW.alike hK, hD⟩, hS.F ht⟩) hS.2.2 dX5_append_46
      · have hf := ite_T c11 hf
        have hR := Option.some.inj hf
        subst hR
        exact vx_throw0 (names := ["java/lang/RuntimeException", "java/lang/Exception"]) hx hb hst hown (by decide +kernel) (by decide +kernel) (hts _ (List.mem_of_getElem? (i := 3) rfl)) (hts _ (List.mem_of_getElem? (i := 4) rfl)) (vx_hat (fun w h => hts w (at_X5_append_60 w h)) at_X5_append_60n vx_n) at_X5_append_60g hU hN hS (hl.1.trans hml.symm) dX5_append_31 dX5_append_34 dX5_append_35 dX5_append_38 (fun x h => (htab x h).elim) (Nat.le_of_ble_eq_true rfl) (Nat.le_of_ble_eq_true rfl) (Nat.le_of_ble_eq_true rfl) (Nat.le_of_ble_eq_true rfl) hlocks (thr_ hS hP hK hD rfl) hS.2.2 (Nat.le_of_ble_eq_true rfl) (Nat.le_of_ble_eq_true rfl)
    · have hf := ite_F c2 hf
      have hR := Option.some.inj hf
      subst hR
      exact vx_throw0 (names := ["java/lang/RuntimeException", "java/lang/Exception"]) hx hb hst hown (by decide +kernel) (by decide +kernel) (hts _ (List.mem_of_getElem? (i := 1) rfl)) (hts _ (List.mem_of_getElem? (i := 2) rfl)) (vx_hat (fun w h => hts w (at_X5_append_153 w h)) at_X5_append_153n vx_n) at_X5_append_153g hU hN hS (hl.1.trans hml.symm) dX5_append_12 dX5_append_15 dX5_append_16 dX5_append_19 (fun x h => (htab x h).elim) (Nat.le_of_ble_eq_true rfl) (Nat.le_of_ble_eq_true rfl) (Nat.le_of_ble_eq_true rfl) (Nat.le_of_ble_eq_true rfl) hlocks (thr_ hS hP hK hD rfl) hS.2.2 (Nat.le_of_ble_eq_true rfl) (Nat.le_of_ble_eq_true rfl)
theorem hs_X5_append : yX5_append.cls = RX5 ∧ yX5_append.cls ≠ "java/lang/invoke/MethodHandle" ∧ yX5_append.cls ≠ "java/lang/invoke/VarHandle" ∧ (parseMethodDescriptor yX5_append.desc).map (fun d => d.parameters.length) = some 1 := by decide +kernel
set_option maxRecDepth 20000 in
theorem in_X5_read_X1 : ∀ w ∈ wsX10, w ∈ wsX5_read := by decide +kernel
set_option maxRecDepth 20000 in
theorem in_X5_read_X3 : ∀ w ∈ wsX30, w ∈ wsX5_read := by decide +kernel
set_option maxRecDepth 20000 in
theorem in_X5_read_X5 : ∀ w ∈ wsX50, w ∈ wsX5_read := by decide +kernel
set_option maxRecDepth 20000 in
theorem at_X5_read_60 : ∀ w ∈ (vx_at0 RX5 60 "java/lang/IllegalStateException" ["java/lang/RuntimeException", "java/lang/Exception"]).filter goodWord, w ∈ wsX5_read := by decide +kernel
set_option maxRecDepth 20000 in
theorem at_X5_read_60n : ∀ w ∈ (vx_at0 RX5 60 "java/lang/IllegalStateException" ["java/lang/RuntimeException", "java/lang/Exception"]).filter (fun w => !goodWord w), w ∈ ([] : List Cond) := by decide +kernel
set_option maxRecDepth 20000 in
theorem at_X5_read_60g : ∀ w ∈ Cond.classLink RX5 58 "java/lang/IllegalStateException" :: Cond.initialized "java/lang/IllegalStateException" :: vx_at0 RX5 60 "java/lang/IllegalStateException" ["java/lang/RuntimeException", "java/lang/Exception"], vx_ot w = true := by decide +kernel
set_option maxRecDepth 20000 in
theorem at_X5_read_153 : ∀ w ∈ (vx_at0 RX5 153 "java/lang/IllegalArgumentException" ["java/lang/RuntimeException", "java/lang/Exception"]).filter goodWord, w ∈ wsX5_read := by decide +kernel
set_option maxRecDepth 20000 in
theorem at_X5_read_153n : ∀ w ∈ (vx_at0 RX5 153 "java/lang/IllegalArgumentException" ["java/lang/RuntimeException", "java/lang/Exception"]).filter (fun w => !goodWord w), w ∈ ([] : List Cond) := by decide +kernel
set_option maxRecDepth 20000 in
theorem at_X5_read_153g : ∀ w ∈ Cond.classLink RX5 151 "java/lang/IllegalArgumentException" :: Cond.initialized "java/lang/IllegalArgumentException" :: vx_at0 RX5 153 "java/lang/IllegalArgumentException" ["java/lang/RuntimeException", "java/lang/Exception"], vx_ot w = true := by decide +kernel
def f_X5_read  (D_ : tD_) (S_ : tS_) (V_ : tV_) (F_ : tF_) (R_ : tR_) (B_ : tV_) (Q_ : tR_) (T_ : tT_) : Option (Except String Int32 × tD_ × tV_ × tF_ × tV_ × tR_ × tT_) :=
match D_ with
| (dhasSaved, dkeptError, dmoved) =>
match V_ with
| (vkeys, vfirsts, vends, vvalues, vinferred, vgone, vmade) =>
match F_ with
| (fkeys, fdays, famounts, fversions, fcount) =>
match R_ with
| (rkeys, rdays, rvalues, rcount) =>
match B_ with
| (bkeys, bfirsts, bends, bvalues, binferred, bgone, bmade) =>
match Q_ with
| (qkeys, qdays, qvalues, qcount) =>
match T_ with
| (tcharacters, tlength, tplace) =>
bd_ (f_X3_takeRows (tcharacters, tlength, tplace) (qkeys, qdays, qvalues, qcount)) (fun (r1, (tc2, tl3, tp4), (qk5, qd6, qv7, qc8)) =>
if r1 = 0 then
some (Except.error "java/lang/IllegalArgumentException", (dhasSaved, tp4, dmoved), (vkeys, vfirsts, vends, vvalues, vinferred, vgone, vmade), (fkeys, fdays, famounts, fversions, fcount), (bkeys, bfirsts, bends, bvalues, binferred, bgone, bmade), (qk5, qd6, qv7, qc8), (tc2, 0, tp4))
else
bd_ (f_X5_makeChangesT qc8 (dhasSaved, dkeptError, dmoved) () (vkeys, vfirsts, vends, vvalues, vinferred, vgone, vmade) (fkeys, fdays, famounts, fversions, fcount) (rkeys, rdays, rvalues, rcount) (bkeys, bfirsts, bends, bvalues, binferred, bgone, bmade) (qk5, qd6, qv7, qc8)) (fun (r15, (dh16, dk17, dm18), (vk19, vf20, ve21, vv22, vi23, vg24, vm25), (fk26, fd27, fa28, fv29, fc30), (bk31, bf32, be33, bv34, bi35, bg36, bm37)) =>
if r15 = 0 then
some (Except.error "java/lang/IllegalStateException", (dh16, dk17, dm18), (vk19, vf20, ve21, vv22, vi23, vg24, vm25), (fk26, fd27, fa28, fv29, fc30), (bk31, bf32, be33, bv34, bi35, bg36, bm37), (qk5, qd6, qv7, qc8), (tc2, 0, tp4))
else
some (Except.ok qc8, (dh16, dk17, dm18), (vk19, vf20, ve21, vv22, vi23, vg24, vm25), (fk26, fd27, fa28, fv29, fc30), (bk31, bf32, be33, bv34, bi35, bg36, bm37), (qk5, qd6, qv7, qc8), (tc2, 0, tp4))))
abbrev rm_X5_read : Room := { frames := 6, cells := 1, slots := 6, locals := 138 }
set_option maxHeartbeats 4000000 in
set_option maxRecDepth 100000 in
theorem c_X5_read (l : Launch) (dC : Nat → ClassId) (dI : Nat → Nat → Nat) (cI cZ cC cJ cD : ClassId) (hst : l.stackTraces = false) (d0 s0 z0 b0 q0 t0 v0 f0 r0 v_keys v_firsts v_ends v_values v_inferred v_gone f_keys f_days f_amounts f_versions r_keys r_days r_values b_keys b_firsts b_ends b_values b_inferred b_gone q_keys q_days q_values t_characters : Nat) (sz : Nat) (dhasSaved : Int32) (dkeptError : Int32) (dmoved : Int32) (vkeys : Nat → Int32) (vfirsts : Nat → Int32) (vends : Nat → Int32) (vvalues : Nat → Int32) (vinferred : Nat → Int32) (vgone : Nat → Int32) (vmade : Int32) (fkeys : Nat → Int32) (fdays : Nat → Int32) (famounts : Nat → Int32) (fversions : Nat → Int32) (fcount : Int32) (rkeys : Nat → Int32) (rdays : Nat → Int32) (rvalues : Nat → Int32) (rcount : Int32) (bkeys : Nat → Int32) (bfirsts : Nat → Int32) (bends : Nat → Int32) (bvalues : Nat → Int32) (binferred : Nat → Int32) (bgone : Nat → Int32) (bmade : Int32) (qkeys : Nat → Int32) (qdays : Nat → Int32) (qvalues : Nat → Int32) (qcount : Int32) (tcharacters : Nat → Int32) (tlength : Int32) (tplace : Int32)  (R : Except String Int32 × tD_ × tV_ × tF_ × tV_ × tR_ × tT_) (hf : f_X5_read  (dhasSaved, dkeptError, dmoved) () (vkeys, vfirsts, vends, vvalues, vinferred, vgone, vmade) (fkeys, fdays, famounts, fversions, fcount) (rkeys, rdays, rvalues, rcount) (bkeys, bfirsts, bends, bvalues, binferred, bgone, bmade) (qkeys, qdays, qvalues, qcount) (tcharacters, tlength, tplace) = some R) : vx_Met l yX5_read wsX5_read rm_X5_read (Px_ (dC, dI) (ty_ cI cZ cC cJ cD) (wD_ d0 s0 z0 b0 q0 t0 dhasSaved dkeptError dmoved ++ wS_ s0 v0 f0 r0 ++ wV_ v0 v_keys v_firsts v_ends v_values v_inferred v_gone cI cZ vkeys vfirsts vends vvalues vinferred vgone vmade ++ wF_ f0 f_keys f_days f_amounts f_versions cI fkeys fdays famounts fversions fcount ++ wR_ r0 r_keys r_days r_values cI rkeys rdays rvalues rcount ++ wV_ b0 b_keys b_firsts b_ends b_values b_inferred b_gone cI cZ bkeys bfirsts bends bvalues binferred bgone bmade ++ wR_ q0 q_keys q_days q_values cI qkeys qdays qvalues qcount ++ wT_ t0 t_characters cC tcharacters tlength tplace) sz [.ref d0]) (Xi_ (dC, dI) (ty_ cI cZ cC cJ cD) R.1 (wD_ d0 s0 z0 b0 q0 t0 R.2.1.1 R.2.1.2.1 R.2.1.2.2 ++ wS_ s0 v0 f0 r0 ++ wV_ v0 v_keys v_firsts v_ends v_values v_inferred v_gone cI cZ R.2.2.1.1 R.2.2.1.2.1 R.2.2.1.2.2.1 R.2.2.1.2.2.2.1 R.2.2.1.2.2.2.2.1 R.2.2.1.2.2.2.2.2.1 R.2.2.1.2.2.2.2.2.2 ++ wF_ f0 f_keys f_days f_amounts f_versions cI R.2.2.2.1.1 R.2.2.2.1.2.1 R.2.2.2.1.2.2.1 R.2.2.2.1.2.2.2.1 R.2.2.2.1.2.2.2.2 ++ wR_ r0 r_keys r_days r_values cI rkeys rdays rvalues rcount ++ wV_ b0 b_keys b_firsts b_ends b_values b_inferred b_gone cI cZ R.2.2.2.2.1.1 R.2.2.2.2.1.2.1 R.2.2.2.2.1.2.2.1 R.2.2.2.2.1.2.2.2.1 R.2.2.2.2.1.2.2.2.2.1 R.2.2.2.2.1.2.2.2.2.2.1 R.2.2.2.2.1.2.2.2.2.2.2 ++ wR_ q0 q_keys q_days q_values cI R.2.2.2.2.2.1.1 R.2.2.2.2.2.1.2.1 R.2.2.2.2.2.1.2.2.1 R.2.2.2.2.2.1.2.2.2 ++ wT_ t0 t_characters cC R.2.2.2.2.2.2.1 R.2.2.2.2.2.2.2.1 R.2.2.2.2.2.2.2.2) (va_A (wD_ d0 s0 z0 b0 q0 t0 dhasSaved dkeptError dmoved ++ wS_ s0 v0 f0 r0 ++ wV_ v0 v_keys v_firsts v_ends v_values v_inferred v_gone cI cZ vkeys vfirsts vends vvalues vinferred vgone vmade ++ wF_ f0 f_keys f_days f_amounts f_versions cI fkeys fdays famounts fversions fcount ++ wR_ r0 r_keys r_days r_values cI rkeys rdays rvalues rcount ++ wV_ b0 b_keys b_firsts b_ends b_values b_inferred b_gone cI cZ bkeys bfirsts bends bvalues binferred bgone bmade ++ wR_ q0 q_keys q_days q_values cI qkeys qdays qvalues qcount ++ wT_ t0 t_characters cC tcharacters tlength tplace) sz)) (XX_ (dC, dI) (ty_ cI cZ cC cJ cD) R.1 (wD_ d0 s0 z0 b0 q0 t0 R.2.1.1 R.2.1.2.1 R.2.1.2.2 ++ wS_ s0 v0 f0 r0 ++ wV_ v0 v_keys v_firsts v_ends v_values v_inferred v_gone cI cZ R.2.2.1.1 R.2.2.1.2.1 R.2.2.1.2.2.1 R.2.2.1.2.2.2.1 R.2.2.1.2.2.2.2.1 R.2.2.1.2.2.2.2.2.1 R.2.2.1.2.2.2.2.2.2 ++ wF_ f0 f_keys f_days f_amounts f_versions cI R.2.2.2.1.1 R.2.2.2.1.2.1 R.2.2.2.1.2.2.1 R.2.2.2.1.2.2.2.1 R.2.2.2.1.2.2.2.2 ++ wR_ r0 r_keys r_days r_values cI rkeys rdays rvalues rcount ++ wV_ b0 b_keys b_firsts b_ends b_values b_inferred b_gone cI cZ R.2.2.2.2.1.1 R.2.2.2.2.1.2.1 R.2.2.2.2.1.2.2.1 R.2.2.2.2.1.2.2.2.1 R.2.2.2.2.1.2.2.2.2.1 R.2.2.2.2.1.2.2.2.2.2.1 R.2.2.2.2.1.2.2.2.2.2.2 ++ wR_ q0 q_keys q_days q_values cI R.2.2.2.2.2.1.1 R.2.2.2.2.2.1.2.1 R.2.2.2.2.2.1.2.2.1 R.2.2.2.2.2.1.2.2.2 ++ wT_ t0 t_characters cC R.2.2.2.2.2.2.1 R.2.2.2.2.2.2.2.1 R.2.2.2.2.2.2.2.2) (va_A (wD_ d0 s0 z0 b0 q0 t0 dhasSaved dkeptError dmoved ++ wS_ s0 v0 f0 r0 ++ wV_ v0 v_keys v_firsts v_ends v_values v_inferred v_gone cI cZ vkeys vfirsts vends vvalues vinferred vgone vmade ++ wF_ f0 f_keys f_days f_amounts f_versions cI fkeys fdays famounts fversions fcount ++ wR_ r0 r_keys r_days r_values cI rkeys rdays rvalues rcount ++ wV_ b0 b_keys b_firsts b_ends b_values b_inferred b_gone cI cZ bkeys bfirsts bends bvalues binferred bgone bmade ++ wR_ q0 q_keys q_days q_values cI qkeys qdays qvalues qcount ++ wT_ t0 t_characters cC tcharacters tlength tplace) sz)) 1 6 (va_A (wD_ d0 s0 z0 b0 q0 t0 dhasSaved dkeptError dmoved ++ wS_ s0 v0 f0 r0 ++ wV_ v0 v_keys v_firsts v_ends v_values v_inferred v_gone cI cZ vkeys vfirsts vends vvalues vinferred vgone vmade ++ wF_ f0 f_keys f_days f_amounts f_versions cI fkeys fdays famounts fversions fcount ++ wR_ r0 r_keys r_days r_values cI rkeys rdays rvalues rcount ++ wV_ b0 b_keys b_firsts b_ends b_values b_inferred b_gone cI cZ bkeys bfirsts bends bvalues binferred bgone bmade ++ wR_ q0 q_keys q_days q_values cI qkeys qdays qvalues qcount ++ wT_ t0 t_characters cC tcharacters tlength tplace) sz) := by
  refine metx_ (cc := cX5_read) (maxL := 2) (ret := (some .int)) (Qcf := fun A => Xi_ (dC, dI) (ty_ cI cZ cC cJ cD) R.1 (wD_ d0 s0 z0 b0 q0 t0 R.2.1.1 R.2.1.2.1 R.2.1.2.2 ++ wS_ s0 v0 f0 r0 ++ wV_ v0 v_keys v_firsts v_ends v_values v_inferred v_gone cI cZ R.2.2.1.1 R.2.2.1.2.1 R.2.2.1.2.2.1 R.2.2.1.2.2.2.1 R.2.2.1.2.2.2.2.1 R.2.2.1.2.2.2.2.2.1 R.2.2.1.2.2.2.2.2.2 ++ wF_ f0 f_keys f_days f_amounts f_versions cI R.2.2.2.1.1 R.2.2.2.1.2.1 R.2.2.2.1.2.2.1 R.2.2.2.1.2.2.2.1 R.2.2.2.1.2.2.2.2 ++ wR_ r0 r_keys r_days r_values cI rkeys rdays rvalues rcount ++ wV_ b0 b_keys b_firsts b_ends b_values b_inferred b_gone cI cZ R.2.2.2.2.1.1 R.2.2.2.2.1.2.1 R.2.2.2.2.1.2.2.1 R.2.2.2.2.1.2.2.2.1 R.2.2.2.2.1.2.2.2.2.1 R.2.2.2.2.1.2.2.2.2.2.1 R.2.2.2.2.1.2.2.2.2.2.2 ++ wR_ q0 q_keys q_days q_values cI R.2.2.2.2.2.1.1 R.2.2.2.2.2.1.2.1 R.2.2.2.2.2.1.2.2.1 R.2.2.2.2.2.1.2.2.2 ++ wT_ t0 t_characters cC R.2.2.2.2.2.2.1 R.2.2.2.2.2.2.2.1 R.2.2.2.2.2.2.2.2) A) (XCf := fun A => XX_ (dC, dI) (ty_ cI cZ cC cJ cD) R.1 (wD_ d0 s0 z0 b0 q0 t0 R.2.1.1 R.2.1.2.1 R.2.1.2.2 ++ wS_ s0 v0 f0 r0 ++ wV_ v0 v_keys v_firsts v_ends v_values v_inferred v_gone cI cZ R.2.2.1.1 R.2.2.1.2.1 R.2.2.1.2.2.1 R.2.2.1.2.2.2.1 R.2.2.1.2.2.2.2.1 R.2.2.1.2.2.2.2.2.1 R.2.2.1.2.2.2.2.2.2 ++ wF_ f0 f_keys f_days f_amounts f_versions cI R.2.2.2.1.1 R.2.2.2.1.2.1 R.2.2.2.1.2.2.1 R.2.2.2.1.2.2.2.1 R.2.2.2.1.2.2.2.2 ++ wR_ r0 r_keys r_days r_values cI rkeys rdays rvalues rcount ++ wV_ b0 b_keys b_firsts b_ends b_values b_inferred b_gone cI cZ R.2.2.2.2.1.1 R.2.2.2.2.1.2.1 R.2.2.2.2.1.2.2.1 R.2.2.2.2.1.2.2.2.1 R.2.2.2.2.1.2.2.2.2.1 R.2.2.2.2.1.2.2.2.2.2.1 R.2.2.2.2.1.2.2.2.2.2.2 ++ wR_ q0 q_keys q_days q_values cI R.2.2.2.2.2.1.1 R.2.2.2.2.2.1.2.1 R.2.2.2.2.2.1.2.2.1 R.2.2.2.2.2.1.2.2.2 ++ wT_ t0 t_characters cC R.2.2.2.2.2.2.1 R.2.2.2.2.2.2.2.1 R.2.2.2.2.2.2.2.2) A) (by decide) rfl (Nat.le_of_ble_eq_true rfl) ?_
  intro p e s m args below meth c A ls hx hb hr hts hown hlocks hml htab hA hU hN hP hK hD hl
  have hown : s.vm.findClass RX5 = some m.cls := hown
  have hl : lv_has ls 2 [(0, .ref d0)] := hl
  have hS : va_S A s.heap s.heap [] := va_S.rf
  have fl29_ : (Cond.fieldLink RX5 29 "DimensionLoader" "told" "LDimensionLoader$Rows;").before args s = true := hts _ (List.mem_of_getElem? (i := 6) rfl)
  have fl36_ : (Cond.fieldLink RX5 36 "DimensionLoader" "input" "LDimensionLoader$Text;").before args s = true := hts _ (List.mem_of_getElem? (i := 5) rfl)
  have fl40_ : (Cond.fieldLink RX5 40 "DimensionLoader" "keptError" "I").before args s = true := hts _ (List.mem_of_getElem? (i := 9) rfl)
  have fl218_ : (Cond.fieldLink RX5 218 "DimensionLoader$Rows" "count" "I").before args s = true := hts _ (List.mem_of_getElem? (i := 10) rfl)
  have fl237_ : (Cond.fieldLink RX5 237 "DimensionLoader$Text" "length" "I").before args s = true := hts _ (List.mem_of_getElem? (i := 7) rfl)
  have fl244_ : (Cond.fieldLink RX5 244 "DimensionLoader$Text" "place" "I").before args s = true := hts _ (List.mem_of_getElem? (i := 8) rfl)
  have inX1_ : ∀ w ∈ wsX10, w ∈ wsX5_read := in_X5_read_X1
  have inX3_ : ∀ w ∈ wsX30, w ∈ wsX5_read := in_X5_read_X3
  have inX5_ : ∀ w ∈ wsX50, w ∈ wsX5_read := in_X5_read_X5
  unfold f_X5_read at hf
  dsimp only at hf
  refine lv_aload_n hx hb dX5_read_0 rfl (lv_at hl 0 rfl) ?_
  refine va_get (D := (dC, dI)) (ci := 7) (v := .ref t0) (C := RX5) (T := TX5) (N := 8) hx hb hts inX5_ hown hK hP 0 rfl rfl 4 (by decide) fl36_ (fun _ h9 => h9) rfl dX5_read_1 ?_
  refine lv_aload_n hx hb dX5_read_4 rfl (lv_at hl 0 rfl) ?_
  refine va_get (D := (dC, dI)) (ci := 7) (v := .ref q0) (C := RX5) (T := TX5) (N := 8) hx hb hts inX5_ hown hK hP 0 rfl rfl 3 (by decide) fl29_ (fun _ h9 => h9) rfl dX5_read_5 ?_
  obtain ⟨R9, g10, hf⟩ := bd_B hf
  obtain ⟨r1, ⟨tc2, tl3, tp4⟩, ⟨qk5, qd6, qv7, qc8⟩⟩ := R9
  dsimp only at hf
  have hPc := hP.sub (ws' := wT_ t0 t_characters cC tcharacters tlength tplace ++ wR_ q0 q_keys q_days q_values cI qkeys qdays qvalues qcount) [29, 30, 25, 26, 27, 28] rfl
  have hDc := hD.sub (ws' := wT_ t0 t_characters cC tcharacters tlength tplace ++ wR_ q0 q_keys q_days q_values cI qkeys qdays qvalues qcount) [29, 30, 25, 26, 27, 28] (by decide) rfl
  have hFc := va_free (wc := wT_ t0 t_characters cC tcharacters tlength tplace ++ wR_ q0 q_keys q_days q_values cI qkeys qdays qvalues qcount) hD hS hA [29, 30, 25, 26, 27, 28] rfl
  refine va_calli (va_runV (As := [.ref q0]) (rest := []) ⟨hx, hb, hml, hown, hts⟩ (c_X3_takeRows l dC dI cI cZ cC cJ cD t0 t_characters q0 q_keys q_days q_values s.heap.size tcharacters tlength tplace qkeys qdays qvalues qcount (r1, (tc2, tl3, tp4), (qk5, qd6, qv7, qc8)) g10) (cwV 1 hts gX5_read_X3_takeRows rfl rfl rfl hs_X3_takeRows ⟨Nat.le_of_ble_eq_true rfl, Nat.le_of_ble_eq_true rfl⟩) (preV_ (ci := 5) (q0 := 0) hPc hK hDc rfl rfl rfl rfl) rfl rfl hl.1 rfl (lv_room (Nat.le_of_ble_eq_true rfl)) dX5_read_8 ⟨Nat.le_of_ble_eq_true rfl, Nat.le_of_ble_eq_true rfl⟩) hS (fun q _ h => hFc q h) hFc (fun z12 u t H11 locs ht hvm hw hB hz1 hk1 hS => ?_)
  have hw : r1 = z12 := hw.symm
  subst hw
  obtain ⟨hP, hD⟩ := aft_ (Wr := wD_ d0 s0 z0 b0 q0 t0 dhasSaved dkeptError dmoved ++ wS_ s0 v0 f0 r0 ++ wV_ v0 v_keys v_firsts v_ends v_values v_inferred v_gone cI cZ vkeys vfirsts vends vvalues vinferred vgone vmade ++ wF_ f0 f_keys f_days f_amounts f_versions cI fkeys fdays famounts fversions fcount ++ wR_ r0 r_keys r_days r_values cI rkeys rdays rvalues rcount ++ wV_ b0 b_keys b_firsts b_ends b_values b_inferred b_gone cI cZ bkeys bfirsts bends bvalues binferred bgone bmade) (Wc' := wT_ t0 t_characters cC tc2 tl3 tp4 ++ wR_ q0 q_keys q_days q_values cI qk5 qd6 qv7 qc8) (W2 := wD_ d0 s0 z0 b0 q0 t0 dhasSaved dkeptError dmoved ++ wS_ s0 v0 f0 r0 ++ wV_ v0 v_keys v_firsts v_ends v_values v_inferred v_gone cI cZ vkeys vfirsts vends vvalues vinferred vgone vmade ++ wF_ f0 f_keys f_days f_amounts f_versions cI fkeys fdays famounts fversions fcount ++ wR_ r0 r_keys r_days r_values cI rkeys rdays rvalues rcount ++ wV_ b0 b_keys b_firsts b_ends b_values b_inferred b_gone cI cZ bkeys bfirsts bends bvalues binferred bgone bmade ++ wR_ q0 q_keys q_days q_values cI qk5 qd6 qv7 qc8 ++ wT_ t0 t_characters cC tc2 tl3 tp4) hP hD [29, 30, 25, 26, 27, 28] [0, 1, 2, 3, 4, 5, 6, 7, 8, 9, 10, 11, 12, 13, 14, 15, 16, 17, 18, 19, 20, 21, 22, 23, 24] [0, 1, 2, 3, 4, 5, 6, 7, 8, 9, 10, 11, 12, 13, 14, 15, 16, 17, 18, 19, 20, 21, 22, 23, 24, 27, 28, 29, 30, 25, 26] rfl rfl (by decide) (by decide) (by decide) hk1 hFc hB ht rfl
  refine lv_istore_n (lv' := [(1, .int r1), (0, .ref d0)]) hx hb dX5_read_11 rfl hl (by decide) rfl (fun ls hl => ?_)
  refine lv_aload_n hx hb dX5_read_12 rfl (lv_at hl 1 rfl) ?_
  refine va_get (D := (dC, dI)) (ci := 7) (v := .ref t0) (C := RX5) (T := TX5) (N := 8) hx hb hts inX5_ hown hK hP 0 rfl rfl 4 (by decide) fl36_ (fun _ h9 => h9) rfl dX5_read_13 ?_
  refine lv_iconst (v := 0) hx hb dX5_read_16 (by decide) ?_
  refine va_put (D := (dC, dI)) (ci := 5) (v := .int 0) (ty := .int) (C := RX3) (T := TX3) (N := 3) hx hb hts inX3_ tyX3 tyX3_ok nmX3 hown hK hP hD hS 29 rfl rfl 1 (by decide) fl237_ (fun _ h9 => h9) rfl (by decide +kernel) (by first | rfl | decide) (by first | rfl | decide) (Nat.le_of_ble_eq_true rfl) dX5_read_17 (fun H13 locs hP hD hS => ?_)
  have hP : va_P (dC, dI) vwCl (wD_ d0 s0 z0 b0 q0 t0 dhasSaved dkeptError dmoved ++ wS_ s0 v0 f0 r0 ++ wV_ v0 v_keys v_firsts v_ends v_values v_inferred v_gone cI cZ vkeys vfirsts vends vvalues vinferred vgone vmade ++ wF_ f0 f_keys f_days f_amounts f_versions cI fkeys fdays famounts fversions fcount ++ wR_ r0 r_keys r_days r_values cI rkeys rdays rvalues rcount ++ wV_ b0 b_keys b_firsts b_ends b_values b_inferred b_gone cI cZ bkeys bfirsts bends bvalues binferred bgone bmade ++ wR_ q0 q_keys q_days q_values cI qk5 qd6 qv7 qc8 ++ wT_ t0 t_characters cC tc2 0 tp4) H13 := hP
  have hD : va_D A (wD_ d0 s0 z0 b0 q0 t0 dhasSaved dkeptError dmoved ++ wS_ s0 v0 f0 r0 ++ wV_ v0 v_keys v_firsts v_ends v_values v_inferred v_gone cI cZ vkeys vfirsts vends vvalues vinferred vgone vmade ++ wF_ f0 f_keys f_days f_amounts f_versions cI fkeys fdays famounts fversions fcount ++ wR_ r0 r_keys r_days r_values cI rkeys rdays rvalues rcount ++ wV_ b0 b_keys b_firsts b_ends b_values b_inferred b_gone cI cZ bkeys bfirsts bends bvalues binferred bgone bmade ++ wR_ q0 q_keys q_days q_values cI qk5 qd6 qv7 qc8 ++ wT_ t0 t_characters cC tc2 0 tp4) := hD
  refine lv_iload_n hx hb dX5_read_20 rfl (lv_at hl 0 rfl) ?_
  refine lv_if_ne (tgt := 43) hx hb dX5_read_21 (by decide) (fun c14 => ?_) (fun c14 => ?_)
  · have hf := ite_F c14 hf
    refine lv_aload_n hx hb dX5_read_43 rfl (lv_at hl 1 rfl) ?_
    refine lv_aload_n hx hb dX5_read_44 rfl (lv_at hl 1 rfl) ?_
    refine va_get (D := (dC, dI)) (ci := 7) (v := .ref q0) (C := RX5) (T := TX5) (N := 8) hx hb hts inX5_ hown hK hP 0 rfl rfl 3 (by decide) fl29_ (fun _ h9 => h9) rfl dX5_read_45 ?_
    refine lv_aload_n hx hb dX5_read_48 rfl (lv_at hl 1 rfl) ?_
    refine va_get (D := (dC, dI)) (ci := 7) (v := .ref q0) (C := RX5) (T := TX5) (N := 8) hx hb hts inX5_ hown hK hP 0 rfl rfl 3 (by decide) fl29_ (fun _ h9 => h9) rfl dX5_read_49 ?_
    refine va_get (D := (dC, dI)) (ci := 3) (v := .int qc8) (C := RX1) (T := TX1) (N := 4) hx hb hts inX1_ hown hK hP 25 rfl rfl 3 (by decide) fl218_ (fun _ h9 => h9) rfl dX5_read_52 ?_
    obtain ⟨R38, g39, hf⟩ := bd_B hf
    obtain ⟨r15, ⟨dh16, dk17, dm18⟩, ⟨vk19, vf20, ve21, vv22, vi23, vg24, vm25⟩, ⟨fk26, fd27, fa28, fv29, fc30⟩, ⟨bk31, bf32, be33, bv34, bi35, bg36, bm37⟩⟩ := R38
    dsimp only at hf
    have hPc := hP.sub (ws' := wD_ d0 s0 z0 b0 q0 t0 dhasSaved dkeptError dmoved ++ wS_ s0 v0 f0 r0 ++ wV_ v0 v_keys v_firsts v_ends v_values v_inferred v_gone cI cZ vkeys vfirsts vends vvalues vinferred vgone vmade ++ wF_ f0 f_keys f_days f_amounts f_versions cI fkeys fdays famounts fversions fcount ++ wR_ r0 r_keys r_days r_values cI rkeys rdays rvalues rcount ++ wV_ b0 b_keys b_firsts b_ends b_values b_inferred b_gone cI cZ bkeys bfirsts bends bvalues binferred bgone bmade ++ wR_ q0 q_keys q_days q_values cI qk5 qd6 qv7 qc8) [0, 1, 2, 3, 4, 5, 6, 7, 8, 9, 10, 11, 12, 13, 14, 15, 16, 17, 18, 19, 20, 21, 22, 23, 24, 25, 26, 27, 28] rfl
    have hDc := hD.sub (ws' := wD_ d0 s0 z0 b0 q0 t0 dhasSaved dkeptError dmoved ++ wS_ s0 v0 f0 r0 ++ wV_ v0 v_keys v_firsts v_ends v_values v_inferred v_gone cI cZ vkeys vfirsts vends vvalues vinferred vgone vmade ++ wF_ f0 f_keys f_days f_amounts f_versions cI fkeys fdays famounts fversions fcount ++ wR_ r0 r_keys r_days r_values cI rkeys rdays rvalues rcount ++ wV_ b0 b_keys b_firsts b_ends b_values b_inferred b_gone cI cZ bkeys bfirsts bends bvalues binferred bgone bmade ++ wR_ q0 q_keys q_days q_values cI qk5 qd6 qv7 qc8) [0, 1, 2, 3, 4, 5, 6, 7, 8, 9, 10, 11, 12, 13, 14, 15, 16, 17, 18, 19, 20, 21, 22, 23, 24, 25, 26, 27, 28] (by decide) rfl
    have hFc := va_free (wc := wD_ d0 s0 z0 b0 q0 t0 dhasSaved dkeptError dmoved ++ wS_ s0 v0 f0 r0 ++ wV_ v0 v_keys v_firsts v_ends v_values v_inferred v_gone cI cZ vkeys vfirsts vends vvalues vinferred vgone vmade ++ wF_ f0 f_keys f_days f_amounts f_versions cI fkeys fdays famounts fversions fcount ++ wR_ r0 r_keys r_days r_values cI rkeys rdays rvalues rcount ++ wV_ b0 b_keys b_firsts b_ends b_values b_inferred b_gone cI cZ bkeys bfirsts bends bvalues binferred bgone bmade ++ wR_ q0 q_keys q_days q_values cI qk5 qd6 qv7 qc8) hD hS hA [0, 1, 2, 3, 4, 5, 6, 7, 8, 9, 10, 11, 12, 13, 14, 15, 16, 17, 18, 19, 20, 21, 22, 23, 24, 25, 26, 27, 28] rfl
    refine va_calli (va_runV (As := [.ref q0, .int qc8]) (rest := []) ⟨hx, hb, hml, hown, hts⟩ (c_X5_makeChangesT l dC dI cI cZ cC cJ cD d0 s0 z0 b0 q0 t0 v0 f0 r0 v_keys v_firsts v_ends v_values v_inferred v_gone f_keys f_days f_amounts f_versions r_keys r_days r_values b_keys b_firsts b_ends b_values b_inferred b_gone q_keys q_days q_values H13.size dhasSaved dkeptError dmoved vkeys vfirsts vends vvalues vinferred vgone vmade fkeys fdays famounts fversions fcount rkeys rdays rvalues rcount bkeys bfirsts bends bvalues binferred bgone bmade qk5 qd6 qv7 qc8 qc8 (r15, (dh16, dk17, dm18), (vk19, vf20, ve21, vv22, vi23, vg24, vm25), (fk26, fd27, fa28, fv29, fc30), (bk31, bf32, be33, bv34, bi35, bg36, bm37)) g39) (cwV 2 hts gX5_read_X5_makeChanges rfl rfl rfl hs_X5_makeChanges ⟨Nat.le_of_ble_eq_true rfl, Nat.le_of_ble_eq_true rfl⟩) (preV_ (ci := 7) (q0 := 0) hPc hK hDc rfl rfl rfl rfl) rfl rfl hl.1 rfl (lv_room (Nat.le_of_ble_eq_true rfl)) dX5_read_55 ⟨Nat.le_of_ble_eq_true rfl, Nat.le_of_ble_eq_true rfl⟩) hS (fun q _ h => hFc q h) hFc (fun z41 u t H40 locs ht hvm hw hB hz1 hk1 hS => ?_)
    have hw : r15 = z41 := hw.symm
    subst hw
    obtain ⟨hP, hD⟩ := aft_ (Wr := wT_ t0 t_characters cC tc2 0 tp4) (Wc' := wD_ d0 s0 z0 b0 q0 t0 dh16 dk17 dm18 ++ wS_ s0 v0 f0 r0 ++ wV_ v0 v_keys v_firsts v_ends v_values v_inferred v_gone cI cZ vk19 vf20 ve21 vv22 vi23 vg24 vm25 ++ wF_ f0 f_keys f_days f_amounts f_versions cI fk26 fd27 fa28 fv29 fc30 ++ wR_ r0 r_keys r_days r_values cI rkeys rdays rvalues rcount ++ wV_ b0 b_keys b_firsts b_ends b_values b_inferred b_gone cI cZ bk31 bf32 be33 bv34 bi35 bg36 bm37 ++ wR_ q0 q_keys q_days q_values cI qk5 qd6 qv7 qc8) (W2 := wD_ d0 s0 z0 b0 q0 t0 dh16 dk17 dm18 ++ wS_ s0 v0 f0 r0 ++ wV_ v0 v_keys v_firsts v_ends v_values v_inferred v_gone cI cZ vk19 vf20 ve21 vv22 vi23 vg24 vm25 ++ wF_ f0 f_keys f_days f_amounts f_versions cI fk26 fd27 fa28 fv29 fc30 ++ wR_ r0 r_keys r_days r_values cI rkeys rdays rvalues rcount ++ wV_ b0 b_keys b_firsts b_ends b_values b_inferred b_gone cI cZ bk31 bf32 be33 bv34 bi35 bg36 bm37 ++ wR_ q0 q_keys q_days q_values cI qk5 qd6 qv7 qc8 ++ wT_ t0 t_characters cC tc2 0 tp4) hP hD [0, 1, 2, 3, 4, 5, 6, 7, 8, 9, 10, 11, 12, 13, 14, 15, 16, 17, 18, 19, 20, 21, 22, 23, 24, 25, 26, 27, 28] [29, 30] [2, 3, 4, 5, 6, 7, 8, 9, 10, 11, 12, 13, 14, 15, 16, 17, 18, 19, 20, 21, 22, 23, 24, 25, 26, 27, 28, 29, 30, 0, 1] rfl rfl (by decide) (by decide) (by decide) hk1 hFc hB ht rfl
    refine lv_if_ne (tgt := 69) hx hb dX5_read_58 (by decide) (fun c42 => ?_) (fun c42 => ?_)
    · have hf := ite_F c42 hf
      refine lv_aload_n hx hb dX5_read_69 rfl (lv_at hl 1 rfl) ?_
      refine va_get (D := (dC, dI)) (ci := 7) (v := .ref q0) (C := RX5) (T := TX5) (N := 8) hx hb hts inX5_ hown hK hP 0 rfl rfl 3 (by decide) fl29_ (fun _ h9 => h9) rfl dX5_read_70 ?_
      refine va_get (D := (dC, dI)) (ci := 3) (v := .int qc8) (C := RX1) (T := TX1) (N := 4) hx hb hts inX1_ hown hK hP 25 rfl rfl 3 (by decide) fl218_ (fun _ h9 => h9) rfl dX5_read_73 ?_
      have hR := Option.some.inj hf
      subst hR
      refine vx_ret (W.widen (k := 1) (n := 6) (Nat.le_of_ble_eq_true rfl) (Nat.le_of_ble_eq_true rfl) ?_)
      exact W.iret (v := qc8) hx hb hr (fun t ht hW => ⟨⟨qc8, (), rfl, rfl, by rw [ht]; exact hP, va_K.moved hW.alike hK, hD⟩, hS.F ht⟩) hS.2.2 dX5_read_76
    · have hf := ite_T c42 hf
      have hR := Option.some.inj hf
      subst hR
      exact vx_throw0 (names := ["java/lang/RuntimeException", "java/lang/Exception"]) hx hb hst hown (by decide +kernel) (by decide +kernel) (hts _ (List.mem_of_getElem? (i := 3) rfl)) (hts _ (List.mem_of_getElem? (i := 4) rfl)) (vx_hat (fun w h => hts w (at_X5_read_60 w h)) at_X5_read_60n vx_n) at_X5_read_60g hU hN hS (hl.1.trans hml.symm) dX5_read_61 dX5_read_64 dX5_read_65 dX5_read_68 (fun x h => (htab x h).elim) (Nat.le_of_ble_eq_true rfl) (Nat.le_of_ble_eq_true rfl) (Nat.le_of_ble_eq_true rfl) (Nat.le_of_ble_eq_true rfl) hlocks (thr_ hS hP hK hD rfl) hS.2.2 (Nat.le_of_ble_eq_true rfl) (Nat.le_of_ble_eq_true rfl)
  · have hf := ite_T c14 hf
    refine lv_aload_n hx hb dX5_read_24 rfl (lv_at hl 1 rfl) ?_
    refine lv_aload_n hx hb dX5_read_25 rfl (lv_at hl 1 rfl) ?_
    refine va_get (D := (dC, dI)) (ci := 7) (v := .ref t0) (C := RX5) (T := TX5) (N := 8) hx hb hts inX5_ hown hK hP 0 rfl rfl 4 (by decide) fl36_ (fun _ h9 => h9) rfl dX5_read_26 ?_
    refine va_get (D := (dC, dI)) (ci := 5) (v := .int tp4) (C := RX3) (T := TX3) (N := 3) hx hb hts inX3_ hown hK hP 29 rfl rfl 2 (by decide) fl244_ (fun _ h9 => h9) rfl dX5_read_29 ?_
    refine va_put (D := (dC, dI)) (ci := 7) (v := .int tp4) (ty := .int) (C := RX5) (T := TX5) (N := 8) hx hb hts inX5_ tyX5 tyX5_ok nmX5 hown hK hP hD hS 0 rfl rfl 6 (by decide) fl40_ (fun _ h9 => h9) rfl (by decide +kernel) (by first | rfl | decide) (by first | rfl | decide) (Nat.le_of_ble_eq_true rfl) dX5_read_32 (fun H43 locs hP hD hS => ?_)
    have hP : va_P (dC, dI) vwCl (wD_ d0 s0 z0 b0 q0 t0 dhasSaved tp4 dmoved ++ wS_ s0 v0 f0 r0 ++ wV_ v0 v_keys v_firsts v_ends v_values v_inferred v_gone cI cZ vkeys vfirsts vends vvalues vinferred vgone vmade ++ wF_ f0 f_keys f_days f_amounts f_versions cI fkeys fdays famounts fversions fcount ++ wR_ r0 r_keys r_days r_values cI rkeys rdays rvalues rcount ++ wV_ b0 b_keys b_firsts b_ends b_values b_inferred b_gone cI cZ bkeys bfirsts bends bvalues binferred bgone bmade ++ wR_ q0 q_keys q_days q_values cI qk5 qd6 qv7 qc8 ++ wT_ t0 t_characters cC tc2 0 tp4) H43 := hP
    have hD : va_D A (wD_ d0 s0 z0 b0 q0 t0 dhasSaved tp4 dmoved ++ wS_ s0 v0 f0 r0 ++ wV_ v0 v_keys v_firsts v_ends v_values v_inferred v_gone cI cZ vkeys vfirsts vends vvalues vinferred vgone vmade ++ wF_ f0 f_keys f_days f_amounts f_versions cI fkeys fdays famounts fversions fcount ++ wR_ r0 r_keys r_days r_values cI rkeys rdays rvalues rcount ++ wV_ b0 b_keys b_firsts b_ends b_values b_inferred b_gone cI cZ bkeys bfirsts bends bvalues binferred bgone bmade ++ wR_ q0 q_keys q_days q_values cI qk5 qd6 qv7 qc8 ++ wT_ t0 t_characters cC tc2 0 tp4) := hD
    have hR := Option.some.inj hf
    subst hR
    exact vx_throw0 (names := ["java/lang/RuntimeException", "java/lang/Exception"]) hx hb hst hown (by decide +kernel) (by decide +kernel) (hts _ (List.mem_of_getElem? (i := 1) rfl)) (hts _ (List.mem_of_getElem? (i := 2) rfl)) (vx_hat (fun w h => hts w (at_X5_read_153 w h)) at_X5_read_153n vx_n) at_X5_read_153g hU hN hS (hl.1.trans hml.symm) dX5_read_35 dX5_read_38 dX5_read_39 dX5_read_42 (fun x h => (htab x h).elim) (Nat.le_of_ble_eq_true rfl) (Nat.le_of_ble_eq_true rfl) (Nat.le_of_ble_eq_true rfl) (Nat.le_of_ble_eq_true rfl) hlocks (thr_ hS hP hK hD rfl) hS.2.2 (Nat.le_of_ble_eq_true rfl) (Nat.le_of_ble_eq_true rfl)
theorem hs_X5_read : yX5_read.cls = RX5 ∧ yX5_read.cls ≠ "java/lang/invoke/MethodHandle" ∧ yX5_read.cls ≠ "java/lang/invoke/VarHandle" ∧ (parseMethodDescriptor yX5_read.desc).map (fun d => d.parameters.length) = some 0 := by decide +kernel
set_option maxRecDepth 20000 in
theorem in_X5_errorPosition_X5 : ∀ w ∈ wsX50, w ∈ wsX5_errorPosition := by decide +kernel
def f_X5_errorPosition  (D_ : tD_) : Option (Except String Int32) :=
match D_ with
| (dhasSaved, dkeptError, dmoved) =>
bd_ (f_X5_found dkeptError) (fun x1 =>
match x1 with
| Except.error E9 => some (Except.error E9)
| Except.ok r2 =>
some (Except.ok r2))
abbrev rm_X5_errorPosition : Room := { frames := 7, cells := 1, slots := 6, locals := 109 }
set_option maxHeartbeats 4000000 in
set_option maxRecDepth 100000 in
theorem c_X5_errorPosition (l : Launch) (dC : Nat → ClassId) (dI : Nat → Nat → Nat) (cI cZ cC cJ cD : ClassId) (hst : l.stackTraces = false) (d0 s0 z0 b0 q0 t0 : Nat) (sz : Nat) (dhasSaved : Int32) (dkeptError : Int32) (dmoved : Int32)  (R : Except String Int32) (hf : f_X5_errorPosition  (dhasSaved, dkeptError, dmoved) = some R) : vx_Met l yX5_errorPosition wsX5_errorPosition rm_X5_errorPosition (Px_ (dC, dI) (ty_ cI cZ cC cJ cD) (wD_ d0 s0 z0 b0 q0 t0 dhasSaved dkeptError dmoved) sz [.ref d0]) (Xi_ (dC, dI) (ty_ cI cZ cC cJ cD) R (wD_ d0 s0 z0 b0 q0 t0 dhasSaved dkeptError dmoved) (va_A (wD_ d0 s0 z0 b0 q0 t0 dhasSaved dkeptError dmoved) sz)) (XX_ (dC, dI) (ty_ cI cZ cC cJ cD) R (wD_ d0 s0 z0 b0 q0 t0 dhasSaved dkeptError dmoved) (va_A (wD_ d0 s0 z0 b0 q0 t0 dhasSaved dkeptError dmoved) sz)) 1 6 (va_A (wD_ d0 s0 z0 b0 q0 t0 dhasSaved dkeptError dmoved) sz) := by
  refine metx_ (cc := cX5_errorPosition) (maxL := 1) (ret := (some .int)) (Qcf := fun A => Xi_ (dC, dI) (ty_ cI cZ cC cJ cD) R (wD_ d0 s0 z0 b0 q0 t0 dhasSaved dkeptError dmoved) A) (XCf := fun A => XX_ (dC, dI) (ty_ cI cZ cC cJ cD) R (wD_ d0 s0 z0 b0 q0 t0 dhasSaved dkeptError dmoved) A) (by decide) rfl (Nat.le_of_ble_eq_true rfl) ?_
  intro p e s m args below meth c A ls hx hb hr hts hown hlocks hml htab hA hU hN hP hK hD hl
  have hown : s.vm.findClass RX5 = some m.cls := hown
  have hl : lv_has ls 1 [(0, .ref d0)] := hl
  have hS : va_S A s.heap s.heap [] := va_S.rf
  have fl40_ : (Cond.fieldLink RX5 40 "DimensionLoader" "keptError" "I").before args s = true := hts _ (List.mem_of_getElem? (i := 1) rfl)
  have inX5_ : ∀ w ∈ wsX50, w ∈ wsX5_errorPosition := in_X5_errorPosition_X5
  unfold f_X5_errorPosition at hf
  dsimp only at hf
  refine lv_aload_n hx hb dX5_errorPosition_0 rfl (lv_at hl 0 rfl) ?_
  refine va_get (D := (dC, dI)) (ci := 7) (v := .int dkeptError) (C := RX5) (T := TX5) (N := 8) hx hb hts inX5_ hown hK hP 0 rfl rfl 6 (by decide) fl40_ (fun _ h9 => h9) rfl dX5_errorPosition_1 ?_
  obtain ⟨R3, g4, hf⟩ := bd_B hf
  obtain ⟨x1, rfl⟩ : ∃ z, z = R3 := ⟨_, rfl⟩
  have hPc := hP.sub (ws' := []) [] rfl
  have hDc := hD.sub (ws' := []) [] (by decide) rfl
  have hFc := va_free (wc := []) hD hS hA [] rfl
  cases x1 with
  | error E9 =>
    have hR := Option.some.inj hf
    subst hR
    refine vx_calli (vx_runS (As := [.int dkeptError]) (rest := []) ⟨hx, hb, hml, hown, hts⟩ (c_X5_found l dC dI cI cZ cC cJ cD hst s.heap.size dkeptError x1 g4) (cwS 1 hts gX5_errorPosition_X5_found rfl rfl rfl hs_X5_found ⟨Nat.le_of_ble_eq_true rfl, Nat.le_of_ble_eq_true rfl⟩) (preSx_ hPc hK hDc rfl hS hU hN hFc) rfl rfl hl.1 rfl (lv_room (Nat.le_of_ble_eq_true rfl)) dX5_errorPosition_4 ⟨Nat.le_of_ble_eq_true rfl, Nat.le_of_ble_eq_true rfl⟩) hS (fun q _ h => hFc q h) hFc (fun q _ h => hFc q h) (fun E ce q9 u t H7 locs ht hvm hp hB hz1 hk1 hS hce hcv hcl => ?_) (fun z8 u t H7 locs ht hvm hw hB hz1 hk1 hS => ?_)
    · obtain ⟨hE, hB⟩ := hB
      cases hE
      obtain ⟨hP, hD⟩ := aft_ (Wr := wD_ d0 s0 z0 b0 q0 t0 dhasSaved dkeptError dmoved) (Wc' := []) (W2 := wD_ d0 s0 z0 b0 q0 t0 dhasSaved dkeptError dmoved) hP hD [] [0] [0] rfl rfl (by decide) (by decide) (by decide) hk1 hFc hB ht rfl
      exact vx_out (fun x h => (htab x h).elim) hlocks hce hcv hcl (thr2_ hS hP hK hD rfl) hS.2.2 (Nat.le_of_ble_eq_true rfl) (Nat.le_of_ble_eq_true rfl)
    · exact absurd hw (fun h => nomatch h)
  | ok r2 =>
    refine vx_calli (vx_runS (As := [.int dkeptError]) (rest := []) ⟨hx, hb, hml, hown, hts⟩ (c_X5_found l dC dI cI cZ cC cJ cD hst s.heap.size dkeptError x1 g4) (cwS 1 hts gX5_errorPosition_X5_found rfl rfl rfl hs_X5_found ⟨Nat.le_of_ble_eq_true rfl, Nat.le_of_ble_eq_true rfl⟩) (preSx_ hPc hK hDc rfl hS hU hN hFc) rfl rfl hl.1 rfl (lv_room (Nat.le_of_ble_eq_true rfl)) dX5_errorPosition_4 ⟨Nat.le_of_ble_eq_true rfl, Nat.le_of_ble_eq_true rfl⟩) hS (fun q _ h => hFc q h) hFc (fun q _ h => hFc q h) (fun E ce q9 u t H7 locs ht hvm hp hB hz1 hk1 hS hce hcv hcl => ?_) (fun z8 u t H7 locs ht hvm hw hB hz1 hk1 hS => ?_)
    · exact absurd hB.1 (fun h => nomatch h)
    · have hw : r2 = z8 := Except.ok.inj hw
      subst hw
      obtain ⟨hP, hD⟩ := aft_ (Wr := wD_ d0 s0 z0 b0 q0 t0 dhasSaved dkeptError dmoved) (Wc' := []) (W2 := wD_ d0 s0 z0 b0 q0 t0 dhasSaved dkeptError dmoved) hP hD [] [0] [0] rfl rfl (by decide) (by decide) (by decide) hk1 hFc hB ht rfl
      have hR := Option.some.inj hf
      subst hR
      refine vx_ret (W.widen (k := 1) (n := 6) (Nat.le_of_ble_eq_true rfl) (Nat.le_of_ble_eq_true rfl) ?_)
      exact W.iret (v := r2) hx hb hr (fun t ht hW => ⟨⟨r2, (), rfl, rfl, by rw [ht]; exact hP, va_K.moved hW.alike hK, hD⟩, hS.F ht⟩) hS.2.2 dX5_errorPosition_7
theorem hs_X5_errorPosition : yX5_errorPosition.cls = RX5 ∧ yX5_errorPosition.cls ≠ "java/lang/invoke/MethodHandle" ∧ yX5_errorPosition.cls ≠ "java/lang/invoke/VarHandle" ∧ (parseMethodDescriptor yX5_errorPosition.desc).map (fun d => d.parameters.length) = some 0 := by decide +kernel
set_option maxRecDepth 20000 in
theorem in_X5_save_X2 : ∀ w ∈ wsX20, w ∈ wsX5_save := by decide +kernel
set_option maxRecDepth 20000 in
theorem in_X5_save_X5 : ∀ w ∈ wsX50, w ∈ wsX5_save := by decide +kernel
def f_X5_save  (D_ : tD_) (S_ : tS_) (V_ : tV_) (F_ : tF_) (R_ : tR_) (Z_ : tS_) (W_ : tV_) (G_ : tF_) (H_ : tR_) : Option (Int32 × tD_ × tV_ × tF_ × tR_) :=
match D_ with
| (dhasSaved, dkeptError, dmoved) =>
match V_ with
| (vkeys, vfirsts, vends, vvalues, vinferred, vgone, vmade) =>
match F_ with
| (fkeys, fdays, famounts, fversions, fcount) =>
match R_ with
| (rkeys, rdays, rvalues, rcount) =>
match W_ with
| (wkeys, wfirsts, wends, wvalues, winferred, wgone, wmade) =>
match G_ with
| (gkeys, gdays, gamounts, gversions, gcount) =>
match H_ with
| (hkeys, hdays, hvalues, hcount) =>
bd_ (f_X2_copy () (wkeys, wfirsts, wends, wvalues, winferred, wgone, wmade) (gkeys, gdays, gamounts, gversions, gcount) (hkeys, hdays, hvalues, hcount) () (vkeys, vfirsts, vends, vvalues, vinferred, vgone, vmade) (fkeys, fdays, famounts, fversions, fcount) (rkeys, rdays, rvalues, rcount)) (fun ((wk1, wf2, we3, wv4, wi5, wg6, wm7), (gk8, gd9, ga10, gv11, gc12), (hk13, hd14, hv15, hc16)) =>
bd_ (f_X4_count (vkeys, vfirsts, vends, vvalues, vinferred, vgone, vmade)) (fun r22 =>
some (r22, (1, dkeptError, dmoved), (wk1, wf2, we3, wv4, wi5, wg6, wm7), (gk8, gd9, ga10, gv11, gc12), (hk13, hd14, hv15, hc16))))
abbrev rm_X5_save : Room := { frames := 3, cells := 0, slots := 0, locals := 67 }
set_option maxHeartbeats 4000000 in
set_option maxRecDepth 100000 in
theorem c_X5_save (l : Launch) (dC : Nat → ClassId) (dI : Nat → Nat → Nat) (cI cZ cC cJ cD : ClassId) (d0 s0 z0 b0 q0 t0 v0 f0 r0 v_keys v_firsts v_ends v_values v_inferred v_gone f_keys f_days f_amounts f_versions r_keys r_days r_values w0 g0 h0 w_keys w_firsts w_ends w_values w_inferred w_gone g_keys g_days g_amounts g_versions h_keys h_days h_values : Nat) (sz : Nat) (dhasSaved : Int32) (dkeptError : Int32) (dmoved : Int32) (vkeys : Nat → Int32) (vfirsts : Nat → Int32) (vends : Nat → Int32) (vvalues : Nat → Int32) (vinferred : Nat → Int32) (vgone : Nat → Int32) (vmade : Int32) (fkeys : Nat → Int32) (fdays : Nat → Int32) (famounts : Nat → Int32) (fversions : Nat → Int32) (fcount : Int32) (rkeys : Nat → Int32) (rdays : Nat → Int32) (rvalues : Nat → Int32) (rcount : Int32) (wkeys : Nat → Int32) (wfirsts : Nat → Int32) (wends : Nat → Int32) (wvalues : Nat → Int32) (winferred : Nat → Int32) (wgone : Nat → Int32) (wmade : Int32) (gkeys : Nat → Int32) (gdays : Nat → Int32) (gamounts : Nat → Int32) (gversions : Nat → Int32) (gcount : Int32) (hkeys : Nat → Int32) (hdays : Nat → Int32) (hvalues : Nat → Int32) (hcount : Int32)  (R : Int32 × tD_ × tV_ × tF_ × tR_) (hf : f_X5_save  (dhasSaved, dkeptError, dmoved) () (vkeys, vfirsts, vends, vvalues, vinferred, vgone, vmade) (fkeys, fdays, famounts, fversions, fcount) (rkeys, rdays, rvalues, rcount) () (wkeys, wfirsts, wends, wvalues, winferred, wgone, wmade) (gkeys, gdays, gamounts, gversions, gcount) (hkeys, hdays, hvalues, hcount) = some R) : Met l yX5_save wsX5_save rm_X5_save (Pc_ (dC, dI) (ty_ cI cZ cC cJ cD) (wD_ d0 s0 z0 b0 q0 t0 dhasSaved dkeptError dmoved ++ wS_ s0 v0 f0 r0 ++ wV_ v0 v_keys v_firsts v_ends v_values v_inferred v_gone cI cZ vkeys vfirsts vends vvalues vinferred vgone vmade ++ wF_ f0 f_keys f_days f_amounts f_versions cI fkeys fdays famounts fversions fcount ++ wR_ r0 r_keys r_days r_values cI rkeys rdays rvalues rcount ++ wS_ z0 w0 g0 h0 ++ wV_ w0 w_keys w_firsts w_ends w_values w_inferred w_gone cI cZ wkeys wfirsts wends wvalues winferred wgone wmade ++ wF_ g0 g_keys g_days g_amounts g_versions cI gkeys gdays gamounts gversions gcount ++ wR_ h0 h_keys h_days h_values cI hkeys hdays hvalues hcount) sz [.ref d0]) (Qi_ (dC, dI) (ty_ cI cZ cC cJ cD) R.1 (wD_ d0 s0 z0 b0 q0 t0 R.2.1.1 R.2.1.2.1 R.2.1.2.2 ++ wS_ s0 v0 f0 r0 ++ wV_ v0 v_keys v_firsts v_ends v_values v_inferred v_gone cI cZ vkeys vfirsts vends vvalues vinferred vgone vmade ++ wF_ f0 f_keys f_days f_amounts f_versions cI fkeys fdays famounts fversions fcount ++ wR_ r0 r_keys r_days r_values cI rkeys rdays rvalues rcount ++ wS_ z0 w0 g0 h0 ++ wV_ w0 w_keys w_firsts w_ends w_values w_inferred w_gone cI cZ R.2.2.1.1 R.2.2.1.2.1 R.2.2.1.2.2.1 R.2.2.1.2.2.2.1 R.2.2.1.2.2.2.2.1 R.2.2.1.2.2.2.2.2.1 R.2.2.1.2.2.2.2.2.2 ++ wF_ g0 g_keys g_days g_amounts g_versions cI R.2.2.2.1.1 R.2.2.2.1.2.1 R.2.2.2.1.2.2.1 R.2.2.2.1.2.2.2.1 R.2.2.2.1.2.2.2.2 ++ wR_ h0 h_keys h_days h_values cI R.2.2.2.2.1 R.2.2.2.2.2.1 R.2.2.2.2.2.2.1 R.2.2.2.2.2.2.2) (va_A (wD_ d0 s0 z0 b0 q0 t0 dhasSaved dkeptError dmoved ++ wS_ s0 v0 f0 r0 ++ wV_ v0 v_keys v_firsts v_ends v_values v_inferred v_gone cI cZ vkeys vfirsts vends vvalues vinferred vgone vmade ++ wF_ f0 f_keys f_days f_amounts f_versions cI fkeys fdays famounts fversions fcount ++ wR_ r0 r_keys r_days r_values cI rkeys rdays rvalues rcount ++ wS_ z0 w0 g0 h0 ++ wV_ w0 w_keys w_firsts w_ends w_values w_inferred w_gone cI cZ wkeys wfirsts wends wvalues winferred wgone wmade ++ wF_ g0 g_keys g_days g_amounts g_versions cI gkeys gdays gamounts gversions gcount ++ wR_ h0 h_keys h_days h_values cI hkeys hdays hvalues hcount) sz)) 0 0 (va_A (wD_ d0 s0 z0 b0 q0 t0 dhasSaved dkeptError dmoved ++ wS_ s0 v0 f0 r0 ++ wV_ v0 v_keys v_firsts v_ends v_values v_inferred v_gone cI cZ vkeys vfirsts vends vvalues vinferred vgone vmade ++ wF_ f0 f_keys f_days f_amounts f_versions cI fkeys fdays famounts fversions fcount ++ wR_ r0 r_keys r_days r_values cI rkeys rdays rvalues rcount ++ wS_ z0 w0 g0 h0 ++ wV_ w0 w_keys w_firsts w_ends w_values w_inferred w_gone cI cZ wkeys wfirsts wends wvalues winferred wgone wmade ++ wF_ g0 g_keys g_days g_amounts g_versions cI gkeys gdays gamounts gversions gcount ++ wR_ h0 h_keys h_days h_values cI hkeys hdays hvalues hcount) sz) := by
  refine met_ (cc := cX5_save) (maxL := 1) (ret := (some .int)) (Qcf := fun A => Qi_ (dC, dI) (ty_ cI cZ cC cJ cD) R.1 (wD_ d0 s0 z0 b0 q0 t0 R.2.1.1 R.2.1.2.1 R.2.1.2.2 ++ wS_ s0 v0 f0 r0 ++ wV_ v0 v_keys v_firsts v_ends v_values v_inferred v_gone cI cZ vkeys vfirsts vends vvalues vinferred vgone vmade ++ wF_ f0 f_keys f_days f_amounts f_versions cI fkeys fdays famounts fversions fcount ++ wR_ r0 r_keys r_days r_values cI rkeys rdays rvalues rcount ++ wS_ z0 w0 g0 h0 ++ wV_ w0 w_keys w_firsts w_ends w_values w_inferred w_gone cI cZ R.2.2.1.1 R.2.2.1.2.1 R.2.2.1.2.2.1 R.2.2.1.2.2.2.1 R.2.2.1.2.2.2.2.1 R.2.2.1.2.2.2.2.2.1 R.2.2.1.2.2.2.2.2.2 ++ wF_ g0 g_keys g_days g_amounts g_versions cI R.2.2.2.1.1 R.2.2.2.1.2.1 R.2.2.2.1.2.2.1 R.2.2.2.1.2.2.2.1 R.2.2.2.1.2.2.2.2 ++ wR_ h0 h_keys h_days h_values cI R.2.2.2.2.1 R.2.2.2.2.2.1 R.2.2.2.2.2.2.1 R.2.2.2.2.2.2.2) A) (by decide) rfl (Nat.le_of_ble_eq_true rfl) ?_
  intro p e s m args below meth c A ls hx hb hr hts hown hlocks hml hA hP hK hD hl
  have hown : s.vm.findClass RX5 = some m.cls := hown
  have hl : lv_has ls 1 [(0, .ref d0)] := hl
  have hS : va_S A s.heap s.heap [] := va_S.rf
  have fl10_ : (Cond.fieldLink RX5 10 "DimensionLoader" "live" "LDimensionLoader$Store;").before args s = true := hts _ (List.mem_of_getElem? (i := 2) rfl)
  have fl16_ : (Cond.fieldLink RX5 16 "DimensionLoader" "saved" "LDimensionLoader$Store;").before args s = true := hts _ (List.mem_of_getElem? (i := 1) rfl)
  have fl51_ : (Cond.fieldLink RX5 51 "DimensionLoader$Store" "versions" "LDimensionLoader$Versions;").before args s = true := hts _ (List.mem_of_getElem? (i := 4) rfl)
  have fl251_ : (Cond.fieldLink RX5 251 "DimensionLoader" "hasSaved" "Z").before args s = true := hts _ (List.mem_of_getElem? (i := 3) rfl)
  have inX2_ : ∀ w ∈ wsX20, w ∈ wsX5_save := in_X5_save_X2
  have inX5_ : ∀ w ∈ wsX50, w ∈ wsX5_save := in_X5_save_X5
  unfold f_X5_save at hf
  dsimp only at hf
  refine lv_aload_n hx hb dX5_save_0 rfl (lv_at hl 0 rfl) ?_
  refine va_get (D := (dC, dI)) (ci := 7) (v := .ref z0) (C := RX5) (T := TX5) (N := 8) hx hb hts inX5_ hown hK hP 0 rfl rfl 1 (by decide) fl16_ (fun _ h9 => h9) rfl dX5_save_1 ?_
  refine lv_aload_n hx hb dX5_save_4 rfl (lv_at hl 0 rfl) ?_
  refine va_get (D := (dC, dI)) (ci := 7) (v := .ref s0) (C := RX5) (T := TX5) (N := 8) hx hb hts inX5_ hown hK hP 0 rfl rfl 0 (by decide) fl10_ (fun _ h9 => h9) rfl dX5_save_5 ?_
  obtain ⟨R17, g18, hf⟩ := bd_B hf
  obtain ⟨⟨wk1, wf2, we3, wv4, wi5, wg6, wm7⟩, ⟨gk8, gd9, ga10, gv11, gc12⟩, ⟨hk13, hd14, hv15, hc16⟩⟩ := R17
  dsimp only at hf
  have hPc := hP.sub (ws' := wS_ z0 w0 g0 h0 ++ wV_ w0 w_keys w_firsts w_ends w_values w_inferred w_gone cI cZ wkeys wfirsts wends wvalues winferred wgone wmade ++ wF_ g0 g_keys g_days g_amounts g_versions cI gkeys gdays gamounts gversions gcount ++ wR_ h0 h_keys h_days h_values cI hkeys hdays hvalues hcount ++ wS_ s0 v0 f0 r0 ++ wV_ v0 v_keys v_firsts v_ends v_values v_inferred v_gone cI cZ vkeys vfirsts vends vvalues vinferred vgone vmade ++ wF_ f0 f_keys f_days f_amounts f_versions cI fkeys fdays famounts fversions fcount ++ wR_ r0 r_keys r_days r_values cI rkeys rdays rvalues rcount) [18, 19, 20, 21, 22, 23, 24, 25, 26, 27, 28, 29, 30, 31, 32, 33, 34, 1, 2, 3, 4, 5, 6, 7, 8, 9, 10, 11, 12, 13, 14, 15, 16, 17] rfl
  have hDc := hD.sub (ws' := wS_ z0 w0 g0 h0 ++ wV_ w0 w_keys w_firsts w_ends w_values w_inferred w_gone cI cZ wkeys wfirsts wends wvalues winferred wgone wmade ++ wF_ g0 g_keys g_days g_amounts g_versions cI gkeys gdays gamounts gversions gcount ++ wR_ h0 h_keys h_days h_values cI hkeys hdays hvalues hcount ++ wS_ s0 v0 f0 r0 ++ wV_ v0 v_keys v_firsts v_ends v_values v_inferred v_gone cI cZ vkeys vfirsts vends vvalues vinferred vgone vmade ++ wF_ f0 f_keys f_days f_amounts f_versions cI fkeys fdays famounts fversions fcount ++ wR_ r0 r_keys r_days r_values cI rkeys rdays rvalues rcount) [18, 19, 20, 21, 22, 23, 24, 25, 26, 27, 28, 29, 30, 31, 32, 33, 34, 1, 2, 3, 4, 5, 6, 7, 8, 9, 10, 11, 12, 13, 14, 15, 16, 17] (by decide) rfl
  have hFc := va_free (wc := wS_ z0 w0 g0 h0 ++ wV_ w0 w_keys w_firsts w_ends w_values w_inferred w_gone cI cZ wkeys wfirsts wends wvalues winferred wgone wmade ++ wF_ g0 g_keys g_days g_amounts g_versions cI gkeys gdays gamounts gversions gcount ++ wR_ h0 h_keys h_days h_values cI hkeys hdays hvalues hcount ++ wS_ s0 v0 f0 r0 ++ wV_ v0 v_keys v_firsts v_ends v_values v_inferred v_gone cI cZ vkeys vfirsts vends vvalues vinferred vgone vmade ++ wF_ f0 f_keys f_days f_amounts f_versions cI fkeys fdays famounts fversions fcount ++ wR_ r0 r_keys r_days r_values cI rkeys rdays rvalues rcount) hD hS hA [18, 19, 20, 21, 22, 23, 24, 25, 26, 27, 28, 29, 30, 31, 32, 33, 34, 1, 2, 3, 4, 5, 6, 7, 8, 9, 10, 11, 12, 13, 14, 15, 16, 17] rfl
  refine va_callv (va_runV (As := [.ref s0]) (rest := []) ⟨hx, hb, hml, hown, hts⟩ (c_X2_copy l dC dI cI cZ cC cJ cD z0 w0 g0 h0 w_keys w_firsts w_ends w_values w_inferred w_gone g_keys g_days g_amounts g_versions h_keys h_days h_values s0 v0 f0 r0 v_keys v_firsts v_ends v_values v_inferred v_gone f_keys f_days f_amounts f_versions r_keys r_days r_values s.heap.size wkeys wfirsts wends wvalues winferred wgone wmade gkeys gdays gamounts gversions gcount hkeys hdays hvalues hcount vkeys vfirsts vends vvalues vinferred vgone vmade fkeys fdays famounts fversions fcount rkeys rdays rvalues rcount ((wk1, wf2, we3, wv4, wi5, wg6, wm7), (gk8, gd9, ga10, gv11, gc12), (hk13, hd14, hv15, hc16)) g18) (cwV 1 hts gX5_save_X2_copy rfl rfl rfl hs_X2_copy ⟨Nat.le_of_ble_eq_true rfl, Nat.le_of_ble_eq_true rfl⟩) (preV_ (ci := 4) (q0 := 0) hPc hK hDc rfl rfl rfl rfl) rfl rfl hl.1 rfl (lv_room (Nat.le_of_ble_eq_true rfl)) dX5_save_8 ⟨Nat.le_of_ble_eq_true rfl, Nat.le_of_ble_eq_true rfl⟩) hS (fun q _ h => hFc q h) hFc (fun u t H19 locs ht hvm hw hB hz1 hk1 hS => ?_)
  obtain ⟨hP, hD⟩ := aft_ (Wr := wD_ d0 s0 z0 b0 q0 t0 dhasSaved dkeptError dmoved) (Wc' := wS_ z0 w0 g0 h0 ++ wV_ w0 w_keys w_firsts w_ends w_values w_inferred w_gone cI cZ wk1 wf2 we3 wv4 wi5 wg6 wm7 ++ wF_ g0 g_keys g_days g_amounts g_versions cI gk8 gd9 ga10 gv11 gc12 ++ wR_ h0 h_keys h_days h_values cI hk13 hd14 hv15 hc16 ++ wS_ s0 v0 f0 r0 ++ wV_ v0 v_keys v_firsts v_ends v_values v_inferred v_gone cI cZ vkeys vfirsts vends vvalues vinferred vgone vmade ++ wF_ f0 f_keys f_days f_amounts f_versions cI fkeys fdays famounts fversions fcount ++ wR_ r0 r_keys r_days r_values cI rkeys rdays rvalues rcount) (W2 := wD_ d0 s0 z0 b0 q0 t0 dhasSaved dkeptError dmoved ++ wS_ s0 v0 f0 r0 ++ wV_ v0 v_keys v_firsts v_ends v_values v_inferred v_gone cI cZ vkeys vfirsts vends vvalues vinferred vgone vmade ++ wF_ f0 f_keys f_days f_amounts f_versions cI fkeys fdays famounts fversions fcount ++ wR_ r0 r_keys r_days r_values cI rkeys rdays rvalues rcount ++ wS_ z0 w0 g0 h0 ++ wV_ w0 w_keys w_firsts w_ends w_values w_inferred w_gone cI cZ wk1 wf2 we3 wv4 wi5 wg6 wm7 ++ wF_ g0 g_keys g_days g_amounts g_versions cI gk8 gd9 ga10 gv11 gc12 ++ wR_ h0 h_keys h_days h_values cI hk13 hd14 hv15 hc16) hP hD [18, 19, 20, 21, 22, 23, 24, 25, 26, 27, 28, 29, 30, 31, 32, 33, 34, 1, 2, 3, 4, 5, 6, 7, 8, 9, 10, 11, 12, 13, 14, 15, 16, 17] [0] [0, 18, 19, 20, 21, 22, 23, 24, 25, 26, 27, 28, 29, 30, 31, 32, 33, 34, 1, 2, 3, 4, 5, 6, 7, 8, 9, 10, 11, 12, 13, 14, 15, 16, 17] rfl rfl (by decide) (by decide) (by decide) hk1 hFc hB ht rfl
  refine lv_aload_n hx hb dX5_save_11 rfl (lv_at hl 0 rfl) ?_
  refine lv_iconst (v := 1) hx hb dX5_save_12 (by decide) ?_
  refine va_put (D := (dC, dI)) (ci := 7) (v := .int 1) (ty := .boolean) (C := RX5) (T := TX5) (N := 8) hx hb hts inX5_ tyX5 tyX5_ok nmX5 hown hK hP hD hS 0 rfl rfl 5 (by decide) fl251_ (fun _ h9 => h9) rfl (by decide +kernel) (by first | rfl | decide) (by first | rfl | decide) (Nat.le_of_ble_eq_true rfl) dX5_save_13 (fun H21 locs hP hD hS => ?_)
  have hP : va_P (dC, dI) vwCl (wD_ d0 s0 z0 b0 q0 t0 1 dkeptError dmoved ++ wS_ s0 v0 f0 r0 ++ wV_ v0 v_keys v_firsts v_ends v_values v_inferred v_gone cI cZ vkeys vfirsts vends vvalues vinferred vgone vmade ++ wF_ f0 f_keys f_days f_amounts f_versions cI fkeys fdays famounts fversions fcount ++ wR_ r0 r_keys r_days r_values cI rkeys rdays rvalues rcount ++ wS_ z0 w0 g0 h0 ++ wV_ w0 w_keys w_firsts w_ends w_values w_inferred w_gone cI cZ wk1 wf2 we3 wv4 wi5 wg6 wm7 ++ wF_ g0 g_keys g_days g_amounts g_versions cI gk8 gd9 ga10 gv11 gc12 ++ wR_ h0 h_keys h_days h_values cI hk13 hd14 hv15 hc16) H21 := hP
  have hD : va_D A (wD_ d0 s0 z0 b0 q0 t0 1 dkeptError dmoved ++ wS_ s0 v0 f0 r0 ++ wV_ v0 v_keys v_firsts v_ends v_values v_inferred v_gone cI cZ vkeys vfirsts vends vvalues vinferred vgone vmade ++ wF_ f0 f_keys f_days f_amounts f_versions cI fkeys fdays famounts fversions fcount ++ wR_ r0 r_keys r_days r_values cI rkeys rdays rvalues rcount ++ wS_ z0 w0 g0 h0 ++ wV_ w0 w_keys w_firsts w_ends w_values w_inferred w_gone cI cZ wk1 wf2 we3 wv4 wi5 wg6 wm7 ++ wF_ g0 g_keys g_days g_amounts g_versions cI gk8 gd9 ga10 gv11 gc12 ++ wR_ h0 h_keys h_days h_values cI hk13 hd14 hv15 hc16) := hD
  refine lv_aload_n hx hb dX5_save_16 rfl (lv_at hl 0 rfl) ?_
  refine va_get (D := (dC, dI)) (ci := 7) (v := .ref s0) (C := RX5) (T := TX5) (N := 8) hx hb hts inX5_ hown hK hP 0 rfl rfl 0 (by decide) fl10_ (fun _ h9 => h9) rfl dX5_save_17 ?_
  refine va_get (D := (dC, dI)) (ci := 4) (v := .ref v0) (C := RX2) (T := TX2) (N := 3) hx hb hts inX2_ hown hK hP 1 rfl rfl 0 (by decide) fl51_ (fun _ h9 => h9) rfl dX5_save_20 ?_
  obtain ⟨R23, g24, hf⟩ := bd_B hf
  obtain ⟨r22, rfl⟩ : ∃ z, z = R23 := ⟨_, rfl⟩
  have hPc := hP.sub (ws' := wV_ v0 v_keys v_firsts v_ends v_values v_inferred v_gone cI cZ vkeys vfirsts vends vvalues vinferred vgone vmade) [2, 3, 4, 5, 6, 7, 8] rfl
  have hDc := hD.sub (ws' := wV_ v0 v_keys v_firsts v_ends v_values v_inferred v_gone cI cZ vkeys vfirsts vends vvalues vinferred vgone vmade) [2, 3, 4, 5, 6, 7, 8] (by decide) rfl
  have hFc := va_free (wc := wV_ v0 v_keys v_firsts v_ends v_values v_inferred v_gone cI cZ vkeys vfirsts vends vvalues vinferred vgone vmade) hD hS hA [2, 3, 4, 5, 6, 7, 8] rfl
  refine va_calli (va_runV (As := []) (rest := []) ⟨hx, hb, hml, hown, hts⟩ (c_X4_count l dC dI cI cZ cC cJ cD v0 v_keys v_firsts v_ends v_values v_inferred v_gone H21.size vkeys vfirsts vends vvalues vinferred vgone vmade r22 g24) (cwV 0 hts gX5_save_X4_count rfl rfl rfl hs_X4_count ⟨Nat.le_of_ble_eq_true rfl, Nat.le_of_ble_eq_true rfl⟩) (preV_ (ci := 6) (q0 := 0) hPc hK hDc rfl rfl rfl rfl) rfl rfl hl.1 rfl (lv_room (Nat.le_of_ble_eq_true rfl)) dX5_save_23 ⟨Nat.le_of_ble_eq_true rfl, Nat.le_of_ble_eq_true rfl⟩) hS (fun q _ h => hFc q h) hFc (fun z26 u t H25 locs ht hvm hw hB hz1 hk1 hS => ?_)
  have hw : r22 = z26 := hw.symm
  subst hw
  obtain ⟨hP, hD⟩ := aft_ (Wr := wD_ d0 s0 z0 b0 q0 t0 1 dkeptError dmoved ++ wS_ s0 v0 f0 r0 ++ wF_ f0 f_keys f_days f_amounts f_versions cI fkeys fdays famounts fversions fcount ++ wR_ r0 r_keys r_days r_values cI rkeys rdays rvalues rcount ++ wS_ z0 w0 g0 h0 ++ wV_ w0 w_keys w_firsts w_ends w_values w_inferred w_gone cI cZ wk1 wf2 we3 wv4 wi5 wg6 wm7 ++ wF_ g0 g_keys g_days g_amounts g_versions cI gk8 gd9 ga10 gv11 gc12 ++ wR_ h0 h_keys h_days h_values cI hk13 hd14 hv15 hc16) (Wc' := wV_ v0 v_keys v_firsts v_ends v_values v_inferred v_gone cI cZ vkeys vfirsts vends vvalues vinferred vgone vmade) (W2 := wD_ d0 s0 z0 b0 q0 t0 1 dkeptError dmoved ++ wS_ s0 v0 f0 r0 ++ wV_ v0 v_keys v_firsts v_ends v_values v_inferred v_gone cI cZ vkeys vfirsts vends vvalues vinferred vgone vmade ++ wF_ f0 f_keys f_days f_amounts f_versions cI fkeys fdays famounts fversions fcount ++ wR_ r0 r_keys r_days r_values cI rkeys rdays rvalues rcount ++ wS_ z0 w0 g0 h0 ++ wV_ w0 w_keys w_firsts w_ends w_values w_inferred w_gone cI cZ wk1 wf2 we3 wv4 wi5 wg6 wm7 ++ wF_ g0 g_keys g_days g_amounts g_versions cI gk8 gd9 ga10 gv11 gc12 ++ wR_ h0 h_keys h_days h_values cI hk13 hd14 hv15 hc16) hP hD [2, 3, 4, 5, 6, 7, 8] [0, 1, 9, 10, 11, 12, 13, 14, 15, 16, 17, 18, 19, 20, 21, 22, 23, 24, 25, 26, 27, 28, 29, 30, 31, 32, 33, 34] [0, 1, 28, 29, 30, 31, 32, 33, 34, 2, 3, 4, 5, 6, 7, 8, 9, 10, 11, 12, 13, 14, 15, 16, 17, 18, 19, 20, 21, 22, 23, 24, 25, 26, 27] rfl rfl (by decide) (by decide) (by decide) hk1 hFc hB ht rfl
  have hR := Option.some.inj hf
  subst hR
  exact W.iret (v := r22) hx hb hr (fun t ht hW => ⟨⟨r22, (), rfl, rfl, by rw [ht]; exact hP, va_K.moved hW.alike hK, hD⟩, hS.F ht⟩) hS.2.2 dX5_save_26
theorem hs_X5_save : yX5_save.cls = RX5 ∧ yX5_save.cls ≠ "java/lang/invoke/MethodHandle" ∧ yX5_save.cls ≠ "java/lang/invoke/VarHandle" ∧ (parseMethodDescriptor yX5_save.desc).map (fun d => d.parameters.length) = some 0 := by decide +kernel
set_option maxRecDepth 20000 in
theorem in_X5_restore_X2 : ∀ w ∈ wsX20, w ∈ wsX5_restore := by decide +kernel
set_option maxRecDepth 20000 in
theorem in_X5_restore_X5 : ∀ w ∈ wsX50, w ∈ wsX5_restore := by decide +kernel
set_option maxRecDepth 20000 in
theorem at_X5_restore_60 : ∀ w ∈ (vx_at0 RX5 60 "java/lang/IllegalStateException" ["java/lang/RuntimeException", "java/lang/Exception"]).filter goodWord, w ∈ wsX5_restore := by decide +kernel
set_option maxRecDepth 20000 in
theorem at_X5_restore_60n : ∀ w ∈ (vx_at0 RX5 60 "java/lang/IllegalStateException" ["java/lang/RuntimeException", "java/lang/Exception"]).filter (fun w => !goodWord w), w ∈ ([] : List Cond) := by decide +kernel
set_option maxRecDepth 20000 in
theorem at_X5_restore_60g : ∀ w ∈ Cond.classLink RX5 58 "java/lang/IllegalStateException" :: Cond.initialized "java/lang/IllegalStateException" :: vx_at0 RX5 60 "java/lang/IllegalStateException" ["java/lang/RuntimeException", "java/lang/Exception"], vx_ot w = true := by decide +kernel
def f_X5_restore  (D_ : tD_) (S_ : tS_) (V_ : tV_) (F_ : tF_) (R_ : tR_) (Z_ : tS_) (W_ : tV_) (G_ : tF_) (H_ : tR_) : Option (Except String Int32 × tD_ × tV_ × tF_ × tR_) :=
match D_ with
| (dhasSaved, dkeptError, dmoved) =>
match V_ with
| (vkeys, vfirsts, vends, vvalues, vinferred, vgone, vmade) =>
match F_ with
| (fkeys, fdays, famounts, fversions, fcount) =>
match R_ with
| (rkeys, rdays, rvalues, rcount) =>
match W_ with
| (wkeys, wfirsts, wends, wvalues, winferred, wgone, wmade) =>
match G_ with
| (gkeys, gdays, gamounts, gversions, gcount) =>
match H_ with
| (hkeys, hdays, hvalues, hcount) =>
if dhasSaved = 0 then
some (Except.error "java/lang/IllegalStateException", (dhasSaved, dkeptError, dmoved), (vkeys, vfirsts, vends, vvalues, vinferred, vgone, vmade), (fkeys, fdays, famounts, fversions, fcount), (rkeys, rdays, rvalues, rcount))
else
bd_ (f_X2_copy () (vkeys, vfirsts, vends, vvalues, vinferred, vgone, vmade) (fkeys, fdays, famounts, fversions, fcount) (rkeys, rdays, rvalues, rcount) () (wkeys, wfirsts, wends, wvalues, winferred, wgone, wmade) (gkeys, gdays, gamounts, gversions, gcount) (hkeys, hdays, hvalues, hcount)) (fun ((vk2, vf3, ve4, vv5, vi6, vg7, vm8), (fk9, fd10, fa11, fv12, fc13), (rk14, rd15, rv16, rc17)) =>
bd_ (f_X4_count (vk2, vf3, ve4, vv5, vi6, vg7, vm8)) (fun r23 =>
some (Except.ok r23, (dhasSaved, dkeptError, 0), (vk2, vf3, ve4, vv5, vi6, vg7, vm8), (fk9, fd10, fa11, fv12, fc13), (rk14, rd15, rv16, rc17))))
abbrev rm_X5_restore : Room := { frames := 6, cells := 1, slots := 6, locals := 89 }
set_option maxHeartbeats 4000000 in
set_option maxRecDepth 100000 in
theorem c_X5_restore (l : Launch) (dC : Nat → ClassId) (dI : Nat → Nat → Nat) (cI cZ cC cJ cD : ClassId) (hst : l.stackTraces = false) (d0 s0 z0 b0 q0 t0 v0 f0 r0 v_keys v_firsts v_ends v_values v_inferred v_gone f_keys f_days f_amounts f_versions r_keys r_days r_values w0 g0 h0 w_keys w_firsts w_ends w_values w_inferred w_gone g_keys g_days g_amounts g_versions h_keys h_days h_values : Nat) (sz : Nat) (dhasSaved : Int32) (dkeptError : Int32) (dmoved : Int32) (vkeys : Nat → Int32) (vfirsts : Nat → Int32) (vends : Nat → Int32) (vvalues : Nat → Int32) (vinferred : Nat → Int32) (vgone : Nat → Int32) (vmade : Int32) (fkeys : Nat → Int32) (fdays : Nat → Int32) (famounts : Nat → Int32) (fversions : Nat → Int32) (fcount : Int32) (rkeys : Nat → Int32) (rdays : Nat → Int32) (rvalues : Nat → Int32) (rcount : Int32) (wkeys : Nat → Int32) (wfirsts : Nat → Int32) (wends : Nat → Int32) (wvalues : Nat → Int32) (winferred : Nat → Int32) (wgone : Nat → Int32) (wmade : Int32) (gkeys : Nat → Int32) (gdays : Nat → Int32) (gamounts : Nat → Int32) (gversions : Nat → Int32) (gcount : Int32) (hkeys : Nat → Int32) (hdays : Nat → Int32) (hvalues : Nat → Int32) (hcount : Int32)  (R : Except String Int32 × tD_ × tV_ × tF_ × tR_) (hf : f_X5_restore  (dhasSaved, dkeptError, dmoved) () (vkeys, vfirsts, vends, vvalues, vinferred, vgone, vmade) (fkeys, fdays, famounts, fversions, fcount) (rkeys, rdays, rvalues, rcount) () (wkeys, wfirsts, wends, wvalues, winferred, wgone, wmade) (gkeys, gdays, gamounts, gversions, gcount) (hkeys, hdays, hvalues, hcount) = some R) : vx_Met l yX5_restore wsX5_restore rm_X5_restore (Px_ (dC, dI) (ty_ cI cZ cC cJ cD) (wD_ d0 s0 z0 b0 q0 t0 dhasSaved dkeptError dmoved ++ wS_ s0 v0 f0 r0 ++ wV_ v0 v_keys v_firsts v_ends v_values v_inferred v_gone cI cZ vkeys vfirsts vends vvalues vinferred vgone vmade ++ wF_ f0 f_keys f_days f_amounts f_versions cI fkeys fdays famounts fversions fcount ++ wR_ r0 r_keys r_days r_values cI rkeys rdays rvalues rcount ++ wS_ z0 w0 g0 h0 ++ wV_ w0 w_keys w_firsts w_ends w_values w_inferred w_gone cI cZ wkeys wfirsts wends wvalues winferred wgone wmade ++ wF_ g0 g_keys g_days g_amounts g_versions cI gkeys gdays gamounts gversions gcount ++ wR_ h0 h_keys h_days h_values cI hkeys hdays hvalues hcount) sz [.ref d0]) (Xi_ (dC, dI) (ty_ cI cZ cC cJ cD) R.1 (wD_ d0 s0 z0 b0 q0 t0 R.2.1.1 R.2.1.2.1 R.2.1.2.2 ++ wS_ s0 v0 f0 r0 ++ wV_ v0 v_keys v_firsts v_ends v_values v_inferred v_gone cI cZ R.2.2.1.1 R.2.2.1.2.1 R.2.2.1.2.2.1 R.2.2.1.2.2.2.1 R.2.2.1.2.2.2.2.1 R.2.2.1.2.2.2.2.2.1 R.2.2.1.2.2.2.2.2.2 ++ wF_ f0 f_keys f_days f_amounts f_versions cI R.2.2.2.1.1 R.2.2.2.1.2.1 R.2.2.2.1.2.2.1 R.2.2.2.1.2.2.2.1 R.2.2.2.1.2.2.2.2 ++ wR_ r0 r_keys r_days r_values cI R.2.2.2.2.1 R.2.2.2.2.2.1 R.2.2.2.2.2.2.1 R.2.2.2.2.2.2.2 ++ wS_ z0 w0 g0 h0 ++ wV_ w0 w_keys w_firsts w_ends w_values w_inferred w_gone cI cZ wkeys wfirsts wends wvalues winferred wgone wmade ++ wF_ g0 g_keys g_days g_amounts g_versions cI gkeys gdays gamounts gversions gcount ++ wR_ h0 h_keys h_days h_values cI hkeys hdays hvalues hcount) (va_A (wD_ d0 s0 z0 b0 q0 t0 dhasSaved dkeptError dmoved ++ wS_ s0 v0 f0 r0 ++ wV_ v0 v_keys v_firsts v_ends v_values v_inferred v_gone cI cZ vkeys vfirsts vends vvalues vinferred vgone vmade ++ wF_ f0 f_keys f_days f_amounts f_versions cI fkeys fdays famounts fversions fcount ++ wR_ r0 r_keys r_days r_values cI rkeys rdays rvalues rcount ++ wS_ z0 w0 g0 h0 ++ wV_ w0 w_keys w_firsts w_ends w_values w_inferred w_gone cI cZ wkeys wfirsts wends wvalues winferred wgone wmade ++ wF_ g0 g_keys g_days g_amounts g_versions cI gkeys gdays gamounts gversions gcount ++ wR_ h0 h_keys h_days h_values cI hkeys hdays hvalues hcount) sz)) (XX_ (dC, dI) (ty_ cI cZ cC cJ cD) R.1 (wD_ d0 s0 z0 b0 q0 t0 R.2.1.1 R.2.1.2.1 R.2.1.2.2 ++ wS_ s0 v0 f0 r0 ++ wV_ v0 v_keys v_firsts v_ends v_values v_inferred v_gone cI cZ R.2.2.1.1 R.2.2.1.2.1 R.2.2.1.2.2.1 R.2.2.1.2.2.2.1 R.2.2.1.2.2.2.2.1 R.2.2.1.2.2.2.2.2.1 R.2.2.1.2.2.2.2.2.2 ++ wF_ f0 f_keys f_days f_amounts f_versions cI R.2.2.2.1.1 R.2.2.2.1.2.1 R.2.2.2.1.2.2.1 R.2.2.2.1.2.2.2.1 R.2.2.2.1.2.2.2.2 ++ wR_ r0 r_keys r_days r_values cI R.2.2.2.2.1 R.2.2.2.2.2.1 R.2.2.2.2.2.2.1 R.2.2.2.2.2.2.2 ++ wS_ z0 w0 g0 h0 ++ wV_ w0 w_keys w_firsts w_ends w_values w_inferred w_gone cI cZ wkeys wfirsts wends wvalues winferred wgone wmade ++ wF_ g0 g_keys g_days g_amounts g_versions cI gkeys gdays gamounts gversions gcount ++ wR_ h0 h_keys h_days h_values cI hkeys hdays hvalues hcount) (va_A (wD_ d0 s0 z0 b0 q0 t0 dhasSaved dkeptError dmoved ++ wS_ s0 v0 f0 r0 ++ wV_ v0 v_keys v_firsts v_ends v_values v_inferred v_gone cI cZ vkeys vfirsts vends vvalues vinferred vgone vmade ++ wF_ f0 f_keys f_days f_amounts f_versions cI fkeys fdays famounts fversions fcount ++ wR_ r0 r_keys r_days r_values cI rkeys rdays rvalues rcount ++ wS_ z0 w0 g0 h0 ++ wV_ w0 w_keys w_firsts w_ends w_values w_inferred w_gone cI cZ wkeys wfirsts wends wvalues winferred wgone wmade ++ wF_ g0 g_keys g_days g_amounts g_versions cI gkeys gdays gamounts gversions gcount ++ wR_ h0 h_keys h_days h_values cI hkeys hdays hvalues hcount) sz)) 1 6 (va_A (wD_ d0 s0 z0 b0 q0 t0 dhasSaved dkeptError dmoved ++ wS_ s0 v0 f0 r0 ++ wV_ v0 v_keys v_firsts v_ends v_values v_inferred v_gone cI cZ vkeys vfirsts vends vvalues vinferred vgone vmade ++ wF_ f0 f_keys f_days f_amounts f_versions cI fkeys fdays famounts fversions fcount ++ wR_ r0 r_keys r_days r_values cI rkeys rdays rvalues rcount ++ wS_ z0 w0 g0 h0 ++ wV_ w0 w_keys w_firsts w_ends w_values w_inferred w_gone cI cZ wkeys wfirsts wends wvalues winferred wgone wmade ++ wF_ g0 g_keys g_days g_amounts g_versions cI gkeys gdays gamounts gversions gcount ++ wR_ h0 h_keys h_days h_values cI hkeys hdays hvalues hcount) sz) := by
  refine metx_ (cc := cX5_restore) (maxL := 1) (ret := (some .int)) (Qcf := fun A => Xi_ (dC, dI) (ty_ cI cZ cC cJ cD) R.1 (wD_ d0 s0 z0 b0 q0 t0 R.2.1.1 R.2.1.2.1 R.2.1.2.2 ++ wS_ s0 v0 f0 r0 ++ wV_ v0 v_keys v_firsts v_ends v_values v_inferred v_gone cI cZ R.2.2.1.1 R.2.2.1.2.1 R.2.2.1.2.2.1 R.2.2.1.2.2.2.1 R.2.2.1.2.2.2.2.1 R.2.2.1.2.2.2.2.2.1 R.2.2.1.2.2.2.2.2.2 ++ wF_ f0 f_keys f_days f_amounts f_versions cI R.2.2.2.1.1 R.2.2.2.1.2.1 R.2.2.2.1.2.2.1 R.2.2.2.1.2.2.2.1 R.2.2.2.1.2.2.2.2 ++ wR_ r0 r_keys r_days r_values cI R.2.2.2.2.1 R.2.2.2.2.2.1 R.2.2.2.2.2.2.1 R.2.2.2.2.2.2.2 ++ wS_ z0 w0 g0 h0 ++ wV_ w0 w_keys w_firsts w_ends w_values w_inferred w_gone cI cZ wkeys wfirsts wends wvalues winferred wgone wmade ++ wF_ g0 g_keys g_days g_amounts g_versions cI gkeys gdays gamounts gversions gcount ++ wR_ h0 h_keys h_days h_values cI hkeys hdays hvalues hcount) A) (XCf := fun A => XX_ (dC, dI) (ty_ cI cZ cC cJ cD) R.1 (wD_ d0 s0 z0 b0 q0 t0 R.2.1.1 R.2.1.2.1 R.2.1.2.2 ++ wS_ s0 v0 f0 r0 ++ wV_ v0 v_keys v_firsts v_ends v_values v_inferred v_gone cI cZ R.2.2.1.1 R.2.2.1.2.1 R.2.2.1.2.2.1 R.2.2.1.2.2.2.1 R.2.2.1.2.2.2.2.1 R.2.2.1.2.2.2.2.2.1 R.2.2.1.2.2.2.2.2.2 ++ wF_ f0 f_keys f_days f_amounts f_versions cI R.2.2.2.1.1 R.2.2.2.1.2.1 R.2.2.2.1.2.2.1 R.2.2.2.1.2.2.2.1 R.2.2.2.1.2.2.2.2 ++ wR_ r0 r_keys r_days r_values cI R.2.2.2.2.1 R.2.2.2.2.2.1 R.2.2.2.2.2.2.1 R.2.2.2.2.2.2.2 ++ wS_ z0 w0 g0 h0 ++ wV_ w0 w_keys w_firsts w_ends w_values w_inferred w_gone cI cZ wkeys wfirsts wends wvalues winferred wgone wmade ++ wF_ g0 g_keys g_days g_amounts g_versions cI gkeys gdays gamounts gversions gcount ++ wR_ h0 h_keys h_days h_values cI hkeys hdays hvalues hcount) A) (by decide) rfl (Nat.le_of_ble_eq_true rfl) ?_
  intro p e s m args below meth c A ls hx hb hr hts hown hlocks hml htab hA hU hN hP hK hD hl
  have hown : s.vm.findClass RX5 = some m.cls := hown
  have hl : lv_has ls 1 [(0, .ref d0)] := hl
  have hS : va_S A s.heap s.heap [] := va_S.rf
  have fl10_ : (Cond.fieldLink RX5 10 "DimensionLoader" "live" "LDimensionLoader$Store;").before args s = true := hts _ (List.mem_of_getElem? (i := 4) rfl)
  have fl16_ : (Cond.fieldLink RX5 16 "DimensionLoader" "saved" "LDimensionLoader$Store;").before args s = true := hts _ (List.mem_of_getElem? (i := 5) rfl)
  have fl51_ : (Cond.fieldLink RX5 51 "DimensionLoader$Store" "versions" "LDimensionLoader$Versions;").before args s = true := hts _ (List.mem_of_getElem? (i := 7) rfl)
  have fl132_ : (Cond.fieldLink RX5 132 "DimensionLoader" "moved" "I").before args s = true := hts _ (List.mem_of_getElem? (i := 6) rfl)
  have fl251_ : (Cond.fieldLink RX5 251 "DimensionLoader" "hasSaved" "Z").before args s = true := hts _ (List.mem_of_getElem? (i := 3) rfl)
  have inX2_ : ∀ w ∈ wsX20, w ∈ wsX5_restore := in_X5_restore_X2
  have inX5_ : ∀ w ∈ wsX50, w ∈ wsX5_restore := in_X5_restore_X5
  unfold f_X5_restore at hf
  dsimp only at hf
  refine lv_aload_n hx hb dX5_restore_0 rfl (lv_at hl 0 rfl) ?_
  refine va_get (D := (dC, dI)) (ci := 7) (v := .int dhasSaved) (C := RX5) (T := TX5) (N := 8) hx hb hts inX5_ hown hK hP 0 rfl rfl 5 (by decide) fl251_ (fun _ h9 => h9) rfl dX5_restore_1 ?_
  refine lv_if_ne (tgt := 15) hx hb dX5_restore_4 (by decide) (fun c1 => ?_) (fun c1 => ?_)
  · have hf := ite_F c1 hf
    refine lv_aload_n hx hb dX5_restore_15 rfl (lv_at hl 0 rfl) ?_
    refine va_get (D := (dC, dI)) (ci := 7) (v := .ref s0) (C := RX5) (T := TX5) (N := 8) hx hb hts inX5_ hown hK hP 0 rfl rfl 0 (by decide) fl10_ (fun _ h9 => h9) rfl dX5_restore_16 ?_
    refine lv_aload_n hx hb dX5_restore_19 rfl (lv_at hl 0 rfl) ?_
    refine va_get (D := (dC, dI)) (ci := 7) (v := .ref z0) (C := RX5) (T := TX5) (N := 8) hx hb hts inX5_ hown hK hP 0 rfl rfl 1 (by decide) fl16_ (fun _ h9 => h9) rfl dX5_restore_20 ?_
    obtain ⟨R18, g19, hf⟩ := bd_B hf
    obtain ⟨⟨vk2, vf3, ve4, vv5, vi6, vg7, vm8⟩, ⟨fk9, fd10, fa11, fv12, fc13⟩, ⟨rk14, rd15, rv16, rc17⟩⟩ := R18
    dsimp only at hf
    have hPc := hP.sub (ws' := wS_ s0 v0 f0 r0 ++ wV_ v0 v_keys v_firsts v_ends v_values v_inferred v_gone cI cZ vkeys vfirsts vends vvalues vinferred vgone vmade ++ wF_ f0 f_keys f_days f_amounts f_versions cI fkeys fdays famounts fversions fcount ++ wR_ r0 r_keys r_days r_values cI rkeys rdays rvalues rcount ++ wS_ z0 w0 g0 h0 ++ wV_ w0 w_keys w_firsts w_ends w_values w_inferred w_gone cI cZ wkeys wfirsts wends wvalues winferred wgone wmade ++ wF_ g0 g_keys g_days g_amounts g_versions cI gkeys gdays gamounts gversions gcount ++ wR_ h0 h_keys h_days h_values cI hkeys hdays hvalues hcount) [1, 2, 3, 4, 5, 6, 7, 8, 9, 10, 11, 12, 13, 14, 15, 16, 17, 18, 19, 20, 21, 22, 23, 24, 25, 26, 27, 28, 29, 30, 31, 32, 33, 34] rfl
    have hDc := hD.sub (ws' := wS_ s0 v0 f0 r0 ++ wV_ v0 v_keys v_firsts v_ends v_values v_inferred v_gone cI cZ vkeys vfirsts vends vvalues vinferred vgone vmade ++ wF_ f0 f_keys f_days f_amounts f_versions cI fkeys fdays famounts fversions fcount ++ wR_ r0 r_keys r_days r_values cI rkeys rdays rvalues rcount ++ wS_ z0 w0 g0 h0 ++ wV_ w0 w_keys w_firsts w_ends w_values w_inferred w_gone cI cZ wkeys wfirsts wends wvalues winferred wgone wmade ++ wF_ g0 g_keys g_days g_amounts g_versions cI gkeys gdays gamounts gversions gcount ++ wR_ h0 h_keys h_days h_values cI hkeys hdays hvalues hcount) [1, 2, 3, 4, 5, 6, 7, 8, 9, 10, 11, 12, 13, 14, 15, 16, 17, 18, 19, 20, 21, 22, 23, 24, 25, 26, 27, 28, 29, 30, 31, 32, 33, 34] (by decide) rfl
    have hFc := va_free (wc := wS_ s0 v0 f0 r0 ++ wV_ v0 v_keys v_firsts v_ends v_values v_inferred v_gone cI cZ vkeys vfirsts vends vvalues vinferred vgone vmade ++ wF_ f0 f_keys f_days f_amounts f_versions cI fkeys fdays famounts fversions fcount ++ wR_ r0 r_keys r_days r_values cI rkeys rdays rvalues rcount ++ wS_ z0 w0 g0 h0 ++ wV_ w0 w_keys w_firsts w_ends w_values w_inferred w_gone cI cZ wkeys wfirsts wends wvalues winferred wgone wmade ++ wF_ g0 g_keys g_days g_amounts g_versions cI gkeys gdays gamounts gversions gcount ++ wR_ h0 h_keys h_days h_values cI hkeys hdays hvalues hcount) hD hS hA [1, 2, 3, 4, 5, 6, 7, 8, 9, 10, 11, 12, 13, 14, 15, 16, 17, 18, 19, 20, 21, 22, 23, 24, 25, 26, 27, 28, 29, 30, 31, 32, 33, 34] rfl
    refine va_callv (va_runV (As := [.ref z0]) (rest := []) ⟨hx, hb, hml, hown, hts⟩ (c_X2_copy l dC dI cI cZ cC cJ cD s0 v0 f0 r0 v_keys v_firsts v_ends v_values v_inferred v_gone f_keys f_days f_amounts f_versions r_keys r_days r_values z0 w0 g0 h0 w_keys w_firsts w_ends w_values w_inferred w_gone g_keys g_days g_amounts g_versions h_keys h_days h_values s.heap.size vkeys vfirsts vends vvalues vinferred vgone vmade fkeys fdays famounts fversions fcount rkeys rdays rvalues rcount wkeys wfirsts wends wvalues winferred wgone wmade gkeys gdays gamounts gversions gcount hkeys hdays hvalues hcount ((vk2, vf3, ve4, vv5, vi6, vg7, vm8), (fk9, fd10, fa11, fv12, fc13), (rk14, rd15, rv16, rc17)) g19) (cwV 1 hts gX5_restore_X2_copy rfl rfl rfl hs_X2_copy ⟨Nat.le_of_ble_eq_true rfl, Nat.le_of_ble_eq_true rfl⟩) (preV_ (ci := 4) (q0 := 0) hPc hK hDc rfl rfl rfl rfl) rfl rfl hl.1 rfl (lv_room (Nat.le_of_ble_eq_true rfl)) dX5_restore_23 ⟨Nat.le_of_ble_eq_true rfl, Nat.le_of_ble_eq_true rfl⟩) hS (fun q _ h => hFc q h) hFc (fun u t H20 locs ht hvm hw hB hz1 hk1 hS => ?_)
    obtain ⟨hP, hD⟩ := aft_ (Wr := wD_ d0 s0 z0 b0 q0 t0 dhasSaved dkeptError dmoved) (Wc' := wS_ s0 v0 f0 r0 ++ wV_ v0 v_keys v_firsts v_ends v_values v_inferred v_gone cI cZ vk2 vf3 ve4 vv5 vi6 vg7 vm8 ++ wF_ f0 f_keys f_days f_amounts f_versions cI fk9 fd10 fa11 fv12 fc13 ++ wR_ r0 r_keys r_days r_values cI rk14 rd15 rv16 rc17 ++ wS_ z0 w0 g0 h0 ++ wV_ w0 w_keys w_firsts w_ends w_values w_inferred w_gone cI cZ wkeys wfirsts wends wvalues winferred wgone wmade ++ wF_ g0 g_keys g_days g_amounts g_versions cI gkeys gdays gamounts gversions gcount ++ wR_ h0 h_keys h_days h_values cI hkeys hdays hvalues hcount) (W2 := wD_ d0 s0 z0 b0 q0 t0 dhasSaved dkeptError dmoved ++ wS_ s0 v0 f0 r0 ++ wV_ v0 v_keys v_firsts v_ends v_values v_inferred v_gone cI cZ vk2 vf3 ve4 vv5 vi6 vg7 vm8 ++ wF_ f0 f_keys f_days f_amounts f_versions cI fk9 fd10 fa11 fv12 fc13 ++ wR_ r0 r_keys r_days r_values cI rk14 rd15 rv16 rc17 ++ wS_ z0 w0 g0 h0 ++ wV_ w0 w_keys w_firsts w_ends w_values w_inferred w_gone cI cZ wkeys wfirsts wends wvalues winferred wgone wmade ++ wF_ g0 g_keys g_days g_amounts g_versions cI gkeys gdays gamounts gversions gcount ++ wR_ h0 h_keys h_days h_values cI hkeys hdays hvalues hcount) hP hD [1, 2, 3, 4, 5, 6, 7, 8, 9, 10, 11, 12, 13, 14, 15, 16, 17, 18, 19, 20, 21, 22, 23, 24, 25, 26, 27, 28, 29, 30, 31, 32, 33, 34] [0] [0, 1, 2, 3, 4, 5, 6, 7, 8, 9, 10, 11, 12, 13, 14, 15, 16, 17, 18, 19, 20, 21, 22, 23, 24, 25, 26, 27, 28, 29, 30, 31, 32, 33, 34] rfl rfl (by decide) (by decide) (by decide) hk1 hFc hB ht rfl
    refine lv_aload_n hx hb dX5_restore_26 rfl (lv_at hl 0 rfl) ?_
    refine lv_iconst (v := 0) hx hb dX5_restore_27 (by decide) ?_
    refine va_put (D := (dC, dI)) (ci := 7) (v := .int 0) (ty := .int) (C := RX5) (T := TX5) (N := 8) hx hb hts inX5_ tyX5 tyX5_ok nmX5 hown hK hP hD hS 0 rfl rfl 7 (by decide) fl132_ (fun _ h9 => h9) rfl (by decide +kernel) (by first | rfl | decide) (by first | rfl | decide) (Nat.le_of_ble_eq_true rfl) dX5_restore_28 (fun H22 locs hP hD hS => ?_)
    have hP : va_P (dC, dI) vwCl (wD_ d0 s0 z0 b0 q0 t0 dhasSaved dkeptError 0 ++ wS_ s0 v0 f0 r0 ++ wV_ v0 v_keys v_firsts v_ends v_values v_inferred v_gone cI cZ vk2 vf3 ve4 vv5 vi6 vg7 vm8 ++ wF_ f0 f_keys f_days f_amounts f_versions cI fk9 fd10 fa11 fv12 fc13 ++ wR_ r0 r_keys r_days r_values cI rk14 rd15 rv16 rc17 ++ wS_ z0 w0 g0 h0 ++ wV_ w0 w_keys w_firsts w_ends w_values w_inferred w_gone cI cZ wkeys wfirsts wends wvalues winferred wgone wmade ++ wF_ g0 g_keys g_days g_amounts g_versions cI gkeys gdays gamounts gversions gcount ++ wR_ h0 h_keys h_days h_values cI hkeys hdays hvalues hcount) H22 := hP
    have hD : va_D A (wD_ d0 s0 z0 b0 q0 t0 dhasSaved dkeptError 0 ++ wS_ s0 v0 f0 r0 ++ wV_ v0 v_keys v_firsts v_ends v_values v_inferred v_gone cI cZ vk2 vf3 ve4 vv5 vi6 vg7 vm8 ++ wF_ f0 f_keys f_days f_amounts f_versions cI fk9 fd10 fa11 fv12 fc13 ++ wR_ r0 r_keys r_days r_values cI rk14 rd15 rv16 rc17 ++ wS_ z0 w0 g0 h0 ++ wV_ w0 w_keys w_firsts w_ends w_values w_inferred w_gone cI cZ wkeys wfirsts wends wvalues winferred wgone wmade ++ wF_ g0 g_keys g_days g_amounts g_versions cI gkeys gdays gamounts gversions gcount ++ wR_ h0 h_keys h_days h_values cI hkeys hdays hvalues hcount) := hD
    refine lv_aload_n hx hb dX5_restore_31 rfl (lv_at hl 0 rfl) ?_
    refine va_get (D := (dC, dI)) (ci := 7) (v := .ref s0) (C := RX5) (T := TX5) (N := 8) hx hb hts inX5_ hown hK hP 0 rfl rfl 0 (by decide) fl10_ (fun _ h9 => h9) rfl dX5_restore_32 ?_
    refine va_get (D := (dC, dI)) (ci := 4) (v := .ref v0) (C := RX2) (T := TX2) (N := 3) hx hb hts inX2_ hown hK hP 1 rfl rfl 0 (by decide) fl51_ (fun _ h9 => h9) rfl dX5_restore_35 ?_
    obtain ⟨R24, g25, hf⟩ := bd_B hf
    obtain ⟨r23, rfl⟩ : ∃ z, z = R24 := ⟨_, rfl⟩
    have hPc := hP.sub (ws' := wV_ v0 v_keys v_firsts v_ends v_values v_inferred v_gone cI cZ vk2 vf3 ve4 vv5 vi6 vg7 vm8) [2, 3, 4, 5, 6, 7, 8] rfl
    have hDc := hD.sub (ws' := wV_ v0 v_keys v_firsts v_ends v_values v_inferred v_gone cI cZ vk2 vf3 ve4 vv5 vi6 vg7 vm8) [2, 3, 4, 5, 6, 7, 8] (by decide) rfl
    have hFc := va_free (wc := wV_ v0 v_keys v_firsts v_ends v_values v_inferred v_gone cI cZ vk2 vf3 ve4 vv5 vi6 vg7 vm8) hD hS hA [2, 3, 4, 5, 6, 7, 8] rfl
    refine va_calli (va_runV (As := []) (rest := []) ⟨hx, hb, hml, hown, hts⟩ (c_X4_count l dC dI cI cZ cC cJ cD v0 v_keys v_firsts v_ends v_values v_inferred v_gone H22.size vk2 vf3 ve4 vv5 vi6 vg7 vm8 r23 g25) (cwV 0 hts gX5_restore_X4_count rfl rfl rfl hs_X4_count ⟨Nat.le_of_ble_eq_true rfl, Nat.le_of_ble_eq_true rfl⟩) (preV_ (ci := 6) (q0 := 0) hPc hK hDc rfl rfl rfl rfl) rfl rfl hl.1 rfl (lv_room (Nat.le_of_ble_eq_true rfl)) dX5_restore_38 ⟨Nat.le_of_ble_eq_true rfl, Nat.le_of_ble_eq_true rfl⟩) hS (fun q _ h => hFc q h) hFc (fun z27 u t H26 locs ht hvm hw hB hz1 hk1 hS => ?_)
    have hw : r23 = z27 := hw.symm
    subst hw
    obtain ⟨hP, hD⟩ := aft_ (Wr := wD_ d0 s0 z0 b0 q0 t0 dhasSaved dkeptError 0 ++ wS_ s0 v0 f0 r0 ++ wF_ f0 f_keys f_days f_amounts f_versions cI fk9 fd10 fa11 fv12 fc13 ++ wR_ r0 r_keys r_days r_values cI rk14 rd15 rv16 rc17 ++ wS_ z0 w0 g0 h0 ++ wV_ w0 w_keys w_firsts w_ends w_values w_inferred w_gone cI cZ wkeys wfirsts wends wvalues winferred wgone wmade ++ wF_ g0 g_keys g_days g_amounts g_versions cI gkeys gdays gamounts gversions gcount ++ wR_ h0 h_keys h_days h_values cI hkeys hdays hvalues hcount) (Wc' := wV_ v0 v_keys v_firsts v_ends v_values v_inferred v_gone cI cZ vk2 vf3 ve4 vv5 vi6 vg7 vm8) (W2 := wD_ d0 s0 z0 b0 q0 t0 dhasSaved dkeptError 0 ++ wS_ s0 v0 f0 r0 ++ wV_ v0 v_keys v_firsts v_ends v_values v_inferred v_gone cI cZ vk2 vf3 ve4 vv5 vi6 vg7 vm8 ++ wF_ f0 f_keys f_days f_amounts f_versions cI fk9 fd10 fa11 fv12 fc13 ++ wR_ r0 r_keys r_days r_values cI rk14 rd15 rv16 rc17 ++ wS_ z0 w0 g0 h0 ++ wV_ w0 w_keys w_firsts w_ends w_values w_inferred w_gone cI cZ wkeys wfirsts wends wvalues winferred wgone wmade ++ wF_ g0 g_keys g_days g_amounts g_versions cI gkeys gdays gamounts gversions gcount ++ wR_ h0 h_keys h_days h_values cI hkeys hdays hvalues hcount) hP hD [2, 3, 4, 5, 6, 7, 8] [0, 1, 9, 10, 11, 12, 13, 14, 15, 16, 17, 18, 19, 20, 21, 22, 23, 24, 25, 26, 27, 28, 29, 30, 31, 32, 33, 34] [0, 1, 28, 29, 30, 31, 32, 33, 34, 2, 3, 4, 5, 6, 7, 8, 9, 10, 11, 12, 13, 14, 15, 16, 17, 18, 19, 20, 21, 22, 23, 24, 25, 26, 27] rfl rfl (by decide) (by decide) (by decide) hk1 hFc hB ht rfl
    have hR := Option.some.inj hf
    subst hR
    refine vx_ret (W.widen (k := 1) (n := 6) (Nat.le_of_ble_eq_true rfl) (Nat.le_of_ble_eq_true rfl) ?_)
    exact W.iret (v := r23) hx hb hr (fun t ht hW => ⟨⟨r23, (), rfl, rfl, by rw [ht]; exact hP, va_K.moved hW.alike hK, hD⟩, hS.F ht⟩) hS.2.2 dX5_restore_41
  · have hf := ite_T c1 hf
    have hR := Option.some.inj hf
    subst hR
    exact vx_throw0 (names := ["java/lang/RuntimeException", "java/lang/Exception"]) hx hb hst hown (by decide +kernel) (by decide +kernel) (hts _ (List.mem_of_getElem? (i := 1) rfl)) (hts _ (List.mem_of_getElem? (i := 2) rfl)) (vx_hat (fun w h => hts w (at_X5_restore_60 w h)) at_X5_restore_60n vx_n) at_X5_restore_60g hU hN hS (hl.1.trans hml.symm) dX5_restore_7 dX5_restore_10 dX5_restore_11 dX5_restore_14 (fun x h => (htab x h).elim) (Nat.le_of_ble_eq_true rfl) (Nat.le_of_ble_eq_true rfl) (Nat.le_of_ble_eq_true rfl) (Nat.le_of_ble_eq_true rfl) hlocks (thr_ hS hP hK hD rfl) hS.2.2 (Nat.le_of_ble_eq_true rfl) (Nat.le_of_ble_eq_true rfl)
theorem hs_X5_restore : yX5_restore.cls = RX5 ∧ yX5_restore.cls ≠ "java/lang/invoke/MethodHandle" ∧ yX5_restore.cls ≠ "java/lang/invoke/VarHandle" ∧ (parseMethodDescriptor yX5_restore.desc).map (fun d => d.parameters.length) = some 0 := by decide +kernel
