/-! a new array goes ahead of the others: where the law makes its tables -/
theorem ins0_P {D : va_G} {X A R N : va_W} {H : Heap} (h : va_P D vwCl (((X ++ A) ++ R) ++ N) H) : va_P D vwCl ((X ++ (N ++ A)) ++ R) H := by
  have e1 : ((X ++ A) ++ R) ++ N = (X ++ (A ++ R)) ++ N := by simp only [List.append_assoc]
  rw [e1] at h
  have h2 := va_P.swap h
  have e2 : (X ++ N) ++ (A ++ R) = (X ++ (N ++ A)) ++ R := by simp only [List.append_assoc]
  rw [e2] at h2
  exact h2
theorem ins0_D {P : Nat → Prop} {X A R N : va_W} (h : va_D P (((X ++ A) ++ R) ++ N)) : va_D P ((X ++ (N ++ A)) ++ R) := by
  have e1 : ((X ++ A) ++ R) ++ N = (X ++ (A ++ R)) ++ N := by simp only [List.append_assoc]
  rw [e1] at h
  have h2 := va_D.swap h
  have e2 : (X ++ N) ++ (A ++ R) = (X ++ (N ++ A)) ++ R := by simp only [List.append_assoc]
  rw [e2] at h2
  exact h2
theorem ins1_P {D : va_G} {X B A R N : va_W} {H : Heap} (h : va_P D vwCl (((X ++ (B ++ A)) ++ R) ++ N) H) : va_P D vwCl ((X ++ (B ++ (N ++ A))) ++ R) H := by
  have e1 : ((X ++ (B ++ A)) ++ R) ++ N = (((X ++ B) ++ A) ++ R) ++ N := by simp only [List.append_assoc]
  rw [e1] at h
  have h2 := ins0_P h
  have e2 : ((X ++ B) ++ (N ++ A)) ++ R = (X ++ (B ++ (N ++ A))) ++ R := by simp only [List.append_assoc]
  rw [e2] at h2
  exact h2
theorem ins1_D {P : Nat → Prop} {X B A R N : va_W} (h : va_D P (((X ++ (B ++ A)) ++ R) ++ N)) : va_D P ((X ++ (B ++ (N ++ A))) ++ R) := by
  have e1 : ((X ++ (B ++ A)) ++ R) ++ N = (((X ++ B) ++ A) ++ R) ++ N := by simp only [List.append_assoc]
  rw [e1] at h
  have h2 := ins0_D h
  have e2 : ((X ++ B) ++ (N ++ A)) ++ R = (X ++ (B ++ (N ++ A))) ++ R := by simp only [List.append_assoc]
  rw [e2] at h2
  exact h2
def f_law_S_X48 (xs : Nat → Int32) (L K : Nat) (k107 : Int32 → Int32 → Int32 → Int32 → Int32 → Int32 → tD_ → tS_ → tV_ → tF_ → tR_ → tI_ → tI_ → tY_ → tZ_ → Option Unit) (l2 : Int32) (l3 : Int32) (l5 : Int32) (D_ : tD_) (S_ : tS_) (V_ : tV_) (F_ : tF_) (R_ : tR_) (Y_ : tY_) (zv : tZ_) : Option (Unit) :=
match D_ with
| (dhasSaved, dkeptError, dmoved) =>
match V_ with
| (vkeys, vfirsts, vends, vvalues, vinferred, vgone, vmade) =>
match F_ with
| (fkeys, fdays, famounts, fversions, fcount) =>
match R_ with
| (rkeys, rdays, rvalues, rcount) =>
gp_ (2 : Int32) (45 : Int32) (nm_ (dw_ xs L (2 : Int32) (45 : Int32)) (fun r4 =>
k107  l2 l3 (0 : Int32) (0 : Int32) (5 + r4) (0 : Int32) (dhasSaved, dkeptError, dmoved) () (vkeys, vfirsts, vends, vvalues, vinferred, vgone, vmade) (fkeys, fdays, famounts, fversions, fcount) (rkeys, rdays, rvalues, rcount) (fun _ => 0) (fun _ => 0) () zv))
def f_law_S_S48 (xs : Nat → Int32) (L K : Nat) (kx48 : Int32 → Int32 → Int32 → tD_ → tS_ → tV_ → tF_ → tR_ → tY_ → tZ_ → Option (Unit)) (kl48 : Int32 → Int32 → Int32 → tD_ → tS_ → tV_ → tF_ → tR_ → tY_ → tZ_ → Option (Unit)) (l2 : Int32) (l3 : Int32) (l5 : Int32) (D_ : tD_) (S_ : tS_) (V_ : tV_) (F_ : tF_) (R_ : tR_) (Y_ : tY_) (zv : tZ_) : Option (Unit) :=
match D_ with
| (dhasSaved, dkeptError, dmoved) =>
match V_ with
| (vkeys, vfirsts, vends, vvalues, vinferred, vgone, vmade) =>
match F_ with
| (fkeys, fdays, famounts, fversions, fcount) =>
match R_ with
| (rkeys, rdays, rvalues, rcount) =>
if l2 ≤ l5 then
kx48 l2 l3 l5 (dhasSaved, dkeptError, dmoved) () (vkeys, vfirsts, vends, vvalues, vinferred, vgone, vmade) (fkeys, fdays, famounts, fversions, fcount) (rkeys, rdays, rvalues, rcount) () zv
else
gd_ l5 K (
bd_ (f_L_fill (0 : Int32) (1000 : Int32) (-1 : Int32) (zv l5.toNatClampNeg)) (fun yv14 =>
nm_ ((rup zv l5.toNatClampNeg yv14)) (fun u15 =>
kl48 l2 l3 (l5 + 1) (dhasSaved, dkeptError, dmoved) () (vkeys, vfirsts, vends, vvalues, vinferred, vgone, vmade) (fkeys, fdays, famounts, fversions, fcount) (rkeys, rdays, rvalues, rcount) () u15)))
def f_law_S_L48 (xs : Nat → Int32) (L K : Nat) (kx48 : Int32 → Int32 → Int32 → tD_ → tS_ → tV_ → tF_ → tR_ → tY_ → tZ_ → Option (Unit)) : Nat → Int32 → Int32 → Int32 → tD_ → tS_ → tV_ → tF_ → tR_ → tY_ → tZ_ → Option (Unit)
  | 0 => fun _ _ _ _ _ _ _ _ _ _ => none
  | n + 1 => fun l2 l3 l5 D_ S_ V_ F_ R_ Y_ zv => f_law_S_S48 xs L K kx48 (f_law_S_L48 xs L K kx48 n) l2 l3 l5 D_ S_ V_ F_ R_ Y_ zv
def f_law_S (xs : Nat → Int32) (L K : Nat) (k107 : Int32 → Int32 → Int32 → Int32 → Int32 → Int32 → tD_ → tS_ → tV_ → tF_ → tR_ → tI_ → tI_ → tY_ → tZ_ → Option Unit) (l2 : Int32) (l3 : Int32) (D_ : tD_) (S_ : tS_) (V_ : tV_) (F_ : tF_) (R_ : tR_) (Y_ : tY_) (zv : tZ_) : Option Unit :=
match D_ with
| (dhasSaved, dkeptError, dmoved) =>
match V_ with
| (vkeys, vfirsts, vends, vvalues, vinferred, vgone, vmade) =>
match F_ with
| (fkeys, fdays, famounts, fversions, fcount) =>
match R_ with
| (rkeys, rdays, rvalues, rcount) =>
f_law_S_L48 xs L K (f_law_S_X48 xs L K k107) fu_ l2 l3 (0 : Int32) (dhasSaved, dkeptError, dmoved) () (vkeys, vfirsts, vends, vvalues, vinferred, vgone, vmade) (fkeys, fdays, famounts, fversions, fcount) (rkeys, rdays, rvalues, rcount) () zv
theorem e_law_S_L48 {xs : Nat → Int32} {L K : Nat} {kx48 : Int32 → Int32 → Int32 → tD_ → tS_ → tV_ → tF_ → tR_ → tY_ → tZ_ → Option (Unit)} {n : Nat} {l2 : Int32} {l3 : Int32} {l5 : Int32} {D_ : tD_} {S_ : tS_} {V_ : tV_} {F_ : tF_} {R_ : tR_} {Y_ : tY_} {zv : tZ_} : f_law_S_L48 xs L K kx48 (n + 1) l2 l3 l5 D_ S_ V_ F_ R_ Y_ zv = f_law_S_S48 xs L K kx48 (f_law_S_L48 xs L K kx48 n) l2 l3 l5 D_ S_ V_ F_ R_ Y_ zv := rfl
set_option maxHeartbeats 8000000 in
set_option maxRecDepth 100000 in
theorem seg_S {p : Program} {l : Launch} {e : Env} {s : State} {m : MethodId} {below : List Frame} {meth : Method} {c : Code} {dC : Nat → ClassId} {dI : Nat → Nat → Nat} {cI cZ cC cJ cD cO : ClassId} {b L : Nat} {xs : Nat → Int32} (hst : l.stackTraces = false) (hL : L ≤ 260) (C0 : lw_At p s m meth c b L xs) (hts : ∀ w ∈ wsL_law, w.before #[Value.ref b] s = true) (hZ : Zq_ (fun q : Nat => s.heap.size ≤ q) s s.heap) (hC : Ca_ s) (hK : va_K (dC, dI) vwCl (ty_ cI cZ cC cJ cD) s) (hKo : va_K (dC, dI) vwCl [(cO, .array .int)] s) (d0 s0 z0 b0 q0 t0 v0 f0 r0 v_keys v_firsts v_ends v_values v_inferred v_gone f_keys f_days f_amounts f_versions r_keys r_days r_values y0 : Nat) (K : Nat) (yr : Nat → Nat) (CN SN : Nat) (hCN : CN + 100 ≤ 600390) (hSN : SN + 1000 ≤ 7288080) (R : Unit) (k107 : Int32 → Int32 → Int32 → Int32 → Int32 → Int32 → tD_ → tS_ → tV_ → tF_ → tR_ → tI_ → tI_ → tY_ → tZ_ → Option Unit) (hk107 : ∀ (w0 : Nat) (x0 : Nat) (l2 : Int32) (l3 : Int32) (l7 : Int32) (l8 : Int32) (l9 : Int32) (l10 : Int32) (dhasSaved : Int32) (dkeptError : Int32) (dmoved : Int32) (vkeys : Nat → Int32) (vfirsts : Nat → Int32) (vends : Nat → Int32) (vvalues : Nat → Int32) (vinferred : Nat → Int32) (vgone : Nat → Int32) (vmade : Int32) (fkeys : Nat → Int32) (fdays : Nat → Int32) (famounts : Nat → Int32) (fversions : Nat → Int32) (fcount : Int32) (rkeys : Nat → Int32) (rdays : Nat → Int32) (rvalues : Nat → Int32) (rcount : Int32) (wv : Nat → Int32) (xv : Nat → Int32) (zv : Nat → Nat → Int32) (H : Heap) (locs : List Loc) (ls : Array Slot), k107 l2 l3 l7 l8 l9 l10 (dhasSaved, dkeptError, dmoved) () (vkeys, vfirsts, vends, vvalues, vinferred, vgone, vmade) (fkeys, fdays, famounts, fversions, fcount) (rkeys, rdays, rvalues, rcount) wv xv () zv = some R → va_P (dC, dI) vwCl (((wD_ d0 s0 z0 b0 q0 t0 dhasSaved dkeptError dmoved ++ wS_ s0 v0 f0 r0 ++ wV_ v0 v_keys v_firsts v_ends v_values v_inferred v_gone cI cZ vkeys vfirsts vends vvalues vinferred vgone vmade ++ wF_ f0 f_keys f_days f_amounts f_versions cI fkeys fdays famounts fversions fcount ++ wR_ r0 r_keys r_days r_values cI rkeys rdays rvalues rcount) ++ (wI_ w0 cI 180 wv ++ (wI_ x0 cI 180 xv ++ wY_ y0 cO K yr))) ++ rw_ cI K yr zv) H → va_D (fun q : Nat => s.heap.size ≤ q) (((wD_ d0 s0 z0 b0 q0 t0 dhasSaved dkeptError dmoved ++ wS_ s0 v0 f0 r0 ++ wV_ v0 v_keys v_firsts v_ends v_values v_inferred v_gone cI cZ vkeys vfirsts vends vvalues vinferred vgone vmade ++ wF_ f0 f_keys f_days f_amounts f_versions cI fkeys fdays famounts fversions fcount ++ wR_ r0 r_keys r_days r_values cI rkeys rdays rvalues rcount) ++ (wI_ w0 cI 180 wv ++ (wI_ x0 cI 180 xv ++ wY_ y0 cO K yr))) ++ rw_ cI K yr zv) → va_S (fun q : Nat => s.heap.size ≤ q) s.heap H locs → lv_has ls 22 [(0, .ref b), (1, .ref d0), (2, .int l2), (3, .int l3), (4, .ref y0), (5, .ref w0), (6, .ref x0), (7, .int l7), (8, .int l8), (9, .int l9), (10, .int l10)] → W p l e room_1 s m #[Value.ref b] below meth c H locs (CN + 70) (SN + 420) (lw_Z below #[Value.ref b] s) (F0 m 107 ls [])) (l2 : Int32) (l3 : Int32) (dhasSaved : Int32) (dkeptError : Int32) (dmoved : Int32) (vkeys : Nat → Int32) (vfirsts : Nat → Int32) (vends : Nat → Int32) (vvalues : Nat → Int32) (vinferred : Nat → Int32) (vgone : Nat → Int32) (vmade : Int32) (fkeys : Nat → Int32) (fdays : Nat → Int32) (famounts : Nat → Int32) (fversions : Nat → Int32) (fcount : Int32) (rkeys : Nat → Int32) (rdays : Nat → Int32) (rvalues : Nat → Int32) (rcount : Int32) (zv : Nat → Nat → Int32) (H : Heap) (locs : List Loc) (ls : Array Slot) (hf : f_law_S xs L K k107 l2 l3 (dhasSaved, dkeptError, dmoved) () (vkeys, vfirsts, vends, vvalues, vinferred, vgone, vmade) (fkeys, fdays, famounts, fversions, fcount) (rkeys, rdays, rvalues, rcount) () zv = some R) (hP : va_P (dC, dI) vwCl (((wD_ d0 s0 z0 b0 q0 t0 dhasSaved dkeptError dmoved ++ wS_ s0 v0 f0 r0 ++ wV_ v0 v_keys v_firsts v_ends v_values v_inferred v_gone cI cZ vkeys vfirsts vends vvalues vinferred vgone vmade ++ wF_ f0 f_keys f_days f_amounts f_versions cI fkeys fdays famounts fversions fcount ++ wR_ r0 r_keys r_days r_values cI rkeys rdays rvalues rcount) ++ (wY_ y0 cO K yr ++ [])) ++ rw_ cI K yr zv) H) (hD : va_D (fun q : Nat => s.heap.size ≤ q) (((wD_ d0 s0 z0 b0 q0 t0 dhasSaved dkeptError dmoved ++ wS_ s0 v0 f0 r0 ++ wV_ v0 v_keys v_firsts v_ends v_values v_inferred v_gone cI cZ vkeys vfirsts vends vvalues vinferred vgone vmade ++ wF_ f0 f_keys f_days f_amounts f_versions cI fkeys fdays famounts fversions fcount ++ wR_ r0 r_keys r_days r_values cI rkeys rdays rvalues rcount) ++ (wY_ y0 cO K yr ++ [])) ++ rw_ cI K yr zv)) (hS : va_S (fun q : Nat => s.heap.size ≤ q) s.heap H locs) (hl : lv_has ls 22 [(0, .ref b), (1, .ref d0), (2, .int l2), (3, .int l3), (4, .ref y0)]) : W p l e room_1 s m #[Value.ref b] below meth c H locs (CN + 0) (SN + 0) (lw_Z below #[Value.ref b] s) (F0 m 45 ls []) := by
  obtain ⟨hx, hb, hr, hml, hown, -, hX, hbl, hlocks, -⟩ := C0
  have hown : s.vm.findClass RL = some m.cls := hown
  obtain ⟨hU, hN⟩ := hZ
  have hL31 : L < 2 ^ 31 := by omega
  obtain ⟨A, hAe⟩ : ∃ A : Nat → Prop, A = (fun q : Nat => s.heap.size ≤ q) := ⟨_, rfl⟩
  rw [← hAe] at hD hS hU hN hk107
  have hA : ∀ q : Nat, s.heap.size ≤ q → A q := fun q h => by rw [hAe]; exact h
  have hbA : ¬ A b := by rw [hAe]; exact Nat.not_le.mpr hbl
  unfold f_law_S at hf
  try dsimp only at hf
  refine lv_iconst (v := 0) hx hb dL_law_45 (by decide) ?_
  refine lv_istore (lv' := [(5, .int 0), (0, .ref b), (1, .ref d0), (2, .int l2), (3, .int l3), (4, .ref y0)]) hx hb dL_law_46 hl (by decide) rfl (fun ls hl => ?_)
  have hkx48 : ∀ (l2 : Int32) (l3 : Int32) (l5 : Int32) (dhasSaved : Int32) (dkeptError : Int32) (dmoved : Int32) (vkeys : Nat → Int32) (vfirsts : Nat → Int32) (vends : Nat → Int32) (vvalues : Nat → Int32) (vinferred : Nat → Int32) (vgone : Nat → Int32) (vmade : Int32) (fkeys : Nat → Int32) (fdays : Nat → Int32) (famounts : Nat → Int32) (fversions : Nat → Int32) (fcount : Int32) (rkeys : Nat → Int32) (rdays : Nat → Int32) (rvalues : Nat → Int32) (rcount : Int32) (zv : Nat → Nat → Int32) (H : Heap) (locs : List Loc) (ls : Array Slot), (f_law_S_X48 xs L K k107) l2 l3 l5 (dhasSaved, dkeptError, dmoved) () (vkeys, vfirsts, vends, vvalues, vinferred, vgone, vmade) (fkeys, fdays, famounts, fversions, fcount) (rkeys, rdays, rvalues, rcount) () zv = some R → va_P (dC, dI) vwCl (((wD_ d0 s0 z0 b0 q0 t0 dhasSaved dkeptError dmoved ++ wS_ s0 v0 f0 r0 ++ wV_ v0 v_keys v_firsts v_ends v_values v_inferred v_gone cI cZ vkeys vfirsts vends vvalues vinferred vgone vmade ++ wF_ f0 f_keys f_days f_amounts f_versions cI fkeys fdays famounts fversions fcount ++ wR_ r0 r_keys r_days r_values cI rkeys rdays rvalues rcount) ++ (wY_ y0 cO K yr ++ [])) ++ rw_ cI K yr zv) H → va_D A (((wD_ d0 s0 z0 b0 q0 t0 dhasSaved dkeptError dmoved ++ wS_ s0 v0 f0 r0 ++ wV_ v0 v_keys v_firsts v_ends v_values v_inferred v_gone cI cZ vkeys vfirsts vends vvalues vinferred vgone vmade ++ wF_ f0 f_keys f_days f_amounts f_versions cI fkeys fdays famounts fversions fcount ++ wR_ r0 r_keys r_days r_values cI rkeys rdays rvalues rcount) ++ (wY_ y0 cO K yr ++ [])) ++ rw_ cI K yr zv) → va_S A s.heap H locs → lv_has ls 22 [(0, .ref b), (1, .ref d0), (2, .int l2), (3, .int l3), (4, .ref y0), (5, .int l5)] → W p l e room_1 s m #[Value.ref b] below meth c H locs (CN + 0) (SN + 0) (lw_Z below #[Value.ref b] s) (F0 m 73 ls []) := by
    intro l2 l3 l5 dhasSaved dkeptError dmoved vkeys vfirsts vends vvalues vinferred vgone vmade fkeys fdays famounts fversions fcount rkeys rdays rvalues rcount zv H locs ls hf hP hD hS hl
    unfold f_law_S_X48 at hf
    try dsimp only at hf
    refine lv_sipush (v := 180) hx hb dL_law_73 (by decide) ?_
    refine va_newa (atype := .int) (ty := .int) (N' := 180) (a0 := (180, .inl (fun _ => 0))) hx hb (hts _ (List.mem_of_getElem? (i := 4) rfl)) rfl hK hP hD hS hA (fun _ => rfl) (by decide) rfl (Nat.le_of_ble_eq_true rfl) (by show _ ≤ 600390; omega) (by show _ ≤ 7288080; omega) dL_law_76 (fun w0 cA H1 hK hP hD hS => ?_)
    have e9 := same_ hK 0 5 rfl rfl (fun _ h => nomatch h)
    subst e9
    have hK : va_K (dC, dI) vwCl (ty_ cI cZ cC cJ cD) s := hK.sub (tys' := (ty_ cI cZ cC cJ cD)) [0, 1, 2, 3, 4] rfl
    have hP := ins0_P hP
    have hD := ins0_D hD
    have hP : va_P (dC, dI) vwCl (((wD_ d0 s0 z0 b0 q0 t0 dhasSaved dkeptError dmoved ++ wS_ s0 v0 f0 r0 ++ wV_ v0 v_keys v_firsts v_ends v_values v_inferred v_gone cI cZ vkeys vfirsts vends vvalues vinferred vgone vmade ++ wF_ f0 f_keys f_days f_amounts f_versions cI fkeys fdays famounts fversions fcount ++ wR_ r0 r_keys r_days r_values cI rkeys rdays rvalues rcount) ++ (wI_ w0 cI 180 (fun _ => 0) ++ (wY_ y0 cO K yr))) ++ rw_ cI K yr zv) H1 := hP
    have hD : va_D A (((wD_ d0 s0 z0 b0 q0 t0 dhasSaved dkeptError dmoved ++ wS_ s0 v0 f0 r0 ++ wV_ v0 v_keys v_firsts v_ends v_values v_inferred v_gone cI cZ vkeys vfirsts vends vvalues vinferred vgone vmade ++ wF_ f0 f_keys f_days f_amounts f_versions cI fkeys fdays famounts fversions fcount ++ wR_ r0 r_keys r_days r_values cI rkeys rdays rvalues rcount) ++ (wI_ w0 cI 180 (fun _ => 0) ++ (wY_ y0 cO K yr))) ++ rw_ cI K yr zv) := hD
    refine W.widen (k := CN + 30) (n := SN + 180) (by omega) (by omega) ?_
    refine lv_astore (lv' := [(5, .ref w0), (0, .ref b), (1, .ref d0), (2, .int l2), (3, .int l3), (4, .ref y0)]) hx hb dL_law_78 hl (by decide) rfl (fun ls hl => ?_)
    refine lv_sipush (v := 180) hx hb dL_law_80 (by decide) ?_
    refine va_newa (atype := .int) (ty := .int) (N' := 180) (a0 := (180, .inl (fun _ => 0))) hx hb (hts _ (List.mem_of_getElem? (i := 4) rfl)) rfl hK hP hD hS hA (fun _ => rfl) (by decide) rfl (Nat.le_of_ble_eq_true rfl) (by show _ ≤ 600390; omega) (by show _ ≤ 7288080; omega) dL_law_83 (fun x0 cA H2 hK hP hD hS => ?_)
    have e9 := same_ hK 0 5 rfl rfl (fun _ h => nomatch h)
    subst e9
    have hK : va_K (dC, dI) vwCl (ty_ cI cZ cC cJ cD) s := hK.sub (tys' := (ty_ cI cZ cC cJ cD)) [0, 1, 2, 3, 4] rfl
    have hP := ins1_P hP
    have hD := ins1_D hD
    have hP : va_P (dC, dI) vwCl (((wD_ d0 s0 z0 b0 q0 t0 dhasSaved dkeptError dmoved ++ wS_ s0 v0 f0 r0 ++ wV_ v0 v_keys v_firsts v_ends v_values v_inferred v_gone cI cZ vkeys vfirsts vends vvalues vinferred vgone vmade ++ wF_ f0 f_keys f_days f_amounts f_versions cI fkeys fdays famounts fversions fcount ++ wR_ r0 r_keys r_days r_values cI rkeys rdays rvalues rcount) ++ (wI_ w0 cI 180 (fun _ => 0) ++ (wI_ x0 cI 180 (fun _ => 0) ++ wY_ y0 cO K yr))) ++ rw_ cI K yr zv) H2 := hP
    have hD : va_D A (((wD_ d0 s0 z0 b0 q0 t0 dhasSaved dkeptError dmoved ++ wS_ s0 v0 f0 r0 ++ wV_ v0 v_keys v_firsts v_ends v_values v_inferred v_gone cI cZ vkeys vfirsts vends vvalues vinferred vgone vmade ++ wF_ f0 f_keys f_days f_amounts f_versions cI fkeys fdays famounts fversions fcount ++ wR_ r0 r_keys r_days r_values cI rkeys rdays rvalues rcount) ++ (wI_ w0 cI 180 (fun _ => 0) ++ (wI_ x0 cI 180 (fun _ => 0) ++ wY_ y0 cO K yr))) ++ rw_ cI K yr zv) := hD
    refine W.widen (k := CN + 60) (n := SN + 360) (by omega) (by omega) ?_
    refine lv_astore (lv' := [(6, .ref x0), (5, .ref w0), (0, .ref b), (1, .ref d0), (2, .int l2), (3, .int l3), (4, .ref y0)]) hx hb dL_law_85 hl (by decide) rfl (fun ls hl => ?_)
    refine lv_iconst (v := 0) hx hb dL_law_87 (by decide) ?_
    refine lv_istore (lv' := [(7, .int 0), (6, .ref x0), (5, .ref w0), (0, .ref b), (1, .ref d0), (2, .int l2), (3, .int l3), (4, .ref y0)]) hx hb dL_law_88 hl (by decide) rfl (fun ls hl => ?_)
    refine lv_iconst (v := 0) hx hb dL_law_90 (by decide) ?_
    refine lv_istore (lv' := [(8, .int 0), (7, .int 0), (6, .ref x0), (5, .ref w0), (0, .ref b), (1, .ref d0), (2, .int l2), (3, .int l3), (4, .ref y0)]) hx hb dL_law_91 hl (by decide) rfl (fun ls hl => ?_)
    refine lv_iconst (v := 5) hx hb dL_law_93 (by decide) ?_
    refine lv_aload_n hx hb dL_law_94 rfl (lv_at hl 4 rfl) ?_
    refine lv_iconst (v := 2) hx hb dL_law_95 (by decide) ?_
    refine lv_bipush (v := 45) hx hb dL_law_96 (by decide) ?_
    obtain ⟨h3, hf⟩ := gp_T hf
    have hF9 : ∀ q : Nat, H2.size ≤ q → A q := fun q h => hA q (Nat.le_trans hS.1 h)
    refine va_calli (va_runS (As := [.ref b, .int 2, .int 45]) (rest := [.int 5]) ⟨hx, hb, hml, hown, hts⟩ (c_L_draw l b L xs H2.size (2 : Int32) (45 : Int32) h3 hL31) (cwS 3 hts gL_law_L_draw rfl rfl rfl hs_L_draw ⟨Nat.le_of_ble_eq_true rfl, Nat.le_of_ble_eq_true rfl⟩) (preX_ hX hbl hbA hS rfl) rfl rfl hl.1 rfl (lv_room (Nat.le_of_ble_eq_true rfl)) dL_law_98 ⟨by show _ ≤ 600390; omega, by show _ ≤ 7288080; omega⟩) hS (fun q _ h => hF9 q h) hF9 (fun z5 u t H7 locs ht hvm hw hB hz1 hk1 hS => ?_)
    have hP : va_P (dC, dI) vwCl (((wD_ d0 s0 z0 b0 q0 t0 dhasSaved dkeptError dmoved ++ wS_ s0 v0 f0 r0 ++ wV_ v0 v_keys v_firsts v_ends v_values v_inferred v_gone cI cZ vkeys vfirsts vends vvalues vinferred vgone vmade ++ wF_ f0 f_keys f_days f_amounts f_versions cI fkeys fdays famounts fversions fcount ++ wR_ r0 r_keys r_days r_values cI rkeys rdays rvalues rcount) ++ (wI_ w0 cI 180 (fun _ => 0) ++ (wI_ x0 cI 180 (fun _ => 0) ++ wY_ y0 cO K yr))) ++ rw_ cI K yr zv) H7 := hP.kept (fun k q hq => hk1 q.1 (hP k q hq).lt (Nat.not_le.mpr (hP k q hq).lt))
    obtain ⟨r4, e6, hf⟩ := nm_T hf
    have hw : r4 = z5 := e6.trans hw.symm
    subst hw
    refine lv_iadd hx hb dL_law_101 ?_
    refine lv_istore (lv' := [(9, .int (5 + r4)), (8, .int 0), (7, .int 0), (6, .ref x0), (5, .ref w0), (0, .ref b), (1, .ref d0), (2, .int l2), (3, .int l3), (4, .ref y0)]) hx hb dL_law_102 hl (by decide) rfl (fun ls hl => ?_)
    refine lv_iconst (v := 0) hx hb dL_law_104 (by decide) ?_
    refine lv_istore (lv' := [(10, .int 0), (9, .int (5 + r4)), (8, .int 0), (7, .int 0), (6, .ref x0), (5, .ref w0), (0, .ref b), (1, .ref d0), (2, .int l2), (3, .int l3), (4, .ref y0)]) hx hb dL_law_105 hl (by decide) rfl (fun ls hl => ?_)
    refine W.widen (k := CN + 70) (n := SN + 420) (by omega) (by omega) ?_
    exact hk107 w0 x0 l2 l3 (0 : Int32) (0 : Int32) (5 + r4) (0 : Int32) dhasSaved dkeptError dmoved vkeys vfirsts vends vvalues vinferred vgone vmade fkeys fdays famounts fversions fcount rkeys rdays rvalues rcount (fun _ => 0) (fun _ => 0) zv _ _ _ hf hP hD hS (lv_sub hl [6, 7, 8, 9, 10, 5, 4, 3, 2, 1, 0] rfl)
  have lp48 : ∀ (n : Nat) (l2 : Int32) (l3 : Int32) (l5 : Int32) (dhasSaved : Int32) (dkeptError : Int32) (dmoved : Int32) (vkeys : Nat → Int32) (vfirsts : Nat → Int32) (vends : Nat → Int32) (vvalues : Nat → Int32) (vinferred : Nat → Int32) (vgone : Nat → Int32) (vmade : Int32) (fkeys : Nat → Int32) (fdays : Nat → Int32) (famounts : Nat → Int32) (fversions : Nat → Int32) (fcount : Int32) (rkeys : Nat → Int32) (rdays : Nat → Int32) (rvalues : Nat → Int32) (rcount : Int32) (zv : Nat → Nat → Int32) (H : Heap) (locs : List Loc) (ls : Array Slot), f_law_S_L48 xs L K (f_law_S_X48 xs L K k107) n l2 l3 l5 (dhasSaved, dkeptError, dmoved) () (vkeys, vfirsts, vends, vvalues, vinferred, vgone, vmade) (fkeys, fdays, famounts, fversions, fcount) (rkeys, rdays, rvalues, rcount) () zv = some R → va_P (dC, dI) vwCl (((wD_ d0 s0 z0 b0 q0 t0 dhasSaved dkeptError dmoved ++ wS_ s0 v0 f0 r0 ++ wV_ v0 v_keys v_firsts v_ends v_values v_inferred v_gone cI cZ vkeys vfirsts vends vvalues vinferred vgone vmade ++ wF_ f0 f_keys f_days f_amounts f_versions cI fkeys fdays famounts fversions fcount ++ wR_ r0 r_keys r_days r_values cI rkeys rdays rvalues rcount) ++ (wY_ y0 cO K yr ++ [])) ++ rw_ cI K yr zv) H → va_D A (((wD_ d0 s0 z0 b0 q0 t0 dhasSaved dkeptError dmoved ++ wS_ s0 v0 f0 r0 ++ wV_ v0 v_keys v_firsts v_ends v_values v_inferred v_gone cI cZ vkeys vfirsts vends vvalues vinferred vgone vmade ++ wF_ f0 f_keys f_days f_amounts f_versions cI fkeys fdays famounts fversions fcount ++ wR_ r0 r_keys r_days r_values cI rkeys rdays rvalues rcount) ++ (wY_ y0 cO K yr ++ [])) ++ rw_ cI K yr zv) → va_S A s.heap H locs → lv_has ls 22 [(0, .ref b), (1, .ref d0), (2, .int l2), (3, .int l3), (4, .ref y0), (5, .int l5)] → W p l e room_1 s m #[Value.ref b] below meth c H locs (CN + 0) (SN + 0) (lw_Z below #[Value.ref b] s) (F0 m 48 ls []) := by
    intro n
    induction n with
    | zero => intro l2 l3 l5 dhasSaved dkeptError dmoved vkeys vfirsts vends vvalues vinferred vgone vmade fkeys fdays famounts fversions fcount rkeys rdays rvalues rcount zv H locs ls hf hP hD hS hl; exact absurd hf (fun h => nomatch h)
    | succ n ih =>
      intro l2 l3 l5 dhasSaved dkeptError dmoved vkeys vfirsts vends vvalues vinferred vgone vmade fkeys fdays famounts fversions fcount rkeys rdays rvalues rcount zv H locs ls hf hP hD hS hl
      have hf : f_law_S_S48 xs L K (f_law_S_X48 xs L K k107) (f_law_S_L48 xs L K (f_law_S_X48 xs L K k107) n) l2 l3 l5 (dhasSaved, dkeptError, dmoved) () (vkeys, vfirsts, vends, vvalues, vinferred, vgone, vmade) (fkeys, fdays, famounts, fversions, fcount) (rkeys, rdays, rvalues, rcount) () zv = some R := hf
      generalize f_law_S_L48 xs L K (f_law_S_X48 xs L K k107) n = kl48 at hf ih
      generalize (f_law_S_X48 xs L K k107) = kx48 at hf hkx48
      unfold f_law_S_S48 at hf
      try dsimp only at hf
      refine lv_iload hx hb dL_law_48 (lv_at hl 5 rfl) ?_
      refine lv_iload_n hx hb dL_law_50 rfl (lv_at hl 2 rfl) ?_
      refine lv_icmp_ge (tgt := 73) hx hb dL_law_51 (by decide) (fun c8 => ?_) (fun c8 => ?_)
      · have hf := ite_T c8 hf
        exact hkx48 l2 l3 l5 dhasSaved dkeptError dmoved vkeys vfirsts vends vvalues vinferred vgone vmade fkeys fdays famounts fversions fcount rkeys rdays rvalues rcount zv _ _ _ hf hP hD hS (lv_sub hl [0, 1, 2, 3, 4, 5] rfl)
      · have hf := ite_F c8 hf
        refine lv_aload hx hb dL_law_54 (lv_at hl 4 rfl) ?_
        refine lv_iload hx hb dL_law_56 (lv_at hl 5 rfl) ?_
        obtain ⟨h9, hf⟩ := gd_T hf
        refine ald_Y hx hb hKo hP 18 0 rfl rfl h9 dL_law_58 ?_
        refine lv_iconst (v := 0) hx hb dL_law_59 (by decide) ?_
        refine lv_sipush (v := 1000) hx hb dL_law_60 (by decide) ?_
        refine lv_iconst (v := (-1)) hx hb dL_law_63 (by decide) ?_
        obtain ⟨R10, g11, hf⟩ := bd_B hf
        obtain ⟨yv14, rfl⟩ : ∃ z, z = R10 := ⟨_, rfl⟩
        have hPc : va_P (dC, dI) vwCl (wI_ (yr l5.toNatClampNeg) cI 1000 (zv l5.toNatClampNeg)) H := P_mem hP (row_m (in_lt h9))
        have hDc : va_D A (wI_ (yr l5.toNatClampNeg) cI 1000 (zv l5.toNatClampNeg)) := row_D hD (in_lt h9)
        have hFc := F_of hDc hS hA
        refine va_callv (va_runS (As := [.ref (yr l5.toNatClampNeg), .int 0, .int 1000, .int (-1)]) (rest := []) ⟨hx, hb, hml, hown, hts⟩ (c_L_fill l dC dI cI cZ cC cJ cD (yr l5.toNatClampNeg) H.size (zv l5.toNatClampNeg) (0 : Int32) (1000 : Int32) (-1 : Int32) yv14 g11) (cwS 4 hts gL_law_L_fill rfl rfl rfl hs_L_fill ⟨Nat.le_of_ble_eq_true rfl, Nat.le_of_ble_eq_true rfl⟩) (preS_ hPc hK hDc rfl) rfl rfl hl.1 rfl (lv_room (Nat.le_of_ble_eq_true rfl)) dL_law_64 ⟨by show _ ≤ 600390; omega, by show _ ≤ 7288080; omega⟩) hS (fun q _ h => hFc q h) hFc (fun u t H12 locs ht hvm hw hB hz1 hk1 hS => ?_)
        obtain ⟨hP, hD⟩ := rowA_ (new := yv14) hP hD (in_lt h9) hk1 hB ht
        obtain ⟨u15, e16, hf⟩ := nm_T hf
        rw [← e16] at hP hD
        refine lv_iinc (v := l5 + 1) (lv' := [(5, .int (l5 + 1)), (0, .ref b), (1, .ref d0), (2, .int l2), (3, .int l3), (4, .ref y0)]) hx hb dL_law_67 hl (k := 5) rfl (by first | rfl | decide) (by decide) rfl (fun ls hl => ?_)
        refine lv_goto (tgt := 48) hx hb dL_law_70 (by decide) ?_
        exact ih l2 l3 (l5 + 1) dhasSaved dkeptError dmoved vkeys vfirsts vends vvalues vinferred vgone vmade fkeys fdays famounts fversions fcount rkeys rdays rvalues rcount u15 _ _ _ hf hP hD hS (lv_sub hl [1, 2, 3, 4, 5, 0] rfl)
  exact lp48 fu_ l2 l3 (0 : Int32) dhasSaved dkeptError dmoved vkeys vfirsts vends vvalues vinferred vgone vmade fkeys fdays famounts fversions fcount rkeys rdays rvalues rcount zv _ _ _ hf hP hD hS (lv_sub hl [1, 2, 3, 4, 5, 0] rfl)
