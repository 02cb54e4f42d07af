def f_L_next_S4 (k_ : Int32 → Int32 → tI_ → Option (Int32)) (l2 : Int32) (l1 : Int32) (yv : tI_) : Option (Int32) :=
if 1000 ≤ l2 then
some l2
else
gd_ l2 1000 (
if 0 ≤ (yv l2.toNatClampNeg) then
some l2
else
k_ (l2 + 1) l1 yv)
def f_L_next_L4 : Nat → Int32 → Int32 → tI_ → Option (Int32)
  | 0 => fun _ _ _ => none
  | n + 1 => fun l2 l1 yv => f_L_next_S4 (f_L_next_L4 n) l2 l1 yv
def f_L_next (a2 : Int32) (yv : tI_) : Option (Int32) :=
f_L_next_L4 fu_ (a2 + 1) a2 yv
abbrev rm_L_next : Room := { frames := 0, cells := 0, slots := 0, locals := 0 }
set_option maxHeartbeats 4000000 in
set_option maxRecDepth 100000 in
theorem c_L_next (l : Launch) (dC : Nat → ClassId) (dI : Nat → Nat → Nat) (cI cZ cC cJ cD : ClassId) (y0 : Nat) (sz : Nat) (yv : Nat → Int32) (a2 : Int32) (R : Int32) (hf : f_L_next a2 yv = some R) : Met l yL_next wsL_next rm_L_next (Pc_ (dC, dI) (ty_ cI cZ cC cJ cD) (wI_ y0 cI 1000 yv) sz [.ref y0, .int a2]) (Qi_ (dC, dI) (ty_ cI cZ cC cJ cD) R (wI_ y0 cI 1000 yv) (va_A (wI_ y0 cI 1000 yv) sz)) 0 0 (va_A (wI_ y0 cI 1000 yv) sz) := by
  refine met_ (cc := cL_next) (maxL := 3) (ret := (some .int)) (Qcf := fun A => Qi_ (dC, dI) (ty_ cI cZ cC cJ cD) R (wI_ y0 cI 1000 yv) A) (by decide) rfl (Nat.le_of_ble_eq_true rfl) ?_
  intro p e s m args below meth c A ls hx hb hr hts hown hlocks hml hA hP hK hD hl
  have hown : s.vm.findClass RL = some m.cls := hown
  have hl : lv_has ls 3 [(0, .ref y0), (1, .int a2)] := hl
  have hS : va_S A s.heap s.heap [] := va_S.rf
  unfold f_L_next at hf
  refine lv_iload_n hx hb dL_next_0 rfl (lv_at hl 1 rfl) ?_
  refine lv_iconst (v := 1) hx hb dL_next_1 (by decide) ?_
  refine lv_iadd hx hb dL_next_2 ?_
  refine lv_istore_n (lv' := [(2, .int (a2 + 1)), (0, .ref y0), (1, .int a2)]) hx hb dL_next_3 rfl hl (by decide) rfl (fun ls hl => ?_)
  have lp4 : ∀ (n : Nat) (l2 : Int32) (l1 : Int32) (yv : Nat → Int32) (H1 : Heap) (locs : List Loc) (ls : Array Slot), f_L_next_L4 n l2 l1 yv = some R → va_P (dC, dI) vwCl (wI_ y0 cI 1000 yv) H1 → va_D A (wI_ y0 cI 1000 yv) → va_S A s.heap H1 locs → lv_has ls 3 [(2, .int l2), (0, .ref y0), (1, .int l1)] → W p l e (headSpec wsL_next rm_L_next).room s m args below meth c H1 locs 0 0 (MQ below (Qi_ (dC, dI) (ty_ cI cZ cC cJ cD) R (wI_ y0 cI 1000 yv) A) args s 0 0 A) (F0 m 4 ls []) := by
    intro n
    induction n with
    | zero => intro l2 l1 yv H1 locs ls hf hP hD hS hl; exact absurd hf (by simp [f_L_next_L4])
    | succ n ih =>
      intro l2 l1 yv H1 locs ls hf hP hD hS hl
      have hf : f_L_next_S4 (f_L_next_L4 n) l2 l1 yv = some R := hf
      unfold f_L_next_S4 at hf
      refine lv_iload_n hx hb dL_next_4 rfl (lv_at hl 0 rfl) ?_
      refine lv_sipush (v := 1000) hx hb dL_next_5 (by decide) ?_
      refine lv_icmp_ge (tgt := 23) hx hb dL_next_8 (by decide) (fun c2 => ?_) (fun c2 => ?_)
      · have hf := ite_T c2 hf
        refine lv_iload_n hx hb dL_next_23 rfl (lv_at hl 0 rfl) ?_
        have hR := Option.some.inj hf
        subst hR
        exact W.iret (v := l2) hx hb hr (fun t ht hW => ⟨⟨l2, (), rfl, rfl, by rw [ht]; exact hP, va_K.moved hW.alike hK, hD⟩, hS.F ht⟩) hS.2.2 dL_next_24
      · have hf := ite_F c2 hf
        refine lv_aload_n hx hb dL_next_11 rfl (lv_at hl 1 rfl) ?_
        refine lv_iload_n hx hb dL_next_12 rfl (lv_at hl 0 rfl) ?_
        obtain ⟨h3, hf⟩ := gd_T hf
        refine va_iald hx hb hK hP 0 0 rfl rfl h3 dL_next_13 ?_
        refine lv_if_ge (tgt := 23) hx hb dL_next_14 (by decide) (fun c4 => ?_) (fun c4 => ?_)
        · have hf := ite_T c4 hf
          refine lv_iload_n hx hb dL_next_23 rfl (lv_at hl 0 rfl) ?_
          have hR := Option.some.inj hf
          subst hR
          exact W.iret (v := l2) hx hb hr (fun t ht hW => ⟨⟨l2, (), rfl, rfl, by rw [ht]; exact hP, va_K.moved hW.alike hK, hD⟩, hS.F ht⟩) hS.2.2 dL_next_24
        · have hf := ite_F c4 hf
          refine lv_iinc (v := l2 + 1) (lv' := [(2, .int (l2 + 1)), (0, .ref y0), (1, .int l1)]) hx hb dL_next_17 hl (k := 0) rfl (by first | rfl | decide) (by decide) rfl (fun ls hl => ?_)
          refine lv_goto (tgt := 4) hx hb dL_next_20 (by decide) ?_
          exact ih (l2 + 1) l1 yv _ _ _ hf hP hD hS (lv_sub hl [0, 1, 2] rfl)
  exact lp4 fu_ (a2 + 1) a2 yv _ _ _ hf hP hD hS hl
theorem hs_L_next : yL_next.cls = RL ∧ yL_next.cls ≠ "java/lang/invoke/MethodHandle" ∧ yL_next.cls ≠ "java/lang/invoke/VarHandle" ∧ (parseMethodDescriptor yL_next.desc).map (fun d => d.parameters.length) = some 2 := by decide +kernel
def f_L_fill_S3 (k_ : Int32 → Int32 → Int32 → Int32 → tI_ → Option (tI_)) (l4 : Int32) (l1 : Int32) (l2 : Int32) (l3 : Int32) (yv : tI_) : Option (tI_) :=
if l2 ≤ l4 then
some yv
else
gd_ l4 1000 (nm_ (upd yv l4.toNatClampNeg l3) (fun u5 =>
k_ (l4 + 1) l1 l2 l3 u5))
def f_L_fill_L3 : Nat → Int32 → Int32 → Int32 → Int32 → tI_ → Option (tI_)
  | 0 => fun _ _ _ _ _ => none
  | n + 1 => fun l4 l1 l2 l3 yv => f_L_fill_S3 (f_L_fill_L3 n) l4 l1 l2 l3 yv
def f_L_fill (a2 : Int32) (a3 : Int32) (a4 : Int32) (yv : tI_) : Option (tI_) :=
f_L_fill_L3 fu_ a2 a2 a3 a4 yv
abbrev rm_L_fill : Room := { frames := 0, cells := 0, slots := 0, locals := 0 }
set_option maxHeartbeats 4000000 in
set_option maxRecDepth 100000 in
theorem c_L_fill (l : Launch) (dC : Nat → ClassId) (dI : Nat → Nat → Nat) (cI cZ cC cJ cD : ClassId) (y0 : Nat) (sz : Nat) (yv : Nat → Int32) (a2 : Int32) (a3 : Int32) (a4 : Int32) (R : tI_) (hf : f_L_fill a2 a3 a4 yv = some R) : Met l yL_fill wsL_fill rm_L_fill (Pc_ (dC, dI) (ty_ cI cZ cC cJ cD) (wI_ y0 cI 1000 yv) sz [.ref y0, .int a2, .int a3, .int a4]) (Qv_ (dC, dI) (ty_ cI cZ cC cJ cD) (wI_ y0 cI 1000 R) (va_A (wI_ y0 cI 1000 yv) sz)) 0 0 (va_A (wI_ y0 cI 1000 yv) sz) := by
  refine met_ (cc := cL_fill) (maxL := 5) (ret := none) (Qcf := fun A => Qv_ (dC, dI) (ty_ cI cZ cC cJ cD) (wI_ y0 cI 1000 R) A) (by decide) rfl (Nat.le_of_ble_eq_true rfl) ?_
  intro p e s m args below meth c A ls hx hb hr hts hown hlocks hml hA hP hK hD hl
  have hown : s.vm.findClass RL = some m.cls := hown
  have hl : lv_has ls 5 [(0, .ref y0), (1, .int a2), (2, .int a3), (3, .int a4)] := hl
  have hS : va_S A s.heap s.heap [] := va_S.rf
  unfold f_L_fill at hf
  refine lv_iload_n hx hb dL_fill_0 rfl (lv_at hl 1 rfl) ?_
  refine lv_istore (lv' := [(4, .int a2), (0, .ref y0), (1, .int a2), (2, .int a3), (3, .int a4)]) hx hb dL_fill_1 hl (by decide) rfl (fun ls hl => ?_)
  have lp3 : ∀ (n : Nat) (l4 : Int32) (l1 : Int32) (l2 : Int32) (l3 : Int32) (yv : Nat → Int32) (H1 : Heap) (locs : List Loc) (ls : Array Slot), f_L_fill_L3 n l4 l1 l2 l3 yv = some R → va_P (dC, dI) vwCl (wI_ y0 cI 1000 yv) H1 → va_D A (wI_ y0 cI 1000 yv) → va_S A s.heap H1 locs → lv_has ls 5 [(4, .int l4), (0, .ref y0), (1, .int l1), (2, .int l2), (3, .int l3)] → W p l e (headSpec wsL_fill rm_L_fill).room s m args below meth c H1 locs 0 0 (MQ below (Qv_ (dC, dI) (ty_ cI cZ cC cJ cD) (wI_ y0 cI 1000 R) A) args s 0 0 A) (F0 m 3 ls []) := by
    intro n
    induction n with
    | zero => intro l4 l1 l2 l3 yv H1 locs ls hf hP hD hS hl; exact absurd hf (by simp [f_L_fill_L3])
    | succ n ih =>
      intro l4 l1 l2 l3 yv H1 locs ls hf hP hD hS hl
      have hf : f_L_fill_S3 (f_L_fill_L3 n) l4 l1 l2 l3 yv = some R := hf
      unfold f_L_fill_S3 at hf
      refine lv_iload hx hb dL_fill_3 (lv_at hl 0 rfl) ?_
      refine lv_iload_n hx hb dL_fill_5 rfl (lv_at hl 3 rfl) ?_
      refine lv_icmp_ge (tgt := 20) hx hb dL_fill_6 (by decide) (fun c2 => ?_) (fun c2 => ?_)
      · have hf := ite_T c2 hf
        have hR := Option.some.inj hf
        subst hR
        exact W.vret hx hb hr (fun t ht hW => ⟨⟨(), rfl, trivial, by rw [ht]; exact hP, va_K.moved hW.alike hK, hD⟩, hS.F ht⟩) hS.2.2 dL_fill_20
      · have hf := ite_F c2 hf
        refine lv_aload_n hx hb dL_fill_9 rfl (lv_at hl 1 rfl) ?_
        refine lv_iload hx hb dL_fill_10 (lv_at hl 0 rfl) ?_
        refine lv_iload_n hx hb dL_fill_12 rfl (lv_at hl 4 rfl) ?_
        obtain ⟨h3, hf⟩ := gd_T hf
        refine va_iast hx hb hK hP hD hS 0 0 rfl rfl h3 dL_fill_13 (fun H4 locs hP hD hS => ?_)
        have hP : va_P (dC, dI) vwCl (wI_ y0 cI 1000 (upd yv l4.toNatClampNeg l3)) H4 := hP
        have hD : va_D A (wI_ y0 cI 1000 (upd yv l4.toNatClampNeg l3)) := hD
        obtain ⟨u5, e6, hf⟩ := nm_T hf
        rw [← e6] at hP hD
        refine lv_iinc (v := l4 + 1) (lv' := [(4, .int (l4 + 1)), (0, .ref y0), (1, .int l1), (2, .int l2), (3, .int l3)]) hx hb dL_fill_14 hl (k := 0) rfl (by first | rfl | decide) (by decide) rfl (fun ls hl => ?_)
        refine lv_goto (tgt := 3) hx hb dL_fill_17 (by decide) ?_
        exact ih (l4 + 1) l1 l2 l3 u5 _ _ _ hf hP hD hS (lv_sub hl [0, 1, 2, 3, 4] rfl)
  exact lp3 fu_ a2 a2 a3 a4 yv _ _ _ hf hP hD hS hl
theorem hs_L_fill : yL_fill.cls = RL ∧ yL_fill.cls ≠ "java/lang/invoke/MethodHandle" ∧ yL_fill.cls ≠ "java/lang/invoke/VarHandle" ∧ (parseMethodDescriptor yL_fill.desc).map (fun d => d.parameters.length) = some 4 := by decide +kernel
def f_L_change_S79 (k_ : Int32 → Int32 → Int32 → Int32 → Int32 → Int32 → tI_ → tI_ → Option (Int32 × tI_ × tI_)) (l7 : Int32) (l6 : Int32) (l2 : Int32) (l3 : Int32) (l4 : Int32) (l5 : Int32) (yv : tI_) (wv : tI_) : Option (Int32 × tI_ × tI_) :=
if 1000 ≤ l7 then
bd_ (f_L_fill l4 l7 l2 yv) (fun yv65 =>
gd_ (3 * l2) 180 (nm_ (upd wv ((3 * l2).toNatClampNeg) l5) (fun u72 =>
gd_ ((3 * l2) + 1) 180 (nm_ (upd u72 (((3 * l2) + 1).toNatClampNeg) (0 : Int32)) (fun u76 =>
gd_ ((3 * l2) + 2) 180 (nm_ (upd u76 (((3 * l2) + 2).toNatClampNeg) l3) (fun u80 =>
some (l2 + 1, yv65, u80))))))))
else
gd_ l7 1000 (
if (yv l7.toNatClampNeg) = l6 then
k_ (l7 + 1) l6 l2 l3 l4 l5 yv wv
else
bd_ (f_L_fill l4 l7 l2 yv) (fun yv84 =>
gd_ (3 * l2) 180 (nm_ (upd wv ((3 * l2).toNatClampNeg) l5) (fun u91 =>
gd_ ((3 * l2) + 1) 180 (nm_ (upd u91 (((3 * l2) + 1).toNatClampNeg) (0 : Int32)) (fun u95 =>
gd_ ((3 * l2) + 2) 180 (nm_ (upd u95 (((3 * l2) + 2).toNatClampNeg) l3) (fun u99 =>
some (l2 + 1, yv84, u99)))))))))
def f_L_change_L79 : Nat → Int32 → Int32 → Int32 → Int32 → Int32 → Int32 → tI_ → tI_ → Option (Int32 × tI_ × tI_)
  | 0 => fun _ _ _ _ _ _ _ _ => none
  | n + 1 => fun l7 l6 l2 l3 l4 l5 yv wv => f_L_change_S79 (f_L_change_L79 n) l7 l6 l2 l3 l4 l5 yv wv
def f_L_change (a3 : Int32) (a4 : Int32) (a5 : Int32) (a6 : Int32) (yv : tI_) (wv : tI_) : Option (Int32 × tI_ × tI_) :=
gd_ a5 1000 (
if (yv a5.toNatClampNeg) < 0 then
if (yv a5.toNatClampNeg) < 0 then
bd_ (f_L_next a5 yv) (fun r4 =>
if 1000 ≤ r4 then
bd_ (f_L_fill a5 r4 a3 yv) (fun yv10 =>
gd_ (3 * a3) 180 (nm_ (upd wv ((3 * a3).toNatClampNeg) a6) (fun u17 =>
gd_ ((3 * a3) + 1) 180 (nm_ (upd u17 (((3 * a3) + 1).toNatClampNeg) (0 : Int32)) (fun u21 =>
gd_ ((3 * a3) + 2) 180 (nm_ (upd u21 (((3 * a3) + 2).toNatClampNeg) a4) (fun u25 =>
some (a3 + 1, yv10, u25))))))))
else
gd_ r4 1000 (
gd_ ((3 * (yv r4.toNatClampNeg)) + 1) 180 (
if (wv ((3 * (yv r4.toNatClampNeg)) + 1).toNatClampNeg) = 1 then
gd_ r4 1000 (
bd_ (f_L_fill a5 r4 (yv r4.toNatClampNeg) yv) (fun yv48 =>
gd_ (3 * (yv r4.toNatClampNeg)) 180 (nm_ (upd wv ((3 * (yv r4.toNatClampNeg)).toNatClampNeg) a6) (fun u55 =>
gd_ ((3 * (yv r4.toNatClampNeg)) + 1) 180 (nm_ (upd u55 (((3 * (yv r4.toNatClampNeg)) + 1).toNatClampNeg) (0 : Int32)) (fun u59 =>
some (a3, yv48, u59)))))))
else
bd_ (f_L_fill a5 r4 a3 yv) (fun yv30 =>
gd_ (3 * a3) 180 (nm_ (upd wv ((3 * a3).toNatClampNeg) a6) (fun u37 =>
gd_ ((3 * a3) + 1) 180 (nm_ (upd u37 (((3 * a3) + 1).toNatClampNeg) (0 : Int32)) (fun u41 =>
gd_ ((3 * a3) + 2) 180 (nm_ (upd u41 (((3 * a3) + 2).toNatClampNeg) a4) (fun u45 =>
some (a3 + 1, yv30, u45)))))))))))
else
gd_ ((3 * (yv a5.toNatClampNeg)) + 1) 180 (
if (wv ((3 * (yv a5.toNatClampNeg)) + 1).toNatClampNeg) = 0 then
gd_ (3 * (yv a5.toNatClampNeg)) 180 (
if (wv (3 * (yv a5.toNatClampNeg)).toNatClampNeg) = a6 then
some (a3, yv, wv)
else
f_L_change_L79 fu_ a5 (yv a5.toNatClampNeg) a3 a4 a5 a6 yv wv)
else
f_L_change_L79 fu_ a5 (yv a5.toNatClampNeg) a3 a4 a5 a6 yv wv)
else
if a5 = 0 then
gd_ (3 * (yv a5.toNatClampNeg)) 180 (nm_ (upd wv ((3 * (yv a5.toNatClampNeg)).toNatClampNeg) a6) (fun u144 =>
gd_ ((3 * (yv a5.toNatClampNeg)) + 1) 180 (nm_ (upd u144 (((3 * (yv a5.toNatClampNeg)) + 1).toNatClampNeg) (0 : Int32)) (fun u148 =>
some (a3, yv, u148)))))
else
gd_ (a5 - 1) 1000 (
if (yv (a5 - 1).toNatClampNeg) = (yv a5.toNatClampNeg) then
if (yv a5.toNatClampNeg) < 0 then
bd_ (f_L_next a5 yv) (fun r153 =>
if 1000 ≤ r153 then
bd_ (f_L_fill a5 r153 a3 yv) (fun yv159 =>
gd_ (3 * a3) 180 (nm_ (upd wv ((3 * a3).toNatClampNeg) a6) (fun u166 =>
gd_ ((3 * a3) + 1) 180 (nm_ (upd u166 (((3 * a3) + 1).toNatClampNeg) (0 : Int32)) (fun u170 =>
gd_ ((3 * a3) + 2) 180 (nm_ (upd u170 (((3 * a3) + 2).toNatClampNeg) a4) (fun u174 =>
some (a3 + 1, yv159, u174))))))))
else
gd_ r153 1000 (
gd_ ((3 * (yv r153.toNatClampNeg)) + 1) 180 (
if (wv ((3 * (yv r153.toNatClampNeg)) + 1).toNatClampNeg) = 1 then
gd_ r153 1000 (
bd_ (f_L_fill a5 r153 (yv r153.toNatClampNeg) yv) (fun yv197 =>
gd_ (3 * (yv r153.toNatClampNeg)) 180 (nm_ (upd wv ((3 * (yv r153.toNatClampNeg)).toNatClampNeg) a6) (fun u204 =>
gd_ ((3 * (yv r153.toNatClampNeg)) + 1) 180 (nm_ (upd u204 (((3 * (yv r153.toNatClampNeg)) + 1).toNatClampNeg) (0 : Int32)) (fun u208 =>
some (a3, yv197, u208)))))))
else
bd_ (f_L_fill a5 r153 a3 yv) (fun yv179 =>
gd_ (3 * a3) 180 (nm_ (upd wv ((3 * a3).toNatClampNeg) a6) (fun u186 =>
gd_ ((3 * a3) + 1) 180 (nm_ (upd u186 (((3 * a3) + 1).toNatClampNeg) (0 : Int32)) (fun u190 =>
gd_ ((3 * a3) + 2) 180 (nm_ (upd u190 (((3 * a3) + 2).toNatClampNeg) a4) (fun u194 =>
some (a3 + 1, yv179, u194)))))))))))
else
gd_ ((3 * (yv a5.toNatClampNeg)) + 1) 180 (
if (wv ((3 * (yv a5.toNatClampNeg)) + 1).toNatClampNeg) = 0 then
gd_ (3 * (yv a5.toNatClampNeg)) 180 (
if (wv (3 * (yv a5.toNatClampNeg)).toNatClampNeg) = a6 then
some (a3, yv, wv)
else
f_L_change_L79 fu_ a5 (yv a5.toNatClampNeg) a3 a4 a5 a6 yv wv)
else
f_L_change_L79 fu_ a5 (yv a5.toNatClampNeg) a3 a4 a5 a6 yv wv)
else
gd_ (3 * (yv a5.toNatClampNeg)) 180 (nm_ (upd wv ((3 * (yv a5.toNatClampNeg)).toNatClampNeg) a6) (fun u292 =>
gd_ ((3 * (yv a5.toNatClampNeg)) + 1) 180 (nm_ (upd u292 (((3 * (yv a5.toNatClampNeg)) + 1).toNatClampNeg) (0 : Int32)) (fun u296 =>
some (a3, yv, u296)))))))
abbrev rm_L_change : Room := { frames := 1, cells := 0, slots := 0, locals := 24 }
set_option maxHeartbeats 4000000 in
set_option maxRecDepth 100000 in
theorem c_L_change (l : Launch) (dC : Nat → ClassId) (dI : Nat → Nat → Nat) (cI cZ cC cJ cD : ClassId) (y0 w0 : Nat) (sz : Nat) (yv : Nat → Int32) (wv : Nat → Int32) (a3 : Int32) (a4 : Int32) (a5 : Int32) (a6 : Int32) (R : Int32 × tI_ × tI_) (hf : f_L_change a3 a4 a5 a6 yv wv = some R) : Met l yL_change wsL_change rm_L_change (Pc_ (dC, dI) (ty_ cI cZ cC cJ cD) (wI_ y0 cI 1000 yv ++ wI_ w0 cI 180 wv) sz [.ref y0, .ref w0, .int a3, .int a4, .int a5, .int a6]) (Qi_ (dC, dI) (ty_ cI cZ cC cJ cD) R.1 (wI_ y0 cI 1000 R.2.1 ++ wI_ w0 cI 180 R.2.2) (va_A (wI_ y0 cI 1000 yv ++ wI_ w0 cI 180 wv) sz)) 0 0 (va_A (wI_ y0 cI 1000 yv ++ wI_ w0 cI 180 wv) sz) := by
  refine met_ (cc := cL_change) (maxL := 9) (ret := (some .int)) (Qcf := fun A => Qi_ (dC, dI) (ty_ cI cZ cC cJ cD) R.1 (wI_ y0 cI 1000 R.2.1 ++ wI_ w0 cI 180 R.2.2) A) (by decide) rfl (Nat.le_of_ble_eq_true rfl) ?_
  intro p e s m args below meth c A ls hx hb hr hts hown hlocks hml hA hP hK hD hl
  have hown : s.vm.findClass RL = some m.cls := hown
  have hl : lv_has ls 9 [(0, .ref y0), (1, .ref w0), (2, .int a3), (3, .int a4), (4, .int a5), (5, .int a6)] := hl
  have hS : va_S A s.heap s.heap [] := va_S.rf
  unfold f_L_change at hf
  refine lv_aload_n hx hb dL_change_0 rfl (lv_at hl 0 rfl) ?_
  refine lv_iload hx hb dL_change_1 (lv_at hl 4 rfl) ?_
  obtain ⟨h1, hf⟩ := gd_T hf
  refine va_iald hx hb hK hP 0 0 rfl rfl h1 dL_change_3 ?_
  refine lv_istore (lv' := [(6, .int (yv a5.toNatClampNeg)), (0, .ref y0), (1, .ref w0), (2, .int a3), (3, .int a4), (4, .int a5), (5, .int a6)]) hx hb dL_change_4 hl (by decide) rfl (fun ls hl => ?_)
  refine lv_iload hx hb dL_change_6 (lv_at hl 0 rfl) ?_
  refine lv_if_lt (tgt := 46) hx hb dL_change_8 (by decide) (fun c2 => ?_) (fun c2 => ?_)
  · have hf := ite_T c2 hf
    refine lv_iload hx hb dL_change_46 (lv_at hl 0 rfl) ?_
    refine lv_if_lt (tgt := 114) hx hb dL_change_48 (by decide) (fun c3 => ?_) (fun c3 => ?_)
    · have hf := ite_T c3 hf
      refine lv_aload_n hx hb dL_change_114 rfl (lv_at hl 1 rfl) ?_
      refine lv_iload hx hb dL_change_115 (lv_at hl 5 rfl) ?_
      obtain ⟨R5, g6, hf⟩ := bd_B hf
      obtain ⟨r4, rfl⟩ : ∃ z, z = R5 := ⟨_, rfl⟩
      have hPc := hP.sub (ws' := wI_ y0 cI 1000 yv) [0] rfl
      have hDc := hD.sub (ws' := wI_ y0 cI 1000 yv) [0] (by decide) rfl
      have hFc := va_free (wc := wI_ y0 cI 1000 yv) hD hS hA [0] rfl
      refine va_calli (va_runS (As := [.ref y0, .int a5]) (rest := []) ⟨hx, hb, hml, hown, hts⟩ (c_L_next l dC dI cI cZ cC cJ cD y0 s.heap.size yv a5 r4 g6) (cwS 2 hts gL_change_L_next rfl rfl rfl hs_L_next ⟨Nat.le_of_ble_eq_true rfl, Nat.le_of_ble_eq_true rfl⟩) (preS_ hPc hK hDc rfl) rfl rfl hl.1 rfl (lv_room (Nat.le_of_ble_eq_true rfl)) dL_change_117 ⟨Nat.le_of_ble_eq_true rfl, Nat.le_of_ble_eq_true rfl⟩) hS (fun q _ h => hFc q h) hFc (fun z8 u t H7 locs ht hvm hw hB hz1 hk1 hS => ?_)
      have hw : r4 = z8 := hw.symm
      subst hw
      obtain ⟨hP, hD⟩ := aft_ (Wr := wI_ w0 cI 180 wv) (Wc' := wI_ y0 cI 1000 yv) (W2 := wI_ y0 cI 1000 yv ++ wI_ w0 cI 180 wv) hP hD [0] [1] [1, 0] rfl rfl (by decide) (by decide) (by decide) hk1 hFc hB ht rfl
      refine lv_istore (lv' := [(7, .int r4), (6, .int (yv a5.toNatClampNeg)), (0, .ref y0), (1, .ref w0), (2, .int a3), (3, .int a4), (4, .int a5), (5, .int a6)]) hx hb dL_change_120 hl (by decide) rfl (fun ls hl => ?_)
      refine lv_iload hx hb dL_change_122 (lv_at hl 0 rfl) ?_
      refine lv_sipush (v := 1000) hx hb dL_change_124 (by decide) ?_
      refine lv_icmp_ge (tgt := 179) hx hb dL_change_127 (by decide) (fun c9 => ?_) (fun c9 => ?_)
      · have hf := ite_T c9 hf
        refine lv_aload_n hx hb dL_change_179 rfl (lv_at hl 2 rfl) ?_
        refine lv_iload hx hb dL_change_180 (lv_at hl 6 rfl) ?_
        refine lv_iload hx hb dL_change_182 (lv_at hl 0 rfl) ?_
        refine lv_iload_n hx hb dL_change_184 rfl (lv_at hl 4 rfl) ?_
        obtain ⟨R11, g12, hf⟩ := bd_B hf
        obtain ⟨yv10, rfl⟩ : ∃ z, z = R11 := ⟨_, rfl⟩
        have hPc := hP.sub (ws' := wI_ y0 cI 1000 yv) [0] rfl
        have hDc := hD.sub (ws' := wI_ y0 cI 1000 yv) [0] (by decide) rfl
        have hFc := va_free (wc := wI_ y0 cI 1000 yv) hD hS hA [0] rfl
        refine va_callv (va_runS (As := [.ref y0, .int a5, .int r4, .int a3]) (rest := []) ⟨hx, hb, hml, hown, hts⟩ (c_L_fill l dC dI cI cZ cC cJ cD y0 H7.size yv a5 r4 a3 yv10 g12) (cwS 4 hts gL_change_L_fill rfl rfl rfl hs_L_fill ⟨Nat.le_of_ble_eq_true rfl, Nat.le_of_ble_eq_true rfl⟩) (preS_ hPc hK hDc rfl) rfl rfl hl.1 rfl (lv_room (Nat.le_of_ble_eq_true rfl)) dL_change_185 ⟨Nat.le_of_ble_eq_true rfl, Nat.le_of_ble_eq_true rfl⟩) hS (fun q _ h => hFc q h) hFc (fun u t H13 locs ht hvm hw hB hz1 hk1 hS => ?_)
        obtain ⟨hP, hD⟩ := aft_ (Wr := wI_ w0 cI 180 wv) (Wc' := wI_ y0 cI 1000 yv10) (W2 := wI_ y0 cI 1000 yv10 ++ wI_ w0 cI 180 wv) hP hD [0] [1] [1, 0] rfl rfl (by decide) (by decide) (by decide) hk1 hFc hB ht rfl
        refine lv_aload_n hx hb dL_change_188 rfl (lv_at hl 3 rfl) ?_
        refine lv_iconst (v := 3) hx hb dL_change_189 (by decide) ?_
        refine lv_iload_n hx hb dL_change_190 rfl (lv_at hl 4 rfl) ?_
        refine lv_imul hx hb dL_change_191 ?_
        refine lv_iload hx hb dL_change_192 (lv_at hl 7 rfl) ?_
        obtain ⟨h15, hf⟩ := gd_T hf
        refine va_iast hx hb hK hP hD hS 1 0 rfl rfl h15 dL_change_194 (fun H16 locs hP hD hS => ?_)
        have hP : va_P (dC, dI) vwCl (wI_ y0 cI 1000 yv10 ++ wI_ w0 cI 180 (upd wv ((3 * a3).toNatClampNeg) a6)) H16 := hP
        have hD : va_D A (wI_ y0 cI 1000 yv10 ++ wI_ w0 cI 180 (upd wv ((3 * a3).toNatClampNeg) a6)) := hD
        obtain ⟨u17, e18, hf⟩ := nm_T hf
        rw [← e18] at hP hD
        refine lv_aload_n hx hb dL_change_195 rfl (lv_at hl 3 rfl) ?_
        refine lv_iconst (v := 3) hx hb dL_change_196 (by decide) ?_
        refine lv_iload_n hx hb dL_change_197 rfl (lv_at hl 4 rfl) ?_
        refine lv_imul hx hb dL_change_198 ?_
        refine lv_iconst (v := 1) hx hb dL_change_199 (by decide) ?_
        refine lv_iadd hx hb dL_change_200 ?_
        refine lv_iconst (v := 0) hx hb dL_change_201 (by decide) ?_
        obtain ⟨h19, hf⟩ := gd_T hf
        refine va_iast hx hb hK hP hD hS 1 0 rfl rfl h19 dL_change_202 (fun H20 locs hP hD hS => ?_)
        have hP : va_P (dC, dI) vwCl (wI_ y0 cI 1000 yv10 ++ wI_ w0 cI 180 (upd u17 (((3 * a3) + 1).toNatClampNeg) (0 : Int32))) H20 := hP
        have hD : va_D A (wI_ y0 cI 1000 yv10 ++ wI_ w0 cI 180 (upd u17 (((3 * a3) + 1).toNatClampNeg) (0 : Int32))) := hD
        obtain ⟨u21, e22, hf⟩ := nm_T hf
        rw [← e22] at hP hD
        refine lv_aload_n hx hb dL_change_203 rfl (lv_at hl 3 rfl) ?_
        refine lv_iconst (v := 3) hx hb dL_change_204 (by decide) ?_
        refine lv_iload_n hx hb dL_change_205 rfl (lv_at hl 4 rfl) ?_
        refine lv_imul hx hb dL_change_206 ?_
        refine lv_iconst (v := 2) hx hb dL_change_207 (by decide) ?_
        refine lv_iadd hx hb dL_change_208 ?_
        refine lv_iload_n hx hb dL_change_209 rfl (lv_at hl 5 rfl) ?_
        obtain ⟨h23, hf⟩ := gd_T hf
        refine va_iast hx hb hK hP hD hS 1 0 rfl rfl h23 dL_change_210 (fun H24 locs hP hD hS => ?_)
        have hP : va_P (dC, dI) vwCl (wI_ y0 cI 1000 yv10 ++ wI_ w0 cI 180 (upd u21 (((3 * a3) + 2).toNatClampNeg) a4)) H24 := hP
        have hD : va_D A (wI_ y0 cI 1000 yv10 ++ wI_ w0 cI 180 (upd u21 (((3 * a3) + 2).toNatClampNeg) a4)) := hD
        obtain ⟨u25, e26, hf⟩ := nm_T hf
        rw [← e26] at hP hD
        refine lv_iload_n hx hb dL_change_211 rfl (lv_at hl 4 rfl) ?_
        refine lv_iconst (v := 1) hx hb dL_change_212 (by decide) ?_
        refine lv_iadd hx hb dL_change_213 ?_
        have hR := Option.some.inj hf
        subst hR
        exact W.iret (v := a3 + 1) hx hb hr (fun t ht hW => ⟨⟨a3 + 1, (), rfl, rfl, by rw [ht]; exact hP, va_K.moved hW.alike hK, hD⟩, hS.F ht⟩) hS.2.2 dL_change_214
      · have hf := ite_F c9 hf
        refine lv_aload_n hx hb dL_change_130 rfl (lv_at hl 3 rfl) ?_
        refine lv_iconst (v := 3) hx hb dL_change_131 (by decide) ?_
        refine lv_aload_n hx hb dL_change_132 rfl (lv_at hl 2 rfl) ?_
        refine lv_iload hx hb dL_change_133 (lv_at hl 0 rfl) ?_
        obtain ⟨h27, hf⟩ := gd_T hf
        refine va_iald hx hb hK hP 0 0 rfl rfl h27 dL_change_135 ?_
        refine lv_imul hx hb dL_change_136 ?_
        refine lv_iconst (v := 1) hx hb dL_change_137 (by decide) ?_
        refine lv_iadd hx hb dL_change_138 ?_
        obtain ⟨h28, hf⟩ := gd_T hf
        refine va_iald hx hb hK hP 1 0 rfl rfl h28 dL_change_139 ?_
        refine lv_iconst (v := 1) hx hb dL_change_140 (by decide) ?_
        refine lv_icmp_ne (tgt := 179) hx hb dL_change_141 (by decide) (fun c29 => ?_) (fun c29 => ?_)
        · have hf := ite_F c29 hf
          refine lv_aload_n hx hb dL_change_179 rfl (lv_at hl 2 rfl) ?_
          refine lv_iload hx hb dL_change_180 (lv_at hl 6 rfl) ?_
          refine lv_iload hx hb dL_change_182 (lv_at hl 0 rfl) ?_
          refine lv_iload_n hx hb dL_change_184 rfl (lv_at hl 4 rfl) ?_
          obtain ⟨R31, g32, hf⟩ := bd_B hf
          obtain ⟨yv30, rfl⟩ : ∃ z, z = R31 := ⟨_, rfl⟩
          have hPc := hP.sub (ws' := wI_ y0 cI 1000 yv) [0] rfl
          have hDc := hD.sub (ws' := wI_ y0 cI 1000 yv) [0] (by decide) rfl
          have hFc := va_free (wc := wI_ y0 cI 1000 yv) hD hS hA [0] rfl
          refine va_callv (va_runS (As := [.ref y0, .int a5, .int r4, .int a3]) (rest := []) ⟨hx, hb, hml, hown, hts⟩ (c_L_fill l dC dI cI cZ cC cJ cD y0 H7.size yv a5 r4 a3 yv30 g32) (cwS 4 hts gL_change_L_fill rfl rfl rfl hs_L_fill ⟨Nat.le_of_ble_eq_true rfl, Nat.le_of_ble_eq_true rfl⟩) (preS_ hPc hK hDc rfl) rfl rfl hl.1 rfl (lv_room (Nat.le_of_ble_eq_true rfl)) dL_change_185 ⟨Nat.le_of_ble_eq_true rfl, Nat.le_of_ble_eq_true rfl⟩) hS (fun q _ h => hFc q h) hFc (fun u t H33 locs ht hvm hw hB hz1 hk1 hS => ?_)
          obtain ⟨hP, hD⟩ := aft_ (Wr := wI_ w0 cI 180 wv) (Wc' := wI_ y0 cI 1000 yv30) (W2 := wI_ y0 cI 1000 yv30 ++ wI_ w0 cI 180 wv) hP hD [0] [1] [1, 0] rfl rfl (by decide) (by decide) (by decide) hk1 hFc hB ht rfl
          refine lv_aload_n hx hb dL_change_188 rfl (lv_at hl 3 rfl) ?_
          refine lv_iconst (v := 3) hx hb dL_change_189 (by decide) ?_
          refine lv_iload_n hx hb dL_change_190 rfl (lv_at hl 4 rfl) ?_
          refine lv_imul hx hb dL_change_191 ?_
          refine lv_iload hx hb dL_change_192 (lv_at hl 7 rfl) ?_
          obtain ⟨h35, hf⟩ := gd_T hf
          refine va_iast hx hb hK hP hD hS 1 0 rfl rfl h35 dL_change_194 (fun H36 locs hP hD hS => ?_)
          have hP : va_P (dC, dI) vwCl (wI_ y0 cI 1000 yv30 ++ wI_ w0 cI 180 (upd wv ((3 * a3).toNatClampNeg) a6)) H36 := hP
          have hD : va_D A (wI_ y0 cI 1000 yv30 ++ wI_ w0 cI 180 (upd wv ((3 * a3).toNatClampNeg) a6)) := hD
          obtain ⟨u37, e38, hf⟩ := nm_T hf
          rw [← e38] at hP hD
          refine lv_aload_n hx hb dL_change_195 rfl (lv_at hl 3 rfl) ?_
          refine lv_iconst (v := 3) hx hb dL_change_196 (by decide) ?_
          refine lv_iload_n hx hb dL_change_197 rfl (lv_at hl 4 rfl) ?_
          refine lv_imul hx hb dL_change_198 ?_
          refine lv_iconst (v := 1) hx hb dL_change_199 (by decide) ?_
          refine lv_iadd hx hb dL_change_200 ?_
          refine lv_iconst (v := 0) hx hb dL_change_201 (by decide) ?_
          obtain ⟨h39, hf⟩ := gd_T hf
          refine va_iast hx hb hK hP hD hS 1 0 rfl rfl h39 dL_change_202 (fun H40 locs hP hD hS => ?_)
          have hP : va_P (dC, dI) vwCl (wI_ y0 cI 1000 yv30 ++ wI_ w0 cI 180 (upd u37 (((3 * a3) + 1).toNatClampNeg) (0 : Int32))) H40 := hP
          have hD : va_D A (wI_ y0 cI 1000 yv30 ++ wI_ w0 cI 180 (upd u37 (((3 * a3) + 1).toNatClampNeg) (0 : Int32))) := hD
          obtain ⟨u41, e42, hf⟩ := nm_T hf
          rw [← e42] at hP hD
          refine lv_aload_n hx hb dL_change_203 rfl (lv_at hl 3 rfl) ?_
          refine lv_iconst (v := 3) hx hb dL_change_204 (by decide) ?_
          refine lv_iload_n hx hb dL_change_205 rfl (lv_at hl 4 rfl) ?_
          refine lv_imul hx hb dL_change_206 ?_
          refine lv_iconst (v := 2) hx hb dL_change_207 (by decide) ?_
          refine lv_iadd hx hb dL_change_208 ?_
          refine lv_iload_n hx hb dL_change_209 rfl (lv_at hl 5 rfl) ?_
          obtain ⟨h43, hf⟩ := gd_T hf
          refine va_iast hx hb hK hP hD hS 1 0 rfl rfl h43 dL_change_210 (fun H44 locs hP hD hS => ?_)
          have hP : va_P (dC, dI) vwCl (wI_ y0 cI 1000 yv30 ++ wI_ w0 cI 180 (upd u41 (((3 * a3) + 2).toNatClampNeg) a4)) H44 := hP
          have hD : va_D A (wI_ y0 cI 1000 yv30 ++ wI_ w0 cI 180 (upd u41 (((3 * a3) + 2).toNatClampNeg) a4)) := hD
          obtain ⟨u45, e46, hf⟩ := nm_T hf
          rw [← e46] at hP hD
          refine lv_iload_n hx hb dL_change_211 rfl (lv_at hl 4 rfl) ?_
          refine lv_iconst (v := 1) hx hb dL_change_212 (by decide) ?_
          refine lv_iadd hx hb dL_change_213 ?_
          have hR := Option.some.inj hf
          subst hR
          exact W.iret (v := a3 + 1) hx hb hr (fun t ht hW => ⟨⟨a3 + 1, (), rfl, rfl, by rw [ht]; exact hP, va_K.moved hW.alike hK, hD⟩, hS.F ht⟩) hS.2.2 dL_change_214
        · have hf := ite_T c29 hf
          refine lv_aload_n hx hb dL_change_144 rfl (lv_at hl 2 rfl) ?_
          refine lv_iload hx hb dL_change_145 (lv_at hl 0 rfl) ?_
          obtain ⟨h47, hf⟩ := gd_T hf
          refine va_iald hx hb hK hP 0 0 rfl rfl h47 dL_change_147 ?_
          refine lv_istore (lv' := [(8, .int (yv r4.toNatClampNeg)), (7, .int r4), (6, .int (yv a5.toNatClampNeg)), (0, .ref y0), (1, .ref w0), (2, .int a3), (3, .int a4), (4, .int a5), (5, .int a6)]) hx hb dL_change_148 hl (by decide) rfl (fun ls hl => ?_)
          refine lv_aload_n hx hb dL_change_150 rfl (lv_at hl 3 rfl) ?_
          refine lv_iload hx hb dL_change_151 (lv_at hl 7 rfl) ?_
          refine lv_iload hx hb dL_change_153 (lv_at hl 1 rfl) ?_
          refine lv_iload hx hb dL_change_155 (lv_at hl 0 rfl) ?_
          obtain ⟨R49, g50, hf⟩ := bd_B hf
          obtain ⟨yv48, rfl⟩ : ∃ z, z = R49 := ⟨_, rfl⟩
          have hPc := hP.sub (ws' := wI_ y0 cI 1000 yv) [0] rfl
          have hDc := hD.sub (ws' := wI_ y0 cI 1000 yv) [0] (by decide) rfl
          have hFc := va_free (wc := wI_ y0 cI 1000 yv) hD hS hA [0] rfl
          refine va_callv (va_runS (As := [.ref y0, .int a5, .int r4, .int (yv r4.toNatClampNeg)]) (rest := []) ⟨hx, hb, hml, hown, hts⟩ (c_L_fill l dC dI cI cZ cC cJ cD y0 H7.size yv a5 r4 (yv r4.toNatClampNeg) yv48 g50) (cwS 4 hts gL_change_L_fill rfl rfl rfl hs_L_fill ⟨Nat.le_of_ble_eq_true rfl, Nat.le_of_ble_eq_true rfl⟩) (preS_ hPc hK hDc rfl) rfl rfl hl.1 rfl (lv_room (Nat.le_of_ble_eq_true rfl)) dL_change_157 ⟨Nat.le_of_ble_eq_true rfl, Nat.le_of_ble_eq_true rfl⟩) hS (fun q _ h => hFc q h) hFc (fun u t H51 locs ht hvm hw hB hz1 hk1 hS => ?_)
          obtain ⟨hP, hD⟩ := aft_ (Wr := wI_ w0 cI 180 wv) (Wc' := wI_ y0 cI 1000 yv48) (W2 := wI_ y0 cI 1000 yv48 ++ wI_ w0 cI 180 wv) hP hD [0] [1] [1, 0] rfl rfl (by decide) (by decide) (by decide) hk1 hFc hB ht rfl
          refine lv_aload_n hx hb dL_change_160 rfl (lv_at hl 4 rfl) ?_
          refine lv_iconst (v := 3) hx hb dL_change_161 (by decide) ?_
          refine lv_iload hx hb dL_change_162 (lv_at hl 0 rfl) ?_
          refine lv_imul hx hb dL_change_164 ?_
          refine lv_iload hx hb dL_change_165 (lv_at hl 8 rfl) ?_
          obtain ⟨h53, hf⟩ := gd_T hf
          refine va_iast hx hb hK hP hD hS 1 0 rfl rfl h53 dL_change_167 (fun H54 locs hP hD hS => ?_)
          have hP : va_P (dC, dI) vwCl (wI_ y0 cI 1000 yv48 ++ wI_ w0 cI 180 (upd wv ((3 * (yv r4.toNatClampNeg)).toNatClampNeg) a6)) H54 := hP
          have hD : va_D A (wI_ y0 cI 1000 yv48 ++ wI_ w0 cI 180 (upd wv ((3 * (yv r4.toNatClampNeg)).toNatClampNeg) a6)) := hD
          obtain ⟨u55, e56, hf⟩ := nm_T hf
          rw [← e56] at hP hD
          refine lv_aload_n hx hb dL_change_168 rfl (lv_at hl 4 rfl) ?_
          refine lv_iconst (v := 3) hx hb dL_change_169 (by decide) ?_
          refine lv_iload hx hb dL_change_170 (lv_at hl 0 rfl) ?_
          refine lv_imul hx hb dL_change_172 ?_
          refine lv_iconst (v := 1) hx hb dL_change_173 (by decide) ?_
          refine lv_iadd hx hb dL_change_174 ?_
          refine lv_iconst (v := 0) hx hb dL_change_175 (by decide) ?_
          obtain ⟨h57, hf⟩ := gd_T hf
          refine va_iast hx hb hK hP hD hS 1 0 rfl rfl h57 dL_change_176 (fun H58 locs hP hD hS => ?_)
          have hP : va_P (dC, dI) vwCl (wI_ y0 cI 1000 yv48 ++ wI_ w0 cI 180 (upd u55 (((3 * (yv r4.toNatClampNeg)) + 1).toNatClampNeg) (0 : Int32))) H58 := hP
          have hD : va_D A (wI_ y0 cI 1000 yv48 ++ wI_ w0 cI 180 (upd u55 (((3 * (yv r4.toNatClampNeg)) + 1).toNatClampNeg) (0 : Int32))) := hD
          obtain ⟨u59, e60, hf⟩ := nm_T hf
          rw [← e60] at hP hD
          refine lv_iload_n hx hb dL_change_177 rfl (lv_at hl 5 rfl) ?_
          have hR := Option.some.inj hf
          subst hR
          exact W.iret (v := a3) hx hb hr (fun t ht hW => ⟨⟨a3, (), rfl, rfl, by rw [ht]; exact hP, va_K.moved hW.alike hK, hD⟩, hS.F ht⟩) hS.2.2 dL_change_178
    · have hf := ite_F c3 hf
      refine lv_aload_n hx hb dL_change_51 rfl (lv_at hl 2 rfl) ?_
      refine lv_iconst (v := 3) hx hb dL_change_52 (by decide) ?_
      refine lv_iload hx hb dL_change_53 (lv_at hl 0 rfl) ?_
      refine lv_imul hx hb dL_change_55 ?_
      refine lv_iconst (v := 1) hx hb dL_change_56 (by decide) ?_
      refine lv_iadd hx hb dL_change_57 ?_
      obtain ⟨h61, hf⟩ := gd_T hf
      refine va_iald hx hb hK hP 1 0 rfl rfl h61 dL_change_58 ?_
      refine lv_if_ne (tgt := 75) hx hb dL_change_59 (by decide) (fun c62 => ?_) (fun c62 => ?_)
      · have hf := ite_F c62 hf
        refine lv_iload hx hb dL_change_75 (lv_at hl 5 rfl) ?_
        refine lv_istore (lv' := [(7, .int a5), (6, .int (yv a5.toNatClampNeg)), (0, .ref y0), (1, .ref w0), (2, .int a3), (3, .int a4), (4, .int a5), (5, .int a6)]) hx hb dL_change_77 hl (by decide) rfl (fun ls hl => ?_)
        have lp79 : ∀ (n : Nat) (l7 : Int32) (l6 : Int32) (l2 : Int32) (l3 : Int32) (l4 : Int32) (l5 : Int32) (yv : Nat → Int32) (wv : Nat → Int32) (H63 : Heap) (locs : List Loc) (ls : Array Slot), f_L_change_L79 n l7 l6 l2 l3 l4 l5 yv wv = some R → va_P (dC, dI) vwCl (wI_ y0 cI 1000 yv ++ wI_ w0 cI 180 wv) H63 → va_D A (wI_ y0 cI 1000 yv ++ wI_ w0 cI 180 wv) → va_S A s.heap H63 locs → lv_has ls 9 [(7, .int l7), (6, .int l6), (0, .ref y0), (1, .ref w0), (2, .int l2), (3, .int l3), (4, .int l4), (5, .int l5)] → W p l e (headSpec wsL_change rm_L_change).room s m args below meth c H63 locs 0 0 (MQ below (Qi_ (dC, dI) (ty_ cI cZ cC cJ cD) R.1 (wI_ y0 cI 1000 R.2.1 ++ wI_ w0 cI 180 R.2.2) A) args s 0 0 A) (F0 m 79 ls []) := by
          intro n
          induction n with
          | zero => intro l7 l6 l2 l3 l4 l5 yv wv H63 locs ls hf hP hD hS hl; exact absurd hf (by simp [f_L_change_L79])
          | succ n ih =>
            intro l7 l6 l2 l3 l4 l5 yv wv H63 locs ls hf hP hD hS hl
            have hf : f_L_change_S79 (f_L_change_L79 n) l7 l6 l2 l3 l4 l5 yv wv = some R := hf
            unfold f_L_change_S79 at hf
            refine lv_iload hx hb dL_change_79 (lv_at hl 0 rfl) ?_
            refine lv_sipush (v := 1000) hx hb dL_change_81 (by decide) ?_
            refine lv_icmp_ge (tgt := 102) hx hb dL_change_84 (by decide) (fun c64 => ?_) (fun c64 => ?_)
            · have hf := ite_T c64 hf
              refine lv_aload_n hx hb dL_change_102 rfl (lv_at hl 2 rfl) ?_
              refine lv_iload hx hb dL_change_103 (lv_at hl 6 rfl) ?_
              refine lv_iload hx hb dL_change_105 (lv_at hl 0 rfl) ?_
              refine lv_iload_n hx hb dL_change_107 rfl (lv_at hl 4 rfl) ?_
              obtain ⟨R66, g67, hf⟩ := bd_B hf
              obtain ⟨yv65, rfl⟩ : ∃ z, z = R66 := ⟨_, rfl⟩
              have hPc := hP.sub (ws' := wI_ y0 cI 1000 yv) [0] rfl
              have hDc := hD.sub (ws' := wI_ y0 cI 1000 yv) [0] (by decide) rfl
              have hFc := va_free (wc := wI_ y0 cI 1000 yv) hD hS hA [0] rfl
              refine va_callv (va_runS (As := [.ref y0, .int l4, .int l7, .int l2]) (rest := []) ⟨hx, hb, hml, hown, hts⟩ (c_L_fill l dC dI cI cZ cC cJ cD y0 H63.size yv l4 l7 l2 yv65 g67) (cwS 4 hts gL_change_L_fill rfl rfl rfl hs_L_fill ⟨Nat.le_of_ble_eq_true rfl, Nat.le_of_ble_eq_true rfl⟩) (preS_ hPc hK hDc rfl) rfl rfl hl.1 rfl (lv_room (Nat.le_of_ble_eq_true rfl)) dL_change_108 ⟨Nat.le_of_ble_eq_true rfl, Nat.le_of_ble_eq_true rfl⟩) hS (fun q _ h => hFc q h) hFc (fun u t H68 locs ht hvm hw hB hz1 hk1 hS => ?_)
              obtain ⟨hP, hD⟩ := aft_ (Wr := wI_ w0 cI 180 wv) (Wc' := wI_ y0 cI 1000 yv65) (W2 := wI_ y0 cI 1000 yv65 ++ wI_ w0 cI 180 wv) hP hD [0] [1] [1, 0] rfl rfl (by decide) (by decide) (by decide) hk1 hFc hB ht rfl
              refine lv_goto (tgt := 188) hx hb dL_change_111 (by decide) ?_
              refine lv_aload_n hx hb dL_change_188 rfl (lv_at hl 3 rfl) ?_
              refine lv_iconst (v := 3) hx hb dL_change_189 (by decide) ?_
              refine lv_iload_n hx hb dL_change_190 rfl (lv_at hl 4 rfl) ?_
              refine lv_imul hx hb dL_change_191 ?_
              refine lv_iload hx hb dL_change_192 (lv_at hl 7 rfl) ?_
              obtain ⟨h70, hf⟩ := gd_T hf
              refine va_iast hx hb hK hP hD hS 1 0 rfl rfl h70 dL_change_194 (fun H71 locs hP hD hS => ?_)
              have hP : va_P (dC, dI) vwCl (wI_ y0 cI 1000 yv65 ++ wI_ w0 cI 180 (upd wv ((3 * l2).toNatClampNeg) l5)) H71 := hP
              have hD : va_D A (wI_ y0 cI 1000 yv65 ++ wI_ w0 cI 180 (upd wv ((3 * l2).toNatClampNeg) l5)) := hD
              obtain ⟨u72, e73, hf⟩ := nm_T hf
              rw [← e73] at hP hD
              refine lv_aload_n hx hb dL_change_195 rfl (lv_at hl 3 rfl) ?_
              refine lv_iconst (v := 3) hx hb dL_change_196 (by decide) ?_
              refine lv_iload_n hx hb dL_change_197 rfl (lv_at hl 4 rfl) ?_
              refine lv_imul hx hb dL_change_198 ?_
              refine lv_iconst (v := 1) hx hb dL_change_199 (by decide) ?_
              refine lv_iadd hx hb dL_change_200 ?_
              refine lv_iconst (v := 0) hx hb dL_change_201 (by decide) ?_
              obtain ⟨h74, hf⟩ := gd_T hf
              refine va_iast hx hb hK hP hD hS 1 0 rfl rfl h74 dL_change_202 (fun H75 locs hP hD hS => ?_)
              have hP : va_P (dC, dI) vwCl (wI_ y0 cI 1000 yv65 ++ wI_ w0 cI 180 (upd u72 (((3 * l2) + 1).toNatClampNeg) (0 : Int32))) H75 := hP
              have hD : va_D A (wI_ y0 cI 1000 yv65 ++ wI_ w0 cI 180 (upd u72 (((3 * l2) + 1).toNatClampNeg) (0 : Int32))) := hD
              obtain ⟨u76, e77, hf⟩ := nm_T hf
              rw [← e77] at hP hD
              refine lv_aload_n hx hb dL_change_203 rfl (lv_at hl 3 rfl) ?_
              refine lv_iconst (v := 3) hx hb dL_change_204 (by decide) ?_
              refine lv_iload_n hx hb dL_change_205 rfl (lv_at hl 4 rfl) ?_
              refine lv_imul hx hb dL_change_206 ?_
              refine lv_iconst (v := 2) hx hb dL_change_207 (by decide) ?_
              refine lv_iadd hx hb dL_change_208 ?_
              refine lv_iload_n hx hb dL_change_209 rfl (lv_at hl 5 rfl) ?_
              obtain ⟨h78, hf⟩ := gd_T hf
              refine va_iast hx hb hK hP hD hS 1 0 rfl rfl h78 dL_change_210 (fun H79 locs hP hD hS => ?_)
              have hP : va_P (dC, dI) vwCl (wI_ y0 cI 1000 yv65 ++ wI_ w0 cI 180 (upd u76 (((3 * l2) + 2).toNatClampNeg) l3)) H79 := hP
              have hD : va_D A (wI_ y0 cI 1000 yv65 ++ wI_ w0 cI 180 (upd u76 (((3 * l2) + 2).toNatClampNeg) l3)) := hD
              obtain ⟨u80, e81, hf⟩ := nm_T hf
              rw [← e81] at hP hD
              refine lv_iload_n hx hb dL_change_211 rfl (lv_at hl 4 rfl) ?_
              refine lv_iconst (v := 1) hx hb dL_change_212 (by decide) ?_
              refine lv_iadd hx hb dL_change_213 ?_
              have hR := Option.some.inj hf
              subst hR
              exact W.iret (v := l2 + 1) hx hb hr (fun t ht hW => ⟨⟨l2 + 1, (), rfl, rfl, by rw [ht]; exact hP, va_K.moved hW.alike hK, hD⟩, hS.F ht⟩) hS.2.2 dL_change_214
            · have hf := ite_F c64 hf
              refine lv_aload_n hx hb dL_change_87 rfl (lv_at hl 2 rfl) ?_
              refine lv_iload hx hb dL_change_88 (lv_at hl 0 rfl) ?_
              obtain ⟨h82, hf⟩ := gd_T hf
              refine va_iald hx hb hK hP 0 0 rfl rfl h82 dL_change_90 ?_
              refine lv_iload hx hb dL_change_91 (lv_at hl 1 rfl) ?_
              refine lv_icmp_ne (tgt := 102) hx hb dL_change_93 (by decide) (fun c83 => ?_) (fun c83 => ?_)
              · have hf := ite_F c83 hf
                refine lv_aload_n hx hb dL_change_102 rfl (lv_at hl 2 rfl) ?_
                refine lv_iload hx hb dL_change_103 (lv_at hl 6 rfl) ?_
                refine lv_iload hx hb dL_change_105 (lv_at hl 0 rfl) ?_
                refine lv_iload_n hx hb dL_change_107 rfl (lv_at hl 4 rfl) ?_
                obtain ⟨R85, g86, hf⟩ := bd_B hf
                obtain ⟨yv84, rfl⟩ : ∃ z, z = R85 := ⟨_, rfl⟩
                have hPc := hP.sub (ws' := wI_ y0 cI 1000 yv) [0] rfl
                have hDc := hD.sub (ws' := wI_ y0 cI 1000 yv) [0] (by decide) rfl
                have hFc := va_free (wc := wI_ y0 cI 1000 yv) hD hS hA [0] rfl
                refine va_callv (va_runS (As := [.ref y0, .int l4, .int l7, .int l2]) (rest := []) ⟨hx, hb, hml, hown, hts⟩ (c_L_fill l dC dI cI cZ cC cJ cD y0 H63.size yv l4 l7 l2 yv84 g86) (cwS 4 hts gL_change_L_fill rfl rfl rfl hs_L_fill ⟨Nat.le_of_ble_eq_true rfl, Nat.le_of_ble_eq_true rfl⟩) (preS_ hPc hK hDc rfl) rfl rfl hl.1 rfl (lv_room (Nat.le_of_ble_eq_true rfl)) dL_change_108 ⟨Nat.le_of_ble_eq_true rfl, Nat.le_of_ble_eq_true rfl⟩) hS (fun q _ h => hFc q h) hFc (fun u t H87 locs ht hvm hw hB hz1 hk1 hS => ?_)
                obtain ⟨hP, hD⟩ := aft_ (Wr := wI_ w0 cI 180 wv) (Wc' := wI_ y0 cI 1000 yv84) (W2 := wI_ y0 cI 1000 yv84 ++ wI_ w0 cI 180 wv) hP hD [0] [1] [1, 0] rfl rfl (by decide) (by decide) (by decide) hk1 hFc hB ht rfl
                refine lv_goto (tgt := 188) hx hb dL_change_111 (by decide) ?_
                refine lv_aload_n hx hb dL_change_188 rfl (lv_at hl 3 rfl) ?_
                refine lv_iconst (v := 3) hx hb dL_change_189 (by decide) ?_
                refine lv_iload_n hx hb dL_change_190 rfl (lv_at hl 4 rfl) ?_
                refine lv_imul hx hb dL_change_191 ?_
                refine lv_iload hx hb dL_change_192 (lv_at hl 7 rfl) ?_
                obtain ⟨h89, hf⟩ := gd_T hf
                refine va_iast hx hb hK hP hD hS 1 0 rfl rfl h89 dL_change_194 (fun H90 locs hP hD hS => ?_)
                have hP : va_P (dC, dI) vwCl (wI_ y0 cI 1000 yv84 ++ wI_ w0 cI 180 (upd wv ((3 * l2).toNatClampNeg) l5)) H90 := hP
                have hD : va_D A (wI_ y0 cI 1000 yv84 ++ wI_ w0 cI 180 (upd wv ((3 * l2).toNatClampNeg) l5)) := hD
                obtain ⟨u91, e92, hf⟩ := nm_T hf
                rw [← e92] at hP hD
                refine lv_aload_n hx hb dL_change_195 rfl (lv_at hl 3 rfl) ?_
                refine lv_iconst (v := 3) hx hb dL_change_196 (by decide) ?_
                refine lv_iload_n hx hb dL_change_197 rfl (lv_at hl 4 rfl) ?_
                refine lv_imul hx hb dL_change_198 ?_
                refine lv_iconst (v := 1) hx hb dL_change_199 (by decide) ?_
                refine lv_iadd hx hb dL_change_200 ?_
                refine lv_iconst (v := 0) hx hb dL_change_201 (by decide) ?_
                obtain ⟨h93, hf⟩ := gd_T hf
                refine va_iast hx hb hK hP hD hS 1 0 rfl rfl h93 dL_change_202 (fun H94 locs hP hD hS => ?_)
                have hP : va_P (dC, dI) vwCl (wI_ y0 cI 1000 yv84 ++ wI_ w0 cI 180 (upd u91 (((3 * l2) + 1).toNatClampNeg) (0 : Int32))) H94 := hP
                have hD : va_D A (wI_ y0 cI 1000 yv84 ++ wI_ w0 cI 180 (upd u91 (((3 * l2) + 1).toNatClampNeg) (0 : Int32))) := hD
                obtain ⟨u95, e96, hf⟩ := nm_T hf
                rw [← e96] at hP hD
                refine lv_aload_n hx hb dL_change_203 rfl (lv_at hl 3 rfl) ?_
                refine lv_iconst (v := 3) hx hb dL_change_204 (by decide) ?_
                refine lv_iload_n hx hb dL_change_205 rfl (lv_at hl 4 rfl) ?_
                refine lv_imul hx hb dL_change_206 ?_
                refine lv_iconst (v := 2) hx hb dL_change_207 (by decide) ?_
                refine lv_iadd hx hb dL_change_208 ?_
                refine lv_iload_n hx hb dL_change_209 rfl (lv_at hl 5 rfl) ?_
                obtain ⟨h97, hf⟩ := gd_T hf
                refine va_iast hx hb hK hP hD hS 1 0 rfl rfl h97 dL_change_210 (fun H98 locs hP hD hS => ?_)
                have hP : va_P (dC, dI) vwCl (wI_ y0 cI 1000 yv84 ++ wI_ w0 cI 180 (upd u95 (((3 * l2) + 2).toNatClampNeg) l3)) H98 := hP
                have hD : va_D A (wI_ y0 cI 1000 yv84 ++ wI_ w0 cI 180 (upd u95 (((3 * l2) + 2).toNatClampNeg) l3)) := hD
                obtain ⟨u99, e100, hf⟩ := nm_T hf
                rw [← e100] at hP hD
                refine lv_iload_n hx hb dL_change_211 rfl (lv_at hl 4 rfl) ?_
                refine lv_iconst (v := 1) hx hb dL_change_212 (by decide) ?_
                refine lv_iadd hx hb dL_change_213 ?_
                have hR := Option.some.inj hf
                subst hR
                exact W.iret (v := l2 + 1) hx hb hr (fun t ht hW => ⟨⟨l2 + 1, (), rfl, rfl, by rw [ht]; exact hP, va_K.moved hW.alike hK, hD⟩, hS.F ht⟩) hS.2.2 dL_change_214
              · have hf := ite_T c83 hf
                refine lv_iinc (v := l7 + 1) (lv' := [(7, .int (l7 + 1)), (6, .int l6), (0, .ref y0), (1, .ref w0), (2, .int l2), (3, .int l3), (4, .int l4), (5, .int l5)]) hx hb dL_change_96 hl (k := 0) rfl (by first | rfl | decide) (by decide) rfl (fun ls hl => ?_)
                refine lv_goto (tgt := 79) hx hb dL_change_99 (by decide) ?_
                exact ih (l7 + 1) l6 l2 l3 l4 l5 yv wv _ _ _ hf hP hD hS (lv_sub hl [0, 1, 2, 3, 4, 5, 6, 7] rfl)
        exact lp79 fu_ a5 (yv a5.toNatClampNeg) a3 a4 a5 a6 yv wv _ _ _ hf hP hD hS hl
      · have hf := ite_T c62 hf
        refine lv_aload_n hx hb dL_change_62 rfl (lv_at hl 2 rfl) ?_
        refine lv_iconst (v := 3) hx hb dL_change_63 (by decide) ?_
        refine lv_iload hx hb dL_change_64 (lv_at hl 0 rfl) ?_
        refine lv_imul hx hb dL_change_66 ?_
        obtain ⟨h101, hf⟩ := gd_T hf
        refine va_iald hx hb hK hP 1 0 rfl rfl h101 dL_change_67 ?_
        refine lv_iload hx hb dL_change_68 (lv_at hl 6 rfl) ?_
        refine lv_icmp_ne (tgt := 75) hx hb dL_change_70 (by decide) (fun c102 => ?_) (fun c102 => ?_)
        · have hf := ite_F c102 hf
          refine lv_iload hx hb dL_change_75 (lv_at hl 5 rfl) ?_
          refine lv_istore (lv' := [(7, .int a5), (6, .int (yv a5.toNatClampNeg)), (0, .ref y0), (1, .ref w0), (2, .int a3), (3, .int a4), (4, .int a5), (5, .int a6)]) hx hb dL_change_77 hl (by decide) rfl (fun ls hl => ?_)
          have lp79 : ∀ (n : Nat) (l7 : Int32) (l6 : Int32) (l2 : Int32) (l3 : Int32) (l4 : Int32) (l5 : Int32) (yv : Nat → Int32) (wv : Nat → Int32) (H103 : Heap) (locs : List Loc) (ls : Array Slot), f_L_change_L79 n l7 l6 l2 l3 l4 l5 yv wv = some R → va_P (dC, dI) vwCl (wI_ y0 cI 1000 yv ++ wI_ w0 cI 180 wv) H103 → va_D A (wI_ y0 cI 1000 yv ++ wI_ w0 cI 180 wv) → va_S A s.heap H103 locs → lv_has ls 9 [(7, .int l7), (6, .int l6), (0, .ref y0), (1, .ref w0), (2, .int l2), (3, .int l3), (4, .int l4), (5, .int l5)] → W p l e (headSpec wsL_change rm_L_change).room s m args below meth c H103 locs 0 0 (MQ below (Qi_ (dC, dI) (ty_ cI cZ cC cJ cD) R.1 (wI_ y0 cI 1000 R.2.1 ++ wI_ w0 cI 180 R.2.2) A) args s 0 0 A) (F0 m 79 ls []) := by
            intro n
            induction n with
            | zero => intro l7 l6 l2 l3 l4 l5 yv wv H103 locs ls hf hP hD hS hl; exact absurd hf (by simp [f_L_change_L79])
            | succ n ih =>
              intro l7 l6 l2 l3 l4 l5 yv wv H103 locs ls hf hP hD hS hl
              have hf : f_L_change_S79 (f_L_change_L79 n) l7 l6 l2 l3 l4 l5 yv wv = some R := hf
              unfold f_L_change_S79 at hf
              refine lv_iload hx hb dL_change_79 (lv_at hl 0 rfl) ?_
              refine lv_sipush (v := 1000) hx hb dL_change_81 (by decide) ?_
              refine lv_icmp_ge (tgt := 102) hx hb dL_change_84 (by decide) (fun c104 => ?_) (fun c104 => ?_)
              · have hf := ite_T c104 hf
                refine lv_aload_n hx hb dL_change_102 rfl (lv_at hl 2 rfl) ?_
                refine lv_iload hx hb dL_change_103 (lv_at hl 6 rfl) ?_
                refine lv_iload hx hb dL_change_105 (lv_at hl 0 rfl) ?_
                refine lv_iload_n hx hb dL_change_107 rfl (lv_at hl 4 rfl) ?_
                obtain ⟨R106, g107, hf⟩ := bd_B hf
                obtain ⟨yv105, rfl⟩ : ∃ z, z = R106 := ⟨_, rfl⟩
                have hPc := hP.sub (ws' := wI_ y0 cI 1000 yv) [0] rfl
                have hDc := hD.sub (ws' := wI_ y0 cI 1000 yv) [0] (by decide) rfl
                have hFc := va_free (wc := wI_ y0 cI 1000 yv) hD hS hA [0] rfl
                refine va_callv (va_runS (As := [.ref y0, .int l4, .int l7, .int l2]) (rest := []) ⟨hx, hb, hml, hown, hts⟩ (c_L_fill l dC dI cI cZ cC cJ cD y0 H103.size yv l4 l7 l2 yv105 g107) (cwS 4 hts gL_change_L_fill rfl rfl rfl hs_L_fill ⟨Nat.le_of_ble_eq_true rfl, Nat.le_of_ble_eq_true rfl⟩) (preS_ hPc hK hDc rfl) rfl rfl hl.1 rfl (lv_room (Nat.le_of_ble_eq_true rfl)) dL_change_108 ⟨Nat.le_of_ble_eq_true rfl, Nat.le_of_ble_eq_true rfl⟩) hS (fun q _ h => hFc q h) hFc (fun u t H108 locs ht hvm hw hB hz1 hk1 hS => ?_)
                obtain ⟨hP, hD⟩ := aft_ (Wr := wI_ w0 cI 180 wv) (Wc' := wI_ y0 cI 1000 yv105) (W2 := wI_ y0 cI 1000 yv105 ++ wI_ w0 cI 180 wv) hP hD [0] [1] [1, 0] rfl rfl (by decide) (by decide) (by decide) hk1 hFc hB ht rfl
                refine lv_goto (tgt := 188) hx hb dL_change_111 (by decide) ?_
                refine lv_aload_n hx hb dL_change_188 rfl (lv_at hl 3 rfl) ?_
                refine lv_iconst (v := 3) hx hb dL_change_189 (by decide) ?_
                refine lv_iload_n hx hb dL_change_190 rfl (lv_at hl 4 rfl) ?_
                refine lv_imul hx hb dL_change_191 ?_
                refine lv_iload hx hb dL_change_192 (lv_at hl 7 rfl) ?_
                obtain ⟨h110, hf⟩ := gd_T hf
                refine va_iast hx hb hK hP hD hS 1 0 rfl rfl h110 dL_change_194 (fun H111 locs hP hD hS => ?_)
                have hP : va_P (dC, dI) vwCl (wI_ y0 cI 1000 yv105 ++ wI_ w0 cI 180 (upd wv ((3 * l2).toNatClampNeg) l5)) H111 := hP
                have hD : va_D A (wI_ y0 cI 1000 yv105 ++ wI_ w0 cI 180 (upd wv ((3 * l2).toNatClampNeg) l5)) := hD
                obtain ⟨u112, e113, hf⟩ := nm_T hf
                rw [← e113] at hP hD
                refine lv_aload_n hx hb dL_change_195 rfl (lv_at hl 3 rfl) ?_
                refine lv_iconst (v := 3) hx hb dL_change_196 (by decide) ?_
                refine lv_iload_n hx hb dL_change_197 rfl (lv_at hl 4 rfl) ?_
                refine lv_imul hx hb dL_change_198 ?_
                refine lv_iconst (v := 1) hx hb dL_change_199 (by decide) ?_
                refine lv_iadd hx hb dL_change_200 ?_
                refine lv_iconst (v := 0) hx hb dL_change_201 (by decide) ?_
                obtain ⟨h114, hf⟩ := gd_T hf
                refine va_iast hx hb hK hP hD hS 1 0 rfl rfl h114 dL_change_202 (fun H115 locs hP hD hS => ?_)
                have hP : va_P (dC, dI) vwCl (wI_ y0 cI 1000 yv105 ++ wI_ w0 cI 180 (upd u112 (((3 * l2) + 1).toNatClampNeg) (0 : Int32))) H115 := hP
                have hD : va_D A (wI_ y0 cI 1000 yv105 ++ wI_ w0 cI 180 (upd u112 (((3 * l2) + 1).toNatClampNeg) (0 : Int32))) := hD
                obtain ⟨u116, e117, hf⟩ := nm_T hf
                rw [← e117] at hP hD
                refine lv_aload_n hx hb dL_change_203 rfl (lv_at hl 3 rfl) ?_
                refine lv_iconst (v := 3) hx hb dL_change_204 (by decide) ?_
                refine lv_iload_n hx hb dL_change_205 rfl (lv_at hl 4 rfl) ?_
                refine lv_imul hx hb dL_change_206 ?_
                refine lv_iconst (v := 2) hx hb dL_change_207 (by decide) ?_
                refine lv_iadd hx hb dL_change_208 ?_
                refine lv_iload_n hx hb dL_change_209 rfl (lv_at hl 5 rfl) ?_
                obtain ⟨h118, hf⟩ := gd_T hf
                refine va_iast hx hb hK hP hD hS 1 0 rfl rfl h118 dL_change_210 (fun H119 locs hP hD hS => ?_)
                have hP : va_P (dC, dI) vwCl (wI_ y0 cI 1000 yv105 ++ wI_ w0 cI 180 (upd u116 (((3 * l2) + 2).toNatClampNeg) l3)) H119 := hP
                have hD : va_D A (wI_ y0 cI 1000 yv105 ++ wI_ w0 cI 180 (upd u116 (((3 * l2) + 2).toNatClampNeg) l3)) := hD
                obtain ⟨u120, e121, hf⟩ := nm_T hf
                rw [← e121] at hP hD
                refine lv_iload_n hx hb dL_change_211 rfl (lv_at hl 4 rfl) ?_
                refine lv_iconst (v := 1) hx hb dL_change_212 (by decide) ?_
                refine lv_iadd hx hb dL_change_213 ?_
                have hR := Option.some.inj hf
                subst hR
                exact W.iret (v := l2 + 1) hx hb hr (fun t ht hW => ⟨⟨l2 + 1, (), rfl, rfl, by rw [ht]; exact hP, va_K.moved hW.alike hK, hD⟩, hS.F ht⟩) hS.2.2 dL_change_214
              · have hf := ite_F c104 hf
                refine lv_aload_n hx hb dL_change_87 rfl (lv_at hl 2 rfl) ?_
                refine lv_iload hx hb dL_change_88 (lv_at hl 0 rfl) ?_
                obtain ⟨h122, hf⟩ := gd_T hf
                refine va_iald hx hb hK hP 0 0 rfl rfl h122 dL_change_90 ?_
                refine lv_iload hx hb dL_change_91 (lv_at hl 1 rfl) ?_
                refine lv_icmp_ne (tgt := 102) hx hb dL_change_93 (by decide) (fun c123 => ?_) (fun c123 => ?_)
                · have hf := ite_F c123 hf
                  refine lv_aload_n hx hb dL_change_102 rfl (lv_at hl 2 rfl) ?_
                  refine lv_iload hx hb dL_change_103 (lv_at hl 6 rfl) ?_
                  refine lv_iload hx hb dL_change_105 (lv_at hl 0 rfl) ?_
                  refine lv_iload_n hx hb dL_change_107 rfl (lv_at hl 4 rfl) ?_
                  obtain ⟨R125, g126, hf⟩ := bd_B hf
                  obtain ⟨yv124, rfl⟩ : ∃ z, z = R125 := ⟨_, rfl⟩
                  have hPc := hP.sub (ws' := wI_ y0 cI 1000 yv) [0] rfl
                  have hDc := hD.sub (ws' := wI_ y0 cI 1000 yv) [0] (by decide) rfl
                  have hFc := va_free (wc := wI_ y0 cI 1000 yv) hD hS hA [0] rfl
                  refine va_callv (va_runS (As := [.ref y0, .int l4, .int l7, .int l2]) (rest := []) ⟨hx, hb, hml, hown, hts⟩ (c_L_fill l dC dI cI cZ cC cJ cD y0 H103.size yv l4 l7 l2 yv124 g126) (cwS 4 hts gL_change_L_fill rfl rfl rfl hs_L_fill ⟨Nat.le_of_ble_eq_true rfl, Nat.le_of_ble_eq_true rfl⟩) (preS_ hPc hK hDc rfl) rfl rfl hl.1 rfl (lv_room (Nat.le_of_ble_eq_true rfl)) dL_change_108 ⟨Nat.le_of_ble_eq_true rfl, Nat.le_of_ble_eq_true rfl⟩) hS (fun q _ h => hFc q h) hFc (fun u t H127 locs ht hvm hw hB hz1 hk1 hS => ?_)
                  obtain ⟨hP, hD⟩ := aft_ (Wr := wI_ w0 cI 180 wv) (Wc' := wI_ y0 cI 1000 yv124) (W2 := wI_ y0 cI 1000 yv124 ++ wI_ w0 cI 180 wv) hP hD [0] [1] [1, 0] rfl rfl (by decide) (by decide) (by decide) hk1 hFc hB ht rfl
                  refine lv_goto (tgt := 188) hx hb dL_change_111 (by decide) ?_
                  refine lv_aload_n hx hb dL_change_188 rfl (lv_at hl 3 rfl) ?_
                  refine lv_iconst (v := 3) hx hb dL_change_189 (by decide) ?_
                  refine lv_iload_n hx hb dL_change_190 rfl (lv_at hl 4 rfl) ?_
                  refine lv_imul hx hb dL_change_191 ?_
                  refine lv_iload hx hb dL_change_192 (lv_at hl 7 rfl) ?_
                  obtain ⟨h129, hf⟩ := gd_T hf
                  refine va_iast hx hb hK hP hD hS 1 0 rfl rfl h129 dL_change_194 (fun H130 locs hP hD hS => ?_)
                  have hP : va_P (dC, dI) vwCl (wI_ y0 cI 1000 yv124 ++ wI_ w0 cI 180 (upd wv ((3 * l2).toNatClampNeg) l5)) H130 := hP
                  have hD : va_D A (wI_ y0 cI 1000 yv124 ++ wI_ w0 cI 180 (upd wv ((3 * l2).toNatClampNeg) l5)) := hD
                  obtain ⟨u131, e132, hf⟩ := nm_T hf
                  rw [← e132] at hP hD
                  refine lv_aload_n hx hb dL_change_195 rfl (lv_at hl 3 rfl) ?_
                  refine lv_iconst (v := 3) hx hb dL_change_196 (by decide) ?_
                  refine lv_iload_n hx hb dL_change_197 rfl (lv_at hl 4 rfl) ?_
                  refine lv_imul hx hb dL_change_198 ?_
                  refine lv_iconst (v := 1) hx hb dL_change_199 (by decide) ?_
                  refine lv_iadd hx hb dL_change_200 ?_
                  refine lv_iconst (v := 0) hx hb dL_change_201 (by decide) ?_
                  obtain ⟨h133, hf⟩ := gd_T hf
                  refine va_iast hx hb hK hP hD hS 1 0 rfl rfl h133 dL_change_202 (fun H134 locs hP hD hS => ?_)
                  have hP : va_P (dC, dI) vwCl (wI_ y0 cI 1000 yv124 ++ wI_ w0 cI 180 (upd u131 (((3 * l2) + 1).toNatClampNeg) (0 : Int32))) H134 := hP
                  have hD : va_D A (wI_ y0 cI 1000 yv124 ++ wI_ w0 cI 180 (upd u131 (((3 * l2) + 1).toNatClampNeg) (0 : Int32))) := hD
                  obtain ⟨u135, e136, hf⟩ := nm_T hf
                  rw [← e136] at hP hD
                  refine lv_aload_n hx hb dL_change_203 rfl (lv_at hl 3 rfl) ?_
                  refine lv_iconst (v := 3) hx hb dL_change_204 (by decide) ?_
                  refine lv_iload_n hx hb dL_change_205 rfl (lv_at hl 4 rfl) ?_
                  refine lv_imul hx hb dL_change_206 ?_
                  refine lv_iconst (v := 2) hx hb dL_change_207 (by decide) ?_
                  refine lv_iadd hx hb dL_change_208 ?_
                  refine lv_iload_n hx hb dL_change_209 rfl (lv_at hl 5 rfl) ?_
                  obtain ⟨h137, hf⟩ := gd_T hf
                  refine va_iast hx hb hK hP hD hS 1 0 rfl rfl h137 dL_change_210 (fun H138 locs hP hD hS => ?_)
                  have hP : va_P (dC, dI) vwCl (wI_ y0 cI 1000 yv124 ++ wI_ w0 cI 180 (upd u135 (((3 * l2) + 2).toNatClampNeg) l3)) H138 := hP
                  have hD : va_D A (wI_ y0 cI 1000 yv124 ++ wI_ w0 cI 180 (upd u135 (((3 * l2) + 2).toNatClampNeg) l3)) := hD
                  obtain ⟨u139, e140, hf⟩ := nm_T hf
                  rw [← e140] at hP hD
                  refine lv_iload_n hx hb dL_change_211 rfl (lv_at hl 4 rfl) ?_
                  refine lv_iconst (v := 1) hx hb dL_change_212 (by decide) ?_
                  refine lv_iadd hx hb dL_change_213 ?_
                  have hR := Option.some.inj hf
                  subst hR
                  exact W.iret (v := l2 + 1) hx hb hr (fun t ht hW => ⟨⟨l2 + 1, (), rfl, rfl, by rw [ht]; exact hP, va_K.moved hW.alike hK, hD⟩, hS.F ht⟩) hS.2.2 dL_change_214
                · have hf := ite_T c123 hf
                  refine lv_iinc (v := l7 + 1) (lv' := [(7, .int (l7 + 1)), (6, .int l6), (0, .ref y0), (1, .ref w0), (2, .int l2), (3, .int l3), (4, .int l4), (5, .int l5)]) hx hb dL_change_96 hl (k := 0) rfl (by first | rfl | decide) (by decide) rfl (fun ls hl => ?_)
                  refine lv_goto (tgt := 79) hx hb dL_change_99 (by decide) ?_
                  exact ih (l7 + 1) l6 l2 l3 l4 l5 yv wv _ _ _ hf hP hD hS (lv_sub hl [0, 1, 2, 3, 4, 5, 6, 7] rfl)
          exact lp79 fu_ a5 (yv a5.toNatClampNeg) a3 a4 a5 a6 yv wv _ _ _ hf hP hD hS hl
        · have hf := ite_T c102 hf
          refine lv_iload_n hx hb dL_change_73 rfl (lv_at hl 3 rfl) ?_
          have hR := Option.some.inj hf
          subst hR
          exact W.iret (v := a3) hx hb hr (fun t ht hW => ⟨⟨a3, (), rfl, rfl, by rw [ht]; exact hP, va_K.moved hW.alike hK, hD⟩, hS.F ht⟩) hS.2.2 dL_change_74
  · have hf := ite_F c2 hf
    refine lv_iload hx hb dL_change_11 (lv_at hl 5 rfl) ?_
    refine lv_if_eq (tgt := 27) hx hb dL_change_13 (by decide) (fun c141 => ?_) (fun c141 => ?_)
    · have hf := ite_T c141 hf
      refine lv_aload_n hx hb dL_change_27 rfl (lv_at hl 2 rfl) ?_
      refine lv_iconst (v := 3) hx hb dL_change_28 (by decide) ?_
      refine lv_iload hx hb dL_change_29 (lv_at hl 0 rfl) ?_
      refine lv_imul hx hb dL_change_31 ?_
      refine lv_iload hx hb dL_change_32 (lv_at hl 6 rfl) ?_
      obtain ⟨h142, hf⟩ := gd_T hf
      refine va_iast hx hb hK hP hD hS 1 0 rfl rfl h142 dL_change_34 (fun H143 locs hP hD hS => ?_)
      have hP : va_P (dC, dI) vwCl (wI_ y0 cI 1000 yv ++ wI_ w0 cI 180 (upd wv ((3 * (yv a5.toNatClampNeg)).toNatClampNeg) a6)) H143 := hP
      have hD : va_D A (wI_ y0 cI 1000 yv ++ wI_ w0 cI 180 (upd wv ((3 * (yv a5.toNatClampNeg)).toNatClampNeg) a6)) := hD
      obtain ⟨u144, e145, hf⟩ := nm_T hf
      rw [← e145] at hP hD
      refine lv_aload_n hx hb dL_change_35 rfl (lv_at hl 2 rfl) ?_
      refine lv_iconst (v := 3) hx hb dL_change_36 (by decide) ?_
      refine lv_iload hx hb dL_change_37 (lv_at hl 0 rfl) ?_
      refine lv_imul hx hb dL_change_39 ?_
      refine lv_iconst (v := 1) hx hb dL_change_40 (by decide) ?_
      refine lv_iadd hx hb dL_change_41 ?_
      refine lv_iconst (v := 0) hx hb dL_change_42 (by decide) ?_
      obtain ⟨h146, hf⟩ := gd_T hf
      refine va_iast hx hb hK hP hD hS 1 0 rfl rfl h146 dL_change_43 (fun H147 locs hP hD hS => ?_)
      have hP : va_P (dC, dI) vwCl (wI_ y0 cI 1000 yv ++ wI_ w0 cI 180 (upd u144 (((3 * (yv a5.toNatClampNeg)) + 1).toNatClampNeg) (0 : Int32))) H147 := hP
      have hD : va_D A (wI_ y0 cI 1000 yv ++ wI_ w0 cI 180 (upd u144 (((3 * (yv a5.toNatClampNeg)) + 1).toNatClampNeg) (0 : Int32))) := hD
      obtain ⟨u148, e149, hf⟩ := nm_T hf
      rw [← e149] at hP hD
      refine lv_iload_n hx hb dL_change_44 rfl (lv_at hl 3 rfl) ?_
      have hR := Option.some.inj hf
      subst hR
      exact W.iret (v := a3) hx hb hr (fun t ht hW => ⟨⟨a3, (), rfl, rfl, by rw [ht]; exact hP, va_K.moved hW.alike hK, hD⟩, hS.F ht⟩) hS.2.2 dL_change_45
    · have hf := ite_F c141 hf
      refine lv_aload_n hx hb dL_change_16 rfl (lv_at hl 1 rfl) ?_
      refine lv_iload hx hb dL_change_17 (lv_at hl 5 rfl) ?_
      refine lv_iconst (v := 1) hx hb dL_change_19 (by decide) ?_
      refine lv_isub hx hb dL_change_20 ?_
      obtain ⟨h150, hf⟩ := gd_T hf
      refine va_iald hx hb hK hP 0 0 rfl rfl h150 dL_change_21 ?_
      refine lv_iload hx hb dL_change_22 (lv_at hl 0 rfl) ?_
      refine lv_icmp_eq (tgt := 46) hx hb dL_change_24 (by decide) (fun c151 => ?_) (fun c151 => ?_)
      · have hf := ite_T c151 hf
        refine lv_iload hx hb dL_change_46 (lv_at hl 0 rfl) ?_
        refine lv_if_lt (tgt := 114) hx hb dL_change_48 (by decide) (fun c152 => ?_) (fun c152 => ?_)
        · have hf := ite_T c152 hf
          refine lv_aload_n hx hb dL_change_114 rfl (lv_at hl 1 rfl) ?_
          refine lv_iload hx hb dL_change_115 (lv_at hl 5 rfl) ?_
          obtain ⟨R154, g155, hf⟩ := bd_B hf
          obtain ⟨r153, rfl⟩ : ∃ z, z = R154 := ⟨_, rfl⟩
          have hPc := hP.sub (ws' := wI_ y0 cI 1000 yv) [0] rfl
          have hDc := hD.sub (ws' := wI_ y0 cI 1000 yv) [0] (by decide) rfl
          have hFc := va_free (wc := wI_ y0 cI 1000 yv) hD hS hA [0] rfl
          refine va_calli (va_runS (As := [.ref y0, .int a5]) (rest := []) ⟨hx, hb, hml, hown, hts⟩ (c_L_next l dC dI cI cZ cC cJ cD y0 s.heap.size yv a5 r153 g155) (cwS 2 hts gL_change_L_next rfl rfl rfl hs_L_next ⟨Nat.le_of_ble_eq_true rfl, Nat.le_of_ble_eq_true rfl⟩) (preS_ hPc hK hDc rfl) rfl rfl hl.1 rfl (lv_room (Nat.le_of_ble_eq_true rfl)) dL_change_117 ⟨Nat.le_of_ble_eq_true rfl, Nat.le_of_ble_eq_true rfl⟩) hS (fun q _ h => hFc q h) hFc (fun z157 u t H156 locs ht hvm hw hB hz1 hk1 hS => ?_)
          have hw : r153 = z157 := hw.symm
          subst hw
          obtain ⟨hP, hD⟩ := aft_ (Wr := wI_ w0 cI 180 wv) (Wc' := wI_ y0 cI 1000 yv) (W2 := wI_ y0 cI 1000 yv ++ wI_ w0 cI 180 wv) hP hD [0] [1] [1, 0] rfl rfl (by decide) (by decide) (by decide) hk1 hFc hB ht rfl
          refine lv_istore (lv' := [(7, .int r153), (6, .int (yv a5.toNatClampNeg)), (0, .ref y0), (1, .ref w0), (2, .int a3), (3, .int a4), (4, .int a5), (5, .int a6)]) hx hb dL_change_120 hl (by decide) rfl (fun ls hl => ?_)
          refine lv_iload hx hb dL_change_122 (lv_at hl 0 rfl) ?_
          refine lv_sipush (v := 1000) hx hb dL_change_124 (by decide) ?_
          refine lv_icmp_ge (tgt := 179) hx hb dL_change_127 (by decide) (fun c158 => ?_) (fun c158 => ?_)
          · have hf := ite_T c158 hf
            refine lv_aload_n hx hb dL_change_179 rfl (lv_at hl 2 rfl) ?_
            refine lv_iload hx hb dL_change_180 (lv_at hl 6 rfl) ?_
            refine lv_iload hx hb dL_change_182 (lv_at hl 0 rfl) ?_
            refine lv_iload_n hx hb dL_change_184 rfl (lv_at hl 4 rfl) ?_
            obtain ⟨R160, g161, hf⟩ := bd_B hf
            obtain ⟨yv159, rfl⟩ : ∃ z, z = R160 := ⟨_, rfl⟩
            have hPc := hP.sub (ws' := wI_ y0 cI 1000 yv) [0] rfl
            have hDc := hD.sub (ws' := wI_ y0 cI 1000 yv) [0] (by decide) rfl
            have hFc := va_free (wc := wI_ y0 cI 1000 yv) hD hS hA [0] rfl
            refine va_callv (va_runS (As := [.ref y0, .int a5, .int r153, .int a3]) (rest := []) ⟨hx, hb, hml, hown, hts⟩ (c_L_fill l dC dI cI cZ cC cJ cD y0 H156.size yv a5 r153 a3 yv159 g161) (cwS 4 hts gL_change_L_fill rfl rfl rfl hs_L_fill ⟨Nat.le_of_ble_eq_true rfl, Nat.le_of_ble_eq_true rfl⟩) (preS_ hPc hK hDc rfl) rfl rfl hl.1 rfl (lv_room (Nat.le_of_ble_eq_true rfl)) dL_change_185 ⟨Nat.le_of_ble_eq_true rfl, Nat.le_of_ble_eq_true rfl⟩) hS (fun q _ h => hFc q h) hFc (fun u t H162 locs ht hvm hw hB hz1 hk1 hS => ?_)
            obtain ⟨hP, hD⟩ := aft_ (Wr := wI_ w0 cI 180 wv) (Wc' := wI_ y0 cI 1000 yv159) (W2 := wI_ y0 cI 1000 yv159 ++ wI_ w0 cI 180 wv) hP hD [0] [1] [1, 0] rfl rfl (by decide) (by decide) (by decide) hk1 hFc hB ht rfl
            refine lv_aload_n hx hb dL_change_188 rfl (lv_at hl 3 rfl) ?_
            refine lv_iconst (v := 3) hx hb dL_change_189 (by decide) ?_
            refine lv_iload_n hx hb dL_change_190 rfl (lv_at hl 4 rfl) ?_
            refine lv_imul hx hb dL_change_191 ?_
            refine lv_iload hx hb dL_change_192 (lv_at hl 7 rfl) ?_
            obtain ⟨h164, hf⟩ := gd_T hf
            refine va_iast hx hb hK hP hD hS 1 0 rfl rfl h164 dL_change_194 (fun H165 locs hP hD hS => ?_)
            have hP : va_P (dC, dI) vwCl (wI_ y0 cI 1000 yv159 ++ wI_ w0 cI 180 (upd wv ((3 * a3).toNatClampNeg) a6)) H165 := hP
            have hD : va_D A (wI_ y0 cI 1000 yv159 ++ wI_ w0 cI 180 (upd wv ((3 * a3).toNatClampNeg) a6)) := hD
            obtain ⟨u166, e167, hf⟩ := nm_T hf
            rw [← e167] at hP hD
            refine lv_aload_n hx hb dL_change_195 rfl (lv_at hl 3 rfl) ?_
            refine lv_iconst (v := 3) hx hb dL_change_196 (by decide) ?_
            refine lv_iload_n hx hb dL_change_197 rfl (lv_at hl 4 rfl) ?_
            refine lv_imul hx hb dL_change_198 ?_
            refine lv_iconst (v := 1) hx hb dL_change_199 (by decide) ?_
            refine lv_iadd hx hb dL_change_200 ?_
            refine lv_iconst (v := 0) hx hb dL_change_201 (by decide) ?_
            obtain ⟨h168, hf⟩ := gd_T hf
            refine va_iast hx hb hK hP hD hS 1 0 rfl rfl h168 dL_change_202 (fun H169 locs hP hD hS => ?_)
            have hP : va_P (dC, dI) vwCl (wI_ y0 cI 1000 yv159 ++ wI_ w0 cI 180 (upd u166 (((3 * a3) + 1).toNatClampNeg) (0 : Int32))) H169 := hP
            have hD : va_D A (wI_ y0 cI 1000 yv159 ++ wI_ w0 cI 180 (upd u166 (((3 * a3) + 1).toNatClampNeg) (0 : Int32))) := hD
            obtain ⟨u170, e171, hf⟩ := nm_T hf
            rw [← e171] at hP hD
            refine lv_aload_n hx hb dL_change_203 rfl (lv_at hl 3 rfl) ?_
            refine lv_iconst (v := 3) hx hb dL_change_204 (by decide) ?_
            refine lv_iload_n hx hb dL_change_205 rfl (lv_at hl 4 rfl) ?_
            refine lv_imul hx hb dL_change_206 ?_
            refine lv_iconst (v := 2) hx hb dL_change_207 (by decide) ?_
            refine lv_iadd hx hb dL_change_208 ?_
            refine lv_iload_n hx hb dL_change_209 rfl (lv_at hl 5 rfl) ?_
            obtain ⟨h172, hf⟩ := gd_T hf
            refine va_iast hx hb hK hP hD hS 1 0 rfl rfl h172 dL_change_210 (fun H173 locs hP hD hS => ?_)
            have hP : va_P (dC, dI) vwCl (wI_ y0 cI 1000 yv159 ++ wI_ w0 cI 180 (upd u170 (((3 * a3) + 2).toNatClampNeg) a4)) H173 := hP
            have hD : va_D A (wI_ y0 cI 1000 yv159 ++ wI_ w0 cI 180 (upd u170 (((3 * a3) + 2).toNatClampNeg) a4)) := hD
            obtain ⟨u174, e175, hf⟩ := nm_T hf
            rw [← e175] at hP hD
            refine lv_iload_n hx hb dL_change_211 rfl (lv_at hl 4 rfl) ?_
            refine lv_iconst (v := 1) hx hb dL_change_212 (by decide) ?_
            refine lv_iadd hx hb dL_change_213 ?_
            have hR := Option.some.inj hf
            subst hR
            exact W.iret (v := a3 + 1) hx hb hr (fun t ht hW => ⟨⟨a3 + 1, (), rfl, rfl, by rw [ht]; exact hP, va_K.moved hW.alike hK, hD⟩, hS.F ht⟩) hS.2.2 dL_change_214
          · have hf := ite_F c158 hf
            refine lv_aload_n hx hb dL_change_130 rfl (lv_at hl 3 rfl) ?_
            refine lv_iconst (v := 3) hx hb dL_change_131 (by decide) ?_
            refine lv_aload_n hx hb dL_change_132 rfl (lv_at hl 2 rfl) ?_
            refine lv_iload hx hb dL_change_133 (lv_at hl 0 rfl) ?_
            obtain ⟨h176, hf⟩ := gd_T hf
            refine va_iald hx hb hK hP 0 0 rfl rfl h176 dL_change_135 ?_
            refine lv_imul hx hb dL_change_136 ?_
            refine lv_iconst (v := 1) hx hb dL_change_137 (by decide) ?_
            refine lv_iadd hx hb dL_change_138 ?_
            obtain ⟨h177, hf⟩ := gd_T hf
            refine va_iald hx hb hK hP 1 0 rfl rfl h177 dL_change_139 ?_
            refine lv_iconst (v := 1) hx hb dL_change_140 (by decide) ?_
            refine lv_icmp_ne (tgt := 179) hx hb dL_change_141 (by decide) (fun c178 => ?_) (fun c178 => ?_)
            · have hf := ite_F c178 hf
              refine lv_aload_n hx hb dL_change_179 rfl (lv_at hl 2 rfl) ?_
              refine lv_iload hx hb dL_change_180 (lv_at hl 6 rfl) ?_
              refine lv_iload hx hb dL_change_182 (lv_at hl 0 rfl) ?_
              refine lv_iload_n hx hb dL_change_184 rfl (lv_at hl 4 rfl) ?_
              obtain ⟨R180, g181, hf⟩ := bd_B hf
              obtain ⟨yv179, rfl⟩ : ∃ z, z = R180 := ⟨_, rfl⟩
              have hPc := hP.sub (ws' := wI_ y0 cI 1000 yv) [0] rfl
              have hDc := hD.sub (ws' := wI_ y0 cI 1000 yv) [0] (by decide) rfl
              have hFc := va_free (wc := wI_ y0 cI 1000 yv) hD hS hA [0] rfl
              refine va_callv (va_runS (As := [.ref y0, .int a5, .int r153, .int a3]) (rest := []) ⟨hx, hb, hml, hown, hts⟩ (c_L_fill l dC dI cI cZ cC cJ cD y0 H156.size yv a5 r153 a3 yv179 g181) (cwS 4 hts gL_change_L_fill rfl rfl rfl hs_L_fill ⟨Nat.le_of_ble_eq_true rfl, Nat.le_of_ble_eq_true rfl⟩) (preS_ hPc hK hDc rfl) rfl rfl hl.1 rfl (lv_room (Nat.le_of_ble_eq_true rfl)) dL_change_185 ⟨Nat.le_of_ble_eq_true rfl, Nat.le_of_ble_eq_true rfl⟩) hS (fun q _ h => hFc q h) hFc (fun u t H182 locs ht hvm hw hB hz1 hk1 hS => ?_)
              obtain ⟨hP, hD⟩ := aft_ (Wr := wI_ w0 cI 180 wv) (Wc' := wI_ y0 cI 1000 yv179) (W2 := wI_ y0 cI 1000 yv179 ++ wI_ w0 cI 180 wv) hP hD [0] [1] [1, 0] rfl rfl (by decide) (by decide) (by decide) hk1 hFc hB ht rfl
              refine lv_aload_n hx hb dL_change_188 rfl (lv_at hl 3 rfl) ?_
              refine lv_iconst (v := 3) hx hb dL_change_189 (by decide) ?_
              refine lv_iload_n hx hb dL_change_190 rfl (lv_at hl 4 rfl) ?_
              refine lv_imul hx hb dL_change_191 ?_
              refine lv_iload hx hb dL_change_192 (lv_at hl 7 rfl) ?_
              obtain ⟨h184, hf⟩ := gd_T hf
              refine va_iast hx hb hK hP hD hS 1 0 rfl rfl h184 dL_change_194 (fun H185 locs hP hD hS => ?_)
              have hP : va_P (dC, dI) vwCl (wI_ y0 cI 1000 yv179 ++ wI_ w0 cI 180 (upd wv ((3 * a3).toNatClampNeg) a6)) H185 := hP
              have hD : va_D A (wI_ y0 cI 1000 yv179 ++ wI_ w0 cI 180 (upd wv ((3 * a3).toNatClampNeg) a6)) := hD
              obtain ⟨u186, e187, hf⟩ := nm_T hf
              rw [← e187] at hP hD
              refine lv_aload_n hx hb dL_change_195 rfl (lv_at hl 3 rfl) ?_
              refine lv_iconst (v := 3) hx hb dL_change_196 (by decide) ?_
              refine lv_iload_n hx hb dL_change_197 rfl (lv_at hl 4 rfl) ?_
              refine lv_imul hx hb dL_change_198 ?_
              refine lv_iconst (v := 1) hx hb dL_change_199 (by decide) ?_
              refine lv_iadd hx hb dL_change_200 ?_
              refine lv_iconst (v := 0) hx hb dL_change_201 (by decide) ?_
              obtain ⟨h188, hf⟩ := gd_T hf
              refine va_iast hx hb hK hP hD hS 1 0 rfl rfl h188 dL_change_202 (fun H189 locs hP hD hS => ?_)
              have hP : va_P (dC, dI) vwCl (wI_ y0 cI 1000 yv179 ++ wI_ w0 cI 180 (upd u186 (((3 * a3) + 1).toNatClampNeg) (0 : Int32))) H189 := hP
              have hD : va_D A (wI_ y0 cI 1000 yv179 ++ wI_ w0 cI 180 (upd u186 (((3 * a3) + 1).toNatClampNeg) (0 : Int32))) := hD
              obtain ⟨u190, e191, hf⟩ := nm_T hf
              rw [← e191] at hP hD
              refine lv_aload_n hx hb dL_change_203 rfl (lv_at hl 3 rfl) ?_
              refine lv_iconst (v := 3) hx hb dL_change_204 (by decide) ?_
              refine lv_iload_n hx hb dL_change_205 rfl (lv_at hl 4 rfl) ?_
              refine lv_imul hx hb dL_change_206 ?_
              refine lv_iconst (v := 2) hx hb dL_change_207 (by decide) ?_
              refine lv_iadd hx hb dL_change_208 ?_
              refine lv_iload_n hx hb dL_change_209 rfl (lv_at hl 5 rfl) ?_
              obtain ⟨h192, hf⟩ := gd_T hf
              refine va_iast hx hb hK hP hD hS 1 0 rfl rfl h192 dL_change_210 (fun H193 locs hP hD hS => ?_)
              have hP : va_P (dC, dI) vwCl (wI_ y0 cI 1000 yv179 ++ wI_ w0 cI 180 (upd u190 (((3 * a3) + 2).toNatClampNeg) a4)) H193 := hP
              have hD : va_D A (wI_ y0 cI 1000 yv179 ++ wI_ w0 cI 180 (upd u190 (((3 * a3) + 2).toNatClampNeg) a4)) := hD
              obtain ⟨u194, e195, hf⟩ := nm_T hf
              rw [← e195] at hP hD
              refine lv_iload_n hx hb dL_change_211 rfl (lv_at hl 4 rfl) ?_
              refine lv_iconst (v := 1) hx hb dL_change_212 (by decide) ?_
              refine lv_iadd hx hb dL_change_213 ?_
              have hR := Option.some.inj hf
              subst hR
              exact W.iret (v := a3 + 1) hx hb hr (fun t ht hW => ⟨⟨a3 + 1, (), rfl, rfl, by rw [ht]; exact hP, va_K.moved hW.alike hK, hD⟩, hS.F ht⟩) hS.2.2 dL_change_214
            · have hf := ite_T c178 hf
              refine lv_aload_n hx hb dL_change_144 rfl (lv_at hl 2 rfl) ?_
              refine lv_iload hx hb dL_change_145 (lv_at hl 0 rfl) ?_
              obtain ⟨h196, hf⟩ := gd_T hf
              refine va_iald hx hb hK hP 0 0 rfl rfl h196 dL_change_147 ?_
              refine lv_istore (lv' := [(8, .int (yv r153.toNatClampNeg)), (7, .int r153), (6, .int (yv a5.toNatClampNeg)), (0, .ref y0), (1, .ref w0), (2, .int a3), (3, .int a4), (4, .int a5), (5, .int a6)]) hx hb dL_change_148 hl (by decide) rfl (fun ls hl => ?_)
              refine lv_aload_n hx hb dL_change_150 rfl (lv_at hl 3 rfl) ?_
              refine lv_iload hx hb dL_change_151 (lv_at hl 7 rfl) ?_
              refine lv_iload hx hb dL_change_153 (lv_at hl 1 rfl) ?_
              refine lv_iload hx hb dL_change_155 (lv_at hl 0 rfl) ?_
              obtain ⟨R198, g199, hf⟩ := bd_B hf
              obtain ⟨yv197, rfl⟩ : ∃ z, z = R198 := ⟨_, rfl⟩
              have hPc := hP.sub (ws' := wI_ y0 cI 1000 yv) [0] rfl
              have hDc := hD.sub (ws' := wI_ y0 cI 1000 yv) [0] (by decide) rfl
              have hFc := va_free (wc := wI_ y0 cI 1000 yv) hD hS hA [0] rfl
              refine va_callv (va_runS (As := [.ref y0, .int a5, .int r153, .int (yv r153.toNatClampNeg)]) (rest := []) ⟨hx, hb, hml, hown, hts⟩ (c_L_fill l dC dI cI cZ cC cJ cD y0 H156.size yv a5 r153 (yv r153.toNatClampNeg) yv197 g199) (cwS 4 hts gL_change_L_fill rfl rfl rfl hs_L_fill ⟨Nat.le_of_ble_eq_true rfl, Nat.le_of_ble_eq_true rfl⟩) (preS_ hPc hK hDc rfl) rfl rfl hl.1 rfl (lv_room (Nat.le_of_ble_eq_true rfl)) dL_change_157 ⟨Nat.le_of_ble_eq_true rfl, Nat.le_of_ble_eq_true rfl⟩) hS (fun q _ h => hFc q h) hFc (fun u t H200 locs ht hvm hw hB hz1 hk1 hS => ?_)
              obtain ⟨hP, hD⟩ := aft_ (Wr := wI_ w0 cI 180 wv) (Wc' := wI_ y0 cI 1000 yv197) (W2 := wI_ y0 cI 1000 yv197 ++ wI_ w0 cI 180 wv) hP hD [0] [1] [1, 0] rfl rfl (by decide) (by decide) (by decide) hk1 hFc hB ht rfl
              refine lv_aload_n hx hb dL_change_160 rfl (lv_at hl 4 rfl) ?_
              refine lv_iconst (v := 3) hx hb dL_change_161 (by decide) ?_
              refine lv_iload hx hb dL_change_162 (lv_at hl 0 rfl) ?_
              refine lv_imul hx hb dL_change_164 ?_
              refine lv_iload hx hb dL_change_165 (lv_at hl 8 rfl) ?_
              obtain ⟨h202, hf⟩ := gd_T hf
              refine va_iast hx hb hK hP hD hS 1 0 rfl rfl h202 dL_change_167 (fun H203 locs hP hD hS => ?_)
              have hP : va_P (dC, dI) vwCl (wI_ y0 cI 1000 yv197 ++ wI_ w0 cI 180 (upd wv ((3 * (yv r153.toNatClampNeg)).toNatClampNeg) a6)) H203 := hP
              have hD : va_D A (wI_ y0 cI 1000 yv197 ++ wI_ w0 cI 180 (upd wv ((3 * (yv r153.toNatClampNeg)).toNatClampNeg) a6)) := hD
              obtain ⟨u204, e205, hf⟩ := nm_T hf
              rw [← e205] at hP hD
              refine lv_aload_n hx hb dL_change_168 rfl (lv_at hl 4 rfl) ?_
              refine lv_iconst (v := 3) hx hb dL_change_169 (by decide) ?_
              refine lv_iload hx hb dL_change_170 (lv_at hl 0 rfl) ?_
              refine lv_imul hx hb dL_change_172 ?_
              refine lv_iconst (v := 1) hx hb dL_change_173 (by decide) ?_
              refine lv_iadd hx hb dL_change_174 ?_
              refine lv_iconst (v := 0) hx hb dL_change_175 (by decide) ?_
              obtain ⟨h206, hf⟩ := gd_T hf
              refine va_iast hx hb hK hP hD hS 1 0 rfl rfl h206 dL_change_176 (fun H207 locs hP hD hS => ?_)
              have hP : va_P (dC, dI) vwCl (wI_ y0 cI 1000 yv197 ++ wI_ w0 cI 180 (upd u204 (((3 * (yv r153.toNatClampNeg)) + 1).toNatClampNeg) (0 : Int32))) H207 := hP
              have hD : va_D A (wI_ y0 cI 1000 yv197 ++ wI_ w0 cI 180 (upd u204 (((3 * (yv r153.toNatClampNeg)) + 1).toNatClampNeg) (0 : Int32))) := hD
              obtain ⟨u208, e209, hf⟩ := nm_T hf
              rw [← e209] at hP hD
              refine lv_iload_n hx hb dL_change_177 rfl (lv_at hl 5 rfl) ?_
              have hR := Option.some.inj hf
              subst hR
              exact W.iret (v := a3) hx hb hr (fun t ht hW => ⟨⟨a3, (), rfl, rfl, by rw [ht]; exact hP, va_K.moved hW.alike hK, hD⟩, hS.F ht⟩) hS.2.2 dL_change_178
        · have hf := ite_F c152 hf
          refine lv_aload_n hx hb dL_change_51 rfl (lv_at hl 2 rfl) ?_
          refine lv_iconst (v := 3) hx hb dL_change_52 (by decide) ?_
          refine lv_iload hx hb dL_change_53 (lv_at hl 0 rfl) ?_
          refine lv_imul hx hb dL_change_55 ?_
          refine lv_iconst (v := 1) hx hb dL_change_56 (by decide) ?_
          refine lv_iadd hx hb dL_change_57 ?_
          obtain ⟨h210, hf⟩ := gd_T hf
          refine va_iald hx hb hK hP 1 0 rfl rfl h210 dL_change_58 ?_
          refine lv_if_ne (tgt := 75) hx hb dL_change_59 (by decide) (fun c211 => ?_) (fun c211 => ?_)
          · have hf := ite_F c211 hf
            refine lv_iload hx hb dL_change_75 (lv_at hl 5 rfl) ?_
            refine lv_istore (lv' := [(7, .int a5), (6, .int (yv a5.toNatClampNeg)), (0, .ref y0), (1, .ref w0), (2, .int a3), (3, .int a4), (4, .int a5), (5, .int a6)]) hx hb dL_change_77 hl (by decide) rfl (fun ls hl => ?_)
            have lp79 : ∀ (n : Nat) (l7 : Int32) (l6 : Int32) (l2 : Int32) (l3 : Int32) (l4 : Int32) (l5 : Int32) (yv : Nat → Int32) (wv : Nat → Int32) (H212 : Heap) (locs : List Loc) (ls : Array Slot), f_L_change_L79 n l7 l6 l2 l3 l4 l5 yv wv = some R → va_P (dC, dI) vwCl (wI_ y0 cI 1000 yv ++ wI_ w0 cI 180 wv) H212 → va_D A (wI_ y0 cI 1000 yv ++ wI_ w0 cI 180 wv) → va_S A s.heap H212 locs → lv_has ls 9 [(7, .int l7), (6, .int l6), (0, .ref y0), (1, .ref w0), (2, .int l2), (3, .int l3), (4, .int l4), (5, .int l5)] → W p l e (headSpec wsL_change rm_L_change).room s m args below meth c H212 locs 0 0 (MQ below (Qi_ (dC, dI) (ty_ cI cZ cC cJ cD) R.1 (wI_ y0 cI 1000 R.2.1 ++ wI_ w0 cI 180 R.2.2) A) args s 0 0 A) (F0 m 79 ls []) := by
              intro n
              induction n with
              | zero => intro l7 l6 l2 l3 l4 l5 yv wv H212 locs ls hf hP hD hS hl; exact absurd hf (by simp [f_L_change_L79])
              | succ n ih =>
                intro l7 l6 l2 l3 l4 l5 yv wv H212 locs ls hf hP hD hS hl
                have hf : f_L_change_S79 (f_L_change_L79 n) l7 l6 l2 l3 l4 l5 yv wv = some R := hf
                unfold f_L_change_S79 at hf
                refine lv_iload hx hb dL_change_79 (lv_at hl 0 rfl) ?_
                refine lv_sipush (v := 1000) hx hb dL_change_81 (by decide) ?_
                refine lv_icmp_ge (tgt := 102) hx hb dL_change_84 (by decide) (fun c213 => ?_) (fun c213 => ?_)
                · have hf := ite_T c213 hf
                  refine lv_aload_n hx hb dL_change_102 rfl (lv_at hl 2 rfl) ?_
                  refine lv_iload hx hb dL_change_103 (lv_at hl 6 rfl) ?_
                  refine lv_iload hx hb dL_change_105 (lv_at hl 0 rfl) ?_
                  refine lv_iload_n hx hb dL_change_107 rfl (lv_at hl 4 rfl) ?_
                  obtain ⟨R215, g216, hf⟩ := bd_B hf
                  obtain ⟨yv214, rfl⟩ : ∃ z, z = R215 := ⟨_, rfl⟩
                  have hPc := hP.sub (ws' := wI_ y0 cI 1000 yv) [0] rfl
                  have hDc := hD.sub (ws' := wI_ y0 cI 1000 yv) [0] (by decide) rfl
                  have hFc := va_free (wc := wI_ y0 cI 1000 yv) hD hS hA [0] rfl
                  refine va_callv (va_runS (As := [.ref y0, .int l4, .int l7, .int l2]) (rest := []) ⟨hx, hb, hml, hown, hts⟩ (c_L_fill l dC dI cI cZ cC cJ cD y0 H212.size yv l4 l7 l2 yv214 g216) (cwS 4 hts gL_change_L_fill rfl rfl rfl hs_L_fill ⟨Nat.le_of_ble_eq_true rfl, Nat.le_of_ble_eq_true rfl⟩) (preS_ hPc hK hDc rfl) rfl rfl hl.1 rfl (lv_room (Nat.le_of_ble_eq_true rfl)) dL_change_108 ⟨Nat.le_of_ble_eq_true rfl, Nat.le_of_ble_eq_true rfl⟩) hS (fun q _ h => hFc q h) hFc (fun u t H217 locs ht hvm hw hB hz1 hk1 hS => ?_)
                  obtain ⟨hP, hD⟩ := aft_ (Wr := wI_ w0 cI 180 wv) (Wc' := wI_ y0 cI 1000 yv214) (W2 := wI_ y0 cI 1000 yv214 ++ wI_ w0 cI 180 wv) hP hD [0] [1] [1, 0] rfl rfl (by decide) (by decide) (by decide) hk1 hFc hB ht rfl
                  refine lv_goto (tgt := 188) hx hb dL_change_111 (by decide) ?_
                  refine lv_aload_n hx hb dL_change_188 rfl (lv_at hl 3 rfl) ?_
                  refine lv_iconst (v := 3) hx hb dL_change_189 (by decide) ?_
                  refine lv_iload_n hx hb dL_change_190 rfl (lv_at hl 4 rfl) ?_
                  refine lv_imul hx hb dL_change_191 ?_
                  refine lv_iload hx hb dL_change_192 (lv_at hl 7 rfl) ?_
                  obtain ⟨h219, hf⟩ := gd_T hf
                  refine va_iast hx hb hK hP hD hS 1 0 rfl rfl h219 dL_change_194 (fun H220 locs hP hD hS => ?_)
                  have hP : va_P (dC, dI) vwCl (wI_ y0 cI 1000 yv214 ++ wI_ w0 cI 180 (upd wv ((3 * l2).toNatClampNeg) l5)) H220 := hP
                  have hD : va_D A (wI_ y0 cI 1000 yv214 ++ wI_ w0 cI 180 (upd wv ((3 * l2).toNatClampNeg) l5)) := hD
                  obtain ⟨u221, e222, hf⟩ := nm_T hf
                  rw [← e222] at hP hD
                  refine lv_aload_n hx hb dL_change_195 rfl (lv_at hl 3 rfl) ?_
                  refine lv_iconst (v := 3) hx hb dL_change_196 (by decide) ?_
                  refine lv_iload_n hx hb dL_change_197 rfl (lv_at hl 4 rfl) ?_
                  refine lv_imul hx hb dL_change_198 ?_
                  refine lv_iconst (v := 1) hx hb dL_change_199 (by decide) ?_
                  refine lv_iadd hx hb dL_change_200 ?_
                  refine lv_iconst (v := 0) hx hb dL_change_201 (by decide) ?_
                  obtain ⟨h223, hf⟩ := gd_T hf
                  refine va_iast hx hb hK hP hD hS 1 0 rfl rfl h223 dL_change_202 (fun H224 locs hP hD hS => ?_)
                  have hP : va_P (dC, dI) vwCl (wI_ y0 cI 1000 yv214 ++ wI_ w0 cI 180 (upd u221 (((3 * l2) + 1).toNatClampNeg) (0 : Int32))) H224 := hP
                  have hD : va_D A (wI_ y0 cI 1000 yv214 ++ wI_ w0 cI 180 (upd u221 (((3 * l2) + 1).toNatClampNeg) (0 : Int32))) := hD
                  obtain ⟨u225, e226, hf⟩ := nm_T hf
                  rw [← e226] at hP hD
                  refine lv_aload_n hx hb dL_change_203 rfl (lv_at hl 3 rfl) ?_
                  refine lv_iconst (v := 3) hx hb dL_change_204 (by decide) ?_
                  refine lv_iload_n hx hb dL_change_205 rfl (lv_at hl 4 rfl) ?_
                  refine lv_imul hx hb dL_change_206 ?_
                  refine lv_iconst (v := 2) hx hb dL_change_207 (by decide) ?_
                  refine lv_iadd hx hb dL_change_208 ?_
                  refine lv_iload_n hx hb dL_change_209 rfl (lv_at hl 5 rfl) ?_
                  obtain ⟨h227, hf⟩ := gd_T hf
                  refine va_iast hx hb hK hP hD hS 1 0 rfl rfl h227 dL_change_210 (fun H228 locs hP hD hS => ?_)
                  have hP : va_P (dC, dI) vwCl (wI_ y0 cI 1000 yv214 ++ wI_ w0 cI 180 (upd u225 (((3 * l2) + 2).toNatClampNeg) l3)) H228 := hP
                  have hD : va_D A (wI_ y0 cI 1000 yv214 ++ wI_ w0 cI 180 (upd u225 (((3 * l2) + 2).toNatClampNeg) l3)) := hD
                  obtain ⟨u229, e230, hf⟩ := nm_T hf
                  rw [← e230] at hP hD
                  refine lv_iload_n hx hb dL_change_211 rfl (lv_at hl 4 rfl) ?_
                  refine lv_iconst (v := 1) hx hb dL_change_212 (by decide) ?_
                  refine lv_iadd hx hb dL_change_213 ?_
                  have hR := Option.some.inj hf
                  subst hR
                  exact W.iret (v := l2 + 1) hx hb hr (fun t ht hW => ⟨⟨l2 + 1, (), rfl, rfl, by rw [ht]; exact hP, va_K.moved hW.alike hK, hD⟩, hS.F ht⟩) hS.2.2 dL_change_214
                · have hf := ite_F c213 hf
                  refine lv_aload_n hx hb dL_change_87 rfl (lv_at hl 2 rfl) ?_
                  refine lv_iload hx hb dL_change_88 (lv_at hl 0 rfl) ?_
                  obtain ⟨h231, hf⟩ := gd_T hf
                  refine va_iald hx hb hK hP 0 0 rfl rfl h231 dL_change_90 ?_
                  refine lv_iload hx hb dL_change_91 (lv_at hl 1 rfl) ?_
                  refine lv_icmp_ne (tgt := 102) hx hb dL_change_93 (by decide) (fun c232 => ?_) (fun c232 => ?_)
                  · have hf := ite_F c232 hf
                    refine lv_aload_n hx hb dL_change_102 rfl (lv_at hl 2 rfl) ?_
                    refine lv_iload hx hb dL_change_103 (lv_at hl 6 rfl) ?_
                    refine lv_iload hx hb dL_change_105 (lv_at hl 0 rfl) ?_
                    refine lv_iload_n hx hb dL_change_107 rfl (lv_at hl 4 rfl) ?_
                    obtain ⟨R234, g235, hf⟩ := bd_B hf
                    obtain ⟨yv233, rfl⟩ : ∃ z, z = R234 := ⟨_, rfl⟩
                    have hPc := hP.sub (ws' := wI_ y0 cI 1000 yv) [0] rfl
                    have hDc := hD.sub (ws' := wI_ y0 cI 1000 yv) [0] (by decide) rfl
                    have hFc := va_free (wc := wI_ y0 cI 1000 yv) hD hS hA [0] rfl
                    refine va_callv (va_runS (As := [.ref y0, .int l4, .int l7, .int l2]) (rest := []) ⟨hx, hb, hml, hown, hts⟩ (c_L_fill l dC dI cI cZ cC cJ cD y0 H212.size yv l4 l7 l2 yv233 g235) (cwS 4 hts gL_change_L_fill rfl rfl rfl hs_L_fill ⟨Nat.le_of_ble_eq_true rfl, Nat.le_of_ble_eq_true rfl⟩) (preS_ hPc hK hDc rfl) rfl rfl hl.1 rfl (lv_room (Nat.le_of_ble_eq_true rfl)) dL_change_108 ⟨Nat.le_of_ble_eq_true rfl, Nat.le_of_ble_eq_true rfl⟩) hS (fun q _ h => hFc q h) hFc (fun u t H236 locs ht hvm hw hB hz1 hk1 hS => ?_)
                    obtain ⟨hP, hD⟩ := aft_ (Wr := wI_ w0 cI 180 wv) (Wc' := wI_ y0 cI 1000 yv233) (W2 := wI_ y0 cI 1000 yv233 ++ wI_ w0 cI 180 wv) hP hD [0] [1] [1, 0] rfl rfl (by decide) (by decide) (by decide) hk1 hFc hB ht rfl
                    refine lv_goto (tgt := 188) hx hb dL_change_111 (by decide) ?_
                    refine lv_aload_n hx hb dL_change_188 rfl (lv_at hl 3 rfl) ?_
                    refine lv_iconst (v := 3) hx hb dL_change_189 (by decide) ?_
                    refine lv_iload_n hx hb dL_change_190 rfl (lv_at hl 4 rfl) ?_
                    refine lv_imul hx hb dL_change_191 ?_
                    refine lv_iload hx hb dL_change_192 (lv_at hl 7 rfl) ?_
                    obtain ⟨h238, hf⟩ := gd_T hf
                    refine va_iast hx hb hK hP hD hS 1 0 rfl rfl h238 dL_change_194 (fun H239 locs hP hD hS => ?_)
                    have hP : va_P (dC, dI) vwCl (wI_ y0 cI 1000 yv233 ++ wI_ w0 cI 180 (upd wv ((3 * l2).toNatClampNeg) l5)) H239 := hP
                    have hD : va_D A (wI_ y0 cI 1000 yv233 ++ wI_ w0 cI 180 (upd wv ((3 * l2).toNatClampNeg) l5)) := hD
                    obtain ⟨u240, e241, hf⟩ := nm_T hf
                    rw [← e241] at hP hD
                    refine lv_aload_n hx hb dL_change_195 rfl (lv_at hl 3 rfl) ?_
                    refine lv_iconst (v := 3) hx hb dL_change_196 (by decide) ?_
                    refine lv_iload_n hx hb dL_change_197 rfl (lv_at hl 4 rfl) ?_
                    refine lv_imul hx hb dL_change_198 ?_
                    refine lv_iconst (v := 1) hx hb dL_change_199 (by decide) ?_
                    refine lv_iadd hx hb dL_change_200 ?_
                    refine lv_iconst (v := 0) hx hb dL_change_201 (by decide) ?_
                    obtain ⟨h242, hf⟩ := gd_T hf
                    refine va_iast hx hb hK hP hD hS 1 0 rfl rfl h242 dL_change_202 (fun H243 locs hP hD hS => ?_)
                    have hP : va_P (dC, dI) vwCl (wI_ y0 cI 1000 yv233 ++ wI_ w0 cI 180 (upd u240 (((3 * l2) + 1).toNatClampNeg) (0 : Int32))) H243 := hP
                    have hD : va_D A (wI_ y0 cI 1000 yv233 ++ wI_ w0 cI 180 (upd u240 (((3 * l2) + 1).toNatClampNeg) (0 : Int32))) := hD
                    obtain ⟨u244, e245, hf⟩ := nm_T hf
                    rw [← e245] at hP hD
                    refine lv_aload_n hx hb dL_change_203 rfl (lv_at hl 3 rfl) ?_
                    refine lv_iconst (v := 3) hx hb dL_change_204 (by decide) ?_
                    refine lv_iload_n hx hb dL_change_205 rfl (lv_at hl 4 rfl) ?_
                    refine lv_imul hx hb dL_change_206 ?_
                    refine lv_iconst (v := 2) hx hb dL_change_207 (by decide) ?_
                    refine lv_iadd hx hb dL_change_208 ?_
                    refine lv_iload_n hx hb dL_change_209 rfl (lv_at hl 5 rfl) ?_
                    obtain ⟨h246, hf⟩ := gd_T hf
                    refine va_iast hx hb hK hP hD hS 1 0 rfl rfl h246 dL_change_210 (fun H247 locs hP hD hS => ?_)
                    have hP : va_P (dC, dI) vwCl (wI_ y0 cI 1000 yv233 ++ wI_ w0 cI 180 (upd u244 (((3 * l2) + 2).toNatClampNeg) l3)) H247 := hP
                    have hD : va_D A (wI_ y0 cI 1000 yv233 ++ wI_ w0 cI 180 (upd u244 (((3 * l2) + 2).toNatClampNeg) l3)) := hD
                    obtain ⟨u248, e249, hf⟩ := nm_T hf
                    rw [← e249] at hP hD
                    refine lv_iload_n hx hb dL_change_211 rfl (lv_at hl 4 rfl) ?_
                    refine lv_iconst (v := 1) hx hb dL_change_212 (by decide) ?_
                    refine lv_iadd hx hb dL_change_213 ?_
                    have hR := Option.some.inj hf
                    subst hR
                    exact W.iret (v := l2 + 1) hx hb hr (fun t ht hW => ⟨⟨l2 + 1, (), rfl, rfl, by rw [ht]; exact hP, va_K.moved hW.alike hK, hD⟩, hS.F ht⟩) hS.2.2 dL_change_214
                  · have hf := ite_T c232 hf
                    refine lv_iinc (v := l7 + 1) (lv' := [(7, .int (l7 + 1)), (6, .int l6), (0, .ref y0), (1, .ref w0), (2, .int l2), (3, .int l3), (4, .int l4), (5, .int l5)]) hx hb dL_change_96 hl (k := 0) rfl (by first | rfl | decide) (by decide) rfl (fun ls hl => ?_)
                    refine lv_goto (tgt := 79) hx hb dL_change_99 (by decide) ?_
                    exact ih (l7 + 1) l6 l2 l3 l4 l5 yv wv _ _ _ hf hP hD hS (lv_sub hl [0, 1, 2, 3, 4, 5, 6, 7] rfl)
            exact lp79 fu_ a5 (yv a5.toNatClampNeg) a3 a4 a5 a6 yv wv _ _ _ hf hP hD hS hl
          · have hf := ite_T c211 hf
            refine lv_aload_n hx hb dL_change_62 rfl (lv_at hl 2 rfl) ?_
            refine lv_iconst (v := 3) hx hb dL_change_63 (by decide) ?_
            refine lv_iload hx hb dL_change_64 (lv_at hl 0 rfl) ?_
            refine lv_imul hx hb dL_change_66 ?_
            obtain ⟨h250, hf⟩ := gd_T hf
            refine va_iald hx hb hK hP 1 0 rfl rfl h250 dL_change_67 ?_
            refine lv_iload hx hb dL_change_68 (lv_at hl 6 rfl) ?_
            refine lv_icmp_ne (tgt := 75) hx hb dL_change_70 (by decide) (fun c251 => ?_) (fun c251 => ?_)
            · have hf := ite_F c251 hf
              refine lv_iload hx hb dL_change_75 (lv_at hl 5 rfl) ?_
              refine lv_istore (lv' := [(7, .int a5), (6, .int (yv a5.toNatClampNeg)), (0, .ref y0), (1, .ref w0), (2, .int a3), (3, .int a4), (4, .int a5), (5, .int a6)]) hx hb dL_change_77 hl (by decide) rfl (fun ls hl => ?_)
              have lp79 : ∀ (n : Nat) (l7 : Int32) (l6 : Int32) (l2 : Int32) (l3 : Int32) (l4 : Int32) (l5 : Int32) (yv : Nat → Int32) (wv : Nat → Int32) (H252 : Heap) (locs : List Loc) (ls : Array Slot), f_L_change_L79 n l7 l6 l2 l3 l4 l5 yv wv = some R → va_P (dC, dI) vwCl (wI_ y0 cI 1000 yv ++ wI_ w0 cI 180 wv) H252 → va_D A (wI_ y0 cI 1000 yv ++ wI_ w0 cI 180 wv) → va_S A s.heap H252 locs → lv_has ls 9 [(7, .int l7), (6, .int l6), (0, .ref y0), (1, .ref w0), (2, .int l2), (3, .int l3), (4, .int l4), (5, .int l5)] → W p l e (headSpec wsL_change rm_L_change).room s m args below meth c H252 locs 0 0 (MQ below (Qi_ (dC, dI) (ty_ cI cZ cC cJ cD) R.1 (wI_ y0 cI 1000 R.2.1 ++ wI_ w0 cI 180 R.2.2) A) args s 0 0 A) (F0 m 79 ls []) := by
                intro n
                induction n with
                | zero => intro l7 l6 l2 l3 l4 l5 yv wv H252 locs ls hf hP hD hS hl; exact absurd hf (by simp [f_L_change_L79])
                | succ n ih =>
                  intro l7 l6 l2 l3 l4 l5 yv wv H252 locs ls hf hP hD hS hl
                  have hf : f_L_change_S79 (f_L_change_L79 n) l7 l6 l2 l3 l4 l5 yv wv = some R := hf
                  unfold f_L_change_S79 at hf
                  refine lv_iload hx hb dL_change_79 (lv_at hl 0 rfl) ?_
                  refine lv_sipush (v := 1000) hx hb dL_change_81 (by decide) ?_
                  refine lv_icmp_ge (tgt := 102) hx hb dL_change_84 (by decide) (fun c253 => ?_) (fun c253 => ?_)
                  · have hf := ite_T c253 hf
                    refine lv_aload_n hx hb dL_change_102 rfl (lv_at hl 2 rfl) ?_
                    refine lv_iload hx hb dL_change_103 (lv_at hl 6 rfl) ?_
                    refine lv_iload hx hb dL_change_105 (lv_at hl 0 rfl) ?_
                    refine lv_iload_n hx hb dL_change_107 rfl (lv_at hl 4 rfl) ?_
                    obtain ⟨R255, g256, hf⟩ := bd_B hf
                    obtain ⟨yv254, rfl⟩ : ∃ z, z = R255 := ⟨_, rfl⟩
                    have hPc := hP.sub (ws' := wI_ y0 cI 1000 yv) [0] rfl
                    have hDc := hD.sub (ws' := wI_ y0 cI 1000 yv) [0] (by decide) rfl
                    have hFc := va_free (wc := wI_ y0 cI 1000 yv) hD hS hA [0] rfl
                    refine va_callv (va_runS (As := [.ref y0, .int l4, .int l7, .int l2]) (rest := []) ⟨hx, hb, hml, hown, hts⟩ (c_L_fill l dC dI cI cZ cC cJ cD y0 H252.size yv l4 l7 l2 yv254 g256) (cwS 4 hts gL_change_L_fill rfl rfl rfl hs_L_fill ⟨Nat.le_of_ble_eq_true rfl, Nat.le_of_ble_eq_true rfl⟩) (preS_ hPc hK hDc rfl) rfl rfl hl.1 rfl (lv_room (Nat.le_of_ble_eq_true rfl)) dL_change_108 ⟨Nat.le_of_ble_eq_true rfl, Nat.le_of_ble_eq_true rfl⟩) hS (fun q _ h => hFc q h) hFc (fun u t H257 locs ht hvm hw hB hz1 hk1 hS => ?_)
                    obtain ⟨hP, hD⟩ := aft_ (Wr := wI_ w0 cI 180 wv) (Wc' := wI_ y0 cI 1000 yv254) (W2 := wI_ y0 cI 1000 yv254 ++ wI_ w0 cI 180 wv) hP hD [0] [1] [1, 0] rfl rfl (by decide) (by decide) (by decide) hk1 hFc hB ht rfl
                    refine lv_goto (tgt := 188) hx hb dL_change_111 (by decide) ?_
                    refine lv_aload_n hx hb dL_change_188 rfl (lv_at hl 3 rfl) ?_
                    refine lv_iconst (v := 3) hx hb dL_change_189 (by decide) ?_
                    refine lv_iload_n hx hb dL_change_190 rfl (lv_at hl 4 rfl) ?_
                    refine lv_imul hx hb dL_change_191 ?_
                    refine lv_iload hx hb dL_change_192 (lv_at hl 7 rfl) ?_
                    obtain ⟨h259, hf⟩ := gd_T hf
                    refine va_iast hx hb hK hP hD hS 1 0 rfl rfl h259 dL_change_194 (fun H260 locs hP hD hS => ?_)
                    have hP : va_P (dC, dI) vwCl (wI_ y0 cI 1000 yv254 ++ wI_ w0 cI 180 (upd wv ((3 * l2).toNatClampNeg) l5)) H260 := hP
                    have hD : va_D A (wI_ y0 cI 1000 yv254 ++ wI_ w0 cI 180 (upd wv ((3 * l2).toNatClampNeg) l5)) := hD
                    obtain ⟨u261, e262, hf⟩ := nm_T hf
                    rw [← e262] at hP hD
                    refine lv_aload_n hx hb dL_change_195 rfl (lv_at hl 3 rfl) ?_
                    refine lv_iconst (v := 3) hx hb dL_change_196 (by decide) ?_
                    refine lv_iload_n hx hb dL_change_197 rfl (lv_at hl 4 rfl) ?_
                    refine lv_imul hx hb dL_change_198 ?_
                    refine lv_iconst (v := 1) hx hb dL_change_199 (by decide) ?_
                    refine lv_iadd hx hb dL_change_200 ?_
                    refine lv_iconst (v := 0) hx hb dL_change_201 (by decide) ?_
                    obtain ⟨h263, hf⟩ := gd_T hf
                    refine va_iast hx hb hK hP hD hS 1 0 rfl rfl h263 dL_change_202 (fun H264 locs hP hD hS => ?_)
                    have hP : va_P (dC, dI) vwCl (wI_ y0 cI 1000 yv254 ++ wI_ w0 cI 180 (upd u261 (((3 * l2) + 1).toNatClampNeg) (0 : Int32))) H264 := hP
                    have hD : va_D A (wI_ y0 cI 1000 yv254 ++ wI_ w0 cI 180 (upd u261 (((3 * l2) + 1).toNatClampNeg) (0 : Int32))) := hD
                    obtain ⟨u265, e266, hf⟩ := nm_T hf
                    rw [← e266] at hP hD
                    refine lv_aload_n hx hb dL_change_203 rfl (lv_at hl 3 rfl) ?_
                    refine lv_iconst (v := 3) hx hb dL_change_204 (by decide) ?_
                    refine lv_iload_n hx hb dL_change_205 rfl (lv_at hl 4 rfl) ?_
                    refine lv_imul hx hb dL_change_206 ?_
                    refine lv_iconst (v := 2) hx hb dL_change_207 (by decide) ?_
                    refine lv_iadd hx hb dL_change_208 ?_
                    refine lv_iload_n hx hb dL_change_209 rfl (lv_at hl 5 rfl) ?_
                    obtain ⟨h267, hf⟩ := gd_T hf
                    refine va_iast hx hb hK hP hD hS 1 0 rfl rfl h267 dL_change_210 (fun H268 locs hP hD hS => ?_)
                    have hP : va_P (dC, dI) vwCl (wI_ y0 cI 1000 yv254 ++ wI_ w0 cI 180 (upd u265 (((3 * l2) + 2).toNatClampNeg) l3)) H268 := hP
                    have hD : va_D A (wI_ y0 cI 1000 yv254 ++ wI_ w0 cI 180 (upd u265 (((3 * l2) + 2).toNatClampNeg) l3)) := hD
                    obtain ⟨u269, e270, hf⟩ := nm_T hf
                    rw [← e270] at hP hD
                    refine lv_iload_n hx hb dL_change_211 rfl (lv_at hl 4 rfl) ?_
                    refine lv_iconst (v := 1) hx hb dL_change_212 (by decide) ?_
                    refine lv_iadd hx hb dL_change_213 ?_
                    have hR := Option.some.inj hf
                    subst hR
                    exact W.iret (v := l2 + 1) hx hb hr (fun t ht hW => ⟨⟨l2 + 1, (), rfl, rfl, by rw [ht]; exact hP, va_K.moved hW.alike hK, hD⟩, hS.F ht⟩) hS.2.2 dL_change_214
                  · have hf := ite_F c253 hf
                    refine lv_aload_n hx hb dL_change_87 rfl (lv_at hl 2 rfl) ?_
                    refine lv_iload hx hb dL_change_88 (lv_at hl 0 rfl) ?_
                    obtain ⟨h271, hf⟩ := gd_T hf
                    refine va_iald hx hb hK hP 0 0 rfl rfl h271 dL_change_90 ?_
                    refine lv_iload hx hb dL_change_91 (lv_at hl 1 rfl) ?_
                    refine lv_icmp_ne (tgt := 102) hx hb dL_change_93 (by decide) (fun c272 => ?_) (fun c272 => ?_)
                    · have hf := ite_F c272 hf
                      refine lv_aload_n hx hb dL_change_102 rfl (lv_at hl 2 rfl) ?_
                      refine lv_iload hx hb dL_change_103 (lv_at hl 6 rfl) ?_
                      refine lv_iload hx hb dL_change_105 (lv_at hl 0 rfl) ?_
                      refine lv_iload_n hx hb dL_change_107 rfl (lv_at hl 4 rfl) ?_
                      obtain ⟨R274, g275, hf⟩ := bd_B hf
                      obtain ⟨yv273, rfl⟩ : ∃ z, z = R274 := ⟨_, rfl⟩
                      have hPc := hP.sub (ws' := wI_ y0 cI 1000 yv) [0] rfl
                      have hDc := hD.sub (ws' := wI_ y0 cI 1000 yv) [0] (by decide) rfl
                      have hFc := va_free (wc := wI_ y0 cI 1000 yv) hD hS hA [0] rfl
                      refine va_callv (va_runS (As := [.ref y0, .int l4, .int l7, .int l2]) (rest := []) ⟨hx, hb, hml, hown, hts⟩ (c_L_fill l dC dI cI cZ cC cJ cD y0 H252.size yv l4 l7 l2 yv273 g275) (cwS 4 hts gL_change_L_fill rfl rfl rfl hs_L_fill ⟨Nat.le_of_ble_eq_true rfl, Nat.le_of_ble_eq_true rfl⟩) (preS_ hPc hK hDc rfl) rfl rfl hl.1 rfl (lv_room (Nat.le_of_ble_eq_true rfl)) dL_change_108 ⟨Nat.le_of_ble_eq_true rfl, Nat.le_of_ble_eq_true rfl⟩) hS (fun q _ h => hFc q h) hFc (fun u t H276 locs ht hvm hw hB hz1 hk1 hS => ?_)
                      obtain ⟨hP, hD⟩ := aft_ (Wr := wI_ w0 cI 180 wv) (Wc' := wI_ y0 cI 1000 yv273) (W2 := wI_ y0 cI 1000 yv273 ++ wI_ w0 cI 180 wv) hP hD [0] [1] [1, 0] rfl rfl (by decide) (by decide) (by decide) hk1 hFc hB ht rfl
                      refine lv_goto (tgt := 188) hx hb dL_change_111 (by decide) ?_
                      refine lv_aload_n hx hb dL_change_188 rfl (lv_at hl 3 rfl) ?_
                      refine lv_iconst (v := 3) hx hb dL_change_189 (by decide) ?_
                      refine lv_iload_n hx hb dL_change_190 rfl (lv_at hl 4 rfl) ?_
                      refine lv_imul hx hb dL_change_191 ?_
                      refine lv_iload hx hb dL_change_192 (lv_at hl 7 rfl) ?_
                      obtain ⟨h278, hf⟩ := gd_T hf
                      refine va_iast hx hb hK hP hD hS 1 0 rfl rfl h278 dL_change_194 (fun H279 locs hP hD hS => ?_)
                      have hP : va_P (dC, dI) vwCl (wI_ y0 cI 1000 yv273 ++ wI_ w0 cI 180 (upd wv ((3 * l2).toNatClampNeg) l5)) H279 := hP
                      have hD : va_D A (wI_ y0 cI 1000 yv273 ++ wI_ w0 cI 180 (upd wv ((3 * l2).toNatClampNeg) l5)) := hD
                      obtain ⟨u280, e281, hf⟩ := nm_T hf
                      rw [← e281] at hP hD
                      refine lv_aload_n hx hb dL_change_195 rfl (lv_at hl 3 rfl) ?_
                      refine lv_iconst (v := 3) hx hb dL_change_196 (by decide) ?_
                      refine lv_iload_n hx hb dL_change_197 rfl (lv_at hl 4 rfl) ?_
                      refine lv_imul hx hb dL_change_198 ?_
                      refine lv_iconst (v := 1) hx hb dL_change_199 (by decide) ?_
                      refine lv_iadd hx hb dL_change_200 ?_
                      refine lv_iconst (v := 0) hx hb dL_change_201 (by decide) ?_
                      obtain ⟨h282, hf⟩ := gd_T hf
                      refine va_iast hx hb hK hP hD hS 1 0 rfl rfl h282 dL_change_202 (fun H283 locs hP hD hS => ?_)
                      have hP : va_P (dC, dI) vwCl (wI_ y0 cI 1000 yv273 ++ wI_ w0 cI 180 (upd u280 (((3 * l2) + 1).toNatClampNeg) (0 : Int32))) H283 := hP
                      have hD : va_D A (wI_ y0 cI 1000 yv273 ++ wI_ w0 cI 180 (upd u280 (((3 * l2) + 1).toNatClampNeg) (0 : Int32))) := hD
                      obtain ⟨u284, e285, hf⟩ := nm_T hf
                      rw [← e285] at hP hD
                      refine lv_aload_n hx hb dL_change_203 rfl (lv_at hl 3 rfl) ?_
                      refine lv_iconst (v := 3) hx hb dL_change_204 (by decide) ?_
                      refine lv_iload_n hx hb dL_change_205 rfl (lv_at hl 4 rfl) ?_
                      refine lv_imul hx hb dL_change_206 ?_
                      refine lv_iconst (v := 2) hx hb dL_change_207 (by decide) ?_
                      refine lv_iadd hx hb dL_change_208 ?_
                      refine lv_iload_n hx hb dL_change_209 rfl (lv_at hl 5 rfl) ?_
                      obtain ⟨h286, hf⟩ := gd_T hf
                      refine va_iast hx hb hK hP hD hS 1 0 rfl rfl h286 dL_change_210 (fun H287 locs hP hD hS => ?_)
                      have hP : va_P (dC, dI) vwCl (wI_ y0 cI 1000 yv273 ++ wI_ w0 cI 180 (upd u284 (((3 * l2) + 2).toNatClampNeg) l3)) H287 := hP
                      have hD : va_D A (wI_ y0 cI 1000 yv273 ++ wI_ w0 cI 180 (upd u284 (((3 * l2) + 2).toNatClampNeg) l3)) := hD
                      obtain ⟨u288, e289, hf⟩ := nm_T hf
                      rw [← e289] at hP hD
                      refine lv_iload_n hx hb dL_change_211 rfl (lv_at hl 4 rfl) ?_
                      refine lv_iconst (v := 1) hx hb dL_change_212 (by decide) ?_
                      refine lv_iadd hx hb dL_change_213 ?_
                      have hR := Option.some.inj hf
                      subst hR
                      exact W.iret (v := l2 + 1) hx hb hr (fun t ht hW => ⟨⟨l2 + 1, (), rfl, rfl, by rw [ht]; exact hP, va_K.moved hW.alike hK, hD⟩, hS.F ht⟩) hS.2.2 dL_change_214
                    · have hf := ite_T c272 hf
                      refine lv_iinc (v := l7 + 1) (lv' := [(7, .int (l7 + 1)), (6, .int l6), (0, .ref y0), (1, .ref w0), (2, .int l2), (3, .int l3), (4, .int l4), (5, .int l5)]) hx hb dL_change_96 hl (k := 0) rfl (by first | rfl | decide) (by decide) rfl (fun ls hl => ?_)
                      refine lv_goto (tgt := 79) hx hb dL_change_99 (by decide) ?_
                      exact ih (l7 + 1) l6 l2 l3 l4 l5 yv wv _ _ _ hf hP hD hS (lv_sub hl [0, 1, 2, 3, 4, 5, 6, 7] rfl)
              exact lp79 fu_ a5 (yv a5.toNatClampNeg) a3 a4 a5 a6 yv wv _ _ _ hf hP hD hS hl
            · have hf := ite_T c251 hf
              refine lv_iload_n hx hb dL_change_73 rfl (lv_at hl 3 rfl) ?_
              have hR := Option.some.inj hf
              subst hR
              exact W.iret (v := a3) hx hb hr (fun t ht hW => ⟨⟨a3, (), rfl, rfl, by rw [ht]; exact hP, va_K.moved hW.alike hK, hD⟩, hS.F ht⟩) hS.2.2 dL_change_74
      · have hf := ite_F c151 hf
        refine lv_aload_n hx hb dL_change_27 rfl (lv_at hl 2 rfl) ?_
        refine lv_iconst (v := 3) hx hb dL_change_28 (by decide) ?_
        refine lv_iload hx hb dL_change_29 (lv_at hl 0 rfl) ?_
        refine lv_imul hx hb dL_change_31 ?_
        refine lv_iload hx hb dL_change_32 (lv_at hl 6 rfl) ?_
        obtain ⟨h290, hf⟩ := gd_T hf
        refine va_iast hx hb hK hP hD hS 1 0 rfl rfl h290 dL_change_34 (fun H291 locs hP hD hS => ?_)
        have hP : va_P (dC, dI) vwCl (wI_ y0 cI 1000 yv ++ wI_ w0 cI 180 (upd wv ((3 * (yv a5.toNatClampNeg)).toNatClampNeg) a6)) H291 := hP
        have hD : va_D A (wI_ y0 cI 1000 yv ++ wI_ w0 cI 180 (upd wv ((3 * (yv a5.toNatClampNeg)).toNatClampNeg) a6)) := hD
        obtain ⟨u292, e293, hf⟩ := nm_T hf
        rw [← e293] at hP hD
        refine lv_aload_n hx hb dL_change_35 rfl (lv_at hl 2 rfl) ?_
        refine lv_iconst (v := 3) hx hb dL_change_36 (by decide) ?_
        refine lv_iload hx hb dL_change_37 (lv_at hl 0 rfl) ?_
        refine lv_imul hx hb dL_change_39 ?_
        refine lv_iconst (v := 1) hx hb dL_change_40 (by decide) ?_
        refine lv_iadd hx hb dL_change_41 ?_
        refine lv_iconst (v := 0) hx hb dL_change_42 (by decide) ?_
        obtain ⟨h294, hf⟩ := gd_T hf
        refine va_iast hx hb hK hP hD hS 1 0 rfl rfl h294 dL_change_43 (fun H295 locs hP hD hS => ?_)
        have hP : va_P (dC, dI) vwCl (wI_ y0 cI 1000 yv ++ wI_ w0 cI 180 (upd u292 (((3 * (yv a5.toNatClampNeg)) + 1).toNatClampNeg) (0 : Int32))) H295 := hP
        have hD : va_D A (wI_ y0 cI 1000 yv ++ wI_ w0 cI 180 (upd u292 (((3 * (yv a5.toNatClampNeg)) + 1).toNatClampNeg) (0 : Int32))) := hD
        obtain ⟨u296, e297, hf⟩ := nm_T hf
        rw [← e297] at hP hD
        refine lv_iload_n hx hb dL_change_44 rfl (lv_at hl 3 rfl) ?_
        have hR := Option.some.inj hf
        subst hR
        exact W.iret (v := a3) hx hb hr (fun t ht hW => ⟨⟨a3, (), rfl, rfl, by rw [ht]; exact hP, va_K.moved hW.alike hK, hD⟩, hS.F ht⟩) hS.2.2 dL_change_45
theorem hs_L_change : yL_change.cls = RL ∧ yL_change.cls ≠ "java/lang/invoke/MethodHandle" ∧ yL_change.cls ≠ "java/lang/invoke/VarHandle" ∧ (parseMethodDescriptor yL_change.desc).map (fun d => d.parameters.length) = some 6 := by decide +kernel
def f_L_fact (a3 : Int32) (a4 : Int32) (a5 : Int32) (yv : tI_) (wv : tI_) : Option (Int32 × tI_ × tI_) :=
gd_ a5 1000 (
if (yv a5.toNatClampNeg) < 0 then
bd_ (f_L_next a5 yv) (fun r3 =>
if 1000 ≤ r3 then
bd_ (f_L_fill a5 r3 a3 yv) (fun yv9 =>
gd_ (3 * a3) 180 (nm_ (upd wv ((3 * a3).toNatClampNeg) (0 : Int32)) (fun u16 =>
gd_ ((3 * a3) + 1) 180 (nm_ (upd u16 (((3 * a3) + 1).toNatClampNeg) (1 : Int32)) (fun u20 =>
gd_ ((3 * a3) + 2) 180 (nm_ (upd u20 (((3 * a3) + 2).toNatClampNeg) a4) (fun u24 =>
some (a3 + 1, yv9, u24))))))))
else
gd_ r3 1000 (
gd_ ((3 * (yv r3.toNatClampNeg)) + 1) 180 (
if (wv ((3 * (yv r3.toNatClampNeg)) + 1).toNatClampNeg) = 1 then
gd_ r3 1000 (
bd_ (f_L_fill a5 r3 (yv r3.toNatClampNeg) yv) (fun yv47 =>
some (a3, yv47, wv)))
else
bd_ (f_L_fill a5 r3 a3 yv) (fun yv29 =>
gd_ (3 * a3) 180 (nm_ (upd wv ((3 * a3).toNatClampNeg) (0 : Int32)) (fun u36 =>
gd_ ((3 * a3) + 1) 180 (nm_ (upd u36 (((3 * a3) + 1).toNatClampNeg) (1 : Int32)) (fun u40 =>
gd_ ((3 * a3) + 2) 180 (nm_ (upd u40 (((3 * a3) + 2).toNatClampNeg) a4) (fun u44 =>
some (a3 + 1, yv29, u44)))))))))))
else
some (a3, yv, wv))
abbrev rm_L_fact : Room := { frames := 1, cells := 0, slots := 0, locals := 24 }
set_option maxHeartbeats 4000000 in
set_option maxRecDepth 100000 in
theorem c_L_fact (l : Launch) (dC : Nat → ClassId) (dI : Nat → Nat → Nat) (cI cZ cC cJ cD : ClassId) (y0 w0 : Nat) (sz : Nat) (yv : Nat → Int32) (wv : Nat → Int32) (a3 : Int32) (a4 : Int32) (a5 : Int32) (R : Int32 × tI_ × tI_) (hf : f_L_fact a3 a4 a5 yv wv = some R) : Met l yL_fact wsL_fact rm_L_fact (Pc_ (dC, dI) (ty_ cI cZ cC cJ cD) (wI_ y0 cI 1000 yv ++ wI_ w0 cI 180 wv) sz [.ref y0, .ref w0, .int a3, .int a4, .int a5]) (Qi_ (dC, dI) (ty_ cI cZ cC cJ cD) R.1 (wI_ y0 cI 1000 R.2.1 ++ wI_ w0 cI 180 R.2.2) (va_A (wI_ y0 cI 1000 yv ++ wI_ w0 cI 180 wv) sz)) 0 0 (va_A (wI_ y0 cI 1000 yv ++ wI_ w0 cI 180 wv) sz) := by
  refine met_ (cc := cL_fact) (maxL := 6) (ret := (some .int)) (Qcf := fun A => Qi_ (dC, dI) (ty_ cI cZ cC cJ cD) R.1 (wI_ y0 cI 1000 R.2.1 ++ wI_ w0 cI 180 R.2.2) A) (by decide) rfl (Nat.le_of_ble_eq_true rfl) ?_
  intro p e s m args below meth c A ls hx hb hr hts hown hlocks hml hA hP hK hD hl
  have hown : s.vm.findClass RL = some m.cls := hown
  have hl : lv_has ls 6 [(0, .ref y0), (1, .ref w0), (2, .int a3), (3, .int a4), (4, .int a5)] := hl
  have hS : va_S A s.heap s.heap [] := va_S.rf
  unfold f_L_fact at hf
  refine lv_aload_n hx hb dL_fact_0 rfl (lv_at hl 0 rfl) ?_
  refine lv_iload hx hb dL_fact_1 (lv_at hl 4 rfl) ?_
  obtain ⟨h1, hf⟩ := gd_T hf
  refine va_iald hx hb hK hP 0 0 rfl rfl h1 dL_fact_3 ?_
  refine lv_if_lt (tgt := 9) hx hb dL_fact_4 (by decide) (fun c2 => ?_) (fun c2 => ?_)
  · have hf := ite_T c2 hf
    refine lv_aload_n hx hb dL_fact_9 rfl (lv_at hl 0 rfl) ?_
    refine lv_iload hx hb dL_fact_10 (lv_at hl 4 rfl) ?_
    obtain ⟨R4, g5, hf⟩ := bd_B hf
    obtain ⟨r3, rfl⟩ : ∃ z, z = R4 := ⟨_, rfl⟩
    have hPc := hP.sub (ws' := wI_ y0 cI 1000 yv) [0] rfl
    have hDc := hD.sub (ws' := wI_ y0 cI 1000 yv) [0] (by decide) rfl
    have hFc := va_free (wc := wI_ y0 cI 1000 yv) hD hS hA [0] rfl
    refine va_calli (va_runS (As := [.ref y0, .int a5]) (rest := []) ⟨hx, hb, hml, hown, hts⟩ (c_L_next l dC dI cI cZ cC cJ cD y0 s.heap.size yv a5 r3 g5) (cwS 2 hts gL_fact_L_next rfl rfl rfl hs_L_next ⟨Nat.le_of_ble_eq_true rfl, Nat.le_of_ble_eq_true rfl⟩) (preS_ hPc hK hDc rfl) rfl rfl hl.1 rfl (lv_room (Nat.le_of_ble_eq_true rfl)) dL_fact_12 ⟨Nat.le_of_ble_eq_true rfl, Nat.le_of_ble_eq_true rfl⟩) hS (fun q _ h => hFc q h) hFc (fun z7 u t H6 locs ht hvm hw hB hz1 hk1 hS => ?_)
    have hw : r3 = z7 := hw.symm
    subst hw
    obtain ⟨hP, hD⟩ := aft_ (Wr := wI_ w0 cI 180 wv) (Wc' := wI_ y0 cI 1000 yv) (W2 := wI_ y0 cI 1000 yv ++ wI_ w0 cI 180 wv) hP hD [0] [1] [1, 0] rfl rfl (by decide) (by decide) (by decide) hk1 hFc hB ht rfl
    refine lv_istore (lv' := [(5, .int r3), (0, .ref y0), (1, .ref w0), (2, .int a3), (3, .int a4), (4, .int a5)]) hx hb dL_fact_15 hl (by decide) rfl (fun ls hl => ?_)
    refine lv_iload hx hb dL_fact_17 (lv_at hl 0 rfl) ?_
    refine lv_sipush (v := 1000) hx hb dL_fact_19 (by decide) ?_
    refine lv_icmp_ge (tgt := 53) hx hb dL_fact_22 (by decide) (fun c8 => ?_) (fun c8 => ?_)
    · have hf := ite_T c8 hf
      refine lv_aload_n hx hb dL_fact_53 rfl (lv_at hl 1 rfl) ?_
      refine lv_iload hx hb dL_fact_54 (lv_at hl 5 rfl) ?_
      refine lv_iload hx hb dL_fact_56 (lv_at hl 0 rfl) ?_
      refine lv_iload_n hx hb dL_fact_58 rfl (lv_at hl 3 rfl) ?_
      obtain ⟨R10, g11, hf⟩ := bd_B hf
      obtain ⟨yv9, rfl⟩ : ∃ z, z = R10 := ⟨_, rfl⟩
      have hPc := hP.sub (ws' := wI_ y0 cI 1000 yv) [0] rfl
      have hDc := hD.sub (ws' := wI_ y0 cI 1000 yv) [0] (by decide) rfl
      have hFc := va_free (wc := wI_ y0 cI 1000 yv) hD hS hA [0] rfl
      refine va_callv (va_runS (As := [.ref y0, .int a5, .int r3, .int a3]) (rest := []) ⟨hx, hb, hml, hown, hts⟩ (c_L_fill l dC dI cI cZ cC cJ cD y0 H6.size yv a5 r3 a3 yv9 g11) (cwS 4 hts gL_fact_L_fill rfl rfl rfl hs_L_fill ⟨Nat.le_of_ble_eq_true rfl, Nat.le_of_ble_eq_true rfl⟩) (preS_ hPc hK hDc rfl) rfl rfl hl.1 rfl (lv_room (Nat.le_of_ble_eq_true rfl)) dL_fact_59 ⟨Nat.le_of_ble_eq_true rfl, Nat.le_of_ble_eq_true rfl⟩) hS (fun q _ h => hFc q h) hFc (fun u t H12 locs ht hvm hw hB hz1 hk1 hS => ?_)
      obtain ⟨hP, hD⟩ := aft_ (Wr := wI_ w0 cI 180 wv) (Wc' := wI_ y0 cI 1000 yv9) (W2 := wI_ y0 cI 1000 yv9 ++ wI_ w0 cI 180 wv) hP hD [0] [1] [1, 0] rfl rfl (by decide) (by decide) (by decide) hk1 hFc hB ht rfl
      refine lv_aload_n hx hb dL_fact_62 rfl (lv_at hl 2 rfl) ?_
      refine lv_iconst (v := 3) hx hb dL_fact_63 (by decide) ?_
      refine lv_iload_n hx hb dL_fact_64 rfl (lv_at hl 3 rfl) ?_
      refine lv_imul hx hb dL_fact_65 ?_
      refine lv_iconst (v := 0) hx hb dL_fact_66 (by decide) ?_
      obtain ⟨h14, hf⟩ := gd_T hf
      refine va_iast hx hb hK hP hD hS 1 0 rfl rfl h14 dL_fact_67 (fun H15 locs hP hD hS => ?_)
      have hP : va_P (dC, dI) vwCl (wI_ y0 cI 1000 yv9 ++ wI_ w0 cI 180 (upd wv ((3 * a3).toNatClampNeg) (0 : Int32))) H15 := hP
      have hD : va_D A (wI_ y0 cI 1000 yv9 ++ wI_ w0 cI 180 (upd wv ((3 * a3).toNatClampNeg) (0 : Int32))) := hD
      obtain ⟨u16, e17, hf⟩ := nm_T hf
      rw [← e17] at hP hD
      refine lv_aload_n hx hb dL_fact_68 rfl (lv_at hl 2 rfl) ?_
      refine lv_iconst (v := 3) hx hb dL_fact_69 (by decide) ?_
      refine lv_iload_n hx hb dL_fact_70 rfl (lv_at hl 3 rfl) ?_
      refine lv_imul hx hb dL_fact_71 ?_
      refine lv_iconst (v := 1) hx hb dL_fact_72 (by decide) ?_
      refine lv_iadd hx hb dL_fact_73 ?_
      refine lv_iconst (v := 1) hx hb dL_fact_74 (by decide) ?_
      obtain ⟨h18, hf⟩ := gd_T hf
      refine va_iast hx hb hK hP hD hS 1 0 rfl rfl h18 dL_fact_75 (fun H19 locs hP hD hS => ?_)
      have hP : va_P (dC, dI) vwCl (wI_ y0 cI 1000 yv9 ++ wI_ w0 cI 180 (upd u16 (((3 * a3) + 1).toNatClampNeg) (1 : Int32))) H19 := hP
      have hD : va_D A (wI_ y0 cI 1000 yv9 ++ wI_ w0 cI 180 (upd u16 (((3 * a3) + 1).toNatClampNeg) (1 : Int32))) := hD
      obtain ⟨u20, e21, hf⟩ := nm_T hf
      rw [← e21] at hP hD
      refine lv_aload_n hx hb dL_fact_76 rfl (lv_at hl 2 rfl) ?_
      refine lv_iconst (v := 3) hx hb dL_fact_77 (by decide) ?_
      refine lv_iload_n hx hb dL_fact_78 rfl (lv_at hl 3 rfl) ?_
      refine lv_imul hx hb dL_fact_79 ?_
      refine lv_iconst (v := 2) hx hb dL_fact_80 (by decide) ?_
      refine lv_iadd hx hb dL_fact_81 ?_
      refine lv_iload_n hx hb dL_fact_82 rfl (lv_at hl 4 rfl) ?_
      obtain ⟨h22, hf⟩ := gd_T hf
      refine va_iast hx hb hK hP hD hS 1 0 rfl rfl h22 dL_fact_83 (fun H23 locs hP hD hS => ?_)
      have hP : va_P (dC, dI) vwCl (wI_ y0 cI 1000 yv9 ++ wI_ w0 cI 180 (upd u20 (((3 * a3) + 2).toNatClampNeg) a4)) H23 := hP
      have hD : va_D A (wI_ y0 cI 1000 yv9 ++ wI_ w0 cI 180 (upd u20 (((3 * a3) + 2).toNatClampNeg) a4)) := hD
      obtain ⟨u24, e25, hf⟩ := nm_T hf
      rw [← e25] at hP hD
      refine lv_iload_n hx hb dL_fact_84 rfl (lv_at hl 3 rfl) ?_
      refine lv_iconst (v := 1) hx hb dL_fact_85 (by decide) ?_
      refine lv_iadd hx hb dL_fact_86 ?_
      have hR := Option.some.inj hf
      subst hR
      exact W.iret (v := a3 + 1) hx hb hr (fun t ht hW => ⟨⟨a3 + 1, (), rfl, rfl, by rw [ht]; exact hP, va_K.moved hW.alike hK, hD⟩, hS.F ht⟩) hS.2.2 dL_fact_87
    · have hf := ite_F c8 hf
      refine lv_aload_n hx hb dL_fact_25 rfl (lv_at hl 2 rfl) ?_
      refine lv_iconst (v := 3) hx hb dL_fact_26 (by decide) ?_
      refine lv_aload_n hx hb dL_fact_27 rfl (lv_at hl 1 rfl) ?_
      refine lv_iload hx hb dL_fact_28 (lv_at hl 0 rfl) ?_
      obtain ⟨h26, hf⟩ := gd_T hf
      refine va_iald hx hb hK hP 0 0 rfl rfl h26 dL_fact_30 ?_
      refine lv_imul hx hb dL_fact_31 ?_
      refine lv_iconst (v := 1) hx hb dL_fact_32 (by decide) ?_
      refine lv_iadd hx hb dL_fact_33 ?_
      obtain ⟨h27, hf⟩ := gd_T hf
      refine va_iald hx hb hK hP 1 0 rfl rfl h27 dL_fact_34 ?_
      refine lv_iconst (v := 1) hx hb dL_fact_35 (by decide) ?_
      refine lv_icmp_ne (tgt := 53) hx hb dL_fact_36 (by decide) (fun c28 => ?_) (fun c28 => ?_)
      · have hf := ite_F c28 hf
        refine lv_aload_n hx hb dL_fact_53 rfl (lv_at hl 1 rfl) ?_
        refine lv_iload hx hb dL_fact_54 (lv_at hl 5 rfl) ?_
        refine lv_iload hx hb dL_fact_56 (lv_at hl 0 rfl) ?_
        refine lv_iload_n hx hb dL_fact_58 rfl (lv_at hl 3 rfl) ?_
        obtain ⟨R30, g31, hf⟩ := bd_B hf
        obtain ⟨yv29, rfl⟩ : ∃ z, z = R30 := ⟨_, rfl⟩
        have hPc := hP.sub (ws' := wI_ y0 cI 1000 yv) [0] rfl
        have hDc := hD.sub (ws' := wI_ y0 cI 1000 yv) [0] (by decide) rfl
        have hFc := va_free (wc := wI_ y0 cI 1000 yv) hD hS hA [0] rfl
        refine va_callv (va_runS (As := [.ref y0, .int a5, .int r3, .int a3]) (rest := []) ⟨hx, hb, hml, hown, hts⟩ (c_L_fill l dC dI cI cZ cC cJ cD y0 H6.size yv a5 r3 a3 yv29 g31) (cwS 4 hts gL_fact_L_fill rfl rfl rfl hs_L_fill ⟨Nat.le_of_ble_eq_true rfl, Nat.le_of_ble_eq_true rfl⟩) (preS_ hPc hK hDc rfl) rfl rfl hl.1 rfl (lv_room (Nat.le_of_ble_eq_true rfl)) dL_fact_59 ⟨Nat.le_of_ble_eq_true rfl, Nat.le_of_ble_eq_true rfl⟩) hS (fun q _ h => hFc q h) hFc (fun u t H32 locs ht hvm hw hB hz1 hk1 hS => ?_)
        obtain ⟨hP, hD⟩ := aft_ (Wr := wI_ w0 cI 180 wv) (Wc' := wI_ y0 cI 1000 yv29) (W2 := wI_ y0 cI 1000 yv29 ++ wI_ w0 cI 180 wv) hP hD [0] [1] [1, 0] rfl rfl (by decide) (by decide) (by decide) hk1 hFc hB ht rfl
        refine lv_aload_n hx hb dL_fact_62 rfl (lv_at hl 2 rfl) ?_
        refine lv_iconst (v := 3) hx hb dL_fact_63 (by decide) ?_
        refine lv_iload_n hx hb dL_fact_64 rfl (lv_at hl 3 rfl) ?_
        refine lv_imul hx hb dL_fact_65 ?_
        refine lv_iconst (v := 0) hx hb dL_fact_66 (by decide) ?_
        obtain ⟨h34, hf⟩ := gd_T hf
        refine va_iast hx hb hK hP hD hS 1 0 rfl rfl h34 dL_fact_67 (fun H35 locs hP hD hS => ?_)
        have hP : va_P (dC, dI) vwCl (wI_ y0 cI 1000 yv29 ++ wI_ w0 cI 180 (upd wv ((3 * a3).toNatClampNeg) (0 : Int32))) H35 := hP
        have hD : va_D A (wI_ y0 cI 1000 yv29 ++ wI_ w0 cI 180 (upd wv ((3 * a3).toNatClampNeg) (0 : Int32))) := hD
        obtain ⟨u36, e37, hf⟩ := nm_T hf
        rw [← e37] at hP hD
        refine lv_aload_n hx hb dL_fact_68 rfl (lv_at hl 2 rfl) ?_
        refine lv_iconst (v := 3) hx hb dL_fact_69 (by decide) ?_
        refine lv_iload_n hx hb dL_fact_70 rfl (lv_at hl 3 rfl) ?_
        refine lv_imul hx hb dL_fact_71 ?_
        refine lv_iconst (v := 1) hx hb dL_fact_72 (by decide) ?_
        refine lv_iadd hx hb dL_fact_73 ?_
        refine lv_iconst (v := 1) hx hb dL_fact_74 (by decide) ?_
        obtain ⟨h38, hf⟩ := gd_T hf
        refine va_iast hx hb hK hP hD hS 1 0 rfl rfl h38 dL_fact_75 (fun H39 locs hP hD hS => ?_)
        have hP : va_P (dC, dI) vwCl (wI_ y0 cI 1000 yv29 ++ wI_ w0 cI 180 (upd u36 (((3 * a3) + 1).toNatClampNeg) (1 : Int32))) H39 := hP
        have hD : va_D A (wI_ y0 cI 1000 yv29 ++ wI_ w0 cI 180 (upd u36 (((3 * a3) + 1).toNatClampNeg) (1 : Int32))) := hD
        obtain ⟨u40, e41, hf⟩ := nm_T hf
        rw [← e41] at hP hD
        refine lv_aload_n hx hb dL_fact_76 rfl (lv_at hl 2 rfl) ?_
        refine lv_iconst (v := 3) hx hb dL_fact_77 (by decide) ?_
        refine lv_iload_n hx hb dL_fact_78 rfl (lv_at hl 3 rfl) ?_
        refine lv_imul hx hb dL_fact_79 ?_
        refine lv_iconst (v := 2) hx hb dL_fact_80 (by decide) ?_
        refine lv_iadd hx hb dL_fact_81 ?_
        refine lv_iload_n hx hb dL_fact_82 rfl (lv_at hl 4 rfl) ?_
        obtain ⟨h42, hf⟩ := gd_T hf
        refine va_iast hx hb hK hP hD hS 1 0 rfl rfl h42 dL_fact_83 (fun H43 locs hP hD hS => ?_)
        have hP : va_P (dC, dI) vwCl (wI_ y0 cI 1000 yv29 ++ wI_ w0 cI 180 (upd u40 (((3 * a3) + 2).toNatClampNeg) a4)) H43 := hP
        have hD : va_D A (wI_ y0 cI 1000 yv29 ++ wI_ w0 cI 180 (upd u40 (((3 * a3) + 2).toNatClampNeg) a4)) := hD
        obtain ⟨u44, e45, hf⟩ := nm_T hf
        rw [← e45] at hP hD
        refine lv_iload_n hx hb dL_fact_84 rfl (lv_at hl 3 rfl) ?_
        refine lv_iconst (v := 1) hx hb dL_fact_85 (by decide) ?_
        refine lv_iadd hx hb dL_fact_86 ?_
        have hR := Option.some.inj hf
        subst hR
        exact W.iret (v := a3 + 1) hx hb hr (fun t ht hW => ⟨⟨a3 + 1, (), rfl, rfl, by rw [ht]; exact hP, va_K.moved hW.alike hK, hD⟩, hS.F ht⟩) hS.2.2 dL_fact_87
      · have hf := ite_T c28 hf
        refine lv_aload_n hx hb dL_fact_39 rfl (lv_at hl 1 rfl) ?_
        refine lv_iload hx hb dL_fact_40 (lv_at hl 5 rfl) ?_
        refine lv_iload hx hb dL_fact_42 (lv_at hl 0 rfl) ?_
        refine lv_aload_n hx hb dL_fact_44 rfl (lv_at hl 1 rfl) ?_
        refine lv_iload hx hb dL_fact_45 (lv_at hl 0 rfl) ?_
        obtain ⟨h46, hf⟩ := gd_T hf
        refine va_iald hx hb hK hP 0 0 rfl rfl h46 dL_fact_47 ?_
        obtain ⟨R48, g49, hf⟩ := bd_B hf
        obtain ⟨yv47, rfl⟩ : ∃ z, z = R48 := ⟨_, rfl⟩
        have hPc := hP.sub (ws' := wI_ y0 cI 1000 yv) [0] rfl
        have hDc := hD.sub (ws' := wI_ y0 cI 1000 yv) [0] (by decide) rfl
        have hFc := va_free (wc := wI_ y0 cI 1000 yv) hD hS hA [0] rfl
        refine va_callv (va_runS (As := [.ref y0, .int a5, .int r3, .int (yv r3.toNatClampNeg)]) (rest := []) ⟨hx, hb, hml, hown, hts⟩ (c_L_fill l dC dI cI cZ cC cJ cD y0 H6.size yv a5 r3 (yv r3.toNatClampNeg) yv47 g49) (cwS 4 hts gL_fact_L_fill rfl rfl rfl hs_L_fill ⟨Nat.le_of_ble_eq_true rfl, Nat.le_of_ble_eq_true rfl⟩) (preS_ hPc hK hDc rfl) rfl rfl hl.1 rfl (lv_room (Nat.le_of_ble_eq_true rfl)) dL_fact_48 ⟨Nat.le_of_ble_eq_true rfl, Nat.le_of_ble_eq_true rfl⟩) hS (fun q _ h => hFc q h) hFc (fun u t H50 locs ht hvm hw hB hz1 hk1 hS => ?_)
        obtain ⟨hP, hD⟩ := aft_ (Wr := wI_ w0 cI 180 wv) (Wc' := wI_ y0 cI 1000 yv47) (W2 := wI_ y0 cI 1000 yv47 ++ wI_ w0 cI 180 wv) hP hD [0] [1] [1, 0] rfl rfl (by decide) (by decide) (by decide) hk1 hFc hB ht rfl
        refine lv_iload_n hx hb dL_fact_51 rfl (lv_at hl 3 rfl) ?_
        have hR := Option.some.inj hf
        subst hR
        exact W.iret (v := a3) hx hb hr (fun t ht hW => ⟨⟨a3, (), rfl, rfl, by rw [ht]; exact hP, va_K.moved hW.alike hK, hD⟩, hS.F ht⟩) hS.2.2 dL_fact_52
  · have hf := ite_F c2 hf
    refine lv_iload_n hx hb dL_fact_7 rfl (lv_at hl 2 rfl) ?_
    have hR := Option.some.inj hf
    subst hR
    exact W.iret (v := a3) hx hb hr (fun t ht hW => ⟨⟨a3, (), rfl, rfl, by rw [ht]; exact hP, va_K.moved hW.alike hK, hD⟩, hS.F ht⟩) hS.2.2 dL_fact_8
theorem hs_L_fact : yL_fact.cls = RL ∧ yL_fact.cls ≠ "java/lang/invoke/MethodHandle" ∧ yL_fact.cls ≠ "java/lang/invoke/VarHandle" ∧ (parseMethodDescriptor yL_fact.desc).map (fun d => d.parameters.length) = some 5 := by decide +kernel
def f_L_close (a2 : Int32) (a3 : Int32) (D_ : tD_) (S_ : tS_) (V_ : tV_) (F_ : tF_) (R_ : tR_) : Option (Int32 × tD_ × tV_ × tF_) :=
match D_ with
| (dhasSaved, dkeptError, dmoved) =>
match V_ with
| (vkeys, vfirsts, vends, vvalues, vinferred, vgone, vmade) =>
match F_ with
| (fkeys, fdays, famounts, fversions, fcount) =>
match R_ with
| (rkeys, rdays, rvalues, rcount) =>
bd_ (f_X5_close a2 a3 (dhasSaved, dkeptError, dmoved) () (vkeys, vfirsts, vends, vvalues, vinferred, vgone, vmade) (fkeys, fdays, famounts, fversions, fcount) (rkeys, rdays, rvalues, rcount)) (fun (x1, (dh3, dk4, dm5), (vk6, vf7, ve8, vv9, vi10, vg11, vm12), (fk13, fd14, fa15, fv16, fc17)) =>
match x1 with
| Except.error E24 => (if E24 = "java/lang/IndexOutOfBoundsException" then some ((-1 : Int32), (dh3, dk4, dm5), (vk6, vf7, ve8, vv9, vi10, vg11, vm12), (fk13, fd14, fa15, fv16, fc17)) else (if E24 = "java/lang/IllegalArgumentException" then some ((-2 : Int32), (dh3, dk4, dm5), (vk6, vf7, ve8, vv9, vi10, vg11, vm12), (fk13, fd14, fa15, fv16, fc17)) else (if E24 = "java/util/NoSuchElementException" then some ((-3 : Int32), (dh3, dk4, dm5), (vk6, vf7, ve8, vv9, vi10, vg11, vm12), (fk13, fd14, fa15, fv16, fc17)) else (if E24 = "java/lang/IllegalStateException" then some ((-4 : Int32), (dh3, dk4, dm5), (vk6, vf7, ve8, vv9, vi10, vg11, vm12), (fk13, fd14, fa15, fv16, fc17)) else none))))
| Except.ok r2 =>
some (r2, (dh3, dk4, dm5), (vk6, vf7, ve8, vv9, vi10, vg11, vm12), (fk13, fd14, fa15, fv16, fc17)))
abbrev rm_L_close : Room := { frames := 8, cells := 3, slots := 18, locals := 135 }
set_option maxHeartbeats 4000000 in
set_option maxRecDepth 100000 in
theorem c_L_close (l : Launch) (dC : Nat → ClassId) (dI : Nat → Nat → Nat) (cI cZ cC cJ cD : ClassId) (hst : l.stackTraces = false) (d0 s0 z0 b0 q0 t0 v0 f0 r0 v_keys v_firsts v_ends v_values v_inferred v_gone f_keys f_days f_amounts f_versions r_keys r_days r_values : Nat) (sz : Nat) (dhasSaved : Int32) (dkeptError : Int32) (dmoved : Int32) (vkeys : Nat → Int32) (vfirsts : Nat → Int32) (vends : Nat → Int32) (vvalues : Nat → Int32) (vinferred : Nat → Int32) (vgone : Nat → Int32) (vmade : Int32) (fkeys : Nat → Int32) (fdays : Nat → Int32) (famounts : Nat → Int32) (fversions : Nat → Int32) (fcount : Int32) (rkeys : Nat → Int32) (rdays : Nat → Int32) (rvalues : Nat → Int32) (rcount : Int32) (a2 : Int32) (a3 : Int32) (R : Int32 × tD_ × tV_ × tF_) (hf : f_L_close a2 a3 (dhasSaved, dkeptError, dmoved) () (vkeys, vfirsts, vends, vvalues, vinferred, vgone, vmade) (fkeys, fdays, famounts, fversions, fcount) (rkeys, rdays, rvalues, rcount) = some R) : Met l yL_close wsL_close rm_L_close (PL_ (dC, dI) (ty_ cI cZ cC cJ cD) (wD_ d0 s0 z0 b0 q0 t0 dhasSaved dkeptError dmoved ++ wS_ s0 v0 f0 r0 ++ wV_ v0 v_keys v_firsts v_ends v_values v_inferred v_gone cI cZ vkeys vfirsts vends vvalues vinferred vgone vmade ++ wF_ f0 f_keys f_days f_amounts f_versions cI fkeys fdays famounts fversions fcount ++ wR_ r0 r_keys r_days r_values cI rkeys rdays rvalues rcount) sz [.ref d0, .int a2, .int a3]) (Qi_ (dC, dI) (ty_ cI cZ cC cJ cD) R.1 (wD_ d0 s0 z0 b0 q0 t0 R.2.1.1 R.2.1.2.1 R.2.1.2.2 ++ wS_ s0 v0 f0 r0 ++ wV_ v0 v_keys v_firsts v_ends v_values v_inferred v_gone cI cZ R.2.2.1.1 R.2.2.1.2.1 R.2.2.1.2.2.1 R.2.2.1.2.2.2.1 R.2.2.1.2.2.2.2.1 R.2.2.1.2.2.2.2.2.1 R.2.2.1.2.2.2.2.2.2 ++ wF_ f0 f_keys f_days f_amounts f_versions cI R.2.2.2.1 R.2.2.2.2.1 R.2.2.2.2.2.1 R.2.2.2.2.2.2.1 R.2.2.2.2.2.2.2 ++ wR_ r0 r_keys r_days r_values cI rkeys rdays rvalues rcount) (va_A (wD_ d0 s0 z0 b0 q0 t0 dhasSaved dkeptError dmoved ++ wS_ s0 v0 f0 r0 ++ wV_ v0 v_keys v_firsts v_ends v_values v_inferred v_gone cI cZ vkeys vfirsts vends vvalues vinferred vgone vmade ++ wF_ f0 f_keys f_days f_amounts f_versions cI fkeys fdays famounts fversions fcount ++ wR_ r0 r_keys r_days r_values cI rkeys rdays rvalues rcount) sz)) 3 18 (va_A (wD_ d0 s0 z0 b0 q0 t0 dhasSaved dkeptError dmoved ++ wS_ s0 v0 f0 r0 ++ wV_ v0 v_keys v_firsts v_ends v_values v_inferred v_gone cI cZ vkeys vfirsts vends vvalues vinferred vgone vmade ++ wF_ f0 f_keys f_days f_amounts f_versions cI fkeys fdays famounts fversions fcount ++ wR_ r0 r_keys r_days r_values cI rkeys rdays rvalues rcount) sz) := by
  refine metw_ (cc := cL_close) (maxL := 4) (ret := (some .int)) (hh := [(0, 6, 7, 27), (0, 6, 10, 29), (0, 6, 14, 31), (0, 6, 18, 33)]) (Qcf := fun A => Qi_ (dC, dI) (ty_ cI cZ cC cJ cD) R.1 (wD_ d0 s0 z0 b0 q0 t0 R.2.1.1 R.2.1.2.1 R.2.1.2.2 ++ wS_ s0 v0 f0 r0 ++ wV_ v0 v_keys v_firsts v_ends v_values v_inferred v_gone cI cZ R.2.2.1.1 R.2.2.1.2.1 R.2.2.1.2.2.1 R.2.2.1.2.2.2.1 R.2.2.1.2.2.2.2.1 R.2.2.1.2.2.2.2.2.1 R.2.2.1.2.2.2.2.2.2 ++ wF_ f0 f_keys f_days f_amounts f_versions cI R.2.2.2.1 R.2.2.2.2.1 R.2.2.2.2.2.1 R.2.2.2.2.2.2.1 R.2.2.2.2.2.2.2 ++ wR_ r0 r_keys r_days r_values cI rkeys rdays rvalues rcount) A) (by decide) rfl (Nat.le_of_ble_eq_true rfl) ?_
  intro p e s m args below meth c A ls hx hb hr hts hown hlocks hml htab hA hU hN hC hP hK hD hl
  have hown : s.vm.findClass RL = some m.cls := hown
  have hl : lv_has ls 4 [(0, .ref d0), (1, .int a2), (2, .int a3)] := hl
  have hS : va_S A s.heap s.heap [] := va_S.rf
  unfold f_L_close at hf
  try dsimp only at hf
  refine lv_aload_n hx hb dL_close_0 rfl (lv_at hl 0 rfl) ?_
  refine lv_iload_n hx hb dL_close_1 rfl (lv_at hl 1 rfl) ?_
  refine lv_iload_n hx hb dL_close_2 rfl (lv_at hl 2 rfl) ?_
  obtain ⟨R18, g19, hf⟩ := bd_B hf
  obtain ⟨x1, ⟨dh3, dk4, dm5⟩, ⟨vk6, vf7, ve8, vv9, vi10, vg11, vm12⟩, ⟨fk13, fd14, fa15, fv16, fc17⟩⟩ := R18
  try dsimp only at hf
  have hPc := hP
  have hDc := hD
  have hFc := va_free (wc := wD_ d0 s0 z0 b0 q0 t0 dhasSaved dkeptError dmoved ++ wS_ s0 v0 f0 r0 ++ wV_ v0 v_keys v_firsts v_ends v_values v_inferred v_gone cI cZ vkeys vfirsts vends vvalues vinferred vgone vmade ++ wF_ f0 f_keys f_days f_amounts f_versions cI fkeys fdays famounts fversions fcount ++ wR_ r0 r_keys r_days r_values cI rkeys rdays rvalues rcount) hD hS hA [0, 1, 2, 3, 4, 5, 6, 7, 8, 9, 10, 11, 12, 13, 14, 15, 16, 17] rfl
  cases x1 with
  | error E24 =>
    by_cases c25 : E24 = "java/lang/IndexOutOfBoundsException"
    · have hf := ite_T c25 hf
      subst c25
      refine vx_calli (vx_runV (As := [.int a2, .int a3]) (rest := []) ⟨hx, hb, hml, hown, hts⟩ (c_X5_close l dC dI cI cZ cC cJ cD hst d0 s0 z0 b0 q0 t0 v0 f0 r0 v_keys v_firsts v_ends v_values v_inferred v_gone f_keys f_days f_amounts f_versions r_keys r_days r_values s.heap.size dhasSaved dkeptError dmoved vkeys vfirsts vends vvalues vinferred vgone vmade fkeys fdays famounts fversions fcount rkeys rdays rvalues rcount a2 a3 ((Except.error "java/lang/IndexOutOfBoundsException"), (dh3, dk4, dm5), (vk6, vf7, ve8, vv9, vi10, vg11, vm12), (fk13, fd14, fa15, fv16, fc17)) g19) (cwV 2 hts gL_close_X5_close rfl rfl rfl hs_X5_close ⟨Nat.le_of_ble_eq_true rfl, Nat.le_of_ble_eq_true rfl⟩) (preVy_ (ci := 7) (q0 := 0) hPc hK hDc rfl rfl rfl rfl hS hU hN hFc hC.1) rfl rfl hl.1 rfl (lv_room (Nat.le_of_ble_eq_true rfl)) dL_close_3 ⟨Nat.le_of_ble_eq_true rfl, Nat.le_of_ble_eq_true rfl⟩) hS (fun q _ h => hFc q h) hFc (fun q _ h => hFc q h) (fun E ce q26 u t H22 locs ht hvm hp hB hz1 hk1 hS hce hcv hcl => ?_) (fun z23 u t H22 locs ht hvm hw hB hz1 hk1 hS => ?_)
      · obtain ⟨hE, hB⟩ := hB
        cases hE
        obtain ⟨hP, hD⟩ := aft_ (Wr := []) (Wc' := wD_ d0 s0 z0 b0 q0 t0 dh3 dk4 dm5 ++ wS_ s0 v0 f0 r0 ++ wV_ v0 v_keys v_firsts v_ends v_values v_inferred v_gone cI cZ vk6 vf7 ve8 vv9 vi10 vg11 vm12 ++ wF_ f0 f_keys f_days f_amounts f_versions cI fk13 fd14 fa15 fv16 fc17 ++ wR_ r0 r_keys r_days r_values cI rkeys rdays rvalues rcount) (W2 := wD_ d0 s0 z0 b0 q0 t0 dh3 dk4 dm5 ++ wS_ s0 v0 f0 r0 ++ wV_ v0 v_keys v_firsts v_ends v_values v_inferred v_gone cI cZ vk6 vf7 ve8 vv9 vi10 vg11 vm12 ++ wF_ f0 f_keys f_days f_amounts f_versions cI fk13 fd14 fa15 fv16 fc17 ++ wR_ r0 r_keys r_days r_values cI rkeys rdays rvalues rcount) hP hD [0, 1, 2, 3, 4, 5, 6, 7, 8, 9, 10, 11, 12, 13, 14, 15, 16, 17] [] [0, 1, 2, 3, 4, 5, 6, 7, 8, 9, 10, 11, 12, 13, 14, 15, 16, 17] rfl rfl (by decide) (by decide) (by decide) hk1 hFc hB ht rfl
        refine vx_catch (name := "java/lang/IndexOutOfBoundsException") hown [] ⟨0, 6, 7, 27⟩ [⟨0, 6, 10, 29⟩, ⟨0, 6, 14, 31⟩, ⟨0, 6, 18, 33⟩] (htab.trans rfl) (fun z hz => nomatch hz) (by decide +kernel) (by decide) (hts _ (List.mem_of_getElem? (i := 1) rfl)) ((hC.1.1 "java/lang/IndexOutOfBoundsException" (by decide +kernel)).use rfl) hce hcv hcl ?_
        refine lv_astore_n (lv' := [(3, .ref q26), (0, .ref d0), (1, .int a2), (2, .int a3)]) hx hb dL_close_7 rfl hl (by decide) rfl (fun ls hl => ?_)
        refine lv_iconst (v := (-1)) hx hb dL_close_8 (by decide) ?_
        have hR := Option.some.inj hf
        subst hR
        refine W.widen (k := 3) (n := 18) (Nat.le_of_ble_eq_true rfl) (Nat.le_of_ble_eq_true rfl) ?_
        exact W.iret (v := (-1 : Int32)) hx hb hr (fun t ht hW => ⟨⟨(-1 : Int32), (), rfl, rfl, by rw [ht]; exact hP, va_K.moved hW.alike hK, hD⟩, hS.F ht⟩) hS.2.2 dL_close_9
      · exact absurd hw (fun h => nomatch h)
    · have hf := ite_F c25 hf
      by_cases c27 : E24 = "java/lang/IllegalArgumentException"
      · have hf := ite_T c27 hf
        subst c27
        refine vx_calli (vx_runV (As := [.int a2, .int a3]) (rest := []) ⟨hx, hb, hml, hown, hts⟩ (c_X5_close l dC dI cI cZ cC cJ cD hst d0 s0 z0 b0 q0 t0 v0 f0 r0 v_keys v_firsts v_ends v_values v_inferred v_gone f_keys f_days f_amounts f_versions r_keys r_days r_values s.heap.size dhasSaved dkeptError dmoved vkeys vfirsts vends vvalues vinferred vgone vmade fkeys fdays famounts fversions fcount rkeys rdays rvalues rcount a2 a3 ((Except.error "java/lang/IllegalArgumentException"), (dh3, dk4, dm5), (vk6, vf7, ve8, vv9, vi10, vg11, vm12), (fk13, fd14, fa15, fv16, fc17)) g19) (cwV 2 hts gL_close_X5_close rfl rfl rfl hs_X5_close ⟨Nat.le_of_ble_eq_true rfl, Nat.le_of_ble_eq_true rfl⟩) (preVy_ (ci := 7) (q0 := 0) hPc hK hDc rfl rfl rfl rfl hS hU hN hFc hC.1) rfl rfl hl.1 rfl (lv_room (Nat.le_of_ble_eq_true rfl)) dL_close_3 ⟨Nat.le_of_ble_eq_true rfl, Nat.le_of_ble_eq_true rfl⟩) hS (fun q _ h => hFc q h) hFc (fun q _ h => hFc q h) (fun E ce q28 u t H22 locs ht hvm hp hB hz1 hk1 hS hce hcv hcl => ?_) (fun z23 u t H22 locs ht hvm hw hB hz1 hk1 hS => ?_)
        · obtain ⟨hE, hB⟩ := hB
          cases hE
          obtain ⟨hP, hD⟩ := aft_ (Wr := []) (Wc' := wD_ d0 s0 z0 b0 q0 t0 dh3 dk4 dm5 ++ wS_ s0 v0 f0 r0 ++ wV_ v0 v_keys v_firsts v_ends v_values v_inferred v_gone cI cZ vk6 vf7 ve8 vv9 vi10 vg11 vm12 ++ wF_ f0 f_keys f_days f_amounts f_versions cI fk13 fd14 fa15 fv16 fc17 ++ wR_ r0 r_keys r_days r_values cI rkeys rdays rvalues rcount) (W2 := wD_ d0 s0 z0 b0 q0 t0 dh3 dk4 dm5 ++ wS_ s0 v0 f0 r0 ++ wV_ v0 v_keys v_firsts v_ends v_values v_inferred v_gone cI cZ vk6 vf7 ve8 vv9 vi10 vg11 vm12 ++ wF_ f0 f_keys f_days f_amounts f_versions cI fk13 fd14 fa15 fv16 fc17 ++ wR_ r0 r_keys r_days r_values cI rkeys rdays rvalues rcount) hP hD [0, 1, 2, 3, 4, 5, 6, 7, 8, 9, 10, 11, 12, 13, 14, 15, 16, 17] [] [0, 1, 2, 3, 4, 5, 6, 7, 8, 9, 10, 11, 12, 13, 14, 15, 16, 17] rfl rfl (by decide) (by decide) (by decide) hk1 hFc hB ht rfl
          refine vx_catch (name := "java/lang/IllegalArgumentException") hown [⟨0, 6, 7, 27⟩] ⟨0, 6, 10, 29⟩ [⟨0, 6, 14, 31⟩, ⟨0, 6, 18, 33⟩] (htab.trans rfl) (fun z hz => by (rcases List.mem_cons.mp hz with rfl | hz; exact Or.inr ⟨by decide, "java/lang/IndexOutOfBoundsException", hts _ (List.mem_of_getElem? (i := 1) rfl), hC.2 "java/lang/IllegalArgumentException" (by decide +kernel) "java/lang/IndexOutOfBoundsException" (by decide +kernel) (by decide +kernel)⟩; cases hz)) (by decide +kernel) (by decide) (hts _ (List.mem_of_getElem? (i := 2) rfl)) ((hC.1.1 "java/lang/IllegalArgumentException" (by decide +kernel)).use rfl) hce hcv hcl ?_
          refine lv_astore_n (lv' := [(3, .ref q28), (0, .ref d0), (1, .int a2), (2, .int a3)]) hx hb dL_close_10 rfl hl (by decide) rfl (fun ls hl => ?_)
          refine lv_bipush (v := (-2)) hx hb dL_close_11 (by decide) ?_
          have hR := Option.some.inj hf
          subst hR
          refine W.widen (k := 3) (n := 18) (Nat.le_of_ble_eq_true rfl) (Nat.le_of_ble_eq_true rfl) ?_
          exact W.iret (v := (-2 : Int32)) hx hb hr (fun t ht hW => ⟨⟨(-2 : Int32), (), rfl, rfl, by rw [ht]; exact hP, va_K.moved hW.alike hK, hD⟩, hS.F ht⟩) hS.2.2 dL_close_13
        · exact absurd hw (fun h => nomatch h)
      · have hf := ite_F c27 hf
        by_cases c29 : E24 = "java/util/NoSuchElementException"
        · have hf := ite_T c29 hf
          subst c29
          refine vx_calli (vx_runV (As := [.int a2, .int a3]) (rest := []) ⟨hx, hb, hml, hown, hts⟩ (c_X5_close l dC dI cI cZ cC cJ cD hst d0 s0 z0 b0 q0 t0 v0 f0 r0 v_keys v_firsts v_ends v_values v_inferred v_gone f_keys f_days f_amounts f_versions r_keys r_days r_values s.heap.size dhasSaved dkeptError dmoved vkeys vfirsts vends vvalues vinferred vgone vmade fkeys fdays famounts fversions fcount rkeys rdays rvalues rcount a2 a3 ((Except.error "java/util/NoSuchElementException"), (dh3, dk4, dm5), (vk6, vf7, ve8, vv9, vi10, vg11, vm12), (fk13, fd14, fa15, fv16, fc17)) g19) (cwV 2 hts gL_close_X5_close rfl rfl rfl hs_X5_close ⟨Nat.le_of_ble_eq_true rfl, Nat.le_of_ble_eq_true rfl⟩) (preVy_ (ci := 7) (q0 := 0) hPc hK hDc rfl rfl rfl rfl hS hU hN hFc hC.1) rfl rfl hl.1 rfl (lv_room (Nat.le_of_ble_eq_true rfl)) dL_close_3 ⟨Nat.le_of_ble_eq_true rfl, Nat.le_of_ble_eq_true rfl⟩) hS (fun q _ h => hFc q h) hFc (fun q _ h => hFc q h) (fun E ce q30 u t H22 locs ht hvm hp hB hz1 hk1 hS hce hcv hcl => ?_) (fun z23 u t H22 locs ht hvm hw hB hz1 hk1 hS => ?_)
          · obtain ⟨hE, hB⟩ := hB
            cases hE
            obtain ⟨hP, hD⟩ := aft_ (Wr := []) (Wc' := wD_ d0 s0 z0 b0 q0 t0 dh3 dk4 dm5 ++ wS_ s0 v0 f0 r0 ++ wV_ v0 v_keys v_firsts v_ends v_values v_inferred v_gone cI cZ vk6 vf7 ve8 vv9 vi10 vg11 vm12 ++ wF_ f0 f_keys f_days f_amounts f_versions cI fk13 fd14 fa15 fv16 fc17 ++ wR_ r0 r_keys r_days r_values cI rkeys rdays rvalues rcount) (W2 := wD_ d0 s0 z0 b0 q0 t0 dh3 dk4 dm5 ++ wS_ s0 v0 f0 r0 ++ wV_ v0 v_keys v_firsts v_ends v_values v_inferred v_gone cI cZ vk6 vf7 ve8 vv9 vi10 vg11 vm12 ++ wF_ f0 f_keys f_days f_amounts f_versions cI fk13 fd14 fa15 fv16 fc17 ++ wR_ r0 r_keys r_days r_values cI rkeys rdays rvalues rcount) hP hD [0, 1, 2, 3, 4, 5, 6, 7, 8, 9, 10, 11, 12, 13, 14, 15, 16, 17] [] [0, 1, 2, 3, 4, 5, 6, 7, 8, 9, 10, 11, 12, 13, 14, 15, 16, 17] rfl rfl (by decide) (by decide) (by decide) hk1 hFc hB ht rfl
            refine vx_catch (name := "java/util/NoSuchElementException") hown [⟨0, 6, 7, 27⟩, ⟨0, 6, 10, 29⟩] ⟨0, 6, 14, 31⟩ [⟨0, 6, 18, 33⟩] (htab.trans rfl) (fun z hz => by (rcases List.mem_cons.mp hz with rfl | hz; exact Or.inr ⟨by decide, "java/lang/IndexOutOfBoundsException", hts _ (List.mem_of_getElem? (i := 1) rfl), hC.2 "java/util/NoSuchElementException" (by decide +kernel) "java/lang/IndexOutOfBoundsException" (by decide +kernel) (by decide +kernel)⟩; rcases List.mem_cons.mp hz with rfl | hz; exact Or.inr ⟨by decide, "java/lang/IllegalArgumentException", hts _ (List.mem_of_getElem? (i := 2) rfl), hC.2 "java/util/NoSuchElementException" (by decide +kernel) "java/lang/IllegalArgumentException" (by decide +kernel) (by decide +kernel)⟩; cases hz)) (by decide +kernel) (by decide) (hts _ (List.mem_of_getElem? (i := 3) rfl)) ((hC.1.1 "java/util/NoSuchElementException" (by decide +kernel)).use rfl) hce hcv hcl ?_
            refine lv_astore_n (lv' := [(3, .ref q30), (0, .ref d0), (1, .int a2), (2, .int a3)]) hx hb dL_close_14 rfl hl (by decide) rfl (fun ls hl => ?_)
            refine lv_bipush (v := (-3)) hx hb dL_close_15 (by decide) ?_
            have hR := Option.some.inj hf
            subst hR
            refine W.widen (k := 3) (n := 18) (Nat.le_of_ble_eq_true rfl) (Nat.le_of_ble_eq_true rfl) ?_
            exact W.iret (v := (-3 : Int32)) hx hb hr (fun t ht hW => ⟨⟨(-3 : Int32), (), rfl, rfl, by rw [ht]; exact hP, va_K.moved hW.alike hK, hD⟩, hS.F ht⟩) hS.2.2 dL_close_17
          · exact absurd hw (fun h => nomatch h)
        · have hf := ite_F c29 hf
          by_cases c31 : E24 = "java/lang/IllegalStateException"
          · have hf := ite_T c31 hf
            subst c31
            refine vx_calli (vx_runV (As := [.int a2, .int a3]) (rest := []) ⟨hx, hb, hml, hown, hts⟩ (c_X5_close l dC dI cI cZ cC cJ cD hst d0 s0 z0 b0 q0 t0 v0 f0 r0 v_keys v_firsts v_ends v_values v_inferred v_gone f_keys f_days f_amounts f_versions r_keys r_days r_values s.heap.size dhasSaved dkeptError dmoved vkeys vfirsts vends vvalues vinferred vgone vmade fkeys fdays famounts fversions fcount rkeys rdays rvalues rcount a2 a3 ((Except.error "java/lang/IllegalStateException"), (dh3, dk4, dm5), (vk6, vf7, ve8, vv9, vi10, vg11, vm12), (fk13, fd14, fa15, fv16, fc17)) g19) (cwV 2 hts gL_close_X5_close rfl rfl rfl hs_X5_close ⟨Nat.le_of_ble_eq_true rfl, Nat.le_of_ble_eq_true rfl⟩) (preVy_ (ci := 7) (q0 := 0) hPc hK hDc rfl rfl rfl rfl hS hU hN hFc hC.1) rfl rfl hl.1 rfl (lv_room (Nat.le_of_ble_eq_true rfl)) dL_close_3 ⟨Nat.le_of_ble_eq_true rfl, Nat.le_of_ble_eq_true rfl⟩) hS (fun q _ h => hFc q h) hFc (fun q _ h => hFc q h) (fun E ce q32 u t H22 locs ht hvm hp hB hz1 hk1 hS hce hcv hcl => ?_) (fun z23 u t H22 locs ht hvm hw hB hz1 hk1 hS => ?_)
            · obtain ⟨hE, hB⟩ := hB
              cases hE
              obtain ⟨hP, hD⟩ := aft_ (Wr := []) (Wc' := wD_ d0 s0 z0 b0 q0 t0 dh3 dk4 dm5 ++ wS_ s0 v0 f0 r0 ++ wV_ v0 v_keys v_firsts v_ends v_values v_inferred v_gone cI cZ vk6 vf7 ve8 vv9 vi10 vg11 vm12 ++ wF_ f0 f_keys f_days f_amounts f_versions cI fk13 fd14 fa15 fv16 fc17 ++ wR_ r0 r_keys r_days r_values cI rkeys rdays rvalues rcount) (W2 := wD_ d0 s0 z0 b0 q0 t0 dh3 dk4 dm5 ++ wS_ s0 v0 f0 r0 ++ wV_ v0 v_keys v_firsts v_ends v_values v_inferred v_gone cI cZ vk6 vf7 ve8 vv9 vi10 vg11 vm12 ++ wF_ f0 f_keys f_days f_amounts f_versions cI fk13 fd14 fa15 fv16 fc17 ++ wR_ r0 r_keys r_days r_values cI rkeys rdays rvalues rcount) hP hD [0, 1, 2, 3, 4, 5, 6, 7, 8, 9, 10, 11, 12, 13, 14, 15, 16, 17] [] [0, 1, 2, 3, 4, 5, 6, 7, 8, 9, 10, 11, 12, 13, 14, 15, 16, 17] rfl rfl (by decide) (by decide) (by decide) hk1 hFc hB ht rfl
              refine vx_catch (name := "java/lang/IllegalStateException") hown [⟨0, 6, 7, 27⟩, ⟨0, 6, 10, 29⟩, ⟨0, 6, 14, 31⟩] ⟨0, 6, 18, 33⟩ [] (htab.trans rfl) (fun z hz => by (rcases List.mem_cons.mp hz with rfl | hz; exact Or.inr ⟨by decide, "java/lang/IndexOutOfBoundsException", hts _ (List.mem_of_getElem? (i := 1) rfl), hC.2 "java/lang/IllegalStateException" (by decide +kernel) "java/lang/IndexOutOfBoundsException" (by decide +kernel) (by decide +kernel)⟩; rcases List.mem_cons.mp hz with rfl | hz; exact Or.inr ⟨by decide, "java/lang/IllegalArgumentException", hts _ (List.mem_of_getElem? (i := 2) rfl), hC.2 "java/lang/IllegalStateException" (by decide +kernel) "java/lang/IllegalArgumentException" (by decide +kernel) (by decide +kernel)⟩; rcases List.mem_cons.mp hz with rfl | hz; exact Or.inr ⟨by decide, "java/util/NoSuchElementException", hts _ (List.mem_of_getElem? (i := 3) rfl), hC.2 "java/lang/IllegalStateException" (by decide +kernel) "java/util/NoSuchElementException" (by decide +kernel) (by decide +kernel)⟩; cases hz)) (by decide +kernel) (by decide) (hts _ (List.mem_of_getElem? (i := 4) rfl)) ((hC.1.1 "java/lang/IllegalStateException" (by decide +kernel)).use rfl) hce hcv hcl ?_
              refine lv_astore_n (lv' := [(3, .ref q32), (0, .ref d0), (1, .int a2), (2, .int a3)]) hx hb dL_close_18 rfl hl (by decide) rfl (fun ls hl => ?_)
              refine lv_bipush (v := (-4)) hx hb dL_close_19 (by decide) ?_
              have hR := Option.some.inj hf
              subst hR
              refine W.widen (k := 3) (n := 18) (Nat.le_of_ble_eq_true rfl) (Nat.le_of_ble_eq_true rfl) ?_
              exact W.iret (v := (-4 : Int32)) hx hb hr (fun t ht hW => ⟨⟨(-4 : Int32), (), rfl, rfl, by rw [ht]; exact hP, va_K.moved hW.alike hK, hD⟩, hS.F ht⟩) hS.2.2 dL_close_21
            · exact absurd hw (fun h => nomatch h)
          · have hf := ite_F c31 hf
            exact absurd hf (fun h => nomatch h)
  | ok r2 =>
    refine vx_calli (vx_runV (As := [.int a2, .int a3]) (rest := []) ⟨hx, hb, hml, hown, hts⟩ (c_X5_close l dC dI cI cZ cC cJ cD hst d0 s0 z0 b0 q0 t0 v0 f0 r0 v_keys v_firsts v_ends v_values v_inferred v_gone f_keys f_days f_amounts f_versions r_keys r_days r_values s.heap.size dhasSaved dkeptError dmoved vkeys vfirsts vends vvalues vinferred vgone vmade fkeys fdays famounts fversions fcount rkeys rdays rvalues rcount a2 a3 ((Except.ok r2), (dh3, dk4, dm5), (vk6, vf7, ve8, vv9, vi10, vg11, vm12), (fk13, fd14, fa15, fv16, fc17)) g19) (cwV 2 hts gL_close_X5_close rfl rfl rfl hs_X5_close ⟨Nat.le_of_ble_eq_true rfl, Nat.le_of_ble_eq_true rfl⟩) (preVy_ (ci := 7) (q0 := 0) hPc hK hDc rfl rfl rfl rfl hS hU hN hFc hC.1) rfl rfl hl.1 rfl (lv_room (Nat.le_of_ble_eq_true rfl)) dL_close_3 ⟨Nat.le_of_ble_eq_true rfl, Nat.le_of_ble_eq_true rfl⟩) hS (fun q _ h => hFc q h) hFc (fun q _ h => hFc q h) (fun E ce q9 u t H22 locs ht hvm hp hB hz1 hk1 hS hce hcv hcl => ?_) (fun z23 u t H22 locs ht hvm hw hB hz1 hk1 hS => ?_)
    · exact absurd hB.1 (fun h => nomatch h)
    · have hw : r2 = z23 := Except.ok.inj hw
      subst hw
      obtain ⟨hP, hD⟩ := aft_ (Wr := []) (Wc' := wD_ d0 s0 z0 b0 q0 t0 dh3 dk4 dm5 ++ wS_ s0 v0 f0 r0 ++ wV_ v0 v_keys v_firsts v_ends v_values v_inferred v_gone cI cZ vk6 vf7 ve8 vv9 vi10 vg11 vm12 ++ wF_ f0 f_keys f_days f_amounts f_versions cI fk13 fd14 fa15 fv16 fc17 ++ wR_ r0 r_keys r_days r_values cI rkeys rdays rvalues rcount) (W2 := wD_ d0 s0 z0 b0 q0 t0 dh3 dk4 dm5 ++ wS_ s0 v0 f0 r0 ++ wV_ v0 v_keys v_firsts v_ends v_values v_inferred v_gone cI cZ vk6 vf7 ve8 vv9 vi10 vg11 vm12 ++ wF_ f0 f_keys f_days f_amounts f_versions cI fk13 fd14 fa15 fv16 fc17 ++ wR_ r0 r_keys r_days r_values cI rkeys rdays rvalues rcount) hP hD [0, 1, 2, 3, 4, 5, 6, 7, 8, 9, 10, 11, 12, 13, 14, 15, 16, 17] [] [0, 1, 2, 3, 4, 5, 6, 7, 8, 9, 10, 11, 12, 13, 14, 15, 16, 17] rfl rfl (by decide) (by decide) (by decide) hk1 hFc hB ht rfl
      have hR := Option.some.inj hf
      subst hR
      refine W.widen (k := 3) (n := 18) (Nat.le_of_ble_eq_true rfl) (Nat.le_of_ble_eq_true rfl) ?_
      exact W.iret (v := r2) hx hb hr (fun t ht hW => ⟨⟨r2, (), rfl, rfl, by rw [ht]; exact hP, va_K.moved hW.alike hK, hD⟩, hS.F ht⟩) hS.2.2 dL_close_6
theorem hs_L_close : yL_close.cls ≠ "java/lang/invoke/MethodHandle" ∧ yL_close.cls ≠ "java/lang/invoke/VarHandle" ∧ (parseMethodDescriptor yL_close.desc).map (fun d => d.parameters.length) = some 3 := by decide +kernel
def f_L_remove (a2 : Int32) (D_ : tD_) (S_ : tS_) (V_ : tV_) (F_ : tF_) (R_ : tR_) : Option (Int32 × tD_ × tV_ × tF_) :=
match D_ with
| (dhasSaved, dkeptError, dmoved) =>
match V_ with
| (vkeys, vfirsts, vends, vvalues, vinferred, vgone, vmade) =>
match F_ with
| (fkeys, fdays, famounts, fversions, fcount) =>
match R_ with
| (rkeys, rdays, rvalues, rcount) =>
bd_ (f_X5_remove a2 (dhasSaved, dkeptError, dmoved) () (vkeys, vfirsts, vends, vvalues, vinferred, vgone, vmade) (fkeys, fdays, famounts, fversions, fcount) (rkeys, rdays, rvalues, rcount)) (fun (x1, (dh3, dk4, dm5), (vk6, vf7, ve8, vv9, vi10, vg11, vm12), (fk13, fd14, fa15, fv16, fc17)) =>
match x1 with
| Except.error E24 => (if E24 = "java/lang/IndexOutOfBoundsException" then some ((-1 : Int32), (dh3, dk4, dm5), (vk6, vf7, ve8, vv9, vi10, vg11, vm12), (fk13, fd14, fa15, fv16, fc17)) else (if E24 = "java/lang/IllegalStateException" then some ((-2 : Int32), (dh3, dk4, dm5), (vk6, vf7, ve8, vv9, vi10, vg11, vm12), (fk13, fd14, fa15, fv16, fc17)) else none))
| Except.ok r2 =>
some (r2, (dh3, dk4, dm5), (vk6, vf7, ve8, vv9, vi10, vg11, vm12), (fk13, fd14, fa15, fv16, fc17)))
abbrev rm_L_remove : Room := { frames := 8, cells := 2, slots := 12, locals := 133 }
set_option maxHeartbeats 4000000 in
set_option maxRecDepth 100000 in
theorem c_L_remove (l : Launch) (dC : Nat → ClassId) (dI : Nat → Nat → Nat) (cI cZ cC cJ cD : ClassId) (hst : l.stackTraces = false) (d0 s0 z0 b0 q0 t0 v0 f0 r0 v_keys v_firsts v_ends v_values v_inferred v_gone f_keys f_days f_amounts f_versions r_keys r_days r_values : Nat) (sz : Nat) (dhasSaved : Int32) (dkeptError : Int32) (dmoved : Int32) (vkeys : Nat → Int32) (vfirsts : Nat → Int32) (vends : Nat → Int32) (vvalues : Nat → Int32) (vinferred : Nat → Int32) (vgone : Nat → Int32) (vmade : Int32) (fkeys : Nat → Int32) (fdays : Nat → Int32) (famounts : Nat → Int32) (fversions : Nat → Int32) (fcount : Int32) (rkeys : Nat → Int32) (rdays : Nat → Int32) (rvalues : Nat → Int32) (rcount : Int32) (a2 : Int32) (R : Int32 × tD_ × tV_ × tF_) (hf : f_L_remove a2 (dhasSaved, dkeptError, dmoved) () (vkeys, vfirsts, vends, vvalues, vinferred, vgone, vmade) (fkeys, fdays, famounts, fversions, fcount) (rkeys, rdays, rvalues, rcount) = some R) : Met l yL_remove wsL_remove rm_L_remove (PL_ (dC, dI) (ty_ cI cZ cC cJ cD) (wD_ d0 s0 z0 b0 q0 t0 dhasSaved dkeptError dmoved ++ wS_ s0 v0 f0 r0 ++ wV_ v0 v_keys v_firsts v_ends v_values v_inferred v_gone cI cZ vkeys vfirsts vends vvalues vinferred vgone vmade ++ wF_ f0 f_keys f_days f_amounts f_versions cI fkeys fdays famounts fversions fcount ++ wR_ r0 r_keys r_days r_values cI rkeys rdays rvalues rcount) sz [.ref d0, .int a2]) (Qi_ (dC, dI) (ty_ cI cZ cC cJ cD) R.1 (wD_ d0 s0 z0 b0 q0 t0 R.2.1.1 R.2.1.2.1 R.2.1.2.2 ++ wS_ s0 v0 f0 r0 ++ wV_ v0 v_keys v_firsts v_ends v_values v_inferred v_gone cI cZ R.2.2.1.1 R.2.2.1.2.1 R.2.2.1.2.2.1 R.2.2.1.2.2.2.1 R.2.2.1.2.2.2.2.1 R.2.2.1.2.2.2.2.2.1 R.2.2.1.2.2.2.2.2.2 ++ wF_ f0 f_keys f_days f_amounts f_versions cI R.2.2.2.1 R.2.2.2.2.1 R.2.2.2.2.2.1 R.2.2.2.2.2.2.1 R.2.2.2.2.2.2.2 ++ wR_ r0 r_keys r_days r_values cI rkeys rdays rvalues rcount) (va_A (wD_ d0 s0 z0 b0 q0 t0 dhasSaved dkeptError dmoved ++ wS_ s0 v0 f0 r0 ++ wV_ v0 v_keys v_firsts v_ends v_values v_inferred v_gone cI cZ vkeys vfirsts vends vvalues vinferred vgone vmade ++ wF_ f0 f_keys f_days f_amounts f_versions cI fkeys fdays famounts fversions fcount ++ wR_ r0 r_keys r_days r_values cI rkeys rdays rvalues rcount) sz)) 2 12 (va_A (wD_ d0 s0 z0 b0 q0 t0 dhasSaved dkeptError dmoved ++ wS_ s0 v0 f0 r0 ++ wV_ v0 v_keys v_firsts v_ends v_values v_inferred v_gone cI cZ vkeys vfirsts vends vvalues vinferred vgone vmade ++ wF_ f0 f_keys f_days f_amounts f_versions cI fkeys fdays famounts fversions fcount ++ wR_ r0 r_keys r_days r_values cI rkeys rdays rvalues rcount) sz) := by
  refine metw_ (cc := cL_remove) (maxL := 3) (ret := (some .int)) (hh := [(0, 5, 6, 27), (0, 5, 9, 33)]) (Qcf := fun A => Qi_ (dC, dI) (ty_ cI cZ cC cJ cD) R.1 (wD_ d0 s0 z0 b0 q0 t0 R.2.1.1 R.2.1.2.1 R.2.1.2.2 ++ wS_ s0 v0 f0 r0 ++ wV_ v0 v_keys v_firsts v_ends v_values v_inferred v_gone cI cZ R.2.2.1.1 R.2.2.1.2.1 R.2.2.1.2.2.1 R.2.2.1.2.2.2.1 R.2.2.1.2.2.2.2.1 R.2.2.1.2.2.2.2.2.1 R.2.2.1.2.2.2.2.2.2 ++ wF_ f0 f_keys f_days f_amounts f_versions cI R.2.2.2.1 R.2.2.2.2.1 R.2.2.2.2.2.1 R.2.2.2.2.2.2.1 R.2.2.2.2.2.2.2 ++ wR_ r0 r_keys r_days r_values cI rkeys rdays rvalues rcount) A) (by decide) rfl (Nat.le_of_ble_eq_true rfl) ?_
  intro p e s m args below meth c A ls hx hb hr hts hown hlocks hml htab hA hU hN hC hP hK hD hl
  have hown : s.vm.findClass RL = some m.cls := hown
  have hl : lv_has ls 3 [(0, .ref d0), (1, .int a2)] := hl
  have hS : va_S A s.heap s.heap [] := va_S.rf
  unfold f_L_remove at hf
  try dsimp only at hf
  refine lv_aload_n hx hb dL_remove_0 rfl (lv_at hl 0 rfl) ?_
  refine lv_iload_n hx hb dL_remove_1 rfl (lv_at hl 1 rfl) ?_
  obtain ⟨R18, g19, hf⟩ := bd_B hf
  obtain ⟨x1, ⟨dh3, dk4, dm5⟩, ⟨vk6, vf7, ve8, vv9, vi10, vg11, vm12⟩, ⟨fk13, fd14, fa15, fv16, fc17⟩⟩ := R18
  try dsimp only at hf
  have hPc := hP
  have hDc := hD
  have hFc := va_free (wc := wD_ d0 s0 z0 b0 q0 t0 dhasSaved dkeptError dmoved ++ wS_ s0 v0 f0 r0 ++ wV_ v0 v_keys v_firsts v_ends v_values v_inferred v_gone cI cZ vkeys vfirsts vends vvalues vinferred vgone vmade ++ wF_ f0 f_keys f_days f_amounts f_versions cI fkeys fdays famounts fversions fcount ++ wR_ r0 r_keys r_days r_values cI rkeys rdays rvalues rcount) hD hS hA [0, 1, 2, 3, 4, 5, 6, 7, 8, 9, 10, 11, 12, 13, 14, 15, 16, 17] rfl
  cases x1 with
  | error E24 =>
    by_cases c25 : E24 = "java/lang/IndexOutOfBoundsException"
    · have hf := ite_T c25 hf
      subst c25
      refine vx_calli (vx_runV (As := [.int a2]) (rest := []) ⟨hx, hb, hml, hown, hts⟩ (c_X5_remove l dC dI cI cZ cC cJ cD hst d0 s0 z0 b0 q0 t0 v0 f0 r0 v_keys v_firsts v_ends v_values v_inferred v_gone f_keys f_days f_amounts f_versions r_keys r_days r_values s.heap.size dhasSaved dkeptError dmoved vkeys vfirsts vends vvalues vinferred vgone vmade fkeys fdays famounts fversions fcount rkeys rdays rvalues rcount a2 ((Except.error "java/lang/IndexOutOfBoundsException"), (dh3, dk4, dm5), (vk6, vf7, ve8, vv9, vi10, vg11, vm12), (fk13, fd14, fa15, fv16, fc17)) g19) (cwV 1 hts gL_remove_X5_remove rfl rfl rfl hs_X5_remove ⟨Nat.le_of_ble_eq_true rfl, Nat.le_of_ble_eq_true rfl⟩) (preVy_ (ci := 7) (q0 := 0) hPc hK hDc rfl rfl rfl rfl hS hU hN hFc hC.1) rfl rfl hl.1 rfl (lv_room (Nat.le_of_ble_eq_true rfl)) dL_remove_2 ⟨Nat.le_of_ble_eq_true rfl, Nat.le_of_ble_eq_true rfl⟩) hS (fun q _ h => hFc q h) hFc (fun q _ h => hFc q h) (fun E ce q26 u t H22 locs ht hvm hp hB hz1 hk1 hS hce hcv hcl => ?_) (fun z23 u t H22 locs ht hvm hw hB hz1 hk1 hS => ?_)
      · obtain ⟨hE, hB⟩ := hB
        cases hE
        obtain ⟨hP, hD⟩ := aft_ (Wr := []) (Wc' := wD_ d0 s0 z0 b0 q0 t0 dh3 dk4 dm5 ++ wS_ s0 v0 f0 r0 ++ wV_ v0 v_keys v_firsts v_ends v_values v_inferred v_gone cI cZ vk6 vf7 ve8 vv9 vi10 vg11 vm12 ++ wF_ f0 f_keys f_days f_amounts f_versions cI fk13 fd14 fa15 fv16 fc17 ++ wR_ r0 r_keys r_days r_values cI rkeys rdays rvalues rcount) (W2 := wD_ d0 s0 z0 b0 q0 t0 dh3 dk4 dm5 ++ wS_ s0 v0 f0 r0 ++ wV_ v0 v_keys v_firsts v_ends v_values v_inferred v_gone cI cZ vk6 vf7 ve8 vv9 vi10 vg11 vm12 ++ wF_ f0 f_keys f_days f_amounts f_versions cI fk13 fd14 fa15 fv16 fc17 ++ wR_ r0 r_keys r_days r_values cI rkeys rdays rvalues rcount) hP hD [0, 1, 2, 3, 4, 5, 6, 7, 8, 9, 10, 11, 12, 13, 14, 15, 16, 17] [] [0, 1, 2, 3, 4, 5, 6, 7, 8, 9, 10, 11, 12, 13, 14, 15, 16, 17] rfl rfl (by decide) (by decide) (by decide) hk1 hFc hB ht rfl
        refine vx_catch (name := "java/lang/IndexOutOfBoundsException") hown [] ⟨0, 5, 6, 27⟩ [⟨0, 5, 9, 33⟩] (htab.trans rfl) (fun z hz => nomatch hz) (by decide +kernel) (by decide) (hts _ (List.mem_of_getElem? (i := 1) rfl)) ((hC.1.1 "java/lang/IndexOutOfBoundsException" (by decide +kernel)).use rfl) hce hcv hcl ?_
        refine lv_astore_n (lv' := [(2, .ref q26), (0, .ref d0), (1, .int a2)]) hx hb dL_remove_6 rfl hl (by decide) rfl (fun ls hl => ?_)
        refine lv_iconst (v := (-1)) hx hb dL_remove_7 (by decide) ?_
        have hR := Option.some.inj hf
        subst hR
        refine W.widen (k := 2) (n := 12) (Nat.le_of_ble_eq_true rfl) (Nat.le_of_ble_eq_true rfl) ?_
        exact W.iret (v := (-1 : Int32)) hx hb hr (fun t ht hW => ⟨⟨(-1 : Int32), (), rfl, rfl, by rw [ht]; exact hP, va_K.moved hW.alike hK, hD⟩, hS.F ht⟩) hS.2.2 dL_remove_8
      · exact absurd hw (fun h => nomatch h)
    · have hf := ite_F c25 hf
      by_cases c27 : E24 = "java/lang/IllegalStateException"
      · have hf := ite_T c27 hf
        subst c27
        refine vx_calli (vx_runV (As := [.int a2]) (rest := []) ⟨hx, hb, hml, hown, hts⟩ (c_X5_remove l dC dI cI cZ cC cJ cD hst d0 s0 z0 b0 q0 t0 v0 f0 r0 v_keys v_firsts v_ends v_values v_inferred v_gone f_keys f_days f_amounts f_versions r_keys r_days r_values s.heap.size dhasSaved dkeptError dmoved vkeys vfirsts vends vvalues vinferred vgone vmade fkeys fdays famounts fversions fcount rkeys rdays rvalues rcount a2 ((Except.error "java/lang/IllegalStateException"), (dh3, dk4, dm5), (vk6, vf7, ve8, vv9, vi10, vg11, vm12), (fk13, fd14, fa15, fv16, fc17)) g19) (cwV 1 hts gL_remove_X5_remove rfl rfl rfl hs_X5_remove ⟨Nat.le_of_ble_eq_true rfl, Nat.le_of_ble_eq_true rfl⟩) (preVy_ (ci := 7) (q0 := 0) hPc hK hDc rfl rfl rfl rfl hS hU hN hFc hC.1) rfl rfl hl.1 rfl (lv_room (Nat.le_of_ble_eq_true rfl)) dL_remove_2 ⟨Nat.le_of_ble_eq_true rfl, Nat.le_of_ble_eq_true rfl⟩) hS (fun q _ h => hFc q h) hFc (fun q _ h => hFc q h) (fun E ce q28 u t H22 locs ht hvm hp hB hz1 hk1 hS hce hcv hcl => ?_) (fun z23 u t H22 locs ht hvm hw hB hz1 hk1 hS => ?_)
        · obtain ⟨hE, hB⟩ := hB
          cases hE
          obtain ⟨hP, hD⟩ := aft_ (Wr := []) (Wc' := wD_ d0 s0 z0 b0 q0 t0 dh3 dk4 dm5 ++ wS_ s0 v0 f0 r0 ++ wV_ v0 v_keys v_firsts v_ends v_values v_inferred v_gone cI cZ vk6 vf7 ve8 vv9 vi10 vg11 vm12 ++ wF_ f0 f_keys f_days f_amounts f_versions cI fk13 fd14 fa15 fv16 fc17 ++ wR_ r0 r_keys r_days r_values cI rkeys rdays rvalues rcount) (W2 := wD_ d0 s0 z0 b0 q0 t0 dh3 dk4 dm5 ++ wS_ s0 v0 f0 r0 ++ wV_ v0 v_keys v_firsts v_ends v_values v_inferred v_gone cI cZ vk6 vf7 ve8 vv9 vi10 vg11 vm12 ++ wF_ f0 f_keys f_days f_amounts f_versions cI fk13 fd14 fa15 fv16 fc17 ++ wR_ r0 r_keys r_days r_values cI rkeys rdays rvalues rcount) hP hD [0, 1, 2, 3, 4, 5, 6, 7, 8, 9, 10, 11, 12, 13, 14, 15, 16, 17] [] [0, 1, 2, 3, 4, 5, 6, 7, 8, 9, 10, 11, 12, 13, 14, 15, 16, 17] rfl rfl (by decide) (by decide) (by decide) hk1 hFc hB ht rfl
          refine vx_catch (name := "java/lang/IllegalStateException") hown [⟨0, 5, 6, 27⟩] ⟨0, 5, 9, 33⟩ [] (htab.trans rfl) (fun z hz => by (rcases List.mem_cons.mp hz with rfl | hz; exact Or.inr ⟨by decide, "java/lang/IndexOutOfBoundsException", hts _ (List.mem_of_getElem? (i := 1) rfl), hC.2 "java/lang/IllegalStateException" (by decide +kernel) "java/lang/IndexOutOfBoundsException" (by decide +kernel) (by decide +kernel)⟩; cases hz)) (by decide +kernel) (by decide) (hts _ (List.mem_of_getElem? (i := 2) rfl)) ((hC.1.1 "java/lang/IllegalStateException" (by decide +kernel)).use rfl) hce hcv hcl ?_
          refine lv_astore_n (lv' := [(2, .ref q28), (0, .ref d0), (1, .int a2)]) hx hb dL_remove_9 rfl hl (by decide) rfl (fun ls hl => ?_)
          refine lv_bipush (v := (-2)) hx hb dL_remove_10 (by decide) ?_
          have hR := Option.some.inj hf
          subst hR
          refine W.widen (k := 2) (n := 12) (Nat.le_of_ble_eq_true rfl) (Nat.le_of_ble_eq_true rfl) ?_
          exact W.iret (v := (-2 : Int32)) hx hb hr (fun t ht hW => ⟨⟨(-2 : Int32), (), rfl, rfl, by rw [ht]; exact hP, va_K.moved hW.alike hK, hD⟩, hS.F ht⟩) hS.2.2 dL_remove_12
        · exact absurd hw (fun h => nomatch h)
      · have hf := ite_F c27 hf
        exact absurd hf (fun h => nomatch h)
  | ok r2 =>
    refine vx_calli (vx_runV (As := [.int a2]) (rest := []) ⟨hx, hb, hml, hown, hts⟩ (c_X5_remove l dC dI cI cZ cC cJ cD hst d0 s0 z0 b0 q0 t0 v0 f0 r0 v_keys v_firsts v_ends v_values v_inferred v_gone f_keys f_days f_amounts f_versions r_keys r_days r_values s.heap.size dhasSaved dkeptError dmoved vkeys vfirsts vends vvalues vinferred vgone vmade fkeys fdays famounts fversions fcount rkeys rdays rvalues rcount a2 ((Except.ok r2), (dh3, dk4, dm5), (vk6, vf7, ve8, vv9, vi10, vg11, vm12), (fk13, fd14, fa15, fv16, fc17)) g19) (cwV 1 hts gL_remove_X5_remove rfl rfl rfl hs_X5_remove ⟨Nat.le_of_ble_eq_true rfl, Nat.le_of_ble_eq_true rfl⟩) (preVy_ (ci := 7) (q0 := 0) hPc hK hDc rfl rfl rfl rfl hS hU hN hFc hC.1) rfl rfl hl.1 rfl (lv_room (Nat.le_of_ble_eq_true rfl)) dL_remove_2 ⟨Nat.le_of_ble_eq_true rfl, Nat.le_of_ble_eq_true rfl⟩) hS (fun q _ h => hFc q h) hFc (fun q _ h => hFc q h) (fun E ce q9 u t H22 locs ht hvm hp hB hz1 hk1 hS hce hcv hcl => ?_) (fun z23 u t H22 locs ht hvm hw hB hz1 hk1 hS => ?_)
    · exact absurd hB.1 (fun h => nomatch h)
    · have hw : r2 = z23 := Except.ok.inj hw
      subst hw
      obtain ⟨hP, hD⟩ := aft_ (Wr := []) (Wc' := wD_ d0 s0 z0 b0 q0 t0 dh3 dk4 dm5 ++ wS_ s0 v0 f0 r0 ++ wV_ v0 v_keys v_firsts v_ends v_values v_inferred v_gone cI cZ vk6 vf7 ve8 vv9 vi10 vg11 vm12 ++ wF_ f0 f_keys f_days f_amounts f_versions cI fk13 fd14 fa15 fv16 fc17 ++ wR_ r0 r_keys r_days r_values cI rkeys rdays rvalues rcount) (W2 := wD_ d0 s0 z0 b0 q0 t0 dh3 dk4 dm5 ++ wS_ s0 v0 f0 r0 ++ wV_ v0 v_keys v_firsts v_ends v_values v_inferred v_gone cI cZ vk6 vf7 ve8 vv9 vi10 vg11 vm12 ++ wF_ f0 f_keys f_days f_amounts f_versions cI fk13 fd14 fa15 fv16 fc17 ++ wR_ r0 r_keys r_days r_values cI rkeys rdays rvalues rcount) hP hD [0, 1, 2, 3, 4, 5, 6, 7, 8, 9, 10, 11, 12, 13, 14, 15, 16, 17] [] [0, 1, 2, 3, 4, 5, 6, 7, 8, 9, 10, 11, 12, 13, 14, 15, 16, 17] rfl rfl (by decide) (by decide) (by decide) hk1 hFc hB ht rfl
      have hR := Option.some.inj hf
      subst hR
      refine W.widen (k := 2) (n := 12) (Nat.le_of_ble_eq_true rfl) (Nat.le_of_ble_eq_true rfl) ?_
      exact W.iret (v := r2) hx hb hr (fun t ht hW => ⟨⟨r2, (), rfl, rfl, by rw [ht]; exact hP, va_K.moved hW.alike hK, hD⟩, hS.F ht⟩) hS.2.2 dL_remove_5
theorem hs_L_remove : yL_remove.cls ≠ "java/lang/invoke/MethodHandle" ∧ yL_remove.cls ≠ "java/lang/invoke/VarHandle" ∧ (parseMethodDescriptor yL_remove.desc).map (fun d => d.parameters.length) = some 2 := by decide +kernel
