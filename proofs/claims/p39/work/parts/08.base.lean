abbrev vwCl : List vw_C := [(RJ0, TJ0, 2), (RJx00060, TJx00060, 6), (RX0, TX0, 5), (RX1, TX1, 4), (RX2, TX2, 3), (RX3, TX3, 3), (RX4, TX4, 7), (RX5, TX5, 8)]
/-! what the rows that a program lays stand on -/
def fu_ : Nat := 5000
theorem ite_T {α : Type} {c : Prop} [Decidable c] {X Y : Option α} {R : α} (h : c) (hf : (if c then X else Y) = some R) : X = some R := by rw [if_pos h] at hf; exact hf
theorem ite_F {α : Type} {c : Prop} [Decidable c] {X Y : Option α} {R : α} (h : ¬ c) (hf : (if c then X else Y) = some R) : Y = some R := by rw [if_neg h] at hf; exact hf
def gd_ {α : Type} (i : Int32) (n : Nat) (X : Option α) : Option α := if 0 ≤ i.toInt ∧ i.toInt < (n : Int) then X else none
theorem gd_T {α : Type} {i : Int32} {n : Nat} {X : Option α} {R : α} (hf : gd_ i n X = some R) : vp_in i n ∧ X = some R := by
  unfold gd_ at hf
  by_cases h : 0 ≤ i.toInt ∧ i.toInt < (n : Int)
  · rw [if_pos h] at hf; exact ⟨vp_in_iff.mpr h, hf⟩
  · rw [if_neg h] at hf; cases hf
def nm_ {α β : Type} (x : α) (k : α → Option β) : Option β := k x
theorem nm_T {α β : Type} {x : α} {k : α → Option β} {R : β} (hf : nm_ x k = some R) : ∃ u : α, u = x ∧ k u = some R := ⟨x, rfl, hf⟩
def bd_ {α β : Type} (x : Option α) (k : α → Option β) : Option β := match x with
  | none => none
  | some a => k a
theorem bd_B {α β : Type} {x : Option α} {k : α → Option β} {R : β} (hf : bd_ x k = some R) : ∃ a : α, x = some a ∧ k a = some R := by
  cases x with
  | none => cases hf
  | some a => exact ⟨a, rfl, hf⟩
def gb_ {α : Type} (x : Int32) (X : Option α) : Option α := if x = 0 ∨ x = 1 then X else none
theorem gb_T {α : Type} {x : Int32} {X : Option α} {R : α} (hf : gb_ x X = some R) : (x = 0 ∨ x = 1) ∧ X = some R := by
  unfold gb_ at hf
  by_cases h : x = 0 ∨ x = 1
  · rw [if_pos h] at hf; exact ⟨h, hf⟩
  · rw [if_neg h] at hf; cases hf
theorem nar_b {x : Int32} (h : x = 0 ∨ x = 1) : narrow .boolean (.int x) = .int x := by rcases h with rfl | rfl <;> decide
theorem ne_L {x y : Int32} {n : Int} (h : ¬ x = y) (hy : y.toInt = n) : ¬ x.toInt = n := fun e => h (Int32.toInt_inj.mp (e.trans hy.symm))
abbrev Pc_ (D : va_G) (tys : List (ClassId × FieldType)) (W0 : va_W) (sz : Nat) (av : List Value) : Array Value → State → Prop := va_Pc av (fun U => U.heap.size = sz ∧ va_P D vwCl W0 U.heap ∧ va_K D vwCl tys U ∧ va_D (fun _ => True) W0)
abbrev Bw_ (D : va_G) (tys : List (ClassId × FieldType)) (A : Nat → Prop) (W1 : va_W) (t : State) : Prop := va_P D vwCl W1 t.heap ∧ va_K D vwCl tys t ∧ va_D A W1
abbrev Qi_ (D : va_G) (tys : List (ClassId × FieldType)) (r0 : Int32) (W1 : va_W) (A : Nat → Prop) : Array Value → State → Outcome → State → Prop := va_Qi (fun (r : Int32) (_ : Unit) => r = r0) (fun _ t => Bw_ D tys A W1 t) A
abbrev Ql_ (D : va_G) (tys : List (ClassId × FieldType)) (r0 : Int64) (W1 : va_W) (A : Nat → Prop) : Array Value → State → Outcome → State → Prop := va_Ql (fun (r : Int64) (_ : Unit) => r = r0) (fun _ t => Bw_ D tys A W1 t) A
abbrev Qd_ (D : va_G) (tys : List (ClassId × FieldType)) (r0 : UInt64) (W1 : va_W) (A : Nat → Prop) : Array Value → State → Outcome → State → Prop := va_Qd (fun (r : UInt64) (_ : Unit) => r = r0) (fun _ t => Bw_ D tys A W1 t) A
abbrev Qv_ (D : va_G) (tys : List (ClassId × FieldType)) (W1 : va_W) (A : Nat → Prop) : Array Value → State → Outcome → State → Prop := va_Qv (fun (_ : Unit) => True) (fun _ t => Bw_ D tys A W1 t) A
theorem met_ {l : Launch} {y : MethodName} {ws ws' : List Cond} {rm : Room} {D : va_G} {tys : List (ClassId × FieldType)} {W0 : va_W} {sz : Nat} {av : List Value} {cc : ByteArray} {maxL : Nat} {ret : Option FieldType} {Qcf : (Nat → Prop) → Array Value → State → Outcome → State → Prop} {mc ms : Nat}
    (hy : plainName y.cls = true) (hw : ws = Cond.code y cc maxL ret :: ws') (hav : (lg_sl av).length ≤ maxL)
    (body : ∀ (p : Program) (e : Env) (s : State) (m : MethodId) (args : Array Value) (below : List Frame) (meth : Method) (c : Code) (A : Nat → Prop) (ls : Array Slot), p.tables.exec = Jvm.exec → c.code = cc → meth.sig.returnType = ret → (∀ w ∈ ws, w.before args s = true) → s.vm.findClass y.cls = some m.cls → meth.locks = false → c.maxLocals = maxL →
      (∀ q : Nat, s.heap.size ≤ q → A q) → va_P D vwCl W0 s.heap → va_K D vwCl tys s → va_D A W0 → lv_has ls maxL (lv_args 0 av) → W p l e (headSpec ws rm).room s m args below meth c s.heap [] 0 0 (MQ below (Qcf A) args s mc ms A) (F0 m 0 ls [])) :
    Met l y ws rm (Pc_ D tys W0 sz av) (Qcf (va_A W0 sz)) mc ms (va_A W0 sz) := by
  refine Met.ofW (cc := cc) (maxL := maxL) (ret := ret) hy hw ?_
  intro p e s m args below meth c s₁ B hml hv
  obtain ⟨rfl, hsz, hP, hK, hD0⟩ := hv
  subst hsz
  have hD := hD0.self (sz := s.heap.size)
  have hl := lv_entry av (n := maxL) hav
  rw [lg_entry_eq]
  exact body p e s m _ below meth c _ _ B.exec B.bytes B.returns (atoms_spec B.pre) (findClass_of_methodNamed B.named) B.notSynchronized hml (fun q h => Or.inr h) hP hK hD hl
theorem blind_ {D : va_G} {tys : List (ClassId × FieldType)} {W0 : va_W} {sz : Nat} {av : List Value} : FrameBlind (Pc_ D tys W0 sz av) := fun a U g mk h => by
  obtain ⟨q0, q1, qP, qK, qD⟩ := h
  exact ⟨q0, q1, qP, va_K.moved (u := U) (U := U.calling g mk a) (Vm.Alike.refl U.vm) qK, qD⟩
theorem preV_ {s : State} {H : Heap} {C : String} {b : Addr} {D : va_G} {tys : List (ClassId × FieldType)} {W0 : va_W} {sz : Nat} {As : List Value} {A : Nat → Prop} {ci q0 : Nat} {fs : List Value} {q : vw_C} (hP : va_P D vwCl W0 H) (hK : va_K D vwCl tys s) (hD : va_D A W0) (hsz : H.size = sz) (hc : vwCl[ci]? = some q) (hC : q.1 = C) (he : W0[q0]? = some (b, .inr (ci, fs))) :
    PreV s H C b (Pc_ D tys W0 sz (.ref b :: As)) As := by
  subst hC
  exact ⟨blind_, va_recv hK hP hc he, fun U hU hW => ⟨rfl, by rw [hU]; exact hsz, by rw [hU]; exact hP, va_K.moved hW.alike hK, hD.weaken (fun _ _ _ _ => trivial)⟩⟩
theorem preS_ {s : State} {H : Heap} {D : va_G} {tys : List (ClassId × FieldType)} {W0 : va_W} {sz : Nat} {As : List Value} {A : Nat → Prop} (hP : va_P D vwCl W0 H) (hK : va_K D vwCl tys s) (hD : va_D A W0) (hsz : H.size = sz) :
    PreS s H (Pc_ D tys W0 sz As) As :=
  ⟨blind_, fun U hU hW => ⟨rfl, by rw [hU]; exact hsz, by rw [hU]; exact hP, va_K.moved hW.alike hK, hD.weaken (fun _ _ _ _ => trivial)⟩⟩
theorem fm_ {α : Type} (f : Nat → Option α) : ∀ (is : List Nat) (w : List α), is.map f = w.map some → is.filterMap f = w
  | [], w, h => by
    cases w with
    | nil => rfl
    | cons a w => cases h
  | i :: is, w, h => by
    cases w with
    | nil => cases h
    | cons a w =>
      rw [List.map_cons, List.map_cons] at h
      injection h with h1 h2
      rw [List.filterMap_cons, h1]
      show a :: List.filterMap f is = a :: w
      rw [fm_ f is w h2]
theorem aft_ {A : Nat → Prop} {D : va_G} {W0 Wc Wr Wc' W2 : va_W} {tys : List (ClassId × FieldType)} {H H1 : Heap} {t : State} (hP : va_P D vwCl W0 H) (hD : va_D A W0) (isC isR is2 : List Nat) (hC : isC.map (fun i => W0[i]?) = Wc.map some) (hR : isR.map (fun i => W0[i]?) = Wr.map some) (hn : va_nd isR = true) (hdis : ∀ i ∈ isR, i ∉ isC) (hn2 : va_nd is2 = true)
    (hk : ∀ q : Nat, q < H.size → ¬ va_A Wc H.size q → H1[q]? = H[q]?) (hF : ∀ q, va_A Wc H.size q → A q) (hB : Bw_ D tys (va_A Wc H.size) Wc' t) (ht : t.heap = H1) (h2 : is2.map (fun i => (Wr ++ Wc')[i]?) = W2.map some) : va_P D vwCl W2 H1 ∧ va_D A W2 := by
  obtain ⟨hP1, hK1, hD1⟩ := hB
  rw [ht] at hP1
  obtain ⟨hP2, hD2⟩ := va_join (wr := Wr) (w1 := Wc') hP hD isC isR hC hR hn hdis hk hF hP1 hD1
  exact ⟨hP2.sub is2 (fm_ _ _ _ h2), hD2.sub is2 hn2 h2⟩
/-! methods that may throw -/
def Zq_ (A : Nat → Prop) (U : State) (H : Heap) : Prop := vx_Zq Bundle.tN "UNASSIGNED_STACK" Bundle.steD A U H ∧ vx_Zq Bundle.tN "SUPPRESSED_SENTINEL" Bundle.listD A U H
abbrev Px_ (D : va_G) (tys : List (ClassId × FieldType)) (W0 : va_W) (sz : Nat) (av : List Value) : Array Value → State → Prop := va_Pc av (fun U => U.heap.size = sz ∧ va_P D vwCl W0 U.heap ∧ va_K D vwCl tys U ∧ va_D (fun _ => True) W0 ∧ Zq_ (va_A W0 sz) U U.heap)
abbrev Xi_ (D : va_G) (tys : List (ClassId × FieldType)) (r0 : Except String Int32) (W1 : va_W) (A : Nat → Prop) : Array Value → State → Outcome → State → Prop := va_Qi (fun (r : Int32) (_ : Unit) => r0 = .ok r) (fun _ t => Bw_ D tys A W1 t) A
abbrev Xl_ (D : va_G) (tys : List (ClassId × FieldType)) (r0 : Except String Int64) (W1 : va_W) (A : Nat → Prop) : Array Value → State → Outcome → State → Prop := va_Ql (fun (r : Int64) (_ : Unit) => r0 = .ok r) (fun _ t => Bw_ D tys A W1 t) A
abbrev Xd_ (D : va_G) (tys : List (ClassId × FieldType)) (r0 : Except String UInt64) (W1 : va_W) (A : Nat → Prop) : Array Value → State → Outcome → State → Prop := va_Qd (fun (r : UInt64) (_ : Unit) => r0 = .ok r) (fun _ t => Bw_ D tys A W1 t) A
abbrev Xv_ (D : va_G) (tys : List (ClassId × FieldType)) (r0 : Except String Unit) (W1 : va_W) (A : Nat → Prop) : Array Value → State → Outcome → State → Prop := va_Qv (fun (_ : Unit) => r0 = .ok ()) (fun _ t => Bw_ D tys A W1 t) A
abbrev XX_ {α : Type} (D : va_G) (tys : List (ClassId × FieldType)) (r0 : Except String α) (W1 : va_W) (A : Nat → Prop) : String → State → State → Prop := vx_X (fun (_ : Unit) => True) (fun E _ t => r0 = .error E ∧ Bw_ D tys A W1 t) A
theorem metx_ {l : Launch} {y : MethodName} {ws ws' : List Cond} {rm : Room} {D : va_G} {tys : List (ClassId × FieldType)} {W0 : va_W} {sz : Nat} {av : List Value} {cc : ByteArray} {maxL : Nat} {ret : Option FieldType} {Qcf : (Nat → Prop) → Array Value → State → Outcome → State → Prop} {XCf : (Nat → Prop) → String → State → State → Prop} {mc ms : Nat}
    (hy : plainName y.cls = true) (hw : ws = Cond.code y cc maxL ret :: ws') (hav : (lg_sl av).length ≤ maxL)
    (body : ∀ (p : Program) (e : Env) (s : State) (m : MethodId) (args : Array Value) (below : List Frame) (meth : Method) (c : Code) (A : Nat → Prop) (ls : Array Slot), p.tables.exec = Jvm.exec → c.code = cc → meth.sig.returnType = ret → (∀ w ∈ ws, w.before args s = true) → s.vm.findClass y.cls = some m.cls → meth.locks = false → c.maxLocals = maxL →
      (∀ x ∈ c.exceptionTable.toList, False) → (∀ q : Nat, s.heap.size ≤ q → A q) → vx_Zq Bundle.tN "UNASSIGNED_STACK" Bundle.steD A s s.heap → vx_Zq Bundle.tN "SUPPRESSED_SENTINEL" Bundle.listD A s s.heap → va_P D vwCl W0 s.heap → va_K D vwCl tys s → va_D A W0 → lv_has ls maxL (lv_args 0 av) → W p l e (headSpec ws rm).room s m args below meth c s.heap [] 0 0 (vx_MQ below (Qcf A) (XCf A) args s mc ms A) (F0 m 0 ls [])) :
    vx_Met l y ws rm (Px_ D tys W0 sz av) (Qcf (va_A W0 sz)) (XCf (va_A W0 sz)) mc ms (va_A W0 sz) := by
  refine vx_ofW (cc := cc) (maxL := maxL) (ret := ret) hy hw ?_
  intro p e s m args below meth c s₁ B hml htab hv
  obtain ⟨rfl, hsz, hP, hK, hD0, hU, hN⟩ := hv
  subst hsz
  have hD := hD0.self (sz := s.heap.size)
  have hl := lv_entry av (n := maxL) hav
  rw [lg_entry_eq]
  exact body p e s m _ below meth c _ _ B.exec B.bytes B.returns (atoms_spec B.pre) (findClass_of_methodNamed B.named) B.notSynchronized hml htab (fun q h => Or.inr h) hU hN hP hK hD hl
theorem blindx_ {D : va_G} {tys : List (ClassId × FieldType)} {W0 : va_W} {sz : Nat} {av : List Value} : FrameBlind (Px_ D tys W0 sz av) := fun a U g mk h => by
  obtain ⟨q0, q1, qP, qK, qD, qU, qN⟩ := h
  exact ⟨q0, q1, qP, va_K.moved (u := U) (U := U.calling g mk a) (Vm.Alike.refl U.vm) qK, qD, vx_Zq.moved (u := U) (U := U.calling g mk a) (Vm.Alike.refl U.vm) qU, vx_Zq.moved (u := U) (U := U.calling g mk a) (Vm.Alike.refl U.vm) qN⟩
theorem preSx_ {s : State} {H : Heap} {D : va_G} {tys : List (ClassId × FieldType)} {W0 : va_W} {sz : Nat} {As : List Value} {A : Nat → Prop} {locs : List Loc} (hP : va_P D vwCl W0 H) (hK : va_K D vwCl tys s) (hD : va_D A W0) (hsz : H.size = sz)
    (hS : va_S A s.heap H locs) (hU : vx_Zq Bundle.tN "UNASSIGNED_STACK" Bundle.steD A s s.heap) (hN : vx_Zq Bundle.tN "SUPPRESSED_SENTINEL" Bundle.listD A s s.heap) (hF : ∀ q, va_A W0 H.size q → A q) :
    PreS s H (Px_ D tys W0 sz As) As := by
  subst hsz
  exact ⟨blindx_, fun U hU1 hW => ⟨rfl, by rw [hU1], by rw [hU1]; exact hP, va_K.moved hW.alike hK, hD.weaken (fun _ _ _ _ => trivial), by rw [hU1]; exact (vx_Zq.moved hW.alike (hU.kept hS.2.1)).narrow hF, by rw [hU1]; exact (vx_Zq.moved hW.alike (hN.kept hS.2.1)).narrow hF⟩⟩
theorem preVx_ {s : State} {H : Heap} {C : String} {b : Addr} {D : va_G} {tys : List (ClassId × FieldType)} {W0 : va_W} {sz : Nat} {As : List Value} {A : Nat → Prop} {ci q0 : Nat} {fs : List Value} {q : vw_C} {locs : List Loc} (hP : va_P D vwCl W0 H) (hK : va_K D vwCl tys s) (hD : va_D A W0) (hsz : H.size = sz) (hc : vwCl[ci]? = some q) (hC : q.1 = C) (he : W0[q0]? = some (b, .inr (ci, fs)))
    (hS : va_S A s.heap H locs) (hU : vx_Zq Bundle.tN "UNASSIGNED_STACK" Bundle.steD A s s.heap) (hN : vx_Zq Bundle.tN "SUPPRESSED_SENTINEL" Bundle.listD A s s.heap) (hF : ∀ q, va_A W0 H.size q → A q) :
    PreV s H C b (Px_ D tys W0 sz (.ref b :: As)) As := by
  subst hC
  exact ⟨blindx_, va_recv hK hP hc he, (preSx_ hP hK hD hsz hS hU hN hF).2⟩
theorem thr_ {α : Type} {s : State} {A : Nat → Prop} {H : Heap} {locs : List Loc} {D : va_G} {tys : List (ClassId × FieldType)} {W1 : va_W} {r0 : Except String α} {E : String} (hS : va_S A s.heap H locs) (hP : va_P D vwCl W1 H) (hK : va_K D vwCl tys s) (hD : va_D A W1) (hE : r0 = .error E) :
    ∀ t : State, s.vm.Alike t.vm → H.size ≤ t.heap.size → (∀ q : Nat, q < H.size → t.heap[q]? = H[q]?) → XX_ D tys r0 W1 A E s t := fun t hv hz hq =>
  ⟨(), trivial, ⟨hE, hP.kept (fun k q hk => hq _ (hP k q hk).lt), va_K.moved hv hK, hD⟩, Nat.le_trans hS.1 hz, fun q h1 h2 => by rw [hq q (Nat.lt_of_lt_of_le h1 hS.1)]; exact hS.2.1 q h1 h2⟩
theorem thr2_ {α : Type} {s : State} {A : Nat → Prop} {H : Heap} {locs : List Loc} {D : va_G} {tys : List (ClassId × FieldType)} {W1 : va_W} {r0 : Except String α} {E : String} (hS : va_S A s.heap H locs) (hP : va_P D vwCl W1 H) (hK : va_K D vwCl tys s) (hD : va_D A W1) (hE : r0 = .error E) :
    ∀ t : State, t.heap = H → s.vm.Alike t.vm → XX_ D tys r0 W1 A E s t := fun t ht hv => thr_ hS hP hK hD hE t hv (by rw [ht]; exact Nat.le_refl _) (fun q _ => by rw [ht])
/-! constructors -/
def Nk_ (U : State) : Prop :=
  va_Nw (.methodLinkNest RX2 9 yX4_init "DimensionLoader") U ∧ va_Nw (.methodLinkNest RX2 18 yX0_init "DimensionLoader") U ∧ va_Nw (.methodLinkNest RX2 25 yX1_init "DimensionLoader") U ∧
  va_Nw (.methodLinkNest RX5 9 yX2_init "DimensionLoader") U ∧ va_Nw (.methodLinkNest RX5 21 yX4_init "DimensionLoader") U ∧ va_Nw (.methodLinkNest RX5 28 yX1_init "DimensionLoader") U ∧ va_Nw (.methodLinkNest RX5 35 yX3_init "DimensionLoader") U
theorem Nk_.warm {s U : State} (hW : s.WarmedH U.vm) (h : Nk_ s) : Nk_ U := ⟨h.1.warmM hW, h.2.1.warmM hW, h.2.2.1.warmM hW, h.2.2.2.1.warmM hW, h.2.2.2.2.1.warmM hW, h.2.2.2.2.2.1.warmM hW, h.2.2.2.2.2.2.warmM hW⟩
theorem Nk_.same {u U : State} (e : u.vm = U.vm) (h : Nk_ u) : Nk_ U := ⟨h.1.same rfl e, h.2.1.same rfl e, h.2.2.1.same rfl e, h.2.2.2.1.same rfl e, h.2.2.2.2.1.same rfl e, h.2.2.2.2.2.1.same rfl e, h.2.2.2.2.2.2.same rfl e⟩
abbrev Pk_ (D : va_G) (tys : List (ClassId × FieldType)) (W0 : va_W) (sz : Nat) (av : List Value) : Array Value → State → Prop := va_Pc av (fun U => U.heap.size = sz ∧ va_P D vwCl W0 U.heap ∧ va_K D vwCl tys U ∧ va_D (fun _ => True) W0 ∧ Nk_ U)
theorem metk_ {l : Launch} {y : MethodName} {ws ws' : List Cond} {rm : Room} {D : va_G} {tys : List (ClassId × FieldType)} {W0 : va_W} {sz : Nat} {av : List Value} {cc : ByteArray} {maxL : Nat} {ret : Option FieldType} {Qcf : (Nat → Prop) → Array Value → State → Outcome → State → Prop} {mc ms : Nat}
    (hy : plainName y.cls = true) (hw : ws = Cond.code y cc maxL ret :: ws') (hav : (lg_sl av).length ≤ maxL)
    (body : ∀ (p : Program) (e : Env) (s : State) (m : MethodId) (args : Array Value) (below : List Frame) (meth : Method) (c : Code) (A : Nat → Prop) (ls : Array Slot), p.tables.exec = Jvm.exec → c.code = cc → meth.sig.returnType = ret → (∀ w ∈ ws, w.before args s = true) → s.vm.findClass y.cls = some m.cls → meth.locks = false → c.maxLocals = maxL →
      meth.name = y.name → Nk_ s → (∀ q : Nat, s.heap.size ≤ q → A q) → va_P D vwCl W0 s.heap → va_K D vwCl tys s → va_D A W0 → lv_has ls maxL (lv_args 0 av) → W p l e (headSpec ws rm).room s m args below meth c s.heap [] 0 0 (MQ below (Qcf A) args s mc ms A) (F0 m 0 ls [])) :
    Met l y ws rm (Pk_ D tys W0 sz av) (Qcf (va_A W0 sz)) mc ms (va_A W0 sz) := by
  refine Met.ofW (cc := cc) (maxL := maxL) (ret := ret) hy hw ?_
  intro p e s m args below meth c s₁ B hml hv
  obtain ⟨rfl, hsz, hP, hK, hD0, hN⟩ := hv
  subst hsz
  have hD := hD0.self (sz := s.heap.size)
  have hl := lv_entry av (n := maxL) hav
  rw [lg_entry_eq]
  exact body p e s m _ below meth c _ _ B.exec B.bytes B.returns (atoms_spec B.pre) (findClass_of_methodNamed B.named) B.notSynchronized hml (name_of_methodNamed B.named B.method).1 hN (fun q h => Or.inr h) hP hK hD hl
theorem preK_ {s : State} {H : Heap} {D : va_G} {tys : List (ClassId × FieldType)} {W0 : va_W} {sz : Nat} {As : List Value} {A : Nat → Prop} (hP : va_P D vwCl W0 H) (hK : va_K D vwCl tys s) (hD : va_D A W0) (hsz : H.size = sz) (hN : Nk_ s) :
    PreS s H (Pk_ D tys W0 sz As) As :=
  ⟨fun a U g mk h => by
    obtain ⟨q0, q1, qP, qK, qD, qN⟩ := h
    exact ⟨q0, q1, qP, va_K.moved (u := U) (U := U.calling g mk a) (Vm.Alike.refl U.vm) qK, qD, Nk_.same (u := U) (U := U.calling g mk a) rfl qN⟩,
   fun U hU hW => ⟨rfl, by rw [hU]; exact hsz, by rw [hU]; exact hP, va_K.moved hW.alike hK, hD.weaken (fun _ _ _ _ => trivial), hN.warm hW⟩⟩
theorem same_ {D : va_G} {cl : List vw_C} {tys : List (ClassId × FieldType)} {s : State} (hK : va_K D cl tys s) (i j : Nat) {c1 c2 : ClassId} {ty : FieldType} (h1 : tys[i]? = some (c1, ty)) (h2 : tys[j]? = some (c2, ty)) (hne : ∀ C : String, ty ≠ .object C) : c1 = c2 := by
  have a1 := (hK.2 i _ h1).2
  have a2 := (hK.2 j _ h2).2
  cases ty with
  | object C => exact absurd rfl (hne C)
  | _ => exact Option.some.inj (a1.symm.trans a2)
def gN_ {α : Type} (x y : UInt64) (X : Option α) : Option α := if FP.ddiv x y &&& 0x7fffffffffffffff ≤ 0x7ff0000000000000 then X else none
theorem gN_T {α : Type} {x y : UInt64} {X : Option α} {R : α} (hf : gN_ x y X = some R) : vf_n64 (FP.ddiv x y) ∧ X = some R := by
  unfold gN_ at hf
  by_cases h : FP.ddiv x y &&& 0x7fffffffffffffff ≤ 0x7ff0000000000000
  · rw [if_pos h] at hf; exact ⟨h, hf⟩
  · rw [if_neg h] at hf; cases hf
