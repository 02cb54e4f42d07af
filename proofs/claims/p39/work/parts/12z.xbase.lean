/-! methods that may throw: with the words of an exception's making that are no table words -/
abbrev ex5_ : List String := ["java/lang/IndexOutOfBoundsException", "java/lang/IllegalArgumentException", "java/lang/IllegalStateException", "java/util/NoSuchElementException", "java/lang/ArithmeticException"]
def exB_ (E : String) : List Cond := [.castable E E, .declares (Bundle.init0 "java/lang/RuntimeException"), .declares (Bundle.init0 "java/lang/Exception"), .declares (Bundle.init0 "java/lang/Throwable")]
def Ex_ (U : State) : Prop := (∀ E ∈ ex5_, va_Nw (.castable E E) U) ∧ va_Nw (.declares (Bundle.init0 "java/lang/RuntimeException")) U ∧ va_Nw (.declares (Bundle.init0 "java/lang/Exception")) U ∧ va_Nw (.declares (Bundle.init0 "java/lang/Throwable")) U
theorem Ex_.words {args : Array Value} {s : State} (h : Ex_ s) {E : String} (hE : E ∈ ex5_) : ∀ w ∈ exB_ E, w.before args s = true := by
  intro w hw
  simp only [exB_, List.mem_cons, List.not_mem_nil, or_false] at hw
  rcases hw with rfl | rfl | rfl | rfl
  · exact (h.1 E hE).use rfl
  · exact h.2.1.use rfl
  · exact h.2.2.1.use rfl
  · exact h.2.2.2.use rfl
theorem Ex_.warm {s U : State} (hW : s.WarmedH U.vm) (h : Ex_ s) : Ex_ U := ⟨fun E hE => (h.1 E hE).warmC hW, h.2.1.warmD hW, h.2.2.1.warmD hW, h.2.2.2.warmD hW⟩
theorem Ex_.same {u U : State} (e : u.vm = U.vm) (h : Ex_ u) : Ex_ U := ⟨fun E hE => (h.1 E hE).same rfl e, h.2.1.same rfl e, h.2.2.1.same rfl e, h.2.2.2.same rfl e⟩
set_option maxRecDepth 20000 in
theorem atn_0 : ∀ E ∈ ex5_, ∀ ic ∈ [60, 171, 153, 87, 204], ∀ w ∈ (vx_at0 RX5 ic E ["java/lang/RuntimeException", "java/lang/Exception"]).filter (fun w => !goodWord w), w ∈ exB_ E := by decide +kernel
abbrev Py_ (D : va_G) (tys : List (ClassId × FieldType)) (W0 : va_W) (sz : Nat) (av : List Value) : Array Value → State → Prop := va_Pc av (fun U => U.heap.size = sz ∧ va_P D vwCl W0 U.heap ∧ va_K D vwCl tys U ∧ va_D (fun _ => True) W0 ∧ Zq_ (va_A W0 sz) U U.heap ∧ Ex_ U)
theorem mety_ {l : Launch} {y : MethodName} {ws ws' : List Cond} {rm : Room} {D : va_G} {tys : List (ClassId × FieldType)} {W0 : va_W} {sz : Nat} {av : List Value} {cc : ByteArray} {maxL : Nat} {ret : Option FieldType} {Qcf : (Nat → Prop) → Array Value → State → Outcome → State → Prop} {XCf : (Nat → Prop) → String → State → State → Prop} {mc ms : Nat}
    (hy : plainName y.cls = true) (hw : ws = Cond.code y cc maxL ret :: ws') (hav : (lg_sl av).length ≤ maxL)
    (body : ∀ (p : Program) (e : Env) (s : State) (m : MethodId) (args : Array Value) (below : List Frame) (meth : Method) (c : Code) (A : Nat → Prop) (ls : Array Slot), p.tables.exec = Jvm.exec → c.code = cc → meth.sig.returnType = ret → (∀ w ∈ ws, w.before args s = true) → s.vm.findClass y.cls = some m.cls → meth.locks = false → c.maxLocals = maxL →
      (∀ x ∈ c.exceptionTable.toList, False) → (∀ q : Nat, s.heap.size ≤ q → A q) → vx_Zq Bundle.tN "UNASSIGNED_STACK" Bundle.steD A s s.heap → vx_Zq Bundle.tN "SUPPRESSED_SENTINEL" Bundle.listD A s s.heap → Ex_ s → va_P D vwCl W0 s.heap → va_K D vwCl tys s → va_D A W0 → lv_has ls maxL (lv_args 0 av) → W p l e (headSpec ws rm).room s m args below meth c s.heap [] 0 0 (vx_MQ below (Qcf A) (XCf A) args s mc ms A) (F0 m 0 ls [])) :
    vx_Met l y ws rm (Py_ D tys W0 sz av) (Qcf (va_A W0 sz)) (XCf (va_A W0 sz)) mc ms (va_A W0 sz) := by
  refine vx_ofW (cc := cc) (maxL := maxL) (ret := ret) hy hw ?_
  intro p e s m args below meth c s₁ B hml htab hv
  obtain ⟨rfl, hsz, hP, hK, hD0, ⟨hU, hN⟩, hC⟩ := hv
  subst hsz
  have hD := hD0.self (sz := s.heap.size)
  have hl := lv_entry av (n := maxL) hav
  rw [lg_entry_eq]
  exact body p e s m _ below meth c _ _ B.exec B.bytes B.returns (atoms_spec B.pre) (findClass_of_methodNamed B.named) B.notSynchronized hml htab (fun q h => Or.inr h) hU hN hC hP hK hD hl
theorem blindy_ {D : va_G} {tys : List (ClassId × FieldType)} {W0 : va_W} {sz : Nat} {av : List Value} : FrameBlind (Py_ D tys W0 sz av) := fun a U g mk h => by
  obtain ⟨q0, q1, qP, qK, qD, ⟨qU, qN⟩, qC⟩ := h
  exact ⟨q0, q1, qP, va_K.moved (u := U) (U := U.calling g mk a) (Vm.Alike.refl U.vm) qK, qD, ⟨vx_Zq.moved (u := U) (U := U.calling g mk a) (Vm.Alike.refl U.vm) qU, vx_Zq.moved (u := U) (U := U.calling g mk a) (Vm.Alike.refl U.vm) qN⟩, Ex_.same (u := U) (U := U.calling g mk a) rfl qC⟩
theorem preSy_ {s : State} {H : Heap} {D : va_G} {tys : List (ClassId × FieldType)} {W0 : va_W} {sz : Nat} {As : List Value} {A : Nat → Prop} {locs : List Loc} (hP : va_P D vwCl W0 H) (hK : va_K D vwCl tys s) (hD : va_D A W0) (hsz : H.size = sz)
    (hS : va_S A s.heap H locs) (hU : vx_Zq Bundle.tN "UNASSIGNED_STACK" Bundle.steD A s s.heap) (hN : vx_Zq Bundle.tN "SUPPRESSED_SENTINEL" Bundle.listD A s s.heap) (hF : ∀ q, va_A W0 H.size q → A q) (hC : Ex_ s) :
    PreS s H (Py_ D tys W0 sz As) As := by
  subst hsz
  exact ⟨blindy_, fun U hU1 hW => ⟨rfl, by rw [hU1], by rw [hU1]; exact hP, va_K.moved hW.alike hK, hD.weaken (fun _ _ _ _ => trivial), ⟨by rw [hU1]; exact (vx_Zq.moved hW.alike (hU.kept hS.2.1)).narrow hF, by rw [hU1]; exact (vx_Zq.moved hW.alike (hN.kept hS.2.1)).narrow hF⟩, hC.warm hW⟩⟩
theorem preVy_ {s : State} {H : Heap} {C : String} {b : Addr} {D : va_G} {tys : List (ClassId × FieldType)} {W0 : va_W} {sz : Nat} {As : List Value} {A : Nat → Prop} {ci q0 : Nat} {fs : List Value} {q : vw_C} {locs : List Loc} (hP : va_P D vwCl W0 H) (hK : va_K D vwCl tys s) (hD : va_D A W0) (hsz : H.size = sz) (hc : vwCl[ci]? = some q) (hCc : q.1 = C) (he : W0[q0]? = some (b, .inr (ci, fs)))
    (hS : va_S A s.heap H locs) (hU : vx_Zq Bundle.tN "UNASSIGNED_STACK" Bundle.steD A s s.heap) (hN : vx_Zq Bundle.tN "SUPPRESSED_SENTINEL" Bundle.listD A s s.heap) (hF : ∀ q, va_A W0 H.size q → A q) (hC : Ex_ s) :
    PreV s H C b (Py_ D tys W0 sz (.ref b :: As)) As := by
  subst hCc
  exact ⟨blindy_, va_recv hK hP hc he, (preSy_ hP hK hD hsz hS hU hN hF hC).2⟩
