/-! methods of the law's own class, with a table that catches -/
/-- what the law catches -/
abbrev ex4_ : List String := ["java/lang/IndexOutOfBoundsException", "java/lang/IllegalArgumentException", "java/lang/IllegalStateException", "java/util/NoSuchElementException"]
def Ca_ (U : State) : Prop := Ex_ U ∧ ∀ E ∈ ex5_, ∀ F ∈ ex4_, E ≠ F → va_Nc E F U
theorem Ca_.warm {s U : State} (hW : s.WarmedH U.vm) (h : Ca_ s) : Ca_ U := ⟨h.1.warm hW, fun E hE F hF hn => va_Nc.moved hW.alike (h.2 E hE F hF hn)⟩
theorem Ca_.same {u U : State} (e : u.vm = U.vm) (h : Ca_ u) : Ca_ U := ⟨h.1.same e, fun E hE F hF hn => va_Nc.moved (by rw [e]; exact Vm.Alike.refl _) (h.2 E hE F hF hn)⟩
abbrev PL_ (D : va_G) (tys : List (ClassId × FieldType)) (W0 : va_W) (sz : Nat) (av : List Value) : Array Value → State → Prop := va_Pc av (fun U => U.heap.size = sz ∧ va_P D vwCl W0 U.heap ∧ va_K D vwCl tys U ∧ va_D (fun _ => True) W0 ∧ Zq_ (va_A W0 sz) U U.heap ∧ Ca_ U)
theorem Met.ofWH_ {l : Launch} {y : MethodName} {ws ws' : List Cond} {rm : Room} {Pc : Array Value → State → Prop} {Qc : Array Value → State → Outcome → State → Prop} {mc ms : Nat} {free : Addr → Prop} {cc : ByteArray} {maxL : Nat} {ret : Option FieldType} {hh : List (Nat × Nat × Nat × Nat)}
    (hy : plainName y.cls = true) (hw : ws = Cond.codeWith y cc maxL ret hh :: ws')
    (body : ∀ p e s m args below meth c s₁, BodyLoose p l y (headSpec ws rm) cc maxL ret e s m args below meth c s₁ → c.maxLocals = maxL → Pc args s →
      W p l e (headSpec ws rm).room s m args below meth c s.heap [] 0 0 (MQ below Qc args s mc ms free) (entryFrame m args maxL)) : Met l y ws rm Pc Qc mc ms free := by
  refine MetFree.of_bodyS (code := cc) (maxLocals := maxL) (ret := ret) hy ?_ ?_
  · intro args s m h hn
    obtain ⟨m9, meth, c, hn9, h1, h2, h3, h4, -, h5, h6, -⟩ := Cond.codeWith_spec (atoms_spec (ws := ws) h _ (by rw [hw]; exact List.mem_cons_self))
    cases hn.symm.trans hn9
    exact ⟨meth, c, h1, h2, h3, h4, h5, h6⟩
  · intro p e s m args below meth c s₁ B hml hP _
    have hh0 : s₁.heap = s.heap := by rw [B.state]; rfl
    obtain ⟨t, a1, o, b1, b2, b3⟩ := body p e s m args below meth c s₁ B hml hP s₁ hh0 (Stand.of_body B)
    exact ⟨t, o, a1, b1, b2, ⟨b3.1, b3.2⟩⟩
theorem metw_ {l : Launch} {y : MethodName} {ws ws' : List Cond} {rm : Room} {D : va_G} {tys : List (ClassId × FieldType)} {W0 : va_W} {sz : Nat} {av : List Value} {cc : ByteArray} {maxL : Nat} {ret : Option FieldType} {hh : List (Nat × Nat × Nat × Nat)} {Qcf : (Nat → Prop) → Array Value → State → Outcome → State → Prop} {mc ms : Nat}
    (hy : plainName y.cls = true) (hw : ws = Cond.codeWith y cc maxL ret hh :: ws') (hav : (lg_sl av).length ≤ maxL)
    (body : ∀ (p : Program) (e : Env) (s : State) (m : MethodId) (args : Array Value) (below : List Frame) (meth : Method) (c : Code) (A : Nat → Prop) (ls : Array Slot), p.tables.exec = Jvm.exec → c.code = cc → meth.sig.returnType = ret → (∀ w ∈ ws, w.before args s = true) → s.vm.findClass y.cls = some m.cls → meth.locks = false → c.maxLocals = maxL →
      c.exceptionTable.toList = tableOf hh → (∀ q : Nat, s.heap.size ≤ q → A q) → vx_Zq Bundle.tN "UNASSIGNED_STACK" Bundle.steD A s s.heap → vx_Zq Bundle.tN "SUPPRESSED_SENTINEL" Bundle.listD A s s.heap → Ca_ s → va_P D vwCl W0 s.heap → va_K D vwCl tys s → va_D A W0 → lv_has ls maxL (lv_args 0 av) → W p l e (headSpec ws rm).room s m args below meth c s.heap [] 0 0 (MQ below (Qcf A) args s mc ms A) (F0 m 0 ls [])) :
    Met l y ws rm (PL_ D tys W0 sz av) (Qcf (va_A W0 sz)) mc ms (va_A W0 sz) := by
  refine Met.ofWH_ (cc := cc) (maxL := maxL) (ret := ret) hy hw ?_
  intro p e s m args below meth c s₁ B hml hv
  obtain ⟨rfl, hsz, hP, hK, hD0, ⟨hU, hN⟩, hC⟩ := hv
  subst hsz
  have hD := hD0.self (sz := s.heap.size)
  have hl := lv_entry av (n := maxL) hav
  rw [lg_entry_eq]
  have hts := atoms_spec (ws := ws) B.pre
  exact body p e s m _ below meth c _ _ B.exec B.bytes B.returns hts (findClass_of_methodNamed B.named) B.notSynchronized hml (vx_table (x := y) B (hts _ (by rw [hw]; exact List.mem_cons_self))) (fun q h => Or.inr h) hU hN hC hP hK hD hl
theorem preL_ {s : State} {H : Heap} {D : va_G} {tys : List (ClassId × FieldType)} {W0 : va_W} {sz : Nat} {As : List Value} {A : Nat → Prop} {locs : List Loc} (hP : va_P D vwCl W0 H) (hK : va_K D vwCl tys s) (hD : va_D A W0) (hsz : H.size = sz)
    (hS : va_S A s.heap H locs) (hU : vx_Zq Bundle.tN "UNASSIGNED_STACK" Bundle.steD A s s.heap) (hN : vx_Zq Bundle.tN "SUPPRESSED_SENTINEL" Bundle.listD A s s.heap) (hF : ∀ q, va_A W0 H.size q → A q) (hC : Ca_ s) :
    PreS s H (PL_ D tys W0 sz As) As := by
  subst hsz
  refine ⟨fun a U g mk h => ?_, fun U hU1 hW => ⟨rfl, by rw [hU1], by rw [hU1]; exact hP, va_K.moved hW.alike hK, hD.weaken (fun _ _ _ _ => trivial), ⟨by rw [hU1]; exact (vx_Zq.moved hW.alike (hU.kept hS.2.1)).narrow hF, by rw [hU1]; exact (vx_Zq.moved hW.alike (hN.kept hS.2.1)).narrow hF⟩, hC.warm hW⟩⟩
  obtain ⟨q0, q1, qP, qK, qD, ⟨qU, qN⟩, qC⟩ := h
  exact ⟨q0, q1, qP, va_K.moved (u := U) (U := U.calling g mk a) (Vm.Alike.refl U.vm) qK, qD, ⟨vx_Zq.moved (u := U) (U := U.calling g mk a) (Vm.Alike.refl U.vm) qU, vx_Zq.moved (u := U) (U := U.calling g mk a) (Vm.Alike.refl U.vm) qN⟩, Ca_.same (u := U) (U := U.calling g mk a) rfl qC⟩
