/-! the law's world: an object's cells, the law's own arrays, and behind them the rows of days -/
abbrev wI_ (h0 : Nat) (cI : ClassId) (n : Nat) (hv : Nat → Int32) : va_W := [(h0, .inl (cI, n, .inl hv))]
abbrev tI_ : Type := Nat → Int32
abbrev wJ_ (h0 : Nat) (cJ : ClassId) (n : Nat) (hv : Nat → Int64) : va_W := [(h0, .inl (cJ, n, .inr (.inl hv)))]
abbrev tJ_ : Type := Nat → Int64
def rup {α : Type} (z : Nat → α) (k : Nat) (v : α) : Nat → α := fun j => if j = k then v else z j
theorem rup_id {α : Type} {z : Nat → α} {k : Nat} : rup z k (z k) = z := by
  funext j
  unfold rup
  by_cases h : j = k
  · rw [if_pos h, h]
  · rw [if_neg h]
theorem rup_s {α : Type} {z : Nat → α} {k : Nat} {v : α} : rup z k v k = v := if_pos rfl
theorem rup_n {α : Type} {z : Nat → α} {k j : Nat} {v : α} (h : j ≠ k) : rup z k v j = z j := if_neg h
def rw_ (cI : ClassId) (K : Nat) (yr : Nat → Nat) (z : Nat → Nat → Int32) : va_W := (List.range K).map (fun k => (yr k, .inl (cI, 1000, .inl (z k))))
abbrev tZ_ : Type := Nat → Nat → Int32
def ou_ (K : Nat) (yr : Nat → Nat) : Nat → Option Nat := fun i => if i < K then some (yr i) else none
abbrev wY_ (h0 : Nat) (cO : ClassId) (K : Nat) (yr : Nat → Nat) : va_W := [(h0, .inl (cO, K, .inr (.inr (.inr (.inr (ou_ K yr))))))]
abbrev tY_ : Type := Unit
theorem in_lt {i : Int32} {n : Nat} (h : vp_in i n) : i.toNatClampNeg < n := Nat.not_le.mp fun q => h (Or.inr q)
theorem rw_g {cI : ClassId} {K : Nat} {yr : Nat → Nat} {z : Nat → Nat → Int32} {k : Nat} (h : k < K) : (rw_ cI K yr z)[k]? = some (yr k, .inl (cI, 1000, .inl (z k))) := by
  unfold rw_
  rw [List.getElem?_map, List.getElem?_range h]
  rfl
theorem rw_at {X : va_W} {cI : ClassId} {K : Nat} {yr : Nat → Nat} {z : Nat → Nat → Int32} {k : Nat} (h : k < K) : (X ++ rw_ cI K yr z)[X.length + k]? = some (yr k, .inl (cI, 1000, .inl (z k))) := by
  rw [List.getElem?_append_right (Nat.le_add_right _ _), Nat.add_sub_cancel_left, rw_g h]
theorem rw_fst {cI : ClassId} {K : Nat} {yr : Nat → Nat} {z z' : Nat → Nat → Int32} : (rw_ cI K yr z').map Prod.fst = (rw_ cI K yr z).map Prod.fst := by
  unfold rw_
  rw [List.map_map, List.map_map]
  rfl
theorem rw_set {X : va_W} {cI : ClassId} {K : Nat} {yr : Nat → Nat} {z : Nat → Nat → Int32} {k : Nat} {v : Nat → Int32} (h : k < K) : (X ++ rw_ cI K yr z).set (X.length + k) (yr k, .inl (cI, 1000, .inl v)) = X ++ rw_ cI K yr (rup z k v) := by
  rw [List.set_append_right _ _ (Nat.le_add_right _ _), Nat.add_sub_cancel_left]
  refine congrArg (fun l => X ++ l) ?_
  unfold rw_
  refine List.ext_getElem? (fun i => ?_)
  rw [List.getElem?_set, List.length_map, List.length_range]
  by_cases hi : i < K
  · rw [List.getElem?_map, List.getElem?_map, List.getElem?_range hi]
    by_cases e : k = i
    · subst e
      simp [rup, hi]
    · rw [if_neg e]
      simp [rup, show ¬ i = k from fun q => e q.symm]
  · have hn : (List.range K)[i]? = none := List.getElem?_eq_none (by rw [List.length_range]; omega)
    rw [List.getElem?_map, List.getElem?_map, hn, if_neg (by omega)]
    rfl
theorem aftM {A : Nat → Prop} {D : va_G} {W0 Wc Wc' W2 : va_W} {tys : List (ClassId × FieldType)} {H H1 : Heap} {t : State} (hP : va_P D vwCl W0 H) (hD : va_D A W0)
    (hk1 : ∀ q : Nat, q < H.size → ¬ va_A Wc H.size q → H1[q]? = H[q]?) (hB : Bw_ D tys (va_A Wc H.size) Wc' t) (ht : t.heap = H1) (ha : W2.map Prod.fst = W0.map Prod.fst) (hm : ∀ q, q ∈ W2 → q ∈ Wc' ∨ (q ∈ W0 ∧ ∀ r, r ∈ Wc → r.1 ≠ q.1)) : va_P D vwCl W2 H1 ∧ va_D A W2 := by
  obtain ⟨hP1, -, -⟩ := hB
  rw [ht] at hP1
  have f : ∀ (i : Nat) (p : Nat × va_E), W2[i]? = some p → ∃ p', W0[i]? = some p' ∧ p'.1 = p.1 := fun i p h => by
    have h2 : (W0.map Prod.fst)[i]? = some p.1 := by rw [← ha, List.getElem?_map, h]; rfl
    rw [List.getElem?_map] at h2
    cases h3 : W0[i]? with
    | none => rw [h3] at h2; cases h2
    | some p' => rw [h3] at h2; exact ⟨p', rfl, Option.some.inj h2⟩
  refine ⟨fun k q hq => ?_, fun i j p q hi hj hpq => ?_, fun k q hq => ?_⟩
  · rcases hm q (List.mem_of_getElem? hq) with h | ⟨h, hn⟩
    · obtain ⟨i, hi⟩ := List.getElem?_of_mem h
      exact hP1 i q hi
    · obtain ⟨i, hi⟩ := List.getElem?_of_mem h
      refine (hP i q hi).kept (hk1 q.1 (hP i q hi).lt ?_)
      rintro (⟨k2, e, h2⟩ | h2)
      · exact hn _ (List.mem_of_getElem? h2) rfl
      · exact absurd (hP i q hi).lt (Nat.not_lt.mpr h2)
  · obtain ⟨p', h1, h2⟩ := f i p hi
    obtain ⟨q', h3, h4⟩ := f j q hj
    exact hD.1 i j p' q' h1 h3 (by rw [h2, h4, hpq])
  · obtain ⟨p', h1, h2⟩ := f k q hq
    have := hD.2 k p' h1
    rw [h2] at this
    exact this
theorem P_pre {D : va_G} {X Y : va_W} {H : Heap} (h : va_P D vwCl (X ++ Y) H) : va_P D vwCl X H := fun k q hk => h k q (by rw [List.getElem?_append_left (List.getElem?_eq_some_iff.mp hk).1]; exact hk)
theorem P_suf {D : va_G} {X Y : va_W} {H : Heap} (h : va_P D vwCl (X ++ Y) H) : va_P D vwCl Y H := fun k q hk => h (X.length + k) q (by rw [List.getElem?_append_right (Nat.le_add_right _ _), Nat.add_sub_cancel_left]; exact hk)
theorem D_pre {A : Nat → Prop} {X Y : va_W} (h : va_D A (X ++ Y)) : va_D A X := by
  have hl : ∀ {i : Nat} {r : Nat × va_E}, X[i]? = some r → (X ++ Y)[i]? = some r := fun {i} {r} h => by rw [List.getElem?_append_left (List.getElem?_eq_some_iff.mp h).1]; exact h
  exact ⟨fun i j p q hi hj e => h.1 i j p q (hl hi) (hl hj) e, fun k q hk => h.2 k q (hl hk)⟩
theorem D_suf {A : Nat → Prop} {X Y : va_W} (h : va_D A (X ++ Y)) : va_D A Y := by
  have hl : ∀ {i : Nat} {r : Nat × va_E}, Y[i]? = some r → (X ++ Y)[X.length + i]? = some r := fun {i} {r} h => by rw [List.getElem?_append_right (Nat.le_add_right _ _), Nat.add_sub_cancel_left]; exact h
  exact ⟨fun i j p q hi hj e => by have := h.1 _ _ p q (hl hi) (hl hj) e; omega, fun k q hk => h.2 _ q (hl hk)⟩
theorem F_of {A : Nat → Prop} {Wc : va_W} {H0 H : Heap} {locs : List Loc} (hD : va_D A Wc) (hS : va_S A H0 H locs) (hA : ∀ q, H0.size ≤ q → A q) : ∀ q, va_A Wc H.size q → A q := by
  rintro q (⟨k, e, h⟩ | h)
  · exact hD.2 k (q, e) h
  · exact hA q (Nat.le_trans hS.1 h)
theorem dis_ {A : Nat → Prop} {X Y : va_W} (h : va_D A (X ++ Y)) {p q : Nat × va_E} (hp : p ∈ X) (hq : q ∈ Y) : p.1 ≠ q.1 := by
  intro e
  obtain ⟨i, hi⟩ := List.getElem?_of_mem hp
  obtain ⟨j, hj⟩ := List.getElem?_of_mem hq
  have hil := (List.getElem?_eq_some_iff.mp hi).1
  have := h.1 i (X.length + j) p q (by rw [List.getElem?_append_left hil]; exact hi) (by rw [List.getElem?_append_right (Nat.le_add_right _ _), Nat.add_sub_cancel_left]; exact hj) e
  omega
theorem P_mem {D : va_G} {W W' : va_W} {H : Heap} (h : va_P D vwCl W H) (hm : ∀ r, r ∈ W' → r ∈ W) : va_P D vwCl W' H := fun k q hk => by
  obtain ⟨i, hi⟩ := List.getElem?_of_mem (hm q (List.mem_of_getElem? hk))
  exact h i q hi
/-- behind a call that has the object's cells -/
theorem preJ_ {A : Nat → Prop} {D : va_G} {X X' B pl : va_W} {tys : List (ClassId × FieldType)} {H H1 : Heap} {t : State} (hP : va_P D vwCl ((X ++ B) ++ pl) H) (hD : va_D A ((X ++ B) ++ pl)) (ha : X'.map Prod.fst = X.map Prod.fst)
    (hk1 : ∀ q : Nat, q < H.size → ¬ va_A X H.size q → H1[q]? = H[q]?) (hB : Bw_ D tys (va_A X H.size) X' t) (ht : t.heap = H1) : va_P D vwCl ((X' ++ B) ++ pl) H1 ∧ va_D A ((X' ++ B) ++ pl) := by
  refine aftM hP hD hk1 hB ht (by rw [List.map_append, List.map_append, List.map_append, List.map_append, ha]) (fun q hq => ?_)
  rcases List.mem_append.mp hq with h | h
  · rcases List.mem_append.mp h with h | h
    · exact Or.inl h
    · exact Or.inr ⟨List.mem_append_left _ (List.mem_append_right _ h), fun r hr e => dis_ (D_pre hD) hr h e⟩
  · exact Or.inr ⟨List.mem_append_right _ h, fun r hr e => dis_ hD (List.mem_append_left _ hr) h e⟩
theorem preJ0_ {A : Nat → Prop} {D : va_G} {X X' B : va_W} {tys : List (ClassId × FieldType)} {H H1 : Heap} {t : State} (hP : va_P D vwCl (X ++ B) H) (hD : va_D A (X ++ B)) (ha : X'.map Prod.fst = X.map Prod.fst)
    (hk1 : ∀ q : Nat, q < H.size → ¬ va_A X H.size q → H1[q]? = H[q]?) (hB : Bw_ D tys (va_A X H.size) X' t) (ht : t.heap = H1) : va_P D vwCl (X' ++ B) H1 ∧ va_D A (X' ++ B) := by
  refine aftM hP hD hk1 hB ht (by rw [List.map_append, List.map_append, ha]) (fun q hq => ?_)
  rcases List.mem_append.mp hq with h | h
  · exact Or.inl h
  · exact Or.inr ⟨List.mem_append_right _ h, fun r hr e => dis_ hD hr h e⟩
/-- behind a call that changes nothing -/
theorem same1_ {A : Nat → Prop} {D : va_G} {W Wc : va_W} {tys : List (ClassId × FieldType)} {H H1 : Heap} {t : State} (hP : va_P D vwCl W H) (hD : va_D A W) (hm : ∀ r, r ∈ Wc → r ∈ W)
    (hk1 : ∀ q : Nat, q < H.size → ¬ va_A Wc H.size q → H1[q]? = H[q]?) (hB : Bw_ D tys (va_A Wc H.size) Wc t) (ht : t.heap = H1) : va_P D vwCl W H1 ∧ va_D A W := by
  refine aftM hP hD hk1 hB ht rfl (fun q hq => ?_)
  by_cases h : q ∈ Wc
  · exact Or.inl h
  · refine Or.inr ⟨hq, fun r hr e => h ?_⟩
    obtain ⟨i, hi⟩ := List.getElem?_of_mem (hm r hr)
    obtain ⟨j, hj⟩ := List.getElem?_of_mem hq
    have := hD.1 i j r q hi hj e
    subst this
    rw [hi] at hj
    cases hj
    exact hr
section
variable {A : Nat → Prop} {D : va_G} {Y X w w' B : va_W} {tys : List (ClassId × FieldType)} {H H1 : Heap} {t : State} {cI : ClassId} {K k : Nat} {yr : Nat → Nat} {z : Nat → Nat → Int32} {new : Nat → Int32}
theorem row_in (hk : k < K) : ((yr k, .inl (cI, 1000, .inl (z k))) : Nat × va_E) ∈ rw_ cI K yr z := List.mem_of_getElem? (rw_g hk)
theorem row_m (hk : k < K) : ∀ r, r ∈ wI_ (yr k) cI 1000 (z k) → r ∈ Y ++ rw_ cI K yr z := fun r hr => by
  rw [List.mem_singleton.mp hr]
  exact List.mem_append_right _ (row_in hk)
theorem row_D (hD : va_D A (Y ++ rw_ cI K yr z)) (hk : k < K) : va_D A (wI_ (yr k) cI 1000 (z k)) := by
  refine ⟨fun i j p q hi hj _ => ?_, fun i q hi => ?_⟩
  · have h1 := (List.getElem?_eq_some_iff.mp hi).1
    have h2 := (List.getElem?_eq_some_iff.mp hj).1
    have h3 : (wI_ (yr k) cI 1000 (z k)).length = 1 := rfl
    omega
  · have h := List.mem_singleton.mp (List.mem_of_getElem? hi)
    subst h
    exact hD.2 _ _ (rw_at hk)
theorem row_ne (hD : va_D A (Y ++ rw_ cI K yr z)) (hk : k < K) {j : Nat} (hj : j < K) (e : j ≠ k) : yr k ≠ yr j := fun h => by
  have := hD.1 _ _ _ _ (rw_at (X := Y) (cI := cI) (yr := yr) (z := z) hk) (rw_at (X := Y) (cI := cI) (yr := yr) (z := z) hj) h
  omega
/-- behind a call that has a row of days -/
theorem rowA_ (hP : va_P D vwCl (Y ++ rw_ cI K yr z) H) (hD : va_D A (Y ++ rw_ cI K yr z)) (hk : k < K)
    (hk1 : ∀ q : Nat, q < H.size → ¬ va_A (wI_ (yr k) cI 1000 (z k)) H.size q → H1[q]? = H[q]?) (hB : Bw_ D tys (va_A (wI_ (yr k) cI 1000 (z k)) H.size) (wI_ (yr k) cI 1000 new) t) (ht : t.heap = H1) : va_P D vwCl (Y ++ rw_ cI K yr (rup z k new)) H1 ∧ va_D A (Y ++ rw_ cI K yr (rup z k new)) := by
  refine aftM hP hD hk1 hB ht (by rw [List.map_append, List.map_append, rw_fst]) (fun q hq => ?_)
  rcases List.mem_append.mp hq with h | h
  · refine Or.inr ⟨List.mem_append_left _ h, fun r hr e => ?_⟩
    rw [List.mem_singleton.mp hr] at e
    exact dis_ hD h (row_in hk) e.symm
  · unfold rw_ at h
    obtain ⟨j, hj, rfl⟩ := List.mem_map.mp h
    have hj := List.mem_range.mp hj
    by_cases e : j = k
    · subst e
      rw [rup_s]
      exact Or.inl (List.mem_singleton.mpr rfl)
    · rw [rup_n e]
      refine Or.inr ⟨List.mem_append_right _ (row_in hj), fun r hr e2 => ?_⟩
      rw [List.mem_singleton.mp hr] at e2
      exact row_ne hD hk hj e e2
theorem rowW_m (hk : k < K) : ∀ r, r ∈ wI_ (yr k) cI 1000 (z k) ++ w → r ∈ (X ++ (w ++ B)) ++ rw_ cI K yr z := fun r hr => by
  rcases List.mem_append.mp hr with h | h
  · exact row_m hk r h
  · exact List.mem_append_left _ (List.mem_append_right _ (List.mem_append_left _ h))
theorem rowW_D (hD : va_D A ((X ++ (w ++ B)) ++ rw_ cI K yr z)) (hk : k < K) : va_D A (wI_ (yr k) cI 1000 (z k) ++ w) :=
  va_D.app (row_D hD hk) (D_pre (D_suf (D_pre hD))) (fun i j p q hi hj e => by
    have h := List.mem_singleton.mp (List.mem_of_getElem? hi)
    subst h
    exact dis_ hD (List.mem_append_right _ (List.mem_append_left _ (List.mem_of_getElem? hj))) (row_in hk) e.symm)
/-- .. a row of days and the table of versions -/
theorem rowW_ (hP : va_P D vwCl ((X ++ (w ++ B)) ++ rw_ cI K yr z) H) (hD : va_D A ((X ++ (w ++ B)) ++ rw_ cI K yr z)) (hk : k < K) (ha : w'.map Prod.fst = w.map Prod.fst)
    (hk1 : ∀ q : Nat, q < H.size → ¬ va_A (wI_ (yr k) cI 1000 (z k) ++ w) H.size q → H1[q]? = H[q]?) (hB : Bw_ D tys (va_A (wI_ (yr k) cI 1000 (z k) ++ w) H.size) (wI_ (yr k) cI 1000 new ++ w') t) (ht : t.heap = H1) : va_P D vwCl ((X ++ (w' ++ B)) ++ rw_ cI K yr (rup z k new)) H1 ∧ va_D A ((X ++ (w' ++ B)) ++ rw_ cI K yr (rup z k new)) := by
  refine aftM hP hD hk1 hB ht (by rw [List.map_append, List.map_append, List.map_append, List.map_append, List.map_append, List.map_append, rw_fst, ha]) (fun q hq => ?_)
  have hrow : ∀ r, r ∈ wI_ (yr k) cI 1000 (z k) → r = ((yr k, .inl (cI, 1000, .inl (z k))) : Nat × va_E) := fun r hr => List.mem_singleton.mp hr
  rcases List.mem_append.mp hq with h | h
  · rcases List.mem_append.mp h with h | h
    · refine Or.inr ⟨List.mem_append_left _ (List.mem_append_left _ h), fun r hr e => ?_⟩
      rcases List.mem_append.mp hr with h2 | h2
      · rw [hrow r h2] at e; exact dis_ hD (List.mem_append_left _ h) (row_in hk) e.symm
      · exact dis_ (D_pre hD) h (List.mem_append_left _ h2) e.symm
    · rcases List.mem_append.mp h with h | h
      · exact Or.inl (List.mem_append_right _ h)
      · refine Or.inr ⟨List.mem_append_left _ (List.mem_append_right _ (List.mem_append_right _ h)), fun r hr e => ?_⟩
        rcases List.mem_append.mp hr with h2 | h2
        · rw [hrow r h2] at e; exact dis_ hD (List.mem_append_right _ (List.mem_append_right _ h)) (row_in hk) e.symm
        · exact dis_ (D_suf (D_pre hD)) h2 h e
  · unfold rw_ at h
    obtain ⟨j, hj, rfl⟩ := List.mem_map.mp h
    have hj := List.mem_range.mp hj
    by_cases e : j = k
    · subst e
      rw [rup_s]
      exact Or.inl (List.mem_append_left _ (List.mem_singleton.mpr rfl))
    · rw [rup_n e]
      refine Or.inr ⟨List.mem_append_right _ (row_in hj), fun r hr e2 => ?_⟩
      rcases List.mem_append.mp hr with h2 | h2
      · rw [hrow r h2] at e2
        exact row_ne hD hk hj e e2
      · exact dis_ hD (List.mem_append_right _ (List.mem_append_left _ h2)) (row_in hj) e2
theorem rowX_m (hk : k < K) : ∀ r, r ∈ X ++ (wI_ (yr k) cI 1000 (z k) ++ w) → r ∈ (X ++ (w ++ B)) ++ rw_ cI K yr z := fun r hr => by
  rcases List.mem_append.mp hr with h | h
  · exact List.mem_append_left _ (List.mem_append_left _ h)
  · exact rowW_m hk r h
theorem rowX_D (hD : va_D A ((X ++ (w ++ B)) ++ rw_ cI K yr z)) (hk : k < K) : va_D A (X ++ (wI_ (yr k) cI 1000 (z k) ++ w)) :=
  va_D.app (D_pre (D_pre hD)) (rowW_D hD hk) (fun i j p q hi hj e => by
    have hp := List.mem_of_getElem? hi
    rcases List.mem_append.mp (List.mem_of_getElem? hj) with h | h
    · have h := List.mem_singleton.mp h
      subst h
      exact dis_ hD (List.mem_append_left _ hp) (row_in hk) e
    · exact dis_ (D_pre hD) hp (List.mem_append_left _ h) e)
end
section
variable {p : Program} {l : Launch} {e : Env} {R : Room} {s : State} {m : MethodId} {args : Array Value} {below : List Frame} {meth : Method} {c : Code} {H : Heap} {locs : List Loc} {cells slots : Nat} {Q : State → Prop}
variable {cc : ByteArray} {pc : Nat} {ls : Array Slot} {rest : List Value} {D : va_G} {cl : List vw_C} {A : Nat → Prop} {a : Nat} {tys : List (ClassId × FieldType)} {ws : va_W} {H0 : Heap}
/-- a row of days out of the array of rows -/
theorem ald_Y (hexec : p.tables.exec = Jvm.exec) (hb : c.code = cc) (hK : va_K D cl tys s) (hP : va_P D cl ws H) (q0 t0 : Nat) {cA : ClassId} {K : Nat} {yr : Nat → Nat} (ha : ws[q0]? = some (a, .inl (cA, K, .inr (.inr (.inr (.inr (ou_ K yr))))))) (ht : tys[t0]? = some (cA, .array .int)) {i : Int32} (hin : vp_in i K) (hdg : decode cc pc = .ok (.aaload, 1))
    (kk : W p l e R s m args below meth c H locs cells slots Q (F0 m (pc + 1) ls (.ref (yr i.toNatClampNeg) :: rest))) : W p l e R s m args below meth c H locs cells slots Q (F0 m pc ls (.int i :: .ref a :: rest)) := by
  have hlt : i.toNatClampNeg < K := in_lt hin
  have hv : va_rf (ou_ K yr i.toNatClampNeg) = .ref (yr i.toNatClampNeg) := by unfold ou_; rw [if_pos hlt]; rfl
  exact W.aald (v := .ref (yr i.toNatClampNeg)) (ty := .array .int) hexec hb (hP q0 _ ha) ((hK.2 t0 _ ht).1 K (fun j => va_rf (ou_ K yr j))) rfl (fun q => by cases q) (by show ¬ (i < 0 ∨ (arrV _ _ _).slots.size ≤ _); rw [arrV_size]; exact hin) (by show (arrV _ _ _).slots[_]? = _; rw [arrV_read _ _ hlt, hv]) rfl rfl hdg kk
end
/-! numbers that a length may be -/
def gw_ {α : Type} (i : Int32) (n : Nat) (X : Option α) : Option α := if 0 ≤ i.toInt ∧ i.toInt ≤ (n : Int) then X else none
theorem gw_T {α : Type} {i : Int32} {n : Nat} {X : Option α} {R : α} (hf : gw_ i n X = some R) : (¬ i < 0 ∧ i.toNatClampNeg ≤ n) ∧ X = some R := by
  unfold gw_ at hf
  by_cases h : 0 ≤ i.toInt ∧ i.toInt ≤ (n : Int)
  · rw [if_pos h] at hf
    refine ⟨⟨fun q => ?_, ?_⟩, hf⟩
    · rw [Int32.lt_iff_toInt_lt] at q
      have : (0 : Int32).toInt = 0 := by decide
      omega
    · show i.toInt.toNat ≤ n
      omega
  · rw [if_neg h] at hf; cases hf
/-! the law's own script, read by a method of its own -/
def cv_at (xs : Nat → Int32) (L : Nat) (k : Int32) : Int32 := if Int32.ofNat L ≤ k then 40503 * k else xs k.toNatClampNeg
def sh_ (x : Int32) : Int32 := (x.toUInt32 >>> ((1 : Int32).toUInt32 &&& Int32.toUInt32 31)).toInt32
def dw_ (xs : Nat → Int32) (L : Nat) (k n : Int32) : Int32 := sh_ (cv_at xs L k) - sh_ (cv_at xs L k) / n * n
def gp_ {α : Type} (k : Int32) (n : Int32) (X : Option α) : Option α := if 0 ≤ k.toInt ∧ ¬ n = 0 then X else none
theorem gp_T {α : Type} {k n : Int32} {X : Option α} {R : α} (hf : gp_ k n X = some R) : (0 ≤ k.toInt ∧ ¬ n = 0) ∧ X = some R := by
  unfold gp_ at hf
  by_cases h : 0 ≤ k.toInt ∧ ¬ n = 0
  · rw [if_pos h] at hf; exact ⟨h, hf⟩
  · rw [if_neg h] at hf; cases hf
abbrev Ps_ (b L : Nat) (xs : Nat → Int32) (sz : Nat) (av : List Value) : Array Value → State → Prop := va_Pc av (fun U => U.heap.size = sz ∧ va_X b L xs U U.heap ∧ b < sz)
abbrev Qs_ (r0 : Int32) (sz : Nat) : Array Value → State → Outcome → State → Prop := va_Qi (fun (r : Int32) (_ : Unit) => r = r0) (fun _ _ => True) (fun q => sz ≤ q)
theorem preX_ {s : State} {H : Heap} {b L : Nat} {xs : Nat → Int32} {sz : Nat} {As : List Value} {A : Nat → Prop} {locs : List Loc} (hX : va_X b L xs s s.heap) (hbl : b < s.heap.size) (hbA : ¬ A b) (hS : va_S A s.heap H locs) (hsz : H.size = sz) :
    PreS s H (Ps_ b L xs sz As) As := by
  refine ⟨fun a U g mk h => ?_, fun U hU hW => ⟨rfl, by rw [hU]; exact hsz, by rw [hU]; exact va_X.moved hW.alike (hX.kept (hS.2.1 b hbl hbA)), Nat.lt_of_lt_of_le hbl (by rw [← hsz]; exact hS.1)⟩⟩
  obtain ⟨q0, q1, qX, qb⟩ := h
  exact ⟨q0, q1, va_X.moved (u := U) (U := U.calling g mk a) (Vm.Alike.refl U.vm) qX, qb⟩
theorem mets_ {l : Launch} {y : MethodName} {ws ws' : List Cond} {rm : Room} {b L : Nat} {xs : Nat → Int32} {sz : Nat} {av : List Value} {cc : ByteArray} {maxL : Nat} {ret : Option FieldType} {Qc : Array Value → State → Outcome → State → Prop} {mc ms : Nat}
    (hy : plainName y.cls = true) (hw : ws = Cond.code y cc maxL ret :: ws') (hav : (lg_sl av).length ≤ maxL)
    (body : ∀ (p : Program) (e : Env) (s : State) (m : MethodId) (args : Array Value) (below : List Frame) (meth : Method) (c : Code) (ls : Array Slot), p.tables.exec = Jvm.exec → c.code = cc → meth.sig.returnType = ret → (∀ w ∈ ws, w.before args s = true) → s.vm.findClass y.cls = some m.cls → meth.locks = false → c.maxLocals = maxL →
      s.heap.size = sz → va_X b L xs s s.heap → b < sz → lv_has ls maxL (lv_args 0 av) → W p l e (headSpec ws rm).room s m args below meth c s.heap [] 0 0 (MQ below Qc args s mc ms (fun q => sz ≤ q)) (F0 m 0 ls [])) :
    Met l y ws rm (Ps_ b L xs sz av) Qc mc ms (fun q => sz ≤ q) := by
  refine Met.ofW (cc := cc) (maxL := maxL) (ret := ret) hy hw ?_
  intro p e s m args below meth c s₁ B hml hv
  obtain ⟨rfl, hsz, hX, hbl⟩ := hv
  have hl := lv_entry av (n := maxL) hav
  rw [lg_entry_eq]
  exact body p e s m _ below meth c _ B.exec B.bytes B.returns (atoms_spec B.pre) (findClass_of_methodNamed B.named) B.notSynchronized hml hsz hX hbl hl
abbrev rm_L_cell : Room := { frames := 0, cells := 0, slots := 0, locals := 0 }
theorem hs_L_cell : yL_cell.cls = RL ∧ yL_cell.cls ≠ "java/lang/invoke/MethodHandle" ∧ yL_cell.cls ≠ "java/lang/invoke/VarHandle" ∧ (parseMethodDescriptor yL_cell.desc).map (fun d => d.parameters.length) = some 2 := by decide +kernel
theorem hs_L_draw : yL_draw.cls = RL ∧ yL_draw.cls ≠ "java/lang/invoke/MethodHandle" ∧ yL_draw.cls ≠ "java/lang/invoke/VarHandle" ∧ (parseMethodDescriptor yL_draw.desc).map (fun d => d.parameters.length) = some 3 := by decide +kernel
theorem cell_in {L : Nat} {k : Int32} (h : 0 ≤ k.toInt) (hL : L < 2 ^ 31) (hc : ¬ Int32.ofNat L ≤ k) : vp_in k L := by
  rw [vp_in_iff]
  refine ⟨h, ?_⟩
  rw [Int32.le_iff_toInt_le, show (Int32.ofNat L).toInt = L from nI_toInt hL] at hc
  omega
set_option maxHeartbeats 4000000 in
theorem c_L_cell (l : Launch) (b L : Nat) (xs : Nat → Int32) (sz : Nat) (k : Int32) (hk : 0 ≤ k.toInt) (hL : L < 2 ^ 31) : Met l yL_cell wsL_cell rm_L_cell (Ps_ b L xs sz [.ref b, .int k]) (Qs_ (cv_at xs L k) sz) 0 0 (fun q => sz ≤ q) := by
  refine mets_ (cc := cL_cell) (maxL := 2) (ret := (some .int)) (by decide) rfl (Nat.le_of_ble_eq_true rfl) ?_
  intro p e s m args below meth c ls hx hb hr hts hown hlocks hml hsz hX hbl hl
  have hown : s.vm.findClass RL = some m.cls := hown
  have hl : lv_has ls 2 [(0, .ref b), (1, .int k)] := hl
  obtain ⟨A, hAe⟩ : ∃ A : Nat → Prop, A = (fun q : Nat => sz ≤ q) := ⟨_, rfl⟩
  have hbA : ¬ A b := by rw [hAe]; exact Nat.not_le.mpr hbl
  have hbl2 : b < s.heap.size := by rw [hsz]; exact hbl
  have hS : va_S A s.heap s.heap [] := va_S.rf
  rw [← hAe]
  refine lv_iload_n hx hb dL_cell_0 rfl (lv_at hl 1 rfl) ?_
  refine lv_aload_n hx hb dL_cell_1 rfl (lv_at hl 0 rfl) ?_
  refine va_slen hx hb hX hbl2 hbA hS dL_cell_2 ?_
  refine lv_icmp_ge (tgt := 12) hx hb dL_cell_3 (by decide) (fun c1 => ?_) (fun c1 => ?_)
  · refine lv_ldc hx hb hown (hts _ (List.mem_of_getElem? (i := 1) rfl)) dL_cell_12 ?_
    refine lv_iload_n hx hb dL_cell_14 rfl (lv_at hl 1 rfl) ?_
    refine lv_imul hx hb dL_cell_15 ?_
    exact W.iret (v := (40503 : Int32) * k) hx hb hr (fun t ht hW => ⟨⟨_, (), rfl, by unfold cv_at; rw [if_pos c1], trivial⟩, (by have h9 := hS.F ht; rw [hAe] at h9; exact h9)⟩) hS.2.2 dL_cell_16
  · refine lv_aload_n hx hb dL_cell_6 rfl (lv_at hl 0 rfl) ?_
    refine lv_iload_n hx hb dL_cell_7 rfl (lv_at hl 1 rfl) ?_
    refine va_sld hx hb hX hbl2 hbA hS (cell_in hk hL c1) dL_cell_8 ?_
    refine lv_goto (tgt := 16) hx hb dL_cell_9 (by decide) ?_
    exact W.iret (v := xs k.toNatClampNeg) hx hb hr (fun t ht hW => ⟨⟨_, (), rfl, by unfold cv_at; rw [if_neg c1], trivial⟩, (by have h9 := hS.F ht; rw [hAe] at h9; exact h9)⟩) hS.2.2 dL_cell_16
abbrev rm_L_draw : Room := { frames := 1, cells := 0, slots := 0, locals := 21 }
set_option maxHeartbeats 4000000 in
theorem c_L_draw (l : Launch) (b L : Nat) (xs : Nat → Int32) (sz : Nat) (k n : Int32) (hk : 0 ≤ k.toInt ∧ ¬ n = 0) (hL : L < 2 ^ 31) : Met l yL_draw wsL_draw rm_L_draw (Ps_ b L xs sz [.ref b, .int k, .int n]) (Qs_ (dw_ xs L k n) sz) 0 0 (fun q => sz ≤ q) := by
  refine mets_ (cc := cL_draw) (maxL := 3) (ret := (some .int)) (by decide) rfl (Nat.le_of_ble_eq_true rfl) ?_
  intro p e s m args below meth c ls hx hb hr hts hown hlocks hml hsz hX hbl hl
  have hown : s.vm.findClass RL = some m.cls := hown
  have hl : lv_has ls 3 [(0, .ref b), (1, .int k), (2, .int n)] := hl
  obtain ⟨A, hAe⟩ : ∃ A : Nat → Prop, A = (fun q : Nat => sz ≤ q) := ⟨_, rfl⟩
  have hbA : ¬ A b := by rw [hAe]; exact Nat.not_le.mpr hbl
  have hbl2 : b < s.heap.size := by rw [hsz]; exact hbl
  have hS : va_S A s.heap s.heap [] := va_S.rf
  rw [← hAe]
  refine lv_aload_n hx hb dL_draw_0 rfl (lv_at hl 0 rfl) ?_
  refine lv_iload_n hx hb dL_draw_1 rfl (lv_at hl 1 rfl) ?_
  have hF : ∀ q : Nat, s.heap.size ≤ q → A q := fun q h => by rw [hAe]; show sz ≤ q; rw [← hsz]; exact h
  refine va_calli (va_runS (As := [.ref b, .int k]) (rest := []) ⟨hx, hb, hml, hown, hts⟩ (c_L_cell l b L xs s.heap.size k hk.1 hL) (cwS 2 hts gL_draw_L_cell rfl rfl rfl hs_L_cell ⟨Nat.le_of_ble_eq_true rfl, Nat.le_of_ble_eq_true rfl⟩) (preX_ hX hbl2 hbA hS rfl) rfl rfl hl.1 rfl (lv_room (Nat.le_of_ble_eq_true rfl)) dL_draw_2 ⟨Nat.le_of_ble_eq_true rfl, Nat.le_of_ble_eq_true rfl⟩) hS (fun q _ h => hF q h) hF (fun z u t H1 locs ht hvm hw hB hz1 hk1 hS => ?_)
  subst hw
  refine lv_iconst (v := 1) hx hb dL_draw_5 (by decide) ?_
  refine lv_iushr (v := sh_ (cv_at xs L k)) hx hb dL_draw_6 rfl ?_
  refine lv_iload_n hx hb dL_draw_7 rfl (lv_at hl 2 rfl) ?_
  refine lv_irem hx hb dL_draw_8 hk.2 ?_
  exact W.iret (v := dw_ xs L k n) hx hb hr (fun t ht hW => ⟨⟨_, (), rfl, rfl, trivial⟩, (by have h9 := hS.F ht; rw [hAe] at h9; exact h9)⟩) hS.2.2 dL_draw_9
