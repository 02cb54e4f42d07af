/-! counts and sums over the facts -/
def FI_ (k f e g : Nat → Int32) (n : Nat) (fk fd fv : Nat → Int32) (q : Nat) : Prop := q ≤ 60 ∧ ∀ t, t < q → iK_ (fk t) ∧ iD_ (fd t) ∧ cv_ k f e g n (fk t) (fd t) ∧ fv t = onF_ k f e g n fk fd t
def sm_ (w fa : Nat → Int32) (x : Int32) (j : Nat) (a : Int64) : Int64 := if w j = x then a + (fa j).toInt64 else a
def sf_ (fk w v fa : Nat → Int32) (key val : Int32) (j : Nat) (a : Int64) : Int64 := if fk j = key ∧ v (w j).toNatClampNeg = val then a + (fa j).toInt64 else a
def sv_ (k g v w fa : Nat → Int32) (q : Nat) (key val : Int32) (j : Nat) (a : Int64) : Int64 := if (g j = 0 ∧ k j = key) ∧ v j = val then a + fo_ (sm_ w fa (nI j)) q 0 0 else a
theorem fo_snoc {α : Type} {g : Nat → α → α} : ∀ c j a, fo_ g (c + 1) j a = g (j + c) (fo_ g c j a) := by
  intro c
  induction c with
  | zero => intro j a; rfl
  | succ c ih =>
    intro j a
    show fo_ g (c + 1) (j + 1) (g j a) = g (j + (c + 1)) (fo_ g c (j + 1) (g j a))
    rw [ih, show j + 1 + c = j + (c + 1) by omega]
section
variable {k f e v i g fk fd fa fv G mkept mspare mwas mtext mtold : Nat → Int32} {mhasKept mwasMany manew mthrown mlength mspot mvalue merror mtolds : Int32} {n q : Nat} {key val x dd : Int32}
theorem on_cases (hn : n ≤ 60) (t : Nat) : onF_ k f e g n fk fd t = -1 ∨ ∃ j, j < n ∧ (g j = 0 ∧ k j = fk t ∧ f j ≤ fd t ∧ fd t < e j) ∧ onF_ k f e g n fk fd t = nI j := by
  rcases on_spec (k := k) (f := f) (e := e) (g := g) (n := n) (fk t) (fd t) with ⟨h, -⟩ | ⟨j, hj, hA, h⟩
  · exact Or.inl h
  · exact Or.inr ⟨j, hj, hA, h⟩
theorem FI_on (hn : n ≤ 60) (hI : FI_ k f e g n fk fd fv q) {t : Nat} (ht : t < q) : ∃ j, j < n ∧ (g j = 0 ∧ k j = fk t ∧ f j ≤ fd t ∧ fd t < e j) ∧ fv t = nI j := by
  obtain ⟨-, -, h3, h4⟩ := hI.2 t ht
  rcases on_cases (k := k) (f := f) (e := e) (g := g) (fk := fk) (fd := fd) hn t with h | ⟨j, hj, hA, h⟩
  · exact absurd h ((on_cv hn).mpr h3)
  · exact ⟨j, hj, hA, by rw [h4, h]⟩
theorem F_countOf_L (hq : q ≤ 60) : ∀ c m j b, j + c = q → c < m → f_X0_countOf_L4 m (nI j) (nI b) x (fk, fd, fa, fv, nI q) = some (nI (b + cf_ (fun t => decide (fv t = x)) c j)) := by
  intro c
  induction c with
  | zero =>
    intro m j b h1 h2
    obtain ⟨m, rfl⟩ := ex_S h2
    rw [e_X0_countOf_L4]
    unfold f_X0_countOf_S4
    dsimp only
    rw [if_pos (by rw [nI_leI (by omega) (by omega)]; omega)]
    rfl
  | succ c ih =>
    intro m j b h1 h2
    obtain ⟨m, rfl⟩ := ex_S h2
    rw [e_X0_countOf_L4]
    unfold f_X0_countOf_S4
    dsimp only
    simp only [S_I]
    rw [if_neg (by rw [nI_leI (by omega) (by omega)]; omega), gd_I (by omega) (by omega), cl_I (by omega), cf_s]
    by_cases h : fv j = x
    · rw [if_pos h, if_pos (dec_t h), ih m (j + 1) (b + 1) (by omega) (by omega), Nat.add_assoc]
    · rw [if_neg h, if_neg (by rw [dec_f h]; decide), ih m (j + 1) b (by omega) (by omega), Nat.zero_add]
theorem F_countOf (hq : q ≤ 60) : f_X0_countOf x (fk, fd, fa, fv, nI q) = some (nI (cf_ (fun t => decide (fv t = x)) q 0)) := by
  unfold f_X0_countOf
  dsimp only
  have h := F_countOf_L (x := x) (fk := fk) (fd := fd) (fa := fa) (fv := fv) hq q fu_ 0 0 (by omega) (by unfold fu_; omega)
  rw [Nat.zero_add] at h
  exact h
theorem F_pointFrom_L (hq : q ≤ 60) : ∀ c m j, j + c = q → c < m → f_X0_pointFrom_L2 m (nI j) dd x (fk, fd, fa, fv, nI q) = some (if cf_ (fun t => decide (¬ fd t < dd ∧ fv t = x)) c j = 0 then 0 else 1) := by
  intro c
  induction c with
  | zero =>
    intro m j h1 h2
    obtain ⟨m, rfl⟩ := ex_S h2
    rw [e_X0_pointFrom_L2]
    unfold f_X0_pointFrom_S2
    dsimp only
    rw [if_pos (by rw [nI_leI (by omega) (by omega)]; omega)]
    rfl
  | succ c ih =>
    intro m j h1 h2
    obtain ⟨m, rfl⟩ := ex_S h2
    rw [e_X0_pointFrom_L2]
    unfold f_X0_pointFrom_S2
    dsimp only
    rw [if_neg (by rw [nI_leI (by omega) (by omega)]; omega), gd_I (by omega) (by omega), gd_I (by omega) (by omega), cl_I (by omega), S_I, cf_s, ih m (j + 1) (by omega) (by omega)]
    by_cases h : fv j = x
    · by_cases hd : fd j < dd
      · rw [if_pos h, if_pos hd, if_neg (c := decide _ = true) (fun h1 => (of_decide_eq_true h1).1 hd), Nat.zero_add]
      · rw [if_pos h, if_neg hd, if_pos (c := decide _ = true) (dec_t ⟨hd, h⟩), if_neg (by omega)]
    · rw [if_neg h, if_neg (c := decide _ = true) (fun h1 => h (of_decide_eq_true h1).2), Nat.zero_add]
theorem F_pointFrom (hq : q ≤ 60) : f_X0_pointFrom dd x (fk, fd, fa, fv, nI q) = some (if cf_ (fun t => decide (¬ fd t < dd ∧ fv t = x)) q 0 = 0 then 0 else 1) := by
  unfold f_X0_pointFrom
  dsimp only
  exact F_pointFrom_L hq q fu_ 0 (by omega) (by unfold fu_; omega)
/-- facts counted by the class as by the model -/
theorem cf_on (hI : FI_ k f e g n fk fd fv q) : cf_ (fun t => decide (¬ fd t < dd ∧ onF_ k f e g n fk fd t = x)) q 0 = cf_ (fun t => decide (¬ fd t < dd ∧ fv t = x)) q 0 :=
  cf_congr q 0 (fun t _ ht => by rw [(hI.2 t (by omega)).2.2.2])
theorem cf_on0 (hI : FI_ k f e g n fk fd fv q) : cf_ (fun t => decide (¬ fd t < 0 ∧ onF_ k f e g n fk fd t = x)) q 0 = cf_ (fun t => decide (fv t = x)) q 0 :=
  cf_congr q 0 (fun t _ ht => decide_eq_decide.mpr (by
    obtain ⟨-, h2, -, h4⟩ := hI.2 t (by omega)
    have h5 : ¬ fd t < 0 := by rw [c_lt z0_]; unfold iD_ at h2; omega
    rw [h4]
    exact ⟨fun h => h.2, fun h => ⟨h5, h⟩⟩))
theorem F_sumOf_L (hq : q ≤ 60) : ∀ c m j a, j + c = q → c < m → f_X0_sumOf_L5 m (nI j) a x (fk, fd, fa, fv, nI q) = some (fo_ (sm_ fv fa x) c j a) := by
  intro c
  induction c with
  | zero =>
    intro m j a h1 h2
    obtain ⟨m, rfl⟩ := ex_S h2
    rw [e_X0_sumOf_L5]
    unfold f_X0_sumOf_S5
    dsimp only
    rw [if_pos (by rw [nI_leI (by omega) (by omega)]; omega)]
    rfl
  | succ c ih =>
    intro m j a h1 h2
    obtain ⟨m, rfl⟩ := ex_S h2
    rw [e_X0_sumOf_L5]
    unfold f_X0_sumOf_S5
    dsimp only
    show _ = some (fo_ (sm_ fv fa x) c (j + 1) (sm_ fv fa x j a))
    rw [if_neg (by rw [nI_leI (by omega) (by omega)]; omega), gd_I (by omega) (by omega), gd_I (by omega) (by omega), cl_I (by omega), S_I]
    by_cases h : fv j = x
    · rw [if_pos h, show sm_ fv fa x j a = a + (fa j).toInt64 from if_pos h, ih m (j + 1) _ (by omega) (by omega)]
    · rw [if_neg h, show sm_ fv fa x j a = a from if_neg h, ih m (j + 1) _ (by omega) (by omega)]
theorem F_sumOf (hq : q ≤ 60) : f_X0_sumOf x (fk, fd, fa, fv, nI q) = some (fo_ (sm_ fv fa x) q 0 0) := by
  unfold f_X0_sumOf
  dsimp only
  exact F_sumOf_L hq q fu_ 0 0 (by omega) (by unfold fu_; omega)
end
section
variable {k v g fk fa w : Nat → Int32} {key val : Int32}
theorem sv_add {q : Nat} {y : Int64} : ∀ c j a, fo_ (sv_ k g v w fa q key val) c j (a + y) = fo_ (sv_ k g v w fa q key val) c j a + y := by
  intro c
  induction c with
  | zero => intro j a; rfl
  | succ c ih =>
    intro j a
    show fo_ _ c (j + 1) (sv_ k g v w fa q key val j (a + y)) = fo_ _ c (j + 1) (sv_ k g v w fa q key val j a) + y
    rw [← ih]
    unfold sv_
    by_cases h : (g j = 0 ∧ k j = key) ∧ v j = val
    · rw [if_pos h, if_pos h, Int64.add_assoc, Int64.add_assoc, Int64.add_comm y]
    · rw [if_neg h, if_neg h]
theorem sv_out {q l : Nat} (hl : l < 2 ^ 31) (hw : w q = nI l) : ∀ c j a, (l < j ∨ j + c ≤ l) → j + c < 2 ^ 31 → fo_ (sv_ k g v w fa (q + 1) key val) c j a = fo_ (sv_ k g v w fa q key val) c j a := by
  intro c
  induction c with
  | zero => intro j a h _; rfl
  | succ c ih =>
    intro j a h hb
    show fo_ _ c (j + 1) (sv_ k g v w fa (q + 1) key val j a) = fo_ _ c (j + 1) (sv_ k g v w fa q key val j a)
    rw [ih _ _ (by omega) (by omega)]
    congr 1
    unfold sv_
    rw [fo_snoc, show sm_ w fa (nI j) (0 + q) (fo_ (sm_ w fa (nI j)) q 0 0) = fo_ (sm_ w fa (nI j)) q 0 0 from if_neg (by rw [Nat.zero_add, hw, nI_eq hl (by omega)]; omega)]
theorem sv_in {q l : Nat} (hl : l < 2 ^ 31) (hw : w q = nI l) : ∀ c j a, j ≤ l → l < j + c → j + c < 2 ^ 31 → fo_ (sv_ k g v w fa (q + 1) key val) c j a = (if (g l = 0 ∧ k l = key) ∧ v l = val then fo_ (sv_ k g v w fa q key val) c j a + (fa q).toInt64 else fo_ (sv_ k g v w fa q key val) c j a) := by
  intro c
  induction c with
  | zero => intro j a h1 h2 _; omega
  | succ c ih =>
    intro j a h1 h2 hb
    show fo_ _ c (j + 1) (sv_ k g v w fa (q + 1) key val j a) = (if _ then fo_ _ c (j + 1) (sv_ k g v w fa q key val j a) + _ else fo_ _ c (j + 1) (sv_ k g v w fa q key val j a))
    by_cases hj : j = l
    · subst hj
      rw [sv_out hl hw _ _ _ (by omega) (by omega)]
      by_cases h : (g j = 0 ∧ k j = key) ∧ v j = val
      · rw [if_pos h, ← sv_add]
        congr 1
        unfold sv_
        rw [if_pos h, if_pos h, fo_snoc, show sm_ w fa (nI j) (0 + q) (fo_ (sm_ w fa (nI j)) q 0 0) = fo_ (sm_ w fa (nI j)) q 0 0 + (fa (0 + q)).toInt64 from if_pos (by rw [Nat.zero_add, hw]), Nat.zero_add, Int64.add_assoc]
      · rw [if_neg h]
        congr 1
        unfold sv_
        rw [if_neg h, if_neg h]
    · rw [ih _ _ (by omega) (by omega) (by omega)]
      have e1 : sv_ k g v w fa (q + 1) key val j a = sv_ k g v w fa q key val j a := by
        unfold sv_
        rw [fo_snoc, show sm_ w fa (nI j) (0 + q) (fo_ (sm_ w fa (nI j)) q 0 0) = fo_ (sm_ w fa (nI j)) q 0 0 from if_neg (by rw [Nat.zero_add, hw, nI_eq hl (by omega)]; omega)]
      rw [e1]
theorem sv_0 : ∀ c j a, fo_ (sv_ k g v w fa 0 key val) c j a = a := by
  intro c
  induction c with
  | zero => intro j a; rfl
  | succ c ih =>
    intro j a
    show fo_ _ c (j + 1) (sv_ k g v w fa 0 key val j a) = a
    rw [ih]
    unfold sv_
    split
    · exact Int64.add_zero a
    · rfl
end
section
variable {k f e v i g fk fd fa fv : Nat → Int32} {n q : Nat} {key val : Int32}
theorem amt_eq (hn : n ≤ 60) (hI : FI_ k f e g n fk fd fv q) : ∀ p, p ≤ q → fo_ (sv_ k g v fv fa p key val) n 0 0 = fo_ (sf_ fk fv v fa key val) p 0 0 := by
  intro p
  induction p with
  | zero => intro _; exact sv_0 n 0 0
  | succ p ih =>
    intro hp
    obtain ⟨l, hl, hA, hfv⟩ := FI_on hn hI (show p < q by omega)
    have hc : (fv p).toNatClampNeg = l := by rw [hfv, cl_I (by omega)]
    rw [sv_in (by omega) hfv n 0 0 (by omega) (by omega) (by omega), fo_snoc, ih (by omega), Nat.zero_add]
    by_cases h : (g l = 0 ∧ k l = key) ∧ v l = val
    · rw [if_pos h]
      exact (show sf_ fk fv v fa key val p _ = _ from if_pos ⟨hA.2.1.symm.trans h.1.2, by rw [hc]; exact h.2⟩).symm
    · rw [if_neg h]
      exact (show sf_ fk fv v fa key val p _ = _ from if_neg (fun h3 => h ⟨⟨hA.1, hA.2.1.trans h3.1⟩, by rw [← hc]; exact h3.2⟩)).symm
end
