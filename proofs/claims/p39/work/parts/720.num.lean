/-! numbers, folds, searches: plain facts -/
theorem ex_S {a m : Nat} (h : a < m) : ∃ m', m = m' + 1 := ⟨m - 1, by omega⟩
theorem gd_I {α : Type} {j N : Nat} {X : Option α} (h : j < N) (hN : N < 2 ^ 31) : gd_ (nI j) N X = X := by
  unfold gd_
  rw [if_pos]
  rw [nI_toInt (by omega)]
  omega
theorem bd_s {α β : Type} {a : α} {k : α → Option β} : bd_ (some a) k = k a := rfl
theorem nm_s {α β : Type} {x : α} {k : α → Option β} : nm_ x k = k x := rfl
theorem cl_I {j : Nat} (h : j < 2 ^ 31) : (nI j).toNatClampNeg = j := nI_clamp h
theorem le_I {a b : Nat} (ha : a < 2 ^ 31) (hb : b < 2 ^ 31) : (nI a ≤ nI b) = (a ≤ b) := propext (nI_leI ha hb)
theorem lt_I {a b : Nat} (ha : a < 2 ^ 31) (hb : b < 2 ^ 31) : (nI a < nI b) = (a < b) := propext (nI_ltI ha hb)
theorem eq_I {a b : Nat} (ha : a < 2 ^ 31) (hb : b < 2 ^ 31) : (nI a = nI b) = (a = b) := propext (nI_eq ha hb)
theorem S_I (a : Nat) : nI a + 1 = nI (a + 1) := nI_1 a
theorem m1_ne {j : Nat} (h : j < 2 ^ 31) : (nI j = -1) = False := by
  refine propext ⟨fun e => ?_, fun h => h.elim⟩
  have := congrArg Int32.toInt e
  rw [nI_toInt h] at this
  have h2 : (-1 : Int32).toInt = -1 := by decide
  omega
theorem nn_I {j : Nat} (h : j < 2 ^ 31) : (nI j < 0) = False := by
  refine propext ⟨fun e => ?_, fun h => h.elim⟩
  exact nI_pos h e
theorem z_I {j : Nat} (h : j < 2 ^ 31) : (0 ≤ nI j) = True := eq_true (nI_pos' h)
theorem up_s {f : Nat → Int32} {k : Nat} {x : Int32} : upd f k x k = x := by simp [upd]
theorem up_n {f : Nat → Int32} {k j : Nat} {x : Int32} (h : j ≠ k) : upd f k x j = f j := by simp [upd, h]
theorem nlt_i {a b : Int32} : (¬ a < b) = (b ≤ a) := propext Int32.not_lt
theorem nle_i {a b : Int32} : (¬ a ≤ b) = (b < a) := propext Int32.not_le
/-- the first index from j on, of c indices, of which p says yes; -1: none -/
def fs_ (p : Nat → Bool) : Nat → Nat → Int32
  | 0, _ => -1
  | c + 1, j => if p j then nI j else fs_ p c (j + 1)
theorem fs_spec (p : Nat → Bool) : ∀ c j, (fs_ p c j = -1 ∧ ∀ i, j ≤ i → i < j + c → p i = false) ∨ (∃ i, j ≤ i ∧ i < j + c ∧ p i = true ∧ fs_ p c j = nI i ∧ ∀ i', j ≤ i' → i' < i → p i' = false) := by
  intro c
  induction c with
  | zero => intro j; exact Or.inl ⟨rfl, fun i h1 h2 => by omega⟩
  | succ c ih =>
    intro j
    by_cases hp : p j = true
    · exact Or.inr ⟨j, Nat.le_refl _, by omega, hp, by simp [fs_, hp], fun i' h1 h2 => by omega⟩
    · have hp' : p j = false := by cases h : p j <;> simp_all
      have e : fs_ p (c + 1) j = fs_ p c (j + 1) := by simp [fs_, hp']
      rw [e]
      rcases ih (j + 1) with ⟨h1, h2⟩ | ⟨i, h1, h2, h3, h4, h5⟩
      · refine Or.inl ⟨h1, fun i a b => ?_⟩
        by_cases e2 : i = j
        · rw [e2]; exact hp'
        · exact h2 i (by omega) (by omega)
      · refine Or.inr ⟨i, by omega, by omega, h3, h4, fun i' a b => ?_⟩
        by_cases e2 : i' = j
        · rw [e2]; exact hp'
        · exact h5 i' (by omega) b
theorem fs_congr {p q : Nat → Bool} : ∀ c j, (∀ i, j ≤ i → i < j + c → p i = q i) → fs_ p c j = fs_ q c j := by
  intro c
  induction c with
  | zero => intro j h; rfl
  | succ c ih =>
    intro j h
    have h1 := h j (Nat.le_refl _) (by omega)
    simp only [fs_, h1, ih (j + 1) (fun i a b => h i (by omega) (by omega))]
/-- c steps of g from j on -/
def fo_ {α : Type} (g : Nat → α → α) : Nat → Nat → α → α
  | 0, _, a => a
  | c + 1, j, a => fo_ g c (j + 1) (g j a)
theorem fo_congr {α : Type} {g h : Nat → α → α} : ∀ c j a, (∀ i a, j ≤ i → i < j + c → g i a = h i a) → fo_ g c j a = fo_ h c j a := by
  intro c
  induction c with
  | zero => intro j a hh; rfl
  | succ c ih =>
    intro j a hh
    simp only [fo_]
    rw [hh j a (Nat.le_refl _) (by omega)]
    exact ih _ _ (fun i a h1 h2 => hh i a (by omega) (by omega))
theorem fo_inv {α : Type} {g : Nat → α → α} (P : Nat → α → Prop) : ∀ c j a, P j a → (∀ i a, j ≤ i → i < j + c → P i a → P (i + 1) (g i a)) → P (j + c) (fo_ g c j a) := by
  intro c
  induction c with
  | zero => intro j a h _; exact h
  | succ c ih =>
    intro j a h hs
    have := ih (j + 1) (g j a) (hs j a (Nat.le_refl _) (by omega) h) (fun i a h1 h2 => hs i a (by omega) (by omega))
    rw [show j + 1 + c = j + (c + 1) by omega] at this
    exact this
