/-! what is read of the versions -/
section
variable {k f e v i g : Nat → Int32} {n : Nat}
theorem has_I {j : Nat} (hn : n ≤ 60) (hj : j < n) : f_X4_has (nI j) (k, f, e, v, i, g, nI n) = some (if g j = 0 then 1 else 0) := by
  unfold f_X4_has
  dsimp only
  rw [if_neg (nI_pos (by omega)), if_neg (by rw [nI_leI (by omega) (by omega)]; omega), gd_I (by omega) (by omega), cl_I (by omega)]
  split <;> rfl
theorem has_O {x : Int32} (h : x < 0 ∨ nI n ≤ x) : f_X4_has x (k, f, e, v, i, g, nI n) = some 0 := by
  unfold f_X4_has
  dsimp only
  by_cases h0 : x < 0
  · rw [if_pos h0]
  · rw [if_neg h0, if_pos (h.resolve_left h0)]
theorem isOf_I {j : Nat} {key : Int32} (hn : n ≤ 60) (hj : j < n) : f_X4_isOf (nI j) key (k, f, e, v, i, g, nI n) = some (if g j = 0 ∧ k j = key then 1 else 0) := by
  unfold f_X4_isOf
  dsimp only
  rw [has_I hn hj, bd_s]
  by_cases h : g j = 0
  · simp only [h, if_true, true_and, gd_I (show j < 60 by omega) (by omega), cl_I (show j < 2 ^ 31 by omega)]
    rw [if_neg (by decide)]
    split <;> rfl
  · simp [h]
def pOn_ (k f e g : Nat → Int32) (key day : Int32) (j : Nat) : Bool := decide (g j = 0 ∧ k j = key ∧ f j ≤ day ∧ day < e j)
theorem pOn_iff {key day : Int32} {j : Nat} : pOn_ k f e g key day j = true ↔ (g j = 0 ∧ k j = key ∧ f j ≤ day ∧ day < e j) := by unfold pOn_; exact decide_eq_true_iff
theorem onDay_L {key day : Int32} (hn : n ≤ 60) : ∀ c m j, j + c = n → c < m → f_X4_onDay_L2 m (nI j) key day (k, f, e, v, i, g, nI n) = some (fs_ (pOn_ k f e g key day) c j) := by
  intro c
  induction c with
  | zero =>
    intro m j h1 h2
    obtain ⟨m, rfl⟩ := ex_S h2
    rw [e_X4_onDay_L2]
    unfold f_X4_onDay_S2
    dsimp only
    rw [if_pos (by rw [nI_leI (by omega) (by omega)]; omega)]
    rfl
  | succ c ih =>
    intro m j h1 h2
    obtain ⟨m, rfl⟩ := ex_S h2
    rw [e_X4_onDay_L2]
    unfold f_X4_onDay_S2
    dsimp only
    rw [if_neg (by rw [nI_leI (by omega) (by omega)]; omega), isOf_I hn (by omega), bd_s, S_I, ih m (j + 1) (by omega) (by omega)]
    simp only [gd_I (show j < 60 by omega) (by omega), cl_I (show j < 2 ^ 31 by omega)]
    show _ = some (if pOn_ k f e g key day j = true then nI j else fs_ (pOn_ k f e g key day) c (j + 1))
    by_cases ha : g j = 0 ∧ k j = key
    · rw [if_pos ha, if_neg (by decide)]
      by_cases hb : day < f j
      · rw [if_pos hb, if_neg (fun h => absurd hb (Int32.not_lt.mpr (pOn_iff.mp h).2.2.1))]
      · rw [if_neg hb]
        by_cases hc : e j ≤ day
        · rw [if_pos hc, if_neg (fun h => absurd (pOn_iff.mp h).2.2.2 (Int32.not_lt.mpr hc))]
        · rw [if_neg hc, if_pos (pOn_iff.mpr ⟨ha.1, ha.2, Int32.not_lt.mp hb, Int32.not_le.mp hc⟩)]
    · rw [if_neg ha, if_pos rfl, if_neg (fun h => ha ⟨(pOn_iff.mp h).1, (pOn_iff.mp h).2.1⟩)]
theorem onDay_I {key day : Int32} (hn : n ≤ 60) : f_X4_onDay key day (k, f, e, v, i, g, nI n) = some (fs_ (pOn_ k f e g key day) n 0) := by
  unfold f_X4_onDay
  dsimp only
  have h := onDay_L (key := key) (day := day) (k := k) (f := f) (e := e) (v := v) (i := i) (g := g) hn n fu_ 0 (by omega) (by unfold fu_; omega)
  exact h
end
section
variable {k f e v i g : Nat → Int32} {n : Nat}
/-- a step of the search for the next version after a day -/
def nx_ (k f g : Nat → Int32) (key day : Int32) (j : Nat) (b : Int32) : Int32 := if (g j = 0 ∧ k j = key) ∧ day < f j ∧ (b = -1 ∨ f j < f b.toNatClampNeg) then nI j else b
theorem nx_ok {key day : Int32} {j : Nat} {b : Int32} (hj : j < n) (hb : b = -1 ∨ ∃ l, l < n ∧ b = nI l) : nx_ k f g key day j b = -1 ∨ ∃ l, l < n ∧ nx_ k f g key day j b = nI l := by
  unfold nx_
  split
  · exact Or.inr ⟨j, hj, rfl⟩
  · exact hb
theorem next_L {key day : Int32} (hn : n ≤ 60) : ∀ c m j b, j + c = n → c < m → (b = -1 ∨ ∃ l, l < n ∧ b = nI l) → f_X4_next_L5 m (nI j) b key day (k, f, e, v, i, g, nI n) = some (fo_ (nx_ k f g key day) c j b) := by
  intro c
  induction c with
  | zero =>
    intro m j b h1 h2 hb
    obtain ⟨m, rfl⟩ := ex_S h2
    rw [e_X4_next_L5]
    unfold f_X4_next_S5
    dsimp only
    rw [if_pos (by rw [nI_leI (by omega) (by omega)]; omega)]
    rfl
  | succ c ih =>
    intro m j b h1 h2 hb
    obtain ⟨m, rfl⟩ := ex_S h2
    rw [e_X4_next_L5]
    unfold f_X4_next_S5
    dsimp only
    have hs := nx_ok (k := k) (f := f) (g := g) (key := key) (day := day) (j := j) (show j < n by omega) hb
    rw [if_neg (by rw [nI_leI (by omega) (by omega)]; omega), isOf_I hn (by omega), bd_s, S_I]
    have ih1 := fun b hb => ih m (j + 1) b (by omega) (by omega) hb
    rw [show fo_ (nx_ k f g key day) (c + 1) j b = fo_ (nx_ k f g key day) c (j + 1) (nx_ k f g key day j b) from rfl, ← ih1 _ hs]
    simp only [gd_I (show j < 60 by omega) (by omega), cl_I (show j < 2 ^ 31 by omega)]
    unfold nx_
    by_cases ha : g j = 0 ∧ k j = key
    · rw [if_pos ha, if_neg (by decide)]
      by_cases hd : f j ≤ day
      · rw [if_pos hd, if_neg (fun h => absurd h.2.1 (Int32.not_lt.mpr hd))]
      · rw [if_neg hd]
        rcases hb with rfl | ⟨l, hl, rfl⟩
        · rw [if_pos rfl, if_pos ⟨ha, Int32.not_le.mp hd, Or.inl rfl⟩]
        · rw [if_neg (by rw [m1_ne (by omega)]; exact fun h => h), gd_I (by omega) (by omega), cl_I (by omega)]
          by_cases hf : f l ≤ f j
          · rw [if_pos hf, if_neg]
            rintro ⟨-, -, h | h⟩
            · rw [m1_ne (by omega)] at h; exact h
            · exact absurd h (Int32.not_lt.mpr hf)
          · rw [if_neg hf, if_pos ⟨ha, Int32.not_le.mp hd, Or.inr (Int32.not_le.mp hf)⟩]
    · rw [if_neg ha, if_pos rfl, if_neg (fun h => ha h.1)]
theorem next_I {key day : Int32} (hn : n ≤ 60) : f_X4_next key day (k, f, e, v, i, g, nI n) = some (fo_ (nx_ k f g key day) n 0 (-1)) := by
  unfold f_X4_next
  dsimp only
  have h := next_L (key := key) (day := day) (k := k) (f := f) (e := e) (v := v) (i := i) (g := g) hn n fu_ 0 (-1) (by omega) (by unfold fu_; omega) (Or.inl rfl)
  exact h
/-- what the search finds -/
theorem nx_spec (key day : Int32) (hn : n ≤ 60) : (fo_ (nx_ k f g key day) n 0 (-1) = -1 ∧ ∀ j, j < n → g j = 0 → k j = key → f j ≤ day) ∨ ∃ l, l < n ∧ fo_ (nx_ k f g key day) n 0 (-1) = nI l ∧ g l = 0 ∧ k l = key ∧ day < f l ∧ ∀ j, j < n → g j = 0 → k j = key → day < f j → f l ≤ f j := by
  have h := fo_inv (g := nx_ k f g key day) (fun t (b : Int32) => t < 2 ^ 31 → (b = -1 ∧ ∀ j, j < t → g j = 0 → k j = key → f j ≤ day) ∨ ∃ l, l < t ∧ b = nI l ∧ g l = 0 ∧ k l = key ∧ day < f l ∧ ∀ j, j < t → g j = 0 → k j = key → day < f j → f l ≤ f j) n 0 (-1)
    (fun _ => Or.inl ⟨rfl, fun j h => by omega⟩) ?_
  · rw [Nat.zero_add] at h
    exact h (by omega)
  · intro t b h0 ht ih ht1
    have ih := ih (by omega)
    unfold nx_
    split
    · rename_i hc
      obtain ⟨⟨ha, hk⟩, hd, hb⟩ := hc
      refine Or.inr ⟨t, by omega, rfl, ha, hk, hd, fun j hj h1 h2 h3 => ?_⟩
      by_cases e : j = t
      · rw [e]; exact Int32.le_refl _
      · rcases ih with ⟨rfl, hall⟩ | ⟨l, hl, rfl, -, -, -, hmin⟩
        · exact absurd h3 (Int32.not_lt.mpr (hall j (by omega) h1 h2))
        · rcases hb with hb | hb
          · rw [m1_ne (by omega)] at hb; exact hb.elim
          · rw [cl_I (by omega)] at hb
            exact Int32.le_trans (Int32.le_of_lt hb) (hmin j (by omega) h1 h2 h3)
    · rename_i hc
      rcases ih with ⟨rfl, hall⟩ | ⟨l, hl, rfl, a1, a2, a3, hmin⟩
      · refine Or.inl ⟨rfl, fun j hj h1 h2 => ?_⟩
        by_cases e : j = t
        · subst e
          exact Int32.not_lt.mp (fun h => hc ⟨⟨h1, h2⟩, h, Or.inl rfl⟩)
        · exact hall j (by omega) h1 h2
      · refine Or.inr ⟨l, by omega, rfl, a1, a2, a3, fun j hj h1 h2 h3 => ?_⟩
        by_cases e : j = t
        · subst e
          rw [cl_I (by omega)] at hc
          exact Int32.not_lt.mp (fun h => hc ⟨⟨h1, h2⟩, h3, Or.inr h⟩)
        · exact hmin j (by omega) h1 h2 h3
end
