/-! counts over the versions -/
section
variable {k f e v i g G mkept mspare mwas mtext mtold : Nat → Int32} {mhasKept mwasMany manew mthrown mlength mspot mvalue merror mtolds : Int32} {n : Nat} {key : Int32}
def cn_ (k g : Nat → Int32) (key : Int32) (j : Nat) (a : Int32) : Int32 := if g j = 0 ∧ k j = key then a + 1 else a
def ca_ (g : Nat → Int32) (j : Nat) (a : Int32) : Int32 := if g j = 0 then a + 1 else a
def ci_ (i g : Nat → Int32) (j : Nat) (a : Int32) : Int32 := if g j = 0 ∧ ¬ i j = 0 then a + 1 else a
def sd_ (k f e g : Nat → Int32) (key : Int32) (j : Nat) (a : Int32) : Int32 := if g j = 0 ∧ k j = key then a + (e j - f j) else a
theorem countOf_L (hn : n ≤ 60) : ∀ c m j (a : Int32), j + c = n → c < m → f_X4_countOf_L4 m (nI j) a key (k, f, e, v, i, g, nI n) = some (fo_ (cn_ k g key) c j a) := by
  intro c
  induction c with
  | zero =>
    intro m j a h1 h2
    obtain ⟨m, rfl⟩ := ex_S h2
    rw [e_X4_countOf_L4]
    unfold f_X4_countOf_S4
    dsimp only
    rw [if_pos (by rw [nI_leI (by omega) (by omega)]; omega)]
    rfl
  | succ c ih =>
    intro m j a h1 h2
    obtain ⟨m, rfl⟩ := ex_S h2
    rw [e_X4_countOf_L4]
    unfold f_X4_countOf_S4
    dsimp only
    show _ = some (fo_ (cn_ k g key) c (j + 1) ((cn_ k g key) j a))
    rw [if_neg (by rw [nI_leI (by omega) (by omega)]; omega), isOf_I hn (by omega), bd_s, S_I]
    unfold cn_
    by_cases ha : g j = 0 ∧ k j = key
    · rw [if_pos ha, if_neg (by decide), if_pos ha, ih m (j + 1) _ (by omega) (by omega)] <;> rfl
    · rw [if_neg ha, if_pos rfl, if_neg ha, ih m (j + 1) _ (by omega) (by omega)] <;> rfl
theorem countOf_I (hn : n ≤ 60) : f_X4_countOf key (k, f, e, v, i, g, nI n) = some (fo_ (cn_ k g key) n 0 0) := by
  unfold f_X4_countOf
  exact countOf_L hn n fu_ 0 0 (by omega) (by unfold fu_; omega)
theorem count_L (hn : n ≤ 60) : ∀ c m j (a : Int32), j + c = n → c < m → f_X4_count_L4 m (nI j) a  (k, f, e, v, i, g, nI n) = some (fo_ (ca_ g) c j a) := by
  intro c
  induction c with
  | zero =>
    intro m j a h1 h2
    obtain ⟨m, rfl⟩ := ex_S h2
    rw [e_X4_count_L4]
    unfold f_X4_count_S4
    dsimp only
    rw [if_pos (by rw [nI_leI (by omega) (by omega)]; omega)]
    rfl
  | succ c ih =>
    intro m j a h1 h2
    obtain ⟨m, rfl⟩ := ex_S h2
    rw [e_X4_count_L4]
    unfold f_X4_count_S4
    dsimp only
    show _ = some (fo_ (ca_ g) c (j + 1) ((ca_ g) j a))
    rw [if_neg (by rw [nI_leI (by omega) (by omega)]; omega), has_I hn (by omega), bd_s, S_I]
    unfold ca_
    by_cases ha : g j = 0
    · rw [if_pos ha, if_neg (by decide), if_pos ha, ih m (j + 1) _ (by omega) (by omega)] <;> rfl
    · rw [if_neg ha, if_pos rfl, if_neg ha, ih m (j + 1) _ (by omega) (by omega)] <;> rfl
theorem count_I (hn : n ≤ 60) : f_X4_count (k, f, e, v, i, g, nI n) = some (fo_ (ca_ g) n 0 0) := by
  unfold f_X4_count
  exact count_L hn n fu_ 0 0 (by omega) (by unfold fu_; omega)
theorem sumDays_L (hn : n ≤ 60) : ∀ c m j (a : Int32), j + c = n → c < m → f_X4_sumDays_L4 m (nI j) a key (k, f, e, v, i, g, nI n) = some (fo_ (sd_ k f e g key) c j a) := by
  intro c
  induction c with
  | zero =>
    intro m j a h1 h2
    obtain ⟨m, rfl⟩ := ex_S h2
    rw [e_X4_sumDays_L4]
    unfold f_X4_sumDays_S4
    dsimp only
    rw [if_pos (by rw [nI_leI (by omega) (by omega)]; omega)]
    rfl
  | succ c ih =>
    intro m j a h1 h2
    obtain ⟨m, rfl⟩ := ex_S h2
    rw [e_X4_sumDays_L4]
    unfold f_X4_sumDays_S4
    dsimp only
    show _ = some (fo_ (sd_ k f e g key) c (j + 1) ((sd_ k f e g key) j a))
    rw [if_neg (by rw [nI_leI (by omega) (by omega)]; omega), isOf_I hn (by omega), bd_s, S_I]
    unfold sd_
    by_cases ha : g j = 0 ∧ k j = key
    · rw [if_pos ha, if_neg (by decide), if_pos ha]
      have hd : f_X4_days (nI j) (k, f, e, v, i, g, nI n) = some (e j - f j) := by
        unfold f_X4_days
        dsimp only
        rw [has_I hn (by omega), bd_s, if_pos ha.1, if_neg (by decide), gd_I (by omega) (by omega), gd_I (by omega) (by omega), cl_I (by omega)]
      rw [hd, bd_s, ih m (j + 1) _ (by omega) (by omega)] <;> rfl
    · rw [if_neg ha, if_pos rfl, if_neg ha, ih m (j + 1) _ (by omega) (by omega)] <;> rfl
theorem sumDays_I (hn : n ≤ 60) : f_X4_sumDays key (k, f, e, v, i, g, nI n) = some (fo_ (sd_ k f e g key) n 0 0) := by
  unfold f_X4_sumDays
  exact sumDays_L hn n fu_ 0 0 (by omega) (by unfold fu_; omega)
end
