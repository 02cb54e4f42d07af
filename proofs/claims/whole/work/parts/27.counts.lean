/-! counts over the versions -/
section
variable {k f e v i g G mkept mspare mwas mtext mtold : Nat → Int32} {mhasKept mwasMany manew mthrown mlength mspot mvalue merror mtolds : Int32} {n : Nat} {key : Int32}
def cn_ (k g : Nat → Int32) (key : Int32) (j : Nat) (a : Int32) : Int32 := if g j = 0 ∧ k j = key then a + 1 else a
def ca_ (g : Nat → Int32) (j : Nat) (a : Int32) : Int32 := if g j = 0 then a + 1 else a
def ci_ (i g : Nat → Int32) (j : Nat) (a : Int32) : Int32 := if g j = 0 ∧ ¬ i j = 0 then a + 1 else a
def sd_ (k f e g : Nat → Int32) (key : Int32) (j : Nat) (a : Int32) : Int32 := if g j = 0 ∧ k j = key then a + (e j - f j) else a
theorem countOf_L (hn : n ≤ 60) : ∀ c m j (a : Int32), j + c = n → c < m → f_X4_countOf_L4 m (nI j) a key (k, f, e, v, i, g, nI n) = some (fo_ (cn_ k g key) c j a) := by
  intro c
  induction c with
  | zero =>
    intro m j a h1 h2
    obtain ⟨m, rfl⟩ := ex_S h2
    rw [e_X4_countOf_L4]
    unfold f_X4_countOf_S4
    dsimp only
    rw [if_pos (by rw [nI_leI (by omega) (by omega)]; omega)]
    rfl
  | succ c ih =>
    intro m j a h1 h2
    obtain ⟨m, rfl⟩ := ex_S h2
    rw [e_X4_countOf_L4]
    unfold f_X4_countOf_S4
    dsimp only
    show _ = some (fo_ (cn_ k g key) c (j + 1) ((cn_ k g key) j a))
    rw [if_neg (by rw [nI_leI (by omega) (by omega)]; omega), isOf_I hn (by omega), bd_s, S_I]
    unfold cn_
    by_cases ha : g j = 0 ∧ k j = key
    · rw [if_pos ha, if_neg (by decide), if_pos ha, ih m (j + 1) _ (by omega) (by omega)] <;> rfl
    · rw [if_neg ha, if_pos rfl, if_neg ha, ih m (j + 1) _ (by omega) (by omega)] <;> rfl
theorem countOf_I (hn : n ≤ 60) : f_X4_countOf key (k, f, e, v, i, g, nI n) = some (fo_ (cn_ k g key) n 0 0) := by
  unfold f_X4_countOf
  exact countOf_L hn n fu_ 0 0 (by omega) (by unfold fu_; omega)
theorem many_L (hn : n ≤ 60) (hV : RV_ k f e v i g n G) : ∀ c m j (a : Int32), j + c = n → c < m → f_X6_many_L4 m (nI j) a key (G, mkept, mspare, mhasKept, mwas, mwasMany, manew, mthrown, mtext, mlength, mspot, mvalue, merror, mtold, mtolds) = some (fo_ (cn_ k g key) c j a) := by
  intro c
  induction c with
  | zero =>
    intro m j a h1 h2
    obtain ⟨m, rfl⟩ := ex_S h2
    rw [e_X6_many_L4]
    unfold f_X6_many_S4
    dsimp only
    rw [gd_0, cl_0, hV.1, if_pos (by rw [nI_leI (by omega) (by omega)]; omega)]
    rfl
  | succ c ih =>
    intro m j a h1 h2
    obtain ⟨m, rfl⟩ := ex_S h2
    rw [e_X6_many_L4]
    unfold f_X6_many_S4
    dsimp only
    show _ = some (fo_ (cn_ k g key) c (j + 1) ((cn_ k g key) j a))
    rw [gd_0, cl_0, hV.1, if_neg (by rw [nI_leI (by omega) (by omega)]; omega), M_isOf hn hV (by omega), bd_s, S_I]
    unfold cn_
    by_cases ha : g j = 0 ∧ k j = key
    · rw [if_pos ha, if_neg (by decide), if_pos ha, ih m (j + 1) _ (by omega) (by omega)] <;> rfl
    · rw [if_neg ha, if_pos rfl, if_neg ha, Int32.add_zero, ih m (j + 1) _ (by omega) (by omega)] <;> rfl
theorem M_many (hn : n ≤ 60) (hV : RV_ k f e v i g n G) : f_X6_many key (G, mkept, mspare, mhasKept, mwas, mwasMany, manew, mthrown, mtext, mlength, mspot, mvalue, merror, mtold, mtolds) = some (fo_ (cn_ k g key) n 0 0) := by
  unfold f_X6_many
  exact many_L hn hV n fu_ 0 0 (by omega) (by unfold fu_; omega)
theorem count_L (hn : n ≤ 60) : ∀ c m j (a : Int32), j + c = n → c < m → f_X4_count_L4 m (nI j) a  (k, f, e, v, i, g, nI n) = some (fo_ (ca_ g) c j a) := by
  intro c
  induction c with
  | zero =>
    intro m j a h1 h2
    obtain ⟨m, rfl⟩ := ex_S h2
    rw [e_X4_count_L4]
    unfold f_X4_count_S4
    dsimp only
    rw [if_pos (by rw [nI_leI (by omega) (by omega)]; omega)]
    rfl
  | succ c ih =>
    intro m j a h1 h2
    obtain ⟨m, rfl⟩ := ex_S h2
    rw [e_X4_count_L4]
    unfold f_X4_count_S4
    dsimp only
    show _ = some (fo_ (ca_ g) c (j + 1) ((ca_ g) j a))
    rw [if_neg (by rw [nI_leI (by omega) (by omega)]; omega), has_I hn (by omega), bd_s, S_I]
    unfold ca_
    by_cases ha : g j = 0
    · rw [if_pos ha, if_neg (by decide), if_pos ha, ih m (j + 1) _ (by omega) (by omega)] <;> rfl
    · rw [if_neg ha, if_pos rfl, if_neg ha, ih m (j + 1) _ (by omega) (by omega)] <;> rfl
theorem count_I (hn : n ≤ 60) : f_X4_count (k, f, e, v, i, g, nI n) = some (fo_ (ca_ g) n 0 0) := by
  unfold f_X4_count
  exact count_L hn n fu_ 0 0 (by omega) (by unfold fu_; omega)
theorem there_L (hn : n ≤ 60) (hV : RV_ k f e v i g n G) : ∀ c m j (a : Int32), j + c = n → c < m → f_X6_there_L4 m (nI j) a  (G, mkept, mspare, mhasKept, mwas, mwasMany, manew, mthrown, mtext, mlength, mspot, mvalue, merror, mtold, mtolds) = some (fo_ (ca_ g) c j a) := by
  intro c
  induction c with
  | zero =>
    intro m j a h1 h2
    obtain ⟨m, rfl⟩ := ex_S h2
    rw [e_X6_there_L4]
    unfold f_X6_there_S4
    dsimp only
    rw [gd_0, cl_0, hV.1, if_pos (by rw [nI_leI (by omega) (by omega)]; omega)]
    rfl
  | succ c ih =>
    intro m j a h1 h2
    obtain ⟨m, rfl⟩ := ex_S h2
    rw [e_X6_there_L4]
    unfold f_X6_there_S4
    dsimp only
    show _ = some (fo_ (ca_ g) c (j + 1) ((ca_ g) j a))
    rw [gd_0, cl_0, hV.1, if_neg (by rw [nI_leI (by omega) (by omega)]; omega), of_10, gd_I (by omega) (by omega), cl_I (by omega), (hV.2 j (by omega)).1, S_I]
    unfold ca_
    by_cases ha : g j = 0
    · rw [if_pos ha, if_pos ha, ih m (j + 1) _ (by omega) (by omega)] <;> rfl
    · rw [if_neg ha, if_neg ha, Int32.add_zero, ih m (j + 1) _ (by omega) (by omega)] <;> rfl
theorem M_there (hn : n ≤ 60) (hV : RV_ k f e v i g n G) : f_X6_there (G, mkept, mspare, mhasKept, mwas, mwasMany, manew, mthrown, mtext, mlength, mspot, mvalue, merror, mtold, mtolds) = some (fo_ (ca_ g) n 0 0) := by
  unfold f_X6_there
  exact there_L hn hV n fu_ 0 0 (by omega) (by unfold fu_; omega)
theorem countInf_L (hn : n ≤ 60) : ∀ c m j (a : Int32), j + c = n → c < m → f_X4_countInferred_L4 m (nI j) a  (k, f, e, v, i, g, nI n) = some (fo_ (ci_ i g) c j a) := by
  intro c
  induction c with
  | zero =>
    intro m j a h1 h2
    obtain ⟨m, rfl⟩ := ex_S h2
    rw [e_X4_countInferred_L4]
    unfold f_X4_countInferred_S4
    dsimp only
    rw [if_pos (by rw [nI_leI (by omega) (by omega)]; omega)]
    rfl
  | succ c ih =>
    intro m j a h1 h2
    obtain ⟨m, rfl⟩ := ex_S h2
    rw [e_X4_countInferred_L4]
    unfold f_X4_countInferred_S4
    dsimp only
    show _ = some (fo_ (ci_ i g) c (j + 1) ((ci_ i g) j a))
    rw [if_neg (by rw [nI_leI (by omega) (by omega)]; omega), has_I hn (by omega), bd_s, S_I]
    unfold ci_
    by_cases ha : g j = 0
    · rw [if_pos ha, if_neg (by decide), gd_I (by omega) (by omega), cl_I (by omega)]
      by_cases hb : i j = 0
      · rw [if_pos hb, if_neg (fun h => h.2 hb), ih m (j + 1) _ (by omega) (by omega)] <;> rfl
      · rw [if_neg hb, if_pos ⟨ha, hb⟩, ih m (j + 1) _ (by omega) (by omega)] <;> rfl
    · rw [if_neg ha, if_pos rfl, if_neg (fun h => ha h.1), ih m (j + 1) _ (by omega) (by omega)] <;> rfl
theorem countInf_I (hn : n ≤ 60) : f_X4_countInferred (k, f, e, v, i, g, nI n) = some (fo_ (ci_ i g) n 0 0) := by
  unfold f_X4_countInferred
  exact countInf_L hn n fu_ 0 0 (by omega) (by unfold fu_; omega)
theorem mInf_L (hW : WV_ k f e i g n) (hV : RV_ k f e v i g n G) : ∀ c m j (a : Int32), j + c = n → c < m → f_X6_inferredCount_L9 m (nI j) a  (G, mkept, mspare, mhasKept, mwas, mwasMany, manew, mthrown, mtext, mlength, mspot, mvalue, merror, mtold, mtolds) = some ((fo_ (ci_ i g) c j a), (G, mkept, mspare, mhasKept, mwas, mwasMany, manew, mthrown, mtext, mlength, mspot, mvalue, merror, mtold, mtolds)) := by
  have hn := hW.1
  intro c
  induction c with
  | zero =>
    intro m j a h1 h2
    obtain ⟨m, rfl⟩ := ex_S h2
    rw [e_X6_inferredCount_L9]
    unfold f_X6_inferredCount_S9
    dsimp only
    rw [gd_0, cl_0, hV.1, if_pos (by rw [nI_leI (by omega) (by omega)]; omega)]
    rfl
  | succ c ih =>
    intro m j a h1 h2
    obtain ⟨m, rfl⟩ := ex_S h2
    rw [e_X6_inferredCount_L9]
    unfold f_X6_inferredCount_S9
    dsimp only
    show _ = some ((fo_ (ci_ i g) c (j + 1) ((ci_ i g) j a)), (G, mkept, mspare, mhasKept, mwas, mwasMany, manew, mthrown, mtext, mlength, mspot, mvalue, merror, mtold, mtolds))
    rw [gd_0, cl_0, hV.1, if_neg (by rw [nI_leI (by omega) (by omega)]; omega), S_I]
    have hn := hW.1
    obtain ⟨q1, -, -, -, -, q6⟩ := hV.2 j (by omega)
    rw [of_10, of_310, gd_I (by omega) (by omega), cl_I (by omega), q1, gd_I (show 310 + j < 610 by omega) (by omega), cl_I (by omega), q6]
    unfold ci_
    by_cases ha : g j = 0
    · rw [if_pos ha, if_pos rfl]
      rcases (hW.2.1 j (by omega)).2 with hb | hb
      · rw [hb, if_neg (fun h => h.2 rfl), Int32.add_zero, ih m (j + 1) _ (by omega) (by omega)] <;> rfl
      · rw [hb, if_pos ⟨ha, by decide⟩, ih m (j + 1) _ (by omega) (by omega)] <;> rfl
    · rw [if_neg ha, if_neg (by decide), if_neg (fun h => ha h.1), Int32.add_zero, ih m (j + 1) _ (by omega) (by omega)] <;> rfl
theorem M_inferredCount (hW : WV_ k f e i g n) (hV : RV_ k f e v i g n G) : f_X6_inferredCount (G, mkept, mspare, mhasKept, mwas, mwasMany, manew, mthrown, mtext, mlength, mspot, mvalue, merror, mtold, mtolds) = some (fo_ (ci_ i g) n 0 0, (G, mkept, mspare, mhasKept, mwas, mwasMany, manew, 0, mtext, mlength, mspot, mvalue, merror, mtold, mtolds)) := by
  unfold f_X6_inferredCount
  exact mInf_L hW hV n fu_ 0 0 (by omega) (by have := hW.1; unfold fu_; omega)
theorem sumDays_L (hn : n ≤ 60) : ∀ c m j (a : Int32), j + c = n → c < m → f_X4_sumDays_L4 m (nI j) a key (k, f, e, v, i, g, nI n) = some (fo_ (sd_ k f e g key) c j a) := by
  intro c
  induction c with
  | zero =>
    intro m j a h1 h2
    obtain ⟨m, rfl⟩ := ex_S h2
    rw [e_X4_sumDays_L4]
    unfold f_X4_sumDays_S4
    dsimp only
    rw [if_pos (by rw [nI_leI (by omega) (by omega)]; omega)]
    rfl
  | succ c ih =>
    intro m j a h1 h2
    obtain ⟨m, rfl⟩ := ex_S h2
    rw [e_X4_sumDays_L4]
    unfold f_X4_sumDays_S4
    dsimp only
    show _ = some (fo_ (sd_ k f e g key) c (j + 1) ((sd_ k f e g key) j a))
    rw [if_neg (by rw [nI_leI (by omega) (by omega)]; omega), isOf_I hn (by omega), bd_s, S_I]
    unfold sd_
    by_cases ha : g j = 0 ∧ k j = key
    · rw [if_pos ha, if_neg (by decide), if_pos ha]
      have hd : f_X4_days (nI j) (k, f, e, v, i, g, nI n) = some (e j - f j) := by
        unfold f_X4_days
        dsimp only
        rw [has_I hn (by omega), bd_s, if_pos ha.1, if_neg (by decide), gd_I (by omega) (by omega), gd_I (by omega) (by omega), cl_I (by omega)]
      rw [hd, bd_s, ih m (j + 1) _ (by omega) (by omega)] <;> rfl
    · rw [if_neg ha, if_pos rfl, if_neg ha, ih m (j + 1) _ (by omega) (by omega)] <;> rfl
theorem sumDays_I (hn : n ≤ 60) : f_X4_sumDays key (k, f, e, v, i, g, nI n) = some (fo_ (sd_ k f e g key) n 0 0) := by
  unfold f_X4_sumDays
  exact sumDays_L hn n fu_ 0 0 (by omega) (by unfold fu_; omega)
end
