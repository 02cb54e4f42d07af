/-! a row is staged -/
section
variable {rk rd rv : Nat → Int32} {r : Nat} {key day val : Int32}
def sh_ (a : Nat → Int32) (t r : Nat) : Nat → Int32 := fun j => if t < j ∧ j ≤ r then a (j - 1) else a j
def bh_ (rk rd : Nat → Int32) (key day : Int32) (j : Nat) : Prop := day < rd j ∨ (rd j = day ∧ key < rk j)
theorem sh_at {a : Nat → Int32} {t r : Nat} : sh_ a (t + 1) r t = a t := if_neg (by omega)
theorem sh_up {a : Nat → Int32} {t r : Nat} (h : t < r) : upd (sh_ a (t + 1) r) (t + 1) (a t) = sh_ a t r := by
  funext j
  by_cases e : j = t + 1
  · subst e
    rw [up_s]
    exact (if_pos (by omega)).symm
  · rw [up_n e]
    unfold sh_
    by_cases h2 : t + 1 < j ∧ j ≤ r
    · rw [if_pos h2, if_pos (by omega)]
    · rw [if_neg h2, if_neg (by omega)]
theorem set_I {j : Nat} {a b c : Int32} (hj : j < 20) : f_X1_set (nI j) a b c (rk, rd, rv, nI r) = some (upd rk j a, upd rd j b, upd rv j c, nI r) := by
  unfold f_X1_set
  dsimp only
  rw [gd_I hj (by omega), nm_s, gd_I hj (by omega), nm_s, gd_I hj (by omega), nm_s, cl_I (by omega)]
theorem isBehind_I {j : Nat} (hj : j < 20) : (bh_ rk rd key day j ∧ f_X1_isBehind (nI j) key day (rk, rd, rv, nI r) = some 1) ∨ (¬ bh_ rk rd key day j ∧ f_X1_isBehind (nI j) key day (rk, rd, rv, nI r) = some 0) := by
  unfold f_X1_isBehind bh_
  dsimp only
  simp only [gd_I hj (show 20 < 2 ^ 31 by omega), cl_I (show j < 2 ^ 31 by omega)]
  by_cases h1 : day < rd j
  · exact Or.inl ⟨Or.inl h1, by rw [if_pos h1]⟩
  · by_cases h2 : rd j = day
    · by_cases h3 : rk j ≤ key
      · exact Or.inr ⟨fun h => h.elim h1 (fun h => absurd h.2 (Int32.not_lt.mpr h3)), by rw [if_neg h1, if_pos h2, if_pos h3]⟩
      · exact Or.inl ⟨Or.inr ⟨h2, Int32.not_le.mp h3⟩, by rw [if_neg h1, if_pos h2, if_neg h3]⟩
    · exact Or.inr ⟨fun h => h.elim h1 (fun h => h2 h.1), by rw [if_neg h1, if_neg h2]⟩
theorem insert_L (hr : r < 20) : ∀ t m, t ≤ r → t < m → (∀ j, t ≤ j → j < r → bh_ rk rd key day j) → ∃ pl, pl ≤ r ∧ f_X1_insert_L17 m (nI t) key day val (sh_ rk t r, sh_ rd t r, sh_ rv t r, nI r) = some (1, (upd (sh_ rk pl r) pl key, upd (sh_ rd pl r) pl day, upd (sh_ rv pl r) pl val, nI (r + 1))) ∧ (∀ j, pl ≤ j → j < r → bh_ rk rd key day j) ∧ ∀ j, j + 1 = pl → ¬ bh_ rk rd key day j := by
  intro t
  induction t with
  | zero =>
    intro m h1 h2 hb
    obtain ⟨m, rfl⟩ := ex_S h2
    refine ⟨0, Nat.zero_le _, ?_, hb, fun j hj => by omega⟩
    rw [e_X1_insert_L17]
    unfold f_X1_insert_S17
    dsimp only
    rw [if_pos (by decide), set_I (by omega), bd_s]
    dsimp only
    rw [S_I]
  | succ t ih =>
    intro m h1 h2 hb
    obtain ⟨m, rfl⟩ := ex_S h2
    have hp : nI (t + 1) - 1 = nI t := nI_pred t
    rw [e_X1_insert_L17]
    unfold f_X1_insert_S17
    dsimp only
    rw [if_neg (nI_nle (by omega) (by omega)), hp]
    rcases isBehind_I (rk := sh_ rk (t + 1) r) (rd := sh_ rd (t + 1) r) (rv := sh_ rv (t + 1) r) (r := r) (key := key) (day := day) (show t < 20 by omega) with ⟨h3, h4⟩ | ⟨h3, h4⟩
    · have h5 : bh_ rk rd key day t := by
        unfold bh_ at h3 ⊢
        rw [sh_at, sh_at] at h3
        exact h3
      have hm : nI (t + 1) + -1 = nI t := by rw [← Int32.sub_eq_add_neg]; exact hp
      rw [h4, bd_s, if_neg (by decide), gd_I (by omega) (by omega), gd_I (by omega) (by omega), gd_I (by omega) (by omega), cl_I (by omega), sh_at, sh_at, sh_at, set_I (by omega), bd_s]
      dsimp only
      rw [sh_up (by omega), sh_up (by omega), sh_up (by omega), hm]
      exact ih m (by omega) (by omega) (fun j a b => by
        by_cases e : j = t
        · rw [e]; exact h5
        · exact hb j (by omega) b)
    · refine ⟨t + 1, h1, ?_, hb, fun j hj => ?_⟩
      · rw [h4, bd_s, if_pos rfl, set_I (by omega), bd_s]
        dsimp only
        rw [S_I]
      · have : j = t := by omega
        subst this
        unfold bh_ at h3 ⊢
        rw [sh_at, sh_at] at h3
        exact h3
theorem insert_I (hr : r < 20) : ∃ pl, pl ≤ r ∧ f_X1_insert key day val (rk, rd, rv, nI r) = some (1, (upd (sh_ rk pl r) pl key, upd (sh_ rd pl r) pl day, upd (sh_ rv pl r) pl val, nI (r + 1))) ∧ (∀ j, pl ≤ j → j < r → bh_ rk rd key day j) ∧ ∀ j, j + 1 = pl → ¬ bh_ rk rd key day j := by
  obtain ⟨pl, h1, h2, h3, h4⟩ := insert_L (rk := rk) (rd := rd) (rv := rv) (key := key) (day := day) (val := val) hr r fu_ (Nat.le_refl _) (by unfold fu_; omega) (fun j a b => by omega)
  have e : ∀ a : Nat → Int32, sh_ a r r = a := fun a => by
    funext j
    exact if_neg (by omega)
  rw [e, e, e] at h2
  refine ⟨pl, h1, ?_, h3, h4⟩
  unfold f_X1_insert
  dsimp only
  rw [if_pos (by rw [show (20 : Int32) = nI 20 from rfl, nI_ltI (by omega) (by omega)]; omega)]
  exact h2
theorem insert_F (hr : r = 20) : f_X1_insert key day val (rk, rd, rv, nI r) = some (0, (rk, rd, rv, nI r)) := by
  subst hr
  unfold f_X1_insert
  dsimp only
  rw [if_neg (by decide)]
end
section
variable {rk rd rv G : Nat → Int32} {r : Nat} {key day val : Int32}
def stg_ (G : Nat → Int32) (r : Nat) (key day val : Int32) : Nat → Int32 := upd (upd (upd (upd G 2 (nI (r + 1))) (550 + r) key) (570 + r) day) (590 + r) val
theorem stg_at {t : Nat} (hr : r < 20) (ht : t ≤ r) : stg_ G r key day val (550 + t) = (if t = r then key else G (550 + t)) ∧ stg_ G r key day val (570 + t) = (if t = r then day else G (570 + t)) ∧ stg_ G r key day val (590 + t) = (if t = r then val else G (590 + t)) := by
  unfold stg_
  by_cases h : t = r
  · subst h
    rw [if_pos rfl, if_pos rfl, if_pos rfl]
    refine ⟨?_, ?_, ?_⟩
    · rw [up_n (by omega), up_n (by omega), up_s]
    · rw [up_n (by omega), up_s]
    · rw [up_s]
  · rw [if_neg h, if_neg h, if_neg h]
    refine ⟨?_, ?_, ?_⟩ <;> rw [up_n (by omega), up_n (by omega), up_n (by omega), up_n (by omega)]
theorem RO_stage {pl : Nat} (h : RO_ rk rd rv 0 r G) (hr : r < 20) (hpl : pl ≤ r) (hb : ∀ j, pl ≤ j → j < r → bh_ rk rd key day j) (hnb : ∀ j, j + 1 = pl → ¬ bh_ rk rd key day j) : RO_ (upd (sh_ rk pl r) pl key) (upd (sh_ rd pl r) pl day) (upd (sh_ rv pl r) pl val) 0 (r + 1) (stg_ G r key day val) := by
  obtain ⟨-, -, h3, p, h4, h5, h6⟩ := h
  simp only [Nat.sub_zero] at *
  have hp : ∀ j, j < r → p j < r := fun j hj => (h4 j (Nat.zero_le _) hj).1
  have lrr : ∀ a b, a < r → b < r → lr_ G a b → lr_ (stg_ G r key day val) a b := fun a b ha hb hl => by
    unfold lr_ at *
    rw [(stg_at hr (show a ≤ r by omega)).1, (stg_at hr (show a ≤ r by omega)).2.1, (stg_at hr (show b ≤ r by omega)).1, (stg_at hr (show b ≤ r by omega)).2.1, if_neg (by omega), if_neg (by omega), if_neg (by omega), if_neg (by omega)]
    exact hl
  have new1 : ∀ j, pl ≤ j → j < r → lr_ (stg_ G r key day val) r (p j) := fun j h1 h2 => by
    have h7 := hp j h2
    have h8 := hb j h1 h2
    obtain ⟨-, e1, e2, -⟩ := h4 j (Nat.zero_le _) h2
    unfold lr_ bh_ at *
    rw [(stg_at hr (Nat.le_refl r)).1, (stg_at hr (Nat.le_refl r)).2.1, (stg_at hr (show p j ≤ r by omega)).1, (stg_at hr (show p j ≤ r by omega)).2.1, if_pos rfl, if_pos rfl, if_neg (by omega), if_neg (by omega)]
    rw [e1, e2] at h8
    rcases h8 with h8 | h8
    · exact Or.inl h8
    · exact Or.inr ⟨h8.1.symm, Or.inl h8.2⟩
  have new0 : ∀ j, j + 1 = pl → lr_ (stg_ G r key day val) (p j) r := fun j h1 => by
    have h7 := hp j (by omega)
    have h8 := hnb j h1
    obtain ⟨-, e1, e2, -⟩ := h4 j (Nat.zero_le _) (by omega)
    unfold lr_ bh_ at *
    rw [(stg_at hr (Nat.le_refl r)).1, (stg_at hr (Nat.le_refl r)).2.1, (stg_at hr (show p j ≤ r by omega)).1, (stg_at hr (show p j ≤ r by omega)).2.1, if_pos rfl, if_pos rfl, if_neg (by omega), if_neg (by omega)]
    rw [e1, e2] at h8
    simp only [Int32.lt_iff_toInt_lt, ← Int32.toInt_inj] at *
    omega
  have new2 : ∀ j, j < pl → lr_ (stg_ G r key day val) (p j) r := fun j h1 => by
    by_cases e : j + 1 = pl
    · exact new0 j e
    · exact lr_trans (lrr _ _ (hp j (by omega)) (hp (pl - 1) (by omega)) (h5 j (pl - 1) (Nat.zero_le _) (by omega) (by omega))) (new0 (pl - 1) (by omega))
  refine ⟨Nat.zero_le _, by omega, ?_, fun j => if j < pl then p j else if j = pl then r else p (j - 1), ?_, ?_, ?_⟩
  · unfold stg_
    rw [up_n (by omega), up_n (by omega), up_n (by omega), up_s]
    rfl
  · intro j _ hj
    simp only [Nat.sub_zero]
    by_cases h1 : j < pl
    · rw [if_pos h1]
      obtain ⟨e0, e1, e2, e3⟩ := h4 j (Nat.zero_le _) (by omega)
      rw [(stg_at hr (show p j ≤ r by omega)).1, (stg_at hr (show p j ≤ r by omega)).2.1, (stg_at hr (show p j ≤ r by omega)).2.2, if_neg (by omega), if_neg (by omega), if_neg (by omega), up_n (by omega), up_n (by omega), up_n (by omega)]
      unfold sh_
      rw [if_neg (by omega), if_neg (by omega), if_neg (by omega)]
      exact ⟨by omega, e1, e2, e3⟩
    · rw [if_neg h1]
      by_cases h2 : j = pl
      · subst h2
        rw [if_pos rfl, (stg_at hr (Nat.le_refl r)).1, (stg_at hr (Nat.le_refl r)).2.1, (stg_at hr (Nat.le_refl r)).2.2, if_pos rfl, if_pos rfl, if_pos rfl, up_s, up_s, up_s]
        exact ⟨by omega, rfl, rfl, rfl⟩
      · rw [if_neg h2]
        obtain ⟨e0, e1, e2, e3⟩ := h4 (j - 1) (Nat.zero_le _) (by omega)
        rw [(stg_at hr (show p (j - 1) ≤ r by omega)).1, (stg_at hr (show p (j - 1) ≤ r by omega)).2.1, (stg_at hr (show p (j - 1) ≤ r by omega)).2.2, if_neg (by omega), if_neg (by omega), if_neg (by omega), up_n (by omega), up_n (by omega), up_n (by omega)]
        unfold sh_
        rw [if_pos (by omega), if_pos (by omega), if_pos (by omega)]
        exact ⟨by omega, e1, e2, e3⟩
  · intro j l _ hjl hl
    dsimp only
    by_cases h1 : j < pl
    · rw [if_pos h1]
      by_cases h2 : l < pl
      · rw [if_pos h2]
        exact lrr _ _ (hp j (by omega)) (hp l (by omega)) (h5 j l (Nat.zero_le _) hjl (by omega))
      · rw [if_neg h2]
        by_cases h3 : l = pl
        · rw [if_pos h3]
          exact new2 j h1
        · rw [if_neg h3]
          exact lrr _ _ (hp j (by omega)) (hp (l - 1) (by omega)) (h5 j (l - 1) (Nat.zero_le _) (by omega) (by omega))
    · rw [if_neg h1, if_neg (show ¬ l < pl by omega), if_neg (show l ≠ pl by omega)]
      by_cases h3 : j = pl
      · rw [if_pos h3]
        exact new1 (l - 1) (by omega) (by omega)
      · rw [if_neg h3]
        exact lrr _ _ (hp (j - 1) (by omega)) (hp (l - 1) (by omega)) (h5 (j - 1) (l - 1) (Nat.zero_le _) (by omega) (by omega))
  · intro t ht
    by_cases e : t = r
    · exact ⟨pl, Nat.zero_le _, by omega, by dsimp only; rw [if_neg (by omega), if_pos rfl, e]⟩
    · obtain ⟨j, -, hj, hpj⟩ := h6 t (by omega)
      by_cases h1 : j < pl
      · exact ⟨j, Nat.zero_le _, by omega, by dsimp only; rw [if_pos h1, hpj]⟩
      · exact ⟨j + 1, Nat.zero_le _, by omega, by dsimp only; rw [if_neg (by omega), if_neg (by omega), Nat.add_sub_cancel, hpj]⟩
end
