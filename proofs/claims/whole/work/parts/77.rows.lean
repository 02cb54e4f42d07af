/-! staged rows -/
def lr_ (G : Nat → Int32) (s t : Nat) : Prop := G (570 + s) < G (570 + t) ∨ (G (570 + s) = G (570 + t) ∧ (G (550 + s) < G (550 + t) ∨ (G (550 + s) = G (550 + t) ∧ s < t)))
/-- rows s .. r of the class, in their order, are the rows of the model -/
def RO_ (rk rd rv : Nat → Int32) (s r : Nat) (G : Nat → Int32) : Prop := s ≤ r ∧ r ≤ 20 ∧ G 2 = nI (r - s) ∧ ∃ p : Nat → Nat, (∀ j, s ≤ j → j < r → p j < r - s ∧ rk j = G (550 + p j) ∧ rd j = G (570 + p j) ∧ rv j = G (590 + p j)) ∧ (∀ j l, s ≤ j → j < l → l < r → lr_ G (p j) (p l)) ∧ ∀ t, t < r - s → ∃ j, s ≤ j ∧ j < r ∧ p j = t
theorem lr_trans {G : Nat → Int32} {a b c : Nat} (h1 : lr_ G a b) (h2 : lr_ G b c) : lr_ G a c := by
  unfold lr_ at *
  simp only [Int32.lt_iff_toInt_lt, ← Int32.toInt_inj] at *
  omega
theorem lr_asym {G : Nat → Int32} {a b : Nat} (h1 : lr_ G a b) (h2 : lr_ G b a) : False := by
  unfold lr_ at *
  simp only [Int32.lt_iff_toInt_lt, ← Int32.toInt_inj] at *
  omega
theorem lr_tri {G : Nat → Int32} {a b : Nat} (h : a ≠ b) : lr_ G a b ∨ lr_ G b a := by
  unfold lr_
  simp only [Int32.lt_iff_toInt_lt, ← Int32.toInt_inj]
  omega
section
variable {rk rd rv G mkept mspare mwas mtext mtold : Nat → Int32} {mhasKept mwasMany manew mthrown mlength mspot mvalue merror mtolds : Int32} {r s : Nat} {key day val : Int32}
/-- the model's first row -/
theorem firstRow_L {r : Nat} (hr : r ≤ 20) (hG : G 2 = nI r) : ∀ c m j b, j + c = r → c < m → b < r → b < j → (∀ t, t < j → t ≠ b → lr_ G b t) → ∃ b', b' < r ∧ f_X6_firstRow_L4 m (nI j) (nI b) (G, mkept, mspare, mhasKept, mwas, mwasMany, manew, mthrown, mtext, mlength, mspot, mvalue, merror, mtold, mtolds) = some (nI b') ∧ ∀ t, t < r → t ≠ b' → lr_ G b' t := by
  intro c
  induction c with
  | zero =>
    intro m j b h1 h2 hb hbj hmin
    obtain ⟨m, rfl⟩ := ex_S h2
    refine ⟨b, hb, ?_, fun t ht => hmin t (by omega)⟩
    rw [e_X6_firstRow_L4]
    unfold f_X6_firstRow_S4
    dsimp only
    rw [gd_2, cl_2, hG, if_pos (by rw [nI_leI (by omega) (by omega)]; omega)]
  | succ c ih =>
    intro m j b h1 h2 hb hbj hmin
    obtain ⟨m, rfl⟩ := ex_S h2
    have stay : ¬ lr_ G j b → ∀ t, t < j + 1 → t ≠ b → lr_ G b t := fun h t ht hne => by
      by_cases e : t = j
      · subst e
        exact (lr_tri hne).resolve_left h
      · exact hmin t (by omega) hne
    have move : lr_ G j b → ∀ t, t < j + 1 → t ≠ j → lr_ G j t := fun h t ht hne => by
      by_cases e : t = b
      · subst e; exact h
      · exact lr_trans h (hmin t (by omega) e)
    have hs := fun h => ih m (j + 1) b (by omega) (by omega) hb (by omega) (stay h)
    have hm := fun h => ih m (j + 1) j (by omega) (by omega) (by omega) (by omega) (move h)
    rw [e_X6_firstRow_L4]
    unfold f_X6_firstRow_S4
    dsimp only
    simp only [of_550, of_570, S_I]
    rw [gd_2, cl_2, hG, if_neg (by rw [nI_leI (by omega) (by omega)]; omega)]
    simp only [gd_I (show 570 + j < 610 by omega) (show 610 < 2 ^ 31 by omega), gd_I (show 570 + b < 610 by omega) (show 610 < 2 ^ 31 by omega), gd_I (show 550 + j < 610 by omega) (show 610 < 2 ^ 31 by omega), gd_I (show 550 + b < 610 by omega) (show 610 < 2 ^ 31 by omega), cl_I (show 570 + j < 2 ^ 31 by omega), cl_I (show 570 + b < 2 ^ 31 by omega), cl_I (show 550 + j < 2 ^ 31 by omega), cl_I (show 550 + b < 2 ^ 31 by omega)]
    by_cases h1 : G (570 + j) < G (570 + b)
    · simp only [if_pos h1]
      exact hm (Or.inl h1)
    · by_cases h2 : G (570 + j) = G (570 + b)
      · by_cases h3 : G (550 + b) ≤ G (550 + j)
        · simp only [if_neg h1, if_pos h2, if_pos h3]
          refine hs (fun h => ?_)
          unfold lr_ at h
          simp only [Int32.lt_iff_toInt_lt, Int32.le_iff_toInt_le, ← Int32.toInt_inj] at *
          omega
        · simp only [if_neg h1, if_pos h2, if_neg h3]
          exact hm (Or.inr ⟨h2, Or.inl (Int32.not_le.mp h3)⟩)
      · simp only [if_neg h1, if_neg h2]
        refine hs (fun h => ?_)
        rcases h with h | h
        · exact h1 h
        · exact h2 h.1
theorem firstRow_I {r : Nat} (h0 : 0 < r) (hr : r ≤ 20) (hG : G 2 = nI r) : ∃ b, b < r ∧ f_X6_firstRow (G, mkept, mspare, mhasKept, mwas, mwasMany, manew, mthrown, mtext, mlength, mspot, mvalue, merror, mtold, mtolds) = some (nI b) ∧ ∀ t, t < r → t ≠ b → lr_ G b t := by
  unfold f_X6_firstRow
  dsimp only
  exact firstRow_L hr hG (r - 1) fu_ 1 0 (by omega) (by unfold fu_; omega) h0 (by omega) (fun t ht hne => by omega)
/-- the class's next row is the model's first -/
theorem RO_first (h : RO_ rk rd rv s r G) (hs : s < r) : ∃ p0, p0 < r - s ∧ f_X6_firstRow (G, mkept, mspare, mhasKept, mwas, mwasMany, manew, mthrown, mtext, mlength, mspot, mvalue, merror, mtold, mtolds) = some (nI p0) ∧ rk s = G (550 + p0) ∧ rd s = G (570 + p0) ∧ rv s = G (590 + p0) ∧ ∀ p : Nat → Nat, (∀ j l, s ≤ j → j < l → l < r → lr_ G (p j) (p l)) → (∀ t, t < r - s → ∃ j, s ≤ j ∧ j < r ∧ p j = t) → (∀ j, s ≤ j → j < r → p j < r - s) → p s = p0 := by
  obtain ⟨h1, h2, h3, p, h4, h5, h6⟩ := h
  obtain ⟨b, hb, hf, hmin⟩ := firstRow_I (G := G) (mkept := mkept) (mspare := mspare) (mwas := mwas) (mtext := mtext) (mtold := mtold) (mhasKept := mhasKept) (mwasMany := mwasMany) (manew := manew) (mthrown := mthrown) (mlength := mlength) (mspot := mspot) (mvalue := mvalue) (merror := merror) (mtolds := mtolds) (r := r - s) (by omega) (by omega) h3
  have key : ∀ p : Nat → Nat, (∀ j l, s ≤ j → j < l → l < r → lr_ G (p j) (p l)) → (∀ t, t < r - s → ∃ j, s ≤ j ∧ j < r ∧ p j = t) → (∀ j, s ≤ j → j < r → p j < r - s) → p s = b := by
    intro p q1 q2 q3
    obtain ⟨j, hj1, hj2, hj3⟩ := q2 b hb
    by_cases e : j = s
    · rw [← e]; exact hj3
    · refine Classical.byContradiction fun hne => ?_
      have a1 := q1 s j (Nat.le_refl _) (by omega) hj2
      rw [hj3] at a1
      exact lr_asym a1 (hmin (p s) (q3 s (Nat.le_refl _) hs) hne)
  have e := key p h5 h6 (fun j a b => (h4 j a b).1)
  obtain ⟨-, g1, g2, g3⟩ := h4 s (Nat.le_refl _) hs
  rw [e] at g1 g2 g3
  exact ⟨b, hb, hf, g1, g2, g3, key⟩
end
