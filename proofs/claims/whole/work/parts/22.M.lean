/-! what the model reads of its versions -/
theorem of_10 (j : Nat) : (10 : Int32) + nI j = nI (10 + j) := nI_add 10 j
theorem of_70 (j : Nat) : (70 : Int32) + nI j = nI (70 + j) := nI_add 70 j
theorem of_130 (j : Nat) : (130 : Int32) + nI j = nI (130 + j) := nI_add 130 j
theorem of_190 (j : Nat) : (190 : Int32) + nI j = nI (190 + j) := nI_add 190 j
theorem of_250 (j : Nat) : (250 : Int32) + nI j = nI (250 + j) := nI_add 250 j
theorem of_310 (j : Nat) : (310 : Int32) + nI j = nI (310 + j) := nI_add 310 j
theorem of_370 (j : Nat) : (370 : Int32) + nI j = nI (370 + j) := nI_add 370 j
theorem of_430 (j : Nat) : (430 : Int32) + nI j = nI (430 + j) := nI_add 430 j
theorem of_490 (j : Nat) : (490 : Int32) + nI j = nI (490 + j) := nI_add 490 j
theorem of_550 (j : Nat) : (550 : Int32) + nI j = nI (550 + j) := nI_add 550 j
theorem of_570 (j : Nat) : (570 : Int32) + nI j = nI (570 + j) := nI_add 570 j
theorem of_590 (j : Nat) : (590 : Int32) + nI j = nI (590 + j) := nI_add 590 j
theorem gd_L {α : Type} {x : Int32} {j N : Nat} {X : Option α} (e : x = nI j) (h : j < N) (hN : N < 2 ^ 31) : gd_ x N X = X := by rw [e]; exact gd_I h hN
theorem gd_0 {α : Type} {X : Option α} : gd_ (0 : Int32) 610 X = X := gd_L (j := 0) rfl (by omega) (by omega)
theorem gd_1 {α : Type} {X : Option α} : gd_ (1 : Int32) 610 X = X := gd_L (j := 1) rfl (by omega) (by omega)
theorem gd_2 {α : Type} {X : Option α} : gd_ (2 : Int32) 610 X = X := gd_L (j := 2) rfl (by omega) (by omega)
theorem cl_0 : (0 : Int32).toNatClampNeg = 0 := by decide
theorem cl_1 : (1 : Int32).toNatClampNeg = 1 := by decide
theorem cl_2 : (2 : Int32).toNatClampNeg = 2 := by decide
def WV_ (k f e i g : Nat → Int32) (n : Nat) : Prop := n ≤ 60 ∧ (∀ j, j < n → (g j = 0 ∨ g j = 1) ∧ (i j = 0 ∨ i j = 1)) ∧ (∀ j, j < n → g j = 0 → 0 ≤ (k j).toInt ∧ (k j).toInt ≤ 7 ∧ 0 ≤ (f j).toInt ∧ (f j).toInt < (e j).toInt ∧ (e j).toInt ≤ 1000) ∧ (∀ j l, j < n → l < n → j ≠ l → g j = 0 → g l = 0 → k j = k l → (e j).toInt ≤ (f l).toInt ∨ (e l).toInt ≤ (f j).toInt)
def RV_ (k f e v i g : Nat → Int32) (n : Nat) (G : Nat → Int32) : Prop := G 0 = nI n ∧ ∀ j, j < n → G (10 + j) = (if g j = 0 then 1 else 0) ∧ G (70 + j) = k j ∧ G (130 + j) = f j ∧ G (190 + j) = e j ∧ G (250 + j) = v j ∧ G (310 + j) = i j
section
variable {k f e v i g G mkept mspare mwas mtext mtold : Nat → Int32} {mhasKept mwasMany manew mthrown mlength mspot mvalue merror mtolds : Int32} {n : Nat}
theorem M_isOf {j : Nat} {key : Int32} (hn : n ≤ 60) (hV : RV_ k f e v i g n G) (hj : j < n) : f_X6_isOf (nI j) key (G, mkept, mspare, mhasKept, mwas, mwasMany, manew, mthrown, mtext, mlength, mspot, mvalue, merror, mtold, mtolds) = some (if g j = 0 ∧ k j = key then 1 else 0) := by
  obtain ⟨h0, hV⟩ := hV
  obtain ⟨h1, h2, -⟩ := hV j hj
  unfold f_X6_isOf
  dsimp only
  rw [of_10, of_70, gd_I (by omega) (by omega), gd_I (by omega) (by omega), cl_I (by omega), cl_I (by omega), h1, h2]
  by_cases h : g j = 0
  · simp only [h, if_true, true_and]
    split <;> rfl
  · simp [h]
theorem pred_lt {x y : Int32} (h : 0 < y.toInt) (h2 : y.toInt ≤ 1000) : (y - 1 < x) = (y ≤ x) := by
  have e : (y - 1).toInt = y.toInt - 1 := by
    rw [Int32.toInt_sub]
    have : (1 : Int32).toInt = 1 := by decide
    rw [this, Int.bmod_eq_of_le] <;> omega
  rw [Int32.lt_iff_toInt_lt, Int32.le_iff_toInt_le, e]
  exact propext ⟨fun h => by omega, fun h => by omega⟩
theorem M_valid_L {key day : Int32} (hW : WV_ k f e i g n) (hV : RV_ k f e v i g n G) : ∀ c m j, j + c = n → c < m → f_X6_valid_L2 m (nI j) key day (G, mkept, mspare, mhasKept, mwas, mwasMany, manew, mthrown, mtext, mlength, mspot, mvalue, merror, mtold, mtolds) = some (fs_ (pOn_ k f e g key day) c j) := by
  have hn := hW.1
  intro c
  induction c with
  | zero =>
    intro m j h1 h2
    obtain ⟨m, rfl⟩ := ex_S h2
    rw [e_X6_valid_L2]
    unfold f_X6_valid_S2
    dsimp only
    rw [gd_0, cl_0, hV.1, if_pos (by rw [nI_leI (by omega) (by omega)]; omega)]
    rfl
  | succ c ih =>
    intro m j h1 h2
    obtain ⟨m, rfl⟩ := ex_S h2
    rw [e_X6_valid_L2]
    unfold f_X6_valid_S2
    dsimp only
    rw [gd_0, cl_0, hV.1, if_neg (by rw [nI_leI (by omega) (by omega)]; omega), M_isOf hn hV (by omega), bd_s, S_I, ih m (j + 1) (by omega) (by omega)]
    obtain ⟨-, -, q3, q4, -⟩ := hV.2 j (by omega)
    rw [of_130, of_190, gd_I (by omega) (by omega), gd_I (by omega) (by omega), cl_I (by omega), cl_I (by omega), q3, q4]
    show _ = some (if pOn_ k f e g key day j = true then nI j else fs_ (pOn_ k f e g key day) c (j + 1))
    by_cases ha : g j = 0 ∧ k j = key
    · rw [if_pos ha, if_neg (by decide)]
      have hr := hW.2.2.1 j (by omega) ha.1
      unfold f_X6_in
      have hp := pred_lt (x := day) (show 0 < (e j).toInt by omega) (by omega)
      by_cases hb : day < f j
      · rw [if_pos hb, bd_s, if_pos rfl, if_neg (fun h => absurd hb (Int32.not_lt.mpr (pOn_iff.mp h).2.2.1))]
      · rw [if_neg hb]
        by_cases hc : e j ≤ day
        · rw [if_pos (hp.mpr hc), bd_s, if_pos rfl, if_neg (fun h => absurd (pOn_iff.mp h).2.2.2 (Int32.not_lt.mpr hc))]
        · rw [if_neg (fun h => hc (hp.mp h)), bd_s, if_neg (by decide), if_pos (pOn_iff.mpr ⟨ha.1, ha.2, Int32.not_lt.mp hb, Int32.not_le.mp hc⟩)]
    · rw [if_neg ha, if_pos rfl, if_neg (fun h => ha ⟨(pOn_iff.mp h).1, (pOn_iff.mp h).2.1⟩)]
theorem M_valid {key day : Int32} (hW : WV_ k f e i g n) (hV : RV_ k f e v i g n G) : f_X6_valid key day (G, mkept, mspare, mhasKept, mwas, mwasMany, manew, mthrown, mtext, mlength, mspot, mvalue, merror, mtold, mtolds) = some (fs_ (pOn_ k f e g key day) n 0) := by
  unfold f_X6_valid
  dsimp only
  have h := M_valid_L (key := key) (day := day) hW hV (mkept := mkept) (mspare := mspare) (mwas := mwas) (mtext := mtext) (mtold := mtold) (mhasKept := mhasKept) (mwasMany := mwasMany) (manew := manew) (mthrown := mthrown) (mlength := mlength) (mspot := mspot) (mvalue := mvalue) (merror := merror) (mtolds := mtolds) n fu_ 0 (by omega) (by have := hW.1; unfold fu_; omega)
  exact h
end
section
variable {k f e v i g G mkept mspare mwas mtext mtold : Nat → Int32} {mhasKept mwasMany manew mthrown mlength mspot mvalue merror mtolds : Int32} {n : Nat}
theorem m1_lt : ((-1 : Int32) < 0) = True := by decide
theorem M_following_L {key day : Int32} (hn : n ≤ 60) (hV : RV_ k f e v i g n G) : ∀ c m j b, j + c = n → c < m → (b = -1 ∨ ∃ l, l < n ∧ b = nI l) → f_X6_following_L5 m (nI j) b key day (G, mkept, mspare, mhasKept, mwas, mwasMany, manew, mthrown, mtext, mlength, mspot, mvalue, merror, mtold, mtolds) = some (fo_ (nx_ k f g key day) c j b) := by
  intro c
  induction c with
  | zero =>
    intro m j b h1 h2 hb
    obtain ⟨m, rfl⟩ := ex_S h2
    rw [e_X6_following_L5]
    unfold f_X6_following_S5
    dsimp only
    rw [gd_0, cl_0, hV.1, if_pos (by rw [nI_leI (by omega) (by omega)]; omega)]
    rfl
  | succ c ih =>
    intro m j b h1 h2 hb
    obtain ⟨m, rfl⟩ := ex_S h2
    rw [e_X6_following_L5]
    unfold f_X6_following_S5
    dsimp only
    have hs := nx_ok (k := k) (f := f) (g := g) (key := key) (day := day) (j := j) (show j < n by omega) hb
    rw [gd_0, cl_0, hV.1, if_neg (by rw [nI_leI (by omega) (by omega)]; omega), M_isOf hn hV (by omega), bd_s, S_I]
    have ih1 := fun b hb => ih m (j + 1) b (by omega) (by omega) hb
    rw [show fo_ (nx_ k f g key day) (c + 1) j b = fo_ (nx_ k f g key day) c (j + 1) (nx_ k f g key day j b) from rfl, ← ih1 _ hs]
    obtain ⟨-, -, q3, -, -⟩ := hV.2 j (by omega)
    simp only [of_130, gd_I (show 130 + j < 610 by omega) (by omega), cl_I (show 130 + j < 2 ^ 31 by omega), q3]
    unfold nx_
    by_cases ha : g j = 0 ∧ k j = key
    · rw [if_pos ha, if_neg (by decide)]
      by_cases hd : f j ≤ day
      · rw [if_pos hd, if_neg (fun h => absurd h.2.1 (Int32.not_lt.mpr hd))]
      · rw [if_neg hd]
        rcases hb with rfl | ⟨l, hl, rfl⟩
        · rw [if_pos (by decide), if_pos ⟨ha, Int32.not_le.mp hd, Or.inl rfl⟩]
        · obtain ⟨-, -, p3, -, -⟩ := hV.2 l hl
          rw [if_neg (nI_pos (by omega)), of_130, gd_I (by omega) (by omega), cl_I (by omega), cl_I (by omega), p3]
          by_cases hf : f l ≤ f j
          · rw [if_pos hf, if_neg]
            rintro ⟨-, -, h | h⟩
            · rw [m1_ne (by omega)] at h; exact h
            · exact absurd h (Int32.not_lt.mpr hf)
          · rw [if_neg hf, if_pos ⟨ha, Int32.not_le.mp hd, Or.inr (Int32.not_le.mp hf)⟩]
    · rw [if_neg ha, if_pos rfl, if_neg (fun h => ha h.1)]
theorem M_following {key day : Int32} (hn : n ≤ 60) (hV : RV_ k f e v i g n G) : f_X6_following key day (G, mkept, mspare, mhasKept, mwas, mwasMany, manew, mthrown, mtext, mlength, mspot, mvalue, merror, mtold, mtolds) = some (fo_ (nx_ k f g key day) n 0 (-1)) := by
  unfold f_X6_following
  dsimp only
  have h := M_following_L (key := key) (day := day) hn hV (mkept := mkept) (mspare := mspare) (mwas := mwas) (mtext := mtext) (mtold := mtold) (mhasKept := mhasKept) (mwasMany := mwasMany) (manew := manew) (mthrown := mthrown) (mlength := mlength) (mspot := mspot) (mvalue := mvalue) (merror := merror) (mtolds := mtolds) n fu_ 0 (-1) (by omega) (by unfold fu_; omega) (Or.inl rfl)
  exact h
end
