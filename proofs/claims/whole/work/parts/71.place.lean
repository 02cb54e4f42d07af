/-! versions by their places -/
theorem I_of {x : Int32} (h : 0 ≤ x.toInt) : ∃ t : Nat, t < 2 ^ 31 ∧ x = nI t := by
  refine ⟨x.toInt.toNat, ?_, ?_⟩
  · have := Int32.toInt_lt x
    omega
  · refine Int32.toInt_inj.mp ?_
    have := Int32.toInt_lt x
    rw [nI_toInt (by omega)]
    omega
section
variable {k f e v i g G mkept mspare mwas mtext mtold : Nat → Int32} {mhasKept mwasMany manew mthrown mlength mspot mvalue merror mtolds : Int32} {n : Nat} {key : Int32}
theorem M_placeOf_L {a : Nat} (hn : n ≤ 60) (hV : RV_ k f e v i g n G) (ha : a < n) : ∀ c m j b, j + c = n → c < m → f_X6_placeOf_L4 m (nI j) (nI b) (nI a) (G, mkept, mspare, mhasKept, mwas, mwasMany, manew, mthrown, mtext, mlength, mspot, mvalue, merror, mtold, mtolds) = some (nI (b + cf_ (fun t => decide ((g t = 0 ∧ k t = k a) ∧ f t < f a)) c j)) := by
  intro c
  induction c with
  | zero =>
    intro m j b h1 h2
    obtain ⟨m, rfl⟩ := ex_S h2
    rw [e_X6_placeOf_L4]
    unfold f_X6_placeOf_S4
    dsimp only
    rw [gd_0, cl_0, hV.1, if_pos (by rw [nI_leI (by omega) (by omega)]; omega)]
    rfl
  | succ c ih =>
    intro m j b h1 h2
    obtain ⟨m, rfl⟩ := ex_S h2
    rw [e_X6_placeOf_L4]
    unfold f_X6_placeOf_S4
    dsimp only
    have hj : j < n := by omega
    simp only [S_I, of_70, of_130, Int32.add_zero]
    rw [gd_0, cl_0, hV.1, if_neg (by rw [nI_leI (by omega) (by omega)]; omega), gd_I (by omega) (by omega), cl_I (by omega), (hV.2 a ha).2.1, M_isOf hn hV hj, bd_s, cf_s]
    by_cases hA : g j = 0 ∧ k j = k a
    · rw [if_pos hA, if_neg (by decide), gd_I (by omega) (by omega), gd_I (by omega) (by omega), cl_I (by omega), cl_I (by omega), (hV.2 a ha).2.2.1, (hV.2 j hj).2.2.1]
      by_cases hf : f a ≤ f j
      · rw [if_pos hf, if_neg (fun h => absurd (of_decide_eq_true h).2 (Int32.not_lt.mpr hf)), ih m (j + 1) b (by omega) (by omega), Nat.zero_add]
      · rw [if_neg hf, if_pos (dec_t ⟨hA, Int32.not_le.mp hf⟩), ih m (j + 1) (b + 1) (by omega) (by omega), Nat.add_assoc]
    · rw [if_neg hA, if_pos rfl, if_neg (fun h => hA (of_decide_eq_true h).1), ih m (j + 1) b (by omega) (by omega), Nat.zero_add]
theorem M_placeOf {a : Nat} (hn : n ≤ 60) (hV : RV_ k f e v i g n G) (ha : a < n) : f_X6_placeOf (nI a) (G, mkept, mspare, mhasKept, mwas, mwasMany, manew, mthrown, mtext, mlength, mspot, mvalue, merror, mtold, mtolds) = some (nI (rk_ k f g n (k a) (f a))) := by
  unfold f_X6_placeOf
  dsimp only
  have h := M_placeOf_L (mkept := mkept) (mspare := mspare) (mwas := mwas) (mtext := mtext) (mtold := mtold) (mhasKept := mhasKept) (mwasMany := mwasMany) (manew := manew) (mthrown := mthrown) (mlength := mlength) (mspot := mspot) (mvalue := mvalue) (merror := merror) (mtolds := mtolds) hn hV ha n fu_ 0 0 (by omega) (by unfold fu_; omega)
  rw [Nat.zero_add] at h
  exact h
theorem M_placed_L {x : Int32} (hn : n ≤ 60) (hV : RV_ k f e v i g n G) : ∀ c m j, j + c = n → c < m → f_X6_placed_L2 m (nI j) key x (G, mkept, mspare, mhasKept, mwas, mwasMany, manew, mthrown, mtext, mlength, mspot, mvalue, merror, mtold, mtolds) = some (fs_ (fun t => decide ((g t = 0 ∧ k t = key) ∧ nI (rk_ k f g n key (f t)) = x)) c j) := by
  intro c
  induction c with
  | zero =>
    intro m j h1 h2
    obtain ⟨m, rfl⟩ := ex_S h2
    rw [e_X6_placed_L2]
    unfold f_X6_placed_S2
    dsimp only
    rw [gd_0, cl_0, hV.1, if_pos (by rw [nI_leI (by omega) (by omega)]; omega)]
    rfl
  | succ c ih =>
    intro m j h1 h2
    obtain ⟨m, rfl⟩ := ex_S h2
    rw [e_X6_placed_L2]
    unfold f_X6_placed_S2
    dsimp only
    have hj : j < n := by omega
    show _ = some (if decide ((g j = 0 ∧ k j = key) ∧ nI (rk_ k f g n key (f j)) = x) = true then nI j else fs_ (fun t => decide ((g t = 0 ∧ k t = key) ∧ nI (rk_ k f g n key (f t)) = x)) c (j + 1))
    rw [gd_0, cl_0, hV.1, if_neg (by rw [nI_leI (by omega) (by omega)]; omega), M_isOf hn hV hj, bd_s, S_I]
    by_cases hA : g j = 0 ∧ k j = key
    · rw [if_pos hA, if_neg (by decide), M_placeOf hn hV hj, bd_s, hA.2]
      by_cases hx : nI (rk_ k f g n key (f j)) = x
      · rw [if_pos hx, if_pos (dec_t ⟨⟨hA.1, rfl⟩, hx⟩)]
      · rw [if_neg hx, if_neg (fun h => hx (of_decide_eq_true h).2), ih m (j + 1) (by omega) (by omega)]
    · rw [if_neg hA, if_pos rfl, if_neg (fun h => hA (of_decide_eq_true h).1), ih m (j + 1) (by omega) (by omega)]
theorem M_placed_x {x : Int32} (hn : n ≤ 60) (hV : RV_ k f e v i g n G) : f_X6_placed key x (G, mkept, mspare, mhasKept, mwas, mwasMany, manew, mthrown, mtext, mlength, mspot, mvalue, merror, mtold, mtolds) = some (fs_ (fun t => decide ((g t = 0 ∧ k t = key) ∧ nI (rk_ k f g n key (f t)) = x)) n 0) := by
  unfold f_X6_placed
  dsimp only
  exact M_placed_L hn hV n fu_ 0 (by omega) (by unfold fu_; omega)
theorem M_placed_I {t : Nat} (hn : n ≤ 60) (hV : RV_ k f e v i g n G) (ht : t < 2 ^ 31) : f_X6_placed key (nI t) (G, mkept, mspare, mhasKept, mwas, mwasMany, manew, mthrown, mtext, mlength, mspot, mvalue, merror, mtold, mtolds) = some (pv_ k f g n key t) := by
  rw [M_placed_x hn hV]
  unfold pv_
  refine congrArg some (fs_congr n 0 (fun j _ hj => decide_eq_decide.mpr ⟨fun h => ⟨h.1, ?_⟩, fun h => ⟨h.1, by rw [h.2]⟩⟩))
  have h1 : rk_ k f g n key (f j) ≤ n := cf_le _ _ _
  exact (nI_eq (by omega) ht).mp h.2
theorem M_placed_neg {x : Int32} (hn : n ≤ 60) (hV : RV_ k f e v i g n G) (hx : x < 0) : f_X6_placed key x (G, mkept, mspare, mhasKept, mwas, mwasMany, manew, mthrown, mtext, mlength, mspot, mvalue, merror, mtold, mtolds) = some (-1) := by
  rw [M_placed_x hn hV]
  rcases fs_spec (fun t => decide ((g t = 0 ∧ k t = key) ∧ nI (rk_ k f g n key (f t)) = x)) n 0 with ⟨h1, -⟩ | ⟨a, -, -, h3, -, -⟩
  · rw [h1]
  · have h4 : rk_ k f g n key (f a) ≤ n := cf_le _ _ _
    have h5 := (of_decide_eq_true h3).2
    rw [← h5] at hx
    exact absurd hx (nI_pos (by omega))
end
section
variable {k f e v i g : Nat → Int32} {n : Nat} {key : Int32}
theorem pv_in (hW : WV_ k f e i g n) (t : Nat) : (pv_ k f g n key t = -1 ∧ mn_ k g n key ≤ t) ∨ (t < mn_ k g n key ∧ ∃ a, a < n ∧ (g a = 0 ∧ k a = key) ∧ rk_ k f g n key (f a) = t ∧ pv_ k f g n key t = nI a) := by
  rcases Nat.lt_or_ge t (mn_ k g n key) with h | h
  · exact Or.inr ⟨h, pv_ex hW t h⟩
  · exact Or.inl ⟨pv_out h, h⟩
theorem atPlace_L {x : Nat} (hW : WV_ k f e i g n) (hx : x < n) : ∀ c m t, t + c = x → c < m → f_X4_atPlace_L24 m (nI t) (pv_ k f g n key t) key (nI x) (k, f, e, v, i, g, nI n) = some (pv_ k f g n key x) := by
  have hn := hW.1
  intro c
  induction c with
  | zero =>
    intro m t h1 h2
    obtain ⟨m, rfl⟩ := ex_S h2
    rw [e_X4_atPlace_L24]
    unfold f_X4_atPlace_S24
    dsimp only
    rw [if_pos (by rw [nI_leI (by omega) (by omega)]; omega), show t = x by omega]
  | succ c ih =>
    intro m t h1 h2
    obtain ⟨m, rfl⟩ := ex_S h2
    rw [e_X4_atPlace_L24]
    unfold f_X4_atPlace_S24
    dsimp only
    rw [if_neg (by rw [nI_leI (by omega) (by omega)]; omega)]
    rcases pv_in (key := key) hW t with ⟨h3, h4⟩ | ⟨h3, a, ha, hA, h4, h5⟩
    · rw [if_pos h3, h3, pv_out (t := x) (by omega)]
    · rw [h5, if_neg (by rw [m1_ne (by omega)]; exact fun h => h), gd_I (by omega) (by omega), cl_I (by omega), next_I hn, bd_s, nx_pv hW ha hA, h4, S_I, ih m (t + 1) (by omega) (by omega)]
theorem atPlace_I {x : Nat} (hW : WV_ k f e i g n) (hx : x < n) : f_X4_atPlace key (nI x) (k, f, e, v, i, g, nI n) = some (pv_ k f g n key x) := by
  have hn := hW.1
  unfold f_X4_atPlace
  dsimp only
  rw [if_neg (nI_pos (by omega)), if_pos (by rw [nI_ltI (by omega) (by omega)]; omega), next_I hn, bd_s, nx_pv0 hW]
  exact atPlace_L hW hx x fu_ 0 (by omega) (by unfold fu_; omega)
theorem atPlace_O {x : Int32} (h : x < 0 ∨ ¬ x < nI n) : f_X4_atPlace key x (k, f, e, v, i, g, nI n) = some (-1) := by
  unfold f_X4_atPlace
  dsimp only
  by_cases h0 : x < 0
  · rw [if_pos h0]
  · rw [if_neg h0, if_neg (h.resolve_left h0)]
end
section
variable {k f e v i g G mkept mspare mwas mtext mtold : Nat → Int32} {mhasKept mwasMany manew mthrown mlength mspot mvalue merror mtolds : Int32} {n : Nat} {key : Int32}
theorem at_eq (hW : WV_ k f e i g n) (hV : RV_ k f e v i g n G) (x : Int32) : ∃ r, (r = -1 ∨ ∃ a, a < n ∧ r = nI a) ∧ f_X4_atPlace key x (k, f, e, v, i, g, nI n) = some r ∧ f_X6_placed key x (G, mkept, mspare, mhasKept, mwas, mwasMany, manew, mthrown, mtext, mlength, mspot, mvalue, merror, mtold, mtolds) = some r := by
  have hn := hW.1
  by_cases h0 : x < 0
  · exact ⟨-1, Or.inl rfl, atPlace_O (Or.inl h0), M_placed_neg hn hV h0⟩
  · obtain ⟨t, ht, rfl⟩ := I_of (x := x) (by have := Int32.not_lt.mp h0; rw [Int32.le_iff_toInt_le] at this; exact this)
    by_cases h1 : t < n
    · refine ⟨pv_ k f g n key t, ?_, atPlace_I hW h1, M_placed_I hn hV ht⟩
      rcases pv_in (key := key) hW t with ⟨h3, -⟩ | ⟨-, a, ha, -, -, h5⟩
      · exact Or.inl h3
      · exact Or.inr ⟨a, ha, h5⟩
    · refine ⟨-1, Or.inl rfl, atPlace_O (Or.inr (by rw [nI_ltI (by omega) (by omega)]; exact h1)), ?_⟩
      have h2 : mn_ k g n key ≤ n := mn_le
      rw [M_placed_I hn hV ht, pv_out (by omega)]
end
