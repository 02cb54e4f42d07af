/-! the model loads its first row -/
def shG (G : Nat → Int32) (j R : Nat) : Nat → Int32 := fun a => if (550 + j ≤ a ∧ a < 550 + R) ∨ (570 + j ≤ a ∧ a < 570 + R) ∨ (590 + j ≤ a ∧ a < 590 + R) then G (a + 1) else G a
theorem RV_congr {k f e v i g G H : Nat → Int32} {n : Nat} (hn : n ≤ 60) (h : ∀ a, a = 0 ∨ (10 ≤ a ∧ a < 370) → H a = G a) (hV : RV_ k f e v i g n G) : RV_ k f e v i g n H := by
  refine ⟨by rw [h 0 (Or.inl rfl)]; exact hV.1, fun j hj => ?_⟩
  rw [h (10 + j) (by omega), h (70 + j) (by omega), h (130 + j) (by omega), h (190 + j) (by omega), h (250 + j) (by omega), h (310 + j) (by omega)]
  exact hV.2 j hj
theorem RF_congr {fk fd fa G H : Nat → Int32} {q : Nat} (hq : q ≤ 60) (h : ∀ a, a = 1 ∨ (370 ≤ a ∧ a < 550) → H a = G a) (hF : RF_ fk fd fa q G) : RF_ fk fd fa q H := by
  refine ⟨by rw [h 1 (Or.inl rfl)]; exact hF.1, fun j hj => ?_⟩
  rw [h (370 + j) (by omega), h (430 + j) (by omega), h (490 + j) (by omega)]
  exact hF.2 j hj
theorem RO_congr {rk rd rv G H : Nat → Int32} {s r : Nat} (h : ∀ a, a = 2 ∨ 550 ≤ a → H a = G a) (hR : RO_ rk rd rv s r G) : RO_ rk rd rv s r H := by
  obtain ⟨h1, h2, h3, p, h4, h5, h6⟩ := hR
  refine ⟨h1, h2, by rw [h 2 (Or.inl rfl)]; exact h3, p, fun j a b => ?_, fun j l a b c => ?_, h6⟩
  · rw [h (550 + p j) (by omega), h (570 + p j) (by omega), h (590 + p j) (by omega)]
    exact h4 j a b
  · have := h5 j l a b c
    unfold lr_ at *
    rw [h (550 + p j) (by omega), h (570 + p j) (by omega), h (550 + p l) (by omega), h (570 + p l) (by omega)]
    exact this
theorem shG_step {G : Nat → Int32} {j R : Nat} (hR : R ≤ 19) (hj : j < R) : shG (upd (upd (upd G (550 + j) (G (550 + j + 1))) (570 + j) (G (570 + j + 1))) (590 + j) (G (590 + j + 1))) (j + 1) R = shG G j R := by
  funext a
  unfold shG
  by_cases c : (550 + (j + 1) ≤ a ∧ a < 550 + R) ∨ (570 + (j + 1) ≤ a ∧ a < 570 + R) ∨ (590 + (j + 1) ≤ a ∧ a < 590 + R)
  · rw [if_pos c, if_pos (by omega), up_n (by omega), up_n (by omega), up_n (by omega)]
  · rw [if_neg c]
    by_cases c1 : a = 550 + j
    · subst c1
      rw [up_n (by omega), up_n (by omega), up_s, if_pos (by omega)]
    · by_cases c2 : a = 570 + j
      · subst c2
        rw [up_n (by omega), up_s, if_pos (by omega)]
      · by_cases c3 : a = 590 + j
        · subst c3
          rw [up_s, if_pos (by omega)]
        · rw [up_n c3, up_n c2, up_n c1, if_neg (by omega)]
theorem shG_at {H : Nat → Int32} {p0 R t : Nat} (hR : R ≤ 19) (ht : t < R) : shG H p0 R (550 + t) = H (550 + (if p0 ≤ t then t + 1 else t)) ∧ shG H p0 R (570 + t) = H (570 + (if p0 ≤ t then t + 1 else t)) ∧ shG H p0 R (590 + t) = H (590 + (if p0 ≤ t then t + 1 else t)) := by
  unfold shG
  by_cases h : p0 ≤ t
  · rw [if_pos h]
    exact ⟨if_pos (by omega), if_pos (by omega), if_pos (by omega)⟩
  · rw [if_neg h]
    exact ⟨if_neg (by omega), if_neg (by omega), if_neg (by omega)⟩
theorem RO_next {rk rd rv G G' : Nat → Int32} {s r p0 : Nat} (h : RO_ rk rd rv s r G) (hs : s < r) (hp0 : ∀ p : Nat → Nat, (∀ j l, s ≤ j → j < l → l < r → lr_ G (p j) (p l)) → (∀ t, t < r - s → ∃ j, s ≤ j ∧ j < r ∧ p j = t) → (∀ j, s ≤ j → j < r → p j < r - s) → p s = p0) (hG : OV_ G G') : RO_ rk rd rv (s + 1) r (shG (upd G' 2 (nI (r - s - 1))) p0 (r - s - 1)) := by
  obtain ⟨h1, h2, h3, p, h4, h5, h6⟩ := h
  have e0 := hp0 p h5 h6 (fun j a b => (h4 j a b).1)
  have hne : ∀ j, s + 1 ≤ j → j < r → p j ≠ p0 := fun j a b h => by
    have := h5 s j (Nat.le_refl _) (by omega) b
    rw [e0, h] at this
    exact lr_asym this this
  have hat : ∀ j, s + 1 ≤ j → j < r → (if p0 ≤ (if p j < p0 then p j else p j - 1) then (if p j < p0 then p j else p j - 1) + 1 else (if p j < p0 then p j else p j - 1)) = p j ∧ (if p j < p0 then p j else p j - 1) < r - s - 1 := fun j a b => by
    have a1 := hne j a b
    have a2 := (h4 j (by omega) b).1
    have a3 := (h4 s (Nat.le_refl _) hs).1
    rw [e0] at a3
    by_cases c : p j < p0
    · rw [if_pos c, if_neg (by omega)]; omega
    · rw [if_neg c, if_pos (by omega)]; omega
  have hH : ∀ a, 550 ≤ a → upd G' 2 (nI (r - s - 1)) a = G a := fun a ha => by rw [up_n (by omega), hG a (by omega)]
  have row : ∀ j, s + 1 ≤ j → j < r → shG (upd G' 2 (nI (r - s - 1))) p0 (r - s - 1) (550 + (if p j < p0 then p j else p j - 1)) = G (550 + p j) ∧ shG (upd G' 2 (nI (r - s - 1))) p0 (r - s - 1) (570 + (if p j < p0 then p j else p j - 1)) = G (570 + p j) ∧ shG (upd G' 2 (nI (r - s - 1))) p0 (r - s - 1) (590 + (if p j < p0 then p j else p j - 1)) = G (590 + p j) := fun j a b => by
    obtain ⟨b1, b2⟩ := hat j a b
    obtain ⟨c1, c2, c3⟩ := shG_at (H := upd G' 2 (nI (r - s - 1))) (p0 := p0) (show r - s - 1 ≤ 19 by omega) b2
    rw [b1] at c1 c2 c3
    rw [c1, c2, c3, hH _ (by omega), hH _ (by omega), hH _ (by omega)]
    exact ⟨rfl, rfl, rfl⟩
  refine ⟨by omega, h2, ?_, fun j => if p j < p0 then p j else p j - 1, fun j a b => ?_, fun j l a b c => ?_, fun t ht => ?_⟩
  · unfold shG
    rw [if_neg (by omega), up_s, show r - (s + 1) = r - s - 1 by omega]
  · obtain ⟨b1, b2⟩ := hat j a b
    obtain ⟨c1, c2, c3⟩ := row j a b
    obtain ⟨-, d1, d2, d3⟩ := h4 j (by omega) b
    exact ⟨by omega, d1.trans c1.symm, d2.trans c2.symm, d3.trans c3.symm⟩
  · obtain ⟨c1, c2, -⟩ := row j a (by omega)
    obtain ⟨d1, d2, -⟩ := row l (by omega) c
    have hl := h5 j l (by omega) b c
    unfold lr_ at *
    rw [c1, c2, d1, d2]
    rcases hl with hl | ⟨g1, hl⟩
    · exact Or.inl hl
    · rcases hl with hl | ⟨g2, hl⟩
      · exact Or.inr ⟨g1, Or.inl hl⟩
      · refine Or.inr ⟨g1, Or.inr ⟨g2, ?_⟩⟩
        have n1 := hne j a (by omega)
        have n2 := hne l (by omega) c
        dsimp only
        by_cases q1 : p j < p0
        · rw [if_pos q1]
          split <;> omega
        · rw [if_neg q1, if_neg (by omega)]
          omega
  · by_cases c : t < p0
    · obtain ⟨j, a, b, hj⟩ := h6 t (by omega)
      have : j ≠ s := fun h => by rw [h, e0] at hj; omega
      exact ⟨j, by omega, b, by dsimp only; rw [hj, if_pos c]⟩
    · obtain ⟨j, a, b, hj⟩ := h6 (t + 1) (by omega)
      have : j ≠ s := fun h => by rw [h, e0] at hj; omega
      exact ⟨j, by omega, b, by dsimp only; rw [hj, if_neg (by omega)]; omega⟩
section
variable {k f e v i g rk rd rv G mkept mspare mwas mtext mtold : Nat → Int32} {mhasKept mwasMany manew mthrown mlength mspot mvalue merror mtolds : Int32} {n r s : Nat} {key day val : Int32}
theorem loads_L {R : Nat} {x : Int32} (hR : R ≤ 19) : ∀ c m j (G : Nat → Int32), G 2 = nI R → j + c = R → c < m → f_X6_loads_L56 m (nI j) x (G, mkept, mspare, mhasKept, mwas, mwasMany, manew, mthrown, mtext, mlength, mspot, mvalue, merror, mtold, mtolds) = some (1, (shG G j R, mkept, mspare, mhasKept, mwas, mwasMany, manew, mthrown, mtext, mlength, mspot, mvalue, merror, mtold, mtolds)) := by
  intro c
  induction c with
  | zero =>
    intro m j G hG h1 h2
    obtain ⟨m, rfl⟩ := ex_S h2
    have e1 : shG G j R = G := by
      funext a
      exact if_neg (by omega)
    rw [e_X6_loads_L56]
    unfold f_X6_loads_S56
    dsimp only
    rw [gd_2, cl_2, hG, if_pos (by rw [nI_leI (by omega) (by omega)]; omega), e1]
  | succ c ih =>
    intro m j G hG h1 h2
    obtain ⟨m, rfl⟩ := ex_S h2
    rw [e_X6_loads_L56]
    unfold f_X6_loads_S56
    dsimp only
    simp only [of_550, of_570, of_590, S_I]
    rw [gd_2, cl_2, hG, if_neg (by rw [nI_leI (by omega) (by omega)]; omega), gd_I (by omega) (by omega), gd_I (by omega) (by omega), nm_s, gd_I (by omega) (by omega), gd_I (by omega) (by omega), nm_s, gd_I (by omega) (by omega), gd_I (by omega) (by omega), nm_s]
    simp only [cl_I (show 550 + j < 2 ^ 31 by omega), cl_I (show 550 + j + 1 < 2 ^ 31 by omega), cl_I (show 570 + j < 2 ^ 31 by omega), cl_I (show 570 + j + 1 < 2 ^ 31 by omega), cl_I (show 590 + j < 2 ^ 31 by omega), cl_I (show 590 + j + 1 < 2 ^ 31 by omega)]
    rw [up_n (show 590 + j + 1 ≠ 570 + j by omega), up_n (show 570 + j + 1 ≠ 550 + j by omega), up_n (show 590 + j + 1 ≠ 550 + j by omega), ih m (j + 1) _ (by rw [up_n (by omega), up_n (by omega), up_n (by omega)]; exact hG) (by omega) (by omega), shG_step hR (by omega)]
theorem M_loads_ok (hW : WV_ k f e i g n) (hV : RV_ k f e v i g n G) (hR : RO_ rk rd rv s r G) (hs : s < r) (hk : iK_ (rk s)) (hd : iD_ (rd s)) :
    (∃ (r9 : Int32) (k' f' e' v' i' g' : Nat → Int32) (n' : Nat) (G' : Nat → Int32), 0 ≤ r9 ∧ f_X4_put (rk s) (rd s) (rv s) (k, f, e, v, i, g, nI n) = some (r9, (k', f', e', v', i', g', nI n')) ∧ f_X6_loads (G, mkept, mspare, mhasKept, mwas, mwasMany, manew, mthrown, mtext, mlength, mspot, mvalue, merror, mtold, mtolds) = some (1, (G', mkept, mspare, mhasKept, mwas, mwasMany, manew, mthrown, mtext, mlength, mspot, mvalue, merror, mtold, mtolds)) ∧ WV_ k' f' e' i' g' n' ∧ RV_ k' f' e' v' i' g' n' G' ∧ (∀ a, a = 1 ∨ (370 ≤ a ∧ a < 550) → G' a = G a) ∧ RO_ rk rd rv (s + 1) r G' ∧ ∀ K D, cv_ k f e g n K D → cv_ k' f' e' g' n' K D) ∨
    (f_X4_put (rk s) (rd s) (rv s) (k, f, e, v, i, g, nI n) = some (-1, (k, f, e, v, i, g, nI n)) ∧ f_X6_loads (G, mkept, mspare, mhasKept, mwas, mwasMany, manew, mthrown, mtext, mlength, mspot, mvalue, merror, mtold, mtolds) = some (0, (G, mkept, mspare, mhasKept, mwas, mwasMany, manew, mthrown, mtext, mlength, mspot, mvalue, merror, mtold, mtolds))) := by
  obtain ⟨p0, hp0, hf, h1, h2, h3, huniq⟩ := RO_first (mkept := mkept) (mspare := mspare) (mwas := mwas) (mtext := mtext) (mtold := mtold) (mhasKept := mhasKept) (mwasMany := mwasMany) (manew := manew) (mthrown := mthrown) (mlength := mlength) (mspot := mspot) (mvalue := mvalue) (merror := merror) (mtolds := mtolds) hR hs
  have hr := hR.2.1
  have hG2 := hR.2.2.1
  unfold f_X6_loads
  dsimp only
  rw [hf, bd_s]
  simp only [of_550, of_570, of_590]
  rw [gd_I (by omega) (by omega), gd_I (by omega) (by omega), gd_I (by omega) (by omega), cl_I (by omega), cl_I (by omega), cl_I (by omega), ← h1, ← h2, ← h3]
  rcases put_ok (val := rv s) (mkept := mkept) (mspare := mspare) (mwas := mwas) (mtext := mtext) (mtold := mtold) (mhasKept := mhasKept) (mwasMany := mwasMany) (manew := manew) (mthrown := mthrown) (mlength := mlength) (mspot := mspot) (mvalue := mvalue) (merror := merror) (mtolds := mtolds) hW hV hk hd with ⟨r9, k', f', e', v', i', g', n', G', c0, c1, c2, c3, c4, c5, c6⟩ | ⟨c1, c2⟩
  · left
    have hn' := c3.1
    have hG'2 : G' 2 = nI (r - s - 1 + 1) := by rw [c5 2 (by omega), hG2, show r - s - 1 + 1 = r - s by omega]
    refine ⟨r9, k', f', e', v', i', g', n', shG (upd G' 2 (nI (r - s - 1))) p0 (r - s - 1), c0, c1, ?_, c3, RV_congr hn' (fun a ha => ?_) c4, fun a ha => ?_, RO_next hR hs huniq c5, c6⟩
    · rw [c2, bd_s]
      dsimp only
      rw [if_pos c0, gd_2, gd_2, nm_s, cl_2, hG'2, nI_pred]
      exact loads_L (show r - s - 1 ≤ 19 by omega) (r - s - 1 - p0) fu_ p0 _ up_s (by omega) (by unfold fu_; omega)
    · unfold shG
      rw [if_neg (by omega), up_n (by omega)]
    · unfold shG
      rw [if_neg (by omega), up_n (by omega), c5 a (by omega)]
  · right
    refine ⟨c1, ?_⟩
    rw [c2, bd_s]
    dsimp only
    rw [if_neg (by decide)]
end
