/-! more of what is asked -/
section
variable {k f e v i g fk fd fa fv rk rd rv G mkept mspare mwas mtext mtold : Nat → Int32} {mhasKept mwasMany manew mthrown mlength mspot mvalue merror mtolds : Int32} {n q r : Nat} {h1 h2 h3 a1 a2 a3 rc : Int32} {ov : Nat → Int64} {pv : Nat → UInt64}
theorem ei_ok {j : Nat} {b : Int32} (hj : j < n) (hb : b = -1 ∨ ∃ l, l < n ∧ b = nI l) : ei_ k f i g j b = -1 ∨ ∃ l, l < n ∧ ei_ k f i g j b = nI l := by
  unfold ei_
  split
  · exact Or.inr ⟨j, hj, rfl⟩
  · exact hb
theorem isEarlier_I {j l : Nat} (hn : n ≤ 60) (hj : j < n) (hl : l < n) : f_X4_isEarlier (nI j) (nI l) (k, f, e, v, i, g, nI n) = some (if f j < f l ∨ (f j = f l ∧ k j < k l) then 1 else 0) := by
  unfold f_X4_isEarlier
  dsimp only
  simp only [gd_I (show j < 60 by omega) (show 60 < 2 ^ 31 by omega), gd_I (show l < 60 by omega) (show 60 < 2 ^ 31 by omega), cl_I (show j < 2 ^ 31 by omega), cl_I (show l < 2 ^ 31 by omega)]
  by_cases c1 : f j < f l
  · rw [if_pos c1, if_pos (Or.inl c1)]
  · by_cases c2 : f j = f l
    · by_cases c3 : k l ≤ k j
      · rw [if_neg c1, if_pos c2, if_pos c3, if_neg (fun h => h.elim c1 (fun h => absurd h.2 (Int32.not_lt.mpr c3)))]
      · rw [if_neg c1, if_pos c2, if_neg c3, if_pos (Or.inr ⟨c2, Int32.not_le.mp c3⟩)]
    · rw [if_neg c1, if_neg c2, if_neg (fun h => h.elim c1 (fun h => c2 h.1))]
theorem earliest_L (hn : n ≤ 60) : ∀ c m j b, j + c = n → c < m → (b = -1 ∨ ∃ l, l < n ∧ b = nI l) → f_X4_earliestInferred_L4 m (nI j) b (k, f, e, v, i, g, nI n) = some (fo_ (ei_ k f i g) c j b) := by
  intro c
  induction c with
  | zero =>
    intro m j b h1 h2 hb
    obtain ⟨m, rfl⟩ := ex_S h2
    rw [e_X4_earliestInferred_L4]
    unfold f_X4_earliestInferred_S4
    dsimp only
    rw [if_pos (by rw [nI_leI (by omega) (by omega)]; omega)]
    rfl
  | succ c ih =>
    intro m j b h1 h2 hb
    obtain ⟨m, rfl⟩ := ex_S h2
    rw [e_X4_earliestInferred_L4]
    unfold f_X4_earliestInferred_S4
    dsimp only
    have hj : j < n := by omega
    have ih1 := fun b hb => ih m (j + 1) b (by omega) (by omega) hb
    rw [if_neg (by rw [nI_leI (by omega) (by omega)]; omega), has_I hn hj, bd_s, S_I, show fo_ (ei_ k f i g) (c + 1) j b = fo_ (ei_ k f i g) c (j + 1) (ei_ k f i g j b) from rfl, gd_I (by omega) (by omega), cl_I (by omega)]
    by_cases ha : g j = 0
    · by_cases hi : i j = 0
      · rw [if_pos ha, if_neg (by decide), if_pos hi, show ei_ k f i g j b = b from if_neg (fun h => h.1.2 hi), ih1 b hb]
      · rw [if_pos ha, if_neg (by decide), if_neg hi]
        rcases hb with rfl | ⟨l, hl, rfl⟩
        · rw [if_pos rfl, show ei_ k f i g j (-1) = nI j from if_pos ⟨⟨ha, hi⟩, Or.inl rfl⟩, ih1 _ (Or.inr ⟨j, hj, rfl⟩)]
        · rw [if_neg (by rw [m1_ne (by omega)]; exact fun h => h), isEarlier_I hn hj hl, bd_s]
          by_cases hc : f j < f l ∨ (f j = f l ∧ k j < k l)
          · rw [if_pos hc, if_neg (by decide), show ei_ k f i g j (nI l) = nI j from if_pos ⟨⟨ha, hi⟩, Or.inr (by rw [cl_I (by omega)]; exact hc)⟩, ih1 _ (Or.inr ⟨j, hj, rfl⟩)]
          · rw [if_neg hc, if_pos rfl, show ei_ k f i g j (nI l) = nI l from if_neg (fun h => by
              rcases h.2 with h2 | h2
              · rw [m1_ne (by omega)] at h2; exact h2
              · rw [cl_I (by omega)] at h2; exact hc h2), ih1 _ (Or.inr ⟨l, hl, rfl⟩)]
    · rw [if_neg ha, if_pos rfl, show ei_ k f i g j b = b from if_neg (fun h => ha h.1.1), ih1 b hb]
theorem M_first_L (hW : WV_ k f e i g n) (hV : RV_ k f e v i g n G) : ∀ c m j b, j + c = n → c < m → (b = -1 ∨ ∃ l, l < n ∧ b = nI l) → f_X6_firstInferred_L9 m (nI j) b (G, mkept, mspare, mhasKept, mwas, mwasMany, manew, mthrown, mtext, mlength, mspot, mvalue, merror, mtold, mtolds) = (if fo_ (ei_ k f i g) c j b = -1 then some (0, (G, mkept, mspare, mhasKept, mwas, mwasMany, manew, 1, mtext, mlength, mspot, mvalue, merror, mtold, mtolds)) else some (fo_ (ei_ k f i g) c j b, (G, mkept, mspare, mhasKept, mwas, mwasMany, manew, mthrown, mtext, mlength, mspot, mvalue, merror, mtold, mtolds))) := by
  have hn := hW.1
  intro c
  induction c with
  | zero =>
    intro m j b h1 h2 hb
    obtain ⟨m, rfl⟩ := ex_S h2
    rw [e_X6_firstInferred_L9]
    unfold f_X6_firstInferred_S9
    dsimp only
    rw [gd_0, cl_0, hV.1, if_pos (by rw [nI_leI (by omega) (by omega)]; omega), M_fails, bd_s]
    show _ = (if b = -1 then _ else some (b, _))
    rcases hb with rfl | ⟨l, hl, rfl⟩
    · rw [if_neg (by decide), if_pos rfl]
    · rw [if_pos (nI_pos' (by omega)), if_neg (by rw [m1_ne (by omega)]; exact fun h => h)]
  | succ c ih =>
    intro m j b h1 h2 hb
    obtain ⟨m, rfl⟩ := ex_S h2
    rw [e_X6_firstInferred_L9]
    unfold f_X6_firstInferred_S9
    dsimp only
    have hj : j < n := by omega
    obtain ⟨p1, p2, p3, -, -, p6⟩ := hV.2 j hj
    have ih1 := fun b hb => ih m (j + 1) b (by omega) (by omega) hb
    simp only [S_I, of_10, of_70, of_130, of_310]
    rw [gd_0, cl_0, hV.1, if_neg (by rw [nI_leI (by omega) (by omega)]; omega), show fo_ (ei_ k f i g) (c + 1) j b = fo_ (ei_ k f i g) c (j + 1) (ei_ k f i g j b) from rfl]
    simp only [gd_I (show 10 + j < 610 by omega) (show 610 < 2 ^ 31 by omega), gd_I (show 70 + j < 610 by omega) (show 610 < 2 ^ 31 by omega), gd_I (show 130 + j < 610 by omega) (show 610 < 2 ^ 31 by omega), gd_I (show 310 + j < 610 by omega) (show 610 < 2 ^ 31 by omega), cl_I (show 10 + j < 2 ^ 31 by omega), cl_I (show 70 + j < 2 ^ 31 by omega), cl_I (show 130 + j < 2 ^ 31 by omega), cl_I (show 310 + j < 2 ^ 31 by omega), p1, p2, p3, p6]
    by_cases ha : g j = 0
    · rw [if_pos ha, if_pos rfl]
      rcases (hW.2.1 j hj).2 with hi | hi
      · rw [hi, if_neg (by decide), show ei_ k f i g j b = b from if_neg (fun h => h.1.2 hi), ih1 b hb]
      · have hi0 : ¬ i j = 0 := by rw [hi]; decide
        rw [hi, if_pos rfl]
        rcases hb with rfl | ⟨l, hl, rfl⟩
        · rw [if_pos (by decide), show ei_ k f i g j (-1) = nI j from if_pos ⟨⟨ha, hi0⟩, Or.inl rfl⟩, ih1 _ (Or.inr ⟨j, hj, rfl⟩)]
        · obtain ⟨-, s2, s3, -⟩ := hV.2 l hl
          rw [if_neg (nI_pos (by omega))]
          simp only [of_70, of_130, gd_I (show 70 + l < 610 by omega) (show 610 < 2 ^ 31 by omega), gd_I (show 130 + l < 610 by omega) (show 610 < 2 ^ 31 by omega), cl_I (show 70 + l < 2 ^ 31 by omega), cl_I (show 130 + l < 2 ^ 31 by omega), s2, s3]
          have yes : (f j < f l ∨ (f j = f l ∧ k j < k l)) → ei_ k f i g j (nI l) = nI j := fun hc => if_pos ⟨⟨ha, hi0⟩, Or.inr (by rw [cl_I (by omega)]; exact hc)⟩
          have no : ¬ (f j < f l ∨ (f j = f l ∧ k j < k l)) → ei_ k f i g j (nI l) = nI l := fun hc => if_neg (fun h => by
            rcases h.2 with h2 | h2
            · rw [m1_ne (by omega)] at h2; exact h2
            · rw [cl_I (by omega)] at h2; exact hc h2)
          by_cases c1 : f j < f l
          · rw [if_pos c1, yes (Or.inl c1), ih1 _ (Or.inr ⟨j, hj, rfl⟩)]
          · by_cases c2 : f j = f l
            · by_cases c3 : k l ≤ k j
              · rw [if_neg c1, if_pos c2, if_pos c3, no (fun h => h.elim c1 (fun h => absurd h.2 (Int32.not_lt.mpr c3))), ih1 _ (Or.inr ⟨l, hl, rfl⟩)]
              · rw [if_neg c1, if_pos c2, if_neg c3, yes (Or.inr ⟨c2, Int32.not_le.mp c3⟩), ih1 _ (Or.inr ⟨j, hj, rfl⟩)]
            · rw [if_neg c1, if_neg c2, no (fun h => h.elim c1 (fun h => c2 h.1)), ih1 _ (Or.inr ⟨l, hl, rfl⟩)]
    · rw [if_neg ha, if_neg (by decide), show ei_ k f i g j b = b from if_neg (fun h => ha h.1.1), ih1 b hb]
theorem q_firstInferred (hW : WV_ k f e i g n) (hV : RV_ k f e v i g n G) : QI_ (f_L_firstInferred (h1, h2, h3) () (k, f, e, v, i, g, nI n) (fk, fd, fa, fv, nI q) (rk, rd, rv, rc) ov) (f_X6_firstInferred (G, mkept, mspare, mhasKept, mwas, mwasMany, manew, mthrown, mtext, mlength, mspot, mvalue, merror, mtold, mtolds)) (fun c => (G, mkept, mspare, mhasKept, mwas, mwasMany, manew, c, mtext, mlength, mspot, mvalue, merror, mtold, mtolds)) := by
  have hn := hW.1
  have hb : fo_ (ei_ k f i g) n 0 (-1) = -1 ∨ ∃ l, l < n ∧ fo_ (ei_ k f i g) n 0 (-1) = nI l := fo_inv (g := ei_ k f i g) (fun _ (b : Int32) => b = -1 ∨ ∃ l, l < n ∧ b = nI l) n 0 (-1) (Or.inl rfl) (fun t b _ ht hb => ei_ok (by omega) hb)
  have hc : f_X4_earliestInferred (k, f, e, v, i, g, nI n) = some (fo_ (ei_ k f i g) n 0 (-1)) := by
    unfold f_X4_earliestInferred
    exact earliest_L hn n fu_ 0 (-1) (by omega) (by unfold fu_; omega) (Or.inl rfl)
  have hm : f_X6_firstInferred (G, mkept, mspare, mhasKept, mwas, mwasMany, manew, mthrown, mtext, mlength, mspot, mvalue, merror, mtold, mtolds) = (if fo_ (ei_ k f i g) n 0 (-1) = -1 then some (0, (G, mkept, mspare, mhasKept, mwas, mwasMany, manew, 1, mtext, mlength, mspot, mvalue, merror, mtold, mtolds)) else some (fo_ (ei_ k f i g) n 0 (-1), (G, mkept, mspare, mhasKept, mwas, mwasMany, manew, 0, mtext, mlength, mspot, mvalue, merror, mtold, mtolds))) := by
    unfold f_X6_firstInferred
    exact M_first_L hW hV n fu_ 0 (-1) (by omega) (by unfold fu_; omega) (Or.inl rfl)
  rw [hm]
  rcases hb with hb | ⟨l, hl, hb⟩
  · refine ⟨1, 0, _, lw_firstInferred_e1 ?_, if_pos hb, no_1⟩
    unfold f_X5_firstInferred
    dsimp only
    rw [hc, bd_s, hb, found_m1, bd_s]
  · rw [hb, if_neg (by rw [m1_ne (by omega)]; exact fun h => h)]
    refine ⟨0, nI l, _, lw_firstInferred_ok (r := nI l) ?_, rfl, fun _ => updL_s⟩
    unfold f_X5_firstInferred
    dsimp only
    rw [hc, bd_s, hb, found_I (by omega), bd_s]
theorem q_fact (hW : WV_ k f e i g n) (hV : RV_ k f e v i g n G) (hI : FI_ k f e g n fk fd fv q) (hF : RF_ fk fd fa q G) : QI_ (f_L_fact a1 a2 (h1, h2, h3) () (k, f, e, v, i, g, nI n) (fk, fd, fa, fv, nI q) (rk, rd, rv, rc) ov) (f_X6_fact a1 a2 (G, mkept, mspare, mhasKept, mwas, mwasMany, manew, mthrown, mtext, mlength, mspot, mvalue, merror, mtold, mtolds)) (fun c => (G, mkept, mspare, mhasKept, mwas, mwasMany, manew, c, mtext, mlength, mspot, mvalue, merror, mtold, mtolds)) := by
  have hn := hW.1
  have hq := hI.1
  by_cases h : 0 ≤ a1.toInt ∧ a1.toInt ≤ (q : Int) - 1
  · obtain ⟨t, ht, rfl⟩ := I_of h.1
    have hin : f_X6_in (nI t) 0 (nI q - 1) = some 1 := in_T z0_ (top_I (by omega)) h
    rw [nI_toInt ht] at h
    have ht : t < q := by omega
    obtain ⟨p1, p2, p3⟩ := hF.2 t ht
    obtain ⟨l, hl, hA, hfv⟩ := FI_on hn hI ht
    have hon : ∀ mthrown, f_X6_versionOf (nI t) (G, mkept, mspare, mhasKept, mwas, mwasMany, manew, mthrown, mtext, mlength, mspot, mvalue, merror, mtold, mtolds) = some (nI l) := fun mthrown => by rw [M_versionOf hW hV hq (fun t ht => ⟨(hF.2 t ht).1, (hF.2 t ht).2.1⟩) ht, ← (hI.2 t ht).2.2.2, hfv]
    have hcl : (nI t).toNatClampNeg = t := cl_I (by omega)
    have go : ∀ (X : Int32), f_X6_in a2 0 4 = some 1 → f_X6_factTold (nI t) a2 (G, mkept, mspare, mhasKept, mwas, mwasMany, manew, 0, mtext, mlength, mspot, mvalue, merror, mtold, mtolds) = some X → f_X5_fact (nI t) a2 (h1, h2, h3) () (k, f, e, v, i, g, nI n) (fk, fd, fa, fv, nI q) (rk, rd, rv, rc) = some (Except.ok X) → QI_ (f_L_fact (nI t) a2 (h1, h2, h3) () (k, f, e, v, i, g, nI n) (fk, fd, fa, fv, nI q) (rk, rd, rv, rc) ov) (f_X6_fact (nI t) a2 (G, mkept, mspare, mhasKept, mwas, mwasMany, manew, mthrown, mtext, mlength, mspot, mvalue, merror, mtold, mtolds)) (fun c => (G, mkept, mspare, mhasKept, mwas, mwasMany, manew, c, mtext, mlength, mspot, mvalue, merror, mtold, mtolds)) := fun X q1 q2 q3 => by
      refine ⟨0, _, _, lw_fact_ok (nI t) a2 q3, ?_, fun _ => updL_s⟩
      unfold f_X6_fact
      dsimp only
      rw [gd_1, cl_1, hF.1, hin, bd_s, if_neg (by decide), q1, bd_s, if_neg (by decide), q2, bd_s]
    have c1 : ¬ nI t < 0 := nI_pos (by omega)
    have c2 : nI t < nI q := by rw [nI_ltI (by omega) (by omega)]; exact ht
    have bad : (¬ (0 ≤ a2.toInt ∧ a2.toInt ≤ 4)) → QI_ (f_L_fact (nI t) a2 (h1, h2, h3) () (k, f, e, v, i, g, nI n) (fk, fd, fa, fv, nI q) (rk, rd, rv, rc) ov) (f_X6_fact (nI t) a2 (G, mkept, mspare, mhasKept, mwas, mwasMany, manew, mthrown, mtext, mlength, mspot, mvalue, merror, mtold, mtolds)) (fun c => (G, mkept, mspare, mhasKept, mwas, mwasMany, manew, c, mtext, mlength, mspot, mvalue, merror, mtold, mtolds)) := fun hb => by
      have hz : ∀ z : Int32, 0 ≤ z.toInt ∧ z.toInt ≤ 4 → ¬ a2 = z := fun z hz he => hb (by rw [he]; exact hz)
      refine ⟨2, 0, _, lw_fact_e2 (nI t) a2 ?_, ?_, no_2⟩
      · unfold f_X5_fact
        dsimp only
        rw [if_neg c1, if_pos c2, if_neg (hz 0 (by decide)), if_neg (hz 1 (by decide)), if_neg (hz 2 (by decide)), if_neg (hz 3 (by decide)), if_neg (hz 4 (by decide))]
      · unfold f_X6_fact
        dsimp only
        rw [gd_1, cl_1, hF.1, hin, bd_s, if_neg (by decide), in_F z0_ (show (4 : Int32).toInt = 4 by decide) hb, bd_s, if_pos rfl, M_fails, bd_s]
    rcases sw6_ a2 with rfl | rfl | rfl | rfl | rfl | rfl | h
    · refine go (fk t) (by decide) ?_ ?_
      · unfold f_X6_factTold
        dsimp only
        rw [if_pos rfl, of_370, gd_I (by omega) (by omega), cl_I (by omega), p1]
      · unfold f_X5_fact
        dsimp only
        rw [if_neg c1, if_pos c2, if_pos rfl, gd_I (by omega) (by omega), hcl]
    · refine go (fd t) (by decide) ?_ ?_
      · unfold f_X6_factTold
        dsimp only
        rw [if_neg (by decide), if_pos rfl, of_430, gd_I (by omega) (by omega), cl_I (by omega), p2]
      · unfold f_X5_fact
        dsimp only
        rw [if_neg c1, if_pos c2, if_neg (by decide), if_pos rfl, gd_I (by omega) (by omega), hcl]
    · refine go (fa t) (by decide) ?_ ?_
      · unfold f_X6_factTold
        dsimp only
        rw [if_neg (by decide), if_neg (by decide), if_pos rfl, of_490, gd_I (by omega) (by omega), cl_I (by omega), p3]
      · unfold f_X5_fact
        dsimp only
        rw [if_neg c1, if_pos c2, if_neg (by decide), if_neg (by decide), if_pos rfl, gd_I (by omega) (by omega), hcl]
    · refine go (nI l) (by decide) ?_ ?_
      · unfold f_X6_factTold
        dsimp only
        rw [if_neg (by decide), if_neg (by decide), if_neg (by decide), if_pos rfl, hon, bd_s]
      · unfold f_X5_fact
        dsimp only
        rw [if_neg c1, if_pos c2, if_neg (by decide), if_neg (by decide), if_neg (by decide), if_pos rfl, gd_I (by omega) (by omega), hcl, hfv]
    · refine go (v l) (by decide) ?_ ?_
      · unfold f_X6_factTold
        dsimp only
        rw [if_neg (by decide), if_neg (by decide), if_neg (by decide), if_neg (by decide), hon, bd_s, of_250, gd_I (by omega) (by omega), cl_I (by omega), (hV.2 l hl).2.2.2.2.1]
      · unfold f_X5_fact
        dsimp only
        rw [if_neg c1, if_pos c2, if_neg (by decide), if_neg (by decide), if_neg (by decide), if_neg (by decide), if_pos rfl, gd_I (by omega) (by omega), hcl, hfv]
        unfold f_X4_valueOf
        dsimp only
        rw [has_I hn hl, bd_s, if_pos hA.1, if_neg (by decide), gd_I (by omega) (by omega), cl_I (by omega), bd_s]
    · exact bad (by decide)
    · exact bad (fun h4 => h ⟨h4.1, by omega⟩)
  · have hin : f_X6_in a1 0 (nI q - 1) = some 0 := in_F z0_ (top_I (by omega)) h
    refine ⟨1, 0, _, lw_fact_e1 a1 a2 ?_, ?_, no_1⟩
    · unfold f_X5_fact
      dsimp only
      by_cases c1 : a1 < 0
      · rw [if_pos c1]
      · rw [if_neg c1, if_neg (fun c2 => h (by
          rw [c_lt z0_] at c1
          rw [c_lt (z := (q : Int)) (nI_toInt (by omega))] at c2
          omega))]
    · unfold f_X6_fact
      dsimp only
      rw [gd_1, cl_1, hF.1, hin, bd_s, if_pos rfl, M_fails, bd_s]
theorem am_out (hn : n ≤ 60) (hF : RF_ fk fd fa q G) (hq : q ≤ 60) : f_X6_amountOf_L22 fu_ 0 0 a1 (G, mkept, mspare, mhasKept, mwas, mwasMany, manew, 1, mtext, mlength, mspot, mvalue, merror, mtold, mtolds) = some (0, (G, mkept, mspare, mhasKept, mwas, mwasMany, manew, 1, mtext, mlength, mspot, mvalue, merror, mtold, mtolds)) := by
  rw [show f_X6_amountOf_L22 fu_ = f_X6_amountOf_L22 (4999 + 1) from rfl, e_X6_amountOf_L22]
  unfold f_X6_amountOf_S22
  dsimp only
  rw [gd_1, if_neg (show ¬ (1 : Int32) = 0 by decide)]
  split <;> rfl
theorem q_amountOf (hW : WV_ k f e i g n) (hV : RV_ k f e v i g n G) (hI : FI_ k f e g n fk fd fv q) (hF : RF_ fk fd fa q G) : QL_ (f_L_amountOf a1 (h1, h2, h3) () (k, f, e, v, i, g, nI n) (fk, fd, fa, fv, nI q) (rk, rd, rv, rc) ov) (f_X6_amountOf a1 (G, mkept, mspare, mhasKept, mwas, mwasMany, manew, mthrown, mtext, mlength, mspot, mvalue, merror, mtold, mtolds)) (fun c => (G, mkept, mspare, mhasKept, mwas, mwasMany, manew, c, mtext, mlength, mspot, mvalue, merror, mtold, mtolds)) := by
  have hn := hW.1
  have hq := hI.1
  rcases ver_cases (fk := fk) (fd := fd) (fa := fa) (fv := fv) (q := q) (rk := rk) (rd := rd) (rv := rv) (rc := rc) (h1 := h1) (h2 := h2) (h3 := h3) (mkept := mkept) (mspare := mspare) (mwas := mwas) (mtext := mtext) (mtold := mtold) (mhasKept := mhasKept) (mwasMany := mwasMany) (manew := manew) (mthrown := mthrown) (mlength := mlength) (mspot := mspot) (mvalue := mvalue) (merror := merror) (mtolds := mtolds) hn hV a1 with ⟨j, hj, rfl, hg, hc, hm⟩ | ⟨hc, hm⟩
  · refine ⟨0, _, _, lw_amountOf_ok (nI j) (r := fo_ (sm_ fv fa (nI j)) q 0 0) ?_, ?_, fun _ => updL_s⟩
    · unfold f_X5_amountOf
      dsimp only
      rw [hc, bd_s]
      dsimp only
      rw [F_sumOf hq, bd_s]
    · unfold f_X6_amountOf
      dsimp only
      rw [hm, bd_s, if_neg (by decide)]
      refine (M_amountOf_L hW hV hq hF q fu_ 0 0 (by omega) (by unfold fu_; omega)).trans ?_
      rw [fo_congr (g := sm_ (onF_ k f e g n fk fd) fa (nI j)) (h := sm_ fv fa (nI j)) q 0 0 (fun t a _ ht => by unfold sm_; rw [(hI.2 t (by omega)).2.2.2])]
  · refine ⟨1, 0, _, lw_amountOf_e1 a1 ?_, ?_, no_1⟩
    · unfold f_X5_amountOf
      dsimp only
      rw [hc, bd_s]
    · unfold f_X6_amountOf
      dsimp only
      rw [hm, bd_s, if_pos rfl]
      exact am_out hn hF hq
theorem amFor_L (hn : n ≤ 60) (hq : q ≤ 60) : ∀ c m j a, j + c = n → c < m → f_X5_amountFor_L18 m (nI j) a a1 a2 (h1, h2, h3) () (k, f, e, v, i, g, nI n) (fk, fd, fa, fv, nI q) (rk, rd, rv, rc) = some (Except.ok (fo_ (sv_ k g v fv fa q a1 a2) c j a)) := by
  intro c
  induction c with
  | zero =>
    intro m j a b1 b2
    obtain ⟨m, rfl⟩ := ex_S b2
    rw [e_X5_amountFor_L18]
    unfold f_X5_amountFor_S18
    dsimp only
    rw [if_pos (by rw [nI_leI (by omega) (by omega)]; omega)]
    rfl
  | succ c ih =>
    intro m j a b1 b2
    obtain ⟨m, rfl⟩ := ex_S b2
    rw [e_X5_amountFor_L18]
    unfold f_X5_amountFor_S18
    dsimp only
    show _ = some (Except.ok (fo_ (sv_ k g v fv fa q a1 a2) c (j + 1) (sv_ k g v fv fa q a1 a2 j a)))
    rw [if_neg (by rw [nI_leI (by omega) (by omega)]; omega), isOf_I hn (by omega), bd_s, S_I, gd_I (by omega) (by omega), cl_I (by omega)]
    by_cases ha : g j = 0 ∧ k j = a1
    · by_cases hv : v j = a2
      · rw [if_pos ha, if_neg (by decide), if_pos hv, F_sumOf hq, bd_s, show sv_ k g v fv fa q a1 a2 j a = a + fo_ (sm_ fv fa (nI j)) q 0 0 from if_pos ⟨ha, hv⟩, ih m (j + 1) _ (by omega) (by omega)]
      · rw [if_pos ha, if_neg (by decide), if_neg hv, show sv_ k g v fv fa q a1 a2 j a = a from if_neg (fun h => hv h.2), ih m (j + 1) _ (by omega) (by omega)]
    · rw [if_neg ha, if_pos rfl, show sv_ k g v fv fa q a1 a2 j a = a from if_neg (fun h => ha h.1), ih m (j + 1) _ (by omega) (by omega)]
theorem amF_out : f_X6_amountFor_L21 fu_ 0 0 a1 a2 (G, mkept, mspare, mhasKept, mwas, mwasMany, manew, 1, mtext, mlength, mspot, mvalue, merror, mtold, mtolds) = some (0, (G, mkept, mspare, mhasKept, mwas, mwasMany, manew, 1, mtext, mlength, mspot, mvalue, merror, mtold, mtolds)) := by
  rw [show f_X6_amountFor_L21 fu_ = f_X6_amountFor_L21 (4999 + 1) from rfl, e_X6_amountFor_L21]
  unfold f_X6_amountFor_S21
  dsimp only
  rw [gd_1, if_neg (show ¬ (1 : Int32) = 0 by decide)]
  split <;> rfl
theorem q_amountFor (hW : WV_ k f e i g n) (hV : RV_ k f e v i g n G) (hI : FI_ k f e g n fk fd fv q) (hF : RF_ fk fd fa q G) : QL_ (f_L_amountFor a1 a2 (h1, h2, h3) () (k, f, e, v, i, g, nI n) (fk, fd, fa, fv, nI q) (rk, rd, rv, rc) ov) (f_X6_amountFor a1 a2 (G, mkept, mspare, mhasKept, mwas, mwasMany, manew, mthrown, mtext, mlength, mspot, mvalue, merror, mtold, mtolds)) (fun c => (G, mkept, mspare, mhasKept, mwas, mwasMany, manew, c, mtext, mlength, mspot, mvalue, merror, mtold, mtolds)) := by
  have hn := hW.1
  have hq := hI.1
  by_cases hk : iK_ a1
  · refine ⟨0, _, _, lw_amountFor_ok a1 a2 (r := fo_ (sv_ k g v fv fa q a1 a2) n 0 0) ?_, ?_, fun _ => updL_s⟩
    · unfold f_X5_amountFor
      dsimp only
      rw [key_T hk, bd_s]
      dsimp only
      exact amFor_L hn hq n fu_ 0 0 (by omega) (by unfold fu_; omega)
    · unfold f_X6_amountFor
      dsimp only
      rw [mkey_T hk, bd_s, if_neg (by decide)]
      refine (M_amountFor_L hW hV hI hF q fu_ 0 0 (by omega) (by unfold fu_; omega)).trans ?_
      rw [amt_eq hn hI q (Nat.le_refl _)]
  · refine ⟨1, 0, _, lw_amountFor_e1 a1 a2 ?_, ?_, no_1⟩
    · unfold f_X5_amountFor
      dsimp only
      rw [key_F hk, bd_s]
    · unfold f_X6_amountFor
      dsimp only
      rw [mkey_F hk, bd_s, if_pos rfl]
      exact amF_out
theorem q_gaps (hW : WV_ k f e i g n) (hV : RV_ k f e v i g n G) : QI_ (f_L_gaps a1 (h1, h2, h3) () (k, f, e, v, i, g, nI n) (fk, fd, fa, fv, nI q) (rk, rd, rv, rc) ov) (f_X6_gaps a1 (G, mkept, mspare, mhasKept, mwas, mwasMany, manew, mthrown, mtext, mlength, mspot, mvalue, merror, mtold, mtolds)) (fun c => (G, mkept, mspare, mhasKept, mwas, mwasMany, manew, c, mtext, mlength, mspot, mvalue, merror, mtold, mtolds)) := by
  by_cases hk : iK_ a1
  · refine ⟨0, _, _, lw_gaps_ok a1 (r := fo_ (gc_ k f e g n a1) n 0 0) ?_, ?_, fun _ => updL_s⟩
    · unfold f_X5_gaps
      dsimp only
      rw [key_T hk, bd_s]
      dsimp only
      rw [countGaps_I hW, bd_s]
    · unfold f_X6_gaps
      dsimp only
      rw [mkey_T hk, bd_s, if_neg (by decide), M_gapsOf hW hV, bd_s]
  · refine ⟨1, 0, _, lw_gaps_e1 a1 ?_, ?_, no_1⟩
    · unfold f_X5_gaps
      dsimp only
      rw [key_F hk, bd_s]
    · unfold f_X6_gaps
      dsimp only
      rw [mkey_F hk, bd_s, if_pos rfl, M_fails, bd_s]
theorem q_gapDay (hW : WV_ k f e i g n) (hV : RV_ k f e v i g n G) : QI_ (f_L_gapDay a1 a2 a3 (h1, h2, h3) () (k, f, e, v, i, g, nI n) (fk, fd, fa, fv, nI q) (rk, rd, rv, rc) ov) (f_X6_gapDay a1 a2 a3 (G, mkept, mspare, mhasKept, mwas, mwasMany, manew, mthrown, mtext, mlength, mspot, mvalue, merror, mtold, mtolds)) (fun c => (G, mkept, mspare, mhasKept, mwas, mwasMany, manew, c, mtext, mlength, mspot, mvalue, merror, mtold, mtolds)) := by
  have hn := hW.1
  by_cases hk : iK_ a1
  · rw [M_gapDay hW hV hk]
    rcases ga_cases (key := a1) (gap := a2) hW n 0 0 with hx | ⟨a, ha, hA, hx⟩
    · rw [hx, if_pos rfl]
      refine ⟨2, 0, _, lw_gapDay_e2 a1 a2 a3 ?_, rfl, no_2⟩
      unfold f_X5_gapDay
      dsimp only
      rw [key_T hk, bd_s]
      dsimp only
      rw [ahead_I hW, bd_s, hx, found_m1, bd_s]
    · rw [hx, if_neg (by rw [m1_ne (by omega)]; exact fun h => h)]
      refine ⟨0, _, _, lw_gapDay_ok a1 a2 a3 (r := gr_ k f e g n a3 (nI a)) ?_, rfl, fun _ => updL_s⟩
      unfold f_X5_gapDay gr_
      dsimp only
      rw [key_T hk, bd_s]
      dsimp only
      rw [ahead_I hW, bd_s, hx, found_I (by omega), bd_s]
      dsimp only
      rw [cl_I (by omega)]
      by_cases h0 : a3 = 0
      · rw [if_pos h0, if_pos h0, gd_I (by omega) (by omega)]
      · rw [if_neg h0, if_neg h0, gd_I (by omega) (by omega), nextFirst_I hn, bd_s, hA.2]
  · refine ⟨1, 0, _, lw_gapDay_e1 a1 a2 a3 ?_, ?_, no_1⟩
    · unfold f_X5_gapDay
      dsimp only
      rw [key_F hk, bd_s]
    · unfold f_X6_gapDay
      dsimp only
      rw [mkey_F hk, bd_s, if_pos rfl, M_fails, bd_s]
theorem q_isCovered (hW : WV_ k f e i g n) (hV : RV_ k f e v i g n G) : QB_ (f_L_isCovered a1 a2 a3 (h1, h2, h3) () (k, f, e, v, i, g, nI n) (fk, fd, fa, fv, nI q) (rk, rd, rv, rc) ov) (f_X6_isCovered a1 a2 a3 (G, mkept, mspare, mhasKept, mwas, mwasMany, manew, mthrown, mtext, mlength, mspot, mvalue, merror, mtold, mtolds)) (fun c => (G, mkept, mspare, mhasKept, mwas, mwasMany, manew, c, mtext, mlength, mspot, mvalue, merror, mtold, mtolds)) := by
  have hn := hW.1
  by_cases hk : iK_ a1
  · by_cases hd : iD_ a2
    · by_cases he : iD_ a3
      · refine ⟨0, _, _, lw_isCovered_ok a1 a2 a3 (r := fl_ k f e g n a1 a3 n a2) ?_, M_isCovered hW hV hk hd he, fun _ => updL_s⟩
        unfold f_X5_isCovered
        dsimp only
        rw [key_T hk, bd_s]
        dsimp only
        rw [day_T hd, bd_s]
        dsimp only
        rw [day_T he, bd_s]
        dsimp only
        rw [fill_I hn, bd_s]
        exact if_pos (fl_bit n a2)
      · refine ⟨2, 0, _, lw_isCovered_e2 a1 a2 a3 ?_, ?_, no_2⟩
        · unfold f_X5_isCovered
          dsimp only
          rw [key_T hk, bd_s]
          dsimp only
          rw [day_T hd, bd_s]
          dsimp only
          rw [day_F he, bd_s]
        · unfold f_X6_isCovered
          dsimp only
          rw [mkey_T hk, bd_s, if_neg (by decide), mday_T hd, bd_s, if_neg (by decide), mday_F he, bd_s, if_pos rfl]
    · refine ⟨2, 0, _, lw_isCovered_e2 a1 a2 a3 ?_, ?_, no_2⟩
      · unfold f_X5_isCovered
        dsimp only
        rw [key_T hk, bd_s]
        dsimp only
        rw [day_F hd, bd_s]
      · unfold f_X6_isCovered
        dsimp only
        rw [mkey_T hk, bd_s, if_neg (by decide), mday_F hd, bd_s, if_pos rfl]
  · refine ⟨1, 0, _, lw_isCovered_e1 a1 a2 a3 ?_, ?_, no_1⟩
    · unfold f_X5_isCovered
      dsimp only
      rw [key_F hk, bd_s]
    · unfold f_X6_isCovered
      dsimp only
      rw [mkey_F hk, bd_s, if_pos rfl]
theorem q_errorPosition (he : merror = -1 ∨ 0 ≤ merror) : QI_ (f_L_errorPosition (h1, merror, h3) ov) (f_X6_errorPosition (G, mkept, mspare, mhasKept, mwas, mwasMany, manew, mthrown, mtext, mlength, mspot, mvalue, merror, mtold, mtolds)) (fun c => (G, mkept, mspare, mhasKept, mwas, mwasMany, manew, c, mtext, mlength, mspot, mvalue, merror, mtold, mtolds)) := by
  rcases he with rfl | he
  · refine ⟨1, 0, _, lw_errorPosition_e1 ?_, ?_, no_1⟩
    · unfold f_X5_errorPosition
      dsimp only
      rw [found_m1, bd_s]
    · unfold f_X6_errorPosition
      dsimp only
      rw [if_neg (by decide), M_fails, bd_s]
  · refine ⟨0, merror, _, lw_errorPosition_ok (r := merror) ?_, ?_, fun _ => updL_s⟩
    · unfold f_X5_errorPosition f_X5_found
      dsimp only
      rw [if_neg (ne_m1 he), bd_s]
    · unfold f_X6_errorPosition
      dsimp only
      rw [if_pos he]
theorem q_nextRow (hR : RO_ rk rd rv 0 r G) : QI_ (f_L_nextRow a1 (h1, h2, h3) () (k, f, e, v, i, g, nI n) (fk, fd, fa, fv, nI q) (rk, rd, rv, nI r) ov) (f_X6_nextRow a1 (G, mkept, mspare, mhasKept, mwas, mwasMany, manew, mthrown, mtext, mlength, mspot, mvalue, merror, mtold, mtolds)) (fun c => (G, mkept, mspare, mhasKept, mwas, mwasMany, manew, c, mtext, mlength, mspot, mvalue, merror, mtold, mtolds)) := by
  have hr := hR.2.1
  have hG2 : G 2 = nI r := hR.2.2.1
  by_cases h : 0 ≤ a1.toInt ∧ a1.toInt ≤ 2
  · have c1 : ¬ a1 < 0 := by rw [c_lt z0_]; omega
    have c2 : a1 ≤ 2 := by rw [c_le (show (2 : Int32).toInt = 2 by decide)]; exact h.2
    have hin : f_X6_in a1 0 2 = some 1 := in_T z0_ (show (2 : Int32).toInt = 2 by decide) h
    by_cases h0 : r = 0
    · subst h0
      refine ⟨2, 0, _, lw_nextRow_e2 a1 ?_, ?_, no_2⟩
      · unfold f_X5_nextRow
        dsimp only
        rw [if_neg c1, if_pos c2, if_pos (by decide)]
      · unfold f_X6_nextRow
        dsimp only
        rw [hin, bd_s, if_neg (by decide), gd_2, cl_2, hG2, if_pos (by decide)]
    · have c3 : ¬ nI r = 0 := nI_ne0 (by omega) (by omega)
      obtain ⟨p0, hp0, hf, s1, s2, s3, -⟩ := RO_first (mkept := mkept) (mspare := mspare) (mwas := mwas) (mtext := mtext) (mtold := mtold) (mhasKept := mhasKept) (mwasMany := mwasMany) (manew := manew) (mthrown := 0) (mlength := mlength) (mspot := mspot) (mvalue := mvalue) (merror := merror) (mtolds := mtolds) hR (show 0 < r by omega)
      have hm : f_X6_nextRow a1 (G, mkept, mspare, mhasKept, mwas, mwasMany, manew, mthrown, mtext, mlength, mspot, mvalue, merror, mtold, mtolds) = some (if a1 = 0 then rk 0 else if a1 = 1 then rd 0 else rv 0, (G, mkept, mspare, mhasKept, mwas, mwasMany, manew, 0, mtext, mlength, mspot, mvalue, merror, mtold, mtolds)) := by
        unfold f_X6_nextRow
        dsimp only
        rw [hin, bd_s, if_neg (by decide), gd_2, cl_2, hG2, if_neg c3, hf, bd_s, of_550, of_570, of_590, gd_I (by omega) (by omega), gd_I (by omega) (by omega), gd_I (by omega) (by omega), cl_I (by omega), cl_I (by omega), cl_I (by omega), s1, s2, s3]
        by_cases e0 : a1 = 0
        · rw [if_pos e0, if_pos e0]
        · by_cases e1 : a1 = 1
          · rw [if_neg e0, if_pos e1, if_neg e0, if_pos e1]
          · rw [if_neg e0, if_neg e1, if_neg e0, if_neg e1]
      refine ⟨0, _, _, lw_nextRow_ok a1 (r := if a1 = 0 then rk 0 else if a1 = 1 then rd 0 else rv 0) ?_, hm, fun _ => updL_s⟩
      unfold f_X5_nextRow
      dsimp only
      have g0 : ∀ X : Option (Except String Int32), gd_ (0 : Int32) 20 X = X := fun X => gd_L (j := 0) rfl (by omega) (by omega)
      rw [if_neg c1, if_pos c2, if_neg c3, g0, g0, g0, cl_0]
      by_cases e0 : a1 = 0
      · rw [if_pos e0, if_pos e0]
      · by_cases e1 : a1 = 1
        · rw [if_neg e0, if_pos e1, if_neg e0, if_pos e1]
        · rw [if_neg e0, if_neg e1, if_neg e0, if_neg e1]
  · refine ⟨1, 0, _, lw_nextRow_e1 a1 ?_, ?_, no_1⟩
    · unfold f_X5_nextRow
      dsimp only
      by_cases c1 : a1 < 0
      · rw [if_pos c1]
      · rw [if_neg c1, if_neg (fun c2 => h (by
          rw [c_lt z0_] at c1
          rw [c_le (show (2 : Int32).toInt = 2 by decide)] at c2
          omega))]
    · unfold f_X6_nextRow
      dsimp only
      rw [in_F z0_ (show (2 : Int32).toInt = 2 by decide) h, bd_s, if_pos rfl]
end
