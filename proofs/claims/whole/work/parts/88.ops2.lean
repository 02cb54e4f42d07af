/-! a fact is added -/
def af_ (G : Nat → Int32) (q : Nat) (a b c : Int32) : Nat → Int32 := upd (upd (upd (upd G 1 (nI (q + 1))) (370 + q) a) (430 + q) b) (490 + q) c
section
variable {k f e v i g fk fd fa fv rk rd rv G mkept mspare mwas mtext mtold : Nat → Int32} {mhasKept mwasMany manew mthrown mlength mspot mvalue merror mtolds : Int32} {n q r : Nat} {h1 h2 h3 a1 a2 a3 : Int32} {ov : Nat → Int64}
theorem on_uniq {key day : Int32} {j : Nat} (hW : WV_ k f e i g n) (hj : j < n) (h : g j = 0 ∧ k j = key ∧ f j ≤ day ∧ day < e j) : fs_ (pOn_ k f e g key day) n 0 = nI j := by
  rcases on_spec (k := k) (f := f) (e := e) (g := g) (n := n) key day with ⟨-, h2⟩ | ⟨l, hl, hA, h4⟩
  · exact absurd h (h2 j hj)
  · by_cases e9 : l = j
    · rw [h4, e9]
    · have h5 := hW.2.2.2 l j hl hj e9 hA.1 h.1 (hA.2.1.trans h.2.1.symm)
      have h6 := Int32.le_iff_toInt_le.mp hA.2.2.1
      have h7 := Int32.lt_iff_toInt_lt.mp hA.2.2.2
      have h8 := Int32.le_iff_toInt_le.mp h.2.2.1
      have h9 := Int32.lt_iff_toInt_lt.mp h.2.2.2
      omega
theorem M_makes1 {a b c d : Int32} (hn : n < 60) (h0 : G 0 = nI n) : f_X6_makes a b c d 1 (G, mkept, mspare, mhasKept, mwas, mwasMany, manew, mthrown, mtext, mlength, mspot, mvalue, merror, mtold, mtolds) = some (nI n, (mk_ G n a b c d 1, mkept, mspare, mhasKept, mwas, mwasMany, manew, mthrown, mtext, mlength, mspot, mvalue, merror, mtold, mtolds)) := by
  have h10 : ¬ (1 : Int32) = 0 := by decide
  unfold f_X6_makes
  dsimp only
  rw [gd_0, gd_0, gd_0, nm_s, cl_0, h0, of_10, of_70, of_130, of_190, of_250, of_310, gd_I (by omega) (by omega), nm_s, gd_I (by omega) (by omega), nm_s, gd_I (by omega) (by omega), nm_s, gd_I (by omega) (by omega), nm_s, gd_I (by omega) (by omega), nm_s, if_neg h10, gd_I (by omega) (by omega), nm_s, S_I, cl_I (by omega), cl_I (by omega), cl_I (by omega), cl_I (by omega), cl_I (by omega), cl_I (by omega)]
  rfl
theorem J81_I {x y : Int32} : f_X6_addFact_J81 a1 a2 a3 x y (G, mkept, mspare, mhasKept, mwas, mwasMany, manew, mthrown, mtext, mlength, mspot, mvalue, merror, mtold, mtolds) = f_X6_addFact_J82 a1 a2 a3 x y 0 (G, mkept, mspare, mhasKept, mwas, mwasMany, manew, mthrown, mtext, mlength, mspot, mvalue, merror, mtold, mtolds) := rfl
theorem J116_I {x y z : Int32} : f_X6_addFact_J116 a1 a2 a3 x y z (G, mkept, mspare, mhasKept, mwas, mwasMany, manew, mthrown, mtext, mlength, mspot, mvalue, merror, mtold, mtolds) = some (0, (G, mkept, mspare, mhasKept, mwas, mwasMany, manew, 3, mtext, mlength, mspot, mvalue, merror, mtold, mtolds)) := rfl
theorem J82_I {x y z : Int32} (hV : RV_ k f e v i g n G) (h1 : G 1 = nI q) (hq : q < 60) : f_X6_addFact_J82 a1 a2 a3 x y z (G, mkept, mspare, mhasKept, mwas, mwasMany, manew, mthrown, mtext, mlength, mspot, mvalue, merror, mtold, mtolds) = (if 0 ≤ x then f_X6_addFact_J122 a1 a2 a3 x y z (G, mkept, mspare, mhasKept, mwas, mwasMany, manew, mthrown, mtext, mlength, mspot, mvalue, merror, mtold, mtolds) else if z = 0 then (if nI n = 60 then some (0, (G, mkept, mspare, mhasKept, mwas, mwasMany, manew, 3, mtext, mlength, mspot, mvalue, merror, mtold, mtolds)) else f_X6_addFact_J122 a1 a2 a3 x y z (G, mkept, mspare, mhasKept, mwas, mwasMany, manew, mthrown, mtext, mlength, mspot, mvalue, merror, mtold, mtolds)) else f_X6_addFact_J122 a1 a2 a3 x y z (G, mkept, mspare, mhasKept, mwas, mwasMany, manew, mthrown, mtext, mlength, mspot, mvalue, merror, mtold, mtolds)) := by
  have hq60 : ¬ nI q = 60 := by rw [show (60 : Int32) = nI 60 from rfl, nI_eq (by omega) (by omega)]; omega
  unfold f_X6_addFact_J82
  dsimp only
  rw [gd_1, cl_1, h1, if_neg hq60, gd_0, cl_0, hV.1]
  rfl
theorem J82_F {x y z : Int32} (h1 : G 1 = nI 60) : f_X6_addFact_J82 a1 a2 a3 x y z (G, mkept, mspare, mhasKept, mwas, mwasMany, manew, mthrown, mtext, mlength, mspot, mvalue, merror, mtold, mtolds) = some (0, (G, mkept, mspare, mhasKept, mwas, mwasMany, manew, 3, mtext, mlength, mspot, mvalue, merror, mtold, mtolds)) := by
  unfold f_X6_addFact_J82
  dsimp only
  rw [gd_1, cl_1, h1, if_pos (by decide)]
  rfl
theorem J122_I {x y z : Int32} (hW : WV_ k f e i g n) (hV : RV_ k f e v i g n G) (hq : q ≤ 60) (hF : RF_ fk fd fa q G) : f_X6_addFact_J122 a1 a2 a3 x y z (G, mkept, mspare, mhasKept, mwas, mwasMany, manew, mthrown, mtext, mlength, mspot, mvalue, merror, mtold, mtolds) = (if z = 0 then (if 0 ≤ x then f_X6_addFact_J182 a1 a2 a3 x y z (G, mkept, mspare, mhasKept, (fun t => if t < q then onF_ k f e g n fk fd t else mwas t), nI q, manew, mthrown, mtext, mlength, mspot, mvalue, merror, mtold, mtolds) else if y < 0 then f_X6_addFact_J176 a1 a2 a3 x y z a1 a2 1000 (G, mkept, mspare, mhasKept, (fun t => if t < q then onF_ k f e g n fk fd t else mwas t), nI q, manew, mthrown, mtext, mlength, mspot, mvalue, merror, mtold, mtolds) else gd_ (130 + y) 610 (f_X6_addFact_J176 a1 a2 a3 x y z a1 a2 (G (130 + y).toNatClampNeg) (G, mkept, mspare, mhasKept, (fun t => if t < q then onF_ k f e g n fk fd t else mwas t), nI q, manew, mthrown, mtext, mlength, mspot, mvalue, merror, mtold, mtolds))) else gd_ (130 + y) 610 (nm_ (upd G (130 + y).toNatClampNeg a2) (fun u => f_X6_addFact_J182 a1 a2 a3 x y z (u, mkept, mspare, mhasKept, (fun t => if t < q then onF_ k f e g n fk fd t else mwas t), nI q, manew, mthrown, mtext, mlength, mspot, mvalue, merror, mtold, mtolds)))) := by
  unfold f_X6_addFact_J122
  dsimp only
  rw [M_begins hW hV hq hF]
  rfl
theorem J176_A {x y z c : Int32} : f_X6_addFact_J176 a1 a2 a3 x y z a1 a2 c (G, mkept, mspare, mhasKept, mwas, mwasMany, manew, mthrown, mtext, mlength, mspot, mvalue, merror, mtold, mtolds) = bd_ (f_X6_makes a1 a2 c 0 1 (G, mkept, mspare, mhasKept, mwas, mwasMany, manew, mthrown, mtext, mlength, mspot, mvalue, merror, mtold, mtolds)) (fun p => match p with | (_, (q0, q1, q2, q3, q4, q5, q6, q7, q8, q9, q10, q11, q12, q13, q14)) => f_X6_addFact_J182 a1 a2 a3 x y z (q0, q1, q2, q3, q4, q5, q6, q7, q8, q9, q10, q11, q12, q13, q14)) := rfl
theorem J176_B (J : tM_ → Option (Int32 × tM_)) {x : Int32} : (fun p : Int32 × tM_ => match p with | (_, (q0, q1, q2, q3, q4, q5, q6, q7, q8, q9, q10, q11, q12, q13, q14)) => J (q0, q1, q2, q3, q4, q5, q6, q7, q8, q9, q10, q11, q12, q13, q14)) (x, (G, mkept, mspare, mhasKept, mwas, mwasMany, manew, mthrown, mtext, mlength, mspot, mvalue, merror, mtold, mtolds)) = J (G, mkept, mspare, mhasKept, mwas, mwasMany, manew, mthrown, mtext, mlength, mspot, mvalue, merror, mtold, mtolds) := rfl
theorem J176_I {x y z c : Int32} (hn : n < 60) (h0 : G 0 = nI n) : f_X6_addFact_J176 a1 a2 a3 x y z a1 a2 c (G, mkept, mspare, mhasKept, mwas, mwasMany, manew, mthrown, mtext, mlength, mspot, mvalue, merror, mtold, mtolds) = f_X6_addFact_J182 a1 a2 a3 x y z (mk_ G n a1 a2 c 0 1, mkept, mspare, mhasKept, mwas, mwasMany, manew, mthrown, mtext, mlength, mspot, mvalue, merror, mtold, mtolds) :=
  J176_A.trans ((congrArg (fun o => bd_ o _) (M_makes1 hn h0)).trans (bd_s.trans (J176_B (x := nI n) (f_X6_addFact_J182 a1 a2 a3 x y z))))
theorem J182_e {x y z : Int32} {M : tM_} : f_X6_addFact_J182 a1 a2 a3 x y z M = f_X6_addFact_J182 a1 a2 a3 0 0 0 M := rfl
theorem J24_I {x y : Int32} (hW : WV_ k f e i g n) (hV : RV_ k f e v i g n G) (hx : fs_ (pOn_ k f e g a1 a2) n 0 = x) (hy : fo_ (nx_ k f g a1 a2) n 0 (-1) = y) : f_X6_addFact_J24 a1 a2 a3 0 (G, mkept, mspare, mhasKept, mwas, mwasMany, manew, mthrown, mtext, mlength, mspot, mvalue, merror, mtold, mtolds) = (if 0 ≤ x then f_X6_addFact_J82 a1 a2 a3 x y 0 (G, mkept, mspare, mhasKept, mwas, mwasMany, manew, 0, mtext, mlength, mspot, mvalue, merror, mtold, mtolds) else if y < 0 then f_X6_addFact_J82 a1 a2 a3 x y 0 (G, mkept, mspare, mhasKept, mwas, mwasMany, manew, 0, mtext, mlength, mspot, mvalue, merror, mtold, mtolds) else gd_ (310 + y) 610 (if G (310 + y).toNatClampNeg = 1 then f_X6_addFact_J82 a1 a2 a3 x y 1 (G, mkept, mspare, mhasKept, mwas, mwasMany, manew, 0, mtext, mlength, mspot, mvalue, merror, mtold, mtolds) else f_X6_addFact_J82 a1 a2 a3 x y 0 (G, mkept, mspare, mhasKept, mwas, mwasMany, manew, 0, mtext, mlength, mspot, mvalue, merror, mtold, mtolds))) := by
  have hn := hW.1
  unfold f_X6_addFact_J24
  dsimp only
  rw [if_pos (show (0 : Int32) ≤ 0 by decide), M_valid hW hV, bd_s, M_following hn hV, bd_s, hx, hy]
  rfl
theorem cover_sim (hW : WV_ k f e i g n) (hV : RV_ k f e v i g n G) (hF : RF_ fk fd fa q G) (hq : q < 60) (hk : iK_ a1) (hd : iD_ a2) :
    (∃ (r9 : Int32) (k' f' e' v' i' g' : Nat → Int32) (n' : Nat) (G' : Nat → Int32), 0 ≤ r9 ∧ f_X4_cover a1 a2 (k, f, e, v, i, g, nI n) = some (r9, (k', f', e', v', i', g', nI n')) ∧ f_X6_addFact_J24 a1 a2 a3 0 (G, mkept, mspare, mhasKept, mwas, mwasMany, manew, mthrown, mtext, mlength, mspot, mvalue, merror, mtold, mtolds) = f_X6_addFact_J182 a1 a2 a3 0 0 0 (G', mkept, mspare, mhasKept, (fun t => if t < q then onF_ k f e g n fk fd t else mwas t), nI q, manew, 0, mtext, mlength, mspot, mvalue, merror, mtold, mtolds) ∧ WV_ k' f' e' i' g' n' ∧ RV_ k' f' e' v' i' g' n' G' ∧ OV_ G G' ∧ (∀ K D, cv_ k f e g n K D → cv_ k' f' e' g' n' K D) ∧ fs_ (pOn_ k' f' e' g' a1 a2) n' 0 = r9) ∨
    (f_X4_cover a1 a2 (k, f, e, v, i, g, nI n) = some (-1, (k, f, e, v, i, g, nI n)) ∧ f_X6_addFact_J24 a1 a2 a3 0 (G, mkept, mspare, mhasKept, mwas, mwasMany, manew, mthrown, mtext, mlength, mspot, mvalue, merror, mtold, mtolds) = some (0, (G, mkept, mspare, mhasKept, mwas, mwasMany, manew, 3, mtext, mlength, mspot, mvalue, merror, mtold, mtolds))) := by
  have hn := hW.1
  have m1n : ¬ (0 : Int32) ≤ -1 := by decide
  have m1p : (-1 : Int32) < 0 := by decide
  have one : ¬ (1 : Int32) = 0 := by decide
  have n60 : n < 60 → ¬ nI n = 60 := fun h => by rw [show (60 : Int32) = nI 60 from rfl, nI_eq (by omega) (by omega)]; omega
  have p60 : n = 60 → nI n = 60 := fun h => by rw [h]; rfl
  have hB := fun (x y z : Int32) => J122_I (a1 := a1) (a2 := a2) (a3 := a3) (x := x) (y := y) (z := z) (mkept := mkept) (mspare := mspare) (mwas := mwas) (mtext := mtext) (mtold := mtold) (mhasKept := mhasKept) (mwasMany := mwasMany) (manew := manew) (mthrown := 0) (mlength := mlength) (mspot := mspot) (mvalue := mvalue) (merror := merror) (mtolds := mtolds) hW hV (Nat.le_of_lt hq) hF
  rcases on_spec (k := k) (f := f) (e := e) (g := g) (n := n) a1 a2 with ⟨hx, hno⟩ | ⟨j, hj, hA, hx⟩
  · rcases nx_spec (k := k) (f := f) (g := g) (n := n) a1 a2 hn with ⟨hy, hall⟩ | ⟨l, hl, hy, hgl, hkl, hdl, hmin⟩
    · have e24 := J24_I (a3 := a3) (mkept := mkept) (mspare := mspare) (mwas := mwas) (mtext := mtext) (mtold := mtold) (mhasKept := mhasKept) (mwasMany := mwasMany) (manew := manew) (mthrown := mthrown) (mlength := mlength) (mspot := mspot) (mvalue := mvalue) (merror := merror) (mtolds := mtolds) hW hV hx hy
      rw [if_neg m1n, if_pos m1p, J82_I hV hF.1 hq, if_neg m1n, if_pos rfl] at e24
      by_cases h60 : n < 60
      · left
        rw [if_neg (n60 h60), hB, if_pos rfl, if_neg m1n, if_pos m1p, J176_I h60 hV.1, J182_e] at e24
        have hW' : WV_ (upd k n a1) (upd f n a2) (upd e n 1000) (upd i n 1) (upd g n 0) (n + 1) := by
          refine WV_new h60 hW hk ⟨hd.1, (show a2.toInt < (1000 : Int32).toInt ∧ (1000 : Int32).toInt ≤ 1000 from ⟨by rw [z1000_]; have := hd.2; omega, by decide⟩)⟩ (fun a ha hga hka => Or.inl ?_) 1 (Or.inr rfl)
          have b1 := hall a ha hga hka
          have b2 : ¬ a2 < e a := fun z => hno a ha ⟨hga, hka, b1, z⟩
          have b3 := Int32.not_lt.mp b2
          rwa [Int32.le_iff_toInt_le] at b3
        refine ⟨nI n, _, _, _, _, _, _, n + 1, _, nI_pos' (by omega), cover_a h60 hx hy, e24, hW', RV_new h60 hV, OV_new h60, fun K D h => cv_new h, on_uniq hW' (Nat.lt_succ_self n) ⟨up_s, up_s, ?_, ?_⟩⟩
        · rw [up_s]; exact Int32.le_refl _
        · rw [up_s, c_lt z1000_]; have := hd.2; omega
      · right
        have h6 : n = 60 := by omega
        rw [if_pos (p60 h6)] at e24
        exact ⟨cover_F h6 hx (Or.inl hy), e24⟩
    · have hdl' : a2.toInt < (f l).toInt := Int32.lt_iff_toInt_lt.mp hdl
      have hl3 := hW.2.2.1 l hl hgl
      have q6 := (hV.2 l hl).2.2.2.2.2
      have q3 := (hV.2 l hl).2.2.1
      have e24 := J24_I (a3 := a3) (mkept := mkept) (mspare := mspare) (mwas := mwas) (mtext := mtext) (mtold := mtold) (mhasKept := mhasKept) (mwasMany := mwasMany) (manew := manew) (mthrown := mthrown) (mlength := mlength) (mspot := mspot) (mvalue := mvalue) (merror := merror) (mtolds := mtolds) hW hV hx hy
      rw [if_neg m1n, if_neg (nI_pos (by omega)), of_310, gd_I (by omega) (by omega), cl_I (by omega), q6] at e24
      by_cases hi : i l = 0
      · rw [if_neg (by rw [hi]; decide), J82_I hV hF.1 hq, if_neg m1n, if_pos rfl] at e24
        by_cases h60 : n < 60
        · left
          rw [if_neg (n60 h60), hB, if_pos rfl, if_neg m1n, if_neg (nI_pos (by omega)), of_130, gd_I (by omega) (by omega), cl_I (by omega), q3, J176_I h60 hV.1, J182_e] at e24
          have hW' : WV_ (upd k n a1) (upd f n a2) (upd e n (f l)) (upd i n 1) (upd g n 0) (n + 1) := by
            refine WV_new h60 hW hk ⟨hd.1, hdl', by omega⟩ (fun a ha hga hka => ?_) 1 (Or.inr rfl)
            by_cases qd : a2 < f a
            · right
              have := hmin a ha hga hka qd
              rwa [Int32.le_iff_toInt_le] at this
            · left
              have b2 : ¬ a2 < e a := fun z => hno a ha ⟨hga, hka, Int32.not_lt.mp qd, z⟩
              have b3 := Int32.not_lt.mp b2
              rwa [Int32.le_iff_toInt_le] at b3
          refine ⟨nI n, _, _, _, _, _, _, n + 1, _, nI_pos' (by omega), cover_b h60 hl hx hy hi, e24, hW', RV_new h60 hV, OV_new h60, fun K D h => cv_new h, on_uniq hW' (Nat.lt_succ_self n) ⟨up_s, up_s, ?_, ?_⟩⟩
          · rw [up_s]; exact Int32.le_refl _
          · rw [up_s]; exact hdl
        · right
          have h6 : n = 60 := by omega
          rw [if_pos (p60 h6)] at e24
          exact ⟨cover_F h6 hx (Or.inr ⟨l, hl, hy, hi⟩), e24⟩
      · left
        have hi1 : i l = 1 := ((hW.2.1 l hl).2).resolve_left hi
        rw [if_pos hi1, J82_I hV hF.1 hq, if_neg m1n, if_neg one, hB, if_neg one, of_130, gd_I (by omega) (by omega), cl_I (by omega), nm_s, J182_e] at e24
        have hW' : WV_ k (upd f l a2) e i g n := WV_first hW hl hgl ⟨hd.1, hdl'⟩ (fun a ha h => hno a ha ⟨h.1, h.2.1.trans hkl, h.2.2⟩) (fun a ha b1 b2 b3 => hmin a ha b1 (b2.trans hkl) b3)
        refine ⟨nI l, k, _, e, v, i, g, n, _, nI_pos' (by omega), cover_4 hn hl hx hy hi, e24, hW', RV_first hn hl hV, ?_, fun K D h => cv_first (Int32.le_of_lt hdl) h, on_uniq hW' hl ⟨hgl, hkl, ?_, ?_⟩⟩
        · intro a ha
          simp (disch := omega) only [up_n]
        · rw [up_s]; exact Int32.le_refl _
        · rw [Int32.lt_iff_toInt_lt]; omega
  · left
    have e24 := J24_I (a3 := a3) (mkept := mkept) (mspare := mspare) (mwas := mwas) (mtext := mtext) (mtold := mtold) (mhasKept := mhasKept) (mwasMany := mwasMany) (manew := manew) (mthrown := mthrown) (mlength := mlength) (mspot := mspot) (mvalue := mvalue) (merror := merror) (mtolds := mtolds) hW hV hx rfl
    have hp : 0 ≤ nI j := nI_pos' (by omega)
    rw [if_pos hp, J82_I hV hF.1 hq, if_pos hp, hB, if_pos rfl, if_pos hp, J182_e] at e24
    exact ⟨nI j, k, f, e, v, i, g, n, G, hp, cover_0 hn hj hx, e24, hW, hV, fun _ _ => rfl, fun _ _ h => h, hx⟩
theorem full_J24 (hW : WV_ k f e i g n) (hV : RV_ k f e v i g n G) (h1 : G 1 = nI 60) : f_X6_addFact_J24 a1 a2 a3 0 (G, mkept, mspare, mhasKept, mwas, mwasMany, manew, mthrown, mtext, mlength, mspot, mvalue, merror, mtold, mtolds) = some (0, (G, mkept, mspare, mhasKept, mwas, mwasMany, manew, 3, mtext, mlength, mspot, mvalue, merror, mtold, mtolds)) := by
  have hn := hW.1
  rw [J24_I hW hV rfl rfl]
  by_cases c1 : 0 ≤ fs_ (pOn_ k f e g a1 a2) n 0
  · rw [if_pos c1, J82_F h1]
  · rw [if_neg c1]
    rcases nx_in (k := k) (f := f) (g := g) hn a1 a2 with hy | ⟨l, hl, hy, -⟩
    · rw [hy, if_pos (by decide), J82_F h1]
    · rw [hy, if_neg (nI_pos (by omega)), of_310, gd_I (by omega) (by omega), J82_F h1, J82_F h1]
      split <;> rfl
theorem isFull_F (hq : q < 60) : f_X0_isFull (fk, fd, fa, fv, nI q) = some 0 := by
  unfold f_X0_isFull
  dsimp only
  rw [if_pos (by rw [show (60 : Int32) = nI 60 from rfl, nI_ltI (by omega) (by omega)]; exact hq)]
theorem isFull_T (hq : q = 60) : f_X0_isFull (fk, fd, fa, fv, nI q) = some 1 := by
  subst hq
  unfold f_X0_isFull
  dsimp only
  rw [if_neg (by decide)]
theorem addF_I {a b c d : Int32} (hq : q < 60) : f_X0_add a b c d (fk, fd, fa, fv, nI q) = some (upd fk q a, upd fd q b, upd fa q c, upd fv q d, nI (q + 1)) := by
  unfold f_X0_add
  dsimp only
  rw [isFull_F hq, bd_s, if_pos rfl, gd_I (by omega) (by omega), nm_s, gd_I (by omega) (by omega), nm_s, gd_I (by omega) (by omega), nm_s, gd_I (by omega) (by omega), nm_s, cl_I (by omega), S_I]
theorem af_I {x9 y9 : Int32} (hq : q < 60) (h1 : G 1 = nI q) (hE : f_X6_ends (af_ G q a1 a2 a3, mkept, mspare, mhasKept, mwas, mwasMany, manew, mthrown, mtext, mlength, mspot, mvalue, merror, mtold, mtolds) = some (af_ G q a1 a2 a3, mkept, mspare, mhasKept, mwas, mwasMany, x9, mthrown, mtext, mlength, mspot, mvalue, merror, mtold, mtolds)) (hv : f_X6_versionOf (nI q) (af_ G q a1 a2 a3, mkept, mspare, mhasKept, mwas, mwasMany, x9, mthrown, mtext, mlength, mspot, mvalue, merror, mtold, mtolds) = some y9) : f_X6_addFact_J182 a1 a2 a3 0 0 0 (G, mkept, mspare, mhasKept, mwas, mwasMany, manew, mthrown, mtext, mlength, mspot, mvalue, merror, mtold, mtolds) = some (y9, (af_ G q a1 a2 a3, mkept, mspare, mhasKept, mwas, mwasMany, x9, mthrown, mtext, mlength, mspot, mvalue, merror, mtold, mtolds)) := by
  unfold af_ at hE hv ⊢
  unfold f_X6_addFact_J182
  dsimp only
  rw [gd_1, gd_1, gd_1, nm_s, cl_1, h1, of_370, of_430, of_490, gd_I (by omega) (by omega), nm_s, gd_I (by omega) (by omega), nm_s, gd_I (by omega) (by omega), nm_s, cl_I (by omega), cl_I (by omega), cl_I (by omega), S_I, hE, bd_s]
  dsimp only
  rw [hv, bd_s]
theorem af_o {x : Nat} (hq : q < 60) (h : x = 0 ∨ (10 ≤ x ∧ x < 370) ∨ x = 2 ∨ 550 ≤ x) : af_ G q a1 a2 a3 x = G x := by
  unfold af_
  rw [up_n (by omega), up_n (by omega), up_n (by omega), up_n (by omega)]
theorem RF_add (hq : q < 60) (hF : RF_ fk fd fa q G) : RF_ (upd fk q a1) (upd fd q a2) (upd fa q a3) (q + 1) (af_ G q a1 a2 a3) := by
  unfold af_
  refine ⟨by rw [up_n (by omega), up_n (by omega), up_n (by omega), up_s], fun t ht => ?_⟩
  rcases lt_or_n ht with h | h
  · obtain ⟨p1, p2, p3⟩ := hF.2 t h
    simp (disch := omega) only [up_n]
    exact ⟨p1, p2, p3⟩
  · subst h
    simp (disch := omega) only [up_n, up_s]
    exact ⟨trivial, trivial, trivial⟩
theorem ST_add {k' f' e' v' i' g' G' : Nat → Int32} {n' : Nat} {r9 : Int32} (hS : ST_ k f e v i g n fk fd fa fv q rk rd rv r G) (hq : q < 60) (hk : iK_ a1) (hd : iD_ a2) (hr : 0 ≤ r9) (hW : WV_ k' f' e' i' g' n') (hV : RV_ k' f' e' v' i' g' n' G') (hG : OV_ G G') (hc : ∀ K D, cv_ k f e g n K D → cv_ k' f' e' g' n' K D) (hu : fs_ (pOn_ k' f' e' g' a1 a2) n' 0 = r9) :
    ST_ k' f' e' v' i' g' n' (upd fk q a1) (upd fd q a2) (upd fa q a3) (upd (fun t => if t < q then onF_ k' f' e' g' n' fk fd t else fv t) q r9) (q + 1) rk rd rv r (af_ G' q a1 a2 a3) := by
  obtain ⟨-, -, hF, hI, hR, hK⟩ := hS
  have hn := hW.1
  refine ⟨hW, RV_congr hn (fun a ha => af_o hq (by omega)) hV, RF_add hq (RF_congr (Nat.le_of_lt hq) (fun a ha => hG a (by omega)) hF), ⟨by omega, fun t ht => ?_⟩, RO_congr (fun a ha => (af_o hq (by omega)).trans (hG a (by omega))) hR, hK⟩
  rcases lt_or_n ht with h | h
  · obtain ⟨p1, p2, p3, p4⟩ := hI.2 t h
    have hne : t ≠ q := by omega
    unfold onF_
    rw [up_n hne, up_n hne, up_n hne, if_pos h]
    exact ⟨p1, p2, hc _ _ p3, rfl⟩
  · subst h
    unfold onF_
    rw [up_s, up_s, up_s]
    refine ⟨hk, hd, (on_cv hn).mp ?_, hu.symm⟩
    rw [hu]
    exact ne_m1 hr
theorem o_addFact (hS : ST_ k f e v i g n fk fd fa fv q rk rd rv r G) : OP_ (f_L_addFact a1 a2 a3 (h1, h2, h3) () (k, f, e, v, i, g, nI n) (fk, fd, fa, fv, nI q) (rk, rd, rv, nI r) ov) (f_X6_addFact a1 a2 a3 (G, mkept, mspare, mhasKept, mwas, mwasMany, h3, mthrown, mtext, mlength, mspot, mvalue, merror, mtold, mtolds)) h1 h2 rk rd rv r mkept mspare mhasKept mtext mlength mspot mvalue merror mtold mtolds := by
  obtain ⟨hW, hV, hF, hI, hR, hK⟩ := id hS
  have hn := hW.1
  have hq := hI.1
  by_cases hk : iK_ a1
  · by_cases hd : iD_ a2
    · by_cases hq60 : q < 60
      · rcases cover_sim (a3 := a3) (mkept := mkept) (mspare := mspare) (mwas := mwas) (mtext := mtext) (mtold := mtold) (mhasKept := mhasKept) (mwasMany := mwasMany) (manew := h3) (mthrown := mthrown) (mlength := mlength) (mspot := mspot) (mvalue := mvalue) (merror := merror) (mtolds := mtolds) hW hV hF hq60 hk hd with ⟨r9, k', f', e', v', i', g', n', G', c0, c1, c2, c3, c4, c5, c6, c7⟩ | ⟨c1, c2⟩
        · have hS' := ST_add (a3 := a3) hS hq60 hk hd c0 c3 c4 c5 c6 c7
          have h1q : G' 1 = nI q := by rw [c5 1 (by omega)]; exact hF.1
          have hF' := RF_congr hq (fun a ha => c5 a (by omega)) hF
          have hF2 := RF_add (a1 := a1) (a2 := a2) (a3 := a3) hq60 hF'
          have hV2 := hS'.2.1
          have hE := M_ends (fk := fk) (fd := fd) (mkept := mkept) (mspare := mspare) (mwas := (fun t => if t < q then onF_ k f e g n fk fd t else mwas t)) (mtext := mtext) (mtold := mtold) (mhasKept := mhasKept) (manew := h3) (mthrown := 0) (mlength := mlength) (mspot := mspot) (mvalue := mvalue) (merror := merror) (mtolds := mtolds) c3 hV2 hq (fun t ht => by
            obtain ⟨p1, p2, -⟩ := hF2.2 t (by omega)
            rw [p1, p2, up_n (by omega), up_n (by omega)]
            exact ⟨rfl, rfl⟩)
          have hv := M_versionOf (t := q) (fk := upd fk q a1) (fd := upd fd q a2) (mkept := mkept) (mspare := mspare) (mwas := (fun t => if t < q then onF_ k f e g n fk fd t else mwas t)) (mtext := mtext) (mtold := mtold) (mhasKept := mhasKept) (mwasMany := nI q) (manew := fo_ (mv_ (onF_ k' f' e' g' n' fk fd) (fun t => if t < q then onF_ k f e g n fk fd t else mwas t)) q 0 0) (mthrown := 0) (mlength := mlength) (mspot := mspot) (mvalue := mvalue) (merror := merror) (mtolds := mtolds) c3 hV2 (show q + 1 ≤ 60 by omega) (fun t ht => ⟨(hF2.2 t ht).1, (hF2.2 t ht).2.1⟩) (Nat.lt_succ_self q)
          have hon : onF_ k' f' e' g' n' (upd fk q a1) (upd fd q a2) q = r9 := by
            unfold onF_
            rw [up_s, up_s]
            exact c7
          rw [hon] at hv
          have hJ := af_I hq60 h1q hE hv
          rw [an_eq hI] at hJ
          refine ⟨0, r9, k', f', e', v', i', g', n', _, _, _, _, q + 1, fo_ (mv_ (onF_ k' f' e' g' n' fk fd) fv) q 0 0, af_ G' q a1 a2 a3, (fun t => if t < q then onF_ k f e g n fk fd t else mwas t), nI q, _, lw_addFact_ok a1 a2 a3 (r := r9) ?_, ?_, fun _ => updL_s, hS'⟩
          · unfold f_X5_addFact
            dsimp only
            rw [key_T hk, bd_s]
            dsimp only
            rw [day_T hd, bd_s]
            dsimp only
            rw [isFull_F hq60, bd_s, if_pos rfl, c1, bd_s]
            dsimp only
            rw [if_neg (ne_m1 c0), pointFacts_I c3.1 hq, bd_s]
            dsimp only
            rw [addF_I hq60, bd_s]
          · unfold f_X6_addFact
            dsimp only
            rw [mkey_T hk, bd_s, if_neg (by decide), mday_T hd, bd_s, if_neg (by decide), c2, hJ]
        · refine ⟨3, 0, k, f, e, v, i, g, n, fk, fd, fa, fv, q, h3, G, mwas, mwasMany, ov, lw_addFact_e3 a1 a2 a3 ?_, ?_, no_3, hS⟩
          · unfold f_X5_addFact
            dsimp only
            rw [key_T hk, bd_s]
            dsimp only
            rw [day_T hd, bd_s]
            dsimp only
            rw [isFull_F hq60, bd_s, if_pos rfl, c1, bd_s]
            dsimp only
            rw [if_pos rfl]
          · unfold f_X6_addFact
            dsimp only
            rw [mkey_T hk, bd_s, if_neg (by decide), mday_T hd, bd_s, if_neg (by decide), c2]
      · have hq6 : q = 60 := by omega
        refine ⟨3, 0, k, f, e, v, i, g, n, fk, fd, fa, fv, q, h3, G, mwas, mwasMany, ov, lw_addFact_e3 a1 a2 a3 ?_, ?_, no_3, hS⟩
        · unfold f_X5_addFact
          dsimp only
          rw [key_T hk, bd_s]
          dsimp only
          rw [day_T hd, bd_s]
          dsimp only
          rw [isFull_T hq6, bd_s, if_neg (by decide)]
        · unfold f_X6_addFact
          dsimp only
          rw [mkey_T hk, bd_s, if_neg (by decide), mday_T hd, bd_s, if_neg (by decide), full_J24 hW hV (by rw [hF.1, hq6])]
    · refine ⟨2, 0, k, f, e, v, i, g, n, fk, fd, fa, fv, q, h3, G, mwas, mwasMany, ov, lw_addFact_e2 a1 a2 a3 ?_, ?_, no_2, hS⟩
      · unfold f_X5_addFact
        dsimp only
        rw [key_T hk, bd_s]
        dsimp only
        rw [day_F hd, bd_s]
      · unfold f_X6_addFact
        dsimp only
        rw [mkey_T hk, bd_s, if_neg (by decide), mday_F hd, bd_s, if_pos rfl]
        unfold f_X6_addFact_J24
        dsimp only
        rw [if_neg (by decide)]
  · refine ⟨1, 0, k, f, e, v, i, g, n, fk, fd, fa, fv, q, h3, G, mwas, mwasMany, ov, lw_addFact_e1 a1 a2 a3 ?_, ?_, no_1, hS⟩
    · unfold f_X5_addFact
      dsimp only
      rw [key_F hk, bd_s]
    · unfold f_X6_addFact
      dsimp only
      rw [mkey_F hk, bd_s, if_pos rfl]
      unfold f_X6_addFact_J24
      dsimp only
      rw [if_neg (by decide)]
end
