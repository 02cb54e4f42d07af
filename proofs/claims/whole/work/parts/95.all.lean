theorem law_all {Ln : Nat} (hL : Ln ≤ 2048) (xs : Nat → Int32) : ∀ (m j : Nat), 4 * j ≤ Ln → Ln < 4 * (j + m) → KI_ (f_law_L xs Ln m) (nI (4 * j)) := by
  intro m
  induction m with
  | zero => intro j a1 a2; omega
  | succ m ih =>
    intro j hj hm
    intro k f e v i g fk fd fa fv rk rd rv wk wf we wv wi wg gk gd ga gv sk sd sv bk bf be bv bi bg qk qd qv ch G mkept mspare mwas mtext mtold n q r wn gq sm TL h1 h2 h3 bc rc tp mwasMany mthrown mspot mvalue mtolds ov pv hin
    show f_law_S (f_law_L xs Ln m) xs Ln (nI (4 * j)) (h1, h2, h3) () (k, f, e, v, i, g, nI n) (fk, fd, fa, fv, nI q) (rk, rd, rv, nI r) () (wk, wf, we, wv, wi, wg, nI wn) (gk, gd, ga, gv, nI gq) (sk, sd, sv, nI sm) (bk, bf, be, bv, bi, bg, bc) (qk, qd, qv, rc) (ch, nI TL, tp) (G, mkept, mspare, h1, mwas, mwasMany, h3, mthrown, mtext, nI TL, mspot, mvalue, h2, mtold, mtolds) ov pv = some ()
    unfold f_law_S
    by_cases c1 : Int32.ofNat Ln - 4 < nI (4 * j)
    · rw [if_pos c1]
    · have hj4 : 4 * j + 4 ≤ Ln := lj_ hL hj c1
      have kk : KI_ (f_law_L xs Ln m) (nI (4 * j) + 4) := by
        rw [show nI (4 * j) + 4 = nI (4 * (j + 1)) from nI_add (4 * j) 4]
        exact ih (j + 1) (by omega) (by omega)
      have hg1 : ∀ X : Option Unit, gd_ (nI (4 * j) + 1) Ln X = X := fun X => gd_L (nI_add (4 * j) 1) (by omega) (by omega)
      have hg2 : ∀ X : Option Unit, gd_ (nI (4 * j) + 2) Ln X = X := fun X => gd_L (nI_add (4 * j) 2) (by omega) (by omega)
      have hg3 : ∀ X : Option Unit, gd_ (nI (4 * j) + 3) Ln X = X := fun X => gd_L (nI_add (4 * j) 3) (by omega) (by omega)
      rw [if_neg c1, gd_I (by omega) (by omega)]
      by_cases d0 : xs (nI (4 * j)).toNatClampNeg &&& 63 = 0
      · rw [if_pos d0]; exact cs_0 kk hg1 hg2 hg3 hin
      rw [if_neg d0]
      by_cases d1 : xs (nI (4 * j)).toNatClampNeg &&& 63 = 1
      · rw [if_pos d1]; exact cs_1 kk hg1 hg2 hg3 hin
      rw [if_neg d1]
      by_cases d2 : xs (nI (4 * j)).toNatClampNeg &&& 63 = 2
      · rw [if_pos d2]; exact cs_2 kk hg1 hg2 hin
      rw [if_neg d2]
      by_cases d3 : xs (nI (4 * j)).toNatClampNeg &&& 63 = 3
      · rw [if_pos d3]; exact cs_3 kk hg1 hg2 hin
      rw [if_neg d3]
      by_cases d4 : xs (nI (4 * j)).toNatClampNeg &&& 63 = 4
      · rw [if_pos d4]; exact cs_4 kk hg1 hin
      rw [if_neg d4]
      by_cases d5 : xs (nI (4 * j)).toNatClampNeg &&& 63 = 5
      · rw [if_pos d5]; exact cs_5 kk hg1 hin
      rw [if_neg d5]
      by_cases d6 : xs (nI (4 * j)).toNatClampNeg &&& 63 = 6
      · rw [if_pos d6]; exact cs_6 kk hin
      rw [if_neg d6]
      by_cases d7 : xs (nI (4 * j)).toNatClampNeg &&& 63 = 7
      · rw [if_pos d7]; exact cs_7 kk hin
      rw [if_neg d7]
      by_cases d8 : xs (nI (4 * j)).toNatClampNeg &&& 63 = 8
      · rw [if_pos d8]; exact cs_8 kk hg1 hin
      rw [if_neg d8]
      by_cases d9 : xs (nI (4 * j)).toNatClampNeg &&& 63 = 9
      · rw [if_pos d9]; exact cs_9 kk hg1 hg2 hin
      rw [if_neg d9]
      by_cases d10 : xs (nI (4 * j)).toNatClampNeg &&& 63 = 10
      · rw [if_pos d10]; exact cs_10 kk hg1 hg2 hin
      rw [if_neg d10]
      by_cases d11 : xs (nI (4 * j)).toNatClampNeg &&& 63 = 11
      · rw [if_pos d11]; exact cs_11 kk hg1 hg2 hin
      rw [if_neg d11]
      by_cases d12 : xs (nI (4 * j)).toNatClampNeg &&& 63 = 12
      · rw [if_pos d12]; exact cs_12 kk hg1 hg2 hin
      rw [if_neg d12]
      by_cases d13 : xs (nI (4 * j)).toNatClampNeg &&& 63 = 13
      · rw [if_pos d13]; exact cs_13 kk hg1 hin
      rw [if_neg d13]
      by_cases d14 : xs (nI (4 * j)).toNatClampNeg &&& 63 = 14
      · rw [if_pos d14]; exact cs_14 kk hin
      rw [if_neg d14]
      by_cases d15 : xs (nI (4 * j)).toNatClampNeg &&& 63 = 15
      · rw [if_pos d15]; exact cs_15 kk hin
      rw [if_neg d15]
      by_cases d16 : xs (nI (4 * j)).toNatClampNeg &&& 63 = 16
      · rw [if_pos d16]; exact cs_16 kk hin
      rw [if_neg d16]
      by_cases d17 : xs (nI (4 * j)).toNatClampNeg &&& 63 = 17
      · rw [if_pos d17]; exact cs_17 kk hin
      rw [if_neg d17]
      by_cases d18 : xs (nI (4 * j)).toNatClampNeg &&& 63 = 18
      · rw [if_pos d18]; exact cs_18 kk hg1 hg2 hin
      rw [if_neg d18]
      by_cases d19 : xs (nI (4 * j)).toNatClampNeg &&& 63 = 19
      · rw [if_pos d19]; exact cs_19 kk hg1 hin
      rw [if_neg d19]
      by_cases d20 : xs (nI (4 * j)).toNatClampNeg &&& 63 = 20
      · rw [if_pos d20]; exact cs_20 kk hg1 hg2 hin
      rw [if_neg d20]
      by_cases d21 : xs (nI (4 * j)).toNatClampNeg &&& 63 = 21
      · rw [if_pos d21]; exact cs_21 kk hin
      rw [if_neg d21]
      by_cases d22 : xs (nI (4 * j)).toNatClampNeg &&& 63 = 22
      · rw [if_pos d22]; exact cs_22 kk hg1 hin
      rw [if_neg d22]
      by_cases d23 : xs (nI (4 * j)).toNatClampNeg &&& 63 = 23
      · rw [if_pos d23]; exact cs_23 kk hg1 hg2 hg3 hin
      rw [if_neg d23]
      by_cases d24 : xs (nI (4 * j)).toNatClampNeg &&& 63 = 24
      · rw [if_pos d24]; exact cs_24 kk hin
      rw [if_neg d24]
      by_cases d25 : xs (nI (4 * j)).toNatClampNeg &&& 63 = 25
      · rw [if_pos d25]; exact cs_25 kk hg1 hin
      rw [if_neg d25]
      by_cases d26 : xs (nI (4 * j)).toNatClampNeg &&& 63 = 26
      · rw [if_pos d26]; exact cs_26 kk hg1 hg2 hg3 hin
      rw [if_neg d26]
      by_cases d27 : xs (nI (4 * j)).toNatClampNeg &&& 63 = 27
      · rw [if_pos d27]; exact cs_27 kk hg1 hg2 hg3 hin
      rw [if_neg d27]
      by_cases d28 : xs (nI (4 * j)).toNatClampNeg &&& 63 = 28
      · rw [if_pos d28]; exact cs_28 kk hin
      rw [if_neg d28]
      by_cases d29 : xs (nI (4 * j)).toNatClampNeg &&& 63 = 29
      · rw [if_pos d29]; exact cs_29 kk hg1 hin
      rw [if_neg d29]
      by_cases d30 : xs (nI (4 * j)).toNatClampNeg &&& 63 = 30
      · rw [if_pos d30]; exact cs_30 kk hg1 hin
      rw [if_neg d30]
      by_cases d31 : xs (nI (4 * j)).toNatClampNeg &&& 63 = 31
      · rw [if_pos d31]; exact cs_31 kk hg1 hin
      rw [if_neg d31]
      by_cases d32 : xs (nI (4 * j)).toNatClampNeg &&& 63 = 32
      · rw [if_pos d32]; exact cs_32 kk hin
      rw [if_neg d32]
      by_cases d33 : xs (nI (4 * j)).toNatClampNeg &&& 63 = 33
      · rw [if_pos d33]; exact cs_33 kk hin
      rw [if_neg d33]
      by_cases d34 : xs (nI (4 * j)).toNatClampNeg &&& 63 = 34
      · rw [if_pos d34]; exact cs_34 kk hin
      rw [if_neg d34]
      by_cases d35 : xs (nI (4 * j)).toNatClampNeg &&& 63 = 35
      · rw [if_pos d35]; exact cs_35 kk hin
      rw [if_neg d35]
      exact KI_go kk hin
theorem pure_law {L : Nat} (hL : L ≤ 2048) (xs : Nat → Int32) : f_law_L xs L fu_ 0 (0, (-1), 0) () ((fun _ => 0), (fun _ => 0), (fun _ => 0), (fun _ => 0), (fun _ => 0), (fun _ => 0), 0) ((fun _ => 0), (fun _ => 0), (fun _ => 0), (fun _ => 0), 0) ((fun _ => 0), (fun _ => 0), (fun _ => 0), 0) () ((fun _ => 0), (fun _ => 0), (fun _ => 0), (fun _ => 0), (fun _ => 0), (fun _ => 0), 0) ((fun _ => 0), (fun _ => 0), (fun _ => 0), (fun _ => 0), 0) ((fun _ => 0), (fun _ => 0), (fun _ => 0), 0) ((fun _ => 0), (fun _ => 0), (fun _ => 0), (fun _ => 0), (fun _ => 0), (fun _ => 0), 0) ((fun _ => 0), (fun _ => 0), (fun _ => 0), 0) ((fun _ => 0), 0, 0) ((fun _ => 0), (fun _ => 0), (fun _ => 0), 0, (fun _ => 0), 0, 0, 0, (fun _ => 0), 0, 0, 0, (-1), (fun _ => 0), 0) (fun _ => 0) (fun _ => 0) = some () := by
  have h := KI_go (law_all hL xs fu_ 0 (Nat.zero_le _) (by unfold fu_; omega)) (k := fun _ => 0) (f := fun _ => 0) (e := fun _ => 0) (v := fun _ => 0) (i := fun _ => 0) (g := fun _ => 0) (fk := fun _ => 0) (fd := fun _ => 0) (fa := fun _ => 0) (fv := fun _ => 0) (rk := fun _ => 0) (rd := fun _ => 0) (rv := fun _ => 0) (wk := fun _ => 0) (wf := fun _ => 0) (we := fun _ => 0) (wv := fun _ => 0) (wi := fun _ => 0) (wg := fun _ => 0) (gk := fun _ => 0) (gd := fun _ => 0) (ga := fun _ => 0) (gv := fun _ => 0) (sk := fun _ => 0) (sd := fun _ => 0) (sv := fun _ => 0) (bk := fun _ => 0) (bf := fun _ => 0) (be := fun _ => 0) (bv := fun _ => 0) (bi := fun _ => 0) (bg := fun _ => 0) (qk := fun _ => 0) (qd := fun _ => 0) (qv := fun _ => 0) (ch := fun _ => 0) (G := fun _ => 0) (mkept := fun _ => 0) (mspare := fun _ => 0) (mwas := fun _ => 0) (mtext := fun _ => 0) (mtold := fun _ => 0) (n := 0) (q := 0) (r := 0) (wn := 0) (gq := 0) (sm := 0) (TL := 0) (h1 := 0) (h2 := -1) (h3 := 0) (bc := 0) (rc := 0) (tp := 0) (mwasMany := 0) (mthrown := 0) (mspot := 0) (mvalue := 0) (mtolds := 0) (ov := fun _ => 0) (pv := fun _ => 0) ⟨ST_0 rfl rfl rfl, fun h => absurd rfl h, Or.inl rfl, Nat.zero_le _, fun t ht => absurd ht (Nat.not_lt_zero t)⟩
  exact h
