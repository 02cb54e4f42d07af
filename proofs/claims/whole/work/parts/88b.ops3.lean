/-! values that are corrected, what is counted, rows, the input, what is saved -/
section
variable {k f e v i g fk fd fa fv rk rd rv bk bf be bv bi bg qk qd qv ch G mkept mspare mwas mtext mtold : Nat → Int32} {mhasKept mwasMany manew mthrown mlength mspot mvalue merror mtolds : Int32} {n q r L : Nat} {h1 h2 h3 a1 a2 a3 bc rc tp : Int32} {ov : Nat → Int64}
theorem o_correct (hS : ST_ k f e v i g n fk fd fa fv q rk rd rv r G) : ∃ (c b : Int32) (v' i' G' : Nat → Int32) (ov' : Nat → Int64), f_L_correct a1 a2 (h1, h2, h3) () (k, f, e, v, i, g, nI n) (fk, fd, fa, fv, nI q) (rk, rd, rv, nI r) ov = some (c, (k, f, e, v', i', g, nI n), ov') ∧ f_X6_correct a1 a2 (G, mkept, mspare, mhasKept, mwas, mwasMany, manew, mthrown, mtext, mlength, mspot, mvalue, merror, mtold, mtolds) = some (b, (G', mkept, mspare, mhasKept, mwas, mwasMany, manew, c, mtext, mlength, mspot, mvalue, merror, mtold, mtolds)) ∧ (c = 0 → ov' 0 = b.toInt64) ∧ ST_ k f e v' i' g n fk fd fa fv q rk rd rv r G' := by
  obtain ⟨hW, hV, hF, hI, hR, hK⟩ := id hS
  have hn := hW.1
  have hq := hI.1
  rcases ver_cases (fk := fk) (fd := fd) (fa := fa) (fv := fv) (q := q) (rk := rk) (rd := rd) (rv := rv) (rc := nI r) (h1 := h1) (h2 := h2) (h3 := h3) (mkept := mkept) (mspare := mspare) (mwas := mwas) (mtext := mtext) (mtold := mtold) (mhasKept := mhasKept) (mwasMany := mwasMany) (manew := manew) (mthrown := 0) (mlength := mlength) (mspot := mspot) (mvalue := mvalue) (merror := merror) (mtolds := mtolds) hn hV a1 with ⟨j, hj, rfl, hg, hc, hm⟩ | ⟨hc, hm⟩
  · have q5 := (hV.2 j hj).2.2.2.2.1
    have c5 : OV_ G (upd (upd G (250 + j) a2) (310 + j) 0) := OV_settle (by omega)
    refine ⟨0, v j, upd v j a2, upd i j 0, upd (upd G (250 + j) a2) (310 + j) 0, _, lw_correct_ok (nI j) a2 (r := v j) ?_, ?_, fun _ => updL_s, ⟨WV_settle hW, RV_settle hn hj hV, RF_congr hq (fun a ha => c5 a (by omega)) hF, hI, RO_congr (fun a ha => c5 a (by omega)) hR, hK⟩⟩
    · unfold f_X5_correct
      dsimp only
      rw [hc, bd_s]
      dsimp only
      rw [gd_I (by omega) (by omega), settle_I hn hj hg, bd_s, cl_I (by omega)]
    · unfold f_X6_correct
      dsimp only
      rw [hm, bd_s, if_neg (by decide), M_becomes (by omega), of_250, gd_I (by omega) (by omega), bd_s, cl_I (by omega), q5]
  · refine ⟨1, 0, v, i, G, ov, lw_correct_e1 a1 a2 ?_, ?_, no_1, hS⟩
    · unfold f_X5_correct
      dsimp only
      rw [hc, bd_s]
    · unfold f_X6_correct
      dsimp only
      rw [hm, bd_s, if_pos rfl, M_fails, bd_s]
theorem d_versionCount (hS : ST_ k f e v i g n fk fd fa fv q rk rd rv r G) : ∃ x, f_X5_versionCount (h1, h2, h3) () (k, f, e, v, i, g, nI n) (fk, fd, fa, fv, nI q) (rk, rd, rv, nI r) = some x ∧ f_X6_versionCount (G, mkept, mspare, mhasKept, mwas, mwasMany, manew, mthrown, mtext, mlength, mspot, mvalue, merror, mtold, mtolds) = some (x, (G, mkept, mspare, mhasKept, mwas, mwasMany, manew, 0, mtext, mlength, mspot, mvalue, merror, mtold, mtolds)) := by
  obtain ⟨hW, hV, hF, hI, hR, hK⟩ := id hS
  have hn := hW.1
  refine ⟨fo_ (ca_ g) n 0 0, ?_, ?_⟩
  · unfold f_X5_versionCount
    dsimp only
    rw [count_I hn, bd_s]
  · unfold f_X6_versionCount
    dsimp only
    rw [M_there hn hV, bd_s]
theorem d_inferredCount (hS : ST_ k f e v i g n fk fd fa fv q rk rd rv r G) : ∃ x, f_X5_inferredCount (h1, h2, h3) () (k, f, e, v, i, g, nI n) (fk, fd, fa, fv, nI q) (rk, rd, rv, nI r) = some x ∧ f_X6_inferredCount (G, mkept, mspare, mhasKept, mwas, mwasMany, manew, mthrown, mtext, mlength, mspot, mvalue, merror, mtold, mtolds) = some (x, (G, mkept, mspare, mhasKept, mwas, mwasMany, manew, 0, mtext, mlength, mspot, mvalue, merror, mtold, mtolds)) := by
  obtain ⟨hW, hV, hF, hI, hR, hK⟩ := id hS
  have hn := hW.1
  refine ⟨fo_ (ci_ i g) n 0 0, ?_, M_inferredCount hW hV⟩
  unfold f_X5_inferredCount
  dsimp only
  rw [countInf_I hn, bd_s]
theorem d_removedCount (hS : ST_ k f e v i g n fk fd fa fv q rk rd rv r G) : ∃ x, f_X5_removedCount (h1, h2, h3) () (k, f, e, v, i, g, nI n) (fk, fd, fa, fv, nI q) (rk, rd, rv, nI r) = some x ∧ f_X6_removedCount (G, mkept, mspare, mhasKept, mwas, mwasMany, manew, mthrown, mtext, mlength, mspot, mvalue, merror, mtold, mtolds) = some (x, (G, mkept, mspare, mhasKept, mwas, mwasMany, manew, 0, mtext, mlength, mspot, mvalue, merror, mtold, mtolds)) := by
  obtain ⟨hW, hV, hF, hI, hR, hK⟩ := id hS
  have hn := hW.1
  refine ⟨nI n - fo_ (ca_ g) n 0 0, ?_, ?_⟩
  · unfold f_X5_removedCount
    dsimp only
    rw [count_I hn, bd_s]
  · unfold f_X6_removedCount
    dsimp only
    rw [gd_0, M_there hn hV, bd_s, cl_0, hV.1]
theorem d_factCount (hS : ST_ k f e v i g n fk fd fa fv q rk rd rv r G) : ∃ x, f_X5_factCount (h1, h2, h3) () (k, f, e, v, i, g, nI n) (fk, fd, fa, fv, nI q) (rk, rd, rv, nI r) = some x ∧ f_X6_factCount (G, mkept, mspare, mhasKept, mwas, mwasMany, manew, mthrown, mtext, mlength, mspot, mvalue, merror, mtold, mtolds) = some (x, (G, mkept, mspare, mhasKept, mwas, mwasMany, manew, 0, mtext, mlength, mspot, mvalue, merror, mtold, mtolds)) := by
  obtain ⟨hW, hV, hF, hI, hR, hK⟩ := id hS
  refine ⟨nI q, rfl, ?_⟩
  unfold f_X6_factCount
  dsimp only
  rw [gd_1, cl_1, hF.1]
theorem d_gapDays (hS : ST_ k f e v i g n fk fd fa fv q rk rd rv r G) : ∃ x, f_X5_gapDays (h1, h2, h3) () (k, f, e, v, i, g, nI n) (fk, fd, fa, fv, nI q) (rk, rd, rv, nI r) = some x ∧ f_X6_gapDays (G, mkept, mspare, mhasKept, mwas, mwasMany, manew, mthrown, mtext, mlength, mspot, mvalue, merror, mtold, mtolds) = some (x, (G, mkept, mspare, mhasKept, mwas, mwasMany, manew, 0, mtext, mlength, mspot, mvalue, merror, mtold, mtolds)) := by
  obtain ⟨hW, hV, hF, hI, hR, hK⟩ := id hS
  refine ⟨fo_ (gs_ k f e g n) n 0 0, ?_, M_gapDays hW hV⟩
  unfold f_X5_gapDays
  dsimp only
  rw [sumGaps_I hW, bd_s]
theorem d_staged (hS : ST_ k f e v i g n fk fd fa fv q rk rd rv r G) : ∃ x, f_X5_staged (h1, h2, h3) () (k, f, e, v, i, g, nI n) (fk, fd, fa, fv, nI q) (rk, rd, rv, nI r) = some x ∧ f_X6_staged (G, mkept, mspare, mhasKept, mwas, mwasMany, manew, mthrown, mtext, mlength, mspot, mvalue, merror, mtold, mtolds) = some (x, (G, mkept, mspare, mhasKept, mwas, mwasMany, manew, 0, mtext, mlength, mspot, mvalue, merror, mtold, mtolds)) := by
  obtain ⟨hW, hV, hF, hI, hR, hK⟩ := id hS
  have hG2 : G 2 = nI r := hR.2.2.1
  refine ⟨nI r, rfl, ?_⟩
  unfold f_X6_staged
  dsimp only
  rw [gd_2, cl_2, hG2]
theorem ST_0 {G : Nat → Int32} (h0 : G 0 = 0) (h1 : G 1 = 0) (h2 : G 2 = 0) : ST_ k f e v i g 0 fk fd fa fv 0 rk rd rv 0 G := by
  refine ⟨⟨by omega, fun j hj => by omega, fun j hj => by omega, fun j l hj => by omega⟩, ⟨h0, fun j hj => by omega⟩, ⟨h1, fun j hj => by omega⟩, ⟨by omega, fun j hj => by omega⟩, ⟨Nat.le_refl _, by omega, h2, fun _ => 0, fun j _ hj => by omega, fun j l _ _ hl => by omega, fun t ht => by omega⟩, fun j hj => by omega⟩
theorem d_clear (hS : ST_ k f e v i g n fk fd fa fv q rk rd rv r G) : ∃ (x : Int32) (G' : Nat → Int32), f_X5_clear (h1, h2, h3) () (k, f, e, v, i, g, nI n) (fk, fd, fa, fv, nI q) (rk, rd, rv, nI r) = some (x, (h1, h2, 0), (k, f, e, v, i, g, nI 0), (fk, fd, fa, fv, nI 0), (rk, rd, rv, nI 0)) ∧ f_X6_clear (G, mkept, mspare, mhasKept, mwas, mwasMany, manew, mthrown, mtext, mlength, mspot, mvalue, merror, mtold, mtolds) = some (x, (G', mkept, mspare, mhasKept, mwas, mwasMany, 0, 0, mtext, mlength, mspot, mvalue, merror, mtold, mtolds)) ∧ ST_ k f e v i g 0 fk fd fa fv 0 rk rd rv 0 G' := by
  obtain ⟨hW, hV, hF, hI, hR, hK⟩ := id hS
  have hn := hW.1
  refine ⟨fo_ (ca_ g) n 0 0, upd (upd (upd G 0 0) 1 0) 2 0, ?_, ?_, ST_0 ?_ ?_ ?_⟩
  · unfold f_X5_clear
    dsimp only
    rw [count_I hn, bd_s]
    rfl
  · unfold f_X6_clear
    dsimp only
    rw [M_there hn hV, bd_s, gd_0, nm_s, gd_1, nm_s, gd_2, nm_s, cl_0, cl_1, cl_2]
  · rw [up_n (by omega), up_n (by omega), up_s]
  · rw [up_n (by omega), up_s]
  · rw [up_s]
theorem o_stage (hS : ST_ k f e v i g n fk fd fa fv q rk rd rv r G) : ∃ (c b : Int32) (rk' rd' rv' : Nat → Int32) (r' : Nat) (G' : Nat → Int32) (ov' : Nat → Int64), f_L_stage a1 a2 a3 (h1, h2, h3) () (k, f, e, v, i, g, nI n) (fk, fd, fa, fv, nI q) (rk, rd, rv, nI r) ov = some (c, (rk', rd', rv', nI r'), ov') ∧ f_X6_stage a1 a2 a3 (G, mkept, mspare, mhasKept, mwas, mwasMany, manew, mthrown, mtext, mlength, mspot, mvalue, merror, mtold, mtolds) = some (b, (G', mkept, mspare, mhasKept, mwas, mwasMany, manew, c, mtext, mlength, mspot, mvalue, merror, mtold, mtolds)) ∧ (c = 0 → ov' 0 = b.toInt64) ∧ ST_ k f e v i g n fk fd fa fv q rk' rd' rv' r' G' := by
  obtain ⟨hW, hV, hF, hI, hR, hK⟩ := id hS
  have hn := hW.1
  have hq := hI.1
  have hr := hR.2.1
  have hG2 : G 2 = nI r := hR.2.2.1
  by_cases hk : iK_ a1
  · by_cases hd : iD_ a2
    · by_cases hr2 : r < 20
      · obtain ⟨pl, p1, p2, p3, p4⟩ := insert_I (rk := rk) (rd := rd) (rv := rv) (key := a1) (day := a2) (val := a3) hr2
        have hne : ¬ nI r = 20 := by rw [show (20 : Int32) = nI 20 from rfl, nI_eq (by omega) (by omega)]; omega
        have hso : ∀ x, x ≠ 2 → x < 550 → stg_ G r a1 a2 a3 x = G x := fun x b1 b2 => by
          unfold stg_
          rw [up_n (by omega), up_n (by omega), up_n (by omega), up_n (by omega)]
        have hs2 : stg_ G r a1 a2 a3 2 = nI (r + 1) := by
          unfold stg_
          rw [up_n (by omega), up_n (by omega), up_n (by omega), up_s]
        refine ⟨0, nI (r + 1), _, _, _, r + 1, stg_ G r a1 a2 a3, _, lw_stage_ok a1 a2 a3 (r := nI (r + 1)) ?_, ?_, fun _ => updL_s, ⟨hW, RV_congr hn (fun a ha => hso a (by omega) (by omega)) hV, RF_congr hq (fun a ha => hso a (by omega) (by omega)) hF, hI, RO_stage hR hr2 p1 p3 p4, fun j hj => ?_⟩⟩
        · unfold f_X5_stage
          dsimp only
          rw [key_T hk, bd_s]
          dsimp only
          rw [day_T hd, bd_s]
          dsimp only
          rw [p2, bd_s]
          dsimp only
          rw [if_neg (by decide)]
        · have hs3 : upd (upd (upd (upd G 2 (nI (r + 1))) (550 + r) a1) (570 + r) a2) (590 + r) a3 2 = nI (r + 1) := hs2
          unfold f_X6_stage
          dsimp only
          rw [mkey_T hk, bd_s, if_neg (by decide), mday_T hd, bd_s, if_neg (by decide), gd_2, cl_2, hG2, if_neg hne, gd_2, gd_2, gd_2, nm_s, of_550, of_570, of_590, gd_I (by omega) (by omega), nm_s, gd_I (by omega) (by omega), nm_s, gd_I (by omega) (by omega), nm_s, gd_2, S_I, cl_I (by omega), cl_I (by omega), cl_I (by omega), hs3]
          rfl
        · by_cases hjp : j = pl
          · subst hjp
            rw [up_s, up_s]
            exact ⟨hk, hd⟩
          · rw [up_n hjp, up_n hjp]
            unfold sh_
            by_cases hs : pl < j ∧ j ≤ r
            · rw [if_pos hs, if_pos hs]
              exact hK _ (by omega)
            · rw [if_neg hs, if_neg hs]
              exact hK _ (by omega)
      · have hr3 : r = 20 := by omega
        refine ⟨3, 0, rk, rd, rv, r, G, ov, lw_stage_e3 a1 a2 a3 ?_, ?_, no_3, hS⟩
        · unfold f_X5_stage
          dsimp only
          rw [key_T hk, bd_s]
          dsimp only
          rw [day_T hd, bd_s]
          dsimp only
          rw [insert_F hr3, bd_s]
          dsimp only
          rw [if_pos rfl]
        · unfold f_X6_stage
          dsimp only
          rw [mkey_T hk, bd_s, if_neg (by decide), mday_T hd, bd_s, if_neg (by decide), gd_2, cl_2, hG2, if_pos (by rw [hr3]; rfl)]
    · refine ⟨2, 0, rk, rd, rv, r, G, ov, lw_stage_e2 a1 a2 a3 ?_, ?_, no_2, hS⟩
      · unfold f_X5_stage
        dsimp only
        rw [key_T hk, bd_s]
        dsimp only
        rw [day_F hd, bd_s]
      · unfold f_X6_stage
        dsimp only
        rw [mkey_T hk, bd_s, if_neg (by decide), mday_F hd, bd_s, if_pos rfl]
  · refine ⟨1, 0, rk, rd, rv, r, G, ov, lw_stage_e1 a1 a2 a3 ?_, ?_, no_1, hS⟩
    · unfold f_X5_stage
      dsimp only
      rw [key_F hk, bd_s]
    · unfold f_X6_stage
      dsimp only
      rw [mkey_F hk, bd_s, if_pos rfl]
theorem bits_cpy {k f e : Nat → Int32} (hW : WV_ k f e i g n) : ∀ j, j < n → (cpy_ g bg 0 n j = 0 ∨ cpy_ g bg 0 n j = 1) ∧ (cpy_ i bi 0 n j = 0 ∨ cpy_ i bi 0 n j = 1) := fun j hj => by
  rw [cpy_at hj, cpy_at hj]
  exact hW.2.1 j hj
theorem mc_I {x : Int32} (hW : WV_ k f e i g n) : f_X5_makeChanges x (h1, h2, h3) () (k, f, e, v, i, g, nI n) (fk, fd, fa, fv, nI q) (rk, rd, rv, nI r) (bk, bf, be, bv, bi, bg, bc) = f_X5_makeChanges_L16 fu_ 0 x (h1, h2, h3) () (k, f, e, v, i, g, nI n) (fk, fd, fa, fv, nI q) (rk, rd, rv, nI r) (cpy_ k bk 0 n, cpy_ f bf 0 n, cpy_ e be 0 n, cpy_ v bv 0 n, cpy_ i bi 0 n, cpy_ g bg 0 n, nI n) := by
  unfold f_X5_makeChanges
  dsimp only
  rw [copyV_I hW.1 hW.2.1, bd_s]
theorem mcT_I {x : Int32} (hW : WV_ k f e i g n) : f_X5_makeChangesT x (h1, h2, h3) () (k, f, e, v, i, g, nI n) (fk, fd, fa, fv, nI q) (rk, rd, rv, nI r) (bk, bf, be, bv, bi, bg, bc) (qk, qd, qv, rc) = f_X5_makeChangesT_L16 fu_ 0 x (h1, h2, h3) () (k, f, e, v, i, g, nI n) (fk, fd, fa, fv, nI q) (rk, rd, rv, nI r) (cpy_ k bk 0 n, cpy_ f bf 0 n, cpy_ e be 0 n, cpy_ v bv 0 n, cpy_ i bi 0 n, cpy_ g bg 0 n, nI n) (qk, qd, qv, rc) := by
  unfold f_X5_makeChangesT
  dsimp only
  rw [copyV_I hW.1 hW.2.1, bd_s]
theorem ST_back {k' f' e' v' i' g' G' : Nat → Int32} (hS : ST_ k f e v i g n fk fd fa fv q rk rd rv r G) : ST_ (cpy_ (cpy_ k bk 0 n) k' 0 n) (cpy_ (cpy_ f bf 0 n) f' 0 n) (cpy_ (cpy_ e be 0 n) e' 0 n) (cpy_ (cpy_ v bv 0 n) v' 0 n) (cpy_ (cpy_ i bi 0 n) i' 0 n) (cpy_ (cpy_ g bg 0 n) g' 0 n) n fk fd fa fv q rk rd rv r (cpy_ (cpy_ G mspare 0 610) G' 0 610) :=
  ST_agree (fun j hj => by simp only [cpy_at hj]; exact ⟨trivial, trivial, trivial, trivial, trivial, trivial⟩) (fun t _ => ⟨rfl, rfl, rfl, rfl⟩) (fun t _ => ⟨rfl, rfl, rfl⟩) (fun a ha => by rw [cpy_at ha, cpy_at ha]) hS
/-- what load and read leave behind -/
def LD_ (X : Option (Int32 × tD_ × tV_ × tF_ × tR_ × tV_ × (Nat → Int64))) (Y : Option (Int32 × tM_)) (h1 h2 : Int32) (mkept : Nat → Int32) (mhasKept : Int32) (mtext : Nat → Int32) (mlength mspot mvalue merror : Int32) (mtold : Nat → Int32) (mtolds : Int32) : Prop :=
  ∃ (c b : Int32) (k f e v i g : Nat → Int32) (n : Nat) (fk fd fa fv : Nat → Int32) (q : Nat) (rk rd rv : Nat → Int32) (r : Nat) (bk bf be bv bi bg : Nat → Int32) (bc : Int32) (h3 : Int32) (G mspare mwas : Nat → Int32) (mwasMany : Int32) (ov : Nat → Int64), X = some (c, (h1, h2, h3), (k, f, e, v, i, g, nI n), (fk, fd, fa, fv, nI q), (rk, rd, rv, nI r), (bk, bf, be, bv, bi, bg, bc), ov) ∧ Y = some (b, (G, mkept, mspare, mhasKept, mwas, mwasMany, h3, c, mtext, mlength, mspot, mvalue, merror, mtold, mtolds)) ∧ (c = 0 → ov 0 = b.toInt64) ∧ ST_ k f e v i g n fk fd fa fv q rk rd rv r G
theorem o_loadRows (hS : ST_ k f e v i g n fk fd fa fv q rk rd rv r G) : LD_ (f_L_loadRows a1 (h1, h2, h3) () (k, f, e, v, i, g, nI n) (fk, fd, fa, fv, nI q) (rk, rd, rv, nI r) (bk, bf, be, bv, bi, bg, bc) ov) (f_X6_loadRows a1 (G, mkept, mspare, mhasKept, mwas, mwasMany, h3, mthrown, mtext, mlength, mspot, mvalue, merror, mtold, mtolds)) h1 h2 mkept mhasKept mtext mlength mspot mvalue merror mtold mtolds := by
  obtain ⟨hW, hV, hF, hI, hR, hK⟩ := id hS
  have hn := hW.1
  have hq := hI.1
  have hr := hR.2.1
  have z1 : (1 : Int32).toInt = 1 := by decide
  have z20 : (20 : Int32).toInt = 20 := by decide
  by_cases h : 1 ≤ a1.toInt ∧ a1.toInt ≤ 20
  · obtain ⟨lim, hlim, rfl⟩ := I_of (x := a1) (by omega)
    have hin : f_X6_in (nI lim) 1 20 = some 1 := in_T z1 z20 h
    have c1 : ¬ nI lim < 1 := by rw [c_lt z1]; omega
    have c2 : nI lim ≤ 20 := by rw [c_le z20]; exact h.2
    rw [nI_toInt hlim] at h
    obtain ⟨cnt, hc1, hc2, hc3, hc4⟩ : ∃ cnt : Nat, cnt ≤ lim ∧ cnt ≤ r ∧ (cnt = lim ∨ cnt = r) ∧ (if nI r < nI lim then nI r else nI lim) = nI cnt := by
      by_cases hl : r < lim
      · exact ⟨r, by omega, by omega, Or.inr rfl, if_pos (by rw [nI_ltI (by omega) (by omega)]; exact hl)⟩
      · exact ⟨lim, by omega, by omega, Or.inl rfl, if_neg (by rw [nI_ltI (by omega) (by omega)]; exact hl)⟩
    have hB := M_begins (mkept := mkept) (mspare := mspare) (mwas := mwas) (mtext := mtext) (mtold := mtold) (mhasKept := mhasKept) (mwasMany := mwasMany) (manew := h3) (mthrown := 0) (mlength := mlength) (mspot := mspot) (mvalue := mvalue) (merror := merror) (mtolds := mtolds) hW hV hq hF
    have hsim := load_sim (h1 := h1) (h2 := h2) (h3 := h3) (fa := fa) (fv := fv) (rv := rv) (bk := cpy_ k bk 0 n) (bf := cpy_ f bf 0 n) (be := cpy_ e be 0 n) (bv := cpy_ v bv 0 n) (bi := cpy_ i bi 0 n) (bg := cpy_ g bg 0 n) (nb := n) (mkept := mkept) (mspare := cpy_ G mspare 0 610) (mwas := (fun t => if t < q then onF_ k f e g n fk fd t else mwas t)) (mtext := mtext) (mtold := mtold) (mhasKept := mhasKept) (manew := h3) (mthrown := 0) (mlength := mlength) (mspot := mspot) (mvalue := mvalue) (merror := merror) (mtolds := mtolds) hc1 (show lim ≤ 20 by omega) hc2 hc3 hq hn (bits_cpy hW) hK cnt 0 k f e v i g n G fu_ fu_ (by omega) (by unfold fu_; omega) (by unfold fu_; omega) hW hV hF hR
    have hM : f_X6_loadRows (nI lim) (G, mkept, mspare, mhasKept, mwas, mwasMany, h3, mthrown, mtext, mlength, mspot, mvalue, merror, mtold, mtolds) = f_X6_loadRows_L31 fu_ (nI 0) (nI lim) (G, mkept, cpy_ G mspare 0 610, mhasKept, (fun t => if t < q then onF_ k f e g n fk fd t else mwas t), nI q, h3, 0, mtext, mlength, mspot, mvalue, merror, mtold, mtolds) := by
      unfold f_X6_loadRows
      dsimp only
      rw [hin, bd_s, if_neg (by decide), hB, bd_s]
      dsimp only
      rw [M_remembers, bd_s]
      rfl
    rcases hsim with ⟨k', f', e', v', i', g', n', G', d1, d2, d3, d4, d5, d6, d7⟩ | ⟨k', f', e', v', i', g', G', d1, d2⟩
    · rw [an_eq hI] at d2
      refine ⟨0, nI cnt, k', f', e', v', i', g', n', fk, fd, fa, _, q, drp_ rk cnt r, drp_ rd cnt r, drp_ rv cnt r, r - cnt, cpy_ k bk 0 n, cpy_ f bf 0 n, cpy_ e be 0 n, cpy_ v bv 0 n, cpy_ i bi 0 n, cpy_ g bg 0 n, nI n, fo_ (mv_ (onF_ k' f' e' g' n' fk fd) fv) q 0 0, G', cpy_ G mspare 0 610, (fun t => if t < q then onF_ k f e g n fk fd t else mwas t), nI q, _, lw_loadRows_ok (nI lim) (r := nI cnt) ?_, hM.trans d2, fun _ => updL_s, ⟨d3, d4, d5, FI_new hI (fun t ht => d7 _ _ (hI.2 t ht).2.2.1), RO_drop d6, fun j hj => ?_⟩⟩
      · unfold f_X5_loadRows
        dsimp only
        rw [if_neg c1, if_pos c2, hc4, mc_I hW, show f_X5_makeChanges_L16 fu_ 0 = f_X5_makeChanges_L16 fu_ (nI 0) from rfl, d1, bd_s]
        dsimp only
        rw [if_neg (by decide), drop_I hr hc2, bd_s]
      · unfold drp_
        rw [if_pos (by omega), if_pos (by omega)]
        exact hK _ (by omega)
    · refine ⟨2, 0, cpy_ (cpy_ k bk 0 n) k' 0 n, cpy_ (cpy_ f bf 0 n) f' 0 n, cpy_ (cpy_ e be 0 n) e' 0 n, cpy_ (cpy_ v bv 0 n) v' 0 n, cpy_ (cpy_ i bi 0 n) i' 0 n, cpy_ (cpy_ g bg 0 n) g' 0 n, n, fk, fd, fa, fv, q, rk, rd, rv, r, cpy_ k bk 0 n, cpy_ f bf 0 n, cpy_ e be 0 n, cpy_ v bv 0 n, cpy_ i bi 0 n, cpy_ g bg 0 n, nI n, h3, cpy_ (cpy_ G mspare 0 610) G' 0 610, cpy_ G mspare 0 610, (fun t => if t < q then onF_ k f e g n fk fd t else mwas t), nI q, ov, lw_loadRows_e2 (nI lim) ?_, hM.trans d2, no_2, ST_back hS⟩
      unfold f_X5_loadRows
      dsimp only
      rw [if_neg c1, if_pos c2, hc4, mc_I hW, show f_X5_makeChanges_L16 fu_ 0 = f_X5_makeChanges_L16 fu_ (nI 0) from rfl, d1, bd_s]
      dsimp only
      rw [if_pos (by decide)]
  · refine ⟨1, 0, k, f, e, v, i, g, n, fk, fd, fa, fv, q, rk, rd, rv, r, bk, bf, be, bv, bi, bg, bc, h3, G, mspare, mwas, mwasMany, ov, lw_loadRows_e1 a1 ?_, ?_, no_1, hS⟩
    · unfold f_X5_loadRows
      dsimp only
      by_cases c1 : a1 < 1
      · rw [if_pos c1]
      · rw [if_neg c1, if_neg (fun c2 => h (by
          rw [c_lt z1] at c1
          rw [c_le z20] at c2
          omega))]
    · unfold f_X6_loadRows
      dsimp only
      rw [in_F z1 z20 h, bd_s, if_pos rfl, M_fails, bd_s]
theorem o_append (hL : L ≤ 30) (hT : ∀ t, t < L → ch t = mtext t) : ∃ (c b : Int32) (ch' mtext' : Nat → Int32) (L' : Nat) (ov' : Nat → Int64), f_L_append a1 (h1, h2, h3) (ch, nI L, tp) ov = some (c, (ch', nI L', tp), ov') ∧ f_X6_append a1 (G, mkept, mspare, mhasKept, mwas, mwasMany, manew, mthrown, mtext, nI L, mspot, mvalue, merror, mtold, mtolds) = some (b, (G, mkept, mspare, mhasKept, mwas, mwasMany, manew, c, mtext', nI L', mspot, mvalue, merror, mtold, mtolds)) ∧ (c = 0 → ov' 0 = b.toInt64) ∧ L' ≤ 30 ∧ ∀ t, t < L' → ch' t = mtext' t := by
  have z32 : (32 : Int32).toInt = 32 := by decide
  have z126 : (126 : Int32).toInt = 126 := by decide
  by_cases h : 32 ≤ a1.toInt ∧ a1.toInt ≤ 126
  · obtain ⟨z, hz, rfl⟩ := I_of (x := a1) (by omega)
    have hin : f_X6_in (nI z) 32 126 = some 1 := in_T z32 z126 h
    have c1 : ¬ nI z < 32 := by rw [c_lt z32]; omega
    have c2 : nI z ≤ 126 := by rw [c_le z126]; exact h.2
    rw [nI_toInt hz] at h
    have hnar : vp_nar .char (nI z) = nI z := by
      unfold vp_nar
      rw [(pk_charN (show z < 65536 by omega)).1]
    by_cases hl : L < 30
    · refine ⟨0, nI (L + 1), upd ch L (nI z), upd mtext L (nI z), L + 1, _, lw_append_ok (nI z) (r := nI (L + 1)) ?_, ?_, fun _ => updL_s, by omega, fun t ht => ?_⟩
      · unfold f_X5_append f_X3_add
        dsimp only
        rw [if_neg c1, if_pos c2, if_pos (by rw [show (30 : Int32) = nI 30 from rfl, nI_ltI (by omega) (by omega)]; exact hl), gd_I (by omega) (by omega), nm_s, bd_s]
        dsimp only
        rw [if_neg (by decide), hnar, cl_I (by omega), S_I]
      · unfold f_X6_append
        dsimp only
        rw [hin, bd_s, if_neg (by decide), if_neg (by rw [show (30 : Int32) = nI 30 from rfl, nI_eq (by omega) (by omega)]; omega), gd_I (by omega) (by omega), nm_s, cl_I (by omega), S_I]
      · rcases lt_or_n ht with h9 | h9
        · rw [up_n (by omega), up_n (by omega)]
          exact hT t h9
        · subst h9
          rw [up_s, up_s]
    · have hl3 : L = 30 := by omega
      refine ⟨2, 0, ch, mtext, L, ov, lw_append_e2 (nI z) ?_, ?_, no_2, hL, hT⟩
      · unfold f_X5_append f_X3_add
        dsimp only
        rw [if_neg c1, if_pos c2, if_neg (by rw [hl3]; decide), bd_s]
        dsimp only
        rw [if_pos rfl]
      · unfold f_X6_append
        dsimp only
        rw [hin, bd_s, if_neg (by decide), if_pos (by rw [hl3]; rfl)]
  · refine ⟨1, 0, ch, mtext, L, ov, lw_append_e1 a1 ?_, ?_, no_1, hL, hT⟩
    · unfold f_X5_append
      dsimp only
      by_cases c1 : a1 < 32
      · rw [if_pos c1]
      · rw [if_neg c1, if_neg (fun c2 => h (by
          rw [c_lt z32] at c1
          rw [c_le z126] at c2
          omega))]
    · unfold f_X6_append
      dsimp only
      rw [in_F z32 z126 h, bd_s, if_pos rfl]
theorem o_read (hL : L ≤ 30) (hT : ∀ t, t < L → ch t = mtext t) (he : h2 = -1 ∨ 0 ≤ h2) (hS : ST_ k f e v i g n fk fd fa fv q rk rd rv r G) :
    ∃ (c b h2' h3' : Int32) (k' f' e' v' i' g' : Nat → Int32) (n' : Nat) (fv' : Nat → Int32) (bk' bf' be' bv' bi' bg' : Nat → Int32) (bc' : Int32) (qk' qd' qv' : Nat → Int32) (rc' tp' : Int32) (G' mspare' mwas' mtold' : Nat → Int32) (mwasMany' mspot' mvalue' mtolds' : Int32) (ov' : Nat → Int64),
      f_L_read (h1, h2, h3) () (k, f, e, v, i, g, nI n) (fk, fd, fa, fv, nI q) (rk, rd, rv, nI r) (bk, bf, be, bv, bi, bg, bc) (qk, qd, qv, rc) (ch, nI L, tp) ov = some (c, (h1, h2', h3'), (k', f', e', v', i', g', nI n'), (fk, fd, fa, fv', nI q), (bk', bf', be', bv', bi', bg', bc'), (qk', qd', qv', rc'), (ch, nI 0, tp'), ov') ∧
      f_X6_read (G, mkept, mspare, mhasKept, mwas, mwasMany, h3, mthrown, mtext, nI L, mspot, mvalue, h2, mtold, mtolds) = some (b, (G', mkept, mspare', mhasKept, mwas', mwasMany', h3', c, mtext, nI 0, mspot', mvalue', h2', mtold', mtolds')) ∧ (c = 0 → ov' 0 = b.toInt64) ∧ (h2' = -1 ∨ 0 ≤ h2') ∧ ST_ k' f' e' v' i' g' n' fk fd fa fv' q rk rd rv r G' := by
  obtain ⟨hW, hV, hF, hI, hR, hK⟩ := id hS
  have hn := hW.1
  have hq := hI.1
  rcases takeRows_sim (ch := ch) (G := G) (mkept := mkept) (mspare := mspare) (mwas := mwas) (mtext := mtext) (mtold := mtold) (mhasKept := mhasKept) (mwasMany := mwasMany) (manew := h3) (mthrown := 0) (mspot := mspot) (mvalue := mvalue) (merror := h2) (mtolds := mtolds) (rc := rc) hL hT qk qd qv tp with ⟨u, qk', qd', qv', told', x, hu, s1, s2, s3⟩ | ⟨p', u, qk', qd', qv', told', x, hp, s1, s2⟩
  · have hB := M_begins (mkept := mkept) (mspare := mspare) (mwas := mwas) (mtext := mtext) (mtold := told') (mhasKept := mhasKept) (mwasMany := mwasMany) (manew := h3) (mthrown := 0) (mlength := 0) (mspot := nI L) (mvalue := x) (merror := h2) (mtolds := nI u) hW hV hq hF
    have hsim := read_sim (x := -1) (h1 := h1) (h2 := h2) (h3 := h3) (fa := fa) (fv := fv) (rk := rk) (rd := rd) (rv := rv) (r := r) (qk := qk') (qd := qd') (qv := qv') (bk := cpy_ k bk 0 n) (bf := cpy_ f bf 0 n) (be := cpy_ e be 0 n) (bv := cpy_ v bv 0 n) (bi := cpy_ i bi 0 n) (bg := cpy_ g bg 0 n) (nb := n) (mkept := mkept) (mspare := cpy_ G mspare 0 610) (mwas := (fun t => if t < q then onF_ k f e g n fk fd t else mwas t)) (mtext := mtext) (mtold := told') (mhasKept := mhasKept) (manew := h3) (mthrown := 0) (mlength := 0) (mspot := nI L) (mvalue := x) (merror := h2) hu hq hn (bits_cpy hW) (fun j hj => (s3 j hj).2) (fun j hj => (s3 j hj).1) u 0 k f e v i g n G fu_ fu_ (by omega) (by unfold fu_; omega) (by unfold fu_; omega) hW hV hF hR
    have hM : f_X6_read (G, mkept, mspare, mhasKept, mwas, mwasMany, h3, mthrown, mtext, nI L, mspot, mvalue, h2, mtold, mtolds) = f_X6_read_L40 fu_ (nI 0) (-1) (G, mkept, cpy_ G mspare 0 610, mhasKept, (fun t => if t < q then onF_ k f e g n fk fd t else mwas t), nI q, h3, 0, mtext, 0, nI L, x, h2, told', nI u) := by
      unfold f_X6_read
      dsimp only
      rw [s2, bd_s]
      dsimp only
      rw [if_pos (by decide), hB, bd_s]
      dsimp only
      rw [M_remembers, bd_s]
      rfl
    rcases hsim with ⟨k', f', e', v', i', g', n', G', d1, d2, d3, d4, d5, d6, d7⟩ | ⟨k', f', e', v', i', g', G', d1, d2⟩
    · rw [an_eq hI] at d2
      refine ⟨0, nI u, h2, fo_ (mv_ (onF_ k' f' e' g' n' fk fd) fv) q 0 0, k', f', e', v', i', g', n', _, cpy_ k bk 0 n, cpy_ f bf 0 n, cpy_ e be 0 n, cpy_ v bv 0 n, cpy_ i bi 0 n, cpy_ g bg 0 n, nI n, qk', qd', qv', nI u, nI L, G', cpy_ G mspare 0 610, (fun t => if t < q then onF_ k f e g n fk fd t else mwas t), told', nI q, nI L, x, nI u, _, lw_read_ok (r := nI u) ?_, hM.trans d2, fun _ => updL_s, he, ⟨d3, d4, d5, FI_new hI (fun t ht => d7 _ _ (hI.2 t ht).2.2.1), d6, hK⟩⟩
      unfold f_X5_read
      dsimp only
      rw [s1, bd_s]
      dsimp only
      rw [if_neg (by decide), mcT_I hW, show f_X5_makeChangesT_L16 fu_ 0 = f_X5_makeChangesT_L16 fu_ (nI 0) from rfl, d1, bd_s]
      dsimp only
      rw [if_neg (by decide)]
      rfl
    · refine ⟨2, 0, h2, h3, cpy_ (cpy_ k bk 0 n) k' 0 n, cpy_ (cpy_ f bf 0 n) f' 0 n, cpy_ (cpy_ e be 0 n) e' 0 n, cpy_ (cpy_ v bv 0 n) v' 0 n, cpy_ (cpy_ i bi 0 n) i' 0 n, cpy_ (cpy_ g bg 0 n) g' 0 n, n, fv, cpy_ k bk 0 n, cpy_ f bf 0 n, cpy_ e be 0 n, cpy_ v bv 0 n, cpy_ i bi 0 n, cpy_ g bg 0 n, nI n, qk', qd', qv', nI u, nI L, cpy_ (cpy_ G mspare 0 610) G' 0 610, cpy_ G mspare 0 610, (fun t => if t < q then onF_ k f e g n fk fd t else mwas t), told', nI q, nI L, x, nI u, ov, lw_read_e2 ?_, hM.trans d2, no_2, he, ST_back hS⟩
      unfold f_X5_read
      dsimp only
      rw [s1, bd_s]
      dsimp only
      rw [if_neg (by decide), mcT_I hW, show f_X5_makeChangesT_L16 fu_ 0 = f_X5_makeChangesT_L16 fu_ (nI 0) from rfl, d1, bd_s]
      dsimp only
      rw [if_pos rfl]
      rfl
  · refine ⟨1, 0, nI p', h3, k, f, e, v, i, g, n, fv, bk, bf, be, bv, bi, bg, bc, qk', qd', qv', nI u, nI p', G, mspare, mwas, told', mwasMany, nI p', x, nI u, ov, lw_read_e1 ?_, ?_, no_1, Or.inr (nI_pos' (by omega)), hS⟩
    · unfold f_X5_read
      dsimp only
      rw [s1, bd_s]
      dsimp only
      rw [if_pos rfl]
      rfl
    · unfold f_X6_read
      dsimp only
      rw [s2, bd_s]
      dsimp only
      rw [if_neg (nI_pos (by omega)), M_fails, bd_s]
      rfl
end
section
variable {k f e v i g fk fd fa fv rk rd rv wk wf we wv wi wg gk gd ga gv hk hd hv G mkept mspare mwas mtext mtold : Nat → Int32} {mhasKept mwasMany manew mthrown mlength mspot mvalue merror mtolds : Int32} {n q r wn gq hm : Nat} {h1 h2 h3 wc gc hc : Int32} {ov : Nat → Int64}
theorem o_save (hS : ST_ k f e v i g n fk fd fa fv q rk rd rv r G) : ∃ (x : Int32) (wk' wf' we' wv' wi' wg' : Nat → Int32) (wn' : Nat) (gk' gd' ga' gv' : Nat → Int32) (gq' : Nat) (hk' hd' hv' : Nat → Int32) (hr' : Nat) (mkept' : Nat → Int32),
    f_X5_save (h1, h2, h3) () (k, f, e, v, i, g, nI n) (fk, fd, fa, fv, nI q) (rk, rd, rv, nI r) () (wk, wf, we, wv, wi, wg, wc) (gk, gd, ga, gv, gc) (hk, hd, hv, hc) = some (x, (1, h2, h3), (wk', wf', we', wv', wi', wg', nI wn'), (gk', gd', ga', gv', nI gq'), (hk', hd', hv', nI hr')) ∧ f_X6_save (G, mkept, mspare, mhasKept, mwas, mwasMany, manew, mthrown, mtext, mlength, mspot, mvalue, merror, mtold, mtolds) = some (x, (G, mkept', mspare, 1, mwas, mwasMany, manew, 0, mtext, mlength, mspot, mvalue, merror, mtold, mtolds)) ∧ ST_ wk' wf' we' wv' wi' wg' wn' gk' gd' ga' gv' gq' hk' hd' hv' hr' mkept' := by
  obtain ⟨hW, hV, hF, hI, hR, hK⟩ := id hS
  have hn := hW.1
  have hq := hI.1
  have hr := hR.2.1
  refine ⟨fo_ (ca_ g) n 0 0, cpy_ k wk 0 n, cpy_ f wf 0 n, cpy_ e we 0 n, cpy_ v wv 0 n, cpy_ i wi 0 n, cpy_ g wg 0 n, n, cpy_ fk gk 0 q, cpy_ fd gd 0 q, cpy_ fa ga 0 q, cpy_ fv gv 0 q, q, cpy_ rk hk 0 r, cpy_ rd hd 0 r, cpy_ rv hv 0 r, r, cpy_ G mkept 0 610, ?_, ?_, ?_⟩
  · unfold f_X5_save f_X2_copy
    dsimp only
    rw [copyV_I hn hW.2.1, bd_s]
    dsimp only
    rw [copyF_I hq, bd_s]
    dsimp only
    rw [copyR_I hr, bd_s, bd_s]
    dsimp only
    rw [count_I hn, bd_s]
  · unfold f_X6_save
    dsimp only
    refine (save_L 610 fu_ 0 mkept (by omega) (by unfold fu_; omega)).trans ?_
    rw [M_there hn hV, bd_s]
  · exact ST_agree (fun j hj => by simp only [cpy_at hj]; exact ⟨trivial, trivial, trivial, trivial, trivial, trivial⟩) (fun t ht => by simp only [cpy_at ht]; exact ⟨trivial, trivial, trivial, trivial⟩) (fun t ht => by simp only [cpy_at ht]; exact ⟨trivial, trivial, trivial⟩) (fun a ha => cpy_at ha) hS
theorem o_restore (hb : mhasKept = h1) (hS0 : ST_ k f e v i g n fk fd fa fv q rk rd rv r G) (hS : ¬ h1 = 0 → ST_ wk wf we wv wi wg wn gk gd ga gv gq hk hd hv hm mkept) : ∃ (c b h3' : Int32) (k' f' e' v' i' g' : Nat → Int32) (n' : Nat) (fk' fd' fa' fv' : Nat → Int32) (q' : Nat) (rk' rd' rv' : Nat → Int32) (r' : Nat) (G' : Nat → Int32) (ov' : Nat → Int64),
    f_L_restore (h1, h2, h3) () (k, f, e, v, i, g, nI n) (fk, fd, fa, fv, nI q) (rk, rd, rv, nI r) () (wk, wf, we, wv, wi, wg, nI wn) (gk, gd, ga, gv, nI gq) (hk, hd, hv, nI hm) ov = some (c, (h1, h2, h3'), (k', f', e', v', i', g', nI n'), (fk', fd', fa', fv', nI q'), (rk', rd', rv', nI r'), ov') ∧ f_X6_restore (G, mkept, mspare, mhasKept, mwas, mwasMany, h3, mthrown, mtext, mlength, mspot, mvalue, merror, mtold, mtolds) = some (b, (G', mkept, mspare, mhasKept, mwas, mwasMany, h3', c, mtext, mlength, mspot, mvalue, merror, mtold, mtolds)) ∧ (c = 0 → ov' 0 = b.toInt64) ∧ ST_ k' f' e' v' i' g' n' fk' fd' fa' fv' q' rk' rd' rv' r' G' := by
  subst hb
  by_cases h0 : mhasKept = 0
  · refine ⟨1, 0, h3, k, f, e, v, i, g, n, fk, fd, fa, fv, q, rk, rd, rv, r, G, ov, lw_restore_e1 ?_, ?_, no_1, hS0⟩
    · unfold f_X5_restore
      dsimp only
      rw [if_pos h0]
    · unfold f_X6_restore
      dsimp only
      rw [if_pos h0, M_fails, bd_s]
  · have hS := hS h0
    obtain ⟨hW, hV, hF, hI, hR, hK⟩ := id hS
    have hn := hW.1
    have hq := hI.1
    have hr := hR.2.1
    have hS' : ST_ (cpy_ wk k 0 wn) (cpy_ wf f 0 wn) (cpy_ we e 0 wn) (cpy_ wv v 0 wn) (cpy_ wi i 0 wn) (cpy_ wg g 0 wn) wn (cpy_ gk fk 0 gq) (cpy_ gd fd 0 gq) (cpy_ ga fa 0 gq) (cpy_ gv fv 0 gq) gq _ _ _ _ (cpy_ mkept G 0 610) := ST_agree (rk' := cpy_ hk rk 0 _) (rd' := cpy_ hd rd 0 _) (rv' := cpy_ hv rv 0 _) (fun j hj => by simp only [cpy_at hj]; exact ⟨trivial, trivial, trivial, trivial, trivial, trivial⟩) (fun t ht => by simp only [cpy_at ht]; exact ⟨trivial, trivial, trivial, trivial⟩) (fun t ht => ⟨cpy_at ht, cpy_at ht, cpy_at ht⟩) (fun a ha => cpy_at ha) hS
    refine ⟨0, fo_ (ca_ (cpy_ wg g 0 wn)) wn 0 0, 0, _, _, _, _, _, _, wn, _, _, _, _, gq, _, _, _, _, cpy_ mkept G 0 610, _, lw_restore_ok (r := fo_ (ca_ (cpy_ wg g 0 wn)) wn 0 0) ?_, ?_, fun _ => updL_s, hS'⟩
    · unfold f_X5_restore f_X2_copy
      dsimp only
      rw [if_neg h0, copyV_I hn hW.2.1, bd_s]
      dsimp only
      rw [copyF_I hq, bd_s]
      dsimp only
      rw [copyR_I hr, bd_s, bd_s]
      dsimp only
      rw [count_I hn, bd_s]
    · unfold f_X6_restore
      dsimp only
      rw [if_neg h0]
      refine (restore_L 610 fu_ 0 G (by omega) (by unfold fu_; omega)).trans ?_
      rw [M_there hn hS'.2.1, bd_s]
end
