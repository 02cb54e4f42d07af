/-! what changes the versions and the facts -/
def OP_ (X : Option (Int32 × tD_ × tV_ × tF_ × (Nat → Int64))) (Y : Option (Int32 × tM_)) (h1 h2 : Int32) (rk rd rv : Nat → Int32) (r : Nat) (mkept mspare : Nat → Int32) (mhasKept : Int32) (mtext : Nat → Int32) (mlength mspot mvalue merror : Int32) (mtold : Nat → Int32) (mtolds : Int32) : Prop :=
  ∃ (c b : Int32) (k f e v i g : Nat → Int32) (n : Nat) (fk fd fa fv : Nat → Int32) (q : Nat) (h3 : Int32) (G mwas : Nat → Int32) (mwasMany : Int32) (ov : Nat → Int64), X = some (c, (h1, h2, h3), (k, f, e, v, i, g, nI n), (fk, fd, fa, fv, nI q), ov) ∧ Y = some (b, (G, mkept, mspare, mhasKept, mwas, mwasMany, h3, c, mtext, mlength, mspot, mvalue, merror, mtold, mtolds)) ∧ (c = 0 → ov 0 = b.toInt64) ∧ ST_ k f e v i g n fk fd fa fv q rk rd rv r G
theorem cf_eq0 {p : Nat → Bool} {c j i : Nat} (h : cf_ p c j = 0) (h1 : j ≤ i) (h2 : i < j + c) : p i = false := by
  cases hp : p i with
  | false => rfl
  | true =>
    have := cf_lt (p := fun _ => false) (q := p) (x := i) c j h1 h2 rfl hp (fun _ _ _ h => by cases h)
    omega
section
variable {k f e v i g k' f' e' v' i' g' fk fd fa fv rk rd rv G G' mkept mspare mwas mtext mtold w : Nat → Int32} {mhasKept mwasMany manew mthrown mlength mspot mvalue merror mtolds : Int32} {n n' q r : Nat} {h1 h2 h3 a1 a2 a3 : Int32} {ov : Nat → Int64}
theorem mv_congr {on w' : Nat → Int32} {t : Nat} {a : Int32} (h : w t = w' t) : mv_ on w t a = mv_ on w' t a := by
  unfold mv_
  rw [h]
theorem an_eq {on : Nat → Int32} (hI : FI_ k f e g n fk fd fv q) : fo_ (mv_ on (fun t => if t < q then onF_ k f e g n fk fd t else w t)) q 0 0 = fo_ (mv_ on fv) q 0 0 :=
  fo_congr q 0 0 (fun t a _ ht => mv_congr ((if_pos (show t < q by omega)).trans (hI.2 t (by omega)).2.2.2.symm))
theorem FI_new (hI : FI_ k f e g n fk fd fv q) (hc : ∀ t, t < q → cv_ k' f' e' g' n' (fk t) (fd t)) : FI_ k' f' e' g' n' fk fd (fun t => if t < q then onF_ k' f' e' g' n' fk fd t else fv t) q :=
  ⟨hI.1, fun t ht => ⟨(hI.2 t ht).1, (hI.2 t ht).2.1, hc t ht, if_pos ht⟩⟩
theorem ST_new (hS : ST_ k f e v i g n fk fd fa fv q rk rd rv r G) (hW : WV_ k' f' e' i' g' n') (hV : RV_ k' f' e' v' i' g' n' G') (hG : OV_ G G') (hc : ∀ t, t < q → cv_ k' f' e' g' n' (fk t) (fd t)) : ST_ k' f' e' v' i' g' n' fk fd fa (fun t => if t < q then onF_ k' f' e' g' n' fk fd t else fv t) q rk rd rv r G' := by
  obtain ⟨-, -, hF, hI, hR, hK⟩ := hS
  exact ⟨hW, hV, RF_congr hI.1 (fun a ha => hG a (by omega)) hF, FI_new hI hc, RO_congr (fun a ha => hG a (by omega)) hR, hK⟩
theorem o_change (hS : ST_ k f e v i g n fk fd fa fv q rk rd rv r G) : OP_ (f_L_change a1 a2 a3 (h1, h2, h3) () (k, f, e, v, i, g, nI n) (fk, fd, fa, fv, nI q) (rk, rd, rv, nI r) ov) (f_X6_change a1 a2 a3 (G, mkept, mspare, mhasKept, mwas, mwasMany, h3, mthrown, mtext, mlength, mspot, mvalue, merror, mtold, mtolds)) h1 h2 rk rd rv r mkept mspare mhasKept mtext mlength mspot mvalue merror mtold mtolds := by
  obtain ⟨hW, hV, hF, hI, hR, hK⟩ := id hS
  have hn := hW.1
  have hq := hI.1
  by_cases hk : iK_ a1
  · by_cases hd : iD_ a2
    · have hB := M_begins (mkept := mkept) (mspare := mspare) (mwas := mwas) (mtext := mtext) (mtold := mtold) (mhasKept := mhasKept) (mwasMany := mwasMany) (manew := h3) (mthrown := 0) (mlength := mlength) (mspot := mspot) (mvalue := mvalue) (merror := merror) (mtolds := mtolds) hW hV hq hF
      rcases put_ok (val := a3) (mkept := mkept) (mspare := mspare) (mwas := fun t => if t < q then onF_ k f e g n fk fd t else mwas t) (mtext := mtext) (mtold := mtold) (mhasKept := mhasKept) (mwasMany := nI q) (manew := h3) (mthrown := 0) (mlength := mlength) (mspot := mspot) (mvalue := mvalue) (merror := merror) (mtolds := mtolds) hW hV hk hd with ⟨r9, k', f', e', v', i', g', n', G', c0, c1, c2, c3, c4, c5, c6⟩ | ⟨c1, c2⟩
      · have hF' := RF_congr hq (fun a ha => c5 a (by omega)) hF
        have hE := M_ends (mkept := mkept) (mspare := mspare) (mwas := fun t => if t < q then onF_ k f e g n fk fd t else mwas t) (mtext := mtext) (mtold := mtold) (mhasKept := mhasKept) (manew := h3) (mthrown := 0) (mlength := mlength) (mspot := mspot) (mvalue := mvalue) (merror := merror) (mtolds := mtolds) c3 c4 hq (fun t ht => ⟨(hF'.2 t ht).1, (hF'.2 t ht).2.1⟩)
        refine ⟨0, r9, k', f', e', v', i', g', n', fk, fd, fa, _, q, fo_ (mv_ (onF_ k' f' e' g' n' fk fd) fv) q 0 0, G', (fun t => if t < q then onF_ k f e g n fk fd t else mwas t), nI q, _, lw_change_ok a1 a2 a3 (r := r9) ?_, ?_, fun _ => updL_s, ST_new hS c3 c4 c5 (fun t ht => c6 _ _ (hI.2 t ht).2.2.1)⟩
        · unfold f_X5_change
          dsimp only
          rw [key_T hk, bd_s]
          dsimp only
          rw [day_T hd, bd_s]
          dsimp only
          rw [c1, bd_s]
          dsimp only
          rw [if_neg (ne_m1 c0), pointFacts_I c3.1 hq, bd_s]
        · unfold f_X6_change
          dsimp only
          rw [mkey_T hk, bd_s, if_neg (by decide), mday_T hd, bd_s, if_neg (by decide), hB, bd_s]
          dsimp only
          rw [c2, bd_s]
          dsimp only
          rw [if_pos c0, hE, bd_s, an_eq hI]
      · refine ⟨3, 0, k, f, e, v, i, g, n, fk, fd, fa, fv, q, h3, G, (fun t => if t < q then onF_ k f e g n fk fd t else mwas t), nI q, ov, lw_change_e3 a1 a2 a3 ?_, ?_, no_3, hS⟩
        · unfold f_X5_change
          dsimp only
          rw [key_T hk, bd_s]
          dsimp only
          rw [day_T hd, bd_s]
          dsimp only
          rw [c1, bd_s]
          dsimp only
          rw [if_pos rfl]
        · unfold f_X6_change
          dsimp only
          rw [mkey_T hk, bd_s, if_neg (by decide), mday_T hd, bd_s, if_neg (by decide), hB, bd_s]
          dsimp only
          rw [c2, bd_s]
          dsimp only
          rw [if_neg (by decide), M_fails, bd_s]
    · refine ⟨2, 0, k, f, e, v, i, g, n, fk, fd, fa, fv, q, h3, G, mwas, mwasMany, ov, lw_change_e2 a1 a2 a3 ?_, ?_, no_2, hS⟩
      · unfold f_X5_change
        dsimp only
        rw [key_T hk, bd_s]
        dsimp only
        rw [day_F hd, bd_s]
      · unfold f_X6_change
        dsimp only
        rw [mkey_T hk, bd_s, if_neg (by decide), mday_F hd, bd_s, if_pos rfl]
  · refine ⟨1, 0, k, f, e, v, i, g, n, fk, fd, fa, fv, q, h3, G, mwas, mwasMany, ov, lw_change_e1 a1 a2 a3 ?_, ?_, no_1, hS⟩
    · unfold f_X5_change
      dsimp only
      rw [key_F hk, bd_s]
    · unfold f_X6_change
      dsimp only
      rw [mkey_F hk, bd_s, if_pos rfl]
theorem o_close (hS : ST_ k f e v i g n fk fd fa fv q rk rd rv r G) : OP_ (f_L_close a1 a2 (h1, h2, h3) () (k, f, e, v, i, g, nI n) (fk, fd, fa, fv, nI q) (rk, rd, rv, nI r) ov) (f_X6_close a1 a2 (G, mkept, mspare, mhasKept, mwas, mwasMany, h3, mthrown, mtext, mlength, mspot, mvalue, merror, mtold, mtolds)) h1 h2 rk rd rv r mkept mspare mhasKept mtext mlength mspot mvalue merror mtold mtolds := by
  obtain ⟨hW, hV, hF, hI, hR, hK⟩ := id hS
  have hn := hW.1
  have hq := hI.1
  by_cases hk : iK_ a1
  · by_cases hd : iD_ a2
    · rcases on_spec (k := k) (f := f) (e := e) (g := g) (n := n) a1 a2 with ⟨hx, -⟩ | ⟨j, hj, ⟨hg, hkj, hfj, hej⟩, hx⟩
      · refine ⟨3, 0, k, f, e, v, i, g, n, fk, fd, fa, fv, q, h3, G, mwas, mwasMany, ov, lw_close_e3 a1 a2 ?_, ?_, no_3, hS⟩
        · unfold f_X5_close
          dsimp only
          rw [key_T hk, bd_s]
          dsimp only
          rw [day_T hd, bd_s]
          dsimp only
          rw [onDay_I hn, bd_s, hx, if_pos rfl]
        · unfold f_X6_close
          dsimp only
          rw [mkey_T hk, bd_s, if_neg (by decide), mday_T hd, bd_s, if_neg (by decide), M_valid hW hV, bd_s, hx, if_neg (by decide), M_fails, bd_s]
      · have hm1 : ¬ nI j = -1 := by rw [m1_ne (by omega)]; exact fun h => h
        have hp0 : 0 ≤ nI j := nI_pos' (by omega)
        have hN : cf_ (fun t => decide (¬ fd t < a2 ∧ fv t = nI j)) q 0 ≤ q := cf_le _ _ _
        by_cases hf : f j = a2
        · refine ⟨4, 0, k, f, e, v, i, g, n, fk, fd, fa, fv, q, h3, G, mwas, mwasMany, ov, lw_close_e4 a1 a2 ?_, ?_, no_4, hS⟩
          · unfold f_X5_close
            dsimp only
            rw [key_T hk, bd_s]
            dsimp only
            rw [day_T hd, bd_s]
            dsimp only
            rw [onDay_I hn, bd_s, hx, if_neg hm1, gd_I (by omega) (by omega), cl_I (by omega), if_pos hf]
          · unfold f_X6_close
            dsimp only
            rw [mkey_T hk, bd_s, if_neg (by decide), mday_T hd, bd_s, if_neg (by decide), M_valid hW hV, bd_s, hx, if_pos hp0, of_130, gd_I (by omega) (by omega), cl_I (by omega), (hV.2 j hj).2.2.1, if_pos hf, M_fails, bd_s]
        · by_cases h0 : cf_ (fun t => decide (¬ fd t < a2 ∧ fv t = nI j)) q 0 = 0
          · have hB := M_begins (mkept := mkept) (mspare := mspare) (mwas := mwas) (mtext := mtext) (mtold := mtold) (mhasKept := mhasKept) (mwasMany := mwasMany) (manew := h3) (mthrown := 0) (mlength := mlength) (mspot := mspot) (mvalue := mvalue) (merror := merror) (mtolds := mtolds) hW hV hq hF
            have hlt : (f j).toInt < a2.toInt := by
              have h4 := Int32.le_iff_toInt_le.mp hfj
              have h5 : (f j).toInt ≠ a2.toInt := fun h => hf (Int32.toInt_inj.mp h)
              omega
            have c3 := WV_end (d := a2) hW hj ⟨hlt, Int.le_of_lt (Int32.lt_iff_toInt_lt.mp hej)⟩
            have c4 := RV_end (d := a2) hn hj hV
            have c5 : OV_ G (upd G (190 + j) a2) := OV_endx (by omega)
            have hcv : ∀ t, t < q → cv_ k f (upd e j a2) g n (fk t) (fd t) := fun t ht => by
              obtain ⟨l, hl, hA, hfv⟩ := FI_on hn hI ht
              refine ⟨l, hl, hA.1, hA.2.1, hA.2.2.1, ?_⟩
              by_cases hlj : l = j
              · subst hlj
                rw [up_s]
                have h6 := of_decide_eq_false (cf_eq0 h0 (Nat.zero_le t) (by omega))
                exact Classical.byContradiction fun h7 => h6 ⟨h7, hfv⟩
              · rw [up_n hlj]
                exact hA.2.2.2
            have hF' := RF_congr hq (fun a ha => c5 a (by omega)) hF
            have hE := M_ends (mkept := mkept) (mspare := mspare) (mwas := fun t => if t < q then onF_ k f e g n fk fd t else mwas t) (mtext := mtext) (mtold := mtold) (mhasKept := mhasKept) (manew := h3) (mthrown := 0) (mlength := mlength) (mspot := mspot) (mvalue := mvalue) (merror := merror) (mtolds := mtolds) c3 c4 hq (fun t ht => ⟨(hF'.2 t ht).1, (hF'.2 t ht).2.1⟩)
            refine ⟨0, e j, k, f, upd e j a2, v, i, g, n, fk, fd, fa, _, q, fo_ (mv_ (onF_ k f (upd e j a2) g n fk fd) fv) q 0 0, upd G (190 + j) a2, (fun t => if t < q then onF_ k f e g n fk fd t else mwas t), nI q, _, lw_close_ok a1 a2 (r := e j) ?_, ?_, fun _ => updL_s, ST_new hS c3 c4 c5 hcv⟩
            · unfold f_X5_close
              dsimp only
              rw [key_T hk, bd_s]
              dsimp only
              rw [day_T hd, bd_s]
              dsimp only
              rw [onDay_I hn, bd_s, hx, if_neg hm1, gd_I (by omega) (by omega), cl_I (by omega), if_neg hf, F_pointFrom hq, bd_s, if_pos h0, if_pos rfl, gd_I (by omega) (by omega), gd_I (by omega) (by omega), nm_s, pointFacts_I hn hq, bd_s]
            · unfold f_X6_close
              dsimp only
              rw [mkey_T hk, bd_s, if_neg (by decide), mday_T hd, bd_s, if_neg (by decide), M_valid hW hV, bd_s, hx, if_pos hp0]
              simp only [of_130, of_190]
              rw [gd_I (by omega) (by omega), cl_I (by omega), (hV.2 j hj).2.2.1, if_neg hf, M_factsOf hW hV hq hF, bd_s, cf_on hI, h0, if_pos (by decide), hB, bd_s]
              dsimp only
              rw [gd_I (by omega) (by omega), gd_I (by omega) (by omega), nm_s, cl_I (by omega), hE, bd_s, an_eq hI, (hV.2 j hj).2.2.2.1]
          · have hb1 : ¬ nI (cf_ (fun t => decide (¬ fd t < a2 ∧ fv t = nI j)) q 0) ≤ 0 := nI_nle (by omega) (by omega)
            refine ⟨4, 0, k, f, e, v, i, g, n, fk, fd, fa, fv, q, h3, G, mwas, mwasMany, ov, lw_close_e4 a1 a2 ?_, ?_, no_4, hS⟩
            · unfold f_X5_close
              dsimp only
              rw [key_T hk, bd_s]
              dsimp only
              rw [day_T hd, bd_s]
              dsimp only
              rw [onDay_I hn, bd_s, hx, if_neg hm1, gd_I (by omega) (by omega), cl_I (by omega), if_neg hf, F_pointFrom hq, bd_s, if_neg h0, if_neg (by decide)]
            · unfold f_X6_close
              dsimp only
              rw [mkey_T hk, bd_s, if_neg (by decide), mday_T hd, bd_s, if_neg (by decide), M_valid hW hV, bd_s, hx, if_pos hp0, of_130, gd_I (by omega) (by omega), cl_I (by omega), (hV.2 j hj).2.2.1, if_neg hf, M_factsOf hW hV hq hF, bd_s, cf_on hI, if_neg hb1, M_fails, bd_s]
    · refine ⟨2, 0, k, f, e, v, i, g, n, fk, fd, fa, fv, q, h3, G, mwas, mwasMany, ov, lw_close_e2 a1 a2 ?_, ?_, no_2, hS⟩
      · unfold f_X5_close
        dsimp only
        rw [key_T hk, bd_s]
        dsimp only
        rw [day_F hd, bd_s]
      · unfold f_X6_close
        dsimp only
        rw [mkey_T hk, bd_s, if_neg (by decide), mday_F hd, bd_s, if_pos rfl]
  · refine ⟨1, 0, k, f, e, v, i, g, n, fk, fd, fa, fv, q, h3, G, mwas, mwasMany, ov, lw_close_e1 a1 a2 ?_, ?_, no_1, hS⟩
    · unfold f_X5_close
      dsimp only
      rw [key_F hk, bd_s]
    · unfold f_X6_close
      dsimp only
      rw [mkey_F hk, bd_s, if_pos rfl]
theorem o_join (hS : ST_ k f e v i g n fk fd fa fv q rk rd rv r G) : OP_ (f_L_join a1 (h1, h2, h3) () (k, f, e, v, i, g, nI n) (fk, fd, fa, fv, nI q) (rk, rd, rv, nI r) ov) (f_X6_join a1 (G, mkept, mspare, mhasKept, mwas, mwasMany, h3, mthrown, mtext, mlength, mspot, mvalue, merror, mtold, mtolds)) h1 h2 rk rd rv r mkept mspare mhasKept mtext mlength mspot mvalue merror mtold mtolds := by
  obtain ⟨hW, hV, hF, hI, hR, hK⟩ := id hS
  have hn := hW.1
  have hq := hI.1
  by_cases hk : iK_ a1
  · have hB := M_begins (mkept := mkept) (mspare := mspare) (mwas := mwas) (mtext := mtext) (mtold := mtold) (mhasKept := mhasKept) (mwasMany := mwasMany) (manew := h3) (mthrown := 0) (mlength := mlength) (mspot := mspot) (mvalue := mvalue) (merror := merror) (mtolds := mtolds) hW hV hq hF
    have hmn : mn_ k g n a1 ≤ n := mn_le
    obtain ⟨e', g', G', J', c1, c2, c3, c4, c5, c6⟩ := join_sim (key := a1) (v := v) (mkept := mkept) (mspare := mspare) (mwas := fun t => if t < q then onF_ k f e g n fk fd t else mwas t) (mtext := mtext) (mtold := mtold) (mhasKept := mhasKept) (mwasMany := nI q) (manew := h3) (mthrown := 0) (mlength := mlength) (mspot := mspot) (mvalue := mvalue) (merror := merror) (mtolds := mtolds) (mn_ k g n a1) e g G 0 0 fu_ fu_ 0 hW hV (Nat.zero_le _) (by omega) (by omega) (by unfold fu_; omega) (by unfold fu_; omega)
    have hF' := RF_congr hq (fun a ha => c5 a (by omega)) hF
    have hE := M_ends (mkept := mkept) (mspare := mspare) (mwas := fun t => if t < q then onF_ k f e g n fk fd t else mwas t) (mtext := mtext) (mtold := mtold) (mhasKept := mhasKept) (manew := h3) (mthrown := 0) (mlength := mlength) (mspot := mspot) (mvalue := mvalue) (merror := merror) (mtolds := mtolds) c3 c4 hq (fun t ht => ⟨(hF'.2 t ht).1, (hF'.2 t ht).2.1⟩)
    refine ⟨0, J', k, f, e', v, i, g', n, fk, fd, fa, _, q, fo_ (mv_ (onF_ k f e' g' n fk fd) fv) q 0 0, G', (fun t => if t < q then onF_ k f e g n fk fd t else mwas t), nI q, _, lw_join_ok a1 (r := J') ?_, ?_, fun _ => updL_s, ST_new hS c3 c4 c5 (fun t ht => c6 _ _ (hI.2 t ht).2.2.1)⟩
    · have hj : f_X4_joinAlike a1 (k, f, e, v, i, g, nI n) = some (J', (k, f, e', v, i, g', nI n)) := by
        unfold f_X4_joinAlike
        dsimp only
        rw [next_I hn, bd_s, nx_pv0 hW]
        exact c1
      unfold f_X5_join
      dsimp only
      rw [key_T hk, bd_s]
      dsimp only
      rw [hj, bd_s]
      dsimp only
      rw [pointFacts_I hn hq, bd_s]
    · unfold f_X6_join
      dsimp only
      rw [mkey_T hk, bd_s, if_neg (by decide), hB, bd_s]
      dsimp only
      refine c2.trans ?_
      rw [hE, bd_s, an_eq hI]
  · refine ⟨1, 0, k, f, e, v, i, g, n, fk, fd, fa, fv, q, h3, G, mwas, mwasMany, ov, lw_join_e1 a1 ?_, ?_, no_1, hS⟩
    · unfold f_X5_join
      dsimp only
      rw [key_F hk, bd_s]
    · unfold f_X6_join
      dsimp only
      rw [mkey_F hk, bd_s, if_pos rfl, M_fails, bd_s]
def ew_ (k f e g : Nat → Int32) (n : Nat) (key day : Int32) : Int32 := fs_ (fun o => decide ((g o = 0 ∧ k o = key) ∧ e o = day)) n 0
theorem ew_spec (key day : Int32) : ew_ k f e g n key day = -1 ∨ ∃ o, o < n ∧ ((g o = 0 ∧ k o = key) ∧ e o = day) ∧ ew_ k f e g n key day = nI o := by
  rcases fs_spec (fun o => decide ((g o = 0 ∧ k o = key) ∧ e o = day)) n 0 with ⟨h, -⟩ | ⟨o, -, h2, h3, h4, -⟩
  · exact Or.inl h
  · exact Or.inr ⟨o, by omega, of_decide_eq_true h3, h4⟩
theorem ewb_L {j : Nat} (hn : n ≤ 60) (hj : j < n) : ∀ c m o, o + c = n → c < m → f_X4_endingWhereBegins_L12 m (nI o) (nI j) (k, f, e, v, i, g, nI n) = some (fs_ (fun o => decide ((g o = 0 ∧ k o = k j) ∧ e o = f j)) c o) := by
  intro c
  induction c with
  | zero =>
    intro m o b1 b2
    obtain ⟨m, rfl⟩ := ex_S b2
    rw [e_X4_endingWhereBegins_L12]
    unfold f_X4_endingWhereBegins_S12
    dsimp only
    rw [if_pos (by rw [nI_leI (by omega) (by omega)]; omega)]
    rfl
  | succ c ih =>
    intro m o b1 b2
    obtain ⟨m, rfl⟩ := ex_S b2
    rw [e_X4_endingWhereBegins_L12]
    unfold f_X4_endingWhereBegins_S12
    dsimp only
    show _ = some (if decide ((g o = 0 ∧ k o = k j) ∧ e o = f j) = true then nI o else fs_ (fun o => decide ((g o = 0 ∧ k o = k j) ∧ e o = f j)) c (o + 1))
    rw [if_neg (by rw [nI_leI (by omega) (by omega)]; omega), gd_I (by omega) (by omega), cl_I (by omega), isOf_I hn (by omega), bd_s, S_I, ih m (o + 1) (by omega) (by omega)]
    by_cases ha : g o = 0 ∧ k o = k j
    · rw [if_pos ha, if_neg (by decide), gd_I (by omega) (by omega), gd_I (by omega) (by omega), cl_I (by omega)]
      by_cases he : e o = f j
      · rw [if_pos he, if_pos (dec_t ⟨ha, he⟩)]
      · rw [if_neg he, if_neg (fun h => he (of_decide_eq_true h).2)]
    · rw [if_neg ha, if_pos rfl, if_neg (fun h => ha (of_decide_eq_true h).1)]
theorem ewb_I {j : Nat} (hn : n ≤ 60) (hj : j < n) (hg : g j = 0) : f_X4_endingWhereBegins (nI j) (k, f, e, v, i, g, nI n) = some (ew_ k f e g n (k j) (f j)) := by
  unfold f_X4_endingWhereBegins
  dsimp only
  rw [has_I hn hj, bd_s, if_pos hg, if_neg (by decide)]
  exact ewb_L hn hj n fu_ 0 (by omega) (by unfold fu_; omega)
theorem M_endingAt_L {key day : Int32} (hn : n ≤ 60) (hV : RV_ k f e v i g n G) : ∀ c m o, o + c = n → c < m → f_X6_endingAt_L2 m (nI o) key day (G, mkept, mspare, mhasKept, mwas, mwasMany, manew, mthrown, mtext, mlength, mspot, mvalue, merror, mtold, mtolds) = some (fs_ (fun o => decide ((g o = 0 ∧ k o = key) ∧ e o = day)) c o) := by
  intro c
  induction c with
  | zero =>
    intro m o b1 b2
    obtain ⟨m, rfl⟩ := ex_S b2
    rw [e_X6_endingAt_L2]
    unfold f_X6_endingAt_S2
    dsimp only
    rw [gd_0, cl_0, hV.1, if_pos (by rw [nI_leI (by omega) (by omega)]; omega)]
    rfl
  | succ c ih =>
    intro m o b1 b2
    obtain ⟨m, rfl⟩ := ex_S b2
    rw [e_X6_endingAt_L2]
    unfold f_X6_endingAt_S2
    dsimp only
    show _ = some (if decide ((g o = 0 ∧ k o = key) ∧ e o = day) = true then nI o else fs_ (fun o => decide ((g o = 0 ∧ k o = key) ∧ e o = day)) c (o + 1))
    rw [gd_0, cl_0, hV.1, if_neg (by rw [nI_leI (by omega) (by omega)]; omega), M_isOf hn hV (by omega), bd_s, S_I, ih m (o + 1) (by omega) (by omega), of_190, gd_I (by omega) (by omega), cl_I (by omega), (hV.2 o (by omega)).2.2.2.1]
    by_cases ha : g o = 0 ∧ k o = key
    · rw [if_pos ha, if_neg (by decide)]
      by_cases he : e o = day
      · rw [if_pos he, if_pos (dec_t ⟨ha, he⟩)]
      · rw [if_neg he, if_neg (fun h => he (of_decide_eq_true h).2)]
    · rw [if_neg ha, if_pos rfl, if_neg (fun h => ha (of_decide_eq_true h).1)]
theorem M_endingAt {key day : Int32} (hn : n ≤ 60) (hV : RV_ k f e v i g n G) : f_X6_endingAt key day (G, mkept, mspare, mhasKept, mwas, mwasMany, manew, mthrown, mtext, mlength, mspot, mvalue, merror, mtold, mtolds) = some (ew_ k f e g n key day) := by
  unfold f_X6_endingAt
  dsimp only
  exact M_endingAt_L hn hV n fu_ 0 (by omega) (by unfold fu_; omega)
theorem drop_V {j : Nat} (hn : n ≤ 60) (hj : j < n) (hg : g j = 0) : f_X4_drop (nI j) (k, f, e, v, i, g, nI n) = some (k, f, e, v, i, upd g j 1, nI n) := by
  unfold f_X4_drop
  dsimp only
  rw [has_I hn hj, bd_s, if_pos hg, if_neg (by decide), gd_I (by omega) (by omega), nm_s, cl_I (by omega)]
  rfl
theorem o_remove (hS : ST_ k f e v i g n fk fd fa fv q rk rd rv r G) : OP_ (f_L_remove a1 (h1, h2, h3) () (k, f, e, v, i, g, nI n) (fk, fd, fa, fv, nI q) (rk, rd, rv, nI r) ov) (f_X6_remove a1 (G, mkept, mspare, mhasKept, mwas, mwasMany, h3, mthrown, mtext, mlength, mspot, mvalue, merror, mtold, mtolds)) h1 h2 rk rd rv r mkept mspare mhasKept mtext mlength mspot mvalue merror mtold mtolds := by
  obtain ⟨hW, hV, hF, hI, hR, hK⟩ := id hS
  have hn := hW.1
  have hq := hI.1
  rcases ver_cases (fk := fk) (fd := fd) (fa := fa) (fv := fv) (q := q) (rk := rk) (rd := rd) (rv := rv) (rc := nI r) (h1 := h1) (h2 := h2) (h3 := h3) (mkept := mkept) (mspare := mspare) (mwas := mwas) (mtext := mtext) (mtold := mtold) (mhasKept := mhasKept) (mwasMany := mwasMany) (manew := h3) (mthrown := 0) (mlength := mlength) (mspot := mspot) (mvalue := mvalue) (merror := merror) (mtolds := mtolds) hn hV a1 with ⟨j, hj, rfl, hg, hc, hm⟩ | ⟨hc, hm⟩
  · have hN : cf_ (fun t => decide (fv t = nI j)) q 0 ≤ q := cf_le _ _ _
    have hB := M_begins (mkept := mkept) (mspare := mspare) (mwas := mwas) (mtext := mtext) (mtold := mtold) (mhasKept := mhasKept) (mwasMany := mwasMany) (manew := h3) (mthrown := 0) (mlength := mlength) (mspot := mspot) (mvalue := mvalue) (merror := merror) (mtolds := mtolds) hW hV hq hF
    obtain ⟨-, p1, p2, p3, -⟩ := hV.2 j hj
    have hX : ∀ Y, (f_X4_endingWhereBegins (nI j) (k, f, e, v, i, g, nI n) = some Y → True) := fun _ _ => trivial
    have rj := hW.2.2.1 j hj hg
    rcases ew_spec (k := k) (f := f) (e := e) (g := g) (n := n) (k j) (f j) with hw | ⟨o, ho, ⟨⟨hgo, hko⟩, heo⟩, hw⟩
    · by_cases h0 : cf_ (fun t => decide (fv t = nI j)) q 0 = 0
      · have c3 := WV_drop (b := j) hW
        have c4 := RV_drop (b := j) hn hj hV
        have c5 : OV_ G (upd G (10 + j) 0) := OV_alive (by omega)
        have hcv : ∀ t, t < q → cv_ k f e (upd g j 1) n (fk t) (fd t) := fun t ht => by
          obtain ⟨l, hl, hA, hfv⟩ := FI_on hn hI ht
          have hlj : l ≠ j := fun h => by
            subst h
            exact of_decide_eq_false (cf_eq0 h0 (Nat.zero_le t) (by omega)) hfv
          exact ⟨l, hl, by rw [up_n hlj]; exact hA.1, hA.2⟩
        have hF' := RF_congr hq (fun a ha => c5 a (by omega)) hF
        have hE := M_ends (mkept := mkept) (mspare := mspare) (mwas := fun t => if t < q then onF_ k f e g n fk fd t else mwas t) (mtext := mtext) (mtold := mtold) (mhasKept := mhasKept) (manew := h3) (mthrown := 0) (mlength := mlength) (mspot := mspot) (mvalue := mvalue) (merror := merror) (mtolds := mtolds) c3 c4 hq (fun t ht => ⟨(hF'.2 t ht).1, (hF'.2 t ht).2.1⟩)
        refine ⟨0, nI 0, k, f, e, v, i, upd g j 1, n, fk, fd, fa, _, q, fo_ (mv_ (onF_ k f e (upd g j 1) n fk fd) fv) q 0 0, upd G (10 + j) 0, (fun t => if t < q then onF_ k f e g n fk fd t else mwas t), nI q, _, lw_remove_ok (nI j) (r := nI 0) ?_, ?_, fun _ => updL_s, ST_new hS c3 c4 c5 hcv⟩
        · unfold f_X5_remove
          dsimp only
          rw [hc, bd_s]
          dsimp only
          rw [F_countOf hq, bd_s, h0, ewb_I hn hj hg, bd_s, hw, if_pos (by decide), if_pos rfl, drop_V hn hj hg, bd_s]
          dsimp only
          rw [pointFacts_I hn hq, bd_s]
        · unfold f_X6_remove
          dsimp only
          rw [hm, bd_s, if_neg (by decide)]
          simp only [of_70, of_130, of_10]
          rw [gd_I (by omega) (by omega), gd_I (by omega) (by omega), cl_I (by omega), cl_I (by omega), p1, p2, M_endingAt hn hV, bd_s, M_factsOf hW hV hq hF, bd_s, cf_on0 hI, h0, hw, if_neg (by decide), if_pos (by decide), hB, bd_s]
          dsimp only
          rw [gd_I (by omega) (by omega), nm_s, if_pos (by decide), cl_I (by omega), hE, bd_s, an_eq hI]
      · have hb1 : ¬ nI (cf_ (fun t => decide (fv t = nI j)) q 0) ≤ 0 := nI_nle (by omega) (by omega)
        refine ⟨2, 0, k, f, e, v, i, g, n, fk, fd, fa, fv, q, h3, G, mwas, mwasMany, ov, lw_remove_e2 (nI j) ?_, ?_, no_2, hS⟩
        · unfold f_X5_remove
          dsimp only
          rw [hc, bd_s]
          dsimp only
          rw [F_countOf hq, bd_s, ewb_I hn hj hg, bd_s, hw, if_neg hb1, if_pos rfl]
        · unfold f_X6_remove
          dsimp only
          rw [hm, bd_s, if_neg (by decide), of_70, of_130, gd_I (by omega) (by omega), gd_I (by omega) (by omega), cl_I (by omega), cl_I (by omega), p1, p2, M_endingAt hn hV, bd_s, M_factsOf hW hV hq hF, bd_s, cf_on0 hI, hw, if_neg (by decide), if_neg hb1, M_fails, bd_s]
    · have ro := hW.2.2.1 o ho hgo
      have hoj : o ≠ j := fun h => by rw [h] at heo; rw [heo] at rj; omega
      have hm1 : ¬ nI o = -1 := by rw [m1_ne (by omega)]; exact fun h => h
      have c3 := WV_merge hW ho hj hoj hgo hg hko (by rw [heo])
      have c4 := RV_end (d := e j) hn ho (RV_drop (b := j) hn hj hV)
      have c5 : OV_ G (upd (upd G (10 + j) 0) (190 + o) (e j)) := OV_trans (OV_alive (by omega)) (OV_endx (by omega))
      have hcv : ∀ t, t < q → cv_ k f (upd e o (e j)) (upd g j 1) n (fk t) (fd t) := fun t ht => cv_merge ho hoj hgo hko heo (Int32.lt_iff_toInt_lt.mpr ro.2.2.2.1) (Int32.lt_iff_toInt_lt.mpr rj.2.2.2.1) (hI.2 t ht).2.2.1
      have hF' := RF_congr hq (fun a ha => c5 a (by omega)) hF
      have hE := M_ends (mkept := mkept) (mspare := mspare) (mwas := fun t => if t < q then onF_ k f e g n fk fd t else mwas t) (mtext := mtext) (mtold := mtold) (mhasKept := mhasKept) (manew := h3) (mthrown := 0) (mlength := mlength) (mspot := mspot) (mvalue := mvalue) (merror := merror) (mtolds := mtolds) c3 c4 hq (fun t ht => ⟨(hF'.2 t ht).1, (hF'.2 t ht).2.1⟩)
      refine ⟨0, nI (cf_ (fun t => decide (fv t = nI j)) q 0), k, f, upd e o (e j), v, i, upd g j 1, n, fk, fd, fa, _, q, fo_ (mv_ (onF_ k f (upd e o (e j)) (upd g j 1) n fk fd) fv) q 0 0, upd (upd G (10 + j) 0) (190 + o) (e j), (fun t => if t < q then onF_ k f e g n fk fd t else mwas t), nI q, _, lw_remove_ok (nI j) (r := nI (cf_ (fun t => decide (fv t = nI j)) q 0)) ?_, ?_, fun _ => updL_s, ST_new hS c3 c4 c5 hcv⟩
      · unfold f_X5_remove
        dsimp only
        rw [hc, bd_s]
        dsimp only
        rw [F_countOf hq, bd_s, ewb_I hn hj hg, bd_s, hw, if_neg hm1, if_neg hm1, merge_I hn ho hj hgo hg, bd_s]
        dsimp only
        rw [pointFacts_I hn hq, bd_s]
        split <;> rfl
      · unfold f_X6_remove
        dsimp only
        rw [hm, bd_s, if_neg (by decide)]
        simp only [of_70, of_130, of_10, of_190]
        rw [gd_I (by omega) (by omega), gd_I (by omega) (by omega), cl_I (by omega), cl_I (by omega), p1, p2, M_endingAt hn hV, bd_s, M_factsOf hW hV hq hF, bd_s, cf_on0 hI, hw, if_pos (nI_pos' (by omega)), hB, bd_s]
        dsimp only
        simp only [of_190]
        rw [gd_I (by omega) (by omega), nm_s, if_neg (nI_pos (by omega)), gd_I (by omega) (by omega), gd_I (by omega) (by omega), nm_s, cl_I (by omega), cl_I (by omega), cl_I (by omega), up_n (show 190 + j ≠ 10 + j by omega), p3, hE, bd_s, an_eq hI]
  · refine ⟨1, 0, k, f, e, v, i, g, n, fk, fd, fa, fv, q, h3, G, mwas, mwasMany, ov, lw_remove_e1 a1 ?_, ?_, no_1, hS⟩
    · unfold f_X5_remove
      dsimp only
      rw [hc, bd_s]
    · unfold f_X6_remove
      dsimp only
      rw [hm, bd_s, if_pos rfl, M_fails, bd_s]
end
