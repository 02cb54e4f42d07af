/-! rows become changes: the class's loop beside the model's -/
section
variable {k f e v i g fk fd fa fv rk rd rv qk qd qv bk bf be bv bi bg G mkept mspare mwas mtext mtold : Nat → Int32} {mhasKept mwasMany manew mthrown mlength mspot mvalue merror mtolds : Int32} {n q r nb : Nat} {h1 h2 h3 rc : Int32}
theorem pointFacts_I (hn : n ≤ 60) (hq : q ≤ 60) : f_X5_pointFacts (h1, h2, h3) () (k, f, e, v, i, g, nI n) (fk, fd, fa, fv, nI q) (rk, rd, rv, rc) = some ((h1, h2, fo_ (mv_ (onF_ k f e g n fk fd) fv) q 0 0), (fk, fd, fa, (fun t => if t < q then onF_ k f e g n fk fd t else fv t), nI q)) := by
  unfold f_X5_pointFacts
  dsimp only
  rw [pointTo_I hn hq, bd_s]
theorem ne_m1 {x : Int32} (h : 0 ≤ x) : ¬ x = -1 := fun e => by rw [e] at h; exact absurd h (by decide)
theorem load_sim {lim cnt : Nat} (hl : cnt ≤ lim) (hl2 : lim ≤ 20) (hc1 : cnt ≤ r) (hc2 : cnt = lim ∨ cnt = r) (hq : q ≤ 60) (hnb : nb ≤ 60) (hb : ∀ j, j < nb → (bg j = 0 ∨ bg j = 1) ∧ (bi j = 0 ∨ bi j = 1)) (hK : ∀ j, j < r → iK_ (rk j) ∧ iD_ (rd j)) :
    ∀ c s (k f e v i g : Nat → Int32) (n : Nat) (G : Nat → Int32) m1 m2, s + c = cnt → c < m1 → c < m2 → WV_ k f e i g n → RV_ k f e v i g n G → RF_ fk fd fa q G → RO_ rk rd rv s r G →
    (∃ (k' f' e' v' i' g' : Nat → Int32) (n' : Nat) (G' : Nat → Int32), f_X5_makeChanges_L16 m1 (nI s) (nI cnt) (h1, h2, h3) () (k, f, e, v, i, g, nI n) (fk, fd, fa, fv, nI q) (rk, rd, rv, nI r) (bk, bf, be, bv, bi, bg, nI nb) = some (1, (h1, h2, fo_ (mv_ (onF_ k' f' e' g' n' fk fd) fv) q 0 0), (k', f', e', v', i', g', nI n'), (fk, fd, fa, (fun t => if t < q then onF_ k' f' e' g' n' fk fd t else fv t), nI q), (bk, bf, be, bv, bi, bg, nI nb)) ∧
      f_X6_loadRows_L31 m2 (nI s) (nI lim) (G, mkept, mspare, mhasKept, mwas, nI q, manew, mthrown, mtext, mlength, mspot, mvalue, merror, mtold, mtolds) = some (nI cnt, (G', mkept, mspare, mhasKept, mwas, nI q, fo_ (mv_ (onF_ k' f' e' g' n' fk fd) mwas) q 0 0, mthrown, mtext, mlength, mspot, mvalue, merror, mtold, mtolds)) ∧ WV_ k' f' e' i' g' n' ∧ RV_ k' f' e' v' i' g' n' G' ∧ RF_ fk fd fa q G' ∧ RO_ rk rd rv cnt r G' ∧ ∀ K D, cv_ k f e g n K D → cv_ k' f' e' g' n' K D) ∨
    (∃ (k' f' e' v' i' g' : Nat → Int32) (G' : Nat → Int32), f_X5_makeChanges_L16 m1 (nI s) (nI cnt) (h1, h2, h3) () (k, f, e, v, i, g, nI n) (fk, fd, fa, fv, nI q) (rk, rd, rv, nI r) (bk, bf, be, bv, bi, bg, nI nb) = some (0, (h1, h2, h3), (cpy_ bk k' 0 nb, cpy_ bf f' 0 nb, cpy_ be e' 0 nb, cpy_ bv v' 0 nb, cpy_ bi i' 0 nb, cpy_ bg g' 0 nb, nI nb), (fk, fd, fa, fv, nI q), (bk, bf, be, bv, bi, bg, nI nb)) ∧
      f_X6_loadRows_L31 m2 (nI s) (nI lim) (G, mkept, mspare, mhasKept, mwas, nI q, manew, mthrown, mtext, mlength, mspot, mvalue, merror, mtold, mtolds) = some (0, (cpy_ mspare G' 0 610, mkept, mspare, mhasKept, mwas, nI q, manew, 2, mtext, mlength, mspot, mvalue, merror, mtold, mtolds))) := by
  intro c
  induction c with
  | zero =>
    intro s k f e v i g n G m1 m2 hs hm1 hm2 hW hV hF hR
    have hn := hW.1
    have hr := hR.2.1
    have hG2 := hR.2.2.1
    obtain ⟨m1, rfl⟩ := ex_S hm1
    obtain ⟨m2, rfl⟩ := ex_S hm2
    have hs' : s = cnt := hs
    subst hs'
    have hE := M_ends (mkept := mkept) (mspare := mspare) (mwas := mwas) (mtext := mtext) (mtold := mtold) (mhasKept := mhasKept) (manew := manew) (mthrown := mthrown) (mlength := mlength) (mspot := mspot) (mvalue := mvalue) (merror := merror) (mtolds := mtolds) hW hV hq (fun t ht => ⟨(hF.2 t ht).1, (hF.2 t ht).2.1⟩)
    left
    refine ⟨k, f, e, v, i, g, n, G, ?_, ?_, hW, hV, hF, hR, fun _ _ h => h⟩
    · rw [e_X5_makeChanges_L16]
      unfold f_X5_makeChanges_S16
      dsimp only
      rw [if_pos (by rw [nI_leI (by omega) (by omega)]; omega), pointFacts_I hn hq, bd_s]
    · rw [e_X6_loadRows_L31]
      unfold f_X6_loadRows_S31
      dsimp only
      rw [gd_2, cl_2, hG2, hE, bd_s]
      by_cases hls : lim ≤ s
      · rw [if_pos (by rw [nI_leI (by omega) (by omega)]; exact hls)]
      · rw [if_neg (by rw [nI_leI (by omega) (by omega)]; exact hls), if_pos (by rw [show r - s = 0 by omega]; decide)]
  | succ c ih =>
    intro s k f e v i g n G m1 m2 hs hm1 hm2 hW hV hF hR
    have hn := hW.1
    have hr := hR.2.1
    have hG2 := hR.2.2.1
    obtain ⟨m1, rfl⟩ := ex_S hm1
    obtain ⟨m2, rfl⟩ := ex_S hm2
    have hsr : s < r := by omega
    have ec : ∀ X, (f_X4_put (rk s) (rd s) (rv s) (k, f, e, v, i, g, nI n) = X) → f_X5_makeChanges_L16 (m1 + 1) (nI s) (nI cnt) (h1, h2, h3) () (k, f, e, v, i, g, nI n) (fk, fd, fa, fv, nI q) (rk, rd, rv, nI r) (bk, bf, be, bv, bi, bg, nI nb) = bd_ X (fun (r42, (vk43, vf44, ve45, vv46, vi47, vg48, vm49)) =>
      if r42 = (-1) then
        bd_ (f_X4_copy (vk43, vf44, ve45, vv46, vi47, vg48, vm49) (bk, bf, be, bv, bi, bg, nI nb)) (fun (vk55, vf56, ve57, vv58, vi59, vg60, vm61) => some ((0 : Int32), (h1, h2, h3), (vk55, vf56, ve57, vv58, vi59, vg60, vm61), (fk, fd, fa, fv, nI q), (bk, bf, be, bv, bi, bg, nI nb)))
      else f_X5_makeChanges_L16 m1 (nI (s + 1)) (nI cnt) (h1, h2, h3) () (vk43, vf44, ve45, vv46, vi47, vg48, vm49) (fk, fd, fa, fv, nI q) (rk, rd, rv, nI r) (bk, bf, be, bv, bi, bg, nI nb)) := fun X hX => by
      rw [e_X5_makeChanges_L16]
      unfold f_X5_makeChanges_S16
      dsimp only
      rw [if_neg (by rw [nI_leI (by omega) (by omega)]; omega), if_neg (by rw [nI_leI (by omega) (by omega)]; omega), gd_I (by omega) (by omega), gd_I (by omega) (by omega), gd_I (by omega) (by omega), cl_I (by omega), S_I, hX]
    have em : ∀ X, (f_X6_loads (G, mkept, mspare, mhasKept, mwas, nI q, manew, mthrown, mtext, mlength, mspot, mvalue, merror, mtold, mtolds) = some X) → f_X6_loadRows_L31 (m2 + 1) (nI s) (nI lim) (G, mkept, mspare, mhasKept, mwas, nI q, manew, mthrown, mtext, mlength, mspot, mvalue, merror, mtold, mtolds) = (if X.1 = 0 then bd_ (f_X6_goesBack X.2) (fun M1 => bd_ (f_X6_fails 2 M1) (fun M2 => some (M2.1, M2.2))) else f_X6_loadRows_L31 m2 (nI (s + 1)) (nI lim) X.2) := fun X hX => by
      rw [e_X6_loadRows_L31]
      unfold f_X6_loadRows_S31
      dsimp only
      rw [if_neg (by rw [nI_leI (by omega) (by omega)]; omega), gd_2, cl_2, hG2, if_neg (nI_nle (by omega) (by omega)), hX, bd_s, S_I]
    rcases M_loads_ok (mkept := mkept) (mspare := mspare) (mwas := mwas) (mtext := mtext) (mtold := mtold) (mhasKept := mhasKept) (mwasMany := nI q) (manew := manew) (mthrown := mthrown) (mlength := mlength) (mspot := mspot) (mvalue := mvalue) (merror := merror) (mtolds := mtolds) hW hV hR hsr (hK s hsr).1 (hK s hsr).2 with ⟨r9, k', f', e', v', i', g', n', G', c0, c1, c2, c3, c4, c5, c6, c7⟩ | ⟨c1, c2⟩
    · have h3 := ih (s + 1) k' f' e' v' i' g' n' G' m1 m2 (by omega) (by omega) (by omega) c3 c4 (RF_congr hq c5 hF) c6
      rw [ec _ c1, em _ c2, bd_s]
      dsimp only
      rw [if_neg (ne_m1 c0), if_neg (by decide)]
      rcases h3 with ⟨k2, f2, e2, v2, i2, g2, n2, G2, d1, d2, d3, d4, d5, d6, d7⟩ | ⟨k2, f2, e2, v2, i2, g2, G2, d1, d2⟩
      · exact Or.inl ⟨k2, f2, e2, v2, i2, g2, n2, G2, d1, d2, d3, d4, d5, d6, fun K D h => d7 K D (c7 K D h)⟩
      · exact Or.inr ⟨k2, f2, e2, v2, i2, g2, G2, d1, d2⟩
    · right
      refine ⟨k, f, e, v, i, g, G, ?_, ?_⟩
      · rw [ec _ c1, bd_s]
        dsimp only
        rw [if_pos rfl, copyV_I hnb hb, bd_s]
      · rw [em _ c2]
        dsimp only
        rw [if_pos rfl, M_goesBack, bd_s, M_fails, bd_s]
theorem read_sim {u : Nat} {x : Int32} (hu : u ≤ 10) (hq : q ≤ 60) (hnb : nb ≤ 60) (hb : ∀ j, j < nb → (bg j = 0 ∨ bg j = 1) ∧ (bi j = 0 ∨ bi j = 1)) (hK : ∀ j, j < u → iK_ (qk j) ∧ iD_ (qd j)) (hT : ∀ j, j < u → mtold (3 * j) = qk j ∧ mtold (3 * j + 1) = qd j ∧ mtold (3 * j + 2) = qv j) :
    ∀ c s (k f e v i g : Nat → Int32) (n : Nat) (G : Nat → Int32) m1 m2, s + c = u → c < m1 → c < m2 → WV_ k f e i g n → RV_ k f e v i g n G → RF_ fk fd fa q G → RO_ rk rd rv 0 r G →
    (∃ (k' f' e' v' i' g' : Nat → Int32) (n' : Nat) (G' : Nat → Int32), f_X5_makeChangesT_L16 m1 (nI s) (nI u) (h1, h2, h3) () (k, f, e, v, i, g, nI n) (fk, fd, fa, fv, nI q) (rk, rd, rv, nI r) (bk, bf, be, bv, bi, bg, nI nb) (qk, qd, qv, nI u) = some (1, (h1, h2, fo_ (mv_ (onF_ k' f' e' g' n' fk fd) fv) q 0 0), (k', f', e', v', i', g', nI n'), (fk, fd, fa, (fun t => if t < q then onF_ k' f' e' g' n' fk fd t else fv t), nI q), (bk, bf, be, bv, bi, bg, nI nb)) ∧
      f_X6_read_L40 m2 (nI s) x (G, mkept, mspare, mhasKept, mwas, nI q, manew, mthrown, mtext, mlength, mspot, mvalue, merror, mtold, nI u) = some (nI u, (G', mkept, mspare, mhasKept, mwas, nI q, fo_ (mv_ (onF_ k' f' e' g' n' fk fd) mwas) q 0 0, mthrown, mtext, mlength, mspot, mvalue, merror, mtold, nI u)) ∧ WV_ k' f' e' i' g' n' ∧ RV_ k' f' e' v' i' g' n' G' ∧ RF_ fk fd fa q G' ∧ RO_ rk rd rv 0 r G' ∧ ∀ K D, cv_ k f e g n K D → cv_ k' f' e' g' n' K D) ∨
    (∃ (k' f' e' v' i' g' : Nat → Int32) (G' : Nat → Int32), f_X5_makeChangesT_L16 m1 (nI s) (nI u) (h1, h2, h3) () (k, f, e, v, i, g, nI n) (fk, fd, fa, fv, nI q) (rk, rd, rv, nI r) (bk, bf, be, bv, bi, bg, nI nb) (qk, qd, qv, nI u) = some (0, (h1, h2, h3), (cpy_ bk k' 0 nb, cpy_ bf f' 0 nb, cpy_ be e' 0 nb, cpy_ bv v' 0 nb, cpy_ bi i' 0 nb, cpy_ bg g' 0 nb, nI nb), (fk, fd, fa, fv, nI q), (bk, bf, be, bv, bi, bg, nI nb)) ∧
      f_X6_read_L40 m2 (nI s) x (G, mkept, mspare, mhasKept, mwas, nI q, manew, mthrown, mtext, mlength, mspot, mvalue, merror, mtold, nI u) = some (0, (cpy_ mspare G' 0 610, mkept, mspare, mhasKept, mwas, nI q, manew, 2, mtext, mlength, mspot, mvalue, merror, mtold, nI u))) := by
  intro c
  induction c with
  | zero =>
    intro s k f e v i g n G m1 m2 hs hm1 hm2 hW hV hF hR
    have hn := hW.1
    obtain ⟨m1, rfl⟩ := ex_S hm1
    obtain ⟨m2, rfl⟩ := ex_S hm2
    have hs' : s = u := hs
    subst hs'
    have hE := M_ends (mkept := mkept) (mspare := mspare) (mwas := mwas) (mtext := mtext) (mtold := mtold) (mhasKept := mhasKept) (manew := manew) (mthrown := mthrown) (mlength := mlength) (mspot := mspot) (mvalue := mvalue) (merror := merror) (mtolds := nI s) hW hV hq (fun t ht => ⟨(hF.2 t ht).1, (hF.2 t ht).2.1⟩)
    left
    refine ⟨k, f, e, v, i, g, n, G, ?_, ?_, hW, hV, hF, hR, fun _ _ h => h⟩
    · rw [e_X5_makeChangesT_L16]
      unfold f_X5_makeChangesT_S16
      dsimp only
      rw [if_pos (by rw [nI_leI (by omega) (by omega)]; omega), pointFacts_I hn hq, bd_s]
    · rw [e_X6_read_L40]
      unfold f_X6_read_S40
      dsimp only
      rw [if_pos (by rw [nI_leI (by omega) (by omega)]; omega), hE, bd_s]
  | succ c ih =>
    intro s k f e v i g n G m1 m2 hs hm1 hm2 hW hV hF hR
    have hn := hW.1
    obtain ⟨m1, rfl⟩ := ex_S hm1
    obtain ⟨m2, rfl⟩ := ex_S hm2
    have hsu : s < u := by omega
    obtain ⟨t1, t2, t3⟩ := hT s hsu
    have e3 : (3 : Int32) * nI s = nI (3 * s) := by
      refine Int32.toInt_inj.mp ?_
      rw [Int32.toInt_mul, show (3 : Int32).toInt = 3 by decide, nI_toInt (by omega), nI_toInt (by omega), Int.bmod_eq_of_le] <;> omega
    have ec : ∀ X, (f_X4_put (qk s) (qd s) (qv s) (k, f, e, v, i, g, nI n) = X) → f_X5_makeChangesT_L16 (m1 + 1) (nI s) (nI u) (h1, h2, h3) () (k, f, e, v, i, g, nI n) (fk, fd, fa, fv, nI q) (rk, rd, rv, nI r) (bk, bf, be, bv, bi, bg, nI nb) (qk, qd, qv, nI u) = bd_ X (fun (r42, (vk43, vf44, ve45, vv46, vi47, vg48, vm49)) =>
      if r42 = (-1) then
        bd_ (f_X4_copy (vk43, vf44, ve45, vv46, vi47, vg48, vm49) (bk, bf, be, bv, bi, bg, nI nb)) (fun (vk55, vf56, ve57, vv58, vi59, vg60, vm61) => some ((0 : Int32), (h1, h2, h3), (vk55, vf56, ve57, vv58, vi59, vg60, vm61), (fk, fd, fa, fv, nI q), (bk, bf, be, bv, bi, bg, nI nb)))
      else f_X5_makeChangesT_L16 m1 (nI (s + 1)) (nI u) (h1, h2, h3) () (vk43, vf44, ve45, vv46, vi47, vg48, vm49) (fk, fd, fa, fv, nI q) (rk, rd, rv, nI r) (bk, bf, be, bv, bi, bg, nI nb) (qk, qd, qv, nI u)) := fun X hX => by
      rw [e_X5_makeChangesT_L16]
      unfold f_X5_makeChangesT_S16
      dsimp only
      rw [if_neg (by rw [nI_leI (by omega) (by omega)]; omega), if_neg (by rw [nI_leI (by omega) (by omega)]; omega), gd_I (by omega) (by omega), gd_I (by omega) (by omega), gd_I (by omega) (by omega), cl_I (by omega), S_I, hX]
    have em : ∀ X, (f_X6_changes (qk s) (qd s) (qv s) (G, mkept, mspare, mhasKept, mwas, nI q, manew, mthrown, mtext, mlength, mspot, mvalue, merror, mtold, nI u) = some X) → f_X6_read_L40 (m2 + 1) (nI s) x (G, mkept, mspare, mhasKept, mwas, nI q, manew, mthrown, mtext, mlength, mspot, mvalue, merror, mtold, nI u) = (if 0 ≤ X.1 then f_X6_read_L40 m2 (nI (s + 1)) x X.2 else bd_ (f_X6_goesBack X.2) (fun M1 => bd_ (f_X6_fails 2 M1) (fun M2 => some (M2.1, M2.2)))) := fun X hX => by
      rw [e_X6_read_L40]
      unfold f_X6_read_S40
      dsimp only
      rw [if_neg (by rw [nI_leI (by omega) (by omega)]; omega), e3, S_I, S_I, show (nI (3 * s) + 2 : Int32) = nI (3 * s + 2) from nI_add (3 * s) 2, gd_I (by omega) (by omega), gd_I (by omega) (by omega), gd_I (by omega) (by omega), cl_I (by omega), cl_I (by omega), cl_I (by omega), t1, t2, t3, hX, bd_s]
    rcases put_ok (val := qv s) (mkept := mkept) (mspare := mspare) (mwas := mwas) (mtext := mtext) (mtold := mtold) (mhasKept := mhasKept) (mwasMany := nI q) (manew := manew) (mthrown := mthrown) (mlength := mlength) (mspot := mspot) (mvalue := mvalue) (merror := merror) (mtolds := nI u) hW hV (hK s hsu).1 (hK s hsu).2 with ⟨r9, k', f', e', v', i', g', n', G', c0, c1, c2, c3, c4, c5, c6⟩ | ⟨c1, c2⟩
    · have h3 := ih (s + 1) k' f' e' v' i' g' n' G' m1 m2 (by omega) (by omega) (by omega) c3 c4 (RF_congr hq (fun a ha => c5 a (by omega)) hF) (RO_congr (fun a ha => c5 a (by omega)) hR)
      rw [ec _ c1, em _ c2, bd_s]
      dsimp only
      rw [if_neg (ne_m1 c0), if_pos c0]
      rcases h3 with ⟨k2, f2, e2, v2, i2, g2, n2, G2, d1, d2, d3, d4, d5, d6, d7⟩ | ⟨k2, f2, e2, v2, i2, g2, G2, d1, d2⟩
      · exact Or.inl ⟨k2, f2, e2, v2, i2, g2, n2, G2, d1, d2, d3, d4, d5, d6, fun K D h => d7 K D (c6 K D h)⟩
      · exact Or.inr ⟨k2, f2, e2, v2, i2, g2, G2, d1, d2⟩
    · right
      refine ⟨k, f, e, v, i, g, G, ?_, ?_⟩
      · rw [ec _ c1, bd_s]
        dsimp only
        rw [if_pos rfl, copyV_I hnb hb, bd_s]
      · rw [em _ c2]
        dsimp only
        rw [if_neg (by decide), M_goesBack, bd_s, M_fails, bd_s]
end
