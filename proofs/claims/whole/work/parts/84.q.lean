/-! what is asked without a change: class and model -/
def QI_ (X : Option (Int32 × (Nat → Int64))) (Y : Option (Int32 × tM_)) (M0 : Int32 → tM_) : Prop := ∃ c b ov', X = some (c, ov') ∧ Y = some (b, M0 c) ∧ (c = 0 → ov' 0 = b.toInt64)
def QL_ (X : Option (Int32 × (Nat → Int64))) (Y : Option (Int64 × tM_)) (M0 : Int32 → tM_) : Prop := ∃ c b ov', X = some (c, ov') ∧ Y = some (b, M0 c) ∧ (c = 0 → ov' 0 = b)
def QB_ (X : Option (Int32 × (Nat → Int64))) (Y : Option (Int32 × tM_)) (M0 : Int32 → tM_) : Prop := ∃ c b ov', X = some (c, ov') ∧ Y = some (b, M0 c) ∧ (c = 0 → ov' 0 = (if b = 0 then 0 else 1))
def QD_ (X : Option (Int32 × (Nat → UInt64))) (Y : Option (UInt64 × tM_)) (M0 : Int32 → tM_) : Prop := ∃ c b pv', X = some (c, pv') ∧ Y = some (b, M0 c) ∧ (c = 0 → pv' 0 = b)
theorem updL_s {f : Nat → Int64} {x : Int64} : vp_updL f 0 x 0 = x := if_pos rfl
theorem no_1 {P : Prop} : (1 : Int32) = 0 → P := fun h => absurd h (by decide)
theorem no_2 {P : Prop} : (2 : Int32) = 0 → P := fun h => absurd h (by decide)
theorem no_3 {P : Prop} : (3 : Int32) = 0 → P := fun h => absurd h (by decide)
theorem no_4 {P : Prop} : (4 : Int32) = 0 → P := fun h => absurd h (by decide)
theorem found_m1 : f_X5_found (-1) = some (Except.error "java/util/NoSuchElementException") := rfl
theorem found_I {a : Nat} (h : a < 2 ^ 31) : f_X5_found (nI a) = some (Except.ok (nI a)) := by
  unfold f_X5_found
  rw [if_neg (by rw [m1_ne h]; exact fun h => h)]
theorem sw6_ (a : Int32) : a = 0 ∨ a = 1 ∨ a = 2 ∨ a = 3 ∨ a = 4 ∨ a = 5 ∨ ¬ (0 ≤ a.toInt ∧ a.toInt ≤ 5) := by
  by_cases h : 0 ≤ a.toInt ∧ a.toInt ≤ 5
  · have h1 : a.toInt = 0 ∨ a.toInt = 1 ∨ a.toInt = 2 ∨ a.toInt = 3 ∨ a.toInt = 4 ∨ a.toInt = 5 := by omega
    rcases h1 with h1 | h1 | h1 | h1 | h1 | h1
    · exact Or.inl (Int32.toInt_inj.mp h1)
    · exact Or.inr (Or.inl (Int32.toInt_inj.mp h1))
    · exact Or.inr (Or.inr (Or.inl (Int32.toInt_inj.mp h1)))
    · exact Or.inr (Or.inr (Or.inr (Or.inl (Int32.toInt_inj.mp h1))))
    · exact Or.inr (Or.inr (Or.inr (Or.inr (Or.inl (Int32.toInt_inj.mp h1)))))
    · exact Or.inr (Or.inr (Or.inr (Or.inr (Or.inr (Or.inl (Int32.toInt_inj.mp h1))))))
  · exact Or.inr (Or.inr (Or.inr (Or.inr (Or.inr (Or.inr h)))))
theorem top_I {n : Nat} (h : n < 2 ^ 31) : (nI n - 1).toInt = (n : Int) - 1 := by
  cases n with
  | zero => decide
  | succ n =>
    rw [nI_pred, nI_toInt (by omega)]
    omega
def ei_ (k f i g : Nat → Int32) (j : Nat) (b : Int32) : Int32 := if (g j = 0 ∧ ¬ i j = 0) ∧ (b = -1 ∨ f j < f b.toNatClampNeg ∨ (f j = f b.toNatClampNeg ∧ k j < k b.toNatClampNeg)) then nI j else b
section
variable {k f e v i g fk fd fa fv rk rd rv G mkept mspare mwas mtext mtold : Nat → Int32} {mhasKept mwasMany manew mthrown mlength mspot mvalue merror mtolds : Int32} {n q r : Nat} {h1 h2 h3 a1 a2 a3 rc : Int32} {ov : Nat → Int64} {pv : Nat → UInt64}
theorem ver_cases (hn : n ≤ 60) (hV : RV_ k f e v i g n G) (a : Int32) :
    (∃ j, j < n ∧ a = nI j ∧ g j = 0 ∧ f_X5_checkVersion a (h1, h2, h3) () (k, f, e, v, i, g, nI n) (fk, fd, fa, fv, nI q) (rk, rd, rv, rc) = some (Except.ok ()) ∧ f_X6_isVersion a (G, mkept, mspare, mhasKept, mwas, mwasMany, manew, mthrown, mtext, mlength, mspot, mvalue, merror, mtold, mtolds) = some 1) ∨
    (f_X5_checkVersion a (h1, h2, h3) () (k, f, e, v, i, g, nI n) (fk, fd, fa, fv, nI q) (rk, rd, rv, rc) = some (Except.error "java/lang/IndexOutOfBoundsException") ∧ f_X6_isVersion a (G, mkept, mspare, mhasKept, mwas, mwasMany, manew, mthrown, mtext, mlength, mspot, mvalue, merror, mtold, mtolds) = some 0) := by
  unfold f_X5_checkVersion f_X6_isVersion
  dsimp only
  rw [gd_0, cl_0, hV.1]
  by_cases h : 0 ≤ a.toInt ∧ a.toInt ≤ (n : Int) - 1
  · obtain ⟨j, hj, rfl⟩ := I_of h.1
    rw [nI_toInt hj] at h
    have hj : j < n := by omega
    rw [has_I hn hj, bd_s, in_T z0_ (top_I (by omega)) (by rw [nI_toInt (by omega)]; exact h), bd_s, if_neg (show ¬ (1 : Int32) = 0 by decide), of_10, gd_I (by omega) (by omega), cl_I (by omega), (hV.2 j hj).1]
    by_cases hg : g j = 0
    · rw [if_pos hg, if_neg (by decide), if_pos rfl]
      exact Or.inl ⟨j, hj, rfl, hg, rfl, rfl⟩
    · rw [if_neg hg, if_pos rfl, if_neg (by decide)]
      exact Or.inr ⟨rfl, rfl⟩
  · rw [has_O (by rw [c_lt z0_, c_ge (z := (n : Int)) (nI_toInt (by omega))]; omega), bd_s, if_pos rfl, in_F z0_ (top_I (by omega)) h, bd_s, if_pos rfl]
    exact Or.inr ⟨rfl, rfl⟩
theorem q_versionsOf (hn : n ≤ 60) (hV : RV_ k f e v i g n G) : QI_ (f_L_versionsOf a1 (h1, h2, h3) () (k, f, e, v, i, g, nI n) (fk, fd, fa, fv, nI q) (rk, rd, rv, rc) ov) (f_X6_versionsOf a1 (G, mkept, mspare, mhasKept, mwas, mwasMany, manew, mthrown, mtext, mlength, mspot, mvalue, merror, mtold, mtolds)) (fun c => (G, mkept, mspare, mhasKept, mwas, mwasMany, manew, c, mtext, mlength, mspot, mvalue, merror, mtold, mtolds)) := by
  by_cases hk : iK_ a1
  · refine ⟨0, _, _, lw_versionsOf_ok a1 (r := fo_ (cn_ k g a1) n 0 0) ?_, ?_, fun _ => updL_s⟩
    · unfold f_X5_versionsOf
      dsimp only
      rw [key_T hk, bd_s]
      dsimp only
      rw [countOf_I hn, bd_s]
    · unfold f_X6_versionsOf
      dsimp only
      rw [mkey_T hk, bd_s, if_neg (by decide), M_many hn hV, bd_s]
  · refine ⟨1, 0, _, lw_versionsOf_e1 a1 ?_, ?_, no_1⟩
    · unfold f_X5_versionsOf
      dsimp only
      rw [key_F hk, bd_s]
    · unfold f_X6_versionsOf
      dsimp only
      rw [mkey_F hk, bd_s, if_pos rfl, M_fails, bd_s]
theorem q_versionAt (hW : WV_ k f e i g n) (hV : RV_ k f e v i g n G) : QI_ (f_L_versionAt a1 a2 (h1, h2, h3) () (k, f, e, v, i, g, nI n) (fk, fd, fa, fv, nI q) (rk, rd, rv, rc) ov) (f_X6_versionAt a1 a2 (G, mkept, mspare, mhasKept, mwas, mwasMany, manew, mthrown, mtext, mlength, mspot, mvalue, merror, mtold, mtolds)) (fun c => (G, mkept, mspare, mhasKept, mwas, mwasMany, manew, c, mtext, mlength, mspot, mvalue, merror, mtold, mtolds)) := by
  have hn := hW.1
  by_cases hk : iK_ a1
  · obtain ⟨x, hx, hc, hm⟩ := at_eq (key := a1) (mkept := mkept) (mspare := mspare) (mwas := mwas) (mtext := mtext) (mtold := mtold) (mhasKept := mhasKept) (mwasMany := mwasMany) (manew := manew) (mthrown := 0) (mlength := mlength) (mspot := mspot) (mvalue := mvalue) (merror := merror) (mtolds := mtolds) hW hV a2
    rcases hx with rfl | ⟨a, ha, rfl⟩
    · refine ⟨2, 0, _, lw_versionAt_e2 a1 a2 ?_, ?_, no_2⟩
      · unfold f_X5_versionAt
        dsimp only
        rw [key_T hk, bd_s]
        dsimp only
        rw [hc, bd_s, found_m1, bd_s]
      · unfold f_X6_versionAt
        dsimp only
        rw [mkey_T hk, bd_s, if_neg (by decide), hm, bd_s, if_neg (by decide), M_fails, bd_s]
    · refine ⟨0, _, _, lw_versionAt_ok a1 a2 (r := nI a) ?_, ?_, fun _ => updL_s⟩
      · unfold f_X5_versionAt
        dsimp only
        rw [key_T hk, bd_s]
        dsimp only
        rw [hc, bd_s, found_I (by omega), bd_s]
      · unfold f_X6_versionAt
        dsimp only
        rw [mkey_T hk, bd_s, if_neg (by decide), hm, bd_s, if_pos (nI_pos' (by omega))]
  · refine ⟨1, 0, _, lw_versionAt_e1 a1 a2 ?_, ?_, no_1⟩
    · unfold f_X5_versionAt
      dsimp only
      rw [key_F hk, bd_s]
    · unfold f_X6_versionAt
      dsimp only
      rw [mkey_F hk, bd_s, if_pos rfl, M_fails, bd_s]
theorem q_validOn (hW : WV_ k f e i g n) (hV : RV_ k f e v i g n G) : QI_ (f_L_validOn a1 a2 (h1, h2, h3) () (k, f, e, v, i, g, nI n) (fk, fd, fa, fv, nI q) (rk, rd, rv, rc) ov) (f_X6_validOn a1 a2 (G, mkept, mspare, mhasKept, mwas, mwasMany, manew, mthrown, mtext, mlength, mspot, mvalue, merror, mtold, mtolds)) (fun c => (G, mkept, mspare, mhasKept, mwas, mwasMany, manew, c, mtext, mlength, mspot, mvalue, merror, mtold, mtolds)) := by
  have hn := hW.1
  by_cases hk : iK_ a1
  · by_cases hd : iD_ a2
    · rcases on_spec (k := k) (f := f) (e := e) (g := g) (n := n) a1 a2 with ⟨hx, -⟩ | ⟨j, hj, -, hx⟩
      · refine ⟨3, 0, _, lw_validOn_e3 a1 a2 ?_, ?_, no_3⟩
        · unfold f_X5_validOn
          dsimp only
          rw [key_T hk, bd_s]
          dsimp only
          rw [day_T hd, bd_s]
          dsimp only
          rw [onDay_I hn, bd_s, hx, found_m1, bd_s]
        · unfold f_X6_validOn
          dsimp only
          rw [mkey_T hk, bd_s, if_neg (by decide), mday_T hd, bd_s, if_neg (by decide), M_valid hW hV, bd_s, hx, if_neg (by decide)]
      · refine ⟨0, _, _, lw_validOn_ok a1 a2 (r := nI j) ?_, ?_, fun _ => updL_s⟩
        · unfold f_X5_validOn
          dsimp only
          rw [key_T hk, bd_s]
          dsimp only
          rw [day_T hd, bd_s]
          dsimp only
          rw [onDay_I hn, bd_s, hx, found_I (by omega), bd_s]
        · unfold f_X6_validOn
          dsimp only
          rw [mkey_T hk, bd_s, if_neg (by decide), mday_T hd, bd_s, if_neg (by decide), M_valid hW hV, bd_s, hx, if_pos (nI_pos' (by omega)), M_valid hW hV, bd_s, hx]
    · refine ⟨2, 0, _, lw_validOn_e2 a1 a2 ?_, ?_, no_2⟩
      · unfold f_X5_validOn
        dsimp only
        rw [key_T hk, bd_s]
        dsimp only
        rw [day_F hd, bd_s]
      · unfold f_X6_validOn
        dsimp only
        rw [mkey_T hk, bd_s, if_neg (by decide), mday_F hd, bd_s, if_pos rfl]
  · refine ⟨1, 0, _, lw_validOn_e1 a1 a2 ?_, ?_, no_1⟩
    · unfold f_X5_validOn
      dsimp only
      rw [key_F hk, bd_s]
    · unfold f_X6_validOn
      dsimp only
      rw [mkey_F hk, bd_s, if_pos rfl]
theorem q_nextAfter (hn : n ≤ 60) (hV : RV_ k f e v i g n G) : QI_ (f_L_nextAfter a1 a2 (h1, h2, h3) () (k, f, e, v, i, g, nI n) (fk, fd, fa, fv, nI q) (rk, rd, rv, rc) ov) (f_X6_nextAfter a1 a2 (G, mkept, mspare, mhasKept, mwas, mwasMany, manew, mthrown, mtext, mlength, mspot, mvalue, merror, mtold, mtolds)) (fun c => (G, mkept, mspare, mhasKept, mwas, mwasMany, manew, c, mtext, mlength, mspot, mvalue, merror, mtold, mtolds)) := by
  by_cases hk : iK_ a1
  · by_cases hd : iD_ a2
    · rcases nx_in (k := k) (f := f) (g := g) hn a1 a2 with hx | ⟨j, hj, hx, -⟩
      · refine ⟨3, 0, _, lw_nextAfter_e3 a1 a2 ?_, ?_, no_3⟩
        · unfold f_X5_nextAfter
          dsimp only
          rw [key_T hk, bd_s]
          dsimp only
          rw [day_T hd, bd_s]
          dsimp only
          rw [next_I hn, bd_s, hx, found_m1, bd_s]
        · unfold f_X6_nextAfter
          dsimp only
          rw [mkey_T hk, bd_s, if_neg (by decide), mday_T hd, bd_s, if_neg (by decide), M_following hn hV, bd_s, hx, if_neg (by decide)]
      · refine ⟨0, _, _, lw_nextAfter_ok a1 a2 (r := nI j) ?_, ?_, fun _ => updL_s⟩
        · unfold f_X5_nextAfter
          dsimp only
          rw [key_T hk, bd_s]
          dsimp only
          rw [day_T hd, bd_s]
          dsimp only
          rw [next_I hn, bd_s, hx, found_I (by omega), bd_s]
        · unfold f_X6_nextAfter
          dsimp only
          rw [mkey_T hk, bd_s, if_neg (by decide), mday_T hd, bd_s, if_neg (by decide), M_following hn hV, bd_s, hx, if_pos (nI_pos' (by omega)), M_following hn hV, bd_s, hx]
    · refine ⟨2, 0, _, lw_nextAfter_e2 a1 a2 ?_, ?_, no_2⟩
      · unfold f_X5_nextAfter
        dsimp only
        rw [key_T hk, bd_s]
        dsimp only
        rw [day_F hd, bd_s]
      · unfold f_X6_nextAfter
        dsimp only
        rw [mkey_T hk, bd_s, if_neg (by decide), mday_F hd, bd_s, if_pos rfl]
  · refine ⟨1, 0, _, lw_nextAfter_e1 a1 a2 ?_, ?_, no_1⟩
    · unfold f_X5_nextAfter
      dsimp only
      rw [key_F hk, bd_s]
    · unfold f_X6_nextAfter
      dsimp only
      rw [mkey_F hk, bd_s, if_pos rfl]
theorem days_I {j : Nat} (hn : n ≤ 60) (hj : j < n) (hg : g j = 0) : f_X4_days (nI j) (k, f, e, v, i, g, nI n) = some (e j - f j) := by
  unfold f_X4_days
  dsimp only
  rw [has_I hn hj, bd_s, if_pos hg, if_neg (by decide), gd_I (by omega) (by omega), gd_I (by omega) (by omega), cl_I (by omega)]
theorem q_version (hW : WV_ k f e i g n) (hV : RV_ k f e v i g n G) (hI : FI_ k f e g n fk fd fv q) (hF : RF_ fk fd fa q G) : QI_ (f_L_version a1 a2 (h1, h2, h3) () (k, f, e, v, i, g, nI n) (fk, fd, fa, fv, nI q) (rk, rd, rv, rc) ov) (f_X6_version a1 a2 (G, mkept, mspare, mhasKept, mwas, mwasMany, manew, mthrown, mtext, mlength, mspot, mvalue, merror, mtold, mtolds)) (fun c => (G, mkept, mspare, mhasKept, mwas, mwasMany, manew, c, mtext, mlength, mspot, mvalue, merror, mtold, mtolds)) := by
  have hn := hW.1
  rcases ver_cases (fk := fk) (fd := fd) (fa := fa) (fv := fv) (q := q) (rk := rk) (rd := rd) (rv := rv) (rc := rc) (h1 := h1) (h2 := h2) (h3 := h3) (mkept := mkept) (mspare := mspare) (mwas := mwas) (mtext := mtext) (mtold := mtold) (mhasKept := mhasKept) (mwasMany := mwasMany) (manew := manew) (mthrown := 0) (mlength := mlength) (mspot := mspot) (mvalue := mvalue) (merror := merror) (mtolds := mtolds) hn hV a1 with ⟨j, hj, rfl, hg, hc, hm⟩ | ⟨hc, hm⟩
  · obtain ⟨-, p1, p2, p3, p4, -⟩ := hV.2 j hj
    have gd6 : ∀ (x : Nat) (X : Option Int32), x + j < 610 → gd_ (nI (x + j)) 610 X = X := fun x X h => gd_I h (by omega)
    have go : ∀ (b : Int32) (X : Int32), f_X6_in a2 0 5 = some 1 → f_X6_versionTold (nI j) a2 (G, mkept, mspare, mhasKept, mwas, mwasMany, manew, 0, mtext, mlength, mspot, mvalue, merror, mtold, mtolds) = some X → f_X5_version (nI j) a2 (h1, h2, h3) () (k, f, e, v, i, g, nI n) (fk, fd, fa, fv, nI q) (rk, rd, rv, rc) = some (Except.ok X) → QI_ (f_L_version (nI j) a2 (h1, h2, h3) () (k, f, e, v, i, g, nI n) (fk, fd, fa, fv, nI q) (rk, rd, rv, rc) ov) (f_X6_version (nI j) a2 (G, mkept, mspare, mhasKept, mwas, mwasMany, manew, mthrown, mtext, mlength, mspot, mvalue, merror, mtold, mtolds)) (fun c => (G, mkept, mspare, mhasKept, mwas, mwasMany, manew, c, mtext, mlength, mspot, mvalue, merror, mtold, mtolds)) := fun b X q1 q2 q3 => by
      refine ⟨0, _, _, lw_version_ok (nI j) a2 q3, ?_, fun _ => updL_s⟩
      unfold f_X6_version
      dsimp only
      rw [hm, bd_s, if_neg (by decide), q1, bd_s, if_neg (by decide), q2, bd_s]
    have hcl : (nI j).toNatClampNeg = j := cl_I (by omega)
    rcases sw6_ a2 with rfl | rfl | rfl | rfl | rfl | rfl | h
    · refine go 0 (k j) (by decide) ?_ ?_
      · unfold f_X6_versionTold
        dsimp only
        rw [if_pos rfl, of_70, gd_I (by omega) (by omega), cl_I (by omega), p1]
      · unfold f_X5_version
        dsimp only
        rw [hc, bd_s]
        dsimp only
        rw [if_pos rfl, gd_I (by omega) (by omega), hcl]
    · refine go 0 (f j) (by decide) ?_ ?_
      · unfold f_X6_versionTold
        dsimp only
        rw [if_neg (by decide), if_pos rfl, of_130, gd_I (by omega) (by omega), cl_I (by omega), p2]
      · unfold f_X5_version
        dsimp only
        rw [hc, bd_s]
        dsimp only
        rw [if_neg (by decide), if_pos rfl, gd_I (by omega) (by omega), hcl]
    · refine go 0 (e j) (by decide) ?_ ?_
      · unfold f_X6_versionTold
        dsimp only
        rw [if_neg (by decide), if_neg (by decide), if_pos rfl, of_190, gd_I (by omega) (by omega), cl_I (by omega), p3]
      · unfold f_X5_version
        dsimp only
        rw [hc, bd_s]
        dsimp only
        rw [if_neg (by decide), if_neg (by decide), if_pos rfl, gd_I (by omega) (by omega), hcl]
    · refine go 0 (v j) (by decide) ?_ ?_
      · unfold f_X6_versionTold
        dsimp only
        rw [if_neg (by decide), if_neg (by decide), if_neg (by decide), if_pos rfl, of_250, gd_I (by omega) (by omega), cl_I (by omega), p4]
      · unfold f_X5_version
        dsimp only
        rw [hc, bd_s]
        dsimp only
        rw [if_neg (by decide), if_neg (by decide), if_neg (by decide), if_pos rfl, gd_I (by omega) (by omega), hcl]
    · refine go 0 (nI (cf_ (fun t => decide (fv t = nI j)) q 0)) (by decide) ?_ ?_
      · unfold f_X6_versionTold
        dsimp only
        rw [if_neg (by decide), if_neg (by decide), if_neg (by decide), if_neg (by decide), if_pos rfl, M_factsOf hW hV hI.1 hF, bd_s, cf_on0 hI]
      · unfold f_X5_version
        dsimp only
        rw [hc, bd_s]
        dsimp only
        rw [if_neg (by decide), if_neg (by decide), if_neg (by decide), if_neg (by decide), if_pos rfl, F_countOf hI.1, bd_s]
    · refine go 0 (e j - f j) (by decide) ?_ ?_
      · unfold f_X6_versionTold
        dsimp only
        rw [if_neg (by decide), if_neg (by decide), if_neg (by decide), if_neg (by decide), if_neg (by decide), of_190, of_130, gd_I (by omega) (by omega), gd_I (by omega) (by omega), cl_I (by omega), cl_I (by omega), p2, p3]
      · unfold f_X5_version
        dsimp only
        rw [hc, bd_s]
        dsimp only
        rw [if_neg (by decide), if_neg (by decide), if_neg (by decide), if_neg (by decide), if_neg (by decide), if_pos rfl, days_I hn hj hg, bd_s]
    · have hz : ∀ z : Int32, 0 ≤ z.toInt ∧ z.toInt ≤ 5 → ¬ a2 = z := fun z hz he => h (by rw [he]; exact hz)
      refine ⟨2, 0, _, lw_version_e2 (nI j) a2 ?_, ?_, no_2⟩
      · unfold f_X5_version
        dsimp only
        rw [hc, bd_s]
        dsimp only
        rw [if_neg (hz 0 (by decide)), if_neg (hz 1 (by decide)), if_neg (hz 2 (by decide)), if_neg (hz 3 (by decide)), if_neg (hz 4 (by decide)), if_neg (hz 5 (by decide))]
      · unfold f_X6_version
        dsimp only
        rw [hm, bd_s, if_neg (by decide), in_F z0_ (show (5 : Int32).toInt = 5 by decide) h, bd_s, if_pos rfl, M_fails, bd_s]
  · refine ⟨1, 0, _, lw_version_e1 a1 a2 ?_, ?_, no_1⟩
    · unfold f_X5_version
      dsimp only
      rw [hc, bd_s]
    · unfold f_X6_version
      dsimp only
      rw [hm, bd_s, if_pos rfl, M_fails, bd_s]
theorem q_isInferred (hW : WV_ k f e i g n) (hV : RV_ k f e v i g n G) : QB_ (f_L_isInferred a1 (h1, h2, h3) () (k, f, e, v, i, g, nI n) (fk, fd, fa, fv, nI q) (rk, rd, rv, rc) ov) (f_X6_isInferred a1 (G, mkept, mspare, mhasKept, mwas, mwasMany, manew, mthrown, mtext, mlength, mspot, mvalue, merror, mtold, mtolds)) (fun c => (G, mkept, mspare, mhasKept, mwas, mwasMany, manew, c, mtext, mlength, mspot, mvalue, merror, mtold, mtolds)) := by
  have hn := hW.1
  rcases ver_cases (fk := fk) (fd := fd) (fa := fa) (fv := fv) (q := q) (rk := rk) (rd := rd) (rv := rv) (rc := rc) (h1 := h1) (h2 := h2) (h3 := h3) (mkept := mkept) (mspare := mspare) (mwas := mwas) (mtext := mtext) (mtold := mtold) (mhasKept := mhasKept) (mwasMany := mwasMany) (manew := manew) (mthrown := mthrown) (mlength := mlength) (mspot := mspot) (mvalue := mvalue) (merror := merror) (mtolds := mtolds) hn hV a1 with ⟨j, hj, rfl, hg, hc, hm⟩ | ⟨hc, hm⟩
  · have hi := (hV.2 j hj).2.2.2.2.2
    have hb := (hW.2.1 j hj).2
    refine ⟨0, i j, _, lw_isInferred_ok (nI j) (r := i j) ?_, ?_, fun _ => updL_s⟩
    · unfold f_X5_isInferred
      dsimp only
      rw [hc, bd_s]
      dsimp only
      rw [gd_I (by omega) (by omega), cl_I (by omega)]
      exact if_pos hb
    · unfold f_X6_isInferred
      dsimp only
      rw [hm, bd_s, if_neg (by decide), of_310, gd_I (by omega) (by omega), cl_I (by omega), hi]
      rcases hb with hb | hb
      · rw [hb, if_neg (by decide)]
      · rw [hb, if_pos rfl]
  · refine ⟨1, 0, _, lw_isInferred_e1 a1 ?_, ?_, no_1⟩
    · unfold f_X5_isInferred
      dsimp only
      rw [hc, bd_s]
    · unfold f_X6_isInferred
      dsimp only
      rw [hm, bd_s, if_pos rfl]
end
