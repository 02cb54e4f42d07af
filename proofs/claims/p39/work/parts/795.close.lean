/-! closing -/
theorem sc_spec {p : Nat → Bool} : ∀ c j, j ≤ sc_ p c j ∧ sc_ p c j ≤ j + c ∧ (∀ i, j ≤ i → i < sc_ p c j → p i = false) ∧ (sc_ p c j < j + c → p (sc_ p c j) = true) := by
  intro c
  induction c with
  | zero => intro j; exact ⟨Nat.le_refl _, Nat.le_refl _, fun i a b => absurd b (Nat.not_lt.mpr a), fun h => absurd h (Nat.lt_irrefl _)⟩
  | succ c ih =>
    intro j
    by_cases hp : p j = true
    · have e : sc_ p (c + 1) j = j := if_pos hp
      rw [e]
      exact ⟨Nat.le_refl _, by omega, fun i a b => by omega, fun _ => hp⟩
    · have e : sc_ p (c + 1) j = sc_ p c (j + 1) := if_neg hp
      obtain ⟨h1, h2, h3, h4⟩ := ih (j + 1)
      rw [e]
      refine ⟨by omega, by omega, fun i a b => ?_, fun h => h4 (by omega)⟩
      by_cases q : i = j
      · rw [q]; cases hq : p j with
        | true => exact absurd hq hp
        | false => rfl
      · exact h3 i (by omega) b
theorem ex_run {y : Nat → Int32} {x : Int32} {day : Nat} (hd : day ≤ 1000) : ∃ T, day ≤ T ∧ T ≤ 1000 ∧ (∀ i, day ≤ i → i < T → y i = x) ∧ (T < 1000 → ¬ y T = x) := by
  obtain ⟨h1, h2, h3, h4⟩ := sc_spec (p := fun d => decide (¬ y d = x)) (1000 - day) day
  refine ⟨_, h1, by omega, fun i a b => ?_, fun h => of_decide_eq_true (h4 (by omega))⟩
  have := of_decide_eq_false (h3 i a b)
  exact Classical.not_not.mp this
section
variable {k f e v i g k' f' e' v' i' g' fk fd fa fv wv wv' xv uv : Nat → Int32} {n n' q K L key day m mw : Nat} {zv zv' : Nat → Nat → Int32} {h1 h2 h3 rc l2 l3 l7 l8 l9 l10 l11 l12 l13 l14 l16 l17 : Int32} {rk rd rv xs : Nat → Int32}
theorem JF_next2 (hF : JF_ K k f e g n fk fd fa fv q xv) (hJ' : JV_ K k' f' e' v' i' g' n' zv' wv') (hc : ∀ t, t < q → ∀ a b, a < K → b < 1000 → fk t = nI a → fd t = nI b → ¬ zv' a b = -1) :
    JF_ K k' f' e' g' n' fk fd fa (fun t => if t < q then onF_ k' f' e' g' n' fk fd t else fv t) q xv := by
  refine ⟨⟨hF.1.1, fun t ht => ?_⟩, hF.2.1, hF.2.2⟩
  obtain ⟨a, b, ha, hb, e1, e2⟩ := fact_at hF ht
  obtain ⟨c1, c2, c3, c4⟩ := hF.1.2 t ht
  refine ⟨c1, c2, ?_, if_pos ht⟩
  rw [e1, e2]
  refine (dy_cv hJ'.1.1).mp ?_
  rw [← hJ'.2.2.1 a b ha hb]
  exact hc t ht a b ha hb e1 e2
theorem JM_of (hu : ∀ t, t < q → uv t = fv t) : JM_ q q (fo_ (mv_ (onF_ k' f' e' g' n' fk fd) fv) q 0 0) k' f' e' g' n' fk fd uv :=
  ⟨Nat.le_refl _, fo_congr _ _ _ (fun t a _ ht => by unfold mv_; rw [hu t (by omega)])⟩
/-! what the class answers -/
theorem close_N (hn : n ≤ 60) (hk : key < 8) (hd : day < 1000) (hx : fs_ (pOn_ k f e g (nI key) (nI day)) n 0 = -1) : f_L_close (nI key) (nI day) (h1, h2, h3) () (k, f, e, v, i, g, nI n) (fk, fd, fa, fv, nI q) (rk, rd, rv, rc) = some ((-3 : Int32), (h1, h2, h3), (k, f, e, v, i, g, nI n), (fk, fd, fa, fv, nI q)) := by
  unfold f_L_close f_X5_close
  dsimp only
  rw [key_T (iK_I hk), bd_s]
  dsimp only
  rw [day_T (iD_I hd), bd_s]
  dsimp only
  rw [onDay_I hn, bd_s, hx, if_pos rfl, bd_s]
  dsimp only
  rw [if_neg (by decide), if_neg (by decide), if_pos rfl]
theorem close_S (hn : n ≤ 60) (hk : key < 8) (hd : day < 1000) (hq : q ≤ 60) {j : Nat} (hj : j < n) (hx : fs_ (pOn_ k f e g (nI key) (nI day)) n 0 = nI j) (hb : f j = nI day ∨ ¬ cf_ (fun t => decide (¬ fd t < nI day ∧ fv t = nI j)) q 0 = 0) : f_L_close (nI key) (nI day) (h1, h2, h3) () (k, f, e, v, i, g, nI n) (fk, fd, fa, fv, nI q) (rk, rd, rv, rc) = some ((-4 : Int32), (h1, h2, h3), (k, f, e, v, i, g, nI n), (fk, fd, fa, fv, nI q)) := by
  have h0 : f_X5_close (nI key) (nI day) (h1, h2, h3) () (k, f, e, v, i, g, nI n) (fk, fd, fa, fv, nI q) (rk, rd, rv, rc) = some (Except.error "java/lang/IllegalStateException", (h1, h2, h3), (k, f, e, v, i, g, nI n), (fk, fd, fa, fv, nI q)) := by
    unfold f_X5_close
    dsimp only
    rw [key_T (iK_I hk), bd_s]
    dsimp only
    rw [day_T (iD_I hd), bd_s]
    dsimp only
    rw [onDay_I hn, bd_s, hx, if_neg (nI_m1 (by omega)), gd_I (by omega) (by omega), cl_I (by omega)]
    by_cases h : f j = nI day
    · rw [if_pos h]
    · rw [if_neg h, F_pointFrom hq, bd_s, if_neg (hb.resolve_left h), if_neg (by decide)]
  unfold f_L_close
  dsimp only
  rw [h0, bd_s]
  dsimp only
  rw [if_neg (by decide), if_neg (by decide), if_neg (by decide), if_pos rfl]
theorem close_K (hn : n ≤ 60) (hk : key < 8) (hd : day < 1000) (hq : q ≤ 60) {j : Nat} (hj : j < n) (hx : fs_ (pOn_ k f e g (nI key) (nI day)) n 0 = nI j) (ha : ¬ f j = nI day) (hb : cf_ (fun t => decide (¬ fd t < nI day ∧ fv t = nI j)) q 0 = 0) :
    f_L_close (nI key) (nI day) (h1, h2, h3) () (k, f, e, v, i, g, nI n) (fk, fd, fa, fv, nI q) (rk, rd, rv, rc) = some (e j, (h1, h2, fo_ (mv_ (onF_ k f (upd e j (nI day)) g n fk fd) fv) q 0 0), (k, f, upd e j (nI day), v, i, g, nI n), (fk, fd, fa, (fun t => if t < q then onF_ k f (upd e j (nI day)) g n fk fd t else fv t), nI q)) := by
  have h0 : f_X5_close (nI key) (nI day) (h1, h2, h3) () (k, f, e, v, i, g, nI n) (fk, fd, fa, fv, nI q) (rk, rd, rv, rc) = some (Except.ok (e j), (h1, h2, fo_ (mv_ (onF_ k f (upd e j (nI day)) g n fk fd) fv) q 0 0), (k, f, upd e j (nI day), v, i, g, nI n), (fk, fd, fa, (fun t => if t < q then onF_ k f (upd e j (nI day)) g n fk fd t else fv t), nI q)) := by
    unfold f_X5_close
    dsimp only
    rw [key_T (iK_I hk), bd_s]
    dsimp only
    rw [day_T (iD_I hd), bd_s]
    dsimp only
    rw [onDay_I hn, bd_s, hx, if_neg (nI_m1 (by omega)), gd_I (by omega) (by omega), cl_I (by omega), if_neg ha, F_pointFrom hq, bd_s, if_pos hb, if_pos rfl, gd_I (by omega) (by omega), gd_I (by omega) (by omega), nm_s, pointFacts_I hn hq, bd_s]
  unfold f_L_close
  dsimp only
  rw [h0, bd_s]
/-! the law's loops -/
theorem B3_end {kx : Int32 → Int32 → Int32 → Int32 → Int32 → Int32 → Int32 → Int32 → Int32 → Int32 → Int32 → Int32 →  tD_ → tS_ → tV_ → tF_ → tR_ → tI_ → tI_ → tY_ → tI_ → tZ_ → Option Unit} {T : Nat} (hk : key < K) (hK : K ≤ 3) (hT : T ≤ 1000) (h1' : ∀ d, day ≤ d → d < T → zv key d = l16) (h2' : T < 1000 → ¬ zv key T = l16) : ∀ c m' d, d + c = T → c < m' → day ≤ d →
    f_law_B3_L381 xs L K mw kx m' l2 l3 l7 l8 l9 l10 l11 (nI key) l13 l14 l16 (nI d) (h1, h2, h3) () (k, f, e, v, i, g, nI n) (fk, fd, fa, fv, nI q) (rk, rd, rv, rc) wv xv () uv zv = kx l2 l3 l7 l8 l9 l10 l11 (nI key) l13 l14 l16 (nI T) (h1, h2, h3) () (k, f, e, v, i, g, nI n) (fk, fd, fa, fv, nI q) (rk, rd, rv, rc) wv xv () uv zv := by
  intro c
  induction c with
  | zero =>
    intro m' d g1 g2 g3
    obtain ⟨m', rfl⟩ := ex_S g2
    have e : d = T := by omega
    subst e
    rw [e_law_B3_L381]
    unfold f_law_B3_S381
    dsimp only
    by_cases h6 : 1000 ≤ d
    · rw [if_pos (by rw [le_1000 (by omega)]; exact h6)]
    · rw [if_neg (by rw [le_1000 (by omega)]; exact h6), gd_I hk (by omega), gd_I (by omega) (by omega), cl_I (show key < 2 ^ 31 by omega), cl_I (show d < 2 ^ 31 by omega), if_neg (h2' (by omega))]
  | succ c ih =>
    intro m' d g1 g2 g3
    obtain ⟨m', rfl⟩ := ex_S g2
    rw [e_law_B3_L381]
    unfold f_law_B3_S381
    dsimp only
    rw [if_neg (by rw [le_1000 (by omega)]; omega), gd_I hk (by omega), gd_I (by omega) (by omega), cl_I (show key < 2 ^ 31 by omega), cl_I (show d < 2 ^ 31 by omega), if_pos (h1' d g3 (by omega)), S_I]
    exact ih m' (d + 1) (by omega) (by omega) (by omega)
def bd3_ (fk fd : Nat → Int32) (key day b : Nat) (t : Nat) : Bool := decide (fk t = nI key ∧ ¬ fd t < nI day ∧ fd t < nI b)
theorem B3_facts {kx : Int32 → Int32 → Int32 → Int32 → Int32 → Int32 → Int32 → Int32 → Int32 → Int32 → Int32 → Int32 → Int32 → Int32 →  tD_ → tS_ → tV_ → tF_ → tR_ → tI_ → tI_ → tY_ → tI_ → tZ_ → Option Unit} {b : Nat} (hJ : JV_ K k f e v i g n zv wv) (hF : JF_ K k f e g n fk fd fa fv q xv) (hK : K ≤ 3) : ∀ c m' t (x : Int32), t + c = q → c < m' → (x = 0 ∨ x = 1) →
    f_law_B3_L443 xs L K mw kx m' l2 l3 l7 (nI q) l9 l10 l11 (nI key) (nI day) l14 l16 (nI b) x (nI t) (h1, h2, h3) () (k, f, e, v, i, g, nI n) (fk, fd, fa, fv, nI q) (rk, rd, rv, rc) wv xv () uv zv = kx l2 l3 l7 (nI q) l9 l10 l11 (nI key) (nI day) l14 l16 (nI b) (if cf_ (bd3_ fk fd key day b) c t = 0 then x else 0) (nI q) (h1, h2, h3) () (k, f, e, v, i, g, nI n) (fk, fd, fa, fv, nI q) (rk, rd, rv, rc) wv xv () uv zv := by
  have hq : q ≤ 60 := hF.1.1
  intro c
  induction c with
  | zero =>
    intro m' t x g1 g2 g3
    obtain ⟨m', rfl⟩ := ex_S g2
    rw [e_law_B3_L443]
    unfold f_law_B3_S443
    dsimp only
    rw [if_pos (k_le (by omega) (by omega) (by omega)), show t = q by omega, show cf_ (bd3_ fk fd key day b) 0 q = 0 from rfl, if_pos rfl]
  | succ c ih =>
    intro m' t x g1 g2 g3
    obtain ⟨m', rfl⟩ := ex_S g2
    have hx := hF.2.2 t (by omega)
    rw [e_law_B3_L443]
    unfold f_law_B3_S443
    dsimp only
    rw [if_neg (k_nle (by omega) (by omega) (by omega))]
    simp only [m3_I, S_I]
    rw [gd_I (by omega) (by omega), cl_I (show 3 * t < 2 ^ 31 by omega), hx.1, gd_I (by omega) (by omega), cl_I (show 3 * t + 1 < 2 ^ 31 by omega), hx.2.1]
    unfold f_law_B3_J497
    dsimp only
    rw [S_I]
    have e0 : x &&& 0 = 0 := by rcases g3 with rfl | rfl <;> decide
    have e1 : x &&& 1 = x := by rcases g3 with rfl | rfl <;> decide
    rw [e0, e1, ih m' (t + 1) x (by omega) (by omega) g3, ih m' (t + 1) 0 (by omega) (by omega) (Or.inl rfl), cf_s]
    by_cases a1 : fk t = nI key
    · rw [if_pos a1]
      by_cases a2 : fd t < nI day
      · rw [if_pos a2, show bd3_ fk fd key day b t = false from dec_f (fun h => h.2.1 a2), if_neg (show ¬ false = true by decide), Nat.zero_add]
      · rw [if_neg a2, gd_I (by omega) (by omega)]
        by_cases a3 : fd t < nI b
        · rw [if_pos a3, show bd3_ fk fd key day b t = true from dec_t ⟨a1, a2, a3⟩, if_pos rfl, if_neg (show ¬ 1 + cf_ (bd3_ fk fd key day b) c (t + 1) = 0 by omega)]
          congr 1
          split <;> rfl
        · rw [if_neg a3, show bd3_ fk fd key day b t = false from dec_f (fun h => a3 h.2.2), if_neg (show ¬ false = true by decide), Nat.zero_add]
    · rw [if_neg a1, show bd3_ fk fd key day b t = false from dec_f (fun h => a1 h.1), if_neg (show ¬ false = true by decide), Nat.zero_add]
theorem cf_00 {p : Nat → Bool} : ∀ c j, cf_ p c j = 0 → ∀ i, j ≤ i → i < j + c → p i = false := by
  intro c
  induction c with
  | zero => intro j _ i a b; omega
  | succ c ih =>
    intro j h i a b
    rw [cf_s] at h
    have h1 : ¬ p j = true := fun q => by rw [if_pos q] at h; omega
    by_cases q : i = j
    · rw [q]
      cases hq : p j with
      | true => exact absurd hq h1
      | false => rfl
    · rw [if_neg h1] at h
      exact ih (j + 1) (by omega) i (by omega) (by omega)
theorem B3_ok (hJ : JS_ K m k f e v i g n fk fd fa fv q wv xv zv) (hm : m ≤ 49) (hk : key < K) (hd : day < 1000) (hu : ∀ t, t < q → uv t = fv t) {k953 : Int32 → Int32 → Int32 → Int32 → Int32 → Int32 →  tD_ → tS_ → tV_ → tF_ → tR_ → tI_ → tI_ → tY_ → tI_ → tZ_ → Option Unit} {k1022 : Int32 → Int32 → Int32 → Int32 → Int32 → Int32 →  tD_ → tS_ → tV_ → tF_ → tR_ → tI_ → tI_ → tY_ → tZ_ → Option Unit}
    (hk9 : ∀ (h3' : Int32) (e' fv' : Nat → Int32) (zv' : Nat → Nat → Int32), JS_ K (m + 1) k f e' v i g n fk fd fa fv' q wv xv zv' → JM_ q q h3' k f e' g n fk fd uv → k953 l2 l3 l7 (nI q) l9 l10 (h1, h2, h3') () (k, f, e', v, i, g, nI n) (fk, fd, fa, fv', nI q) (rk, rd, rv, rc) wv xv () uv zv' = some ())
    (hk10 : k1022 l2 l3 l7 (nI q) l9 l10 (h1, h2, h3) () (k, f, e, v, i, g, nI n) (fk, fd, fa, fv, nI q) (rk, rd, rv, rc) wv xv () zv = some ()) :
    f_law_B3 xs L K mw k953 k1022 l2 l3 l7 (nI q) l9 l10 l11 (nI key) (nI day) l14 (h1, h2, h3) () (k, f, e, v, i, g, nI n) (fk, fd, fa, fv, nI q) (rk, rd, rv, rc) wv xv () uv zv = some () := by
  obtain ⟨⟨hK1, hK3, hnm, hqm, hm5⟩, hV, hF⟩ := id hJ
  have hW := hV.1
  have hn6 := hW.1
  have hz := hV.2.2.1
  have hq6 : q ≤ 60 := hF.1.1
  have td : (nI day).toInt = (day : Int) := nI_toInt (by omega)
  have hzd : zv key day = dy_ k f e g n key day := hz key day hk hd
  unfold f_law_B3
  dsimp only
  rw [gd_I hk (by omega), gd_I hd (by omega), cl_I (show key < 2 ^ 31 by omega), cl_I (show day < 2 ^ 31 by omega)]
  rcases on_spec (k := k) (f := f) (e := e) (g := g) (n := n) (nI key) (nI day) with ⟨hx, hno⟩ | ⟨j, hj, hon, hx⟩
  · have hyd : zv key day = -1 := hzd.trans hx
    obtain ⟨T, t1, t2, t3, t4⟩ := ex_run (y := zv key) (x := -1) (day := day) (by omega)
    rw [hyd]
    refine Eq.trans (B3_end hk hK3 t2 t3 t4 (T - day) fu_ day (by omega) (by unfold fu_; omega) (Nat.le_refl _)) ?_
    unfold f_law_B3_X381
    dsimp only
    unfold f_law_B3_J408
    dsimp only
    rw [if_pos m1_lt0]
    unfold f_law_B3_J437
    dsimp only
    unfold f_law_B3_J438
    dsimp only
    refine Eq.trans (B3_facts hV hF hK3 q fu_ 0 0 (by omega) (by unfold fu_; omega) (Or.inl rfl)) ?_
    unfold f_law_B3_X443
    dsimp only
    rw [close_N hn6 (by omega) hd hx, bd_s]
    dsimp only
    rw [if_neg (by decide)]
    unfold f_law_B3_J536
    dsimp only
    rw [if_pos rfl, if_pos (by split <;> rfl)]
    exact hk10
  · have hyd : zv key day = nI j := hzd.trans hx
    obtain ⟨hg, hkj, hfj, hej⟩ := id hon
    obtain ⟨a, b, hfa, heb, tf, te, hab, hb⟩ := day_in hW hj hg
    have g1 : a ≤ day := by rw [Int32.le_iff_toInt_le, tf, td] at hfj; omega
    have g2 : day < b := by rw [Int32.lt_iff_toInt_lt, te, td] at hej; omega
    have hrun : ∀ d, day ≤ d → d < b → zv key d = nI j := fun d h3 h4 => by
      rw [hz key d hk (by omega)]
      exact dyU hW (by omega) hj ⟨hg, hkj, by omega, by omega⟩
    have hend : b < 1000 → ¬ zv key b = nI j := fun h3 q => by
      rw [hz key b hk (by omega)] at q
      have h9 := (dyI hn6 (by omega) (by omega) q).2.2.2.2
      omega
    -- a fact is in the way for the law as for the class
    have hbad : a < day → cf_ (bd3_ fk fd key day b) q 0 = cf_ (fun t => decide (¬ fd t < nI day ∧ fv t = nI j)) q 0 := fun had => by
      refine cf_congr q 0 (fun t _ ht => ?_)
      obtain ⟨x, y, hx1, hy1, e1, e2⟩ := fact_at hF (show t < q by omega)
      have e3 : fv t = dy_ k f e g n x y := (hF.1.2 t (by omega)).2.2.2.trans (onF_dy e1 e2)
      unfold bd3_
      refine decide_eq_decide.mpr ?_
      rw [e1, e2, e3, nI_eq (by omega) (by omega), nI_ltI (by omega) (by omega), nI_ltI (by omega) (by omega)]
      constructor
      · rintro ⟨r1, r2, r3⟩
        subst r1
        exact ⟨r2, dyU hW (by omega) hj ⟨hg, hkj, by omega, by omega⟩⟩
      · rintro ⟨r1, r2⟩
        obtain ⟨-, -, s2, s3, s4⟩ := dyI hn6 (by omega) (by omega) r2
        exact ⟨(nI_eq (by omega) (by omega)).mp (s2.symm.trans hkj), r1, by omega⟩
    rw [hyd]
    refine Eq.trans (B3_end hk hK3 (by omega) hrun hend (b - day) fu_ day (by omega) (by unfold fu_; omega) (Nat.le_refl _)) ?_
    unfold f_law_B3_X381
    dsimp only
    unfold f_law_B3_J408
    dsimp only
    rw [if_neg (nI_pos (by omega))]
    -- a close that is refused
    have refused : ∀ x : Int32, x = 0 → (f j = nI day ∨ ¬ cf_ (fun t => decide (¬ fd t < nI day ∧ fv t = nI j)) q 0 = 0) → f_law_B3_X443 xs L K mw k953 k1022 l2 l3 l7 (nI q) l9 l10 l11 (nI key) (nI day) l14 (nI j) (nI b) x (nI q) (h1, h2, h3) () (k, f, e, v, i, g, nI n) (fk, fd, fa, fv, nI q) (rk, rd, rv, rc) wv xv () uv zv = some () := fun x hx0 hr => by
      unfold f_law_B3_X443
      dsimp only
      rw [close_S hn6 (by omega) hd hq6 hj hx hr, bd_s]
      dsimp only
      rw [if_pos (nI_pos' (by omega)), if_pos hx0]
      unfold f_law_B3_J536
      dsimp only
      rw [if_pos rfl, if_pos hx0]
      exact hk10
    by_cases had : a = day
    · have first : f_law_B3_J437 xs L K mw k953 k1022 l2 l3 l7 (nI q) l9 l10 l11 (nI key) (nI day) l14 (nI j) (nI b) (h1, h2, h3) () (k, f, e, v, i, g, nI n) (fk, fd, fa, fv, nI q) (rk, rd, rv, rc) wv xv () uv zv = some () := by
        unfold f_law_B3_J437
        dsimp only
        unfold f_law_B3_J438
        dsimp only
        refine Eq.trans (B3_facts hV hF hK3 q fu_ 0 0 (by omega) (by unfold fu_; omega) (Or.inl rfl)) ?_
        exact refused _ (by split <;> rfl) (Or.inl (by rw [hfa, had]))
      by_cases h0 : day = 0
      · rw [if_pos (by rw [h0]; decide)]
        exact first
      · rw [if_neg (nI_nle (by omega) (by omega)), P_I (by omega), gd_I hk (by omega), gd_I (by omega) (by omega), cl_I (show key < 2 ^ 31 by omega), cl_I (show day - 1 < 2 ^ 31 by omega), if_neg (fun q => ?_)]
        · exact first
        · rw [hz key (day - 1) hk (by omega)] at q
          have h9 := (dyI hn6 (by omega) (by omega) q).2.2.2.1
          omega
    · have hp : zv key (day - 1) = nI j := by
        rw [hz key (day - 1) hk (by omega)]
        exact dyU hW (by omega) hj ⟨hg, hkj, by omega, by omega⟩
      have hfne : ¬ f j = nI day := fun q => had ((nI_eq (by omega) (by omega)).mp (hfa.symm.trans q))
      rw [if_neg (nI_nle (by omega) (by omega)), P_I (by omega), gd_I hk (by omega), gd_I (by omega) (by omega), cl_I (show key < 2 ^ 31 by omega), cl_I (show day - 1 < 2 ^ 31 by omega), if_pos hp]
      unfold f_law_B3_J438
      dsimp only
      refine Eq.trans (B3_facts hV hF hK3 q fu_ 0 1 (by omega) (by unfold fu_; omega) (Or.inr rfl)) ?_
      rw [hbad (by omega)]
      by_cases hc : cf_ (fun t => decide (¬ fd t < nI day ∧ fv t = nI j)) q 0 = 0
      · rw [if_pos hc]
        unfold f_law_B3_X443
        dsimp only
        rw [close_K hn6 (by omega) hd hq6 hj hx hfne hc, bd_s]
        dsimp only
        rw [if_pos (nI_pos' (by omega)), if_neg (by decide)]
        unfold f_law_B3_J536
        dsimp only
        rw [if_pos heb, if_neg (by decide), gd_I hk (by omega), cl_I (show key < 2 ^ 31 by omega), L_fill_I (by omega) hb, bd_s, nm_s]
        have hE := JV_end hV hj hg hkj hk (by omega) heb (a := day) (by omega) (by omega) hb
        refine hk9 _ _ _ _ ⟨⟨hK1, hK3, by omega, by omega, by omega⟩, hE, JF_next2 hF hE (fun t ht x y hx1 hy1 e1 e2 => ?_)⟩ (JM_of hu)
        have e3 : fv t = dy_ k f e g n x y := (hF.1.2 t ht).2.2.2.trans (onF_dy e1 e2)
        have hne : ¬ zv x y = -1 := by
          rw [hz x y hx1 hy1]
          have := (hF.1.2 t ht).2.2.1
          rw [e1, e2] at this
          exact (dy_cv hn6).mpr this
        have hcf := of_decide_eq_false (cf_00 q 0 ((hbad (by omega)).trans hc) t (Nat.zero_le _) (by omega))
        by_cases r : x = key ∧ day ≤ y ∧ y < b
        · obtain ⟨rfl, r⟩ := r
          refine absurd ⟨e1, ?_, ?_⟩ hcf
          · rw [e2, nI_ltI (by omega) (by omega)]; omega
          · rw [e2, nI_ltI (by omega) (by omega)]; omega
        · by_cases r2 : x = key
          · subst r2
            rw [rup_s, fl_o (fun q => r ⟨rfl, q⟩)]
            exact hne
          · rw [rup_n r2]
            exact hne
      · rw [if_neg hc]
        exact refused 0 rfl (Or.inr hc)
end
