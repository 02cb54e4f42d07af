/-! a step's beginning (what the facts pointed to) and its end (which point anew) -/
section
variable {k f e v i g fk fd fa fv wv xv uv : Nat → Int32} {n q K L key day m mw sp st : Nat} {zv : Nat → Nat → Int32} {h1 h2 h3 rc l2 l3 l7 l8 l9 l10 l11 l12 l13 l14 : Int32} {rk rd rv xs : Nat → Int32}
theorem A_L {kx : Int32 → Int32 → Int32 → Int32 → Int32 → Int32 → Int32 → Int32 → Int32 → Int32 → Int32 →  tD_ → tS_ → tV_ → tF_ → tR_ → tI_ → tI_ → tY_ → tI_ → tZ_ → Option Unit} (hJ : JV_ K k f e v i g n zv wv) (hF : JF_ K k f e g n fk fd fa fv q xv) (hK : K ≤ 3) : ∀ c m' t (uv : Nat → Int32), t + c = q → c < m' →
    f_law_A_L164 xs L K q kx m' l2 l3 l7 (nI q) l9 l10 l11 l12 l13 l14 (nI t) (h1, h2, h3) () (k, f, e, v, i, g, nI n) (fk, fd, fa, fv, nI q) (rk, rd, rv, rc) wv xv () uv zv = kx l2 l3 l7 (nI q) l9 l10 l11 l12 l13 l14 (nI q) (h1, h2, h3) () (k, f, e, v, i, g, nI n) (fk, fd, fa, fv, nI q) (rk, rd, rv, rc) wv xv () (fun s => if t ≤ s ∧ s < q then fv s else uv s) zv := by
  have hq : q ≤ 60 := hF.1.1
  intro c
  induction c with
  | zero =>
    intro m' t uv h1 h2
    obtain ⟨m', rfl⟩ := ex_S h2
    rw [e_law_A_L164]
    unfold f_law_A_S164
    dsimp only
    rw [if_pos (k_le (by omega) (by omega) (by omega)), show t = q by omega]
    congr 1
    funext s
    rw [if_neg (by omega)]
  | succ c ih =>
    intro m' t uv h1 h2
    obtain ⟨m', rfl⟩ := ex_S h2
    obtain ⟨a, b, ha, hb, e1, e2⟩ := fact_at hF (show t < q by omega)
    have hx := hF.2.2 t (by omega)
    have hz := fv_zv hJ hF (show t < q by omega)
    rw [e_law_A_L164]
    unfold f_law_A_S164
    dsimp only
    rw [if_neg (k_nle (by omega) (by omega) (by omega))]
    simp only [m3_I, S_I]
    rw [gd_I (by omega) (by omega), cl_I (show 3 * t < 2 ^ 31 by omega), hx.1, e1, gd_I ha (by omega), gd_I (by omega) (by omega), cl_I (show 3 * t + 1 < 2 ^ 31 by omega), hx.2.1, e2, gd_I hb (by omega), gd_I (show t < q by omega) (by omega), nm_s, cl_I (show t < 2 ^ 31 by omega), ih m' (t + 1) _ (by omega) (by omega)]
    rw [e1, e2] at hz
    rw [hz]
    congr 1
    funext s
    by_cases hs : s = t
    · subst hs
      rw [if_neg (by omega), up_s, if_pos (by omega)]
    · by_cases hs2 : t + 1 ≤ s ∧ s < q
      · rw [if_pos hs2, if_pos (by omega)]
      · rw [if_neg hs2, up_n hs, if_neg (by omega)]
theorem A_ok (hJ : JS_ K m k f e v i g n fk fd fa fv q wv xv zv) (hm : m < st) (hst : st ≤ 49) (hsp : 0 < sp) (hsp2 : sp ≤ 1000) {k1028 : Int32 → Int32 → Int32 → Int32 → Int32 → Int32 →  tD_ → tS_ → tV_ → tF_ → tR_ → tI_ → tI_ → tY_ → tZ_ → Option Unit} {k202 : Nat → Int32 → Int32 → Int32 → Int32 → Int32 → Int32 → Int32 → Int32 → Int32 → Int32 →  tD_ → tS_ → tV_ → tF_ → tR_ → tI_ → tI_ → tY_ → tI_ → tZ_ → Option Unit}
    (hk2 : ∀ (uv : Nat → Int32) (key day how : Nat), key < K → day < 1000 → how < 12 → (∀ t, t < q → uv t = fv t) → k202 q (nI K) (nI sp) (nI n) (nI q) (nI st) (nI m) (nI (10 + 4 * m)) (nI key) (nI day) (nI how) (h1, h2, h3) () (k, f, e, v, i, g, nI n) (fk, fd, fa, fv, nI q) (rk, rd, rv, rc) wv xv () uv zv = some ()) :
    f_law_A xs L K k1028 k202 (nI K) (nI sp) (nI n) (nI q) (nI st) (nI m) (h1, h2, h3) () (k, f, e, v, i, g, nI n) (fk, fd, fa, fv, nI q) (rk, rd, rv, rc) wv xv () zv = some () := by
  obtain ⟨⟨hK1, hK3, hnm, hqm, hm5⟩, hV, hF⟩ := hJ
  unfold f_law_A
  dsimp only
  rw [if_neg (k_nle (by omega) (by omega) hm)]
  have e4 : (10 : Int32) + 4 * nI m = nI (10 + 4 * m) := by
    rw [show (4 : Int32) = nI 4 from rfl, pk_mul, show (10 : Int32) = nI 10 from rfl, nI_add]
  simp only [e4, S_I, A2_I]
  obtain ⟨key, hkey, ek⟩ := dw_r (xs := xs) (L := L) (k := nI (10 + 4 * m)) (N := K) (by omega) (by omega)
  obtain ⟨day, hday, ed⟩ := dw_r (xs := xs) (L := L) (k := nI (10 + 4 * m + 1)) (N := sp) (by omega) (by omega)
  obtain ⟨how, hhow, eh⟩ := dw_r (xs := xs) (L := L) (k := nI (10 + 4 * m + 2)) (N := 12) (by omega) (by omega)
  rw [gp_I (c4_nn (by omega)) (nI_ne0 (by omega) (by omega)), nm_s, gp_I (c4_nn (by omega)) (nI_ne0 (by omega) (by omega)), nm_s, gp_I (c4_nn (by omega)) (by decide), nm_s, gw_I (by omega) (by omega), nm_s, cl_I (by omega), ek, ed, show (12 : Int32) = nI 12 from rfl, eh]
  have hL := A_L (xs := xs) (L := L) (l2 := nI K) (l3 := nI sp) (l7 := nI n) (l9 := nI st) (l10 := nI m) (l11 := nI (10 + 4 * m)) (l12 := nI key) (l13 := nI day) (l14 := nI how) (h1 := h1) (h2 := h2) (h3 := h3) (rc := rc) (rk := rk) (rd := rd) (rv := rv) (kx := f_law_A_X164 xs L K q k1028 k202) hV hF hK3 q fu_ 0 (fun _ => 0) (by omega) (by unfold fu_; omega)
  refine Eq.trans hL ?_
  unfold f_law_A_X164
  dsimp only
  exact hk2 _ key day how hkey (by omega) hhow (fun t ht => if_pos ⟨Nat.zero_le _, ht⟩)
theorem A_end (hm : ¬ m < st) (hst : st ≤ 49) (hm2 : m ≤ 50) {k1028 : Int32 → Int32 → Int32 → Int32 → Int32 → Int32 →  tD_ → tS_ → tV_ → tF_ → tR_ → tI_ → tI_ → tY_ → tZ_ → Option Unit} {k202 : Nat → Int32 → Int32 → Int32 → Int32 → Int32 → Int32 → Int32 → Int32 → Int32 → Int32 →  tD_ → tS_ → tV_ → tF_ → tR_ → tI_ → tI_ → tY_ → tI_ → tZ_ → Option Unit}
    (hk : k1028 l2 l3 l7 l8 (nI st) (nI m) (h1, h2, h3) () (k, f, e, v, i, g, nI n) (fk, fd, fa, fv, nI q) (rk, rd, rv, rc) wv xv () zv = some ()) :
    f_law_A xs L K k1028 k202 l2 l3 l7 l8 (nI st) (nI m) (h1, h2, h3) () (k, f, e, v, i, g, nI n) (fk, fd, fa, fv, nI q) (rk, rd, rv, rc) wv xv () zv = some () := by
  unfold f_law_A
  dsimp only
  rw [if_pos (k_le (by omega) (by omega) (by omega))]
  exact hk
theorem C_L {kx : Int32 → Int32 → Int32 → Int32 → Int32 → Int32 → Int32 → Int32 →  tD_ → tS_ → tV_ → tF_ → tR_ → tI_ → tI_ → tY_ → tI_ → tZ_ → Option Unit} (hJ : JV_ K k f e v i g n zv wv) (hF : JF_ K k f e g n fk fd fa fv q xv) (hK : K ≤ 3) (hmw : mw ≤ q) : ∀ c m' t (a : Int32), t + c = mw → c < m' →
    f_law_C_L959 xs L K mw kx m' l2 l3 l7 l8 l9 l10 a (nI t) (h1, h2, h3) () (k, f, e, v, i, g, nI n) (fk, fd, fa, fv, nI q) (rk, rd, rv, rc) wv xv () uv zv = kx l2 l3 l7 l8 l9 l10 (fo_ (mv_ (onF_ k f e g n fk fd) uv) c t a) (nI mw) (h1, h2, h3) () (k, f, e, v, i, g, nI n) (fk, fd, fa, fv, nI q) (rk, rd, rv, rc) wv xv () uv zv := by
  have hq : q ≤ 60 := hF.1.1
  intro c
  induction c with
  | zero =>
    intro m' t a g1 g2
    obtain ⟨m', rfl⟩ := ex_S g2
    rw [e_law_C_L959]
    unfold f_law_C_S959
    dsimp only
    rw [show Int32.ofNat mw = nI mw from rfl, if_pos (k_le (by omega) (by omega) (by omega)), show t = mw by omega]
    rfl
  | succ c ih =>
    intro m' t a g1 g2
    obtain ⟨m', rfl⟩ := ex_S g2
    obtain ⟨x, y, ha, hb, e1, e2⟩ := fact_at hF (show t < q by omega)
    have hx := hF.2.2 t (by omega)
    have hz := fv_zv hJ hF (show t < q by omega)
    rw [e_law_C_L959]
    unfold f_law_C_S959
    dsimp only
    rw [show Int32.ofNat mw = nI mw from rfl, if_neg (k_nle (a := mw) (by omega) (by omega) (by omega))]
    simp only [m3_I, S_I]
    rw [gd_I (show t < mw by omega) (by omega), gd_I (by omega) (by omega), cl_I (show 3 * t < 2 ^ 31 by omega), hx.1, e1, gd_I ha (by omega), gd_I (by omega) (by omega), cl_I (show 3 * t + 1 < 2 ^ 31 by omega), hx.2.1, e2, gd_I hb (by omega), cl_I (show t < 2 ^ 31 by omega)]
    rw [e1, e2] at hz
    rw [hz, (hF.1.2 t (by omega)).2.2.2]
    unfold f_law_C_J1002
    dsimp only
    rw [S_I, ih m' (t + 1) _ (by omega) (by omega), ih m' (t + 1) _ (by omega) (by omega)]
    show _ = kx l2 l3 l7 l8 l9 l10 (fo_ (mv_ (onF_ k f e g n fk fd) uv) c (t + 1) (mv_ (onF_ k f e g n fk fd) uv t a)) (nI mw) (h1, h2, h3) () (k, f, e, v, i, g, nI n) (fk, fd, fa, fv, nI q) (rk, rd, rv, rc) wv xv () uv zv
    by_cases hu : uv t = onF_ k f e g n fk fd t
    · rw [if_pos hu, Int32.add_zero]
      unfold mv_
      rw [if_pos hu.symm]
    · rw [if_neg hu]
      unfold mv_
      rw [if_neg (fun h => hu h.symm)]
theorem C_ok (hJ : JS_ K m k f e v i g n fk fd fa fv q wv xv zv) (hM : JM_ mw q h3 k f e g n fk fd uv) {k1022 : Int32 → Int32 → Int32 → Int32 → Int32 → Int32 →  tD_ → tS_ → tV_ → tF_ → tR_ → tI_ → tI_ → tY_ → tZ_ → Option Unit}
    (hk : k1022 l2 l3 l7 l8 l9 l10 (h1, h2, h3) () (k, f, e, v, i, g, nI n) (fk, fd, fa, fv, nI q) (rk, rd, rv, rc) wv xv () zv = some ()) :
    f_law_C xs L K mw k1022 l2 l3 l7 l8 l9 l10 (h1, h2, h3) () (k, f, e, v, i, g, nI n) (fk, fd, fa, fv, nI q) (rk, rd, rv, rc) wv xv () uv zv = some () := by
  obtain ⟨⟨hK1, hK3, hnm, hqm, hm5⟩, hV, hF⟩ := hJ
  obtain ⟨hmw, h3e⟩ := hM
  unfold f_law_C
  dsimp only
  have hq : q ≤ 60 := hF.1.1
  have hL := C_L (xs := xs) (L := L) (l2 := l2) (l3 := l3) (l7 := l7) (l8 := l8) (l9 := l9) (l10 := l10) (h1 := h1) (h2 := h2) (h3 := h3) (rc := rc) (rk := rk) (rd := rd) (rv := rv) (uv := uv) (kx := f_law_C_X959 xs L K mw k1022) hV hF hK3 hmw mw fu_ 0 0 (by omega) (by unfold fu_; omega)
  refine Eq.trans hL ?_
  unfold f_law_C_X959
  dsimp only
  unfold f_X5_pointedAnew
  dsimp only
  rw [bd_s, if_pos h3e]
  exact hk
theorem D_ok {how : Nat} (hh : how < 12) {k208 k272 k367 k572 k791 : Int32 → Int32 → Int32 → Int32 → Int32 → Int32 → Int32 → Int32 → Int32 → Int32 →  tD_ → tS_ → tV_ → tF_ → tR_ → tI_ → tI_ → tY_ → tI_ → tZ_ → Option Unit} (a1 : k208 l2 l3 l7 l8 l9 l10 l11 l12 l13 (nI how) (h1, h2, h3) () (k, f, e, v, i, g, nI n) (fk, fd, fa, fv, nI q) (rk, rd, rv, rc) wv xv () uv zv = some ()) (a2 : k272 l2 l3 l7 l8 l9 l10 l11 l12 l13 (nI how) (h1, h2, h3) () (k, f, e, v, i, g, nI n) (fk, fd, fa, fv, nI q) (rk, rd, rv, rc) wv xv () uv zv = some ()) (a3 : k367 l2 l3 l7 l8 l9 l10 l11 l12 l13 (nI how) (h1, h2, h3) () (k, f, e, v, i, g, nI n) (fk, fd, fa, fv, nI q) (rk, rd, rv, rc) wv xv () uv zv = some ()) (a4 : k572 l2 l3 l7 l8 l9 l10 l11 l12 l13 (nI how) (h1, h2, h3) () (k, f, e, v, i, g, nI n) (fk, fd, fa, fv, nI q) (rk, rd, rv, rc) wv xv () uv zv = some ()) (a5 : k791 l2 l3 l7 l8 l9 l10 l11 l12 l13 (nI how) (h1, h2, h3) () (k, f, e, v, i, g, nI n) (fk, fd, fa, fv, nI q) (rk, rd, rv, rc) wv xv () uv zv = some ()) :
    f_law_D xs L K mw k208 k272 k367 k572 k791 l2 l3 l7 l8 l9 l10 l11 l12 l13 (nI how) (h1, h2, h3) () (k, f, e, v, i, g, nI n) (fk, fd, fa, fv, nI q) (rk, rd, rv, rc) wv xv () uv zv = some () := by
  unfold f_law_D
  dsimp only
  split
  · split
    · split
      · exact a3
      · split
        · exact a4
        · exact a5
    · exact a2
  · exact a1
end
