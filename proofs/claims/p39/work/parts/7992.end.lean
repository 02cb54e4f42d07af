/-! the law's end: keys, facts and versions, one by one, and how many there are -/
theorem cf_add {p q r : Nat → Bool} : ∀ c j, (∀ i, j ≤ i → i < j + c → (r i = true ↔ (p i = true ∨ q i = true)) ∧ ¬ (p i = true ∧ q i = true)) → cf_ r c j = cf_ p c j + cf_ q c j := by
  intro c
  induction c with
  | zero => intro j _; rfl
  | succ c ih =>
    intro j h
    have h1 := h j (Nat.le_refl _) (by omega)
    rw [cf_s, cf_s, cf_s, ih (j + 1) (fun i a b => h i (by omega) (by omega))]
    by_cases hp : p j = true
    · have hq : ¬ q j = true := fun x => h1.2 ⟨hp, x⟩
      rw [if_pos hp, if_neg hq, if_pos (h1.1.mpr (Or.inl hp))]; omega
    · by_cases hq : q j = true
      · rw [if_neg hp, if_pos hq, if_pos (h1.1.mpr (Or.inr hq))]; omega
      · rw [if_neg hp, if_neg hq, if_neg (fun x => (h1.1.mp x).elim hp hq)]; omega
/-- the versions of the first keys -/
def ms_ (k g : Nat → Int32) (n : Nat) : Nat → Nat
  | 0 => 0
  | t + 1 => ms_ k g n t + mn_ k g n (nI t)
section
variable {k f e v i g fk fd fa fv wv xv : Nat → Int32} {n q K L key m : Nat} {zv : Nat → Nat → Int32} {h1 h2 h3 rc l3 l7 l8 l9 l10 : Int32} {rk rd rv xs : Nat → Int32}
theorem ms_cf (hW : WV_ k f e i g n) : ∀ t : Nat, t < 2 ^ 31 → cf_ (fun j => decide (g j = 0 ∧ (k j).toInt < (t : Int))) n 0 = ms_ k g n t := by
  intro t
  induction t with
  | zero =>
    intro _
    refine cf_0 n 0 (fun j _ hj => dec_f (fun h => ?_))
    have := hW.2.2.1 j (by omega) h.1
    omega
  | succ t ih =>
    intro ht
    show _ = ms_ k g n t + mn_ k g n (nI t)
    rw [← ih (by omega)]
    unfold mn_
    refine cf_add n 0 (fun j _ hj => ⟨?_, ?_⟩)
    · rw [decide_eq_true_iff, decide_eq_true_iff, decide_eq_true_iff]
      constructor
      · rintro ⟨a, b⟩
        by_cases q : (k j).toInt < (t : Int)
        · exact Or.inl ⟨a, q⟩
        · exact Or.inr ⟨a, Int32.toInt_inj.mp (by rw [nI_toInt (by omega)]; omega)⟩
      · rintro (⟨a, b⟩ | ⟨a, b⟩)
        · exact ⟨a, by omega⟩
        · exact ⟨a, by rw [b, nI_toInt (by omega)]; omega⟩
    · rw [decide_eq_true_iff, decide_eq_true_iff]
      rintro ⟨⟨a, b⟩, ⟨c, d⟩⟩
      rw [d, nI_toInt (by omega)] at b
      omega
theorem ms_all (hJ : JV_ K k f e v i g n zv wv) (hK : K ≤ 3) : cf_ (fun j => decide (g j = 0)) n 0 = ms_ k g n K := by
  rw [← ms_cf hJ.1 K (by omega)]
  refine cf_congr n 0 (fun j _ hj => decide_eq_decide.mpr ⟨fun h => ⟨h, hJ.2.1 j (by omega) h⟩, fun h => h.1⟩)
theorem E1_L {kx : Int32 → Int32 → Int32 → Int32 → Int32 → Int32 → Int32 →  tD_ → tS_ → tV_ → tF_ → tR_ → tI_ → tI_ → tY_ → tZ_ → Option Unit} (hJ : JV_ K k f e v i g n zv wv) (hK : K ≤ 3) : ∀ c m' t, t + c = K → c < m' →
    f_law_E1_L1034 xs L K kx m' (nI K) l3 l7 l8 l9 (nI (ms_ k g n t)) (nI t) (h1, h2, h3) () (k, f, e, v, i, g, nI n) (fk, fd, fa, fv, nI q) (rk, rd, rv, rc) wv xv () zv = kx (nI K) l3 l7 l8 l9 (nI (ms_ k g n K)) (nI K) (h1, h2, h3) () (k, f, e, v, i, g, nI n) (fk, fd, fa, fv, nI q) (rk, rd, rv, rc) wv xv () zv := by
  have hn := hJ.1.1
  intro c
  induction c with
  | zero =>
    intro m' t g1 g2
    obtain ⟨m', rfl⟩ := ex_S g2
    rw [e_law_E1_L1034]
    unfold f_law_E1_S1034
    dsimp only
    rw [if_pos (k_le (by omega) (by omega) (by omega)), show t = K by omega]
  | succ c ih =>
    intro m' t g1 g2
    obtain ⟨m', rfl⟩ := ex_S g2
    have hmn : mn_ k g n (nI t) ≤ n := mn_le
    rw [e_law_E1_L1034]
    unfold f_law_E1_S1034
    dsimp only
    rw [if_neg (k_nle (by omega) (by omega) (by omega)), gd_I (by omega) (by omega), cl_I (show t < 2 ^ 31 by omega), isKey_ok hJ (by omega) hK, bd_s, if_pos (nI_pos' (by omega)), nI_add, S_I]
    exact ih m' (t + 1) (by omega) (by omega)
theorem E1_ok (hJ : JV_ K k f e v i g n zv wv) (hK : K ≤ 3) {k1075 : Int32 → Int32 → Int32 → Int32 →  tD_ → tS_ → tV_ → tF_ → tR_ → tI_ → tI_ → tY_ → tZ_ → Option Unit} (hk : k1075 (nI K) l7 l8 (nI (ms_ k g n K)) (h1, h2, h3) () (k, f, e, v, i, g, nI n) (fk, fd, fa, fv, nI q) (rk, rd, rv, rc) wv xv () zv = some ()) :
    f_law_E1 xs L K k1075 (nI K) l3 l7 l8 l9 l10 (h1, h2, h3) () (k, f, e, v, i, g, nI n) (fk, fd, fa, fv, nI q) (rk, rd, rv, rc) wv xv () zv = some () := by
  unfold f_law_E1
  dsimp only
  refine Eq.trans (E1_L hJ hK K fu_ 0 (by omega) (by unfold fu_; omega)) ?_
  unfold f_law_E1_X1034
  dsimp only
  exact hk
theorem x_fact0 {t : Nat} (ht : t < q) (hq : q ≤ 60) : f_X5_fact (nI t) 0 (h1, h2, h3) () (k, f, e, v, i, g, nI n) (fk, fd, fa, fv, nI q) (rk, rd, rv, rc) = some (Except.ok (fk t)) := by
  unfold f_X5_fact
  dsimp only
  rw [if_neg (nI_pos (by omega)), if_pos ((nI_ltI (by omega) (by omega)).mpr ht), if_pos rfl, gd_I (by omega) (by omega), cl_I (by omega)]
theorem x_fact1 {t : Nat} (ht : t < q) (hq : q ≤ 60) : f_X5_fact (nI t) 1 (h1, h2, h3) () (k, f, e, v, i, g, nI n) (fk, fd, fa, fv, nI q) (rk, rd, rv, rc) = some (Except.ok (fd t)) := by
  unfold f_X5_fact
  dsimp only
  rw [if_neg (nI_pos (by omega)), if_pos ((nI_ltI (by omega) (by omega)).mpr ht), if_neg (by decide), if_pos rfl, gd_I (by omega) (by omega), cl_I (by omega)]
theorem x_fact2 {t : Nat} (ht : t < q) (hq : q ≤ 60) : f_X5_fact (nI t) 2 (h1, h2, h3) () (k, f, e, v, i, g, nI n) (fk, fd, fa, fv, nI q) (rk, rd, rv, rc) = some (Except.ok (fa t)) := by
  unfold f_X5_fact
  dsimp only
  rw [if_neg (nI_pos (by omega)), if_pos ((nI_ltI (by omega) (by omega)).mpr ht), if_neg (by decide), if_neg (by decide), if_pos rfl, gd_I (by omega) (by omega), cl_I (by omega)]
theorem x_fact3 {t : Nat} (ht : t < q) (hq : q ≤ 60) : f_X5_fact (nI t) 3 (h1, h2, h3) () (k, f, e, v, i, g, nI n) (fk, fd, fa, fv, nI q) (rk, rd, rv, rc) = some (Except.ok (fv t)) := by
  unfold f_X5_fact
  dsimp only
  rw [if_neg (nI_pos (by omega)), if_pos ((nI_ltI (by omega) (by omega)).mpr ht), if_neg (by decide), if_neg (by decide), if_neg (by decide), if_pos rfl, gd_I (by omega) (by omega), cl_I (by omega)]
theorem x_fact4 {t j : Nat} (ht : t < q) (hq : q ≤ 60) (hn : n ≤ 60) (hj : j < n) (hg : g j = 0) (hv : fv t = nI j) : f_X5_fact (nI t) 4 (h1, h2, h3) () (k, f, e, v, i, g, nI n) (fk, fd, fa, fv, nI q) (rk, rd, rv, rc) = some (Except.ok (v j)) := by
  unfold f_X5_fact
  dsimp only
  rw [if_neg (nI_pos (by omega)), if_pos ((nI_ltI (by omega) (by omega)).mpr ht), if_neg (by decide), if_neg (by decide), if_neg (by decide), if_neg (by decide), if_pos rfl, gd_I (by omega) (by omega), cl_I (by omega), hv]
  unfold f_X4_valueOf
  dsimp only
  rw [has_I hn hj, bd_s, if_pos hg, if_neg (by decide), gd_I (by omega) (by omega), cl_I (by omega), bd_s]
/-- what the law has summed and counted -/
def Sum_ (fv fa : Nat → Int32) (t : Nat) (jv : Nat → Int64) (nv : Nat → Int32) : Prop := ∀ x, x < 60 → jv x = fo_ (sm_ fv fa (nI x)) t 0 0 ∧ nv x = nI (cf_ (fun s => decide (fv s = nI x)) t 0)
theorem cf_snoc {p : Nat → Bool} : ∀ c j, cf_ p (c + 1) j = cf_ p c j + (if p (j + c) = true then 1 else 0) := by
  intro c
  induction c with
  | zero => intro j; rw [cf_s]; show _ + 0 = 0 + _; rw [Nat.add_comm]; rfl
  | succ c ih =>
    intro j
    rw [cf_s, ih (j + 1), cf_s p c j, show j + 1 + c = j + (c + 1) by omega]
    omega
theorem E2_L {kx : Int32 → Int32 → Int32 → Int32 → Int32 →  tD_ → tS_ → tV_ → tF_ → tR_ → tI_ → tI_ → tY_ → tJ_ → tI_ → tZ_ → Option Unit} (hJ : JV_ K k f e v i g n zv wv) (hF : JF_ K k f e g n fk fd fa fv q xv) (hK : K ≤ 3) {l2 : Int32} : ∀ c m' t (jv : Nat → Int64) (nv : Nat → Int32), t + c = q → c < m' → Sum_ fv fa t jv nv →
    ∃ jv' nv', Sum_ fv fa q jv' nv' ∧ f_law_E2_L1090 xs L K kx m' l2 l7 (nI q) l10 (nI t) (h1, h2, h3) () (k, f, e, v, i, g, nI n) (fk, fd, fa, fv, nI q) (rk, rd, rv, rc) wv xv () jv nv zv = kx l2 l7 (nI q) l10 (nI q) (h1, h2, h3) () (k, f, e, v, i, g, nI n) (fk, fd, fa, fv, nI q) (rk, rd, rv, rc) wv xv () jv' nv' zv := by
  have hn := hJ.1.1
  have hq : q ≤ 60 := hF.1.1
  intro c
  induction c with
  | zero =>
    intro m' t jv nv g1 g2 hS
    obtain ⟨m', rfl⟩ := ex_S g2
    have e9 : t = q := by omega
    subst e9
    refine ⟨jv, nv, hS, ?_⟩
    rw [e_law_E2_L1090]
    unfold f_law_E2_S1090
    dsimp only
    rw [if_pos (k_le (by omega) (by omega) (by omega))]
  | succ c ih =>
    intro m' t jv nv g1 g2 hS
    obtain ⟨m', rfl⟩ := ex_S g2
    have ht : t < q := by omega
    obtain ⟨a, b, ha, hb, e1, e2⟩ := fact_at hF ht
    have hx := hF.2.2 t ht
    have hz := fv_zv hJ hF ht
    rw [e1, e2] at hz
    obtain ⟨j, hj, hon, hfv⟩ := FI_on hn hF.1 ht
    have hwj := hJ.2.2.2 j hj hon.1
    have hS' : Sum_ fv fa (t + 1) (vp_updL jv j (jv j + (fa t).toInt64)) (upd nv j (nv j + 1)) := fun x hx60 => by
      obtain ⟨s1, s2⟩ := hS x hx60
      rw [fo_snoc, cf_snoc, Nat.zero_add]
      by_cases q9 : x = j
      · subst q9
        rw [pk_uLs, up_s, s1, s2, S_I, if_pos (dec_t hfv)]
        unfold sm_
        rw [if_pos hfv]
        exact ⟨rfl, rfl⟩
      · have hne : ¬ fv t = nI x := fun h => q9 ((nI_eq (by omega) (by omega)).mp (h.symm.trans hfv))
        rw [pk_uLn q9, up_n q9, s1, s2, if_neg (by rw [dec_f hne]; decide), Nat.add_zero]
        unfold sm_
        rw [if_neg hne]
        exact ⟨rfl, rfl⟩
    obtain ⟨jv', nv', r1, r2⟩ := ih m' (t + 1) _ _ (by omega) (by omega) hS'
    refine ⟨jv', nv', r1, ?_⟩
    rw [e_law_E2_L1090]
    unfold f_law_E2_S1090
    dsimp only
    rw [if_neg (k_nle (by omega) (by omega) (by omega))]
    simp only [m3_I, S_I, A2_I]
    simp only [cl_I (show 3 * t < 2 ^ 31 by omega), cl_I (show 3 * t + 1 < 2 ^ 31 by omega), cl_I (show 3 * t + 2 < 2 ^ 31 by omega), hx.1, hx.2.1, hx.2.2, e1, e2, hz, hfv, m3_I, cl_I (show 3 * j < 2 ^ 31 by omega), cl_I (show j < 2 ^ 31 by omega), hwj.1]
    rw [gd_I (by omega) (by omega), gd_I ha (by omega), gd_I (by omega) (by omega), gd_I hb (by omega), gd_I (by omega) (by omega), gd_I (by omega) (by omega), gd_I (by omega) (by omega), nm_s, gd_I (by omega) (by omega), gd_I (by omega) (by omega), nm_s, x_fact0 ht hq, bd_s]
    dsimp only
    rw [gd_I (by omega) (by omega), if_pos e1, x_fact1 ht hq, bd_s]
    dsimp only
    rw [gd_I (by omega) (by omega), if_pos e2, x_fact2 ht hq, bd_s]
    dsimp only
    rw [gd_I (by omega) (by omega), if_pos rfl, x_fact3 ht hq, bd_s]
    dsimp only
    rw [if_pos hfv, x_fact4 ht hq hn hj hon.1 hfv, bd_s]
    dsimp only
    rw [gd_I (by omega) (by omega), if_pos rfl]
    exact r2
theorem E2_ok (hJ : JV_ K k f e v i g n zv wv) (hF : JF_ K k f e g n fk fd fa fv q xv) (hK : K ≤ 3) {l2 : Int32} {k1238 : Int32 → Int32 → Int32 → Int32 →  tD_ → tS_ → tV_ → tF_ → tR_ → tI_ → tI_ → tY_ → tJ_ → tI_ → tZ_ → Option Unit} (hk : ∀ jv nv, Sum_ fv fa q jv nv → k1238 l2 l7 (nI q) l10 (h1, h2, h3) () (k, f, e, v, i, g, nI n) (fk, fd, fa, fv, nI q) (rk, rd, rv, rc) wv xv () jv nv zv = some ()) :
    f_law_E2 xs L K k1238 l2 l7 (nI q) l10 (h1, h2, h3) () (k, f, e, v, i, g, nI n) (fk, fd, fa, fv, nI q) (rk, rd, rv, rc) wv xv () zv = some () := by
  have hq : q ≤ 60 := hF.1.1
  obtain ⟨jv', nv', r1, r2⟩ := E2_L (xs := xs) (L := L) (l2 := l2) (l7 := l7) (l10 := l10) (h1 := h1) (h2 := h2) (h3 := h3) (rc := rc) (rk := rk) (rd := rd) (rv := rv) (kx := f_law_E2_X1090 xs L K k1238) hJ hF hK q fu_ 0 (fun _ => 0) (fun _ => 0) (by omega) (by unfold fu_; omega) (fun x _ => ⟨rfl, rfl⟩)
  unfold f_law_E2
  dsimp only
  refine Eq.trans r2 ?_
  unfold f_law_E2_X1090
  dsimp only
  exact hk jv' nv' r1
theorem x_amountOf {j : Nat} (hn : n ≤ 60) (hj : j < n) (hg : g j = 0) (hq : q ≤ 60) : f_X5_amountOf (nI j) (h1, h2, h3) () (k, f, e, v, i, g, nI n) (fk, fd, fa, fv, nI q) (rk, rd, rv, rc) = some (Except.ok (fo_ (sm_ fv fa (nI j)) q 0 0)) := by
  unfold f_X5_amountOf
  dsimp only
  rw [chkV hn hj hg, bd_s]
  dsimp only
  rw [F_sumOf hq, bd_s]
theorem lg_0 (x : Int64) : lg_cmp x x = 0 := by
  unfold lg_cmp
  simp [Int64.lt_irrefl]
theorem E3_in {kx : Int32 → Int32 → Int32 → Int32 → Int32 → Int32 →  tD_ → tS_ → tV_ → tF_ → tR_ → tI_ → tI_ → tY_ → tJ_ → tI_ → tZ_ → Option Unit} (hJ : JV_ K k f e v i g n zv wv) (hF : JF_ K k f e g n fk fd fa fv q xv) (hk : key < 8) {jv : Nat → Int64} {nv : Nat → Int32} (hS : Sum_ fv fa q jv nv) {l2 : Int32} : ∀ c m' t, t + c = mn_ k g n (nI key) → c < m' →
    f_law_E3_L1250 xs L K kx m' l2 l7 l8 l10 (nI key) (nI t) (h1, h2, h3) () (k, f, e, v, i, g, nI n) (fk, fd, fa, fv, nI q) (rk, rd, rv, rc) wv xv () jv nv zv = kx l2 l7 l8 l10 (nI key) (nI (mn_ k g n (nI key))) (h1, h2, h3) () (k, f, e, v, i, g, nI n) (fk, fd, fa, fv, nI q) (rk, rd, rv, rc) wv xv () jv nv zv := by
  have hW := hJ.1
  have hn := hW.1
  have hq : q ≤ 60 := hF.1.1
  have hmn : mn_ k g n (nI key) ≤ n := mn_le
  intro c
  induction c with
  | zero =>
    intro m' t g1 g2
    obtain ⟨m', rfl⟩ := ex_S g2
    rw [e_law_E3_L1250]
    unfold f_law_E3_S1250
    dsimp only
    rw [x_versionsOf hk hn, bd_s]
    dsimp only
    rw [if_pos (k_le (by omega) (by omega) (by omega)), show t = mn_ k g n (nI key) by omega]
  | succ c ih =>
    intro m' t g1 g2
    obtain ⟨m', rfl⟩ := ex_S g2
    obtain ⟨a, ha, hA, hra, hpa⟩ := pv_ex (key := nI key) hW t (by omega)
    obtain ⟨s1, s2⟩ := hS a (by omega)
    have hvA := x_versionAt (h1 := h1) (h2 := h2) (h3 := h3) (rc := rc) (rk := rk) (rd := rd) (rv := rv) (fk := fk) (fd := fd) (fa := fa) (fv := fv) (q := q) (v := v) hk hW (show t < n by omega) ha hpa
    rw [e_law_E3_L1250]
    unfold f_law_E3_S1250
    dsimp only
    rw [x_versionsOf hk hn, bd_s]
    dsimp only
    rw [if_neg (k_nle (by omega) (by omega) (by omega)), hvA, bd_s]
    dsimp only
    rw [x_amountOf hn ha hA.1 hq, bd_s]
    dsimp only
    rw [bd_s]
    dsimp only
    rw [gd_I (by omega) (by omega), cl_I (show a < 2 ^ 31 by omega), s1, lg_0, if_pos rfl, bd_s]
    dsimp only
    rw [x_version4 hn ha hA.1 hq, bd_s]
    dsimp only
    rw [bd_s]
    dsimp only
    rw [gd_I (by omega) (by omega), cl_I (show a < 2 ^ 31 by omega), s2, if_pos rfl, S_I]
    exact ih m' (t + 1) (by omega) (by omega)
theorem E3_L {kx : Int32 → Int32 → Int32 → Int32 → Int32 →  tD_ → tS_ → tV_ → tF_ → tR_ → tI_ → tI_ → tY_ → tJ_ → tI_ → tZ_ → Option Unit} (hJ : JV_ K k f e v i g n zv wv) (hF : JF_ K k f e g n fk fd fa fv q xv) (hK : K ≤ 3) {jv : Nat → Int64} {nv : Nat → Int32} (hS : Sum_ fv fa q jv nv) : ∀ c m' t, t + c = K → c < m' →
    f_law_E3_L1241 xs L K kx m' (nI K) l7 l8 l10 (nI t) (h1, h2, h3) () (k, f, e, v, i, g, nI n) (fk, fd, fa, fv, nI q) (rk, rd, rv, rc) wv xv () jv nv zv = kx (nI K) l7 l8 l10 (nI K) (h1, h2, h3) () (k, f, e, v, i, g, nI n) (fk, fd, fa, fv, nI q) (rk, rd, rv, rc) wv xv () jv nv zv := by
  intro c
  induction c with
  | zero =>
    intro m' t g1 g2
    obtain ⟨m', rfl⟩ := ex_S g2
    rw [e_law_E3_L1241]
    unfold f_law_E3_S1241
    dsimp only
    rw [if_pos (k_le (by omega) (by omega) (by omega)), show t = K by omega]
  | succ c ih =>
    intro m' t g1 g2
    obtain ⟨m', rfl⟩ := ex_S g2
    have hmn : mn_ k g n (nI t) ≤ n := mn_le
    have hn := hJ.1.1
    rw [e_law_E3_L1241]
    unfold f_law_E3_S1241
    dsimp only
    rw [if_neg (k_nle (by omega) (by omega) (by omega))]
    refine Eq.trans (E3_in hJ hF (show t < 8 by omega) hS (mn_ k g n (nI t)) fu_ 0 (by omega) (by unfold fu_; omega)) ?_
    unfold f_law_E3_X1250
    dsimp only
    rw [S_I]
    exact ih m' (t + 1) (by omega) (by omega)
theorem E3_ok (hJ : JV_ K k f e v i g n zv wv) (hF : JF_ K k f e g n fk fd fa fv q xv) (hK : K ≤ 3) {jv : Nat → Int64} {nv : Nat → Int32} (hS : Sum_ fv fa q jv nv) {k1329 : Int32 → Int32 → Int32 →  tD_ → tS_ → tV_ → tF_ → tR_ → tI_ → tI_ → tY_ → tJ_ → tI_ → tZ_ → Option Unit} (hk : k1329 l7 l8 l10 (h1, h2, h3) () (k, f, e, v, i, g, nI n) (fk, fd, fa, fv, nI q) (rk, rd, rv, rc) wv xv () jv nv zv = some ()) :
    f_law_E3 xs L K k1329 (nI K) l7 l8 l10 (h1, h2, h3) () (k, f, e, v, i, g, nI n) (fk, fd, fa, fv, nI q) (rk, rd, rv, rc) wv xv () jv nv zv = some () := by
  unfold f_law_E3
  dsimp only
  refine Eq.trans (E3_L hJ hF hK hS K fu_ 0 (by omega) (by unfold fu_; omega)) ?_
  unfold f_law_E3_X1241
  dsimp only
  exact hk
theorem ca_cf : ∀ c j a, fo_ (ca_ g) c j (nI a) = nI (a + cf_ (fun j => decide (g j = 0)) c j) := fun c j a => cf_fo (p := fun j => decide (g j = 0)) (fun j a => by
  unfold ca_
  by_cases h : g j = 0
  · rw [if_pos h, if_pos (dec_t h)]
  · rw [if_neg h, if_neg (by rw [dec_f h]; decide)]) c j a
theorem E4_ok (hJ : JV_ K k f e v i g n zv wv) (hK : K ≤ 3) {jv : Nat → Int64} {nv : Nat → Int32} : f_law_E4 xs L K (nI n) (nI q) (nI (ms_ k g n K)) (h1, h2, h3) () (k, f, e, v, i, g, nI n) (fk, fd, fa, fv, nI q) (rk, rd, rv, rc) wv xv () jv nv zv = some () := by
  have hn := hJ.1.1
  have hc : f_X4_count (k, f, e, v, i, g, nI n) = some (nI (ms_ k g n K)) := by
    rw [count_I hn]
    have h := ca_cf (g := g) n 0 0
    rw [Nat.zero_add, ms_all hJ hK] at h
    exact congrArg some h
  unfold f_law_E4
  dsimp only
  unfold f_X5_versionCount
  dsimp only
  rw [hc]
  simp only [bd_s, if_true]
  unfold f_X5_removedCount
  dsimp only
  rw [hc]
  simp only [bd_s, if_true]
  unfold f_X5_factCount
  dsimp only
  simp only [bd_s, if_true]
end
