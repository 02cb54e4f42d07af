/-! isKey: the law's days of a key, read beside what the class answers -/
section
variable {k f e v i g fk fd fa fv wv : Nat → Int32} {n q K key : Nat} {zv : Nat → Nat → Int32} {h1 h2 h3 rc : Int32} {rk rd rv : Nat → Int32}
/-- the first valid day, as the law holds it at a day -/
def Fst_ (k f g : Nat → Int32) (n key d : Nat) (x : Int32) : Prop :=
  (x = -1 ∧ ∀ y, y < n → g y = 0 → k y = nI key → ¬ (f y).toInt < (d : Int)) ∨ ∃ a, a < n ∧ (g a = 0 ∧ k a = nI key) ∧ (f a).toInt < (d : Int) ∧ x = f a ∧ ∀ y, y < n → g y = 0 → k y = nI key → (f a).toInt ≤ (f y).toInt
theorem Fst_lt (hW : WV_ k f e i g n) {d : Nat} {x : Int32} (h : Fst_ k f g n key d x) : (x < 0) = ∀ y, y < n → g y = 0 → k y = nI key → ¬ (f y).toInt < (d : Int) := by
  rcases h with ⟨rfl, h⟩ | ⟨a, ha, hA, hf, rfl, -⟩
  · exact propext ⟨fun _ => h, fun _ => m1_lt0⟩
  · refine propext ⟨fun q => ?_, fun q => absurd hf (q a ha hA.1 hA.2)⟩
    have r := hW.2.2.1 a ha hA.1
    rw [Int32.lt_iff_toInt_lt, z0_] at q
    omega
theorem Fst_up {d : Nat} {x : Int32} (h : Fst_ k f g n key d x) (hx : ∀ y, y < n → g y = 0 → k y = nI key → ¬ (f y).toInt = (d : Int)) : Fst_ k f g n key (d + 1) x := by
  rcases h with ⟨h1, h2⟩ | ⟨a, ha, hA, hf, h1, h2⟩
  · refine Or.inl ⟨h1, fun y hy hg hk q => ?_⟩
    have := h2 y hy hg hk
    have := hx y hy hg hk
    omega
  · exact Or.inr ⟨a, ha, hA, by omega, h1, h2⟩
theorem Fst_keep {d : Nat} {x : Int32} (h : Fst_ k f g n key d x) (hx : ¬ ∀ y, y < n → g y = 0 → k y = nI key → ¬ (f y).toInt < (d : Int)) : Fst_ k f g n key (d + 1) x := by
  rcases h with ⟨h1, h2⟩ | ⟨a, ha, hA, hf, h1, h2⟩
  · exact absurd h2 hx
  · exact Or.inr ⟨a, ha, hA, by omega, h1, h2⟩
theorem Fst_new {d a : Nat} (hno : ∀ y, y < n → g y = 0 → k y = nI key → ¬ (f y).toInt < (d : Int)) (ha : a < n) (hA : g a = 0 ∧ k a = nI key) (hf : (f a).toInt = (d : Int)) : Fst_ k f g n key (d + 1) (nI d) := by
  refine Or.inr ⟨a, ha, hA, by omega, ?_, fun y hy hg hk => ?_⟩
  · refine (Int32.toInt_inj.mp ?_)
    by_cases hd : d < 2 ^ 31
    · rw [nI_toInt hd, hf]
    · have := Int32.toInt_lt (f a)
      omega
  · have := hno y hy hg hk
    omega
theorem K69_L {kx : Int32 → Int32 → Int32 → Int32 → Int32 → Int32 → Int32 → Int32 →  tD_ → tS_ → tV_ → tF_ → tR_ → tI_ → tI_ → Option Int32} {l1 l4 l5 l6 l7 l8 l9 : Int32} {yv : Nat → Int32} {a T : Nat} (hT : T ≤ 1000) (g1 : ∀ d, a ≤ d → d < T → yv d = l9) (g2 : T < 1000 → ¬ yv T = l9) : ∀ c m' d, d + c = T → c < m' → a ≤ d →
    f_L_isKey_L69 kx m' l1 l4 l5 l6 l7 l8 l9 (nI d) (h1, h2, h3) () (k, f, e, v, i, g, nI n) (fk, fd, fa, fv, nI q) (rk, rd, rv, rc) yv wv = kx l1 l4 l5 l6 l7 l8 l9 (nI T) (h1, h2, h3) () (k, f, e, v, i, g, nI n) (fk, fd, fa, fv, nI q) (rk, rd, rv, rc) yv wv := by
  intro c
  induction c with
  | zero =>
    intro m' d g3 g4 g5
    obtain ⟨m', rfl⟩ := ex_S g4
    have e9 : d = T := by omega
    subst e9
    rw [e_L_isKey_L69]
    unfold f_L_isKey_S69
    dsimp only
    by_cases h6 : 1000 ≤ d
    · rw [if_pos (by rw [le_1000 (by omega)]; exact h6)]
    · rw [if_neg (by rw [le_1000 (by omega)]; exact h6), gd_I (by omega) (by omega), cl_I (show d < 2 ^ 31 by omega), if_neg (g2 (by omega))]
  | succ c ih =>
    intro m' d g3 g4 g5
    obtain ⟨m', rfl⟩ := ex_S g4
    rw [e_L_isKey_L69]
    unfold f_L_isKey_S69
    dsimp only
    rw [if_neg (by rw [le_1000 (by omega)]; omega), gd_I (by omega) (by omega), cl_I (show d < 2 ^ 31 by omega), if_pos (g1 d g5 (by omega)), S_I]
    exact ih m' (d + 1) (by omega) (by omega) (by omega)
theorem K15_L {kx : Int32 → Int32 → Int32 → Int32 → Int32 → Int32 →  tD_ → tS_ → tV_ → tF_ → tR_ → tI_ → tI_ → Option Int32} (hJ : JV_ K k f e v i g n zv wv) (hk : key < K) (hK : K ≤ 3) : ∀ c m' d (x : Int32), d + c = 1000 → c < m' → Fst_ k f g n key d x →
    ∃ x', Fst_ k f g n key 1000 x' ∧ f_L_isKey_L15 kx m' (nI key) (nI (rd_ k f g n key d)) (nI (gd2_ k f e g n key d)) (nI (vs_ k f e g key d n 0)) x (nI d) (h1, h2, h3) () (k, f, e, v, i, g, nI n) (fk, fd, fa, fv, nI q) (rk, rd, rv, rc) (zv key) wv = kx (nI key) (nI (rd_ k f g n key 1000)) (nI (gd2_ k f e g n key 1000)) (nI (vs_ k f e g key 1000 n 0)) x' (nI 1000) (h1, h2, h3) () (k, f, e, v, i, g, nI n) (fk, fd, fa, fv, nI q) (rk, rd, rv, rc) (zv key) wv := by
  have hW := hJ.1
  have hn := hW.1
  have hz := hJ.2.2.1
  intro c
  induction c with
  | zero =>
    intro m' d x g1 g2 hF
    obtain ⟨m', rfl⟩ := ex_S g2
    have e9 : d = 1000 := by omega
    subst e9
    refine ⟨x, hF, ?_⟩
    rw [e_L_isKey_L15]
    unfold f_L_isKey_S15
    dsimp only
    rw [if_pos (by decide)]
  | succ c ih =>
    intro m' d x g1 g2 hF
    obtain ⟨m', rfl⟩ := ex_S g2
    rw [e_L_isKey_L15]
    unfold f_L_isKey_S15
    dsimp only
    rw [if_neg (by rw [le_1000 (by omega)]; omega), gd_I (by omega) (by omega), cl_I (show d < 2 ^ 31 by omega)]
    rcases dyS (k := k) (f := f) (e := e) (g := g) (n := n) (key := key) (show d < 2 ^ 31 by omega) with ⟨hd, hno⟩ | ⟨j, hj, hon, hd⟩
    · -- no version on this day
      have hzd : zv key d = -1 := (hz key d hk (by omega)).trans hd
      have hnf : ∀ y, y < n → g y = 0 → k y = nI key → ¬ (f y).toInt = (d : Int) := fun y hy q1 q2 q3 => by
        have r := hW.2.2.1 y hy q1
        exact hno y hy ⟨q1, q2, by omega, by omega⟩
      have hrd := rd_same (key := key) hW hnf
      have hvs := vs_same (key := key) hW n 0 (by omega) (fun y _ hy => hno y (by omega))
      have hF' := Fst_up hF hnf
      rw [hzd, if_pos m1_lt0]
      -- on to the next day, no gap begun
      have plain : (∀ y, y < n → g y = 0 → k y = nI key → ¬ (e y).toInt = (d : Int)) → ∃ x', Fst_ k f g n key 1000 x' ∧ f_L_isKey_L15 kx m' (nI key) (nI (rd_ k f g n key d)) (nI (gd2_ k f e g n key d)) (nI (vs_ k f e g key d n 0)) x (nI (d + 1)) (h1, h2, h3) () (k, f, e, v, i, g, nI n) (fk, fd, fa, fv, nI q) (rk, rd, rv, rc) (zv key) wv = kx (nI key) (nI (rd_ k f g n key 1000)) (nI (gd2_ k f e g n key 1000)) (nI (vs_ k f e g key 1000 n 0)) x' (nI 1000) (h1, h2, h3) () (k, f, e, v, i, g, nI n) (fk, fd, fa, fv, nI q) (rk, rd, rv, rc) (zv key) wv := fun hne => by
        have h9 := ih m' (d + 1) x (by omega) (by omega) hF'
        rw [hrd, hvs, gd_same (fun y hy q1 q2 _ => hne y hy q1 q2)] at h9
        exact h9
      by_cases hx : x < 0
      · rw [if_pos hx, S_I]
        rw [Fst_lt hW hF] at hx
        refine plain (fun y hy q1 q2 q3 => ?_)
        have r := hW.2.2.1 y hy q1
        exact hx y hy q1 q2 (by omega)
      · rw [if_neg hx]
        rw [Fst_lt hW hF] at hx
        have hd0 : 0 < d := by
          refine Nat.pos_of_ne_zero (fun q => hx (fun y hy q1 _ => ?_))
          have r := hW.2.2.1 y hy q1
          omega
        rw [P_I hd0, gd_I (by omega) (by omega), cl_I (show d - 1 < 2 ^ 31 by omega)]
        rcases dyS (k := k) (f := f) (e := e) (g := g) (n := n) (key := key) (show d - 1 < 2 ^ 31 by omega) with ⟨hd', hno'⟩ | ⟨j, hj, hon, hd'⟩
        · rw [(hz key (d - 1) hk (by omega)).trans hd', if_pos m1_lt0, S_I]
          refine plain (fun y hy q1 q2 q3 => ?_)
          have r := hW.2.2.1 y hy q1
          exact hno' y hy ⟨q1, q2, by omega, by omega⟩
        · -- a gap begins behind version j
          obtain ⟨q1, q2, q3, q4⟩ := id hon
          have hA : g j = 0 ∧ k j = nI key := ⟨q1, q2⟩
          have ej : (e j).toInt = (d : Int) := by
            have := hno j hj
            have h5 : ¬ ((f j).toInt ≤ (d : Int) ∧ (d : Int) < (e j).toInt) := fun h => this ⟨q1, q2, h.1, h.2⟩
            omega
          have heI : e j = nI d := Int32.toInt_inj.mp (by rw [ej, nI_toInt (by omega)])
          have hnf2 := nf_ge hW hj q1
          obtain ⟨t, -, htI, tt⟩ := toI (x := nf_ k f g n (k j) (f j)) (by omega)
          -- the next version begins behind this day
          have htd : d < t := by
            rcases nf_cases (k := k) (f := f) (g := g) (n := n) hn (k j) (f j) with ⟨-, h5⟩ | ⟨l, hl, -, h5, gl, kl, fl⟩
            · rw [h5, z1000_] at tt; omega
            · have := hnf l hl gl (kl.trans q2)
              rw [← h5] at this
              omega
          have ho : e j < nf_ k f g n (k j) (f j) := by rw [Int32.lt_iff_toInt_lt]; omega
          have hempty : ∀ y, d < y → y < t → zv key y < 0 := fun y h5 h6 => by
            rw [hz key y hk (by omega), dy_lt0 hn (by omega)]
            rintro z hz1 ⟨r1, r2, r3, r4⟩
            have hzj : z ≠ j := fun h => by subst h; omega
            have hfj : f j < f z := by
              rw [Int32.lt_iff_toInt_lt]
              rcases hW.2.2.2 z j hz1 hj hzj r1 q1 (r2.trans q2.symm) with h7 | h7
              · omega
              · have r := hW.2.2.1 j hj q1; omega
            rcases nf_cases (k := k) (f := f) (g := g) (n := n) hn (k j) (f j) with ⟨hnx, h5⟩ | ⟨l, hl, hnx, h5, gl, kl, fl⟩
            · rcases nx_spec (k := k) (f := f) (g := g) (n := n) (k j) (f j) hn with ⟨-, hall⟩ | ⟨l, hl, hy, -⟩
              · exact absurd hfj (Int32.not_lt.mpr (hall z hz1 r1 (r2.trans q2.symm)))
              · exact absurd (hy.symm.trans hnx) (nI_m1 (by omega))
            · rcases nx_spec (k := k) (f := f) (g := g) (n := n) (k j) (f j) hn with ⟨hy, -⟩ | ⟨l2, hl2, hy, -, -, -, hmin⟩
              · exact absurd (hnx.symm.trans hy) (nI_m1 (by omega))
              · have := (nI_eq (by omega) (by omega)).mp (hnx.symm.trans hy)
                subst this
                have h8 := hmin z hz1 r1 (r2.trans q2.symm) hfj
                rw [Int32.le_iff_toInt_le] at h8
                rw [h5] at tt
                omega
          have hthere : t < 1000 → 0 ≤ zv key t := fun h5 => by
            rcases nf_cases (k := k) (f := f) (g := g) (n := n) hn (k j) (f j) with ⟨-, h6⟩ | ⟨l, hl, -, h6, gl, kl, fl⟩
            · rw [h6, z1000_] at tt; omega
            · have r := hW.2.2.1 l hl gl
              rw [h6] at tt
              rw [hz key t hk h5, dyU hW (by omega) hl ⟨gl, kl.trans q2, by omega, by omega⟩]
              exact nI_pos' (by omega)
          have hx2 := x_gapDay (h1 := h1) (h2 := h2) (h3 := h3) (rc := rc) (rk := rk) (rd := rd) (rv := rv) (fk := fk) (fd := fd) (fa := fa) (fv := fv) (q := q) (v := v) (show key < 8 by omega) hW hj (ga_day hW hj hA ej ho)
          rw [(hz key (d - 1) hk (by omega)).trans hd', if_neg (nI_pos (by omega)), L_next_t (t := t) (by omega) htd (by omega) hempty hthere, bd_s, hx2.1, bd_s]
          dsimp only
          rw [if_pos heI, hx2.2, bd_s]
          dsimp only
          rw [← q2, htI, if_pos rfl, S_I, S_I]
          have h9 := ih m' (d + 1) x (by omega) (by omega) hF'
          rw [hrd, hvs, gd_one hW hj hA ho ej] at h9
          rw [q2]
          exact h9
    · -- version j is valid
      have hzd : zv key d = nI j := (hz key d hk (by omega)).trans hd
      obtain ⟨q1, q2, q3, q4⟩ := id hon
      have hA : g j = 0 ∧ k j = nI key := ⟨q1, q2⟩
      obtain ⟨a, b, hfa, heb, tf, te, hab, hb⟩ := day_in hW hj q1
      have hvs := vs_one hW hon n 0 (Nat.zero_le _) (by omega) (by omega)
      have hmn : rd_ k f g n key d ≤ n := cf_le _ _ _
      rw [hzd, if_neg (nI_pos (by omega))]
      -- what happens behind the first valid day's setting
      have main : ∀ x1, Fst_ k f g n key (d + 1) x1 → ∃ x', Fst_ k f g n key 1000 x' ∧ f_L_isKey_J43 kx (f_L_isKey_L15 kx m') (nI key) (nI (rd_ k f g n key d)) (nI (gd2_ k f e g n key d)) (nI (vs_ k f e g key d n 0)) x1 (nI d) (nI j) (h1, h2, h3) () (k, f, e, v, i, g, nI n) (fk, fd, fa, fv, nI q) (rk, rd, rv, rc) (zv key) wv = kx (nI key) (nI (rd_ k f g n key 1000)) (nI (gd2_ k f e g n key 1000)) (nI (vs_ k f e g key 1000 n 0)) x' (nI 1000) (h1, h2, h3) () (k, f, e, v, i, g, nI n) (fk, fd, fa, fv, nI q) (rk, rd, rv, rc) (zv key) wv := fun x1 hF1 => by
        unfold f_L_isKey_J43
        dsimp only
        rw [S_I, S_I]
        by_cases had : a = d
        · -- it begins today
          have hfd : (f j).toInt = (d : Int) := by omega
          have first : ∃ x', Fst_ k f g n key 1000 x' ∧ f_L_isKey_J65 kx (f_L_isKey_L15 kx m') (nI key) (nI (rd_ k f g n key d)) (nI (gd2_ k f e g n key d)) (nI (vs_ k f e g key d n 0 + 1)) x1 (nI d) (nI j) (h1, h2, h3) () (k, f, e, v, i, g, nI n) (fk, fd, fa, fv, nI q) (rk, rd, rv, rc) (zv key) wv = kx (nI key) (nI (rd_ k f g n key 1000)) (nI (gd2_ k f e g n key 1000)) (nI (vs_ k f e g key 1000 n 0)) x' (nI 1000) (h1, h2, h3) () (k, f, e, v, i, g, nI n) (fk, fd, fa, fv, nI q) (rk, rd, rv, rc) (zv key) wv := by
            have h9 := ih m' (d + 1) x1 (by omega) (by omega) hF1
            rw [rd_one hW hj hA hfd, hvs, gd_same (fun y hy r1 r2 r3 r4 => ?_)] at h9
            · obtain ⟨x', hF9, h9⟩ := h9
              refine ⟨x', hF9, ?_⟩
              have hrun : ∀ z, d ≤ z → z < b → zv key z = nI j := fun z h5 h6 => by
                rw [hz key z hk (by omega)]
                exact dyU hW (by omega) hj ⟨q1, q2, by omega, by omega⟩
              have hend : b < 1000 → ¬ zv key b = nI j := fun h5 h6 => by
                rw [hz key b hk (by omega)] at h6
                have h7 := (dyI hn (by omega) (by omega) h6).2.2.2.2
                omega
              have hrk : rk_ k f g n (nI key) (f j) = rd_ k f g n key d := rd_rk hfd
              have hm := rk_many (f := f) hj hA
              have hmn2 : mn_ k g n (nI key) ≤ n := mn_le
              have hpv : pv_ k f g n (nI key) (rd_ k f g n key d) = nI j := by rw [← hrk]; exact pv_some hW hj hA
              have hwj := hJ.2.2.2 j hj q1
              unfold f_L_isKey_J65
              dsimp only
              refine Eq.trans (K69_L hb hrun hend (b - d) fu_ d (by omega) (by unfold fu_; omega) (Nat.le_refl _)) ?_
              unfold f_L_isKey_X69
              dsimp only
              unfold f_L_isKey_J92
              dsimp only
              rw [x_versionAt (show key < 8 by omega) hW (by omega) hj hpv, bd_s]
              dsimp only
              rw [if_pos rfl, x_version0 hn hj q1, bd_s]
              dsimp only
              rw [if_pos q2, x_version1 hn hj q1, bd_s]
              dsimp only
              rw [if_pos (by rw [hfa, had]), x_version2 hn hj q1, bd_s]
              dsimp only
              rw [if_pos heb, x_version5 hn hj q1, bd_s]
              dsimp only
              rw [if_pos (by rw [heb, hfa, had]), x_version3 hn hj q1, bd_s]
              dsimp only
              simp only [m3_I, S_I]
              rw [gd_I (by omega) (by omega), cl_I (show 3 * j < 2 ^ 31 by omega), if_pos hwj.1.symm, x_isInferred hW hj q1, bd_s]
              dsimp only
              rw [gd_I (by omega) (by omega), cl_I (show 3 * j + 1 < 2 ^ 31 by omega), hwj.2]
              have hJ193 : ∀ y : Int32, i j = y → f_L_isKey_J193 kx (f_L_isKey_L15 kx m') (nI key) (nI (rd_ k f g n key d)) (nI (gd2_ k f e g n key d)) (nI (vs_ k f e g key d n 0 + 1)) x1 (nI d) (nI j) (nI b) (i j) y (h1, h2, h3) () (k, f, e, v, i, g, nI n) (fk, fd, fa, fv, nI q) (rk, rd, rv, rc) (zv key) wv = kx (nI key) (nI (rd_ k f g n key 1000)) (nI (gd2_ k f e g n key 1000)) (nI (vs_ k f e g key 1000 n 0)) x' (nI 1000) (h1, h2, h3) () (k, f, e, v, i, g, nI n) (fk, fd, fa, fv, nI q) (rk, rd, rv, rc) (zv key) wv := fun y hy => by
                unfold f_L_isKey_J193
                dsimp only
                rw [if_pos hy, x_validOn (show key < 8 by omega) (show d < 1000 by omega) hW hj hd, bd_s]
                dsimp only
                rw [if_pos rfl, P_I (show 0 < b by omega), x_validOn (show key < 8 by omega) (show b - 1 < 1000 by omega) hW hj (dyU hW (by omega) hj ⟨q1, q2, by omega, by omega⟩), bd_s]
                dsimp only
                rw [if_pos rfl, S_I, S_I]
                exact h9
              rcases (hW.2.1 j hj).2 with hi | hi
              · rw [if_neg (by rw [hi]; decide)]
                exact hJ193 0 hi
              · rw [if_pos hi]
                exact hJ193 1 hi
            · -- no gap begins on a day on which a version does
              have h5 := nf_ge hW hy r1
              have hyj : y ≠ j := fun h => by subst h; omega
              have ry := hW.2.2.1 y hy r1
              have hfy : f y < f j := by rw [Int32.lt_iff_toInt_lt]; omega
              rw [Int32.lt_iff_toInt_lt] at r3
              rcases nf_cases (k := k) (f := f) (g := g) (n := n) hn (k y) (f y) with ⟨hnx, -⟩ | ⟨l, hl, hnx, h6, gl, kl, fl⟩
              · rcases nx_spec (k := k) (f := f) (g := g) (n := n) (k y) (f y) hn with ⟨-, hall⟩ | ⟨l, hl, hy2, -⟩
                · exact absurd hfy (Int32.not_lt.mpr (hall j hj q1 (q2.trans r2.symm)))
                · exact absurd (hy2.symm.trans hnx) (nI_m1 (by omega))
              · rcases nx_spec (k := k) (f := f) (g := g) (n := n) (k y) (f y) hn with ⟨hy2, -⟩ | ⟨l2, hl2, hy2, -, -, -, hmin⟩
                · exact absurd (hnx.symm.trans hy2) (nI_m1 (by omega))
                · have := (nI_eq (by omega) (by omega)).mp (hnx.symm.trans hy2)
                  subst this
                  have h8 := hmin j hj q1 (q2.trans r2.symm) hfy
                  rw [Int32.le_iff_toInt_le] at h8
                  rw [h6] at r3
                  omega
          by_cases h0 : d = 0
          · rw [if_pos (by rw [h0]; decide)]
            exact first
          · rw [if_neg (nI_nle (by omega) (by omega)), P_I (by omega), gd_I (by omega) (by omega), cl_I (show d - 1 < 2 ^ 31 by omega), if_neg (fun h => ?_)]
            · exact first
            · rw [hz key (d - 1) hk (by omega)] at h
              have h9 := (dyI hn (by omega) (by omega) h).2.2.2.1
              omega
        · -- it began before
          have hp : zv key (d - 1) = nI j := by
            rw [hz key (d - 1) hk (by omega)]
            exact dyU hW (by omega) hj ⟨q1, q2, by omega, by omega⟩
          rw [if_neg (nI_nle (by omega) (by omega)), P_I (by omega), gd_I (by omega) (by omega), cl_I (show d - 1 < 2 ^ 31 by omega), if_pos hp]
          have h9 := ih m' (d + 1) x1 (by omega) (by omega) hF1
          rw [rd_same hW (fun y hy r1 r2 r3 => ?_), hvs, gd_same (fun y hy r1 r2 _ r4 => ?_)] at h9
          · exact h9
          · have ry := hW.2.2.1 y hy r1
            have hyj : y ≠ j := fun h => by subst h; omega
            rcases hW.2.2.2 y j hy hj hyj r1 q1 (r2.trans q2.symm) with h5 | h5 <;> omega
          · have ry := hW.2.2.1 y hy r1
            have := On_inj (key := key) (d := d) hW hy hj ⟨r1, r2, by omega, by omega⟩ hon
            subst this
            omega
      by_cases hx : x < 0
      · rw [if_neg (Int32.not_le.mpr hx)]
        rw [Fst_lt hW hF] at hx
        refine main (nI d) (Fst_new hx hj hA ?_)
        have := hx j hj q1 q2
        omega
      · rw [if_pos (Int32.not_lt.mp hx)]
        rw [Fst_lt hW hF] at hx
        exact main x (Fst_keep hF hx)
theorem isKey_ok (hJ : JV_ K k f e v i g n zv wv) (hk : key < K) (hK : K ≤ 3) : f_L_isKey (nI key) (h1, h2, h3) () (k, f, e, v, i, g, nI n) (fk, fd, fa, fv, nI q) (rk, rd, rv, rc) (zv key) wv = some (nI (mn_ k g n (nI key))) := by
  have hW := hJ.1
  have hn := hW.1
  have hmn : mn_ k g n (nI key) ≤ n := mn_le
  have hF0 : Fst_ k f g n key 0 (-1) := Or.inl ⟨rfl, fun y hy hg _ => by have := hW.2.2.1 y hy hg; omega⟩
  obtain ⟨x', hF, hL⟩ := K15_L (h1 := h1) (h2 := h2) (h3 := h3) (rc := rc) (rk := rk) (rd := rd) (rv := rv) (fk := fk) (fd := fd) (fa := fa) (fv := fv) (q := q) (kx := f_L_isKey_X15) hJ hk hK 1000 fu_ 0 (-1) (by omega) (by unfold fu_; omega) hF0
  have e1 : rd_ k f g n key 0 = 0 := cf_0 n 0 (fun j _ hj => dec_f (fun h => by have := hW.2.2.1 j (by omega) h.1.1; omega))
  have e2 : gd2_ k f e g n key 0 = 0 := cf_0 n 0 (fun j _ hj => dec_f (fun h => by have := hW.2.2.1 j (by omega) h.1.1.1; omega))
  rw [e1, e2, vs_0] at hL
  unfold f_L_isKey
  dsimp only
  refine Eq.trans hL ?_
  rw [rd_all hW, gd_all hW]
  unfold f_L_isKey_X15
  dsimp only
  rw [x_versionsOf (show key < 8 by omega) hn, bd_s]
  dsimp only
  rw [if_pos rfl, x_gaps (show key < 8 by omega) hW, bd_s]
  dsimp only
  rw [if_pos rfl]
  rcases id hF with ⟨hx, -⟩ | ⟨a, ha, hA, hfa, hx, hmin⟩
  · rw [if_pos (by rw [hx]; decide)]
  · have hnn : ¬ x' < 0 := by
      have r := hW.2.2.1 a ha hA.1
      rw [hx, Int32.lt_iff_toInt_lt, z0_]
      omega
    have hr0 : rk_ k f g n (nI key) (f a) = 0 := by
      unfold rk_
      refine cf_0 n 0 (fun y _ hy => dec_f (fun h => ?_))
      have h5 := hmin y (by omega) h.1.1 h.1.2
      have h6 := h.2
      rw [Int32.lt_iff_toInt_lt] at h6
      omega
    rw [if_neg hnn, x_coverage (show key < 8 by omega) hW ha hA hr0 (vs_sum hW), bd_s]
    dsimp only
    rw [hx, gN_ok (div_ok hW ha hA.1), if_pos (cov_same (div_ok hW ha hA.1))]
end
