/-! joining: the law goes over the days, the class over the versions -/
section
variable {k f e v i g fk fd fa fv wv xv uv : Nat → Int32} {n q K L key day m mw : Nat} {zv : Nat → Nat → Int32} {h1 h2 h3 rc l2 l3 l7 l8 l9 l10 l11 l12 l13 l14 l16 l17 l18 l19 : Int32} {rk rd rv xs : Nat → Int32}
theorem B5_fill {kx : Int32 → Int32 → Int32 → Int32 → Int32 → Int32 → Int32 → Int32 → Int32 → Int32 → Int32 → Int32 → Int32 → Int32 → Int32 →  tD_ → tS_ → tV_ → tF_ → tR_ → tI_ → tI_ → tY_ → tI_ → tZ_ → Option Unit} {d y a b : Nat} {zv0 : Nat → Nat → Int32} (hk : key < K) (hK : K ≤ 3) (hy : y ≤ 1000) (h1' : ∀ x, d ≤ x → x < y → zv0 key x = nI b) (h2' : y < 1000 → ¬ zv0 key y = nI b) : ∀ c m' t, t + c = y → c < m' → d ≤ t →
    f_law_B5_L894 xs L K mw kx m' l2 l3 l7 l8 l9 l10 l11 (nI key) l13 l14 l16 l17 (nI a) (nI b) (nI t) (h1, h2, h3) () (k, f, e, v, i, g, nI n) (fk, fd, fa, fv, nI q) (rk, rd, rv, rc) wv xv () uv (rup zv0 key (fl_ d t (nI a) (zv0 key))) = kx l2 l3 l7 l8 l9 l10 l11 (nI key) l13 l14 l16 l17 (nI a) (nI b) (nI y) (h1, h2, h3) () (k, f, e, v, i, g, nI n) (fk, fd, fa, fv, nI q) (rk, rd, rv, rc) wv xv () uv (rup zv0 key (fl_ d y (nI a) (zv0 key))) := by
  intro c
  induction c with
  | zero =>
    intro m' t g1 g2 g3
    obtain ⟨m', rfl⟩ := ex_S g2
    have e9 : t = y := by omega
    subst e9
    rw [e_law_B5_L894]
    unfold f_law_B5_S894
    dsimp only
    by_cases h6 : 1000 ≤ t
    · rw [if_pos (by rw [le_1000 (by omega)]; exact h6)]
    · rw [if_neg (by rw [le_1000 (by omega)]; exact h6), gd_I hk (by omega), gd_I (by omega) (by omega), cl_I (show key < 2 ^ 31 by omega), cl_I (show t < 2 ^ 31 by omega), rup_s, fl_o (show ¬ (d ≤ t ∧ t < t) by omega), if_neg (h2' (by omega))]
  | succ c ih =>
    intro m' t g1 g2 g3
    obtain ⟨m', rfl⟩ := ex_S g2
    have ez : rup (rup zv0 key (fl_ d t (nI a) (zv0 key))) key (upd (fl_ d t (nI a) (zv0 key)) t (nI a)) = rup zv0 key (fl_ d (t + 1) (nI a) (zv0 key)) := by
      rw [rup_rup]
      refine congrArg (rup zv0 key) (funext fun x => ?_)
      by_cases q : x = t
      · subst q; rw [up_s, fl_i (by omega)]
      · rw [up_n q]
        by_cases r : d ≤ x ∧ x < t
        · rw [fl_i r, fl_i (by omega)]
        · rw [fl_o r, fl_o (by omega)]
    rw [e_law_B5_L894]
    unfold f_law_B5_S894
    dsimp only
    rw [if_neg (by rw [le_1000 (by omega)]; omega), gd_I hk (by omega), gd_I (by omega) (by omega), cl_I (show key < 2 ^ 31 by omega), cl_I (show t < 2 ^ 31 by omega), rup_s, fl_o (show ¬ (d ≤ t ∧ t < t) by omega), if_pos (h1' t g3 (by omega)), gd_I hk (by omega), gd_I (by omega) (by omega), nm_s, ez, S_I]
    exact ih m' (t + 1) (by omega) (by omega) (by omega)
/-- where the class's loop stands when the law's is at this day -/
def Pos_ (k f g : Nat → Int32) (n key d t : Nat) : Prop :=
  (t = 0 ∧ ∀ y, y < n → g y = 0 → k y = nI key → ¬ (f y).toInt < (d : Int)) ∨
  ∃ a, a < n ∧ (g a = 0 ∧ k a = nI key) ∧ rk_ k f g n (nI key) (f a) = t ∧ (f a).toInt < (d : Int) ∧ ∀ y, y < n → g y = 0 → k y = nI key → (f y).toInt < (d : Int) → (f y).toInt ≤ (f a).toInt
theorem Pos_up (hW : WV_ k f e i g n) {d : Nat} (h : ∀ y, y < n → g y = 0 → k y = nI key → ¬ (f y).toInt < (d : Int)) : Pos_ k f g n key (d + 1) 0 := by
  by_cases hy : ∃ y, y < n ∧ g y = 0 ∧ k y = nI key ∧ (f y).toInt = (d : Int)
  · obtain ⟨y, hy, hg, hk, hf⟩ := hy
    refine Or.inr ⟨y, hy, ⟨hg, hk⟩, ?_, by omega, fun z hz h1 h2 h3 => by omega⟩
    unfold rk_
    refine cf_0 n 0 (fun z _ hz => dec_f (fun h1 => ?_))
    have := h z (by omega) h1.1.1 h1.1.2
    have h2 := h1.2
    rw [Int32.lt_iff_toInt_lt] at h2
    omega
  · refine Or.inl ⟨rfl, fun y hy2 hg hk hf => hy ⟨y, hy2, hg, hk, ?_⟩⟩
    have := h y hy2 hg hk
    omega
theorem ex_S2 {a b : Nat} (h : a + 1 < b) : ∃ c, b = c + 1 + 1 := ⟨b - 2, by omega⟩
theorem B5_L {kx : Int32 → Int32 → Int32 → Int32 → Int32 → Int32 → Int32 → Int32 → Int32 → Int32 → Int32 → Int32 →  tD_ → tS_ → tV_ → tF_ → tR_ → tI_ → tI_ → tY_ → tI_ → tZ_ → Option Unit} (hk : key < K) (hK : K ≤ 3) : ∀ c d (e' g' : Nat → Int32) (zv' : Nat → Nat → Int32) (t s m1 : Nat) (x : Int32), d + c = 1000 → 1 ≤ d → JV_ K k f e' v i g' n zv' wv → Pos_ k f g' n key d t → (t = 0 ∨ t < mn_ k g' n (nI key)) → s + (mn_ k g' n (nI key) - t) ≤ n → mn_ k g' n (nI key) - t + 1 < m1 →
    ∃ (e2 g2 : Nat → Int32) (zv2 : Nat → Nat → Int32) (x2 : Int32), f_X4_joinAlike_L12 m1 (nI s) (pv_ k f g' n (nI key) t) x (nI key) (k, f, e', v, i, g', nI n) = some (x2, (k, f, e2, v, i, g2, nI n)) ∧ JV_ K k f e2 v i g2 n zv2 wv ∧ (∀ a b, a < K → b < 1000 → ¬ zv' a b = -1 → ¬ zv2 a b = -1) ∧
      ∀ m', c < m' → f_law_B5_L797 xs L K mw kx m' l2 l3 l7 l8 l9 l10 l11 (nI key) l13 l14 x (nI d) (h1, h2, h3) () (k, f, e, v, i, g, nI n) (fk, fd, fa, fv, nI q) (rk, rd, rv, rc) wv xv () uv zv' = kx l2 l3 l7 l8 l9 l10 l11 (nI key) l13 l14 x2 (nI 1000) (h1, h2, h3) () (k, f, e, v, i, g, nI n) (fk, fd, fa, fv, nI q) (rk, rd, rv, rc) wv xv () uv zv2 := by
  intro c
  induction c with
  | zero =>
    intro d e' g' zv' t s m1 x hd hd1 hJ hPos ht hs hm1
    have hW := hJ.1
    have hn := hW.1
    have hmn : mn_ k g' n (nI key) ≤ n := mn_le
    have e9 : d = 1000 := by omega
    subst e9
    refine ⟨e', g', zv', x, ?_, hJ, fun _ _ _ _ h => h, fun m' hm' => ?_⟩
    · rcases hPos with ⟨rfl, hno⟩ | ⟨a, ha, hA, hra, hfa, hmax⟩
      · have hm0 : mn_ k g' n (nI key) = 0 := by
          unfold mn_
          refine cf_0 n 0 (fun j _ hj => dec_f (fun h => ?_))
          have r := hW.2.2.1 j (by omega) h.1
          exact hno j (by omega) h.1 h.2 (by omega)
        rw [pv_out (by omega)]
        obtain ⟨m1, rfl⟩ := ex_S (show 0 < m1 by omega)
        exact join_end
      · have htm := rk_many (f := f) ha hA
        rw [hra] at htm
        have hlast : mn_ k g' n (nI key) ≤ t + 1 := by
          rcases Nat.lt_or_ge (t + 1) (mn_ k g' n (nI key)) with h | h
          · obtain ⟨b, hb, hB, hrb, -⟩ := pv_ex (key := nI key) hW (t + 1) h
            have hfb := rk_fle hW ha hb hA hB (by omega)
            have r := hW.2.2.1 b hb hB.1
            have := hmax b hb hB.1 hB.2 (by omega)
            rw [Int32.lt_iff_toInt_lt] at hfb
            omega
          · exact h
        obtain ⟨m1, rfl⟩ := ex_S2 (show 0 + 1 < m1 by omega)
        rw [← hra, pv_some hW ha hA, e_X4_joinAlike_L12]
        unfold f_X4_joinAlike_S12
        dsimp only
        rw [if_neg (by rw [nI_leI (by omega) (by omega)]; omega), if_neg (nI_m1 (by omega)), gd_I (by omega) (by omega), cl_I (by omega), next_I hn, bd_s, nx_pv hW ha hA, hra, pv_out (t := t + 1) hlast, if_pos rfl, join_end]
    · obtain ⟨m', rfl⟩ := ex_S hm'
      rw [e_law_B5_L797]
      unfold f_law_B5_S797
      dsimp only
      rw [if_pos (by decide)]
  | succ c ih =>
    intro d e' g' zv' t s m1 x hd hd1 hJ hPos ht hs hm1
    have hW := hJ.1
    have hz := hJ.2.2.1
    have hn := hW.1
    have hmn : mn_ k g' n (nI key) ≤ n := mn_le
    -- the law's step when nothing is joined
    have skip : ∀ m', c + 1 < m' → (zv' key (d - 1) < 0 ∨ zv' key d < 0 ∨ zv' key (d - 1) = zv' key d ∨ ∃ a b, a < n ∧ b < n ∧ g' a = 0 ∧ g' b = 0 ∧ zv' key (d - 1) = nI a ∧ zv' key d = nI b ∧ ¬ (v a = v b ∧ i a = 0 ∧ i b = 0)) →
        f_law_B5_L797 xs L K mw kx m' l2 l3 l7 l8 l9 l10 l11 (nI key) l13 l14 x (nI d) (h1, h2, h3) () (k, f, e, v, i, g, nI n) (fk, fd, fa, fv, nI q) (rk, rd, rv, rc) wv xv () uv zv' = f_law_B5_L797 xs L K mw kx (m' - 1) l2 l3 l7 l8 l9 l10 l11 (nI key) l13 l14 x (nI (d + 1)) (h1, h2, h3) () (k, f, e, v, i, g, nI n) (fk, fd, fa, fv, nI q) (rk, rd, rv, rc) wv xv () uv zv' := fun m' hm' hc => by
      obtain ⟨m', rfl⟩ := ex_S (show 0 < m' by omega)
      rw [Nat.add_sub_cancel, e_law_B5_L797]
      unfold f_law_B5_S797
      dsimp only
      rw [if_neg (by rw [le_1000 (by omega)]; omega), P_I (by omega), gd_I hk (by omega), gd_I (by omega) (by omega), gd_I hk (by omega), gd_I (by omega) (by omega), cl_I (show key < 2 ^ 31 by omega), cl_I (show d - 1 < 2 ^ 31 by omega), cl_I (show d < 2 ^ 31 by omega), S_I]
      by_cases c1 : zv' key (d - 1) < 0
      · rw [if_pos c1]
      · rw [if_neg c1]
        by_cases c2 : zv' key d < 0
        · rw [if_pos c2]
        · rw [if_neg c2]
          by_cases c3 : zv' key (d - 1) = zv' key d
          · rw [if_pos c3]
          · rw [if_neg c3]
            obtain ⟨a, b, ha, hb, ga, gb, ea, eb, hne⟩ := ((hc.resolve_left c1).resolve_left c2).resolve_left c3
            have wa := hJ.2.2.2 a ha ga
            have wb := hJ.2.2.2 b hb gb
            rw [ea, eb]
            simp only [m3_I, S_I]
            rw [gd_I (by omega) (by omega), cl_I (show 3 * a + 1 < 2 ^ 31 by omega), wa.2]
            by_cases i1 : i a = 1
            · rw [if_pos i1]
            · rw [if_neg i1, gd_I (by omega) (by omega), cl_I (show 3 * b + 1 < 2 ^ 31 by omega), wb.2]
              by_cases i2 : i b = 1
              · rw [if_pos i2]
              · rw [if_neg i2, gd_I (by omega) (by omega), gd_I (by omega) (by omega), cl_I (show 3 * a < 2 ^ 31 by omega), cl_I (show 3 * b < 2 ^ 31 by omega), wa.1, wb.1, if_neg]
                exact fun hv => hne ⟨hv, (hW.2.1 a ha).2.resolve_right i1, (hW.2.1 b hb).2.resolve_right i2⟩
    -- on with the class as it is
    have on : Pos_ k f g' n key (d + 1) t → (zv' key (d - 1) < 0 ∨ zv' key d < 0 ∨ zv' key (d - 1) = zv' key d) → ∃ (e2 g2 : Nat → Int32) (zv2 : Nat → Nat → Int32) (x2 : Int32), f_X4_joinAlike_L12 m1 (nI s) (pv_ k f g' n (nI key) t) x (nI key) (k, f, e', v, i, g', nI n) = some (x2, (k, f, e2, v, i, g2, nI n)) ∧ JV_ K k f e2 v i g2 n zv2 wv ∧ (∀ a b, a < K → b < 1000 → ¬ zv' a b = -1 → ¬ zv2 a b = -1) ∧
        ∀ m', c + 1 < m' → f_law_B5_L797 xs L K mw kx m' l2 l3 l7 l8 l9 l10 l11 (nI key) l13 l14 x (nI d) (h1, h2, h3) () (k, f, e, v, i, g, nI n) (fk, fd, fa, fv, nI q) (rk, rd, rv, rc) wv xv () uv zv' = kx l2 l3 l7 l8 l9 l10 l11 (nI key) l13 l14 x2 (nI 1000) (h1, h2, h3) () (k, f, e, v, i, g, nI n) (fk, fd, fa, fv, nI q) (rk, rd, rv, rc) wv xv () uv zv2 := fun hP hc => by
      obtain ⟨e2, g2, zv2, x2, a1, a2, a3, a4⟩ := ih (d + 1) e' g' zv' t s m1 x (by omega) (by omega) hJ hP ht hs hm1
      refine ⟨e2, g2, zv2, x2, a1, a2, a3, fun m' hm' => ?_⟩
      rw [skip m' hm' (by rcases hc with h | h | h; exact Or.inl h; exact Or.inr (Or.inl h); exact Or.inr (Or.inr (Or.inl h)))]
      exact a4 (m' - 1) (by omega)
    rcases hPos with ⟨rfl, hno⟩ | ⟨a, ha, hA, hra, hfa, hmax⟩
    · refine on (Pos_up hW hno) (Or.inl ?_)
      rw [hz key (d - 1) hk (by omega), dy_lt0 hn (by omega)]
      rintro y hy ⟨q1, q2, q3, q4⟩
      exact hno y hy q1 q2 (by omega)
    · have htm := rk_many (f := f) ha hA
      rw [hra] at htm
      by_cases hS : ∃ b, b < n ∧ (g' b = 0 ∧ k b = nI key) ∧ (f b).toInt = (d : Int)
      · obtain ⟨b, hb, hB, hfb⟩ := hS
        -- the version that begins today is the next one
        have hab : a ≠ b := fun h => by rw [h] at hfa; omega
        have hlt : f a < f b := by rw [Int32.lt_iff_toInt_lt]; omega
        have hnx : fo_ (nx_ k f g' (nI key) (f a)) n 0 (-1) = nI b := by
          rcases nx_spec (k := k) (f := f) (g := g') (n := n) (nI key) (f a) hn with ⟨-, hall⟩ | ⟨l, hl, hy, hgl, hkl, hdl, hmin⟩
          · exact absurd hlt (Int32.not_lt.mpr (hall b hb hB.1 hB.2))
          · have hm := hmin b hb hB.1 hB.2 hlt
            rw [Int32.le_iff_toInt_le] at hm
            rw [Int32.lt_iff_toInt_lt] at hdl
            have : l = b := by
              refine Classical.byContradiction fun hne => ?_
              have h1 := f_ne hW hl hb ⟨hgl, hkl⟩ hB hne
              have := hmax l hl hgl hkl (by omega)
              omega
            rw [hy, this]
        have hrb : rk_ k f g' n (nI key) (f b) = t + 1 := by
          have h1 := nx_pv hW ha hA
          rw [hnx, hra] at h1
          rcases pv_in (key := nI key) hW (t + 1) with ⟨h2, -⟩ | ⟨-, y, hy, hY, h3, h4⟩
          · rw [h2] at h1; exact absurd h1 (nI_m1 (by omega))
          · have := (nI_eq (by omega) (by omega)).mp (h1.trans h4)
            rw [this]; exact h3
        have htm1 := rk_many (f := f) hb hB
        rw [hrb] at htm1
        have ra := hW.2.2.1 a ha hA.1
        have rb := hW.2.2.1 b hb hB.1
        have hzb : zv' key d = nI b := by
          rw [hz key d hk (by omega)]
          exact dyU hW (by omega) hb ⟨hB.1, hB.2, by omega, by omega⟩
        obtain ⟨m1, rfl⟩ := ex_S (show 0 < m1 by omega)
        by_cases al : e' a = f b ∧ v a = v b ∧ i a = 0 ∧ i b = 0
        · obtain ⟨y, -, hey, ty⟩ := toI (x := e' b) (by omega)
          have hza : zv' key (d - 1) = nI a := by
            rw [hz key (d - 1) hk (by omega)]
            exact dyU hW (by omega) ha ⟨hA.1, hA.2, by omega, by rw [al.1, hfb]; omega⟩
          have hJ' := JV_merge hJ ha hb hab hA.1 hB.1 hA.2 hB.2 hk (by omega) al.1 hfb ty
          have hmd := mn_drop hb hB
          have hA' : upd g' b 1 a = 0 ∧ k a = nI key := ⟨by rw [up_n hab]; exact hA.1, hA.2⟩
          have hp' := pv_some hJ'.1 ha hA'
          have hrd : rk_ k f (upd g' b 1) n (nI key) (f a) = t := by rw [rk_drop (Int32.le_of_lt hlt), hra]
          rw [hrd] at hp'
          have hP' : Pos_ k f (upd g' b 1) n key (d + 1) t := by
            refine Or.inr ⟨a, ha, hA', hrd, by omega, fun z hz1 hz2 hz3 hz4 => ?_⟩
            have hzb2 : z ≠ b := fun h => by subst h; rw [up_s] at hz2; exact absurd hz2 (by decide)
            rw [up_n hzb2] at hz2
            have := f_ne hW hz1 hb ⟨hz2, hz3⟩ hB hzb2
            exact hmax z hz1 hz2 hz3 (by omega)
          obtain ⟨e2, g2, zv2, x2, a1, a2, a3, a4⟩ := ih (d + 1) _ _ _ t (s + 1) m1 (x + 1) (by omega) (by omega) hJ' hP' (Or.inr (by omega)) (by omega) (by omega)
          refine ⟨e2, g2, zv2, x2, ?_, a2, fun p r hp hr h => a3 p r hp hr ?_, fun m' hm' => ?_⟩
          · rw [hp'] at a1
            rw [← hra, pv_some hW ha hA, e_X4_joinAlike_L12]
            unfold f_X4_joinAlike_S12
            dsimp only
            rw [if_neg (by rw [nI_leI (by omega) (by omega)]; omega), if_neg (nI_m1 (by omega)), gd_I (by omega) (by omega), cl_I (by omega), next_I hn, bd_s, hnx, if_neg (nI_m1 (by omega)), areAlike_I hn ha hb, bd_s, if_pos al, if_neg (by decide), merge_I hn ha hb hA.1 hB.1, bd_s, S_I]
            exact a1
          · by_cases r1 : p = key ∧ d ≤ r ∧ r < y
            · obtain ⟨rfl, r1⟩ := r1
              rw [rup_s, fl_i r1]
              exact nI_m1 (by omega)
            · by_cases r2 : p = key
              · subst r2; rw [rup_s, fl_o (fun q => r1 ⟨rfl, q⟩)]; exact h
              · rw [rup_n r2]; exact h
          · obtain ⟨m', rfl⟩ := ex_S (show 0 < m' by omega)
            have wa := hJ.2.2.2 a ha hA.1
            have wb := hJ.2.2.2 b hb hB.1
            rw [e_law_B5_L797]
            unfold f_law_B5_S797
            dsimp only
            rw [if_neg (by rw [le_1000 (by omega)]; omega), P_I (by omega), gd_I hk (by omega), gd_I (by omega) (by omega), gd_I hk (by omega), gd_I (by omega) (by omega), cl_I (show key < 2 ^ 31 by omega), cl_I (show d - 1 < 2 ^ 31 by omega), cl_I (show d < 2 ^ 31 by omega), hza, hzb, if_neg (nI_pos (by omega)), if_neg (nI_pos (by omega)), if_neg (fun q => hab ((nI_eq (by omega) (by omega)).mp q))]
            simp only [m3_I, S_I]
            rw [gd_I (by omega) (by omega), cl_I (show 3 * a + 1 < 2 ^ 31 by omega), wa.2, al.2.2.1, if_neg (by decide), gd_I (by omega) (by omega), cl_I (show 3 * b + 1 < 2 ^ 31 by omega), wb.2, al.2.2.2, if_neg (by decide), gd_I (by omega) (by omega), gd_I (by omega) (by omega), cl_I (show 3 * a < 2 ^ 31 by omega), cl_I (show 3 * b < 2 ^ 31 by omega), wa.1, wb.1, if_pos al.2.1]
            have hrun : ∀ z, d ≤ z → z < y → zv' key z = nI b := fun z h3 h4 => by
              rw [hz key z hk (by omega)]
              exact dyU hW (by omega) hb ⟨hB.1, hB.2, by omega, by omega⟩
            have hend : y < 1000 → ¬ zv' key y = nI b := fun h3 q => by
              rw [hz key y hk (by omega)] at q
              have h9 := (dyI hn (by omega) (by omega) q).2.2.2.2
              omega
            have e0 : zv' = rup zv' key (fl_ d d (nI a) (zv' key)) := by
              have : fl_ d d (nI a) (zv' key) = zv' key := by
                funext z
                rw [fl_o (by omega)]
              rw [this, rup_id]
            have hL := B5_fill (xs := xs) (L := L) (mw := mw) (l2 := l2) (l3 := l3) (l7 := l7) (l8 := l8) (l9 := l9) (l10 := l10) (l11 := l11) (l13 := l13) (l14 := l14) (l16 := x) (l17 := nI d) (a := a) (h1 := h1) (h2 := h2) (h3 := h3) (rc := rc) (rk := rk) (rd := rd) (rv := rv) (k := k) (f := f) (e := e) (v := v) (i := i) (g := g) (n := n) (fk := fk) (fd := fd) (fa := fa) (fv := fv) (q := q) (wv := wv) (xv := xv) (uv := uv) (kx := f_law_B5_X894 xs L K mw kx (f_law_B5_L797 xs L K mw kx m')) hk hK (by omega) hrun hend (y - d) fu_ d (by omega) (by unfold fu_; omega) (Nat.le_refl _)
            rw [← e0] at hL
            refine Eq.trans hL ?_
            unfold f_law_B5_X894
            dsimp only
            unfold f_law_B5_J931
            dsimp only
            rw [S_I]
            exact a4 m' (by omega)
        · have hP' : Pos_ k f g' n key (d + 1) (t + 1) := Or.inr ⟨b, hb, hB, hrb, by omega, fun z hz1 hz2 hz3 hz4 => by omega⟩
          obtain ⟨e2, g2, zv2, x2, a1, a2, a3, a4⟩ := ih (d + 1) e' g' zv' (t + 1) (s + 1) m1 x (by omega) (by omega) hJ hP' (Or.inr htm1) (by omega) (by omega)
          refine ⟨e2, g2, zv2, x2, ?_, a2, a3, fun m' hm' => ?_⟩
          · rw [← hrb, pv_some hW hb hB] at a1
            rw [← hra, pv_some hW ha hA, e_X4_joinAlike_L12]
            unfold f_X4_joinAlike_S12
            dsimp only
            rw [if_neg (by rw [nI_leI (by omega) (by omega)]; omega), if_neg (nI_m1 (by omega)), gd_I (by omega) (by omega), cl_I (by omega), next_I hn, bd_s, hnx, if_neg (nI_m1 (by omega)), areAlike_I hn ha hb, bd_s, if_neg al, if_pos rfl, S_I]
            exact a1
          · refine (skip m' hm' ?_).trans (a4 (m' - 1) (by omega))
            by_cases ead : (e' a).toInt = (d : Int)
            · have hza : zv' key (d - 1) = nI a := by
                rw [hz key (d - 1) hk (by omega)]
                exact dyU hW (by omega) ha ⟨hA.1, hA.2, by omega, by omega⟩
              exact Or.inr (Or.inr (Or.inr ⟨a, b, ha, hb, hA.1, hB.1, hza, hzb, fun h => al ⟨Int32.toInt_inj.mp (by omega), h⟩⟩))
            · refine Or.inl ?_
              rw [hz key (d - 1) hk (by omega), dy_lt0 hn (by omega)]
              rintro y hy ⟨q1, q2, q3, q4⟩
              have hya : y = a := by
                refine Classical.byContradiction fun hne => ?_
                have h1 := hmax y hy q1 q2 (by omega)
                have h2 := f_ne hW hy ha ⟨q1, q2⟩ hA hne
                rcases hW.2.2.2 y a hy ha hne q1 hA.1 (q2.trans hA.2.symm) with h | h <;> omega
              subst hya
              rcases hW.2.2.2 y b hy hb hab q1 hB.1 (q2.trans hB.2.symm) with h | h <;> omega
      · have hP' : Pos_ k f g' n key (d + 1) t := by
          refine Or.inr ⟨a, ha, hA, hra, by omega, fun z hz1 hz2 hz3 hz4 => ?_⟩
          have : ¬ (f z).toInt = (d : Int) := fun h => hS ⟨z, hz1, ⟨hz2, hz3⟩, h⟩
          exact hmax z hz1 hz2 hz3 (by omega)
        refine on hP' ?_
        rcases dyS (k := k) (f := f) (e := e') (g := g') (n := n) (key := key) (show d < 2 ^ 31 by omega) with ⟨q1, -⟩ | ⟨y, hy, hyo, q1⟩
        · refine Or.inr (Or.inl ?_)
          rw [hz key d hk (by omega), q1]
          exact m1_lt0
        · refine Or.inr (Or.inr ?_)
          obtain ⟨r1, r2, r3, r4⟩ := id hyo
          have : ¬ (f y).toInt = (d : Int) := fun h => hS ⟨y, hy, ⟨r1, r2⟩, h⟩
          rw [hz key d hk (by omega), hz key (d - 1) hk (by omega), q1]
          exact dyU hW (by omega) hy ⟨r1, r2, by omega, by omega⟩
theorem B5_ok (hJ : JS_ K m k f e v i g n fk fd fa fv q wv xv zv) (hm : m ≤ 49) (hk : key < K) (hu : ∀ t, t < q → uv t = fv t) {k953 : Int32 → Int32 → Int32 → Int32 → Int32 → Int32 →  tD_ → tS_ → tV_ → tF_ → tR_ → tI_ → tI_ → tY_ → tI_ → tZ_ → Option Unit}
    (hk9 : ∀ (h3' : Int32) (e' g' fv' : Nat → Int32) (zv' : Nat → Nat → Int32), JS_ K (m + 1) k f e' v i g' n fk fd fa fv' q wv xv zv' → JM_ q q h3' k f e' g' n fk fd uv → k953 l2 l3 l7 l8 l9 l10 (h1, h2, h3') () (k, f, e', v, i, g', nI n) (fk, fd, fa, fv', nI q) (rk, rd, rv, rc) wv xv () uv zv' = some ()) :
    f_law_B5 xs L K mw k953 l2 l3 l7 l8 l9 l10 l11 (nI key) l13 l14 (h1, h2, h3) () (k, f, e, v, i, g, nI n) (fk, fd, fa, fv, nI q) (rk, rd, rv, rc) wv xv () uv zv = some () := by
  obtain ⟨⟨hK1, hK3, hnm, hqm, hm5⟩, hV, hF⟩ := id hJ
  have hW := hV.1
  have hn6 := hW.1
  have hmn : mn_ k g n (nI key) ≤ n := mn_le
  have hP0 : Pos_ k f g n key 1 0 := Pos_up hW (fun y hy hg hk => by have := hW.2.2.1 y hy hg; omega)
  obtain ⟨e2, g2, zv2, x2, a1, a2, a3, a4⟩ := B5_L (xs := xs) (L := L) (mw := mw) (l2 := l2) (l3 := l3) (l7 := l7) (l8 := l8) (l9 := l9) (l10 := l10) (l11 := l11) (l13 := l13) (l14 := l14) (h1 := h1) (h2 := h2) (h3 := h3) (rc := rc) (rk := rk) (rd := rd) (rv := rv) (k := k) (f := f) (e := e) (v := v) (i := i) (g := g) (n := n) (fk := fk) (fd := fd) (fa := fa) (fv := fv) (q := q) (wv := wv) (xv := xv) (uv := uv) (kx := f_law_B5_X797 xs L K mw k953) hk hK3 999 1 e g zv 0 0 fu_ 0 (by omega) (by omega) hV hP0 (Or.inl rfl) (by omega) (by unfold fu_; omega)
  unfold f_law_B5
  dsimp only
  refine Eq.trans (a4 fu_ (by unfold fu_; omega)) ?_
  unfold f_law_B5_X797
  dsimp only
  have hj : f_X5_join (nI key) (h1, h2, h3) () (k, f, e, v, i, g, nI n) (fk, fd, fa, fv, nI q) (rk, rd, rv, rc) = some (Except.ok x2, (h1, h2, fo_ (mv_ (onF_ k f e2 g2 n fk fd) fv) q 0 0), (k, f, e2, v, i, g2, nI n), (fk, fd, fa, (fun t => if t < q then onF_ k f e2 g2 n fk fd t else fv t), nI q)) := by
    unfold f_X5_join f_X4_joinAlike
    dsimp only
    rw [key_T (iK_I (by omega)), bd_s]
    dsimp only
    rw [next_I hn6, bd_s, nx_pv0 hW]
    have a1' : f_X4_joinAlike_L12 fu_ 0 (pv_ k f g n (nI key) 0) 0 (nI key) (k, f, e, v, i, g, nI n) = some (x2, (k, f, e2, v, i, g2, nI n)) := a1
    rw [a1', bd_s]
    dsimp only
    rw [pointFacts_I hn6 hF.1.1, bd_s]
  rw [hj, bd_s]
  dsimp only
  rw [if_pos rfl]
  exact hk9 _ _ _ _ _ ⟨⟨hK1, hK3, by omega, by omega, by omega⟩, a2, JF_next (by omega) hV hF a2 a3⟩ (JM_of hu)
end
