/-! removing -/
section
variable {k f e v i g wv : Nat → Int32} {n K key : Nat} {zv : Nat → Nat → Int32}
theorem JV_merge {a b x y : Nat} (hJ : JV_ K k f e v i g n zv wv) (ha : a < n) (hb : b < n) (hab : a ≠ b) (hga : g a = 0) (hgb : g b = 0) (hka : k a = nI key) (hkb : k b = nI key) (hkK : key < K) (hK : K ≤ 8) (he : e a = f b) (hx : (f b).toInt = (x : Int)) (hy : (e b).toInt = (y : Int)) :
    JV_ K k f (upd e a (e b)) v i (upd g b 1) n (rup zv key (fl_ x y (nI a) (zv key))) wv := by
  obtain ⟨hW, hKk, hz, hw⟩ := hJ
  have ra := hW.2.2.1 a ha hga
  have rb := hW.2.2.1 b hb hgb
  have hW' := WV_merge hW ha hb hab hga hgb (hka.trans hkb.symm) (by rw [he])
  have hlive : ∀ j, upd g b 1 j = 0 → g j = 0 ∧ j ≠ b := fun j h => by
    by_cases q : j = b
    · subst q; rw [up_s] at h; exact absurd h (by decide)
    · rw [up_n q] at h; exact ⟨h, q⟩
  refine ⟨hW', fun j hj hg => hKk j hj (hlive j hg).1, fun key' d hk' hd => ?_, fun j hj hg => hw j hj (hlive j hg).1⟩
  refine (dy_of hW' (by omega) ?_).symm
  have ea : (e a).toInt = (x : Int) := by rw [he, hx]
  by_cases hr : key' = key ∧ x ≤ d ∧ d < y
  · obtain ⟨rfl, hr⟩ := hr
    rw [rup_s, fl_i hr]
    exact Or.inr ⟨a, ha, ⟨by rw [up_n hab]; exact hga, hka, by omega, by rw [up_s]; omega⟩, rfl⟩
  · have ex : rup zv key (fl_ x y (nI a) (zv key)) key' d = zv key' d := by
      by_cases h : key' = key
      · subst h; rw [rup_s, fl_o (fun q => hr ⟨rfl, q⟩)]
      · rw [rup_n h]
    have hon : ∀ j, On_ k f (upd e a (e b)) (upd g b 1) key' d j ↔ On_ k f e g key' d j := by
      intro j
      unfold On_
      by_cases hjb : j = b
      · subst hjb
        rw [up_s]
        refine ⟨fun h => absurd h.1 (by decide), ?_⟩
        rintro ⟨-, q2, q3, q4⟩
        exact absurd ⟨(nI_eq (by omega) (by omega)).mp (q2.symm.trans hkb), by omega, by omega⟩ hr
      · rw [up_n hjb]
        by_cases hja : j = a
        · subst hja
          rw [up_s]
          constructor
          · rintro ⟨q1, q2, q3, q4⟩
            have e9 := (nI_eq (by omega) (by omega)).mp (q2.symm.trans hka)
            refine ⟨q1, q2, q3, ?_⟩
            by_cases h9 : (d : Int) < (e j).toInt
            · exact h9
            · exact absurd ⟨e9, by omega, by omega⟩ hr
          · rintro ⟨q1, q2, q3, q4⟩; exact ⟨q1, q2, q3, by omega⟩
        · rw [up_n hja]
    rw [ex, hz key' d hk' hd]
    rcases dyS (k := k) (f := f) (e := e) (g := g) (n := n) (key := key') (show d < 2 ^ 31 by omega) with ⟨h1, h2⟩ | ⟨j, h1, h2, h4⟩
    · exact Or.inl ⟨h1, fun j hj h => h2 j hj ((hon j).mp h)⟩
    · exact Or.inr ⟨j, h1, (hon j).mpr h2, h4⟩
theorem JV_drop {b x y : Nat} (hJ : JV_ K k f e v i g n zv wv) (hb : b < n) (hgb : g b = 0) (hkb : k b = nI key) (hkK : key < K) (hK : K ≤ 8) (hx : (f b).toInt = (x : Int)) (hy : (e b).toInt = (y : Int)) :
    JV_ K k f e v i (upd g b 1) n (rup zv key (fl_ x y (-1) (zv key))) wv := by
  obtain ⟨hW, hKk, hz, hw⟩ := hJ
  have rb := hW.2.2.1 b hb hgb
  have hW' : WV_ k f e i (upd g b 1) n := WV_drop hW
  have hlive : ∀ j, upd g b 1 j = 0 → g j = 0 ∧ j ≠ b := fun j h => by
    by_cases q : j = b
    · subst q; rw [up_s] at h; exact absurd h (by decide)
    · rw [up_n q] at h; exact ⟨h, q⟩
  refine ⟨hW', fun j hj hg => hKk j hj (hlive j hg).1, fun key' d hk' hd => ?_, fun j hj hg => hw j hj (hlive j hg).1⟩
  refine (dy_of hW' (by omega) ?_).symm
  have hon : ∀ j, On_ k f e (upd g b 1) key' d j ↔ (On_ k f e g key' d j ∧ j ≠ b) := by
    intro j
    unfold On_
    by_cases hjb : j = b
    · subst hjb
      rw [up_s]
      exact ⟨fun h => absurd h.1 (by decide), fun h => absurd rfl h.2⟩
    · rw [up_n hjb]
      exact ⟨fun h => ⟨h, hjb⟩, fun h => h.1⟩
  by_cases hr : key' = key ∧ x ≤ d ∧ d < y
  · obtain ⟨rfl, hr⟩ := hr
    rw [rup_s, fl_i hr]
    refine Or.inl ⟨rfl, fun j hj h => ?_⟩
    have h5 := (hon j).mp h
    exact h5.2 (On_inj hW hj hb h5.1 ⟨hgb, hkb, by omega, by omega⟩)
  · have ex : rup zv key (fl_ x y (-1) (zv key)) key' d = zv key' d := by
      by_cases h : key' = key
      · subst h; rw [rup_s, fl_o (fun q => hr ⟨rfl, q⟩)]
      · rw [rup_n h]
    rw [ex, hz key' d hk' hd]
    rcases dyS (k := k) (f := f) (e := e) (g := g) (n := n) (key := key') (show d < 2 ^ 31 by omega) with ⟨h1, h2⟩ | ⟨j, h1, h2, h4⟩
    · exact Or.inl ⟨h1, fun j hj h => h2 j hj ((hon j).mp h).1⟩
    · refine Or.inr ⟨j, h1, (hon j).mpr ⟨h2, fun q => hr ?_⟩, h4⟩
      subst q
      obtain ⟨-, q2, q3, q4⟩ := h2
      exact ⟨(nI_eq (by omega) (by omega)).mp (q2.symm.trans hkb), by omega, by omega⟩
end
section
variable {k f e v i g : Nat → Int32} {n : Nat}
/-- the version that ends on this day -/
def ew_ (k f e g : Nat → Int32) (n : Nat) (key day : Int32) : Int32 := fs_ (fun o => decide ((g o = 0 ∧ k o = key) ∧ e o = day)) n 0
theorem ew_spec (key day : Int32) : (ew_ k f e g n key day = -1 ∧ ∀ o, o < n → ¬ ((g o = 0 ∧ k o = key) ∧ e o = day)) ∨ ∃ o, o < n ∧ ((g o = 0 ∧ k o = key) ∧ e o = day) ∧ ew_ k f e g n key day = nI o := by
  rcases fs_spec (fun o => decide ((g o = 0 ∧ k o = key) ∧ e o = day)) n 0 with ⟨h, h2⟩ | ⟨o, -, h2, h3, h4, -⟩
  · exact Or.inl ⟨h, fun o ho => of_decide_eq_false (h2 o (Nat.zero_le _) (by omega))⟩
  · exact Or.inr ⟨o, by omega, of_decide_eq_true h3, h4⟩
theorem ewb_L {j : Nat} (hn : n ≤ 60) (hj : j < n) : ∀ c m o, o + c = n → c < m → f_X4_endingWhereBegins_L12 m (nI o) (nI j) (k, f, e, v, i, g, nI n) = some (fs_ (fun o => decide ((g o = 0 ∧ k o = k j) ∧ e o = f j)) c o) := by
  intro c
  induction c with
  | zero =>
    intro m o b1 b2
    obtain ⟨m, rfl⟩ := ex_S b2
    rw [e_X4_endingWhereBegins_L12]
    unfold f_X4_endingWhereBegins_S12
    dsimp only
    rw [if_pos (by rw [nI_leI (by omega) (by omega)]; omega)]
    rfl
  | succ c ih =>
    intro m o b1 b2
    obtain ⟨m, rfl⟩ := ex_S b2
    rw [e_X4_endingWhereBegins_L12]
    unfold f_X4_endingWhereBegins_S12
    dsimp only
    show _ = some (if decide ((g o = 0 ∧ k o = k j) ∧ e o = f j) = true then nI o else fs_ (fun o => decide ((g o = 0 ∧ k o = k j) ∧ e o = f j)) c (o + 1))
    rw [if_neg (by rw [nI_leI (by omega) (by omega)]; omega), gd_I (by omega) (by omega), cl_I (by omega), isOf_I hn (by omega), bd_s, S_I, ih m (o + 1) (by omega) (by omega)]
    by_cases ha : g o = 0 ∧ k o = k j
    · rw [if_pos ha, if_neg (by decide), gd_I (by omega) (by omega), gd_I (by omega) (by omega), cl_I (by omega)]
      by_cases he : e o = f j
      · rw [if_pos he, if_pos (dec_t ⟨ha, he⟩)]
      · rw [if_neg he, if_neg (fun h => he (of_decide_eq_true h).2)]
    · rw [if_neg ha, if_pos rfl, if_neg (fun h => ha (of_decide_eq_true h).1)]
theorem ewb_I {j : Nat} (hn : n ≤ 60) (hj : j < n) (hg : g j = 0) : f_X4_endingWhereBegins (nI j) (k, f, e, v, i, g, nI n) = some (ew_ k f e g n (k j) (f j)) := by
  unfold f_X4_endingWhereBegins
  dsimp only
  rw [has_I hn hj, bd_s, if_pos hg, if_neg (by decide)]
  exact ewb_L hn hj n fu_ 0 (by omega) (by unfold fu_; omega)
theorem drop_V {j : Nat} (hn : n ≤ 60) (hj : j < n) (hg : g j = 0) : f_X4_drop (nI j) (k, f, e, v, i, g, nI n) = some (k, f, e, v, i, upd g j 1, nI n) := by
  unfold f_X4_drop
  dsimp only
  rw [has_I hn hj, bd_s, if_pos hg, if_neg (by decide), gd_I (by omega) (by omega), cl_I (by omega), nm_s]
  rfl
end
section
variable {k f e v i g fk fd fa fv wv xv uv : Nat → Int32} {n q K L key day m mw : Nat} {zv : Nat → Nat → Int32} {h1 h2 h3 rc l2 l3 l7 l8 l9 l10 l11 l12 l13 l14 l16 l17 l18 l19 : Int32} {rk rd rv xs : Nat → Int32}
theorem chkV {j : Nat} (hn : n ≤ 60) (hj : j < n) (hg : g j = 0) : f_X5_checkVersion (nI j) (h1, h2, h3) () (k, f, e, v, i, g, nI n) (fk, fd, fa, fv, nI q) (rk, rd, rv, rc) = some (Except.ok ()) := by
  unfold f_X5_checkVersion
  dsimp only
  rw [has_I hn hj, bd_s, if_pos hg, if_neg (by decide)]
theorem rem_err {a : Int32} (h : f_X5_remove a (h1, h2, h3) () (k, f, e, v, i, g, nI n) (fk, fd, fa, fv, nI q) (rk, rd, rv, rc) = some (Except.error "java/lang/IllegalStateException", (h1, h2, h3), (k, f, e, v, i, g, nI n), (fk, fd, fa, fv, nI q))) : f_L_remove a (h1, h2, h3) () (k, f, e, v, i, g, nI n) (fk, fd, fa, fv, nI q) (rk, rd, rv, rc) = some ((-2 : Int32), (h1, h2, h3), (k, f, e, v, i, g, nI n), (fk, fd, fa, fv, nI q)) := by
  unfold f_L_remove
  dsimp only
  rw [h, bd_s]
  dsimp only
  rw [if_neg (by decide), if_pos rfl]
theorem rem_ok {a r : Int32} {D' : tD_} {V' : tV_} {F' : tF_} (h : f_X5_remove a (h1, h2, h3) () (k, f, e, v, i, g, nI n) (fk, fd, fa, fv, nI q) (rk, rd, rv, rc) = some (Except.ok r, D', V', F')) : f_L_remove a (h1, h2, h3) () (k, f, e, v, i, g, nI n) (fk, fd, fa, fv, nI q) (rk, rd, rv, rc) = some (r, D', V', F') := by
  unfold f_L_remove
  dsimp only
  rw [h, bd_s]
theorem nI_le0 {c : Nat} (h : c < 2 ^ 31) : (nI c ≤ 0) = (c = 0) := propext ⟨fun q => by
  have := (nI_leI (b := 0) h (by omega)).mp q
  omega, fun q => by rw [q]; decide⟩
/-- what the class does: refuses, drops, or gives the days to the version before -/
theorem rem_R {j : Nat} (hn : n ≤ 60) (hj : j < n) (hg : g j = 0) (hq : q ≤ 60) (hE : ew_ k f e g n (k j) (f j) = -1) (hc : ¬ cf_ (fun t => decide (fv t = nI j)) q 0 = 0) : f_L_remove (nI j) (h1, h2, h3) () (k, f, e, v, i, g, nI n) (fk, fd, fa, fv, nI q) (rk, rd, rv, rc) = some ((-2 : Int32), (h1, h2, h3), (k, f, e, v, i, g, nI n), (fk, fd, fa, fv, nI q)) := by
  refine rem_err ?_
  have hle : cf_ (fun t => decide (fv t = nI j)) q 0 ≤ q := cf_le _ _ _
  unfold f_X5_remove
  dsimp only
  rw [chkV hn hj hg, bd_s]
  dsimp only
  rw [F_countOf hq, bd_s, ewb_I hn hj hg, bd_s, if_neg (by rw [nI_le0 (by omega)]; exact hc), if_pos hE]
theorem rem_D {j : Nat} (hn : n ≤ 60) (hj : j < n) (hg : g j = 0) (hq : q ≤ 60) (hE : ew_ k f e g n (k j) (f j) = -1) (hc : cf_ (fun t => decide (fv t = nI j)) q 0 = 0) :
    f_L_remove (nI j) (h1, h2, h3) () (k, f, e, v, i, g, nI n) (fk, fd, fa, fv, nI q) (rk, rd, rv, rc) = some (nI 0, (h1, h2, fo_ (mv_ (onF_ k f e (upd g j 1) n fk fd) fv) q 0 0), (k, f, e, v, i, upd g j 1, nI n), (fk, fd, fa, (fun t => if t < q then onF_ k f e (upd g j 1) n fk fd t else fv t), nI q)) := by
  refine rem_ok ?_
  unfold f_X5_remove
  dsimp only
  rw [chkV hn hj hg, bd_s]
  dsimp only
  rw [F_countOf hq, bd_s, ewb_I hn hj hg, bd_s, hc, if_pos (by decide), if_pos hE, drop_V hn hj hg, bd_s]
  dsimp only
  rw [pointFacts_I hn hq, bd_s]
theorem rem_M {j o : Nat} (hn : n ≤ 60) (hj : j < n) (ho : o < n) (hg : g j = 0) (hgo : g o = 0) (hq : q ≤ 60) (hE : ew_ k f e g n (k j) (f j) = nI o) :
    f_L_remove (nI j) (h1, h2, h3) () (k, f, e, v, i, g, nI n) (fk, fd, fa, fv, nI q) (rk, rd, rv, rc) = some (nI (cf_ (fun t => decide (fv t = nI j)) q 0), (h1, h2, fo_ (mv_ (onF_ k f (upd e o (e j)) (upd g j 1) n fk fd) fv) q 0 0), (k, f, upd e o (e j), v, i, upd g j 1, nI n), (fk, fd, fa, (fun t => if t < q then onF_ k f (upd e o (e j)) (upd g j 1) n fk fd t else fv t), nI q)) := by
  refine rem_ok ?_
  unfold f_X5_remove
  dsimp only
  rw [chkV hn hj hg, bd_s]
  dsimp only
  rw [F_countOf hq, bd_s, ewb_I hn hj hg, bd_s, hE]
  by_cases hc : nI (cf_ (fun t => decide (fv t = nI j)) q 0) ≤ 0
  · rw [if_pos hc, if_neg (nI_m1 (by omega)), merge_I hn ho hj hgo hg, bd_s]
    dsimp only
    rw [pointFacts_I hn hq, bd_s]
  · rw [if_neg hc, if_neg (nI_m1 (by omega)), if_neg (nI_m1 (by omega)), merge_I hn ho hj hgo hg, bd_s]
    dsimp only
    rw [pointFacts_I hn hq, bd_s]
theorem B4_first {kx : Int32 → Int32 → Int32 → Int32 → Int32 → Int32 → Int32 → Int32 → Int32 → Int32 → Int32 → Int32 →  tD_ → tS_ → tV_ → tF_ → tR_ → tI_ → tI_ → tY_ → tI_ → tZ_ → Option Unit} {a : Nat} (hk : key < K) (hK : K ≤ 3) (hd : day < 1000) (h1' : ∀ d, a ≤ d → d ≤ day → zv key d = l16) (h2' : 0 < a → ¬ zv key (a - 1) = l16) : ∀ c m' d, d = a + c → c < m' → d ≤ day →
    f_law_B4_L594 xs L K mw kx m' l2 l3 l7 l8 l9 l10 l11 (nI key) l13 l14 l16 (nI d) (h1, h2, h3) () (k, f, e, v, i, g, nI n) (fk, fd, fa, fv, nI q) (rk, rd, rv, rc) wv xv () uv zv = kx l2 l3 l7 l8 l9 l10 l11 (nI key) l13 l14 l16 (nI a) (h1, h2, h3) () (k, f, e, v, i, g, nI n) (fk, fd, fa, fv, nI q) (rk, rd, rv, rc) wv xv () uv zv := by
  intro c
  induction c with
  | zero =>
    intro m' d g1 g2 g3
    obtain ⟨m', rfl⟩ := ex_S g2
    have e9 : d = a := by omega
    subst e9
    rw [e_law_B4_L594]
    unfold f_law_B4_S594
    dsimp only
    by_cases h6 : d = 0
    · rw [if_pos (by rw [h6]; decide)]
    · rw [if_neg (nI_nle (by omega) (by omega)), P_I (by omega), gd_I hk (by omega), gd_I (by omega) (by omega), cl_I (show key < 2 ^ 31 by omega), cl_I (show d - 1 < 2 ^ 31 by omega), if_neg (h2' (by omega))]
  | succ c ih =>
    intro m' d g1 g2 g3
    obtain ⟨m', rfl⟩ := ex_S g2
    rw [e_law_B4_L594]
    unfold f_law_B4_S594
    dsimp only
    have em : nI d + (-1) = nI (d - 1) := by
      have := pk_m1 (d - 1)
      rw [Nat.sub_add_cancel (by omega)] at this
      exact this
    rw [if_neg (nI_nle (by omega) (by omega)), P_I (by omega), gd_I hk (by omega), gd_I (by omega) (by omega), cl_I (show key < 2 ^ 31 by omega), cl_I (show d - 1 < 2 ^ 31 by omega), if_pos (h1' (d - 1) (by omega) (by omega)), em]
    exact ih m' (d - 1) (by omega) (by omega) (by omega)
theorem B4_end {kx : Int32 → Int32 → Int32 → Int32 → Int32 → Int32 → Int32 → Int32 → Int32 → Int32 → Int32 → Int32 → Int32 →  tD_ → tS_ → tV_ → tF_ → tR_ → tI_ → tI_ → tY_ → tI_ → tZ_ → Option Unit} {T : Nat} (hk : key < K) (hK : K ≤ 3) (hT : T ≤ 1000) (h1' : ∀ d, day ≤ d → d < T → zv key d = l16) (h2' : T < 1000 → ¬ zv key T = l16) : ∀ c m' d, d + c = T → c < m' → day ≤ d →
    f_law_B4_L624 xs L K mw kx m' l2 l3 l7 l8 l9 l10 l11 (nI key) l13 l14 l16 l17 (nI d) (h1, h2, h3) () (k, f, e, v, i, g, nI n) (fk, fd, fa, fv, nI q) (rk, rd, rv, rc) wv xv () uv zv = kx l2 l3 l7 l8 l9 l10 l11 (nI key) l13 l14 l16 l17 (nI T) (h1, h2, h3) () (k, f, e, v, i, g, nI n) (fk, fd, fa, fv, nI q) (rk, rd, rv, rc) wv xv () uv zv := by
  intro c
  induction c with
  | zero =>
    intro m' d g1 g2 g3
    obtain ⟨m', rfl⟩ := ex_S g2
    have e9 : d = T := by omega
    subst e9
    rw [e_law_B4_L624]
    unfold f_law_B4_S624
    dsimp only
    by_cases h6 : 1000 ≤ d
    · rw [if_pos (by rw [le_1000 (by omega)]; exact h6)]
    · rw [if_neg (by rw [le_1000 (by omega)]; exact h6), gd_I hk (by omega), gd_I (by omega) (by omega), cl_I (show key < 2 ^ 31 by omega), cl_I (show d < 2 ^ 31 by omega), if_neg (h2' (by omega))]
  | succ c ih =>
    intro m' d g1 g2 g3
    obtain ⟨m', rfl⟩ := ex_S g2
    rw [e_law_B4_L624]
    unfold f_law_B4_S624
    dsimp only
    rw [if_neg (by rw [le_1000 (by omega)]; omega), gd_I hk (by omega), gd_I (by omega) (by omega), cl_I (show key < 2 ^ 31 by omega), cl_I (show d < 2 ^ 31 by omega), if_pos (h1' d g3 (by omega)), S_I]
    exact ih m' (d + 1) (by omega) (by omega) (by omega)
theorem B4_facts {kx : Int32 → Int32 → Int32 → Int32 → Int32 → Int32 → Int32 → Int32 → Int32 → Int32 → Int32 → Int32 → Int32 → Int32 → Int32 → Int32 →  tD_ → tS_ → tV_ → tF_ → tR_ → tI_ → tI_ → tY_ → tI_ → tZ_ → Option Unit} {j : Nat} (hJ : JV_ K k f e v i g n zv wv) (hF : JF_ K k f e g n fk fd fa fv q xv) (hK : K ≤ 3) (hk : key < K) (hj : j < n) (hkj : k j = nI key) : ∀ c m' t x, t + c = q → c < m' →
    f_law_B4_L678 xs L K mw kx m' l2 l3 l7 (nI q) l9 l10 l11 (nI key) l13 l14 (nI j) l17 l18 l19 (nI x) (nI t) (h1, h2, h3) () (k, f, e, v, i, g, nI n) (fk, fd, fa, fv, nI q) (rk, rd, rv, rc) wv xv () uv zv = kx l2 l3 l7 (nI q) l9 l10 l11 (nI key) l13 l14 (nI j) l17 l18 l19 (nI (x + cf_ (fun t => decide (fv t = nI j)) c t)) (nI q) (h1, h2, h3) () (k, f, e, v, i, g, nI n) (fk, fd, fa, fv, nI q) (rk, rd, rv, rc) wv xv () uv zv := by
  have hq : q ≤ 60 := hF.1.1
  have hn6 := hJ.1.1
  intro c
  induction c with
  | zero =>
    intro m' t x g1 g2
    obtain ⟨m', rfl⟩ := ex_S g2
    rw [e_law_B4_L678]
    unfold f_law_B4_S678
    dsimp only
    rw [if_pos (k_le (by omega) (by omega) (by omega)), show t = q by omega]
    rfl
  | succ c ih =>
    intro m' t x g1 g2
    obtain ⟨m', rfl⟩ := ex_S g2
    have hx := hF.2.2 t (by omega)
    obtain ⟨y, z, hy1, hz1, e1, e2⟩ := fact_at hF (show t < q by omega)
    have e3 : fv t = dy_ k f e g n y z := (hF.1.2 t (by omega)).2.2.2.trans (onF_dy e1 e2)
    rw [e_law_B4_L678]
    unfold f_law_B4_S678
    dsimp only
    rw [if_neg (k_nle (by omega) (by omega) (by omega))]
    simp only [m3_I, S_I]
    rw [gd_I (by omega) (by omega), cl_I (show 3 * t < 2 ^ 31 by omega), hx.1, gd_I hk (by omega), gd_I (by omega) (by omega), cl_I (show 3 * t + 1 < 2 ^ 31 by omega), hx.2.1, e2, gd_I hz1 (by omega), cl_I (show key < 2 ^ 31 by omega), cl_I (show z < 2 ^ 31 by omega)]
    unfold f_law_B4_J723
    dsimp only
    unfold f_law_B4_J724
    dsimp only
    simp only [S_I, Int32.add_zero]
    rw [ih m' (t + 1) x (by omega) (by omega), ih m' (t + 1) (x + 1) (by omega) (by omega), cf_s]
    by_cases hv : fv t = nI j
    · rw [dec_t hv, if_pos rfl]
      rw [e3] at hv
      obtain ⟨-, -, s2, s3, s4⟩ := dyI hn6 (by omega) (by omega) hv
      have e9 : y = key := (nI_eq (by omega) (by omega)).mp (s2.symm.trans hkj)
      rw [e1, e9, if_pos rfl, hJ.2.2.1 key z hk hz1, ← e9, hv, if_pos rfl, Nat.add_assoc]
    · rw [dec_f hv, if_neg (show ¬ false = true by decide), Nat.zero_add]
      by_cases hfk : fk t = nI key
      · have e9 : y = key := (nI_eq (by omega) (by omega)).mp (e1.symm.trans hfk)
        rw [if_pos hfk, if_neg (fun h => hv ?_)]
        rw [hJ.2.2.1 key z hk hz1] at h
        rw [e3, e9]
        exact h
      · rw [if_neg hfk]
theorem B4_ok (hJ : JS_ K m k f e v i g n fk fd fa fv q wv xv zv) (hm : m ≤ 49) (hk : key < K) (hd : day < 1000) (hu : ∀ t, t < q → uv t = fv t) {k953 : Int32 → Int32 → Int32 → Int32 → Int32 → Int32 →  tD_ → tS_ → tV_ → tF_ → tR_ → tI_ → tI_ → tY_ → tI_ → tZ_ → Option Unit} {k1022 : Int32 → Int32 → Int32 → Int32 → Int32 → Int32 →  tD_ → tS_ → tV_ → tF_ → tR_ → tI_ → tI_ → tY_ → tZ_ → Option Unit}
    (hk9 : ∀ (h3' : Int32) (e' g' fv' : Nat → Int32) (zv' : Nat → Nat → Int32), JS_ K (m + 1) k f e' v i g' n fk fd fa fv' q wv xv zv' → JM_ q q h3' k f e' g' n fk fd uv → k953 l2 l3 l7 (nI q) l9 l10 (h1, h2, h3') () (k, f, e', v, i, g', nI n) (fk, fd, fa, fv', nI q) (rk, rd, rv, rc) wv xv () uv zv' = some ())
    (hk10 : k1022 l2 l3 l7 (nI q) l9 l10 (h1, h2, h3) () (k, f, e, v, i, g, nI n) (fk, fd, fa, fv, nI q) (rk, rd, rv, rc) wv xv () zv = some ()) :
    f_law_B4 xs L K mw k953 k1022 l2 l3 l7 (nI q) l9 l10 l11 (nI key) (nI day) l14 (h1, h2, h3) () (k, f, e, v, i, g, nI n) (fk, fd, fa, fv, nI q) (rk, rd, rv, rc) wv xv () uv zv = some () := by
  obtain ⟨⟨hK1, hK3, hnm, hqm, hm5⟩, hV, hF⟩ := id hJ
  have hW := hV.1
  have hn6 := hW.1
  have hz := hV.2.2.1
  have hq6 : q ≤ 60 := hF.1.1
  have td : (nI day).toInt = (day : Int) := nI_toInt (by omega)
  have hzd : zv key day = dy_ k f e g n key day := hz key day hk hd
  unfold f_law_B4
  dsimp only
  rw [gd_I hk (by omega), gd_I hd (by omega), cl_I (show key < 2 ^ 31 by omega), cl_I (show day < 2 ^ 31 by omega)]
  rcases on_spec (k := k) (f := f) (e := e) (g := g) (n := n) (nI key) (nI day) with ⟨hx, hno⟩ | ⟨j, hj, hon, hx⟩
  · have hyd : zv key day = -1 := hzd.trans hx
    rw [hyd, if_neg (by decide)]
    exact hk10
  · have hyd : zv key day = nI j := hzd.trans hx
    obtain ⟨hg, hkj, hfj, hej⟩ := id hon
    obtain ⟨a, b, hfa, heb, tf, te, hab, hb⟩ := day_in hW hj hg
    have g1 : a ≤ day := by rw [Int32.le_iff_toInt_le, tf, td] at hfj; omega
    have g2 : day < b := by rw [Int32.lt_iff_toInt_lt, te, td] at hej; omega
    have hrun : ∀ d, a ≤ d → d < b → zv key d = nI j := fun d h3 h4 => by
      rw [hz key d hk (by omega)]
      exact dyU hW (by omega) hj ⟨hg, hkj, by omega, by omega⟩
    have hend : b < 1000 → ¬ zv key b = nI j := fun h3 q => by
      rw [hz key b hk (by omega)] at q
      have h9 := (dyI hn6 (by omega) (by omega) q).2.2.2.2
      omega
    have hbeg : 0 < a → ¬ zv key (a - 1) = nI j := fun h3 q => by
      rw [hz key (a - 1) hk (by omega)] at q
      have h9 := (dyI hn6 (by omega) (by omega) q).2.2.2.1
      omega
    rw [hyd, if_pos (nI_pos' (by omega))]
    refine Eq.trans (B4_first hk hK3 hd (fun d r1 r2 => hrun d r1 (by omega)) hbeg (day - a) fu_ day (by omega) (by unfold fu_; omega) (Nat.le_refl _)) ?_
    unfold f_law_B4_X594
    dsimp only
    unfold f_law_B4_J620
    dsimp only
    refine Eq.trans (B4_end hk hK3 hb (fun d r1 r2 => hrun d (by omega) r2) hend (b - day) fu_ day (by omega) (by unfold fu_; omega) (Nat.le_refl _)) ?_
    unfold f_law_B4_X624
    dsimp only
    have hcle : cf_ (fun t => decide (fv t = nI j)) q 0 ≤ q := cf_le _ _ _
    -- the version before, as the law sees it
    have key1 : f_law_B4_J670 xs L K mw k953 k1022 l2 l3 l7 (nI q) l9 l10 l11 (nI key) (nI day) l14 (nI j) (nI a) (nI b) (ew_ k f e g n (k j) (f j)) (h1, h2, h3) () (k, f, e, v, i, g, nI n) (fk, fd, fa, fv, nI q) (rk, rd, rv, rc) wv xv () uv zv = some () := by
      unfold f_law_B4_J670
      dsimp only
      have hL := B4_facts (xs := xs) (L := L) (mw := mw) (l2 := l2) (l3 := l3) (l7 := l7) (l9 := l9) (l10 := l10) (l11 := l11) (l13 := nI day) (l14 := l14) (l17 := nI a) (l18 := nI b) (l19 := ew_ k f e g n (k j) (f j)) (h1 := h1) (h2 := h2) (h3 := h3) (rc := rc) (rk := rk) (rd := rd) (rv := rv) (uv := uv) (kx := f_law_B4_X678 xs L K mw k953 k1022) hV hF hK3 hk hj hkj q fu_ 0 0 (by omega) (by unfold fu_; omega)
      refine Eq.trans hL ?_
      rw [Nat.zero_add]
      unfold f_law_B4_X678
      dsimp only
      have hnotm1 : ∀ t, t < q → ∀ x y, x < K → y < 1000 → fk t = nI x → fd t = nI y → ¬ zv x y = -1 := fun t ht x y hx1 hy1 e1 e2 => by
        rw [hz x y hx1 hy1]
        have := (hF.1.2 t ht).2.2.1
        rw [e1, e2] at this
        exact (dy_cv hn6).mpr this
      rcases ew_spec (k := k) (f := f) (e := e) (g := g) (n := n) (k j) (f j) with ⟨hE, hEn⟩ | ⟨o, ho, ⟨⟨hgo, hko⟩, heo⟩, hE⟩
      · by_cases hc : cf_ (fun t => decide (fv t = nI j)) q 0 = 0
        · rw [rem_D hn6 hj hg hq6 hE hc, bd_s]
          dsimp only
          rw [hE, if_neg (by decide), hc, if_pos (by decide)]
          unfold f_law_B4_J754
          dsimp only
          unfold f_law_B4_J756
          dsimp only
          rw [if_pos rfl, if_neg (by decide), if_pos (by decide)]
          unfold f_law_B4_J774
          dsimp only
          rw [gd_I hk (by omega), cl_I (show key < 2 ^ 31 by omega), L_fill_I (by omega) hb, bd_s, nm_s]
          have hE2 := JV_drop hV hj hg hkj hk (by omega) tf te
          refine hk9 _ _ _ _ _ ⟨⟨hK1, hK3, by omega, by omega, by omega⟩, hE2, JF_next2 hF hE2 (fun t ht x y hx1 hy1 e1 e2 => ?_)⟩ (JM_of hu)
          by_cases r : x = key ∧ a ≤ y ∧ y < b
          · obtain ⟨rfl, r⟩ := r
            have e3 : fv t = dy_ k f e g n x y := (hF.1.2 t ht).2.2.2.trans (onF_dy e1 e2)
            have h9 := of_decide_eq_false (cf_00 q 0 hc t (Nat.zero_le _) (by omega))
            rw [e3, ← hz x y hx1 hy1] at h9
            exact absurd (hrun y r.1 r.2) h9
          · by_cases r2 : x = key
            · subst r2
              rw [rup_s, fl_o (fun q => r ⟨rfl, q⟩)]
              exact hnotm1 t ht x y hx1 hy1 e1 e2
            · rw [rup_n r2]
              exact hnotm1 t ht x y hx1 hy1 e1 e2
        · rw [rem_R hn6 hj hg hq6 hE hc, bd_s]
          dsimp only
          rw [hE, if_neg (by decide), if_neg (by rw [nI_le0 (by omega)]; exact hc)]
          unfold f_law_B4_J756
          dsimp only
          rw [if_pos rfl, if_neg (by decide), if_neg (by rw [nI_le0 (by omega)]; exact hc)]
          exact hk10
      · have hoj : o ≠ j := fun q => by subst q; rw [heo] at te; omega
        rw [rem_M hn6 hj ho hg hgo hq6 hE, bd_s]
        dsimp only
        rw [hE, if_pos (nI_pos' (by omega))]
        unfold f_law_B4_J754
        dsimp only
        unfold f_law_B4_J756
        dsimp only
        rw [if_pos rfl, if_pos (nI_pos' (by omega))]
        unfold f_law_B4_J774
        dsimp only
        rw [gd_I hk (by omega), cl_I (show key < 2 ^ 31 by omega), L_fill_I (by omega) hb, bd_s, nm_s]
        have hE2 := JV_merge hV ho hj hoj hgo hg (hko.trans hkj) hkj hk (by omega) heo tf te
        refine hk9 _ _ _ _ _ ⟨⟨hK1, hK3, by omega, by omega, by omega⟩, hE2, JF_next2 hF hE2 (fun t ht x y hx1 hy1 e1 e2 => ?_)⟩ (JM_of hu)
        by_cases r : x = key ∧ a ≤ y ∧ y < b
        · obtain ⟨rfl, r⟩ := r
          rw [rup_s, fl_i r]
          exact nI_m1 (by omega)
        · by_cases r2 : x = key
          · subst r2
            rw [rup_s, fl_o (fun q => r ⟨rfl, q⟩)]
            exact hnotm1 t ht x y hx1 hy1 e1 e2
          · rw [rup_n r2]
            exact hnotm1 t ht x y hx1 hy1 e1 e2
    unfold f_law_B4_J651
    dsimp only
    have hew : ew_ k f e g n (k j) (f j) = if a = 0 then -1 else zv key (a - 1) := by
      rcases ew_spec (k := k) (f := f) (e := e) (g := g) (n := n) (k j) (f j) with ⟨hE, hEn⟩ | ⟨o, ho, ⟨⟨hgo, hko⟩, heo⟩, hE⟩
      · rw [hE]
        by_cases h0 : a = 0
        · rw [if_pos h0]
        · rw [if_neg h0, hz key (a - 1) hk (by omega)]
          refine (dyN (by omega) ?_).symm
          rintro o ho ⟨q1, q2, q3, q4⟩
          refine hEn o ho ⟨⟨q1, q2.trans hkj.symm⟩, ?_⟩
          have hne : o ≠ j := fun q => by subst q; omega
          refine Int32.toInt_inj.mp ?_
          rcases hW.2.2.2 o j ho hj hne q1 hg (q2.trans hkj.symm) with h | h <;> omega
      · have ro := hW.2.2.1 o ho hgo
        have eo : (e o).toInt = (a : Int) := by rw [heo, tf]
        rw [hE, if_neg (by omega), hz key (a - 1) hk (by omega)]
        exact (dyU hW (by omega) ho ⟨hgo, hko.trans hkj, by omega, by omega⟩).symm
    rw [hew] at key1
    by_cases h0 : a = 0
    · rw [if_pos h0] at key1
      rw [if_pos (by rw [h0]; decide)]
      exact key1
    · rw [if_neg h0] at key1
      rw [if_neg (nI_nle (by omega) (by omega)), P_I (by omega), gd_I hk (by omega), gd_I (by omega) (by omega), cl_I (show key < 2 ^ 31 by omega), cl_I (show a - 1 < 2 ^ 31 by omega)]
      exact key1
end
