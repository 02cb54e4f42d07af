/-! a change keeps what holds of the versions -/
section
variable {k f e v i g G : Nat → Int32} {n : Nat} {key day val : Int32}
def cv_ (k f e g : Nat → Int32) (n : Nat) (key day : Int32) : Prop := ∃ j, j < n ∧ g j = 0 ∧ k j = key ∧ f j ≤ day ∧ day < e j
theorem on_spec (key day : Int32) : (fs_ (pOn_ k f e g key day) n 0 = -1 ∧ ∀ j, j < n → ¬ (g j = 0 ∧ k j = key ∧ f j ≤ day ∧ day < e j)) ∨ ∃ j, j < n ∧ (g j = 0 ∧ k j = key ∧ f j ≤ day ∧ day < e j) ∧ fs_ (pOn_ k f e g key day) n 0 = nI j := by
  rcases fs_spec (pOn_ k f e g key day) n 0 with ⟨h1, h2⟩ | ⟨j, h1, h2, h3, h4, -⟩
  · refine Or.inl ⟨h1, fun j hj h => ?_⟩
    have := h2 j (Nat.zero_le _) (by omega)
    rw [pOn_iff.mpr h] at this
    cases this
  · exact Or.inr ⟨j, by omega, pOn_iff.mp h3, h4⟩
theorem on_cv (hn : n ≤ 60) : fs_ (pOn_ k f e g key day) n 0 ≠ -1 ↔ cv_ k f e g n key day := by
  rcases on_spec (k := k) (f := f) (e := e) (g := g) (n := n) key day with ⟨h1, h2⟩ | ⟨j, hj, h, h4⟩
  · exact ⟨fun h => absurd h1 h, fun ⟨j, hj, h⟩ => absurd h (h2 j hj)⟩
  · refine ⟨fun _ => ⟨j, hj, h⟩, fun _ h5 => ?_⟩
    rw [h4, m1_ne (by omega)] at h5
    exact h5
theorem WV_settle {j : Nat} (hW : WV_ k f e i g n) : WV_ k f e (upd i j 0) g n :=
  ⟨hW.1, fun a ha => ⟨(hW.2.1 a ha).1, by
    by_cases h : a = j
    · subst h; exact Or.inl up_s
    · rw [up_n h]; exact (hW.2.1 a ha).2⟩, hW.2.2⟩
theorem RV_settle {j : Nat} {x : Int32} (hn : n ≤ 60) (hj : j < n) (hV : RV_ k f e v i g n G) : RV_ k f e (upd v j x) (upd i j 0) g n (upd (upd G (250 + j) x) (310 + j) 0) := by
  refine ⟨by rw [up_n (by omega), up_n (by omega)]; exact hV.1, fun a ha => ?_⟩
  obtain ⟨q1, q2, q3, q4, q5, q6⟩ := hV.2 a ha
  by_cases h : a = j
  · subst h
    simp (disch := omega) only [up_n, up_s]
    exact ⟨q1, q2, q3, q4, trivial, trivial⟩
  · simp (disch := omega) only [up_n]
    exact ⟨q1, q2, q3, q4, q5, q6⟩
theorem OV_settle {j : Nat} {x : Int32} (hj : j < 60) : OV_ G (upd (upd G (250 + j) x) (310 + j) 0) := fun a ha => by
  simp (disch := omega) only [up_n]
theorem lt_or_n {a : Nat} (h : a < n + 1) : a < n ∨ a = n := by omega
/-- a new version -/
theorem WV_new {a b c : Int32} (hn : n < 60) (hW : WV_ k f e i g n) (ha : 0 ≤ a.toInt ∧ a.toInt ≤ 7) (hb : 0 ≤ b.toInt ∧ b.toInt < c.toInt ∧ c.toInt ≤ 1000) (hs : ∀ j, j < n → g j = 0 → k j = a → (e j).toInt ≤ b.toInt ∨ c.toInt ≤ (f j).toInt) (x : Int32) (hx : x = 0 ∨ x = 1) :
    WV_ (upd k n a) (upd f n b) (upd e n c) (upd i n x) (upd g n 0) (n + 1) := by
  obtain ⟨h1, h2, h3, h4⟩ := hW
  refine ⟨by omega, fun j hj => ?_, fun j hj hg => ?_, fun j l hj hl hne hgj hgl hk => ?_⟩
  · rcases lt_or_n hj with h | h
    · rw [up_n (by omega), up_n (by omega)]; exact h2 j h
    · subst h; rw [up_s, up_s]; exact ⟨Or.inl rfl, hx⟩
  · rcases lt_or_n hj with h | h
    · rw [up_n (by omega)] at hg
      rw [up_n (by omega), up_n (by omega), up_n (by omega)]; exact h3 j h hg
    · subst h; rw [up_s, up_s, up_s]; exact ⟨ha.1, ha.2, hb.1, hb.2.1, hb.2.2⟩
  · rcases lt_or_n hj with h | h <;> rcases lt_or_n hl with h' | h'
    · rw [up_n (by omega)] at hgj hgl
      rw [up_n (by omega), up_n (by omega)] at hk
      rw [up_n (by omega), up_n (by omega), up_n (by omega), up_n (by omega)]
      exact h4 j l h h' hne hgj hgl hk
    · subst h'
      rw [up_n (by omega)] at hgj
      rw [up_n (by omega), up_s] at hk
      rw [up_n (by omega), up_s, up_s, up_n (by omega)]
      exact hs j h hgj hk
    · subst h
      rw [up_n (by omega)] at hgl
      rw [up_s, up_n (by omega)] at hk
      rw [up_s, up_n (by omega), up_n (by omega), up_s]
      exact (hs l h' hgl hk.symm).symm
    · omega
theorem RV_new {a b c d x : Int32} (hn : n < 60) (hV : RV_ k f e v i g n G) : RV_ (upd k n a) (upd f n b) (upd e n c) (upd v n d) (upd i n x) (upd g n 0) (n + 1) (mk_ G n a b c d x) := by
  unfold mk_
  refine ⟨by simp (disch := omega) only [up_n, up_s], fun j hj => ?_⟩
  rcases lt_or_n hj with h | h
  · obtain ⟨q1, q2, q3, q4, q5, q6⟩ := hV.2 j h
    simp (disch := omega) only [up_n]
    exact ⟨q1, q2, q3, q4, q5, q6⟩
  · subst h
    simp (disch := omega) only [up_n, up_s]
    exact ⟨by simp, trivial, trivial, trivial, trivial, trivial⟩
theorem OV_new {a b c d x : Int32} (hn : n < 60) : OV_ G (mk_ G n a b c d x) := fun q hq => by
  unfold mk_
  simp (disch := omega) only [up_n]
theorem cv_new {a b c : Int32} {K D : Int32} (h : cv_ k f e g n K D) : cv_ (upd k n a) (upd f n b) (upd e n c) (upd g n 0) (n + 1) K D := by
  obtain ⟨j, hj, h⟩ := h
  refine ⟨j, by omega, ?_⟩
  rw [up_n (by omega), up_n (by omega), up_n (by omega), up_n (by omega)]
  exact h
theorem cv_newself {a b c : Int32} (hb : b < c) : cv_ (upd k n a) (upd f n b) (upd e n c) (upd g n 0) (n + 1) a b := by
  refine ⟨n, by omega, ?_⟩
  rw [up_s, up_s, up_s, up_s]
  exact ⟨rfl, rfl, Int32.le_refl _, hb⟩
theorem uu_ {h : Nat → Int32} {j : Nat} {x y : Int32} : upd (upd h j x) j y = upd h j y := by
  funext a
  by_cases q : a = j
  · subst q; rw [up_s, up_s]
  · rw [up_n q, up_n q, up_n q]
/-- the end of a version moves towards its beginning -/
theorem WV_end {j : Nat} {d : Int32} (hW : WV_ k f e i g n) (hj : j < n) (hd : (f j).toInt < d.toInt ∧ d.toInt ≤ (e j).toInt) : WV_ k f (upd e j d) i g n := by
  obtain ⟨h1, h2, h3, h4⟩ := hW
  refine ⟨h1, h2, fun a ha hg => ?_, fun a b ha hb hne hga hgb hk => ?_⟩
  · have := h3 a ha hg
    by_cases h : a = j
    · subst h; rw [up_s]; omega
    · rw [up_n h]; exact this
  · have := h4 a b ha hb hne hga hgb hk
    by_cases h : a = j
    · subst h; rw [up_s, up_n (fun h => hne h.symm)]; omega
    · rw [up_n h]
      by_cases h' : b = j
      · subst h'; rw [up_s]; omega
      · rw [up_n h']; exact this
theorem RV_end {j : Nat} {d : Int32} (hn : n ≤ 60) (hj : j < n) (hV : RV_ k f e v i g n G) : RV_ k f (upd e j d) v i g n (upd G (190 + j) d) := by
  refine ⟨by rw [up_n (by omega)]; exact hV.1, fun a ha => ?_⟩
  obtain ⟨q1, q2, q3, q4, q5, q6⟩ := hV.2 a ha
  by_cases h : a = j
  · subst h
    simp (disch := omega) only [up_n, up_s]
    exact ⟨q1, q2, q3, trivial, q5, q6⟩
  · simp (disch := omega) only [up_n]
    exact ⟨q1, q2, q3, q4, q5, q6⟩
/-- the beginning of a version moves to a day before it that is free -/
theorem WV_first {l : Nat} {d : Int32} (hW : WV_ k f e i g n) (hl : l < n) (hg : g l = 0) (hd : 0 ≤ d.toInt ∧ d.toInt < (f l).toInt) (hfree : ∀ j, j < n → ¬ (g j = 0 ∧ k j = k l ∧ f j ≤ d ∧ d < e j)) (hmin : ∀ j, j < n → g j = 0 → k j = k l → d < f j → f l ≤ f j) : WV_ k (upd f l d) e i g n := by
  obtain ⟨h1, h2, h3, h4⟩ := hW
  have key : ∀ a, a < n → a ≠ l → g a = 0 → k a = k l → (e a).toInt ≤ d.toInt ∨ (e l).toInt ≤ (f a).toInt := by
    intro a ha hne hga hk
    rcases h4 a l ha hl hne hga hg hk with h | h
    · left
      have h5 := h3 a ha hga
      by_cases q : d < f a
      · have := hmin a ha hga hk q
        rw [Int32.le_iff_toInt_le] at this
        omega
      · have q2 : f a ≤ d := Int32.not_lt.mp q
        have q3 : ¬ d < e a := fun z => hfree a ha ⟨hga, hk, q2, z⟩
        have := Int32.not_lt.mp q3
        rwa [Int32.le_iff_toInt_le] at this
    · exact Or.inr h
  refine ⟨h1, h2, fun a ha hga => ?_, fun a b ha hb hne hga hgb hk => ?_⟩
  · have := h3 a ha hga
    by_cases h : a = l
    · subst h; rw [up_s]; omega
    · rw [up_n h]; exact this
  · by_cases h : a = l
    · subst h
      rw [up_s, up_n (fun h => hne h.symm)]
      exact (key b hb (fun h => hne h.symm) hgb hk.symm).symm
    · rw [up_n h]
      by_cases h' : b = l
      · subst h'; rw [up_s]; exact key a ha h hga hk
      · rw [up_n h']; exact h4 a b ha hb hne hga hgb hk
theorem RV_first {l : Nat} {d : Int32} (hn : n ≤ 60) (hl : l < n) (hV : RV_ k f e v i g n G) : RV_ k (upd f l d) e v i g n (upd G (130 + l) d) := by
  refine ⟨by rw [up_n (by omega)]; exact hV.1, fun a ha => ?_⟩
  obtain ⟨q1, q2, q3, q4, q5, q6⟩ := hV.2 a ha
  by_cases h : a = l
  · subst h
    simp (disch := omega) only [up_n, up_s]
    exact ⟨q1, q2, trivial, q4, q5, q6⟩
  · simp (disch := omega) only [up_n]
    exact ⟨q1, q2, q3, q4, q5, q6⟩
theorem cv_first {l : Nat} {d K D : Int32} (hl : d ≤ f l) (h : cv_ k f e g n K D) : cv_ k (upd f l d) e g n K D := by
  obtain ⟨j, hj, h1, h2, h3, h4⟩ := h
  refine ⟨j, hj, h1, h2, ?_, h4⟩
  by_cases q : j = l
  · subst q; rw [up_s]; exact Int32.le_trans hl h3
  · rw [up_n q]; exact h3
end
section
variable {k f e v i g G mkept mspare mwas mtext mtold : Nat → Int32} {mhasKept mwasMany manew mthrown mlength mspot mvalue merror mtolds : Int32} {n : Nat} {key day val : Int32}
theorem put_ok (hW : WV_ k f e i g n) (hV : RV_ k f e v i g n G) (hk : 0 ≤ key.toInt ∧ key.toInt ≤ 7) (hd : 0 ≤ day.toInt ∧ day.toInt ≤ 999) :
    (∃ (r : Int32) (k' f' e' v' i' g' : Nat → Int32) (n' : Nat) (G' : Nat → Int32), 0 ≤ r ∧ f_X4_put key day val (k, f, e, v, i, g, nI n) = some (r, (k', f', e', v', i', g', nI n')) ∧ f_X6_changes key day val (G, mkept, mspare, mhasKept, mwas, mwasMany, manew, mthrown, mtext, mlength, mspot, mvalue, merror, mtold, mtolds) = some (r, (G', mkept, mspare, mhasKept, mwas, mwasMany, manew, mthrown, mtext, mlength, mspot, mvalue, merror, mtold, mtolds)) ∧ WV_ k' f' e' i' g' n' ∧ RV_ k' f' e' v' i' g' n' G' ∧ OV_ G G' ∧ ∀ K D, cv_ k f e g n K D → cv_ k' f' e' g' n' K D) ∨
    (f_X4_put key day val (k, f, e, v, i, g, nI n) = some (-1, (k, f, e, v, i, g, nI n)) ∧ f_X6_changes key day val (G, mkept, mspare, mhasKept, mwas, mwasMany, manew, mthrown, mtext, mlength, mspot, mvalue, merror, mtold, mtolds) = some (-1, (G, mkept, mspare, mhasKept, mwas, mwasMany, manew, mthrown, mtext, mlength, mspot, mvalue, merror, mtold, mtolds))) := by
  have hn := hW.1
  rcases on_spec (k := k) (f := f) (e := e) (g := g) (n := n) key day with ⟨hx, hno⟩ | ⟨j, hj, ⟨hg, hkj, hfj, hej⟩, hx⟩
  · rcases nx_spec (k := k) (f := f) (g := g) (n := n) key day hn with ⟨hy, hall⟩ | ⟨l, hl, hy, hgl, hkl, hdl, hmin⟩
    · by_cases h60 : n < 60
      · left
        refine ⟨nI n, _, _, _, _, _, _, n + 1, _, nI_pos' (by omega), put_a h60 hx hy, (M_ch_5 hW hV hx hy (Or.inl rfl)).trans (M_J130m h60 hV (Or.inl rfl)), ?_, ?_, OV_new h60, fun K D h => cv_new h⟩
        · rw [uu_]
          refine WV_new h60 hW hk ⟨hd.1, (show day.toInt < (1000 : Int32).toInt ∧ (1000 : Int32).toInt ≤ 1000 from ⟨by rw [show (1000 : Int32).toInt = 1000 by decide]; omega, by decide⟩)⟩ (fun a ha hga hka => Or.inl ?_) 0 (Or.inl rfl)
          have h1 := hall a ha hga hka
          have h2 : ¬ day < e a := fun z => hno a ha ⟨hga, hka, h1, z⟩
          have h3 := Int32.not_lt.mp h2
          rwa [Int32.le_iff_toInt_le] at h3
        · rw [uu_, uu_, if_pos rfl]
          exact RV_new h60 hV
      · right
        have h6 : n = 60 := by omega
        exact ⟨put_F h6 hx (Or.inl hy), (M_ch_5 hW hV hx hy (Or.inl rfl)).trans (M_J130F h6 hV)⟩
    · have hdl' : day.toInt < (f l).toInt := Int32.lt_iff_toInt_lt.mp hdl
      have hl3 := hW.2.2.1 l hl hgl
      by_cases hi : i l = 0
      · by_cases h60 : n < 60
        · left
          refine ⟨nI n, _, _, _, _, _, _, n + 1, _, nI_pos' (by omega), put_b h60 hl hx hy hi, (M_ch_5 hW hV hx hy (Or.inr ⟨l, hl, rfl, hi⟩)).trans (M_J130m h60 hV (Or.inr ⟨l, hl, rfl⟩)), ?_, ?_, OV_new h60, fun K D h => cv_new h⟩
          · rw [uu_]
            refine WV_new h60 hW hk ⟨hd.1, hdl', by omega⟩ (fun a ha hga hka => ?_) 0 (Or.inl rfl)
            by_cases q : day < f a
            · right
              have := hmin a ha hga hka q
              rwa [Int32.le_iff_toInt_le] at this
            · left
              have h2 : ¬ day < e a := fun z => hno a ha ⟨hga, hka, Int32.not_lt.mp q, z⟩
              have h3 := Int32.not_lt.mp h2
              rwa [Int32.le_iff_toInt_le] at h3
          · rw [uu_, uu_, if_neg (by rw [m1_ne (by omega)]; exact fun h => h), cl_I (by omega)]
            exact RV_new h60 hV
        · right
          have h6 : n = 60 := by omega
          exact ⟨put_F h6 hx (Or.inr ⟨l, hl, hy, hi⟩), (M_ch_5 hW hV hx hy (Or.inr ⟨l, hl, rfl, hi⟩)).trans (M_J130F h6 hV)⟩
      · left
        refine ⟨nI l, _, _, _, _, _, _, n, _, nI_pos' (by omega), put_4 hn hl hgl hx hy hi, M_ch_4 hW hV hl hx hy hi, ?_, ?_, ?_, fun K D h => cv_first (Int32.le_of_lt hdl) h⟩
        · exact WV_settle (WV_first hW hl hgl ⟨hd.1, hdl'⟩ (fun a ha h => hno a ha ⟨h.1, h.2.1.trans hkl, h.2.2⟩) (fun a ha h1 h2 h3 => hmin a ha h1 (h2.trans hkl) h3))
        · exact RV_settle hn hl (RV_first hn hl hV)
        · intro a ha
          simp (disch := omega) only [up_n]
  · have hr := hW.2.2.1 j hj hg
    by_cases hd0 : f j = day
    · left
      exact ⟨nI j, _, _, _, _, _, _, n, _, nI_pos' (by omega), put_1 hn hj hg hx hd0, M_ch_1 hW hV hj hx hd0, WV_settle hW, RV_settle hn hj hV, OV_settle (by omega), fun K D h => h⟩
    · have hlt : f j < day := by
        rw [Int32.lt_iff_toInt_lt]
        rw [Int32.le_iff_toInt_le] at hfj
        have : (f j).toInt ≠ day.toInt := fun q => hd0 (Int32.toInt_inj.mp q)
        omega
      have hlt' : (f j).toInt < day.toInt := Int32.lt_iff_toInt_lt.mp hlt
      have hej' : day.toInt < (e j).toInt := Int32.lt_iff_toInt_lt.mp hej
      by_cases hiv : i j = 0 ∧ v j = val
      · left
        exact ⟨nI j, k, f, e, v, i, g, n, G, nI_pos' (by omega), put_2 hn hj hx hlt hiv.1 hiv.2, M_ch_2 hW hV hj hx hlt hiv.1 hiv.2, hW, hV, fun a ha => rfl, fun K D h => h⟩
      · by_cases h60 : n < 60
        · left
          have hWe := WV_end hW hj (d := day) ⟨hlt', by omega⟩
          have e1 : upd (upd e n (e j)) j day = upd (upd e j day) n (e j) := by
            funext a
            by_cases q : a = j
            · subst q; rw [up_s, up_n (by omega), up_s]
            · by_cases q2 : a = n
              · subst q2; rw [up_n q, up_s, up_s]
              · rw [up_n q, up_n q2, up_n q2, up_n q]
          refine ⟨nI n, _, _, _, _, _, _, n + 1, _, nI_pos' (by omega), put_3 h60 hj hx hlt hiv, (M_ch_3 hW hV hj hx hlt hiv).trans (M_J130j h60 hV hj), ?_, ?_, ?_, ?_⟩
          · rw [uu_, e1, hkj]
            refine WV_new h60 hWe hk ⟨hd.1, hej', by omega⟩ (fun a ha hga hka => ?_) 0 (Or.inl rfl)
            by_cases q : a = j
            · subst q; left; rw [up_s]; exact Int.le_refl _
            · rw [up_n q]
              have := hW.2.2.2 a j ha hj q hga hg (hka.trans hkj.symm)
              omega
          · rw [uu_, uu_, e1, hkj]
            exact RV_new h60 (RV_end hn hj hV)
          · intro a ha
            rw [OV_new h60 a ha]
            simp (disch := omega) only [up_n]
          · intro K D h
            obtain ⟨a, ha, h1, h2, h3, h4⟩ := h
            rw [e1]
            by_cases q : a = j
            · subst q
              by_cases hD : D < day
              · refine cv_new ⟨a, ha, h1, h2, h3, ?_⟩
                rw [up_s]; exact hD
              · refine ⟨n, by omega, up_s, by rw [up_s]; exact h2, by rw [up_s]; exact Int32.not_lt.mp hD, by rw [up_s]; exact h4⟩
            · refine cv_new ⟨a, ha, h1, h2, h3, ?_⟩
              rw [up_n q]; exact h4
        · right
          have h6 : n = 60 := by omega
          exact ⟨put_3F h6 hj hx hlt hiv, (M_ch_3 hW hV hj hx hlt hiv).trans (M_J130F h6 hV)⟩
end
