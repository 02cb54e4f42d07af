/-! a change keeps what holds of the versions -/
section
variable {k f e v i g G : Nat → Int32} {n : Nat} {key day val : Int32}
def cv_ (k f e g : Nat → Int32) (n : Nat) (key day : Int32) : Prop := ∃ j, j < n ∧ g j = 0 ∧ k j = key ∧ f j ≤ day ∧ day < e j
theorem on_spec (key day : Int32) : (fs_ (pOn_ k f e g key day) n 0 = -1 ∧ ∀ j, j < n → ¬ (g j = 0 ∧ k j = key ∧ f j ≤ day ∧ day < e j)) ∨ ∃ j, j < n ∧ (g j = 0 ∧ k j = key ∧ f j ≤ day ∧ day < e j) ∧ fs_ (pOn_ k f e g key day) n 0 = nI j := by
  rcases fs_spec (pOn_ k f e g key day) n 0 with ⟨h1, h2⟩ | ⟨j, h1, h2, h3, h4, -⟩
  · refine Or.inl ⟨h1, fun j hj h => ?_⟩
    have := h2 j (Nat.zero_le _) (by omega)
    rw [pOn_iff.mpr h] at this
    cases this
  · exact Or.inr ⟨j, by omega, pOn_iff.mp h3, h4⟩
theorem on_cv (hn : n ≤ 60) : fs_ (pOn_ k f e g key day) n 0 ≠ -1 ↔ cv_ k f e g n key day := by
  rcases on_spec (k := k) (f := f) (e := e) (g := g) (n := n) key day with ⟨h1, h2⟩ | ⟨j, hj, h, h4⟩
  · exact ⟨fun h => absurd h1 h, fun ⟨j, hj, h⟩ => absurd h (h2 j hj)⟩
  · refine ⟨fun _ => ⟨j, hj, h⟩, fun _ h5 => ?_⟩
    rw [h4, m1_ne (by omega)] at h5
    exact h5
theorem WV_settle {j : Nat} (hW : WV_ k f e i g n) : WV_ k f e (upd i j 0) g n :=
  ⟨hW.1, fun a ha => ⟨(hW.2.1 a ha).1, by
    by_cases h : a = j
    · subst h; exact Or.inl up_s
    · rw [up_n h]; exact (hW.2.1 a ha).2⟩, hW.2.2⟩
theorem lt_or_n {a : Nat} (h : a < n + 1) : a < n ∨ a = n := by omega
/-- a new version -/
theorem WV_new {a b c : Int32} (hn : n < 60) (hW : WV_ k f e i g n) (ha : 0 ≤ a.toInt ∧ a.toInt ≤ 7) (hb : 0 ≤ b.toInt ∧ b.toInt < c.toInt ∧ c.toInt ≤ 1000) (hs : ∀ j, j < n → g j = 0 → k j = a → (e j).toInt ≤ b.toInt ∨ c.toInt ≤ (f j).toInt) (x : Int32) (hx : x = 0 ∨ x = 1) :
    WV_ (upd k n a) (upd f n b) (upd e n c) (upd i n x) (upd g n 0) (n + 1) := by
  obtain ⟨h1, h2, h3, h4⟩ := hW
  refine ⟨by omega, fun j hj => ?_, fun j hj hg => ?_, fun j l hj hl hne hgj hgl hk => ?_⟩
  · rcases lt_or_n hj with h | h
    · rw [up_n (by omega), up_n (by omega)]; exact h2 j h
    · subst h; rw [up_s, up_s]; exact ⟨Or.inl rfl, hx⟩
  · rcases lt_or_n hj with h | h
    · rw [up_n (by omega)] at hg
      rw [up_n (by omega), up_n (by omega), up_n (by omega)]; exact h3 j h hg
    · subst h; rw [up_s, up_s, up_s]; exact ⟨ha.1, ha.2, hb.1, hb.2.1, hb.2.2⟩
  · rcases lt_or_n hj with h | h <;> rcases lt_or_n hl with h' | h'
    · rw [up_n (by omega)] at hgj hgl
      rw [up_n (by omega), up_n (by omega)] at hk
      rw [up_n (by omega), up_n (by omega), up_n (by omega), up_n (by omega)]
      exact h4 j l h h' hne hgj hgl hk
    · subst h'
      rw [up_n (by omega)] at hgj
      rw [up_n (by omega), up_s] at hk
      rw [up_n (by omega), up_s, up_s, up_n (by omega)]
      exact hs j h hgj hk
    · subst h
      rw [up_n (by omega)] at hgl
      rw [up_s, up_n (by omega)] at hk
      rw [up_s, up_n (by omega), up_n (by omega), up_s]
      exact (hs l h' hgl hk.symm).symm
    · omega
theorem cv_new {a b c : Int32} {K D : Int32} (h : cv_ k f e g n K D) : cv_ (upd k n a) (upd f n b) (upd e n c) (upd g n 0) (n + 1) K D := by
  obtain ⟨j, hj, h⟩ := h
  refine ⟨j, by omega, ?_⟩
  rw [up_n (by omega), up_n (by omega), up_n (by omega), up_n (by omega)]
  exact h
theorem cv_newself {a b c : Int32} (hb : b < c) : cv_ (upd k n a) (upd f n b) (upd e n c) (upd g n 0) (n + 1) a b := by
  refine ⟨n, by omega, ?_⟩
  rw [up_s, up_s, up_s, up_s]
  exact ⟨rfl, rfl, Int32.le_refl _, hb⟩
theorem uu_ {h : Nat → Int32} {j : Nat} {x y : Int32} : upd (upd h j x) j y = upd h j y := by
  funext a
  by_cases q : a = j
  · subst q; rw [up_s, up_s]
  · rw [up_n q, up_n q, up_n q]
/-- the end of a version moves towards its beginning -/
theorem WV_end {j : Nat} {d : Int32} (hW : WV_ k f e i g n) (hj : j < n) (hd : (f j).toInt < d.toInt ∧ d.toInt ≤ (e j).toInt) : WV_ k f (upd e j d) i g n := by
  obtain ⟨h1, h2, h3, h4⟩ := hW
  refine ⟨h1, h2, fun a ha hg => ?_, fun a b ha hb hne hga hgb hk => ?_⟩
  · have := h3 a ha hg
    by_cases h : a = j
    · subst h; rw [up_s]; omega
    · rw [up_n h]; exact this
  · have := h4 a b ha hb hne hga hgb hk
    by_cases h : a = j
    · subst h; rw [up_s, up_n (fun h => hne h.symm)]; omega
    · rw [up_n h]
      by_cases h' : b = j
      · subst h'; rw [up_s]; omega
      · rw [up_n h']; exact this
/-- the beginning of a version moves to a day before it that is free -/
theorem WV_first {l : Nat} {d : Int32} (hW : WV_ k f e i g n) (hl : l < n) (hg : g l = 0) (hd : 0 ≤ d.toInt ∧ d.toInt < (f l).toInt) (hfree : ∀ j, j < n → ¬ (g j = 0 ∧ k j = k l ∧ f j ≤ d ∧ d < e j)) (hmin : ∀ j, j < n → g j = 0 → k j = k l → d < f j → f l ≤ f j) : WV_ k (upd f l d) e i g n := by
  obtain ⟨h1, h2, h3, h4⟩ := hW
  have key : ∀ a, a < n → a ≠ l → g a = 0 → k a = k l → (e a).toInt ≤ d.toInt ∨ (e l).toInt ≤ (f a).toInt := by
    intro a ha hne hga hk
    rcases h4 a l ha hl hne hga hg hk with h | h
    · left
      have h5 := h3 a ha hga
      by_cases q : d < f a
      · have := hmin a ha hga hk q
        rw [Int32.le_iff_toInt_le] at this
        omega
      · have q2 : f a ≤ d := Int32.not_lt.mp q
        have q3 : ¬ d < e a := fun z => hfree a ha ⟨hga, hk, q2, z⟩
        have := Int32.not_lt.mp q3
        rwa [Int32.le_iff_toInt_le] at this
    · exact Or.inr h
  refine ⟨h1, h2, fun a ha hga => ?_, fun a b ha hb hne hga hgb hk => ?_⟩
  · have := h3 a ha hga
    by_cases h : a = l
    · subst h; rw [up_s]; omega
    · rw [up_n h]; exact this
  · by_cases h : a = l
    · subst h
      rw [up_s, up_n (fun h => hne h.symm)]
      exact (key b hb (fun h => hne h.symm) hgb hk.symm).symm
    · rw [up_n h]
      by_cases h' : b = l
      · subst h'; rw [up_s]; exact key a ha h hga hk
      · rw [up_n h']; exact h4 a b ha hb hne hga hgb hk
theorem cv_first {l : Nat} {d K D : Int32} (hl : d ≤ f l) (h : cv_ k f e g n K D) : cv_ k (upd f l d) e g n K D := by
  obtain ⟨j, hj, h1, h2, h3, h4⟩ := h
  refine ⟨j, hj, h1, h2, ?_, h4⟩
  by_cases q : j = l
  · subst q; rw [up_s]; exact Int32.le_trans hl h3
  · rw [up_n q]; exact h3
end
section
variable {k f e v i g G mkept mspare mwas mtext mtold : Nat → Int32} {mhasKept mwasMany manew mthrown mlength mspot mvalue merror mtolds : Int32} {n : Nat} {key day val : Int32}
end
