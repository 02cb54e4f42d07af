/-! the day of a gap -/
def ga_ (k f e g : Nat → Int32) (n : Nat) (key gap : Int32) : Nat → Nat → Nat → Int32
  | 0, _, _ => -1
  | c + 1, t, u => if t < mn_ k g n key then
      (if nf_ k f g n (k (pv_ k f g n key t).toNatClampNeg) (f (pv_ k f g n key t).toNatClampNeg) ≤ e (pv_ k f g n key t).toNatClampNeg then ga_ k f e g n key gap c (t + 1) u
       else if nI u = gap then pv_ k f g n key t else ga_ k f e g n key gap c (t + 1) (u + 1)) else -1
section
variable {k f e v i g G mkept mspare mwas mtext mtold : Nat → Int32} {mhasKept mwasMany manew mthrown mlength mspot mvalue merror mtolds : Int32} {n : Nat} {key gap : Int32}
theorem ga_0 {t u : Nat} : ga_ k f e g n key gap 0 t u = -1 := rfl
theorem ga_out {c t u : Nat} (h : ¬ t < mn_ k g n key) : ga_ k f e g n key gap (c + 1) t u = -1 := if_neg h
theorem ga_s {c t u a : Nat} (h : t < mn_ k g n key) (ha : a < 2 ^ 31) (hp : pv_ k f g n key t = nI a) : ga_ k f e g n key gap (c + 1) t u = (if nf_ k f g n (k a) (f a) ≤ e a then ga_ k f e g n key gap c (t + 1) u else if nI u = gap then nI a else ga_ k f e g n key gap c (t + 1) (u + 1)) := by
  rw [ga_, if_pos h, hp, cl_I ha]
theorem ahead_L (hW : WV_ k f e i g n) : ∀ c m t u, t + c = n → c < m → f_X4_aheadOfGap_L13 m (nI t) (pv_ k f g n key t) (nI u) key gap (k, f, e, v, i, g, nI n) = some (ga_ k f e g n key gap c t u) := by
  have hn := hW.1
  intro c
  induction c with
  | zero =>
    intro m t u h1 h2
    obtain ⟨m, rfl⟩ := ex_S h2
    rw [e_X4_aheadOfGap_L13]
    unfold f_X4_aheadOfGap_S13
    dsimp only
    rw [if_pos (by rw [nI_leI (by omega) (by omega)]; omega), ga_0]
  | succ c ih =>
    intro m t u h1 h2
    obtain ⟨m, rfl⟩ := ex_S h2
    rw [e_X4_aheadOfGap_L13]
    unfold f_X4_aheadOfGap_S13
    dsimp only
    rw [if_neg (by rw [nI_leI (by omega) (by omega)]; omega)]
    rcases pv_in (key := key) hW t with ⟨h3, h4⟩ | ⟨h3, a, ha, hA, h4, h5⟩
    · rw [if_pos h3, ga_out (by omega)]
    · have hg := gap_le0 hW ha hA.1
      have hs : fo_ (nx_ k f g key (f a)) n 0 (-1) = pv_ k f g n key (t + 1) := by rw [nx_pv hW ha hA, h4]
      rw [ga_s h3 (by omega) h5, h5, if_neg (by rw [m1_ne (by omega)]; exact fun h => h), gapBehind_I hn ha, bd_s, if_pos hA.1]
      simp only [gd_I (show a < 60 by omega) (show 60 < 2 ^ 31 by omega), cl_I (show a < 2 ^ 31 by omega), next_I hn, bd_s, hs, S_I]
      by_cases hb : nf_ k f g n (k a) (f a) ≤ e a
      · rw [if_pos (hg.mpr hb), if_pos hb, ih m (t + 1) u (by omega) (by omega)]
      · rw [if_neg (fun h => hb (hg.mp h)), if_neg hb]
        by_cases hu : nI u = gap
        · rw [if_pos hu, if_pos hu]
        · rw [if_neg hu, if_neg hu, ih m (t + 1) (u + 1) (by omega) (by omega)]
theorem ahead_I (hW : WV_ k f e i g n) : f_X4_aheadOfGap key gap (k, f, e, v, i, g, nI n) = some (ga_ k f e g n key gap n 0 0) := by
  have hn := hW.1
  unfold f_X4_aheadOfGap
  dsimp only
  rw [next_I hn, bd_s, nx_pv0 hW]
  exact ahead_L hW n fu_ 0 0 (by omega) (by unfold fu_; omega)
theorem ga_cases (hW : WV_ k f e i g n) : ∀ c t u, ga_ k f e g n key gap c t u = -1 ∨ ∃ a, a < n ∧ (g a = 0 ∧ k a = key) ∧ ga_ k f e g n key gap c t u = nI a := by
  have hn := hW.1
  intro c
  induction c with
  | zero => intro t u; exact Or.inl rfl
  | succ c ih =>
    intro t u
    rcases pv_in (key := key) hW t with ⟨h3, h4⟩ | ⟨h3, a, ha, hA, h4, h5⟩
    · exact Or.inl (ga_out (by omega))
    · rw [ga_s h3 (by omega) h5]
      split
      · exact ih _ _
      · split
        · exact Or.inr ⟨a, ha, hA, rfl⟩
        · exact ih _ _
theorem ga_neg (hW : WV_ k f e i g n) (hg : gap < 0) : ∀ c t u, u + c ≤ 60 → ga_ k f e g n key gap c t u = -1 := by
  have hn := hW.1
  intro c
  induction c with
  | zero => intro t u _; rfl
  | succ c ih =>
    intro t u hu
    rcases pv_in (key := key) hW t with ⟨h3, h4⟩ | ⟨h3, a, ha, hA, h4, h5⟩
    · exact ga_out (by omega)
    · rw [ga_s h3 (by omega) h5, if_neg (c := nI u = gap) (fun h => absurd hg (by rw [← h]; exact nI_pos (by omega))), ih _ _ (by omega), ih _ _ (by omega)]
      split <;> rfl
theorem mn_fo (hn : n ≤ 60) : fo_ (cn_ k g key) n 0 0 = nI (mn_ k g n key) := by
  have h := cf_fo (p := fun j => decide (g j = 0 ∧ k j = key)) (g := cn_ k g key) (fun j a => by
    unfold cn_
    by_cases h : g j = 0 ∧ k j = key
    · rw [if_pos h, if_pos (dec_t h)]
    · rw [if_neg h, if_neg (by rw [dec_f h]; decide)]) n 0 0
  rw [Nat.zero_add] at h
  exact h
/-- what the model answers of a gap -/
def gr_ (k f e g : Nat → Int32) (n : Nat) (last r : Int32) : Int32 := if last = 0 then e r.toNatClampNeg else nf_ k f g n (k r.toNatClampNeg) (f r.toNatClampNeg) - 1
end
