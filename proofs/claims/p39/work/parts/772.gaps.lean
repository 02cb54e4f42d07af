/-! gaps -/
/-- the first day of the next version of a key after a day, or 1000 -/
def nf_ (k f g : Nat → Int32) (n : Nat) (key day : Int32) : Int32 := if fo_ (nx_ k f g key day) n 0 (-1) = -1 then 1000 else f (fo_ (nx_ k f g key day) n 0 (-1)).toNatClampNeg
def gc_ (k f e g : Nat → Int32) (n : Nat) (key : Int32) (j : Nat) (a : Int32) : Int32 := if (g j = 0 ∧ k j = key) ∧ e j < nf_ k f g n (k j) (f j) then a + 1 else a
def gs_ (k f e g : Nat → Int32) (n : Nat) (j : Nat) (a : Int32) : Int32 := if g j = 0 then a + (nf_ k f g n (k j) (f j) - e j) else a
theorem sub_small {x y : Int32} (h1 : 0 ≤ x.toInt) (h2 : x.toInt ≤ 1000) (h3 : 0 ≤ y.toInt) (h4 : y.toInt ≤ 1000) : (x - y).toInt = x.toInt - y.toInt := by
  rw [Int32.toInt_sub, Int.bmod_eq_of_le] <;> omega
section
variable {k f e v i g G mkept mspare mwas mtext mtold : Nat → Int32} {mhasKept mwasMany manew mthrown mlength mspot mvalue merror mtolds : Int32} {n : Nat} {key : Int32}
theorem nx_in (hn : n ≤ 60) (key day : Int32) : fo_ (nx_ k f g key day) n 0 (-1) = -1 ∨ ∃ l, l < n ∧ fo_ (nx_ k f g key day) n 0 (-1) = nI l ∧ g l = 0 ∧ k l = key ∧ day < f l := by
  rcases nx_spec (k := k) (f := f) (g := g) key day hn with ⟨h, -⟩ | ⟨l, hl, h1, a1, a2, a3, -⟩
  · exact Or.inl h
  · exact Or.inr ⟨l, hl, h1, a1, a2, a3⟩
theorem nf_cases (hn : n ≤ 60) (key day : Int32) : (fo_ (nx_ k f g key day) n 0 (-1) = -1 ∧ nf_ k f g n key day = 1000) ∨ ∃ l, l < n ∧ fo_ (nx_ k f g key day) n 0 (-1) = nI l ∧ nf_ k f g n key day = f l ∧ g l = 0 ∧ k l = key ∧ day < f l := by
  unfold nf_
  rcases nx_in (k := k) (f := f) (g := g) hn key day with h | ⟨l, hl, h, a1, a2, a3⟩
  · exact Or.inl ⟨h, by rw [if_pos h]⟩
  · exact Or.inr ⟨l, hl, h, by rw [h, if_neg (by rw [m1_ne (by omega)]; exact fun h => h), cl_I (by omega)], a1, a2, a3⟩
theorem nextFirst_I {day : Int32} (hn : n ≤ 60) : f_X4_nextFirst key day (k, f, e, v, i, g, nI n) = some (nf_ k f g n key day) := by
  unfold f_X4_nextFirst
  dsimp only
  rw [next_I hn, bd_s]
  rcases nf_cases (k := k) (f := f) (g := g) hn key day with ⟨h, h2⟩ | ⟨l, hl, h, h2, -⟩
  · rw [h, h2, if_pos rfl]
  · rw [h, h2, if_neg (by rw [m1_ne (by omega)]; exact fun h => h), gd_I (by omega) (by omega), cl_I (by omega)]
theorem nf_ge (hW : WV_ k f e i g n) {a : Nat} (ha : a < n) (hg : g a = 0) : (e a).toInt ≤ (nf_ k f g n (k a) (f a)).toInt ∧ (nf_ k f g n (k a) (f a)).toInt ≤ 1000 ∧ 0 < (e a).toInt ∧ (e a).toInt ≤ 1000 := by
  have h1 := hW.2.2.1 a ha hg
  rcases nf_cases (k := k) (f := f) (g := g) hW.1 (k a) (f a) with ⟨-, h2⟩ | ⟨l, hl, -, h2, a1, a2, a3⟩
  · rw [h2, z1000_]
    omega
  · have h3 := hW.2.2.1 l hl a1
    have h4 := Int32.lt_iff_toInt_lt.mp a3
    have hne : a ≠ l := fun e => by rw [e] at h4; omega
    rw [h2]
    rcases hW.2.2.2 a l ha hl hne hg a1 a2.symm with h5 | h5 <;> omega
theorem gap_le0 (hW : WV_ k f e i g n) {a : Nat} (ha : a < n) (hg : g a = 0) : (nf_ k f g n (k a) (f a) - e a ≤ 0) ↔ (nf_ k f g n (k a) (f a) ≤ e a) := by
  obtain ⟨h1, h2, h3, h4⟩ := nf_ge hW ha hg
  rw [Int32.le_iff_toInt_le, Int32.le_iff_toInt_le, sub_small (by omega) h2 (by omega) h4, z0_]
  omega
theorem gapBehind_I {j : Nat} (hn : n ≤ 60) (hj : j < n) : f_X4_gapBehind (nI j) (k, f, e, v, i, g, nI n) = some (if g j = 0 then nf_ k f g n (k j) (f j) - e j else 0) := by
  unfold f_X4_gapBehind
  dsimp only
  rw [has_I hn hj, bd_s]
  by_cases hg : g j = 0
  · rw [if_pos hg, if_neg (by decide), gd_I (by omega) (by omega), gd_I (by omega) (by omega), cl_I (by omega), nextFirst_I hn, bd_s, gd_I (by omega) (by omega), if_pos hg]
  · rw [if_neg hg, if_pos rfl, if_neg hg]
theorem countGaps_L (hW : WV_ k f e i g n) : ∀ c m j (a : Int32), j + c = n → c < m → f_X4_countGaps_L4 m (nI j) a key (k, f, e, v, i, g, nI n) = some (fo_ (gc_ k f e g n key) c j a) := by
  have hn := hW.1
  intro c
  induction c with
  | zero =>
    intro m j a h1 h2
    obtain ⟨m, rfl⟩ := ex_S h2
    rw [e_X4_countGaps_L4]
    unfold f_X4_countGaps_S4
    dsimp only
    rw [if_pos (by rw [nI_leI (by omega) (by omega)]; omega)]
    rfl
  | succ c ih =>
    intro m j a h1 h2
    obtain ⟨m, rfl⟩ := ex_S h2
    rw [e_X4_countGaps_L4]
    unfold f_X4_countGaps_S4
    dsimp only
    show _ = some (fo_ (gc_ k f e g n key) c (j + 1) ((gc_ k f e g n key) j a))
    rw [if_neg (by rw [nI_leI (by omega) (by omega)]; omega), isOf_I hn (by omega), bd_s, S_I]
    by_cases ha : g j = 0 ∧ k j = key
    · have hg := gap_le0 hW (show j < n by omega) ha.1
      rw [if_pos ha, if_neg (by decide), gapBehind_I hn (by omega), bd_s, if_pos ha.1]
      by_cases hb : nf_ k f g n (k j) (f j) ≤ e j
      · rw [if_pos (hg.mpr hb), show gc_ k f e g n key j a = a from if_neg (fun h => absurd h.2 (Int32.not_lt.mpr hb)), ih m (j + 1) _ (by omega) (by omega)]
      · rw [if_neg (fun h => hb (hg.mp h)), show gc_ k f e g n key j a = a + 1 from if_pos ⟨ha, Int32.not_le.mp hb⟩, ih m (j + 1) _ (by omega) (by omega)]
    · rw [if_neg ha, if_pos rfl, show gc_ k f e g n key j a = a from if_neg (fun h => ha h.1), ih m (j + 1) _ (by omega) (by omega)]
theorem countGaps_I (hW : WV_ k f e i g n) : f_X4_countGaps key (k, f, e, v, i, g, nI n) = some (fo_ (gc_ k f e g n key) n 0 0) := by
  unfold f_X4_countGaps
  exact countGaps_L hW n fu_ 0 0 (by omega) (by have := hW.1; unfold fu_; omega)
end
