/-! versions by their places -/
theorem I_of {x : Int32} (h : 0 ≤ x.toInt) : ∃ t : Nat, t < 2 ^ 31 ∧ x = nI t := by
  refine ⟨x.toInt.toNat, ?_, ?_⟩
  · have := Int32.toInt_lt x
    omega
  · refine Int32.toInt_inj.mp ?_
    have := Int32.toInt_lt x
    rw [nI_toInt (by omega)]
    omega
section
variable {k f e v i g G mkept mspare mwas mtext mtold : Nat → Int32} {mhasKept mwasMany manew mthrown mlength mspot mvalue merror mtolds : Int32} {n : Nat} {key : Int32}
end
section
variable {k f e v i g : Nat → Int32} {n : Nat} {key : Int32}
theorem pv_in (hW : WV_ k f e i g n) (t : Nat) : (pv_ k f g n key t = -1 ∧ mn_ k g n key ≤ t) ∨ (t < mn_ k g n key ∧ ∃ a, a < n ∧ (g a = 0 ∧ k a = key) ∧ rk_ k f g n key (f a) = t ∧ pv_ k f g n key t = nI a) := by
  rcases Nat.lt_or_ge t (mn_ k g n key) with h | h
  · exact Or.inr ⟨h, pv_ex hW t h⟩
  · exact Or.inl ⟨pv_out h, h⟩
theorem atPlace_L {x : Nat} (hW : WV_ k f e i g n) (hx : x < n) : ∀ c m t, t + c = x → c < m → f_X4_atPlace_L24 m (nI t) (pv_ k f g n key t) key (nI x) (k, f, e, v, i, g, nI n) = some (pv_ k f g n key x) := by
  have hn := hW.1
  intro c
  induction c with
  | zero =>
    intro m t h1 h2
    obtain ⟨m, rfl⟩ := ex_S h2
    rw [e_X4_atPlace_L24]
    unfold f_X4_atPlace_S24
    dsimp only
    rw [if_pos (by rw [nI_leI (by omega) (by omega)]; omega), show t = x by omega]
  | succ c ih =>
    intro m t h1 h2
    obtain ⟨m, rfl⟩ := ex_S h2
    rw [e_X4_atPlace_L24]
    unfold f_X4_atPlace_S24
    dsimp only
    rw [if_neg (by rw [nI_leI (by omega) (by omega)]; omega)]
    rcases pv_in (key := key) hW t with ⟨h3, h4⟩ | ⟨h3, a, ha, hA, h4, h5⟩
    · rw [if_pos h3, h3, pv_out (t := x) (by omega)]
    · rw [h5, if_neg (by rw [m1_ne (by omega)]; exact fun h => h), gd_I (by omega) (by omega), cl_I (by omega), next_I hn, bd_s, nx_pv hW ha hA, h4, S_I, ih m (t + 1) (by omega) (by omega)]
theorem atPlace_I {x : Nat} (hW : WV_ k f e i g n) (hx : x < n) : f_X4_atPlace key (nI x) (k, f, e, v, i, g, nI n) = some (pv_ k f g n key x) := by
  have hn := hW.1
  unfold f_X4_atPlace
  dsimp only
  rw [if_neg (nI_pos (by omega)), if_pos (by rw [nI_ltI (by omega) (by omega)]; omega), next_I hn, bd_s, nx_pv0 hW]
  exact atPlace_L hW hx x fu_ 0 (by omega) (by unfold fu_; omega)
theorem atPlace_O {x : Int32} (h : x < 0 ∨ ¬ x < nI n) : f_X4_atPlace key x (k, f, e, v, i, g, nI n) = some (-1) := by
  unfold f_X4_atPlace
  dsimp only
  by_cases h0 : x < 0
  · rw [if_pos h0]
  · rw [if_neg h0, if_neg (h.resolve_left h0)]
end
section
variable {k f e v i g G mkept mspare mwas mtext mtold : Nat → Int32} {mhasKept mwasMany manew mthrown mlength mspot mvalue merror mtolds : Int32} {n : Nat} {key : Int32}
end
