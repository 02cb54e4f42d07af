/-! the input -/
theorem z48_ : (48 : Int32).toInt = 48 := by decide
theorem z55_ : (55 : Int32).toInt = 55 := by decide
theorem z57_ : (57 : Int32).toInt = 57 := by decide
theorem dig_v {c : Int32} (h1 : 48 ≤ c.toInt) (h2 : c.toInt ≤ 57) : (c - 48).toInt = c.toInt - 48 := by
  rw [Int32.toInt_sub, z48_, Int.bmod_eq_of_le] <;> omega
theorem num_v {x c : Int32} (h1 : 0 ≤ x.toInt) (h2 : x.toInt ≤ 99) (h3 : 48 ≤ c.toInt) (h4 : c.toInt ≤ 57) : (x * 10 + (c - 48)).toInt = x.toInt * 10 + (c.toInt - 48) := by
  have e1 : (x * 10).toInt = x.toInt * 10 := by
    rw [Int32.toInt_mul, show (10 : Int32).toInt = 10 by decide, Int.bmod_eq_of_le] <;> omega
  rw [Int32.toInt_add, e1, dig_v h3 h4, Int.bmod_eq_of_le] <;> omega
theorem num_e {x c : Int32} : 10 * x + c - 48 = x * 10 + (c - 48) := by
  rw [Int32.mul_comm, Int32.sub_eq_add_neg, Int32.sub_eq_add_neg, Int32.add_assoc]
def tl_ (told qk qd qv : Nat → Int32) (u : Nat) : Prop := ∀ j, j < u → (told (3 * j) = qk j ∧ told (3 * j + 1) = qd j ∧ told (3 * j + 2) = qv j) ∧ iK_ (qk j) ∧ iD_ (qd j)
section
variable {ch qk qd qv G mkept mspare mwas mtext mtold : Nat → Int32} {mhasKept mwasMany manew mthrown mlength mspot mvalue merror mtolds : Int32} {L p u : Nat} {rc : Int32}
theorem here_in (hL : L ≤ 30) (hp : p < L) (hT : ∀ t, t < L → ch t = mtext t) : f_X6_here (G, mkept, mspare, mhasKept, mwas, mwasMany, manew, mthrown, mtext, nI L, nI p, mvalue, merror, mtold, mtolds) = some (ch p) := by
  unfold f_X6_here
  dsimp only
  rw [if_neg (by rw [nI_leI (by omega) (by omega)]; omega), gd_I (by omega) (by omega), cl_I (by omega), hT p hp]
theorem here_out (hL : L ≤ 30) (hp : p = L) : f_X6_here (G, mkept, mspare, mhasKept, mwas, mwasMany, manew, mthrown, mtext, nI L, nI p, mvalue, merror, mtold, mtolds) = some (-1) := by
  unfold f_X6_here
  dsimp only
  rw [if_pos (by rw [nI_leI (by omega) (by omega)]; omega)]
theorem digit_sim {a : Int32} {z : Int} (hz : a.toInt = z) (hz2 : 0 ≤ z) (hL : L ≤ 30) (hp : p ≤ L) (hT : ∀ t, t < L → ch t = mtext t) :
    (p < L ∧ 48 ≤ (ch p).toInt ∧ (ch p).toInt ≤ z ∧ f_X3_takeDigit a (ch, nI L, nI p) = some (ch p - 48, (ch, nI L, nI (p + 1))) ∧ f_X6_here (G, mkept, mspare, mhasKept, mwas, mwasMany, manew, mthrown, mtext, nI L, nI p, mvalue, merror, mtold, mtolds) = some (ch p) ∧ f_X6_in (ch p) 48 a = some 1) ∨
    (f_X3_takeDigit a (ch, nI L, nI p) = some (-1, (ch, nI L, nI p)) ∧ ∃ x, f_X6_here (G, mkept, mspare, mhasKept, mwas, mwasMany, manew, mthrown, mtext, nI L, nI p, mvalue, merror, mtold, mtolds) = some x ∧ f_X6_in x 48 a = some 0) := by
  by_cases h : p < L
  · unfold f_X3_takeDigit
    dsimp only
    rw [if_neg (by rw [nI_leI (by omega) (by omega)]; omega), gd_I (by omega) (by omega), gd_I (by omega) (by omega), gd_I (by omega) (by omega), cl_I (by omega), S_I]
    by_cases h1 : ch p < 48
    · rw [if_pos h1]
      refine Or.inr ⟨rfl, ch p, here_in hL h hT, in_F z48_ hz (fun h2 => ?_)⟩
      rw [c_lt z48_] at h1
      omega
    · rw [if_neg h1]
      rw [c_lt z48_] at h1
      by_cases h2 : ch p ≤ a
      · rw [if_pos h2]
        rw [c_le hz] at h2
        exact Or.inl ⟨h, by omega, h2, rfl, here_in hL h hT, in_T z48_ hz ⟨by omega, h2⟩⟩
      · rw [if_neg h2]
        rw [c_le hz] at h2
        exact Or.inr ⟨rfl, ch p, here_in hL h hT, in_F z48_ hz (fun h3 => h2 h3.2)⟩
  · right
    refine ⟨?_, -1, here_out hL (by omega), in_F z48_ hz (fun h3 => absurd h3.1 (by decide))⟩
    unfold f_X3_takeDigit
    dsimp only
    rw [if_pos (by rw [nI_leI (by omega) (by omega)]; omega)]
theorem take_sim {c : Int32} (hc : ¬ (-1 : Int32) = c) (hL : L ≤ 30) (hp : p ≤ L) (hT : ∀ t, t < L → ch t = mtext t) :
    (p < L ∧ f_X3_take c (ch, nI L, nI p) = some (1, (ch, nI L, nI (p + 1))) ∧ f_X6_skips c (G, mkept, mspare, mhasKept, mwas, mwasMany, manew, mthrown, mtext, nI L, nI p, mvalue, merror, mtold, mtolds) = some (1, (G, mkept, mspare, mhasKept, mwas, mwasMany, manew, mthrown, mtext, nI L, nI (p + 1), mvalue, merror, mtold, mtolds))) ∨
    (f_X3_take c (ch, nI L, nI p) = some (0, (ch, nI L, nI p)) ∧ f_X6_skips c (G, mkept, mspare, mhasKept, mwas, mwasMany, manew, mthrown, mtext, nI L, nI p, mvalue, merror, mtold, mtolds) = some (0, (G, mkept, mspare, mhasKept, mwas, mwasMany, manew, mthrown, mtext, nI L, nI p, mvalue, merror, mtold, mtolds))) := by
  unfold f_X3_take f_X6_skips
  dsimp only
  by_cases h : p < L
  · rw [if_neg (by rw [nI_leI (by omega) (by omega)]; omega), gd_I (by omega) (by omega), cl_I (by omega), here_in hL h hT, bd_s, S_I]
    by_cases h1 : ch p = c
    · rw [if_pos h1, if_pos h1]
      exact Or.inl ⟨h, rfl, rfl⟩
    · rw [if_neg h1, if_neg h1]
      exact Or.inr ⟨rfl, rfl⟩
  · rw [if_pos (by rw [nI_leI (by omega) (by omega)]; omega), here_out hL (by omega), bd_s, if_neg hc]
    exact Or.inr ⟨rfl, rfl⟩
theorem num_L (hL : L ≤ 30) (hT : ∀ t, t < L → ch t = mtext t) : ∀ c t p (x : Int32) m1 m2, t + c = 3 → 1 ≤ t → p ≤ L → 0 ≤ x.toInt → x.toInt ≤ 999 → (t ≤ 2 → x.toInt ≤ 99) → (t ≤ 1 → x.toInt ≤ 9) → c < m1 → c < m2 →
    ∃ p' x', p ≤ p' ∧ p' ≤ L ∧ 0 ≤ x'.toInt ∧ x'.toInt ≤ 999 ∧ f_X3_takeNumber_L16 m1 (nI t) x (ch, nI L, nI p) = some (x', (ch, nI L, nI p')) ∧ f_X6_number_L7 m2 (nI t) 3 (G, mkept, mspare, mhasKept, mwas, mwasMany, manew, mthrown, mtext, nI L, nI p, x, merror, mtold, mtolds) = some (1, (G, mkept, mspare, mhasKept, mwas, mwasMany, manew, mthrown, mtext, nI L, nI p', x', merror, mtold, mtolds)) := by
  intro c
  induction c with
  | zero =>
    intro t p x m1 m2 h1 h2 h3 h4 h5 h6 h7 h8 h9
    obtain ⟨m1, rfl⟩ := ex_S h8
    obtain ⟨m2, rfl⟩ := ex_S h9
    have ht : t = 3 := by omega
    subst ht
    refine ⟨p, x, Nat.le_refl _, h3, h4, h5, ?_, ?_⟩
    · rw [e_X3_takeNumber_L16]
      unfold f_X3_takeNumber_S16
      dsimp only
      rw [if_pos (by decide)]
    · rw [e_X6_number_L7]
      unfold f_X6_number_S7
      dsimp only
      rw [if_pos (by decide), if_neg (by decide)]
  | succ c ih =>
    intro t p x m1 m2 h1 h2 h3 h4 h5 h6 h7 h8 h9
    obtain ⟨m1, rfl⟩ := ex_S h8
    obtain ⟨m2, rfl⟩ := ex_S h9
    have e3 : (3 : Int32) = nI 3 := rfl
    rw [e_X3_takeNumber_L16, e_X6_number_L7]
    unfold f_X3_takeNumber_S16 f_X6_number_S7
    dsimp only
    rw [if_neg (by rw [e3, nI_leI (by omega) (by omega)]; omega), if_neg (by rw [e3, nI_leI (by omega) (by omega)]; omega)]
    rcases digit_sim (mkept := mkept) (mspare := mspare) (mwas := mwas) (mtext := mtext) (mtold := mtold) (mhasKept := mhasKept) (mwasMany := mwasMany) (manew := manew) (mthrown := mthrown) (mvalue := x) (merror := merror) (mtolds := mtolds) (G := G) z57_ (by omega) hL h3 hT with ⟨d1, d2, d3, d4, d5, d6⟩ | ⟨d1, y, d2, d3⟩
    · have hd : ¬ (ch p - 48 : Int32) = -1 := fun h => by
        have := congrArg Int32.toInt h
        rw [dig_v d2 d3, show (-1 : Int32).toInt = -1 by decide] at this
        omega
      have hv := num_v h4 (h6 (by omega)) d2 d3
      have one0 : ¬ (1 : Int32) = 0 := by decide
      rw [d4, bd_s]
      dsimp only
      rw [if_neg hd, d5, bd_s, d6, bd_s, if_neg one0, bd_s, S_I, S_I, num_e]
      obtain ⟨p', x', a1, a2, a3, a4, a5, a6⟩ := ih (t + 1) (p + 1) (x * 10 + (ch p - 48)) m1 m2 (by omega) (by omega) (by omega) (by omega) (by have := h6 (by omega); omega) (fun h => by have := h7 (by omega); omega) (fun h => by omega) (by omega) (by omega)
      exact ⟨p', x', by omega, a2, a3, a4, a5, a6⟩
    · rw [d1, bd_s, d2, bd_s, d3, bd_s, if_pos rfl, if_neg (nI_nle (by omega) (by omega))]
      dsimp only
      rw [if_pos rfl]
      exact ⟨p, x, Nat.le_refl _, h3, h4, h5, rfl, rfl⟩
theorem number_sim (hL : L ≤ 30) (hp : p ≤ L) (hT : ∀ t, t < L → ch t = mtext t) :
    (∃ p' x, p < p' ∧ p' ≤ L ∧ iD_ x ∧ f_X3_takeNumber (ch, nI L, nI p) = some (x, (ch, nI L, nI p')) ∧ f_X6_number 3 (G, mkept, mspare, mhasKept, mwas, mwasMany, manew, mthrown, mtext, nI L, nI p, mvalue, merror, mtold, mtolds) = some (1, (G, mkept, mspare, mhasKept, mwas, mwasMany, manew, mthrown, mtext, nI L, nI p', x, merror, mtold, mtolds))) ∨
    (f_X3_takeNumber (ch, nI L, nI p) = some (-1, (ch, nI L, nI p)) ∧ f_X6_number 3 (G, mkept, mspare, mhasKept, mwas, mwasMany, manew, mthrown, mtext, nI L, nI p, mvalue, merror, mtold, mtolds) = some (0, (G, mkept, mspare, mhasKept, mwas, mwasMany, manew, mthrown, mtext, nI L, nI p, 0, merror, mtold, mtolds))) := by
  unfold f_X3_takeNumber f_X6_number
  dsimp only
  have ef : fu_ = 4999 + 1 := rfl
  rw [show f_X6_number_L7 fu_ = f_X6_number_L7 (4999 + 1) from rfl, e_X6_number_L7]
  unfold f_X6_number_S7
  dsimp only
  rw [if_neg (by decide)]
  rcases digit_sim (mkept := mkept) (mspare := mspare) (mwas := mwas) (mtext := mtext) (mtold := mtold) (mhasKept := mhasKept) (mwasMany := mwasMany) (manew := manew) (mthrown := mthrown) (mvalue := 0) (merror := merror) (mtolds := mtolds) (G := G) z57_ (by omega) hL hp hT with ⟨d1, d2, d3, d4, d5, d6⟩ | ⟨d1, y, d2, d3⟩
  · left
    have hd : ¬ (ch p - 48 : Int32) = -1 := fun h => by
      have := congrArg Int32.toInt h
      rw [dig_v d2 d3, show (-1 : Int32).toInt = -1 by decide] at this
      omega
    have hv := dig_v d2 d3
    have h0 : (10 * (0 : Int32) + ch p - 48 : Int32) = ch p - 48 := by
      rw [show (10 * (0 : Int32)) = 0 from rfl, Int32.zero_add]
    obtain ⟨p', x', a1, a2, a3, a4, a5, a6⟩ := num_L (mkept := mkept) (mspare := mspare) (mwas := mwas) (mtext := mtext) (mtold := mtold) (mhasKept := mhasKept) (mwasMany := mwasMany) (manew := manew) (mthrown := mthrown) (merror := merror) (mtolds := mtolds) (G := G) hL hT 2 1 (p + 1) (ch p - 48) fu_ 4999 (by omega) (by omega) (by omega) (by omega) (by omega) (fun h => by omega) (fun h => by omega) (by unfold fu_; omega) (by omega)
    refine ⟨p', x', by omega, a2, ⟨a3, a4⟩, ?_, ?_⟩
    · rw [d4, bd_s]
      dsimp only
      rw [if_neg hd]
      exact a5
    · rw [d5, bd_s, d6, bd_s, if_neg (by decide), bd_s, S_I, h0]
      exact a6
  · right
    rw [d1, bd_s]
    dsimp only
    rw [if_pos rfl, d2, bd_s, d3, bd_s, if_pos rfl, if_pos (show (0 : Int32) ≤ 0 by decide)]
    exact ⟨rfl, rfl⟩
theorem addLast_I {a b c : Int32} (hu : u < 20) : f_X1_addLast a b c (qk, qd, qv, nI u) = some (1, (upd qk u a, upd qd u b, upd qv u c, nI (u + 1))) := by
  unfold f_X1_addLast
  dsimp only
  rw [if_pos (by rw [show (20 : Int32) = nI 20 from rfl, nI_ltI (by omega) (by omega)]; exact hu), setx_I hu, bd_s]
  dsimp only
  rw [S_I]
theorem mul3 {u : Nat} (hu : u ≤ 20) : (3 : Int32) * nI u = nI (3 * u) := by
  refine Int32.toInt_inj.mp ?_
  rw [Int32.toInt_mul, show (3 : Int32).toInt = 3 by decide, nI_toInt (by omega), nI_toInt (by omega), Int.bmod_eq_of_le] <;> omega
theorem tl_add {told : Nat → Int32} {a b c : Int32} (h : tl_ told qk qd qv u) (ha : iK_ a) (hb : iD_ b) : tl_ (upd (upd (upd told (3 * u) a) (3 * u + 1) b) (3 * u + 2) c) (upd qk u a) (upd qd u b) (upd qv u c) (u + 1) := by
  intro j hj
  by_cases e : j = u
  · subst e
    rw [up_n (show 3 * j ≠ 3 * j + 2 by omega), up_n (show 3 * j ≠ 3 * j + 1 by omega), up_s, up_n (show 3 * j + 1 ≠ 3 * j + 2 by omega), up_s, up_s, up_s, up_s, up_s]
    exact ⟨⟨rfl, rfl, rfl⟩, ha, hb⟩
  · obtain ⟨⟨h1, h2, h3⟩, h4, h5⟩ := h j (by omega)
    rw [up_n e, up_n e, up_n e, up_n (show 3 * j ≠ 3 * u + 2 by omega), up_n (show 3 * j ≠ 3 * u + 1 by omega), up_n (show 3 * j ≠ 3 * u by omega), up_n (show 3 * j + 1 ≠ 3 * u + 2 by omega), up_n (show 3 * j + 1 ≠ 3 * u + 1 by omega), up_n (show 3 * j + 1 ≠ 3 * u by omega), up_n (show 3 * j + 2 ≠ 3 * u + 2 by omega), up_n (show 3 * j + 2 ≠ 3 * u + 1 by omega), up_n (show 3 * j + 2 ≠ 3 * u by omega)]
    exact ⟨⟨h1, h2, h3⟩, h4, h5⟩
theorem row_sim (hL : L ≤ 30) (hp : p ≤ L) (hT : ∀ t, t < L → ch t = mtext t) (hu : u ≤ 9) (ht : tl_ mtold qk qd qv u) :
    (∃ p' x a b c told', p + 6 ≤ p' ∧ p' ≤ L ∧ f_X3_takeRow (ch, nI L, nI p) (qk, qd, qv, nI u) = some (1, (ch, nI L, nI p'), (upd qk u a, upd qd u b, upd qv u c, nI (u + 1))) ∧ f_X6_isRow (G, mkept, mspare, mhasKept, mwas, mwasMany, manew, mthrown, mtext, nI L, nI p, mvalue, merror, mtold, nI u) = some (1, (G, mkept, mspare, mhasKept, mwas, mwasMany, manew, mthrown, mtext, nI L, nI p', x, merror, told', nI (u + 1))) ∧ tl_ told' (upd qk u a) (upd qd u b) (upd qv u c) (u + 1)) ∨
    (∃ p' x told', p' ≤ L ∧ f_X3_takeRow (ch, nI L, nI p) (qk, qd, qv, nI u) = some (0, (ch, nI L, nI p'), (qk, qd, qv, nI u)) ∧ f_X6_isRow (G, mkept, mspare, mhasKept, mwas, mwasMany, manew, mthrown, mtext, nI L, nI p, mvalue, merror, mtold, nI u) = some (0, (G, mkept, mspare, mhasKept, mwas, mwasMany, manew, mthrown, mtext, nI L, nI p', x, merror, told', nI u))) := by
  unfold f_X3_takeRow f_X6_isRow
  dsimp only
  rcases take_sim (c := 107) (G := G) (mkept := mkept) (mspare := mspare) (mwas := mwas) (mtext := mtext) (mtold := mtold) (mhasKept := mhasKept) (mwasMany := mwasMany) (manew := manew) (mthrown := mthrown) (mvalue := mvalue) (merror := merror) (mtolds := nI u) (by decide) hL hp hT with ⟨a1, a2, a3⟩ | ⟨a2, a3⟩
  rotate_left
  · right
    rw [a2, a3, bd_s, bd_s]
    dsimp only
    rw [if_pos rfl, if_pos rfl]
    exact ⟨p, mvalue, mtold, hp, rfl, rfl⟩
  rw [a2, a3, bd_s, bd_s]
  dsimp only
  rw [if_neg (by decide), if_neg (by decide)]
  rcases digit_sim (G := G) (mkept := mkept) (mspare := mspare) (mwas := mwas) (mtext := mtext) (mtold := mtold) (mhasKept := mhasKept) (mwasMany := mwasMany) (manew := manew) (mthrown := mthrown) (mvalue := mvalue) (merror := merror) (mtolds := nI u) (p := p + 1) z55_ (by omega) hL (by omega) hT with ⟨b1, b2, b3, b4, b5, b6⟩ | ⟨b1, y, b2, b3⟩
  rotate_left
  · right
    rw [b1, b2, bd_s, bd_s, b3, bd_s]
    dsimp only
    rw [if_pos rfl, if_pos rfl]
    exact ⟨p + 1, mvalue, mtold, by omega, rfl, rfl⟩
  have hd : ¬ (ch (p + 1) - 48 : Int32) = -1 := fun h => by
    have := congrArg Int32.toInt h
    rw [dig_v b2 (by omega), show (-1 : Int32).toInt = -1 by decide] at this
    omega
  have hkey : iK_ (ch (p + 1) - 48) := by
    unfold iK_
    rw [dig_v b2 (by omega)]
    omega
  rw [b4, b5, bd_s, bd_s, b6, bd_s]
  dsimp only
  rw [if_neg hd, if_neg (by decide), bd_s, mul3 (by omega), gd_I (by omega) (by omega), nm_s, cl_I (by omega), S_I]
  rcases take_sim (c := 64) (G := G) (mkept := mkept) (mspare := mspare) (mwas := mwas) (mtext := mtext) (mtold := upd mtold (3 * u) (ch (p + 1) - 48)) (mhasKept := mhasKept) (mwasMany := mwasMany) (manew := manew) (mthrown := mthrown) (mvalue := mvalue) (merror := merror) (mtolds := nI u) (p := p + 1 + 1) (by decide) hL (by omega) hT with ⟨c1, c2, c3⟩ | ⟨c2, c3⟩
  rotate_left
  · right
    rw [c2, c3, bd_s, bd_s]
    dsimp only
    rw [if_pos rfl, if_pos rfl]
    exact ⟨p + 1 + 1, mvalue, _, by omega, rfl, rfl⟩
  rw [c2, c3, bd_s, bd_s]
  dsimp only
  rw [if_neg (by decide), if_neg (by decide)]
  rcases number_sim (G := G) (mkept := mkept) (mspare := mspare) (mwas := mwas) (mtext := mtext) (mtold := upd mtold (3 * u) (ch (p + 1) - 48)) (mhasKept := mhasKept) (mwasMany := mwasMany) (manew := manew) (mthrown := mthrown) (mvalue := mvalue) (merror := merror) (mtolds := nI u) (p := p + 1 + 1 + 1) hL (by omega) hT with ⟨p1, x1, d1, d2, d3, d4, d5⟩ | ⟨d4, d5⟩
  rotate_left
  · right
    rw [d4, d5, bd_s, bd_s]
    dsimp only
    rw [if_pos rfl, if_pos rfl]
    exact ⟨p + 1 + 1 + 1, 0, _, by omega, rfl, rfl⟩
  have hx1 : ¬ x1 = -1 := fun h => by
    have := d3.1
    rw [h] at this
    exact absurd this (by decide)
  rw [d4, d5, bd_s, bd_s]
  dsimp only
  rw [if_neg hx1, if_neg (by decide), mul3 (by omega), S_I, gd_I (by omega) (by omega), nm_s, cl_I (by omega)]
  rcases take_sim (c := 61) (G := G) (mkept := mkept) (mspare := mspare) (mwas := mwas) (mtext := mtext) (mtold := upd (upd mtold (3 * u) (ch (p + 1) - 48)) (3 * u + 1) x1) (mhasKept := mhasKept) (mwasMany := mwasMany) (manew := manew) (mthrown := mthrown) (mvalue := x1) (merror := merror) (mtolds := nI u) (p := p1) (by decide) hL (by omega) hT with ⟨f1, f2, f3⟩ | ⟨f2, f3⟩
  rotate_left
  · right
    rw [f2, f3, bd_s, bd_s]
    dsimp only
    rw [if_pos rfl, if_pos rfl]
    exact ⟨p1, x1, _, by omega, rfl, rfl⟩
  rw [f2, f3, bd_s, bd_s]
  dsimp only
  rw [if_neg (by decide), if_neg (by decide)]
  have fin : ∀ (p2 : Nat) (s : Int32), p1 + 1 ≤ p2 → p2 ≤ L → (s = 0 ∨ s = 1) →
    (∃ p' x a b c told', p + 6 ≤ p' ∧ p' ≤ L ∧ bd_ (f_X3_takeNumber (ch, nI L, nI p2)) (fun (r54, (tc55, tl56, tp57)) =>
        if r54 = (-1) then some ((0 : Int32), (tc55, tl56, tp57), (qk, qd, qv, nI u))
        else if s = 0 then bd_ (f_X1_addLast (ch (p + 1) - 48) x1 r54 (qk, qd, qv, nI u)) (fun (r64, (rk65, rd66, rv67, rc68)) => gb_ r64 (some (r64, (tc55, tl56, tp57), (rk65, rd66, rv67, rc68))))
        else bd_ (f_X1_addLast (ch (p + 1) - 48) x1 (-r54) (qk, qd, qv, nI u)) (fun (r74, (rk75, rd76, rv77, rc78)) => gb_ r74 (some (r74, (tc55, tl56, tp57), (rk75, rd76, rv77, rc78))))) = some (1, (ch, nI L, nI p'), (upd qk u a, upd qd u b, upd qv u c, nI (u + 1))) ∧
      bd_ (f_X6_number 3 (G, mkept, mspare, mhasKept, mwas, mwasMany, manew, mthrown, mtext, nI L, nI p2, x1, merror, upd (upd mtold (3 * u) (ch (p + 1) - 48)) (3 * u + 1) x1, nI u)) (fun (r130, (mg131, mk132, ms133, mh134, mw135, mw136, ma137, mt138, mt139, ml140, ms141, mv142, me143, mt144, mt145)) =>
        if r130 = 0 then some ((0 : Int32), (mg131, mk132, ms133, mh134, mw135, mw136, ma137, mt138, mt139, ml140, ms141, mv142, me143, mt144, mt145))
        else if s = 0 then gd_ ((3 * mt145) + 2) 30 (nm_ (upd mt144 (((3 * mt145) + 2).toNatClampNeg) mv142) (fun u154 => some ((1 : Int32), (mg131, mk132, ms133, mh134, mw135, mw136, ma137, mt138, mt139, ml140, ms141, mv142, me143, u154, mt145 + 1))))
        else gd_ ((3 * mt145) + 2) 30 (nm_ (upd mt144 (((3 * mt145) + 2).toNatClampNeg) (-mv142)) (fun u159 => some ((1 : Int32), (mg131, mk132, ms133, mh134, mw135, mw136, ma137, mt138, mt139, ml140, ms141, mv142, me143, u159, mt145 + 1))))) = some (1, (G, mkept, mspare, mhasKept, mwas, mwasMany, manew, mthrown, mtext, nI L, nI p', x, merror, told', nI (u + 1))) ∧ tl_ told' (upd qk u a) (upd qd u b) (upd qv u c) (u + 1)) ∨
    (∃ p' x told', p' ≤ L ∧ bd_ (f_X3_takeNumber (ch, nI L, nI p2)) (fun (r54, (tc55, tl56, tp57)) =>
        if r54 = (-1) then some ((0 : Int32), (tc55, tl56, tp57), (qk, qd, qv, nI u))
        else if s = 0 then bd_ (f_X1_addLast (ch (p + 1) - 48) x1 r54 (qk, qd, qv, nI u)) (fun (r64, (rk65, rd66, rv67, rc68)) => gb_ r64 (some (r64, (tc55, tl56, tp57), (rk65, rd66, rv67, rc68))))
        else bd_ (f_X1_addLast (ch (p + 1) - 48) x1 (-r54) (qk, qd, qv, nI u)) (fun (r74, (rk75, rd76, rv77, rc78)) => gb_ r74 (some (r74, (tc55, tl56, tp57), (rk75, rd76, rv77, rc78))))) = some (0, (ch, nI L, nI p'), (qk, qd, qv, nI u)) ∧
      bd_ (f_X6_number 3 (G, mkept, mspare, mhasKept, mwas, mwasMany, manew, mthrown, mtext, nI L, nI p2, x1, merror, upd (upd mtold (3 * u) (ch (p + 1) - 48)) (3 * u + 1) x1, nI u)) (fun (r130, (mg131, mk132, ms133, mh134, mw135, mw136, ma137, mt138, mt139, ml140, ms141, mv142, me143, mt144, mt145)) =>
        if r130 = 0 then some ((0 : Int32), (mg131, mk132, ms133, mh134, mw135, mw136, ma137, mt138, mt139, ml140, ms141, mv142, me143, mt144, mt145))
        else if s = 0 then gd_ ((3 * mt145) + 2) 30 (nm_ (upd mt144 (((3 * mt145) + 2).toNatClampNeg) mv142) (fun u154 => some ((1 : Int32), (mg131, mk132, ms133, mh134, mw135, mw136, ma137, mt138, mt139, ml140, ms141, mv142, me143, u154, mt145 + 1))))
        else gd_ ((3 * mt145) + 2) 30 (nm_ (upd mt144 (((3 * mt145) + 2).toNatClampNeg) (-mv142)) (fun u159 => some ((1 : Int32), (mg131, mk132, ms133, mh134, mw135, mw136, ma137, mt138, mt139, ml140, ms141, mv142, me143, u159, mt145 + 1))))) = some (0, (G, mkept, mspare, mhasKept, mwas, mwasMany, manew, mthrown, mtext, nI L, nI p', x, merror, told', nI u))) := by
    intro p2 s hp2 hp3 hs
    rcases number_sim (G := G) (mkept := mkept) (mspare := mspare) (mwas := mwas) (mtext := mtext) (mtold := upd (upd mtold (3 * u) (ch (p + 1) - 48)) (3 * u + 1) x1) (mhasKept := mhasKept) (mwasMany := mwasMany) (manew := manew) (mthrown := mthrown) (mvalue := x1) (merror := merror) (mtolds := nI u) (p := p2) hL hp3 hT with ⟨p4, x4, g1, g2, g3, g4, g5⟩ | ⟨g4, g5⟩
    rotate_left
    · right
      rw [g4, g5, bd_s, bd_s]
      dsimp only
      rw [if_pos rfl, if_pos rfl]
      exact ⟨p2, 0, _, hp3, rfl, rfl⟩
    left
    have hx4 : ¬ x4 = -1 := fun h => by
      have := g3.1
      rw [h] at this
      exact absurd this (by decide)
    rw [g4, g5, bd_s, bd_s]
    dsimp only
    rw [if_neg hx4, if_neg (show ¬ (1 : Int32) = 0 by decide), mul3 (by omega), show (nI (3 * u) + 2 : Int32) = nI (3 * u + 2) from nI_add (3 * u) 2, S_I]
    rcases hs with rfl | rfl
    · rw [if_pos rfl, if_pos rfl, addLast_I (by omega), bd_s, gd_I (by omega) (by omega), nm_s, cl_I (by omega)]
      exact ⟨p4, x4, _, _, _, _, by omega, g2, gb_1, rfl, tl_add ht hkey d3⟩
    · rw [if_neg (by decide), if_neg (by decide), addLast_I (by omega), bd_s, gd_I (by omega) (by omega), nm_s, cl_I (by omega)]
      exact ⟨p4, x4, _, _, _, _, by omega, g2, gb_1, rfl, tl_add ht hkey d3⟩
  rcases take_sim (c := 45) (G := G) (mkept := mkept) (mspare := mspare) (mwas := mwas) (mtext := mtext) (mtold := upd (upd mtold (3 * u) (ch (p + 1) - 48)) (3 * u + 1) x1) (mhasKept := mhasKept) (mwasMany := mwasMany) (manew := manew) (mthrown := mthrown) (mvalue := x1) (merror := merror) (mtolds := nI u) (p := p1 + 1) (by decide) hL (by omega) hT with ⟨h1, h2, h3⟩ | ⟨h2, h3⟩
  · rw [h2, h3, bd_s, bd_s]
    dsimp only
    exact fin (p1 + 1 + 1) 1 (by omega) (by omega) (Or.inr rfl)
  · rw [h2, h3, bd_s, bd_s]
    dsimp only
    exact fin (p1 + 1) 0 (by omega) (by omega) (Or.inl rfl)
theorem rows_sim (hL : L ≤ 30) (hT : ∀ t, t < L → ch t = mtext t) : ∀ c p u (qk qd qv mtold : Nat → Int32) (mvalue : Int32) m1 m2, L - p ≤ c → p ≤ L → 7 * u ≤ p → tl_ mtold qk qd qv u → c < m1 → c < m2 →
    (∃ u' qk' qd' qv' told' x, u' ≤ 10 ∧ f_X3_takeRows_L12 m1 (nI u) (ch, nI L, nI p) (qk, qd, qv, nI u) = some (1, (ch, nI L, nI L), (qk', qd', qv', nI u')) ∧ f_X6_faultOf_L10 m2 (G, mkept, mspare, mhasKept, mwas, mwasMany, manew, mthrown, mtext, nI L, nI p, mvalue, merror, mtold, nI u) = some (-1, (G, mkept, mspare, mhasKept, mwas, mwasMany, manew, mthrown, mtext, nI L, nI L, x, merror, told', nI u')) ∧ tl_ told' qk' qd' qv' u') ∨
    (∃ p' u' qk' qd' qv' told' x, p' ≤ L ∧ f_X3_takeRows_L12 m1 (nI u) (ch, nI L, nI p) (qk, qd, qv, nI u) = some (0, (ch, nI L, nI p'), (qk', qd', qv', nI u')) ∧ f_X6_faultOf_L10 m2 (G, mkept, mspare, mhasKept, mwas, mwasMany, manew, mthrown, mtext, nI L, nI p, mvalue, merror, mtold, nI u) = some (nI p', (G, mkept, mspare, mhasKept, mwas, mwasMany, manew, mthrown, mtext, nI L, nI p', x, merror, told', nI u'))) := by
  have one0 : ¬ (1 : Int32) = 0 := by decide
  intro c
  induction c with
  | zero =>
    intro p u qk qd qv mtold mvalue m1 m2 h1 h2 h3 ht h4 h5
    obtain ⟨m1, rfl⟩ := ex_S h4
    obtain ⟨m2, rfl⟩ := ex_S h5
    rw [e_X3_takeRows_L12, e_X6_faultOf_L10]
    unfold f_X3_takeRows_S12 f_X6_faultOf_S10
    dsimp only
    rw [if_neg (by rw [nI_ltI (by omega) (by omega)]; omega)]
    rcases row_sim (G := G) (mkept := mkept) (mspare := mspare) (mwas := mwas) (mtext := mtext) (mtold := mtold) (mhasKept := mhasKept) (mwasMany := mwasMany) (manew := manew) (mthrown := mthrown) (mvalue := mvalue) (merror := merror) (p := p) (u := u) hL h2 hT (by omega) ht with ⟨p', x, a, b, c, told', r1, r2, r3, r4, r5⟩ | ⟨p', x, told', r2, r3, r4⟩
    · omega
    · right
      rw [r3, r4, bd_s, bd_s]
      dsimp only
      rw [if_pos rfl, if_pos rfl]
      exact ⟨p', u, qk, qd, qv, told', x, r2, rfl, rfl⟩
  | succ c ih =>
    intro p u qk qd qv mtold mvalue m1 m2 h1 h2 h3 ht h4 h5
    obtain ⟨m1, rfl⟩ := ex_S h4
    obtain ⟨m2, rfl⟩ := ex_S h5
    rw [e_X3_takeRows_L12, e_X6_faultOf_L10]
    unfold f_X3_takeRows_S12 f_X6_faultOf_S10
    dsimp only
    rw [if_neg (by rw [nI_ltI (by omega) (by omega)]; omega)]
    rcases row_sim (G := G) (mkept := mkept) (mspare := mspare) (mwas := mwas) (mtext := mtext) (mtold := mtold) (mhasKept := mhasKept) (mwasMany := mwasMany) (manew := manew) (mthrown := mthrown) (mvalue := mvalue) (merror := merror) (p := p) (u := u) hL h2 hT (by omega) ht with ⟨p', x, a, b, c', told', r1, r2, r3, r4, r5⟩ | ⟨p', x, told', r2, r3, r4⟩
    · rw [r3, r4, bd_s, bd_s]
      dsimp only
      rw [if_neg one0, if_neg one0]
      rcases take_sim (c := 44) (G := G) (mkept := mkept) (mspare := mspare) (mwas := mwas) (mtext := mtext) (mtold := told') (mhasKept := mhasKept) (mwasMany := mwasMany) (manew := manew) (mthrown := mthrown) (mvalue := x) (merror := merror) (mtolds := nI (u + 1)) (p := p') (by decide) hL r2 hT with ⟨t1, t2, t3⟩ | ⟨t2, t3⟩
      · rw [if_neg (by rw [nI_eq (by omega) (by omega)]; omega), t2, t3, bd_s, bd_s]
        dsimp only
        rw [if_neg one0, if_neg one0, S_I]
        exact ih (p' + 1) (u + 1) _ _ _ told' x m1 m2 (by omega) (by omega) (by omega) r5 (by omega) (by omega)
      · rw [t2, t3, bd_s, bd_s]
        dsimp only
        rw [if_pos rfl, if_pos rfl]
        by_cases hp' : p' = L
        · subst hp'
          left
          rw [if_pos rfl, if_pos (by rw [nI_leI (by omega) (by omega)]; omega)]
          exact ⟨u + 1, _, _, _, told', x, by omega, rfl, rfl, r5⟩
        · right
          rw [if_neg (by rw [nI_eq (by omega) (by omega)]; exact hp'), if_neg (by rw [nI_leI (by omega) (by omega)]; omega)]
          exact ⟨p', u + 1, _, _, _, told', x, r2, rfl, rfl⟩
    · right
      rw [r3, r4, bd_s, bd_s]
      dsimp only
      rw [if_pos rfl, if_pos rfl]
      exact ⟨p', u, qk, qd, qv, told', x, r2, rfl, rfl⟩
theorem takeRows_sim (hL : L ≤ 30) (hT : ∀ t, t < L → ch t = mtext t) (qk qd qv : Nat → Int32) (pl : Int32) :
    (∃ u' qk' qd' qv' told' x, u' ≤ 10 ∧ f_X3_takeRows (ch, nI L, pl) (qk, qd, qv, rc) = some (1, (ch, nI L, nI L), (qk', qd', qv', nI u')) ∧ f_X6_faultOf (G, mkept, mspare, mhasKept, mwas, mwasMany, manew, mthrown, mtext, nI L, mspot, mvalue, merror, mtold, mtolds) = some (-1, (G, mkept, mspare, mhasKept, mwas, mwasMany, manew, mthrown, mtext, nI L, nI L, x, merror, told', nI u')) ∧ tl_ told' qk' qd' qv' u') ∨
    (∃ p' u' qk' qd' qv' told' x, p' ≤ L ∧ f_X3_takeRows (ch, nI L, pl) (qk, qd, qv, rc) = some (0, (ch, nI L, nI p'), (qk', qd', qv', nI u')) ∧ f_X6_faultOf (G, mkept, mspare, mhasKept, mwas, mwasMany, manew, mthrown, mtext, nI L, mspot, mvalue, merror, mtold, mtolds) = some (nI p', (G, mkept, mspare, mhasKept, mwas, mwasMany, manew, mthrown, mtext, nI L, nI p', x, merror, told', nI u'))) := by
  unfold f_X3_takeRows f_X6_faultOf
  dsimp only
  exact rows_sim hL hT L 0 0 qk qd qv mtold mvalue fu_ fu_ (by omega) (by omega) (by omega) (fun j hj => by omega) (by unfold fu_; omega) (by unfold fu_; omega)
end
