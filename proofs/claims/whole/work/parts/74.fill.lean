/-! whether days are covered -/
def fl_ (k f e g : Nat → Int32) (n : Nat) (key to : Int32) : Nat → Int32 → Int32
  | 0, day => if to < day then 1 else 0
  | c + 1, day => if to < day then 1 else if fs_ (pOn_ k f e g key day) n 0 = -1 then 0 else fl_ k f e g n key to c (e (fs_ (pOn_ k f e g key day) n 0).toNatClampNeg)
def me_ (k e g : Nat → Int32) (n : Nat) (key day : Int32) : Nat := cf_ (fun j => decide ((g j = 0 ∧ k j = key) ∧ day < e j)) n 0
section
variable {k f e v i g G mkept mspare mwas mtext mtold : Nat → Int32} {mhasKept mwasMany manew mthrown mlength mspot mvalue merror mtolds : Int32} {n : Nat} {key fr to : Int32}
theorem le_one {x y : Int32} : (if x ≤ y then some (0 : Int32) else some 1) = some (if y < x then 1 else 0) := by
  by_cases h : x ≤ y
  · rw [if_pos h, if_neg (Int32.not_lt.mpr h)]
  · rw [if_neg h, if_pos (Int32.not_le.mp h)]
theorem fill_L (hn : n ≤ 60) : ∀ c m s day, s + c = n → c < m → f_X4_fill_L6 m (nI s) day key fr to (k, f, e, v, i, g, nI n) = some (fl_ k f e g n key to c day) := by
  intro c
  induction c with
  | zero =>
    intro m s day h1 h2
    obtain ⟨m, rfl⟩ := ex_S h2
    rw [e_X4_fill_L6]
    unfold f_X4_fill_S6
    dsimp only
    rw [if_pos (by rw [nI_leI (by omega) (by omega)]; omega), le_one]
    rfl
  | succ c ih =>
    intro m s day h1 h2
    obtain ⟨m, rfl⟩ := ex_S h2
    rw [e_X4_fill_L6]
    unfold f_X4_fill_S6
    dsimp only
    rw [if_neg (by rw [nI_leI (by omega) (by omega)]; omega), le_one, fl_]
    by_cases ht : to < day
    · rw [if_pos ht, if_pos ht, if_pos ht]
    · rw [if_neg ht, if_neg ht, onDay_I hn, bd_s]
      rcases on_spec (k := k) (f := f) (e := e) (g := g) (n := n) key day with ⟨hx, -⟩ | ⟨j, hj, -, hx⟩
      · rw [hx, if_pos rfl, if_pos rfl]
      · rw [hx, if_neg (by rw [m1_ne (by omega)]; exact fun h => h), if_neg (by rw [m1_ne (by omega)]; exact fun h => h), gd_I (by omega) (by omega), cl_I (by omega), S_I, ih m (s + 1) _ (by omega) (by omega)]
theorem fill_I (hn : n ≤ 60) : f_X4_fill key fr to (k, f, e, v, i, g, nI n) = some (fl_ k f e g n key to n fr) := by
  unfold f_X4_fill
  dsimp only
  exact fill_L hn n fu_ 0 fr (by omega) (by unfold fu_; omega)
theorem covd_L (hW : WV_ k f e i g n) (hV : RV_ k f e v i g n G) : ∀ c m day, me_ k e g n key day ≤ c → c < m → f_X6_isCovered_L46 m day key fr to (G, mkept, mspare, mhasKept, mwas, mwasMany, manew, mthrown, mtext, mlength, mspot, mvalue, merror, mtold, mtolds) = some (fl_ k f e g n key to c day, (G, mkept, mspare, mhasKept, mwas, mwasMany, manew, mthrown, mtext, mlength, mspot, mvalue, merror, mtold, mtolds)) := by
  have hn := hW.1
  have step : ∀ day j, j < n → (g j = 0 ∧ k j = key ∧ f j ≤ day ∧ day < e j) → me_ k e g n key (e j) < me_ k e g n key day := by
    intro day j hj h
    unfold me_
    refine cf_lt (x := j) n 0 (Nat.zero_le _) (by omega) (dec_f (fun h => Int32.lt_irrefl h.2)) (dec_t ⟨⟨h.1, h.2.1⟩, h.2.2.2⟩) (fun t _ _ hp => ?_)
    have hp := of_decide_eq_true hp
    exact dec_t ⟨hp.1, Int32.lt_trans h.2.2.2 hp.2⟩
  intro c
  induction c with
  | zero =>
    intro m day h1 h2
    obtain ⟨m, rfl⟩ := ex_S h2
    rw [e_X6_isCovered_L46]
    unfold f_X6_isCovered_S46
    dsimp only
    rw [fl_]
    by_cases ht : to < day
    · rw [if_pos ht, if_pos ht, if_neg (Int32.not_le.mpr ht)]
    · rw [if_neg ht, if_neg ht, M_valid hW hV, bd_s]
      rcases on_spec (k := k) (f := f) (e := e) (g := g) (n := n) key day with ⟨hx, -⟩ | ⟨j, hj, hA, hx⟩
      · rw [hx, if_pos (by decide), if_pos (Int32.not_lt.mp ht)]
      · have := step day j hj hA
        omega
  | succ c ih =>
    intro m day h1 h2
    obtain ⟨m, rfl⟩ := ex_S h2
    rw [e_X6_isCovered_L46]
    unfold f_X6_isCovered_S46
    dsimp only
    rw [fl_]
    by_cases ht : to < day
    · rw [if_pos ht, if_pos ht, if_neg (Int32.not_le.mpr ht)]
    · rw [if_neg ht, if_neg ht, M_valid hW hV, bd_s]
      rcases on_spec (k := k) (f := f) (e := e) (g := g) (n := n) key day with ⟨hx, -⟩ | ⟨j, hj, hA, hx⟩
      · rw [hx, if_pos (by decide), if_pos rfl, if_pos (Int32.not_lt.mp ht)]
      · have := step day j hj hA
        rw [hx, if_neg (nI_pos (by omega)), bd_s, of_190, gd_I (by omega) (by omega), cl_I (by omega), (hV.2 j hj).2.2.2.1, if_neg (by rw [m1_ne (by omega)]; exact fun h => h), cl_I (by omega)]
        exact ih m (e j) (by omega) (by omega)
theorem M_isCovered (hW : WV_ k f e i g n) (hV : RV_ k f e v i g n G) (hk : iK_ key) (hf : iD_ fr) (ht : iD_ to) : f_X6_isCovered key fr to (G, mkept, mspare, mhasKept, mwas, mwasMany, manew, mthrown, mtext, mlength, mspot, mvalue, merror, mtold, mtolds) = some (fl_ k f e g n key to n fr, (G, mkept, mspare, mhasKept, mwas, mwasMany, manew, 0, mtext, mlength, mspot, mvalue, merror, mtold, mtolds)) := by
  have hn := hW.1
  unfold f_X6_isCovered
  dsimp only
  rw [mkey_T hk, bd_s, if_neg (by decide), mday_T hf, bd_s, if_neg (by decide), mday_T ht, bd_s, if_neg (by decide)]
  exact covd_L hW hV n fu_ fr (cf_le _ _ _) (by unfold fu_; omega)
theorem fl_bit : ∀ c day, fl_ k f e g n key to c day = 0 ∨ fl_ k f e g n key to c day = 1 := by
  intro c
  induction c with
  | zero => intro day; rw [fl_]; split; exact Or.inr rfl; exact Or.inl rfl
  | succ c ih =>
    intro day
    rw [fl_]
    split
    · exact Or.inr rfl
    · split
      · exact Or.inl rfl
      · exact ih _
end
