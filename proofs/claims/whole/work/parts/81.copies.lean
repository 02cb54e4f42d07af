/-! copies -/
def cpy_ (a b : Nat → Int32) (j n : Nat) : Nat → Int32 := fun t => if j ≤ t ∧ t < n then a t else b t
theorem cpy_step {a b : Nat → Int32} {j n : Nat} (h : j < n) : cpy_ a (upd b j (a j)) (j + 1) n = cpy_ a b j n := by
  funext t
  unfold cpy_
  by_cases e : t = j
  · subst e
    rw [if_neg (by omega), if_pos (by omega), up_s]
  · rw [up_n e]
    by_cases h2 : j ≤ t ∧ t < n
    · rw [if_pos h2, if_pos (by omega)]
    · rw [if_neg h2, if_neg (by omega)]
theorem cpy_n {a b : Nat → Int32} {j n : Nat} (h : n ≤ j) : cpy_ a b j n = b := by
  funext t
  exact if_neg (by omega)
theorem cpy_at {a b : Nat → Int32} {n t : Nat} (h : t < n) : cpy_ a b 0 n t = a t := if_pos (by omega)
theorem nar_ok {x : Int32} (h : x = 0 ∨ x = 1) : vp_nar .boolean x = x := by rcases h with rfl | rfl <;> decide
section
variable {k2 f2 e2 v2 i2 g2 fk2 fd2 fa2 fv2 rk2 rd2 rv2 : Nat → Int32} {n q r : Nat} {x : Int32}
theorem copyV_L (hn : n ≤ 60) (hb : ∀ j, j < n → (g2 j = 0 ∨ g2 j = 1) ∧ (i2 j = 0 ∨ i2 j = 1)) : ∀ c m j (k f e v i g : Nat → Int32), j + c = n → c < m → f_X4_copy_L2 m (nI j) (k, f, e, v, i, g, x) (k2, f2, e2, v2, i2, g2, nI n) = some (cpy_ k2 k j n, cpy_ f2 f j n, cpy_ e2 e j n, cpy_ v2 v j n, cpy_ i2 i j n, cpy_ g2 g j n, nI n) := by
  intro c
  induction c with
  | zero =>
    intro m j k f e v i g h1 h2
    obtain ⟨m, rfl⟩ := ex_S h2
    rw [e_X4_copy_L2]
    unfold f_X4_copy_S2
    dsimp only
    rw [if_pos (by rw [nI_leI (by omega) (by omega)]; omega), cpy_n (by omega), cpy_n (by omega), cpy_n (by omega), cpy_n (by omega), cpy_n (by omega), cpy_n (by omega)]
  | succ c ih =>
    intro m j k f e v i g h1 h2
    obtain ⟨m, rfl⟩ := ex_S h2
    obtain ⟨b1, b2⟩ := hb j (by omega)
    rw [e_X4_copy_L2]
    unfold f_X4_copy_S2
    dsimp only
    rw [if_neg (by rw [nI_leI (by omega) (by omega)]; omega)]
    simp only [gd_I (show j < 60 by omega) (show 60 < 2 ^ 31 by omega), cl_I (show j < 2 ^ 31 by omega), nm_s, nar_ok b1, nar_ok b2, S_I]
    rw [ih m (j + 1) _ _ _ _ _ _ (by omega) (by omega), cpy_step (by omega), cpy_step (by omega), cpy_step (by omega), cpy_step (by omega), cpy_step (by omega), cpy_step (by omega)]
theorem copyV_I {k f e v i g : Nat → Int32} (hn : n ≤ 60) (hb : ∀ j, j < n → (g2 j = 0 ∨ g2 j = 1) ∧ (i2 j = 0 ∨ i2 j = 1)) : f_X4_copy (k, f, e, v, i, g, x) (k2, f2, e2, v2, i2, g2, nI n) = some (cpy_ k2 k 0 n, cpy_ f2 f 0 n, cpy_ e2 e 0 n, cpy_ v2 v 0 n, cpy_ i2 i 0 n, cpy_ g2 g 0 n, nI n) := by
  unfold f_X4_copy
  dsimp only
  exact copyV_L hn hb n fu_ 0 k f e v i g (by omega) (by unfold fu_; omega)
theorem copyF_L (hq : q ≤ 60) : ∀ c m j (fk fd fa fv : Nat → Int32), j + c = q → c < m → f_X0_copy_L2 m (nI j) (fk, fd, fa, fv, x) (fk2, fd2, fa2, fv2, nI q) = some (cpy_ fk2 fk j q, cpy_ fd2 fd j q, cpy_ fa2 fa j q, cpy_ fv2 fv j q, nI q) := by
  intro c
  induction c with
  | zero =>
    intro m j fk fd fa fv h1 h2
    obtain ⟨m, rfl⟩ := ex_S h2
    rw [e_X0_copy_L2]
    unfold f_X0_copy_S2
    dsimp only
    rw [if_pos (by rw [nI_leI (by omega) (by omega)]; omega), cpy_n (by omega), cpy_n (by omega), cpy_n (by omega), cpy_n (by omega)]
  | succ c ih =>
    intro m j fk fd fa fv h1 h2
    obtain ⟨m, rfl⟩ := ex_S h2
    rw [e_X0_copy_L2]
    unfold f_X0_copy_S2
    dsimp only
    rw [if_neg (by rw [nI_leI (by omega) (by omega)]; omega)]
    simp only [gd_I (show j < 60 by omega) (show 60 < 2 ^ 31 by omega), cl_I (show j < 2 ^ 31 by omega), nm_s, S_I]
    rw [ih m (j + 1) _ _ _ _ (by omega) (by omega), cpy_step (by omega), cpy_step (by omega), cpy_step (by omega), cpy_step (by omega)]
theorem copyF_I {fk fd fa fv : Nat → Int32} (hq : q ≤ 60) : f_X0_copy (fk, fd, fa, fv, x) (fk2, fd2, fa2, fv2, nI q) = some (cpy_ fk2 fk 0 q, cpy_ fd2 fd 0 q, cpy_ fa2 fa 0 q, cpy_ fv2 fv 0 q, nI q) := by
  unfold f_X0_copy
  dsimp only
  exact copyF_L hq q fu_ 0 fk fd fa fv (by omega) (by unfold fu_; omega)
theorem setx_I {rk rd rv : Nat → Int32} {j : Nat} {a b c : Int32} (hj : j < 20) : f_X1_set (nI j) a b c (rk, rd, rv, x) = some (upd rk j a, upd rd j b, upd rv j c, x) := by
  unfold f_X1_set
  dsimp only
  rw [gd_I hj (by omega), nm_s, gd_I hj (by omega), nm_s, gd_I hj (by omega), nm_s, cl_I (by omega)]
theorem copyR_L (hr : r ≤ 20) : ∀ c m j (rk rd rv : Nat → Int32), j + c = r → c < m → f_X1_copy_L2 m (nI j) (rk, rd, rv, x) (rk2, rd2, rv2, nI r) = some (cpy_ rk2 rk j r, cpy_ rd2 rd j r, cpy_ rv2 rv j r, nI r) := by
  intro c
  induction c with
  | zero =>
    intro m j rk rd rv h1 h2
    obtain ⟨m, rfl⟩ := ex_S h2
    rw [e_X1_copy_L2]
    unfold f_X1_copy_S2
    dsimp only
    rw [if_pos (by rw [nI_leI (by omega) (by omega)]; omega), cpy_n (by omega), cpy_n (by omega), cpy_n (by omega)]
  | succ c ih =>
    intro m j rk rd rv h1 h2
    obtain ⟨m, rfl⟩ := ex_S h2
    rw [e_X1_copy_L2]
    unfold f_X1_copy_S2
    dsimp only
    rw [if_neg (by rw [nI_leI (by omega) (by omega)]; omega)]
    simp only [gd_I (show j < 20 by omega) (show 20 < 2 ^ 31 by omega), cl_I (show j < 2 ^ 31 by omega), setx_I (show j < 20 by omega), bd_s, S_I]
    rw [ih m (j + 1) _ _ _ (by omega) (by omega), cpy_step (by omega), cpy_step (by omega), cpy_step (by omega)]
theorem copyR_I {rk rd rv : Nat → Int32} (hr : r ≤ 20) : f_X1_copy (rk, rd, rv, x) (rk2, rd2, rv2, nI r) = some (cpy_ rk2 rk 0 r, cpy_ rd2 rd 0 r, cpy_ rv2 rv 0 r, nI r) := by
  unfold f_X1_copy
  dsimp only
  exact copyR_L hr r fu_ 0 rk rd rv (by omega) (by unfold fu_; omega)
end
section
variable {rk rd rv : Nat → Int32} {r d : Nat}
/-- rows d .. r moved to the front, up to row j -/
def drp_ (a : Nat → Int32) (d j : Nat) : Nat → Int32 := fun t => if t + d < j then a (t + d) else a t
theorem drp_step {a : Nat → Int32} {d j : Nat} (h : d ≤ j) : upd (drp_ a d j) (j - d) (drp_ a d j j) = drp_ a d (j + 1) := by
  funext t
  have e1 : drp_ a d j j = a j := by
    unfold drp_
    by_cases h0 : j + d < j
    · omega
    · rw [if_neg h0]
  rw [e1]
  by_cases e : t = j - d
  · subst e
    rw [up_s]
    unfold drp_
    rw [if_pos (by omega), show j - d + d = j by omega]
  · rw [up_n e]
    unfold drp_
    by_cases h2 : t + d < j
    · rw [if_pos h2, if_pos (by omega)]
    · rw [if_neg h2, if_neg (by omega)]
theorem drop_L (hr : r ≤ 20) (hd : d ≤ r) : ∀ c m j, j + c = r → d ≤ j → c < m → f_X1_dropFirst_L15 m (nI j) (nI d) (drp_ rk d j, drp_ rd d j, drp_ rv d j, nI r) = some (drp_ rk d r, drp_ rd d r, drp_ rv d r, nI (r - d)) := by
  have hsub : ∀ j, d ≤ j → nI j - nI d = nI (j - d) := fun j h => by
    rw [Int32.sub_eq_iff_eq_add, nI_add, show j - d + d = j by omega]
  intro c
  induction c with
  | zero =>
    intro m j h1 h3 h2
    obtain ⟨m, rfl⟩ := ex_S h2
    rw [e_X1_dropFirst_L15]
    unfold f_X1_dropFirst_S15
    dsimp only
    rw [if_pos (by rw [nI_leI (by omega) (by omega)]; omega), hsub r hd, show j = r by omega]
  | succ c ih =>
    intro m j h1 h3 h2
    obtain ⟨m, rfl⟩ := ex_S h2
    rw [e_X1_dropFirst_L15]
    unfold f_X1_dropFirst_S15
    dsimp only
    rw [if_neg (by rw [nI_leI (by omega) (by omega)]; omega), gd_I (by omega) (by omega), gd_I (by omega) (by omega), gd_I (by omega) (by omega), cl_I (by omega), hsub j h3, set_I (by omega), bd_s]
    dsimp only
    rw [drp_step h3, drp_step h3, drp_step h3, S_I, ih m (j + 1) (by omega) (by omega) (by omega)]
theorem drop_I (hr : r ≤ 20) (hd : d ≤ r) : f_X1_dropFirst (nI d) (rk, rd, rv, nI r) = some (drp_ rk d r, drp_ rd d r, drp_ rv d r, nI (r - d)) := by
  have e : ∀ a : Nat → Int32, drp_ a d d = a := fun a => by
    funext t
    unfold drp_
    by_cases h : t + d < d
    · omega
    · exact if_neg h
  have h := drop_L (rk := rk) (rd := rd) (rv := rv) hr hd (r - d) fu_ d (by omega) (Nat.le_refl _) (by unfold fu_; omega)
  rw [e, e, e] at h
  unfold f_X1_dropFirst
  dsimp only
  rw [if_neg (nI_pos (by omega)), if_pos (by rw [nI_leI (by omega) (by omega)]; exact hd)]
  exact h
theorem RO_drop {G : Nat → Int32} (h : RO_ rk rd rv d r G) : RO_ (drp_ rk d r) (drp_ rd d r) (drp_ rv d r) 0 (r - d) G := by
  obtain ⟨h1, h2, h3, p, h4, h5, h6⟩ := h
  refine ⟨Nat.zero_le _, by omega, h3, fun j => p (j + d), fun j _ b => ?_, fun j l _ b c => h5 (j + d) (l + d) (by omega) (by omega) (by omega), fun t ht => ?_⟩
  · obtain ⟨c1, c2, c3, c4⟩ := h4 (j + d) (by omega) (by omega)
    unfold drp_
    rw [if_pos (by omega), if_pos (by omega), if_pos (by omega)]
    exact ⟨c1, c2, c3, c4⟩
  · obtain ⟨j, a, b, c⟩ := h6 t (by omega)
    exact ⟨j - d, Nat.zero_le _, by omega, by show p (j - d + d) = t; rw [show j - d + d = j by omega]; exact c⟩
end
section
variable {mkept mspare mwas mtext mtold : Nat → Int32} {mhasKept mwasMany manew mthrown mlength mspot mvalue merror mtolds : Int32}
theorem remembers_L {G : Nat → Int32} : ∀ c m j (mspare : Nat → Int32), j + c = 610 → c < m → f_X6_remembers_L2 m (nI j) (G, mkept, mspare, mhasKept, mwas, mwasMany, manew, mthrown, mtext, mlength, mspot, mvalue, merror, mtold, mtolds) = some (G, mkept, cpy_ G mspare j 610, mhasKept, mwas, mwasMany, manew, mthrown, mtext, mlength, mspot, mvalue, merror, mtold, mtolds) := by
  intro c
  induction c with
  | zero =>
    intro m j mspare h1 h2
    obtain ⟨m, rfl⟩ := ex_S h2
    rw [e_X6_remembers_L2]
    unfold f_X6_remembers_S2
    dsimp only
    rw [if_pos (by rw [show (610 : Int32) = nI 610 from rfl, nI_leI (by omega) (by omega)]; omega), cpy_n (by omega)]
  | succ c ih =>
    intro m j mspare h1 h2
    obtain ⟨m, rfl⟩ := ex_S h2
    rw [e_X6_remembers_L2]
    unfold f_X6_remembers_S2
    dsimp only
    rw [if_neg (by rw [show (610 : Int32) = nI 610 from rfl, nI_leI (by omega) (by omega)]; omega), gd_I (by omega) (by omega), gd_I (by omega) (by omega), nm_s, cl_I (by omega), S_I, ih m (j + 1) _ (by omega) (by omega), cpy_step (by omega)]
theorem M_remembers {G : Nat → Int32} : f_X6_remembers (G, mkept, mspare, mhasKept, mwas, mwasMany, manew, mthrown, mtext, mlength, mspot, mvalue, merror, mtold, mtolds) = some (G, mkept, cpy_ G mspare 0 610, mhasKept, mwas, mwasMany, manew, mthrown, mtext, mlength, mspot, mvalue, merror, mtold, mtolds) := by
  unfold f_X6_remembers
  dsimp only
  exact remembers_L 610 fu_ 0 mspare (by omega) (by unfold fu_; omega)
theorem goesBack_L : ∀ c m j (G : Nat → Int32), j + c = 610 → c < m → f_X6_goesBack_L2 m (nI j) (G, mkept, mspare, mhasKept, mwas, mwasMany, manew, mthrown, mtext, mlength, mspot, mvalue, merror, mtold, mtolds) = some (cpy_ mspare G j 610, mkept, mspare, mhasKept, mwas, mwasMany, manew, mthrown, mtext, mlength, mspot, mvalue, merror, mtold, mtolds) := by
  intro c
  induction c with
  | zero =>
    intro m j G h1 h2
    obtain ⟨m, rfl⟩ := ex_S h2
    rw [e_X6_goesBack_L2]
    unfold f_X6_goesBack_S2
    dsimp only
    rw [if_pos (by rw [show (610 : Int32) = nI 610 from rfl, nI_leI (by omega) (by omega)]; omega), cpy_n (by omega)]
  | succ c ih =>
    intro m j G h1 h2
    obtain ⟨m, rfl⟩ := ex_S h2
    rw [e_X6_goesBack_L2]
    unfold f_X6_goesBack_S2
    dsimp only
    rw [if_neg (by rw [show (610 : Int32) = nI 610 from rfl, nI_leI (by omega) (by omega)]; omega), gd_I (by omega) (by omega), gd_I (by omega) (by omega), nm_s, cl_I (by omega), S_I, ih m (j + 1) _ (by omega) (by omega), cpy_step (by omega)]
theorem M_goesBack {G : Nat → Int32} : f_X6_goesBack (G, mkept, mspare, mhasKept, mwas, mwasMany, manew, mthrown, mtext, mlength, mspot, mvalue, merror, mtold, mtolds) = some (cpy_ mspare G 0 610, mkept, mspare, mhasKept, mwas, mwasMany, manew, mthrown, mtext, mlength, mspot, mvalue, merror, mtold, mtolds) := by
  unfold f_X6_goesBack
  dsimp only
  exact goesBack_L 610 fu_ 0 G (by omega) (by unfold fu_; omega)
theorem save_L {G : Nat → Int32} : ∀ c m j (mkept : Nat → Int32), j + c = 610 → c < m → f_X6_save_L12 m (nI j) (G, mkept, mspare, mhasKept, mwas, mwasMany, manew, mthrown, mtext, mlength, mspot, mvalue, merror, mtold, mtolds) = bd_ (f_X6_there (G, cpy_ G mkept j 610, mspare, mhasKept, mwas, mwasMany, manew, mthrown, mtext, mlength, mspot, mvalue, merror, mtold, mtolds)) (fun r5 => some (r5, (G, cpy_ G mkept j 610, mspare, mhasKept, mwas, mwasMany, manew, mthrown, mtext, mlength, mspot, mvalue, merror, mtold, mtolds))) := by
  intro c
  induction c with
  | zero =>
    intro m j mkept h1 h2
    obtain ⟨m, rfl⟩ := ex_S h2
    rw [e_X6_save_L12]
    unfold f_X6_save_S12
    dsimp only
    rw [if_pos (by rw [show (610 : Int32) = nI 610 from rfl, nI_leI (by omega) (by omega)]; omega), cpy_n (by omega)]
  | succ c ih =>
    intro m j mkept h1 h2
    obtain ⟨m, rfl⟩ := ex_S h2
    rw [e_X6_save_L12]
    unfold f_X6_save_S12
    dsimp only
    rw [if_neg (by rw [show (610 : Int32) = nI 610 from rfl, nI_leI (by omega) (by omega)]; omega), gd_I (by omega) (by omega), gd_I (by omega) (by omega), nm_s, cl_I (by omega), S_I, ih m (j + 1) _ (by omega) (by omega), cpy_step (by omega)]
theorem restore_L : ∀ c m j (G : Nat → Int32), j + c = 610 → c < m → f_X6_restore_L20 m (nI j) (G, mkept, mspare, mhasKept, mwas, mwasMany, manew, mthrown, mtext, mlength, mspot, mvalue, merror, mtold, mtolds) = bd_ (f_X6_there (cpy_ mkept G j 610, mkept, mspare, mhasKept, mwas, mwasMany, 0, mthrown, mtext, mlength, mspot, mvalue, merror, mtold, mtolds)) (fun r5 => some (r5, (cpy_ mkept G j 610, mkept, mspare, mhasKept, mwas, mwasMany, 0, mthrown, mtext, mlength, mspot, mvalue, merror, mtold, mtolds))) := by
  intro c
  induction c with
  | zero =>
    intro m j G h1 h2
    obtain ⟨m, rfl⟩ := ex_S h2
    rw [e_X6_restore_L20]
    unfold f_X6_restore_S20
    dsimp only
    rw [if_pos (by rw [show (610 : Int32) = nI 610 from rfl, nI_leI (by omega) (by omega)]; omega), cpy_n (by omega)]
  | succ c ih =>
    intro m j G h1 h2
    obtain ⟨m, rfl⟩ := ex_S h2
    rw [e_X6_restore_L20]
    unfold f_X6_restore_S20
    dsimp only
    rw [if_neg (by rw [show (610 : Int32) = nI 610 from rfl, nI_leI (by omega) (by omega)]; omega), gd_I (by omega) (by omega), gd_I (by omega) (by omega), nm_s, cl_I (by omega), S_I, ih m (j + 1) _ (by omega) (by omega), cpy_step (by omega)]
end
/-! what is known of a state -/
def ST_ (k f e v i g : Nat → Int32) (n : Nat) (fk fd fa fv : Nat → Int32) (q : Nat) (rk rd rv : Nat → Int32) (r : Nat) (G : Nat → Int32) : Prop := WV_ k f e i g n ∧ RV_ k f e v i g n G ∧ RF_ fk fd fa q G ∧ FI_ k f e g n fk fd fv q ∧ RO_ rk rd rv 0 r G ∧ ∀ j, j < r → iK_ (rk j) ∧ iD_ (rd j)
section
variable {k f e v i g fk fd fa fv rk rd rv G : Nat → Int32} {n q r : Nat}
theorem WV_agree {k' f' e' i' g' : Nat → Int32} (h : ∀ j, j < n → k' j = k j ∧ f' j = f j ∧ e' j = e j ∧ i' j = i j ∧ g' j = g j) (hW : WV_ k f e i g n) : WV_ k' f' e' i' g' n := by
  refine ⟨hW.1, fun j hj => ?_, fun j hj h1 => ?_, fun j l hj hl hne h1 h2 h3 => ?_⟩
  · obtain ⟨a1, a2, a3, a4, a5⟩ := h j hj
    rw [a4, a5]
    exact hW.2.1 j hj
  · obtain ⟨a1, a2, a3, a4, a5⟩ := h j hj
    rw [a5] at h1
    rw [a1, a2, a3]
    exact hW.2.2.1 j hj h1
  · obtain ⟨a1, a2, a3, a4, a5⟩ := h j hj
    obtain ⟨b1, b2, b3, b4, b5⟩ := h l hl
    rw [a5] at h1
    rw [b5] at h2
    rw [a1, b1] at h3
    rw [a2, a3, b2, b3]
    exact hW.2.2.2 j l hj hl hne h1 h2 h3
theorem cv_agree {k' f' e' g' : Nat → Int32} {K D : Int32} (h : ∀ j, j < n → k' j = k j ∧ f' j = f j ∧ e' j = e j ∧ g' j = g j) (hc : cv_ k f e g n K D) : cv_ k' f' e' g' n K D := by
  obtain ⟨j, hj, h1⟩ := hc
  obtain ⟨a1, a2, a3, a4⟩ := h j hj
  exact ⟨j, hj, by rw [a1, a2, a3, a4]; exact h1⟩
theorem on_agree {k' f' e' g' : Nat → Int32} {K D : Int32} (h : ∀ j, j < n → k' j = k j ∧ f' j = f j ∧ e' j = e j ∧ g' j = g j) : fs_ (pOn_ k' f' e' g' K D) n 0 = fs_ (pOn_ k f e g K D) n 0 :=
  fs_congr n 0 (fun j _ hj => by
    obtain ⟨a1, a2, a3, a4⟩ := h j (by omega)
    unfold pOn_
    rw [a1, a2, a3, a4])
theorem ST_agree {k' f' e' v' i' g' fk' fd' fa' fv' rk' rd' rv' H : Nat → Int32} (hA : ∀ j, j < n → k' j = k j ∧ f' j = f j ∧ e' j = e j ∧ v' j = v j ∧ i' j = i j ∧ g' j = g j) (hB : ∀ t, t < q → fk' t = fk t ∧ fd' t = fd t ∧ fa' t = fa t ∧ fv' t = fv t) (hC : ∀ t, t < r → rk' t = rk t ∧ rd' t = rd t ∧ rv' t = rv t) (hG : ∀ a, a < 610 → H a = G a)
    (h : ST_ k f e v i g n fk fd fa fv q rk rd rv r G) : ST_ k' f' e' v' i' g' n fk' fd' fa' fv' q rk' rd' rv' r H := by
  obtain ⟨hW, hV, hF, hI, hR, hK⟩ := h
  have hn := hW.1
  have hq := hI.1
  have a4 : ∀ j, j < n → k' j = k j ∧ f' j = f j ∧ e' j = e j ∧ g' j = g j := fun j hj => by
    obtain ⟨a1, a2, a3, a4, a5, a6⟩ := hA j hj
    exact ⟨a1, a2, a3, a6⟩
  refine ⟨WV_agree (fun j hj => ?_) hW, ?_, ?_, ?_, ?_, fun j hj => ?_⟩
  · obtain ⟨a1, a2, a3, a4, a5, a6⟩ := hA j hj
    exact ⟨a1, a2, a3, a5, a6⟩
  · refine ⟨by rw [hG 0 (by omega)]; exact hV.1, fun j hj => ?_⟩
    obtain ⟨a1, a2, a3, a4, a5, a6⟩ := hA j hj
    rw [hG (10 + j) (by omega), hG (70 + j) (by omega), hG (130 + j) (by omega), hG (190 + j) (by omega), hG (250 + j) (by omega), hG (310 + j) (by omega), a1, a2, a3, a4, a5, a6]
    exact hV.2 j hj
  · refine ⟨by rw [hG 1 (by omega)]; exact hF.1, fun t ht => ?_⟩
    obtain ⟨b1, b2, b3, -⟩ := hB t ht
    rw [hG (370 + t) (by omega), hG (430 + t) (by omega), hG (490 + t) (by omega), b1, b2, b3]
    exact hF.2 t ht
  · refine ⟨hq, fun t ht => ?_⟩
    obtain ⟨b1, b2, -, b4⟩ := hB t ht
    obtain ⟨c1, c2, c3, c4⟩ := hI.2 t ht
    unfold onF_ at *
    rw [b1, b2, b4, on_agree a4]
    exact ⟨c1, c2, cv_agree a4 c3, c4⟩
  · obtain ⟨h1, h2, h3, p, h4, h5, h6⟩ := hR
    refine ⟨h1, h2, by rw [hG 2 (by omega)]; exact h3, p, fun j a b => ?_, fun j l a b c => ?_, h6⟩
    · obtain ⟨c1, c2, c3⟩ := hC j b
      obtain ⟨d1, d2⟩ := h4 j a b
      rw [hG (550 + p j) (by omega), hG (570 + p j) (by omega), hG (590 + p j) (by omega), c1, c2, c3]
      exact ⟨d1, d2⟩
    · have d1 := (h4 j a (by omega)).1
      have d2 := (h4 l (by omega) c).1
      have := h5 j l a b c
      unfold lr_ at *
      rw [hG (550 + p j) (by omega), hG (570 + p j) (by omega), hG (550 + p l) (by omega), hG (570 + p l) (by omega)]
      exact this
  · obtain ⟨c1, c2, -⟩ := hC j hj
    rw [c1, c2]
    exact hK j hj
end
