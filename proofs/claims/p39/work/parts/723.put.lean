/-! changes of the versions -/
theorem nar_b1 : vp_nar .boolean (1 : Int32) = 1 := by decide
theorem nar_b0 : vp_nar .boolean (0 : Int32) = 0 := by decide
section
variable {k f e v i g G mkept mspare mwas mtext mtold : Nat → Int32} {mhasKept mwasMany manew mthrown mlength mspot mvalue merror mtolds : Int32} {n : Nat}
theorem make_I {a b c : Int32} (hn : n < 60) : f_X4_make a b c (k, f, e, v, i, g, nI n) = some (nI n, (upd k n a, upd f n b, upd e n c, upd v n 0, upd i n 1, upd g n 0, nI (n + 1))) := by
  unfold f_X4_make
  dsimp only
  rw [if_pos (by rw [show (60 : Int32) = nI 60 from rfl, nI_ltI (by omega) (by omega)]; omega)]
  simp only [gd_I (show n < 60 by omega) (by omega), cl_I (show n < 2 ^ 31 by omega), nm_s, nar_b1, nar_b0, S_I]
theorem make_F {a b c : Int32} (hn : n = 60) : f_X4_make a b c (k, f, e, v, i, g, nI n) = some (-1, (k, f, e, v, i, g, nI n)) := by
  subst hn
  unfold f_X4_make
  dsimp only
  rw [if_neg (by decide)]
theorem settle_I {j : Nat} {x : Int32} (hn : n ≤ 60) (hj : j < n) (hg : g j = 0) : f_X4_settle (nI j) x (k, f, e, v, i, g, nI n) = some (k, f, e, upd v j x, upd i j 0, g, nI n) := by
  unfold f_X4_settle
  dsimp only
  rw [has_I hn hj, bd_s, if_pos hg, if_neg (by decide)]
  simp only [gd_I (show j < 60 by omega) (by omega), cl_I (show j < 2 ^ 31 by omega), nm_s, nar_b0]
theorem split_I {j : Nat} {d : Int32} (hn : n < 60) (hj : j < n) : f_X4_split (nI j) d (k, f, e, v, i, g, nI n) = some (nI n, (upd k n (k j), upd f n d, upd (upd e n (e j)) j d, upd v n 0, upd i n 1, upd g n 0, nI (n + 1))) := by
  unfold f_X4_split
  dsimp only
  simp only [gd_I (show j < 60 by omega) (by omega), cl_I (show j < 2 ^ 31 by omega), make_I hn, bd_s, nm_s]
  rw [if_neg (by rw [m1_ne (by omega)]; exact fun h => h)]
theorem split_F {j : Nat} {d : Int32} (hn : n = 60) (hj : j < n) : f_X4_split (nI j) d (k, f, e, v, i, g, nI n) = some (-1, (k, f, e, v, i, g, nI n)) := by
  unfold f_X4_split
  dsimp only
  simp only [gd_I (show j < 60 by omega) (by omega), cl_I (show j < 2 ^ 31 by omega), make_F hn, bd_s, nm_s]
  rw [if_pos trivial]
end
section
variable {k f e v i g : Nat → Int32} {n : Nat} {key day : Int32}
theorem cover_0 {j : Nat} (hn : n ≤ 60) (hj : j < n) (hx : fs_ (pOn_ k f e g key day) n 0 = nI j) : f_X4_cover key day (k, f, e, v, i, g, nI n) = some (nI j, (k, f, e, v, i, g, nI n)) := by
  unfold f_X4_cover
  dsimp only
  rw [onDay_I hn, bd_s, hx, if_neg (by rw [m1_ne (by omega)]; exact fun h => h)]
theorem cover_4 {l : Nat} (hn : n ≤ 60) (hl : l < n) (hx : fs_ (pOn_ k f e g key day) n 0 = -1) (hy : fo_ (nx_ k f g key day) n 0 (-1) = nI l) (hi : ¬ i l = 0) : f_X4_cover key day (k, f, e, v, i, g, nI n) = some (nI l, (k, upd f l day, e, v, i, g, nI n)) := by
  unfold f_X4_cover
  dsimp only
  rw [onDay_I hn, bd_s, hx, if_pos rfl, next_I hn, bd_s, hy, if_neg (by rw [m1_ne (by omega)]; exact fun h => h), gd_I (by omega) (by omega), cl_I (by omega), if_neg hi, gd_I (by omega) (by omega), nm_s]
theorem cover_a (hn : n < 60) (hx : fs_ (pOn_ k f e g key day) n 0 = -1) (hy : fo_ (nx_ k f g key day) n 0 (-1) = -1) : f_X4_cover key day (k, f, e, v, i, g, nI n) = some (nI n, (upd k n key, upd f n day, upd e n 1000, upd v n 0, upd i n 1, upd g n 0, nI (n + 1))) := by
  unfold f_X4_cover
  dsimp only
  rw [onDay_I (by omega), bd_s, hx, if_pos rfl, next_I (by omega), bd_s, hy, if_pos rfl, if_pos rfl, make_I hn, bd_s]
theorem cover_b {l : Nat} (hn : n < 60) (hl : l < n) (hx : fs_ (pOn_ k f e g key day) n 0 = -1) (hy : fo_ (nx_ k f g key day) n 0 (-1) = nI l) (hi : i l = 0) : f_X4_cover key day (k, f, e, v, i, g, nI n) = some (nI n, (upd k n key, upd f n day, upd e n (f l), upd v n 0, upd i n 1, upd g n 0, nI (n + 1))) := by
  have hm := m1_ne (show l < 2 ^ 31 by omega)
  unfold f_X4_cover
  dsimp only
  rw [onDay_I (by omega), bd_s, hx, if_pos rfl, next_I (by omega), bd_s, hy, if_neg (by rw [hm]; exact fun h => h), gd_I (by omega) (by omega), cl_I (by omega), if_pos hi, if_neg (by rw [hm]; exact fun h => h), gd_I (by omega) (by omega), make_I hn, bd_s]
theorem cover_F (hn : n = 60) (hx : fs_ (pOn_ k f e g key day) n 0 = -1) (hy : fo_ (nx_ k f g key day) n 0 (-1) = -1 ∨ ∃ l, l < n ∧ fo_ (nx_ k f g key day) n 0 (-1) = nI l ∧ i l = 0) : f_X4_cover key day (k, f, e, v, i, g, nI n) = some (-1, (k, f, e, v, i, g, nI n)) := by
  unfold f_X4_cover
  dsimp only
  rw [onDay_I (by omega), bd_s, hx, if_pos rfl, next_I (by omega), bd_s]
  rcases hy with hy | ⟨l, hl, hy, hi⟩
  · rw [hy, if_pos rfl, if_pos rfl, make_F hn, bd_s]
  · have hm := m1_ne (show l < 2 ^ 31 by omega)
    rw [hy, if_neg (by rw [hm]; exact fun h => h), gd_I (by omega) (by omega), cl_I (by omega), if_pos hi, if_neg (by rw [hm]; exact fun h => h), gd_I (by omega) (by omega), make_F hn, bd_s]
variable {val : Int32}
theorem put_1 {j : Nat} (hn : n ≤ 60) (hj : j < n) (hg : g j = 0) (hx : fs_ (pOn_ k f e g key day) n 0 = nI j) (hd : f j = day) : f_X4_put key day val (k, f, e, v, i, g, nI n) = some (nI j, (k, f, e, upd v j val, upd i j 0, g, nI n)) := by
  have hm := m1_ne (show j < 2 ^ 31 by omega)
  unfold f_X4_put
  dsimp only
  rw [onDay_I hn, bd_s, hx, if_neg (by rw [hm]; exact fun h => h), gd_I (by omega) (by omega), cl_I (by omega), if_pos (by rw [hd]; exact Int32.le_refl _), if_neg (by rw [hm]; exact fun h => h), settle_I hn hj hg, bd_s]
theorem put_2 {j : Nat} (hn : n ≤ 60) (hj : j < n) (hx : fs_ (pOn_ k f e g key day) n 0 = nI j) (hd : f j < day) (hi : i j = 0) (hv : v j = val) : f_X4_put key day val (k, f, e, v, i, g, nI n) = some (nI j, (k, f, e, v, i, g, nI n)) := by
  have hm := m1_ne (show j < 2 ^ 31 by omega)
  unfold f_X4_put
  dsimp only
  rw [onDay_I hn, bd_s, hx, if_neg (by rw [hm]; exact fun h => h), gd_I (by omega) (by omega), cl_I (by omega), if_neg (Int32.not_le.mpr hd), gd_I (by omega) (by omega), if_pos hi, gd_I (by omega) (by omega), if_pos hv]
theorem put_3 {j : Nat} (hn : n < 60) (hj : j < n) (hx : fs_ (pOn_ k f e g key day) n 0 = nI j) (hd : f j < day) (hi : ¬ (i j = 0 ∧ v j = val)) : f_X4_put key day val (k, f, e, v, i, g, nI n) = some (nI n, (upd k n (k j), upd f n day, upd (upd e n (e j)) j day, upd (upd v n 0) n val, upd (upd i n 1) n 0, upd g n 0, nI (n + 1))) := by
  have hm := m1_ne (show j < 2 ^ 31 by omega)
  have hm2 := m1_ne (show n < 2 ^ 31 by omega)
  unfold f_X4_put
  dsimp only
  rw [onDay_I (by omega), bd_s, hx, if_neg (by rw [hm]; exact fun h => h), gd_I (by omega) (by omega), cl_I (by omega), if_neg (Int32.not_le.mpr hd), gd_I (by omega) (by omega)]
  by_cases h0 : i j = 0
  · rw [if_pos h0, gd_I (by omega) (by omega), if_neg (fun h => hi ⟨h0, h⟩), split_I hn hj, bd_s]
    dsimp only
    rw [if_neg (by rw [hm2]; exact fun h => h), settle_I (by omega) (Nat.lt_succ_self n) up_s, bd_s]
  · rw [if_neg h0, split_I hn hj, bd_s]
    dsimp only
    rw [if_neg (by rw [hm2]; exact fun h => h), settle_I (by omega) (Nat.lt_succ_self n) up_s, bd_s]
theorem put_3F {j : Nat} (hn : n = 60) (hj : j < n) (hx : fs_ (pOn_ k f e g key day) n 0 = nI j) (hd : f j < day) (hi : ¬ (i j = 0 ∧ v j = val)) : f_X4_put key day val (k, f, e, v, i, g, nI n) = some (-1, (k, f, e, v, i, g, nI n)) := by
  have hm := m1_ne (show j < 2 ^ 31 by omega)
  unfold f_X4_put
  dsimp only
  rw [onDay_I (by omega), bd_s, hx, if_neg (by rw [hm]; exact fun h => h), gd_I (by omega) (by omega), cl_I (by omega), if_neg (Int32.not_le.mpr hd), gd_I (by omega) (by omega)]
  by_cases h0 : i j = 0
  · rw [if_pos h0, gd_I (by omega) (by omega), if_neg (fun h => hi ⟨h0, h⟩), split_F hn hj, bd_s]
    dsimp only
    rw [if_pos rfl]
  · rw [if_neg h0, split_F hn hj, bd_s]
    dsimp only
    rw [if_pos rfl]
theorem put_4 {l : Nat} (hn : n ≤ 60) (hl : l < n) (hg : g l = 0) (hx : fs_ (pOn_ k f e g key day) n 0 = -1) (hy : fo_ (nx_ k f g key day) n 0 (-1) = nI l) (hi : ¬ i l = 0) : f_X4_put key day val (k, f, e, v, i, g, nI n) = some (nI l, (k, upd f l day, e, upd v l val, upd i l 0, g, nI n)) := by
  unfold f_X4_put
  dsimp only
  rw [onDay_I hn, bd_s, hx, if_pos rfl, cover_4 hn hl hx hy hi, bd_s]
  dsimp only
  rw [if_neg (by rw [m1_ne (by omega)]; exact fun h => h), settle_I hn hl hg, bd_s]
theorem put_a (hn : n < 60) (hx : fs_ (pOn_ k f e g key day) n 0 = -1) (hy : fo_ (nx_ k f g key day) n 0 (-1) = -1) : f_X4_put key day val (k, f, e, v, i, g, nI n) = some (nI n, (upd k n key, upd f n day, upd e n 1000, upd (upd v n 0) n val, upd (upd i n 1) n 0, upd g n 0, nI (n + 1))) := by
  unfold f_X4_put
  dsimp only
  rw [onDay_I (by omega), bd_s, hx, if_pos rfl, cover_a hn hx hy, bd_s]
  dsimp only
  rw [if_neg (by rw [m1_ne (by omega)]; exact fun h => h), settle_I (by omega) (Nat.lt_succ_self n) up_s, bd_s]
theorem put_b {l : Nat} (hn : n < 60) (hl : l < n) (hx : fs_ (pOn_ k f e g key day) n 0 = -1) (hy : fo_ (nx_ k f g key day) n 0 (-1) = nI l) (hi : i l = 0) : f_X4_put key day val (k, f, e, v, i, g, nI n) = some (nI n, (upd k n key, upd f n day, upd e n (f l), upd (upd v n 0) n val, upd (upd i n 1) n 0, upd g n 0, nI (n + 1))) := by
  unfold f_X4_put
  dsimp only
  rw [onDay_I (by omega), bd_s, hx, if_pos rfl, cover_b hn hl hx hy hi, bd_s]
  dsimp only
  rw [if_neg (by rw [m1_ne (by omega)]; exact fun h => h), settle_I (by omega) (Nat.lt_succ_self n) up_s, bd_s]
theorem put_F (hn : n = 60) (hx : fs_ (pOn_ k f e g key day) n 0 = -1) (hy : fo_ (nx_ k f g key day) n 0 (-1) = -1 ∨ ∃ l, l < n ∧ fo_ (nx_ k f g key day) n 0 (-1) = nI l ∧ i l = 0) : f_X4_put key day val (k, f, e, v, i, g, nI n) = some (-1, (k, f, e, v, i, g, nI n)) := by
  unfold f_X4_put
  dsimp only
  rw [onDay_I (by omega), bd_s, hx, if_pos rfl, cover_F hn hx hy, bd_s]
  dsimp only
  rw [if_pos rfl]
end
section
variable {k f e v i g G mkept mspare mwas mtext mtold : Nat → Int32} {mhasKept mwasMany manew mthrown mlength mspot mvalue merror mtolds : Int32} {n : Nat} {key day val : Int32}
end
