/-! joining -/
section
variable {k f e v i g G : Nat → Int32} {n : Nat} {key : Int32}
theorem WV_merge {a b : Nat} (hW : WV_ k f e i g n) (ha : a < n) (hb : b < n) (hab : a ≠ b) (hga : g a = 0) (hgb : g b = 0) (hk : k a = k b) (he : (e a).toInt = (f b).toInt) : WV_ k f (upd e a (e b)) i (upd g b 1) n := by
  have hrb := hW.2.2.1 b hb hgb
  have hra := hW.2.2.1 a ha hga
  have key : ∀ l, l < n → a ≠ l → b ≠ l → g l = 0 → k a = k l → (e b).toInt ≤ (f l).toInt ∨ (e l).toInt ≤ (f a).toInt := by
    intro l hl hal hbl hgl hkl
    have hrl := hW.2.2.1 l hl hgl
    have h1 := hW.2.2.2 a l ha hl hal hga hgl hkl
    have h2 := hW.2.2.2 b l hb hl hbl hgb hgl (hk.symm.trans hkl)
    omega
  have hz : ∀ j, j ≠ b → upd g b 1 j = g j := fun j h => up_n h
  have hnb : ∀ j, upd g b 1 j = 0 → j ≠ b := fun j h e => by rw [e, up_s] at h; exact absurd h (by decide)
  refine ⟨hW.1, fun j hj => ⟨?_, (hW.2.1 j hj).2⟩, fun j hj h => ?_, fun j l hj hl hjl h1 h2 h3 => ?_⟩
  · by_cases h : j = b
    · subst h
      rw [up_s]
      exact Or.inr rfl
    · rw [hz j h]
      exact (hW.2.1 j hj).1
  · have hj9 := hnb j h
    rw [hz j hj9] at h
    have hr := hW.2.2.1 j hj h
    by_cases hja : j = a
    · subst hja
      rw [up_s]
      omega
    · rw [up_n hja]
      exact hr
  · have hj9 := hnb j h1
    have hl9 := hnb l h2
    rw [hz j hj9] at h1
    rw [hz l hl9] at h2
    by_cases hja : j = a
    · subst hja
      rw [up_s, up_n (fun e => hjl e.symm)]
      exact key l hl hjl (fun e => hl9 e.symm) h2 h3
    · rw [up_n hja]
      by_cases hla : l = a
      · subst hla
        rw [up_s]
        exact (key j hj (fun e => hja e.symm) (fun e => hj9 e.symm) h1 h3.symm).symm
      · rw [up_n hla]
        exact hW.2.2.2 j l hj hl hjl h1 h2 h3
theorem WV_drop {b : Nat} (hW : WV_ k f e i g n) : WV_ k f e i (upd g b 1) n := by
  have hz : ∀ j, j ≠ b → upd g b 1 j = g j := fun j h => up_n h
  have hnb : ∀ j, upd g b 1 j = 0 → j ≠ b := fun j h e => by rw [e, up_s] at h; exact absurd h (by decide)
  refine ⟨hW.1, fun j hj => ⟨?_, (hW.2.1 j hj).2⟩, fun j hj h => ?_, fun j l hj hl hjl h1 h2 h3 => ?_⟩
  · by_cases h : j = b
    · subst h
      rw [up_s]
      exact Or.inr rfl
    · rw [hz j h]
      exact (hW.2.1 j hj).1
  · have hj9 := hnb j h
    rw [hz j hj9] at h
    exact hW.2.2.1 j hj h
  · rw [hz j (hnb j h1)] at h1
    rw [hz l (hnb l h2)] at h2
    exact hW.2.2.2 j l hj hl hjl h1 h2 h3
theorem RV_drop {b : Nat} (hn : n ≤ 60) (hb : b < n) (hV : RV_ k f e v i g n G) : RV_ k f e v i (upd g b 1) n (upd G (10 + b) 0) := by
  refine ⟨by rw [up_n (by omega)]; exact hV.1, fun j hj => ?_⟩
  obtain ⟨h1, h2, h3, h4, h5, h6⟩ := hV.2 j hj
  rw [up_n (show 70 + j ≠ 10 + b by omega), up_n (show 130 + j ≠ 10 + b by omega), up_n (show 190 + j ≠ 10 + b by omega), up_n (show 250 + j ≠ 10 + b by omega), up_n (show 310 + j ≠ 10 + b by omega)]
  refine ⟨?_, h2, h3, h4, h5, h6⟩
  by_cases h : j = b
  · subst h
    rw [up_s, up_s]
    rfl
  · rw [up_n (by omega), up_n h]
    exact h1
theorem OV_alive {b : Nat} {x : Int32} (hb : b < 60) : OV_ G (upd G (10 + b) x) := fun q hq => up_n (by omega)
theorem OV_endx {b : Nat} {x : Int32} (hb : b < 60) : OV_ G (upd G (190 + b) x) := fun q hq => up_n (by omega)
theorem OV_trans {G H K : Nat → Int32} (h1 : OV_ G H) (h2 : OV_ H K) : OV_ G K := fun q hq => (h2 q hq).trans (h1 q hq)
theorem OV_rfl : OV_ G G := fun _ _ => rfl
theorem cv_merge {a b : Nat} {K D : Int32} (ha : a < n) (hab : a ≠ b) (hga : g a = 0) (hk : k a = k b) (he : e a = f b) (hf : f a < e a) (hb : f b < e b) (h : cv_ k f e g n K D) : cv_ k f (upd e a (e b)) (upd g b 1) n K D := by
  obtain ⟨j, hj, h1, h2, h3, h4⟩ := h
  by_cases hja : j = a
  · subst hja
    exact ⟨j, hj, by rw [up_n hab]; exact h1, h2, h3, by rw [up_s]; exact Int32.lt_trans h4 (by rw [he]; exact hb)⟩
  · by_cases hjb : j = b
    · subst hjb
      exact ⟨a, ha, by rw [up_n hab]; exact hga, hk.trans h2, Int32.le_of_lt (Int32.lt_of_lt_of_le hf (by rw [he]; exact h3)), by rw [up_s]; exact h4⟩
    · exact ⟨j, hj, by rw [up_n hjb]; exact h1, h2, h3, by rw [up_n hja]; exact h4⟩
theorem mn_drop {b : Nat} (hb : b < n) (hB : g b = 0 ∧ k b = key) : mn_ k g n key = mn_ k (upd g b 1) n key + 1 := by
  unfold mn_
  refine cf_one (x := b) n 0 (Nat.zero_le _) (by omega) (dec_f (fun h => by rw [up_s] at h; exact absurd h.1 (by decide))) (dec_t hB) (fun j _ _ h => ?_)
  rw [up_n h]
theorem rk_drop {b : Nat} {x : Int32} (h : x ≤ f b) : rk_ k f (upd g b 1) n key x = rk_ k f g n key x := by
  unfold rk_
  refine cf_congr n 0 (fun j _ _ => ?_)
  by_cases hj : j = b
  · subst hj
    rw [dec_f (fun h1 => absurd h1.2 (Int32.not_lt.mpr h)), dec_f (fun h1 => absurd h1.2 (Int32.not_lt.mpr h))]
  · rw [up_n hj]
theorem rk_fle (hW : WV_ k f e i g n) {a b : Nat} (ha : a < n) (hb : b < n) (hA : g a = 0 ∧ k a = key) (hB : g b = 0 ∧ k b = key) (h : rk_ k f g n key (f a) < rk_ k f g n key (f b)) : f a < f b := by
  refine Int32.not_le.mp (fun h1 => ?_)
  have := rk_le (k := k) (f := f) (g := g) (n := n) (key := key) h1
  omega
end
section
variable {k f e v i g G mkept mspare mwas mtext mtold : Nat → Int32} {mhasKept mwasMany manew mthrown mlength mspot mvalue merror mtolds : Int32} {n : Nat} {key : Int32}
theorem areAlike_I {a b : Nat} (hn : n ≤ 60) (ha : a < n) (hb : b < n) : f_X4_areAlike (nI a) (nI b) (k, f, e, v, i, g, nI n) = some (if e a = f b ∧ v a = v b ∧ i a = 0 ∧ i b = 0 then 1 else 0) := by
  unfold f_X4_areAlike
  dsimp only
  simp only [gd_I (show a < 60 by omega) (show 60 < 2 ^ 31 by omega), gd_I (show b < 60 by omega) (show 60 < 2 ^ 31 by omega), cl_I (show a < 2 ^ 31 by omega), cl_I (show b < 2 ^ 31 by omega)]
  by_cases h1 : e a = f b
  · by_cases h2 : v a = v b
    · by_cases h3 : i a = 0
      · by_cases h4 : i b = 0
        · rw [if_pos h1, if_pos h2, if_pos h3, if_pos h4, if_pos ⟨h1, h2, h3, h4⟩]
        · rw [if_pos h1, if_pos h2, if_pos h3, if_neg h4, if_neg (fun h => h4 h.2.2.2)]
      · rw [if_pos h1, if_pos h2, if_neg h3, if_neg (fun h => h3 h.2.2.1)]
    · rw [if_pos h1, if_neg h2, if_neg (fun h => h2 h.2.1)]
  · rw [if_neg h1, if_neg (fun h => h1 h.1)]
theorem M_joins {a b : Nat} (hn : n ≤ 60) (hV : RV_ k f e v i g n G) (ha : a < n) (hb : b < n) : f_X6_joins (nI a) (nI b) (G, mkept, mspare, mhasKept, mwas, mwasMany, manew, mthrown, mtext, mlength, mspot, mvalue, merror, mtold, mtolds) = some (if e a = f b ∧ v a = v b ∧ i a = 0 ∧ i b = 0 then 1 else 0) := by
  unfold f_X6_joins
  dsimp only
  obtain ⟨-, -, p3, p4, p5, p6⟩ := hV.2 a ha
  obtain ⟨-, -, q3, q4, q5, q6⟩ := hV.2 b hb
  simp only [of_130, of_190, of_250, of_310]
  simp only [gd_I (show 190 + a < 610 by omega) (show 610 < 2 ^ 31 by omega), gd_I (show 130 + b < 610 by omega) (show 610 < 2 ^ 31 by omega), gd_I (show 310 + a < 610 by omega) (show 610 < 2 ^ 31 by omega), gd_I (show 310 + b < 610 by omega) (show 610 < 2 ^ 31 by omega), gd_I (show 250 + a < 610 by omega) (show 610 < 2 ^ 31 by omega), gd_I (show 250 + b < 610 by omega) (show 610 < 2 ^ 31 by omega), cl_I (show 190 + a < 2 ^ 31 by omega), cl_I (show 130 + b < 2 ^ 31 by omega), cl_I (show 310 + a < 2 ^ 31 by omega), cl_I (show 310 + b < 2 ^ 31 by omega), cl_I (show 250 + a < 2 ^ 31 by omega), cl_I (show 250 + b < 2 ^ 31 by omega), p4, p5, p6, q3, q5, q6]
  by_cases h1 : e a = f b
  · by_cases h2 : v a = v b
    · by_cases h3 : i a = 0
      · by_cases h4 : i b = 0
        · rw [if_pos h1, if_pos h3, if_pos h4, if_pos h2, if_pos ⟨h1, h2, h3, h4⟩]
        · rw [if_pos h1, if_pos h3, if_neg h4, if_neg (fun h => h4 h.2.2.2)]
      · rw [if_pos h1, if_neg h3, if_neg (fun h => h3 h.2.2.1)]
    · rw [if_pos h1, if_neg (show ¬ (e a = f b ∧ v a = v b ∧ i a = 0 ∧ i b = 0) from fun h => h2 h.2.1)]
      by_cases h3 : i a = 0
      · rw [if_pos h3]
        by_cases h4 : i b = 0
        · rw [if_pos h4, if_neg h2]
        · rw [if_neg h4]
      · rw [if_neg h3]
  · rw [if_neg h1, if_neg (fun h => h1 h.1)]
theorem merge_I {a b : Nat} (hn : n ≤ 60) (ha : a < n) (hb : b < n) (hga : g a = 0) (hgb : g b = 0) : f_X4_merge (nI a) (nI b) (k, f, e, v, i, g, nI n) = some (k, f, upd e a (e b), v, i, upd g b 1, nI n) := by
  unfold f_X4_merge
  dsimp only
  rw [has_I hn ha, bd_s, if_pos hga, if_neg (by decide), has_I hn hb, bd_s, if_pos hgb, if_neg (by decide)]
  simp only [gd_I (show a < 60 by omega) (show 60 < 2 ^ 31 by omega), gd_I (show b < 60 by omega) (show 60 < 2 ^ 31 by omega), cl_I (show a < 2 ^ 31 by omega), cl_I (show b < 2 ^ 31 by omega), nm_s]
  rfl
theorem join_end {m : Nat} {s J : Int32} : f_X4_joinAlike_L12 (m + 1) s (-1) J key (k, f, e, v, i, g, nI n) = some (J, (k, f, e, v, i, g, nI n)) := by
  rw [e_X4_joinAlike_L12]
  unfold f_X4_joinAlike_S12
  dsimp only
  by_cases h : nI n ≤ s
  · rw [if_pos h]
  · rw [if_neg h, if_pos rfl]
theorem M_join_end {t m : Nat} {J : Int32} (hn : n ≤ 60) (hV : RV_ k f e v i g n G) (ht : t ≤ n) (h : mn_ k g n key ≤ t + 1) : f_X6_join_L26 (m + 1) (nI t) J key (G, mkept, mspare, mhasKept, mwas, mwasMany, manew, mthrown, mtext, mlength, mspot, mvalue, merror, mtold, mtolds) = bd_ (f_X6_ends (G, mkept, mspare, mhasKept, mwas, mwasMany, manew, mthrown, mtext, mlength, mspot, mvalue, merror, mtold, mtolds)) (fun M' => some (J, M')) := by
  have hmn : mn_ k g n key ≤ n := mn_le
  rw [e_X6_join_L26]
  unfold f_X6_join_S26
  dsimp only
  rw [M_manyI hn hV, bd_s, S_I, if_pos (by rw [nI_leI (by omega) (by omega)]; omega)]
theorem join_sim : ∀ c (e g G : Nat → Int32) (t s m1 m2 : Nat) (J : Int32), WV_ k f e i g n → RV_ k f e v i g n G → t ≤ n → mn_ k g n key - t = c → s + c ≤ n → c + 1 < m1 → c < m2 →
    ∃ (e' g' G' : Nat → Int32) (J' : Int32), f_X4_joinAlike_L12 m1 (nI s) (pv_ k f g n key t) J key (k, f, e, v, i, g, nI n) = some (J', (k, f, e', v, i, g', nI n)) ∧ f_X6_join_L26 m2 (nI t) J key (G, mkept, mspare, mhasKept, mwas, mwasMany, manew, mthrown, mtext, mlength, mspot, mvalue, merror, mtold, mtolds) = bd_ (f_X6_ends (G', mkept, mspare, mhasKept, mwas, mwasMany, manew, mthrown, mtext, mlength, mspot, mvalue, merror, mtold, mtolds)) (fun M' => some (J', M')) ∧ WV_ k f e' i g' n ∧ RV_ k f e' v i g' n G' ∧ OV_ G G' ∧ ∀ K D, cv_ k f e g n K D → cv_ k f e' g' n K D := by
  intro c
  induction c with
  | zero =>
    intro e g G t s m1 m2 J hW hV ht hc hs h1 h2
    have hn := hW.1
    obtain ⟨m1, rfl⟩ := ex_S h1
    obtain ⟨m2, rfl⟩ := ex_S h2
    exact ⟨e, g, G, J, by rw [pv_out (by omega)]; exact join_end, M_join_end hn hV ht (by omega), hW, hV, OV_rfl, fun _ _ h => h⟩
  | succ c ih =>
    intro e g G t s m1 m2 J hW hV ht hc hs h1 h2
    have hn := hW.1
    have hmn : mn_ k g n key ≤ n := mn_le
    obtain ⟨m1, rfl⟩ := ex_S h1
    obtain ⟨m2, rfl⟩ := ex_S h2
    obtain ⟨a, ha, hA, hra, hpa⟩ := pv_ex (key := key) hW t (by omega)
    by_cases hlast : mn_ k g n key ≤ t + 1
    · obtain ⟨m1, rfl⟩ := ex_S (show 0 < m1 by omega)
      refine ⟨e, g, G, J, ?_, M_join_end hn hV ht hlast, hW, hV, OV_rfl, fun _ _ h => h⟩
      rw [hpa, e_X4_joinAlike_L12]
      unfold f_X4_joinAlike_S12
      dsimp only
      rw [if_neg (by rw [nI_leI (by omega) (by omega)]; omega), if_neg (by rw [m1_ne (by omega)]; exact fun h => h), gd_I (by omega) (by omega), cl_I (by omega), next_I hn, bd_s, nx_pv hW ha hA, hra, pv_out (t := t + 1) hlast, if_pos rfl, join_end]
    · obtain ⟨b, hb, hB, hrb, hpb⟩ := pv_ex (key := key) hW (t + 1) (by omega)
      have hnx : fo_ (nx_ k f g key (f a)) n 0 (-1) = nI b := by rw [nx_pv hW ha hA, hra, hpb]
      have hfab : f a < f b := rk_fle hW ha hb hA hB (by omega)
      have hab : a ≠ b := fun h => by rw [h] at hfab; exact Int32.lt_irrefl hfab
      by_cases al : e a = f b ∧ v a = v b ∧ i a = 0 ∧ i b = 0
      · have ra := hW.2.2.1 a ha hA.1
        have rb := hW.2.2.1 b hb hB.1
        have hW' := WV_merge hW ha hb hab hA.1 hB.1 (hA.2.trans hB.2.symm) (by rw [al.1])
        have hV' := RV_drop (b := b) hn hb (RV_end (d := e b) hn ha hV)
        have hmd := mn_drop hb hB
        have hA' : upd g b 1 a = 0 ∧ k a = key := ⟨by rw [up_n hab]; exact hA.1, hA.2⟩
        have hp' := pv_some hW' ha hA'
        rw [rk_drop (Int32.le_of_lt hfab), hra] at hp'
        obtain ⟨e', g', G', J', c1, c2, c3, c4, c5, c6⟩ := ih (upd e a (e b)) (upd g b 1) (upd (upd G (190 + a) (e b)) (10 + b) 0) t (s + 1) m1 m2 (J + 1) hW' hV' ht (by omega) (by omega) (by omega) (by omega)
        rw [hp'] at c1
        refine ⟨e', g', G', J', ?_, ?_, c3, c4, OV_trans (OV_trans (OV_endx (by omega)) (OV_alive (by omega))) c5, fun K D h => c6 K D (cv_merge ha hab hA.1 (hA.2.trans hB.2.symm) al.1 (Int32.lt_iff_toInt_lt.mpr ra.2.2.2.1) (Int32.lt_iff_toInt_lt.mpr rb.2.2.2.1) h)⟩
        · rw [hpa, e_X4_joinAlike_L12]
          unfold f_X4_joinAlike_S12
          dsimp only
          rw [if_neg (by rw [nI_leI (by omega) (by omega)]; omega), if_neg (by rw [m1_ne (by omega)]; exact fun h => h), gd_I (by omega) (by omega), cl_I (by omega), next_I hn, bd_s, hnx, if_neg (by rw [m1_ne (by omega)]; exact fun h => h), areAlike_I hn ha hb, bd_s, if_pos al, if_neg (by decide), merge_I hn ha hb hA.1 hB.1, bd_s, S_I]
          exact c1
        · rw [e_X6_join_L26]
          unfold f_X6_join_S26
          dsimp only
          simp only [S_I]
          rw [M_manyI hn hV, bd_s, if_neg (by rw [nI_leI (by omega) (by omega)]; omega), M_placed_I hn hV (by omega), bd_s, M_placed_I hn hV (by omega), bd_s, hpa, hpb, M_joins hn hV ha hb, bd_s, if_pos al, if_neg (by decide)]
          simp only [of_190, of_10]
          rw [gd_I (by omega) (by omega), gd_I (by omega) (by omega), nm_s, gd_I (by omega) (by omega), nm_s, cl_I (by omega), cl_I (by omega), cl_I (by omega), (hV.2 b hb).2.2.2.1]
          exact c2
      · obtain ⟨e', g', G', J', c1, c2, c3, c4, c5, c6⟩ := ih e g G (t + 1) (s + 1) m1 m2 J hW hV (by omega) (by omega) (by omega) (by omega) (by omega)
        rw [hpb] at c1
        refine ⟨e', g', G', J', ?_, ?_, c3, c4, c5, c6⟩
        · rw [hpa, e_X4_joinAlike_L12]
          unfold f_X4_joinAlike_S12
          dsimp only
          rw [if_neg (by rw [nI_leI (by omega) (by omega)]; omega), if_neg (by rw [m1_ne (by omega)]; exact fun h => h), gd_I (by omega) (by omega), cl_I (by omega), next_I hn, bd_s, hnx, if_neg (by rw [m1_ne (by omega)]; exact fun h => h), areAlike_I hn ha hb, bd_s, if_neg al, if_pos rfl, S_I]
          exact c1
        · rw [e_X6_join_L26]
          unfold f_X6_join_S26
          dsimp only
          simp only [S_I]
          rw [M_manyI hn hV, bd_s, if_neg (by rw [nI_leI (by omega) (by omega)]; omega), M_placed_I hn hV (by omega), bd_s, M_placed_I hn hV (by omega), bd_s, hpa, hpb, M_joins hn hV ha hb, bd_s, if_neg al, if_pos rfl]
          exact c2
end
