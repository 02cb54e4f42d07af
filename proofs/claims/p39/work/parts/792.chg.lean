/-! a change and a fact: the law's table and the class's beside each other -/
section
variable {k f e v i g wv : Nat → Int32} {n K key day : Nat} {zv : Nat → Nat → Int32} {val : Int32}
theorem day_in (hW : WV_ k f e i g n) {j : Nat} (hj : j < n) (hg : g j = 0) : ∃ a b : Nat, f j = nI a ∧ e j = nI b ∧ (f j).toInt = (a : Int) ∧ (e j).toInt = (b : Int) ∧ a < b ∧ b ≤ 1000 := by
  have h := hW.2.2.1 j hj hg
  obtain ⟨a, ha, h1, h2⟩ := toI (x := f j) h.2.2.1
  obtain ⟨b, hb, h3, h4⟩ := toI (x := e j) (by omega)
  exact ⟨a, b, h1, h3, h2, h4, by omega, by omega⟩
theorem free_b {a b : Nat} {l : Nat} (hd : a < 1000) (hno : ∀ j, j < n → ¬ (g j = 0 ∧ k j = nI key ∧ f j ≤ nI a ∧ nI a < e j)) (hf : (f l).toInt = (b : Int)) (hmin : ∀ j, j < n → g j = 0 → k j = nI key → nI a < f j → f l ≤ f j) : ∀ j, j < n → g j = 0 → k j = nI key → (e j).toInt ≤ (a : Int) ∨ (b : Int) ≤ (f j).toInt := by
  intro j hj hg hk
  by_cases q : nI a < f j
  · right
    have := hmin j hj hg hk q
    rw [Int32.le_iff_toInt_le] at this
    omega
  · left
    have h2 : ¬ nI a < e j := fun z => hno j hj ⟨hg, hk, Int32.not_lt.mp q, z⟩
    have h3 := Int32.not_lt.mp h2
    rwa [Int32.le_iff_toInt_le, nI_toInt (by omega)] at h3
theorem free_a {a : Nat} (hd : a < 1000) (hno : ∀ j, j < n → ¬ (g j = 0 ∧ k j = nI key ∧ f j ≤ nI a ∧ nI a < e j)) (hall : ∀ j, j < n → g j = 0 → k j = nI key → f j ≤ nI a) : ∀ j, j < n → g j = 0 → k j = nI key → (e j).toInt ≤ (a : Int) ∨ ((1000 : Nat) : Int) ≤ (f j).toInt := by
  intro j hj hg hk
  left
  have h2 : ¬ nI a < e j := fun z => hno j hj ⟨hg, hk, hall j hj hg hk, z⟩
  have h3 := Int32.not_lt.mp h2
  rwa [Int32.le_iff_toInt_le, nI_toInt (by omega)] at h3
/-- the next version's first day, as the law's days show it -/
theorem next_days (hJ : JV_ K k f e v i g n zv wv) (hk : key < K) (hd : day < 1000) {b : Nat} (hb : b ≤ 1000) (hab : day < b) (hs : ∀ j, j < n → g j = 0 → k j = nI key → (e j).toInt ≤ (day : Int) ∨ (b : Int) ≤ (f j).toInt) : ∀ t, day < t → t < b → zv key t < 0 := by
  obtain ⟨hW, hKk, hz, hw⟩ := hJ
  intro t h1 h2
  rw [hz key t hk (by omega), dy_lt0 hW.1 (by omega)]
  rintro j hj ⟨q1, q2, q3, q4⟩
  rcases hs j hj q1 q2 with h | h <;> omega
theorem chg_ok (hn : n < 60) (hK : K ≤ 3) (hJ : JV_ K k f e v i g n zv wv) (hk : key < K) (hd : day < 1000) :
    ∃ (n' : Nat) (k' f' e' v' i' g' yv' wv' : Nat → Int32) (r : Int32), n' ≤ n + 1 ∧ f_L_change (nI n) (nI key) (nI day) val (zv key) wv = some (nI n', yv', wv') ∧ f_X4_put (nI key) (nI day) val (k, f, e, v, i, g, nI n) = some (r, (k', f', e', v', i', g', nI n')) ∧ ¬ r = -1 ∧ r = yv' day ∧
      JV_ K k' f' e' v' i' g' n' (rup zv key yv') wv' ∧ ∀ d, d < 1000 → ¬ zv key d = -1 → ¬ yv' d = -1 := by
  have hW := hJ.1
  have hz := hJ.2.2.1
  have hw := hJ.2.2.2
  have hn6 := hW.1
  have tk : (nI key).toInt = (key : Int) := nI_toInt (by omega)
  have td : (nI day).toInt = (day : Int) := nI_toInt (by omega)
  have hzd : zv key day = dy_ k f e g n key day := hz key day hk hd
  rcases on_spec (k := k) (f := f) (e := e) (g := g) (n := n) (nI key) (nI day) with ⟨hx, hno⟩ | ⟨j, hj, hon, hx⟩
  · have hyd : zv key day = -1 := hzd.trans hx
    rcases nx_spec (k := k) (f := f) (g := g) (n := n) (nI key) (nI day) hn6 with ⟨hy, hall⟩ | ⟨l, hl, hy, hgl, hkl, hdl, hmin⟩
    · -- no version behind
      have hs := free_a hd hno hall
      refine ⟨n + 1, _, _, _, _, _, _, fl_ day 1000 (nI n) (zv key), w3_ wv n val 0 (nI key), nI n, by omega, ?_, put_a hn hx hy, nI_m1 (by omega), (fl_i (by omega)).symm, ?_, fun d hd2 h => ?_⟩
      · unfold f_L_change
        rw [gd_I (by omega) (by omega), cl_I (by omega), hyd, if_pos m1_lt0, if_pos m1_lt0, L_next_t (t := 1000) hd (by omega) (by omega) (next_days hJ hk hd (by omega) hd hs) (fun h => by omega), bd_s, if_pos (by decide)]
        exact new_I hn (by omega) (by omega)
      · rw [uu_, uu_]
        exact JV_new (b := 1000) hn hJ hk (by omega) hd (by omega) (Or.inl rfl) hs
      · by_cases q : day ≤ d ∧ d < 1000
        · rw [fl_i q]; exact nI_m1 (by omega)
        · rw [fl_o q]; exact h
    · obtain ⟨b, b2, hfl, -, tf, -, -, hb⟩ := day_in hW hl hgl
      have hdb : day < b := by rw [Int32.lt_iff_toInt_lt, td, tf] at hdl; omega
      have hs := free_b hd hno tf hmin
      have hb9 := hW.2.2.1 l hl hgl
      have hzl : zv key b = nI l := by
        rw [hz key b hk (by omega)]
        exact dyU hW (by omega) hl ⟨hgl, hkl, by omega, by omega⟩
      have hnx : f_L_next (nI day) (zv key) = some (nI b) := L_next_t hd hdb (by omega) (next_days hJ hk hd (by omega) hdb hs) (fun _ => by rw [hzl]; exact nI_pos' (by omega))
      by_cases hi : i l = 0
      · refine ⟨n + 1, _, _, _, _, _, _, fl_ day b (nI n) (zv key), w3_ wv n val 0 (nI key), nI n, by omega, ?_, put_b hn hl hx hy hi, nI_m1 (by omega), (fl_i (by omega)).symm, ?_, fun d hd2 h => ?_⟩
        · unfold f_L_change
          rw [gd_I (by omega) (by omega), cl_I (by omega), hyd, if_pos m1_lt0, if_pos m1_lt0, hnx, bd_s, if_neg (by rw [le_1000 (by omega)]; omega), gd_I (by omega) (by omega), cl_I (by omega), hzl, m3_I, S_I, gd_I (by omega) (by omega), cl_I (by omega), (hw l hl hgl).2, hi, if_neg (by decide)]
          exact new_I hn (by omega) (by omega)
        · rw [uu_, uu_, hfl]
          exact JV_new hn hJ hk (by omega) hdb (by omega) (Or.inl rfl) hs
        · by_cases q : day ≤ d ∧ d < b
          · rw [fl_i q]; exact nI_m1 (by omega)
          · rw [fl_o q]; exact h
      · have hi1 : i l = 1 := (hW.2.1 l hl).2.resolve_left hi
        refine ⟨n, _, _, _, _, _, _, fl_ day b (nI l) (zv key), upd (upd wv (3 * l) val) (3 * l + 1) 0, nI l, by omega, ?_, put_4 hn6 hl hgl hx hy hi, nI_m1 (by omega), (fl_i (by omega)).symm, ?_, fun d hd2 h => ?_⟩
        · unfold f_L_change
          rw [gd_I (by omega) (by omega), cl_I (by omega), hyd, if_pos m1_lt0, if_pos m1_lt0, hnx, bd_s, if_neg (by rw [le_1000 (by omega)]; omega), gd_I (by omega) (by omega), cl_I (by omega), hzl, m3_I, S_I, gd_I (by omega) (by omega), cl_I (by omega), (hw l hl hgl).2, hi1, if_pos rfl, gd_I (by omega) (by omega), L_fill_I (by omega) (by omega), bd_s, gd_I (by omega) (by omega), cl_I (by omega), nm_s, gd_I (by omega) (by omega), nm_s]
        · exact JV_settle (JV_first hJ hl hgl hkl hk (by omega) tf hdb (fun a ha h => hno a ha ⟨h.1, h.2.1.trans hkl, h.2.2⟩) (fun a ha h1 h2 h3 => hmin a ha h1 (h2.trans hkl) h3))
        · by_cases q : day ≤ d ∧ d < b
          · rw [fl_i q]; exact nI_m1 (by omega)
          · rw [fl_o q]; exact h
  · have hyd : zv key day = nI j := hzd.trans hx
    obtain ⟨hg, hkj, hfj, hej⟩ := id hon
    obtain ⟨a, b, hfa, heb, tf, te, hab, hb⟩ := day_in hW hj hg
    have h1 : a ≤ day := by rw [Int32.le_iff_toInt_le, tf, td] at hfj; omega
    have h2 : day < b := by rw [Int32.lt_iff_toInt_lt, te, td] at hej; omega
    have hwj := hw j hj hg
    by_cases hd0 : a = day
    · have hfd : f j = nI day := by rw [hfa, hd0]
      refine ⟨n, _, _, _, _, _, _, zv key, upd (upd wv (3 * j) val) (3 * j + 1) 0, nI j, by omega, ?_, put_1 hn6 hj hg hx hfd, nI_m1 (by omega), hyd.symm, ?_, fun d hd2 h => h⟩
      · unfold f_L_change
        rw [gd_I (by omega) (by omega), cl_I (by omega), hyd, if_neg (nI_pos (by omega))]
        by_cases h0 : day = 0
        · subst h0
          rw [if_pos (show nI 0 = 0 from rfl), m3_I, S_I, gd_I (by omega) (by omega), cl_I (by omega), nm_s, gd_I (by omega) (by omega), cl_I (by omega), nm_s]
        · have hp : ¬ zv key (day - 1) = nI j := by
            rw [hz key (day - 1) hk (by omega)]
            intro q
            have h9 := (dyI hn6 (by omega) (by omega) q).2.2.2.1
            omega
          rw [if_neg (nI_ne0 (by omega) (by omega)), P_I (by omega), gd_I (by omega) (by omega), cl_I (show day - 1 < 2 ^ 31 by omega), if_neg hp, m3_I, S_I, gd_I (by omega) (by omega), cl_I (by omega), nm_s, gd_I (by omega) (by omega), cl_I (by omega), nm_s]
      · rw [rup_id]
        exact JV_settle hJ
    · have h0 : 0 < day := by omega
      have hp : zv key (day - 1) = nI j := by
        rw [hz key (day - 1) hk (by omega)]
        exact dyU hW (by omega) hj ⟨hg, hkj, by omega, by omega⟩
      have hlt : f j < nI day := by rw [Int32.lt_iff_toInt_lt, tf, td]; omega
      have hrun : ∀ d, day ≤ d → d < b → zv key d = nI j := fun d h3 h4 => by
        rw [hz key d hk (by omega)]
        exact dyU hW (by omega) hj ⟨hg, hkj, by omega, by omega⟩
      have hend : b < 1000 → ¬ zv key b = nI j := fun h3 q => by
        rw [hz key b hk (by omega)] at q
        have h9 := (dyI hn6 (by omega) (by omega) q).2.2.2.2
        omega
      have hL := chg_L (l5 := val) (key := key) (wv := wv) hn (Nat.le_of_lt h2) (by omega) hrun hend (b - day) fu_ day (by omega) (by unfold fu_; omega) (Nat.le_refl _)
      by_cases hiv : i j = 0 ∧ v j = val
      · refine ⟨n, k, f, e, v, i, g, zv key, wv, nI j, by omega, ?_, put_2 hn6 hj hx hlt hiv.1 hiv.2, nI_m1 (by omega), hyd.symm, ?_, fun d hd2 h => h⟩
        · unfold f_L_change
          rw [gd_I (by omega) (by omega), cl_I (by omega), hyd, if_neg (nI_pos (by omega)), if_neg (nI_ne0 (by omega) (by omega)), P_I (by omega), gd_I (by omega) (by omega), cl_I (show day - 1 < 2 ^ 31 by omega), if_pos hp, if_neg (nI_pos (by omega)), m3_I, S_I, gd_I (by omega) (by omega), cl_I (by omega), hwj.2, if_pos hiv.1, gd_I (by omega) (by omega), cl_I (by omega), hwj.1, if_pos hiv.2]
        · rw [rup_id]; exact hJ
      · refine ⟨n + 1, _, _, _, _, _, _, fl_ day b (nI n) (zv key), w3_ wv n val 0 (nI key), nI n, by omega, ?_, put_3 hn hj hx hlt hiv, nI_m1 (by omega), (fl_i (by omega)).symm, ?_, fun d hd2 h => ?_⟩
        · unfold f_L_change
          rw [gd_I (by omega) (by omega), cl_I (by omega), hyd, if_neg (nI_pos (by omega)), if_neg (nI_ne0 (by omega) (by omega)), P_I (by omega), gd_I (by omega) (by omega), cl_I (show day - 1 < 2 ^ 31 by omega), if_pos hp, if_neg (nI_pos (by omega)), m3_I, S_I, gd_I (by omega) (by omega), cl_I (by omega), hwj.2]
          by_cases hi : i j = 0
          · rw [if_pos hi, gd_I (by omega) (by omega), cl_I (by omega), hwj.1, if_neg (fun q => hiv ⟨hi, q⟩)]
            exact hL
          · rw [if_neg hi]
            exact hL
        · have e1 : upd (upd e n (e j)) j (nI day) = upd (upd e j (nI day)) n (e j) := by
            funext a
            by_cases q : a = j
            · subst q; rw [up_s, up_n (by omega), up_s]
            · by_cases q2 : a = n
              · subst q2; rw [up_n q, up_s, up_s]
              · rw [up_n q, up_n q2, up_n q2, up_n q]
          have hE := JV_end hJ hj hg hkj hk (by omega) heb (a := day) (by omega) (Nat.le_of_lt h2) hb
          have hN := JV_new (x := val) (y := 0) (z := nI key) hn hE hk (by omega) h2 hb (Or.inl rfl) (fun l hl hgl hkl => ?_)
          · rw [rup_rup, rup_s, fl_fl] at hN
            rw [uu_, uu_, e1, hkj, heb]
            exact hN
          · by_cases q : l = j
            · subst q; left; rw [up_s, td]; omega
            · rw [up_n q]
              rcases hW.2.2.2 l j hl hj q hgl hg (hkl.trans hkj.symm) with h | h
              · left; omega
              · right; omega
        · by_cases q : day ≤ d ∧ d < b
          · rw [fl_i q]; exact nI_m1 (by omega)
          · rw [fl_o q]; exact h
theorem fact_ok (hn : n < 60) (hK : K ≤ 3) (hJ : JV_ K k f e v i g n zv wv) (hk : key < K) (hd : day < 1000) :
    ∃ (n' : Nat) (k' f' e' v' i' g' yv' wv' : Nat → Int32) (r : Int32), n' ≤ n + 1 ∧ f_L_fact (nI n) (nI key) (nI day) (zv key) wv = some (nI n', yv', wv') ∧ f_X4_cover (nI key) (nI day) (k, f, e, v, i, g, nI n) = some (r, (k', f', e', v', i', g', nI n')) ∧ ¬ r = -1 ∧ r = yv' day ∧
      JV_ K k' f' e' v' i' g' n' (rup zv key yv') wv' ∧ ∀ d, d < 1000 → ¬ zv key d = -1 → ¬ yv' d = -1 := by
  have hW := hJ.1
  have hz := hJ.2.2.1
  have hw := hJ.2.2.2
  have hn6 := hW.1
  have tk : (nI key).toInt = (key : Int) := nI_toInt (by omega)
  have td : (nI day).toInt = (day : Int) := nI_toInt (by omega)
  have hzd : zv key day = dy_ k f e g n key day := hz key day hk hd
  rcases on_spec (k := k) (f := f) (e := e) (g := g) (n := n) (nI key) (nI day) with ⟨hx, hno⟩ | ⟨j, hj, hon, hx⟩
  · have hyd : zv key day = -1 := hzd.trans hx
    rcases nx_spec (k := k) (f := f) (g := g) (n := n) (nI key) (nI day) hn6 with ⟨hy, hall⟩ | ⟨l, hl, hy, hgl, hkl, hdl, hmin⟩
    · have hs := free_a hd hno hall
      refine ⟨n + 1, _, _, _, _, _, _, fl_ day 1000 (nI n) (zv key), w3_ wv n 0 1 (nI key), nI n, by omega, ?_, cover_a hn hx hy, nI_m1 (by omega), (fl_i (by omega)).symm, ?_, fun d hd2 h => ?_⟩
      · unfold f_L_fact
        rw [gd_I (by omega) (by omega), cl_I (by omega), hyd, if_pos m1_lt0, L_next_t (t := 1000) hd (by omega) (by omega) (next_days hJ hk hd (by omega) hd hs) (fun h => by omega), bd_s, if_pos (by decide)]
        exact new_I hn (by omega) (by omega)
      · exact JV_new (b := 1000) hn hJ hk (by omega) hd (by omega) (Or.inr rfl) hs
      · by_cases q : day ≤ d ∧ d < 1000
        · rw [fl_i q]; exact nI_m1 (by omega)
        · rw [fl_o q]; exact h
    · obtain ⟨b, b2, hfl, -, tf, -, -, hb⟩ := day_in hW hl hgl
      have hdb : day < b := by rw [Int32.lt_iff_toInt_lt, td, tf] at hdl; omega
      have hs := free_b hd hno tf hmin
      have hb9 := hW.2.2.1 l hl hgl
      have hzl : zv key b = nI l := by
        rw [hz key b hk (by omega)]
        exact dyU hW (by omega) hl ⟨hgl, hkl, by omega, by omega⟩
      have hnx : f_L_next (nI day) (zv key) = some (nI b) := L_next_t hd hdb (by omega) (next_days hJ hk hd (by omega) hdb hs) (fun _ => by rw [hzl]; exact nI_pos' (by omega))
      by_cases hi : i l = 0
      · refine ⟨n + 1, _, _, _, _, _, _, fl_ day b (nI n) (zv key), w3_ wv n 0 1 (nI key), nI n, by omega, ?_, cover_b hn hl hx hy hi, nI_m1 (by omega), (fl_i (by omega)).symm, ?_, fun d hd2 h => ?_⟩
        · unfold f_L_fact
          rw [gd_I (by omega) (by omega), cl_I (by omega), hyd, if_pos m1_lt0, hnx, bd_s, if_neg (by rw [le_1000 (by omega)]; omega), gd_I (by omega) (by omega), cl_I (by omega), hzl, m3_I, S_I, gd_I (by omega) (by omega), cl_I (by omega), (hw l hl hgl).2, hi, if_neg (by decide)]
          exact new_I hn (by omega) (by omega)
        · rw [hfl]
          exact JV_new hn hJ hk (by omega) hdb (by omega) (Or.inr rfl) hs
        · by_cases q : day ≤ d ∧ d < b
          · rw [fl_i q]; exact nI_m1 (by omega)
          · rw [fl_o q]; exact h
      · have hi1 : i l = 1 := (hW.2.1 l hl).2.resolve_left hi
        refine ⟨n, _, _, _, _, _, _, fl_ day b (nI l) (zv key), wv, nI l, by omega, ?_, cover_4 hn6 hl hx hy hi, nI_m1 (by omega), (fl_i (by omega)).symm, ?_, fun d hd2 h => ?_⟩
        · unfold f_L_fact
          rw [gd_I (by omega) (by omega), cl_I (by omega), hyd, if_pos m1_lt0, hnx, bd_s, if_neg (by rw [le_1000 (by omega)]; omega), gd_I (by omega) (by omega), cl_I (by omega), hzl, m3_I, S_I, gd_I (by omega) (by omega), cl_I (by omega), (hw l hl hgl).2, hi1, if_pos rfl, gd_I (by omega) (by omega), L_fill_I (by omega) (by omega), bd_s]
        · exact JV_first hJ hl hgl hkl hk (by omega) tf hdb (fun a ha h => hno a ha ⟨h.1, h.2.1.trans hkl, h.2.2⟩) (fun a ha h1 h2 h3 => hmin a ha h1 (h2.trans hkl) h3)
        · by_cases q : day ≤ d ∧ d < b
          · rw [fl_i q]; exact nI_m1 (by omega)
          · rw [fl_o q]; exact h
  · have hyd : zv key day = nI j := hzd.trans hx
    refine ⟨n, k, f, e, v, i, g, zv key, wv, nI j, by omega, ?_, cover_0 hn6 hj hx, nI_m1 (by omega), hyd.symm, by rw [rup_id]; exact hJ, fun d hd2 h => h⟩
    unfold f_L_fact
    rw [gd_I (by omega) (by omega), cl_I (by omega), hyd, if_neg (nI_pos (by omega))]
end
