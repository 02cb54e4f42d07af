/-! the law's days and the class's versions: what holds between them, and what a new version, a new end, a new beginning do -/
def JV_ (K : Nat) (k f e v i g : Nat → Int32) (n : Nat) (zv : Nat → Nat → Int32) (wv : Nat → Int32) : Prop :=
  WV_ k f e i g n ∧ (∀ j, j < n → g j = 0 → (k j).toInt < (K : Int)) ∧ (∀ key d, key < K → d < 1000 → zv key d = dy_ k f e g n key d) ∧ ∀ j, j < n → g j = 0 → wv (3 * j) = v j ∧ wv (3 * j + 1) = i j
theorem fl_fl {a b : Nat} {x y : Int32} {yv : Nat → Int32} : fl_ a b x (fl_ a b y yv) = fl_ a b x yv := by
  funext d
  by_cases h : a ≤ d ∧ d < b
  · rw [fl_i h, fl_i h]
  · rw [fl_o h, fl_o h, fl_o h]
theorem rup_rup {α : Type} {z : Nat → α} {k : Nat} {v w : α} : rup (rup z k v) k w = rup z k w := by
  funext j
  by_cases h : j = k
  · subst h; rw [rup_s, rup_s]
  · rw [rup_n h, rup_n h, rup_n h]
section
variable {k f e v i g wv : Nat → Int32} {n K key : Nat} {zv : Nat → Nat → Int32}
theorem On_up {j d key' : Nat} {a b c : Int32} (h : j ≠ n) : On_ (upd k n a) (upd f n b) (upd e n c) (upd g n 0) key' d j ↔ On_ k f e g key' d j := by
  unfold On_
  rw [up_n h, up_n h, up_n h, up_n h]
theorem JV_new {a b : Nat} {x y z : Int32} (hn : n < 60) (hJ : JV_ K k f e v i g n zv wv) (hk : key < K) (hK : K ≤ 8) (hab : a < b) (hb : b ≤ 1000) (hy : y = 0 ∨ y = 1)
    (hs : ∀ j, j < n → g j = 0 → k j = nI key → (e j).toInt ≤ (a : Int) ∨ (b : Int) ≤ (f j).toInt) :
    JV_ K (upd k n (nI key)) (upd f n (nI a)) (upd e n (nI b)) (upd v n x) (upd i n y) (upd g n 0) (n + 1) (rup zv key (fl_ a b (nI n) (zv key))) (w3_ wv n x y z) := by
  obtain ⟨hW, hKk, hz, hw⟩ := hJ
  have ta : (nI a).toInt = (a : Int) := nI_toInt (by omega)
  have tb : (nI b).toInt = (b : Int) := nI_toInt (by omega)
  have tk : (nI key).toInt = (key : Int) := nI_toInt (by omega)
  have hW' : WV_ (upd k n (nI key)) (upd f n (nI a)) (upd e n (nI b)) (upd i n y) (upd g n 0) (n + 1) :=
    WV_new hn hW (by rw [tk]; omega) (by rw [ta, tb]; omega) (fun j hj hg hkj => by rw [ta, tb]; exact hs j hj hg hkj) y hy
  refine ⟨hW', fun j hj hg => ?_, fun key' d hk' hd => ?_, fun j hj hg => ?_⟩
  · rcases lt_or_n hj with h | h
    · rw [up_n (by omega)] at hg
      rw [up_n (by omega)]; exact hKk j h hg
    · subst h; rw [up_s, tk]; omega
  · refine (dy_of hW' (by omega) ?_).symm
    by_cases hr : key' = key ∧ a ≤ d ∧ d < b
    · obtain ⟨rfl, hr⟩ := hr
      rw [rup_s, fl_i hr]
      exact Or.inr ⟨n, by omega, ⟨by rw [up_s], by rw [up_s], by rw [up_s, ta]; omega, by rw [up_s, tb]; omega⟩, rfl⟩
    · have ex : rup zv key (fl_ a b (nI n) (zv key)) key' d = zv key' d := by
        by_cases h : key' = key
        · subst h; rw [rup_s, fl_o (fun q => hr ⟨rfl, q⟩)]
        · rw [rup_n h]
      rw [ex, hz key' d hk' hd]
      rcases dyS (k := k) (f := f) (e := e) (g := g) (n := n) (key := key') (show d < 2 ^ 31 by omega) with ⟨h1, h2⟩ | ⟨j, h1, h2, h3⟩
      · refine Or.inl ⟨h1, fun j hj h => ?_⟩
        rcases lt_or_n hj with h4 | h4
        · exact h2 j h4 ((On_up (by omega)).mp h)
        · subst h4
          obtain ⟨-, q2, q3, q4⟩ := h
          rw [up_s] at q2 q3 q4
          rw [ta] at q3
          rw [tb] at q4
          exact hr ⟨(nI_eq (by omega) (by omega)).mp q2.symm, by omega, by omega⟩
      · exact Or.inr ⟨j, by omega, (On_up (by omega)).mpr h2, h3⟩
  · unfold w3_
    rcases lt_or_n hj with h | h
    · rw [up_n (by omega)] at hg
      rw [up_n (by omega), up_n (by omega), up_n (by omega), up_n (by omega), up_n (by omega), up_n (by omega), up_n (by omega), up_n (by omega)]
      exact hw j h hg
    · subst h
      rw [up_n (by omega), up_n (by omega), up_s, up_s, up_n (by omega), up_s, up_s]
      exact ⟨rfl, rfl⟩
theorem JV_end {j a b : Nat} (hJ : JV_ K k f e v i g n zv wv) (hj : j < n) (hg : g j = 0) (hk : k j = nI key) (hkK : key < K) (hK : K ≤ 8) (he : e j = nI b) (ha : (f j).toInt < (a : Int)) (hab : a ≤ b) (hb : b ≤ 1000) :
    JV_ K k f (upd e j (nI a)) v i g n (rup zv key (fl_ a b (-1) (zv key))) wv := by
  obtain ⟨hW, hKk, hz, hw⟩ := hJ
  have h3 := hW.2.2.1 j hj hg
  have tb : (e j).toInt = (b : Int) := by rw [he, nI_toInt (by omega)]
  have ta : (nI a).toInt = (a : Int) := nI_toInt (by omega)
  have hW' : WV_ k f (upd e j (nI a)) i g n := WV_end hW hj (by rw [ta, tb]; omega)
  refine ⟨hW', hKk, fun key' d hk' hd => ?_, hw⟩
  refine (dy_of hW' (by omega) ?_).symm
  have hon : ∀ l, On_ k f (upd e j (nI a)) g key' d l ↔ (On_ k f e g key' d l ∧ ¬ (l = j ∧ a ≤ d)) := by
    intro l
    unfold On_
    by_cases hl : l = j
    · subst hl
      rw [up_s, ta]
      constructor
      · rintro ⟨q1, q2, q3, q4⟩; exact ⟨⟨q1, q2, q3, by omega⟩, by omega⟩
      · rintro ⟨⟨q1, q2, q3, q4⟩, q5⟩; exact ⟨q1, q2, q3, by omega⟩
    · rw [up_n hl]
      exact ⟨fun q => ⟨q, fun r => hl r.1⟩, fun q => q.1⟩
  by_cases hr : key' = key ∧ a ≤ d ∧ d < b
  · obtain ⟨rfl, hr⟩ := hr
    rw [rup_s, fl_i hr]
    refine Or.inl ⟨rfl, fun l hl h => ?_⟩
    have h5 := (hon l).mp h
    have h6 : On_ k f e g key' d j := ⟨hg, hk, by omega, by omega⟩
    exact h5.2 ⟨On_inj hW hl hj h5.1 h6, hr.1⟩
  · have ex : rup zv key (fl_ a b (-1) (zv key)) key' d = zv key' d := by
      by_cases h : key' = key
      · subst h; rw [rup_s, fl_o (fun q => hr ⟨rfl, q⟩)]
      · rw [rup_n h]
    rw [ex, hz key' d hk' hd]
    rcases dyS (k := k) (f := f) (e := e) (g := g) (n := n) (key := key') (show d < 2 ^ 31 by omega) with ⟨h1, h2⟩ | ⟨l, h1, h2, h4⟩
    · exact Or.inl ⟨h1, fun l hl h => h2 l hl ((hon l).mp h).1⟩
    · refine Or.inr ⟨l, h1, (hon l).mpr ⟨h2, fun q => hr ?_⟩, h4⟩
      obtain ⟨rfl, q⟩ := q
      obtain ⟨-, r2, r3, r4⟩ := h2
      have := (nI_eq (by omega) (by omega)).mp (r2.symm.trans hk)
      exact ⟨this, q, by omega⟩
theorem JV_first {l a b : Nat} (hJ : JV_ K k f e v i g n zv wv) (hl : l < n) (hg : g l = 0) (hk : k l = nI key) (hkK : key < K) (hK : K ≤ 8) (hf : (f l).toInt = (b : Int)) (hab : a < b)
    (hfree : ∀ j, j < n → ¬ (g j = 0 ∧ k j = k l ∧ f j ≤ nI a ∧ nI a < e j)) (hmin : ∀ j, j < n → g j = 0 → k j = k l → nI a < f j → f l ≤ f j) :
    JV_ K k (upd f l (nI a)) e v i g n (rup zv key (fl_ a b (nI l) (zv key))) wv := by
  obtain ⟨hW, hKk, hz, hw⟩ := hJ
  have h3 := hW.2.2.1 l hl hg
  have ta : (nI a).toInt = (a : Int) := nI_toInt (by omega)
  have hW' : WV_ k (upd f l (nI a)) e i g n := WV_first hW hl hg (by rw [ta]; omega) hfree hmin
  refine ⟨hW', hKk, fun key' d hk' hd => ?_, hw⟩
  refine (dy_of hW' (by omega) ?_).symm
  by_cases hr : key' = key ∧ a ≤ d ∧ d < b
  · obtain ⟨rfl, hr⟩ := hr
    rw [rup_s, fl_i hr]
    exact Or.inr ⟨l, hl, ⟨hg, hk, by rw [up_s, ta]; omega, by omega⟩, rfl⟩
  · have ex : rup zv key (fl_ a b (nI l) (zv key)) key' d = zv key' d := by
      by_cases h : key' = key
      · subst h; rw [rup_s, fl_o (fun q => hr ⟨rfl, q⟩)]
      · rw [rup_n h]
    have hon : ∀ j, On_ k (upd f l (nI a)) e g key' d j ↔ On_ k f e g key' d j := by
      intro j
      unfold On_
      by_cases hj : j = l
      · subst hj
        rw [up_s, ta]
        constructor
        · rintro ⟨q1, q2, q3, q4⟩
          have := (nI_eq (by omega) (by omega)).mp (q2.symm.trans hk)
          refine ⟨q1, q2, ?_, q4⟩
          by_cases h9 : (f j).toInt ≤ (d : Int)
          · exact h9
          · exact absurd ⟨this, by omega, by omega⟩ hr
        · rintro ⟨q1, q2, q3, q4⟩; exact ⟨q1, q2, by omega, q4⟩
      · rw [up_n hj]
    rw [ex, hz key' d hk' hd]
    rcases dyS (k := k) (f := f) (e := e) (g := g) (n := n) (key := key') (show d < 2 ^ 31 by omega) with ⟨h1, h2⟩ | ⟨j, h1, h2, h4⟩
    · exact Or.inl ⟨h1, fun j hj h => h2 j hj ((hon j).mp h)⟩
    · exact Or.inr ⟨j, h1, (hon j).mpr h2, h4⟩
theorem JV_settle {j : Nat} {x : Int32} (hJ : JV_ K k f e v i g n zv wv) : JV_ K k f e (upd v j x) (upd i j 0) g n zv (upd (upd wv (3 * j) x) (3 * j + 1) 0) := by
  obtain ⟨hW, hKk, hz, hw⟩ := hJ
  refine ⟨WV_settle hW, hKk, hz, fun l hl hg => ?_⟩
  by_cases h : l = j
  · subst h
    rw [up_n (by omega), up_s, up_s, up_s, up_s]
    exact ⟨rfl, rfl⟩
  · simp (disch := omega) only [up_n]
    exact hw l hl hg
end
theorem P_I {a : Nat} (h : 0 < a) : nI a - 1 = nI (a - 1) := by
  have := nI_pred (a - 1)
  rw [Nat.sub_add_cancel h] at this
  exact this
theorem toI {x : Int32} (h0 : 0 ≤ x.toInt) : ∃ t : Nat, t < 2 ^ 31 ∧ x = nI t ∧ x.toInt = (t : Int) := by
  obtain ⟨t, ht, rfl⟩ := I_of h0
  exact ⟨t, ht, rfl, nI_toInt ht⟩
