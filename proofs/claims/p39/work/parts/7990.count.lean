/-! versions, gaps and valid days counted up to a day -/
section
variable {k f e v i g wv : Nat → Int32} {n K key : Nat} {zv : Nat → Nat → Int32}
/-- the versions of a key that begin before a day -/
def rd_ (k f g : Nat → Int32) (n key d : Nat) : Nat := cf_ (fun j => decide ((g j = 0 ∧ k j = nI key) ∧ (f j).toInt < (d : Int))) n 0
/-- its gaps that begin before a day -/
def gd2_ (k f e g : Nat → Int32) (n key d : Nat) : Nat := cf_ (fun j => decide (((g j = 0 ∧ k j = nI key) ∧ e j < nf_ k f g n (k j) (f j)) ∧ (e j).toInt < (d : Int))) n 0
/-- its valid days before a day, version by version -/
def vs_ (k f e g : Nat → Int32) (key d : Nat) : Nat → Nat → Nat
  | 0, _ => 0
  | c + 1, j => (if g j = 0 ∧ k j = nI key then min (e j).toInt.toNat d - min (f j).toInt.toNat d else 0) + vs_ k f e g key d c (j + 1)
theorem rd_rk {a d : Nat} (h : (f a).toInt = (d : Int)) : rk_ k f g n (nI key) (f a) = rd_ k f g n key d := by
  unfold rk_ rd_
  refine cf_congr n 0 (fun j _ _ => decide_eq_decide.mpr ?_)
  rw [Int32.lt_iff_toInt_lt, h]
theorem rd_same (hW : WV_ k f e i g n) {d : Nat} (h : ∀ j, j < n → g j = 0 → k j = nI key → ¬ (f j).toInt = (d : Int)) : rd_ k f g n key (d + 1) = rd_ k f g n key d := by
  unfold rd_
  refine cf_congr n 0 (fun j _ hj => decide_eq_decide.mpr ⟨fun q => ⟨q.1, ?_⟩, fun q => ⟨q.1, by omega⟩⟩)
  have := h j (by omega) q.1.1 q.1.2
  omega
theorem rd_one (hW : WV_ k f e i g n) {d a : Nat} (ha : a < n) (hA : g a = 0 ∧ k a = nI key) (hf : (f a).toInt = (d : Int)) : rd_ k f g n key (d + 1) = rd_ k f g n key d + 1 := by
  unfold rd_
  refine cf_one (x := a) n 0 (Nat.zero_le _) (by omega) (dec_f (fun h => by omega)) (dec_t ⟨hA, by omega⟩) (fun j _ hj hne => ?_)
  refine decide_eq_decide.mpr ⟨fun q => ⟨q.1, by omega⟩, fun q => ⟨q.1, ?_⟩⟩
  have := f_ne hW (show j < n by omega) ha q.1 hA hne
  omega
theorem rd_all (hW : WV_ k f e i g n) : rd_ k f g n key 1000 = mn_ k g n (nI key) := by
  unfold rd_ mn_
  refine cf_congr n 0 (fun j _ hj => decide_eq_decide.mpr ⟨fun q => q.1, fun q => ⟨q, ?_⟩⟩)
  have := hW.2.2.1 j (by omega) q.1
  omega
theorem gd_same {d : Nat} (h : ∀ j, j < n → g j = 0 → k j = nI key → e j < nf_ k f g n (k j) (f j) → ¬ (e j).toInt = (d : Int)) : gd2_ k f e g n key (d + 1) = gd2_ k f e g n key d := by
  unfold gd2_
  refine cf_congr n 0 (fun j _ hj => decide_eq_decide.mpr ⟨fun q => ⟨q.1, ?_⟩, fun q => ⟨q.1, by omega⟩⟩)
  have := h j (by omega) q.1.1.1 q.1.1.2 q.1.2
  omega
theorem e_ne (hW : WV_ k f e i g n) {a b : Nat} (ha : a < n) (hb : b < n) (hA : g a = 0 ∧ k a = nI key) (hB : g b = 0 ∧ k b = nI key) (hab : a ≠ b) : (e a).toInt ≠ (e b).toInt := by
  intro h
  have h1 := hW.2.2.1 a ha hA.1
  have h2 := hW.2.2.1 b hb hB.1
  rcases hW.2.2.2 a b ha hb hab hA.1 hB.1 (hA.2.trans hB.2.symm) with h3 | h3 <;> omega
theorem gd_one (hW : WV_ k f e i g n) {d a : Nat} (ha : a < n) (hA : g a = 0 ∧ k a = nI key) (ho : e a < nf_ k f g n (k a) (f a)) (he : (e a).toInt = (d : Int)) : gd2_ k f e g n key (d + 1) = gd2_ k f e g n key d + 1 := by
  unfold gd2_
  refine cf_one (x := a) n 0 (Nat.zero_le _) (by omega) (dec_f (fun h => by omega)) (dec_t ⟨⟨hA, ho⟩, by omega⟩) (fun j _ hj hne => ?_)
  refine decide_eq_decide.mpr ⟨fun q => ⟨q.1, by omega⟩, fun q => ⟨q.1, ?_⟩⟩
  have := e_ne hW (show j < n by omega) ha q.1.1 hA hne
  omega
theorem gd_all (hW : WV_ k f e i g n) : gd2_ k f e g n key 1000 = cf_ (op_ k f e g n (nI key)) n 0 := by
  unfold gd2_ op_
  refine cf_congr n 0 (fun j _ hj => decide_eq_decide.mpr ⟨fun q => q.1, fun q => ⟨q, ?_⟩⟩)
  have h1 := (nf_ge hW (show j < n by omega) q.1.1).2.1
  have h2 := q.2
  rw [Int32.lt_iff_toInt_lt] at h2
  omega
theorem vs_s {d c j : Nat} : vs_ k f e g key d (c + 1) j = (if g j = 0 ∧ k j = nI key then min (e j).toInt.toNat d - min (f j).toInt.toNat d else 0) + vs_ k f e g key d c (j + 1) := rfl
theorem vs_same (hW : WV_ k f e i g n) {d : Nat} : ∀ c j, j + c ≤ n → (∀ y, j ≤ y → y < j + c → ¬ On_ k f e g key d y) → vs_ k f e g key (d + 1) c j = vs_ k f e g key d c j := by
  intro c
  induction c with
  | zero => intro j _ _; rfl
  | succ c ih =>
    intro j h1 h2
    rw [vs_s, vs_s, ih (j + 1) (by omega) (fun y a b => h2 y (by omega) (by omega))]
    by_cases hA : g j = 0 ∧ k j = nI key
    · rw [if_pos hA, if_pos hA]
      have h3 := h2 j (Nat.le_refl _) (by omega)
      have r := hW.2.2.1 j (by omega) hA.1
      have h4 : ¬ ((f j).toInt ≤ (d : Int) ∧ (d : Int) < (e j).toInt) := fun q => h3 ⟨hA.1, hA.2, q.1, q.2⟩
      omega
    · rw [if_neg hA, if_neg hA]
theorem vs_one (hW : WV_ k f e i g n) {d a : Nat} (hon : On_ k f e g key d a) : ∀ c j, j ≤ a → a < j + c → j + c ≤ n → vs_ k f e g key (d + 1) c j = vs_ k f e g key d c j + 1 := by
  intro c
  induction c with
  | zero => intro j h1 h2; omega
  | succ c ih =>
    intro j h1 h2 h3
    rw [vs_s, vs_s]
    obtain ⟨q1, q2, q3, q4⟩ := id hon
    by_cases hj : j = a
    · subst hj
      rw [if_pos ⟨q1, q2⟩, if_pos ⟨q1, q2⟩, vs_same hW c (j + 1) (by omega) (fun y h4 h5 h6 => by have := On_inj hW (show y < n by omega) (show j < n by omega) h6 hon; omega)]
      have r := hW.2.2.1 j (by omega) q1
      omega
    · rw [ih (j + 1) (by omega) (by omega) (by omega)]
      by_cases hA : g j = 0 ∧ k j = nI key
      · rw [if_pos hA, if_pos hA]
        have h4 : ¬ On_ k f e g key d j := fun h => hj (On_inj hW (show j < n by omega) (show a < n by omega) h hon)
        have r := hW.2.2.1 j (by omega) hA.1
        have h5 : ¬ ((f j).toInt ≤ (d : Int) ∧ (d : Int) < (e j).toInt) := fun q => h4 ⟨hA.1, hA.2, q.1, q.2⟩
        omega
      · rw [if_neg hA, if_neg hA]
        omega
theorem vs_0 : ∀ c j, vs_ k f e g key 0 c j = 0 := by
  intro c
  induction c with
  | zero => intro j; rfl
  | succ c ih =>
    intro j
    rw [vs_s, ih]
    split <;> omega
theorem vs_all (hW : WV_ k f e i g n) : ∀ c j x, j + c ≤ n → fo_ (sd_ k f e g (nI key)) c j (nI x) = nI (x + vs_ k f e g key 1000 c j) := by
  intro c
  induction c with
  | zero => intro j x _; rfl
  | succ c ih =>
    intro j x h
    rw [vs_s]
    show fo_ (sd_ k f e g (nI key)) c (j + 1) (sd_ k f e g (nI key) j (nI x)) = _
    unfold sd_
    by_cases hA : g j = 0 ∧ k j = nI key
    · rw [if_pos hA, if_pos hA]
      obtain ⟨a, b, hfa, heb, tf, te, hab, hb⟩ := day_in hW (show j < n by omega) hA.1
      have e1 : e j - f j = nI (b - a) := by rw [hfa, heb]; exact pk_sub (Nat.le_of_lt hab)
      have := ih (j + 1) (x + (b - a)) (by omega)
      unfold sd_ at this
      rw [e1, nI_add, this, tf, te]
      congr 1
      omega
    · rw [if_neg hA, if_neg hA, Nat.zero_add]
      have := ih (j + 1) x (by omega)
      unfold sd_ at this
      exact this
theorem vs_sum (hW : WV_ k f e i g n) : fo_ (sd_ k f e g (nI key)) n 0 0 = nI (vs_ k f e g key 1000 n 0) := by
  have h := vs_all (key := key) hW n 0 0 (by omega)
  rw [Nat.zero_add] at h
  exact h
theorem vs_le (hW : WV_ k f e i g n) : ∀ d, d ≤ 1000 → vs_ k f e g key d n 0 ≤ d := by
  intro d
  induction d with
  | zero => intro _; rw [vs_0]; exact Nat.le_refl _
  | succ d ih =>
    intro h
    have h1 := ih (by omega)
    rcases dyS (k := k) (f := f) (e := e) (g := g) (n := n) (key := key) (show d < 2 ^ 31 by omega) with ⟨-, h2⟩ | ⟨j, hj, h2, -⟩
    · rw [vs_same hW n 0 (by omega) (fun y _ hy => h2 y (by omega))]; omega
    · rw [vs_one hW h2 n 0 (Nat.zero_le _) (by omega) (by omega)]; omega
/-- the gap behind a version, by how many open ones are ahead of it -/
theorem ga_at (hW : WV_ k f e i g n) {j : Nat} (hj : j < n) (hA : g j = 0 ∧ k j = nI key) (ho : ¬ nf_ k f g n (k j) (f j) ≤ e j) : ∀ c t u, rk_ k f g n (nI key) (f j) + 1 ≤ t + c → t ≤ rk_ k f g n (nI key) (f j) →
    u = cf_ (fun y => decide (op_ k f e g n (nI key) y = true ∧ rk_ k f g n (nI key) (f y) < t)) n 0 → ga_ k f e g n (nI key) (nI (cf_ (fun y => decide (op_ k f e g n (nI key) y = true ∧ rk_ k f g n (nI key) (f y) < rk_ k f g n (nI key) (f j))) n 0)) c t u = nI j := by
  have hn := hW.1
  have hop : ∀ {y : Nat}, op_ k f e g n (nI key) y = true → (g y = 0 ∧ k y = nI key) ∧ e y < nf_ k f g n (k y) (f y) := fun h => of_decide_eq_true h
  intro c
  induction c with
  | zero => intro t u h1 h2; omega
  | succ c ih =>
    intro t u h1 h2 hu
    have hm := rk_many (f := f) hj hA
    obtain ⟨a, ha, hB, hra, hpa⟩ := pv_ex (key := nI key) hW t (by omega)
    rw [ga_s (by omega) (by omega) hpa]
    have hcl : ∀ T, cf_ (fun y => decide (op_ k f e g n (nI key) y = true ∧ rk_ k f g n (nI key) (f y) < T)) n 0 ≤ n := fun T => cf_le _ _ _
    by_cases ht : t = rk_ k f g n (nI key) (f j)
    · have : a = j := rk_inj hW ha hj hB hA (by omega)
      subst this
      rw [if_neg ho, if_pos (by rw [hu, ht])]
    · by_cases hoa : nf_ k f g n (k a) (f a) ≤ e a
      · rw [if_pos hoa]
        refine ih (t + 1) u (by omega) (by omega) ?_
        rw [hu]
        refine cf_congr n 0 (fun y _ hy => decide_eq_decide.mpr ⟨fun q => ⟨q.1, by omega⟩, fun q => ⟨q.1, ?_⟩⟩)
        have h3 := hop q.1
        have : rk_ k f g n (nI key) (f y) ≠ t := fun h => by
          have := rk_inj hW (show y < n by omega) ha h3.1 hB (by omega)
          subst this
          exact absurd h3.2 (Int32.not_lt.mpr hoa)
        omega
      · have h4 : cf_ (fun y => decide (op_ k f e g n (nI key) y = true ∧ rk_ k f g n (nI key) (f y) < t + 1)) n 0 = u + 1 := by
          rw [hu]
          refine cf_one (x := a) n 0 (Nat.zero_le _) (by omega) (dec_f (fun h => by omega)) (dec_t ⟨dec_t ⟨hB, Int32.not_le.mp hoa⟩, by omega⟩) (fun y _ hy hne => ?_)
          refine decide_eq_decide.mpr ⟨fun q => ⟨q.1, by omega⟩, fun q => ⟨q.1, ?_⟩⟩
          have : rk_ k f g n (nI key) (f y) ≠ t := fun h => hne (rk_inj hW (show y < n by omega) ha (hop q.1).1 hB (by omega))
          omega
        have h5 : cf_ (fun y => decide (op_ k f e g n (nI key) y = true ∧ rk_ k f g n (nI key) (f y) < t + 1)) n 0 ≤ cf_ (fun y => decide (op_ k f e g n (nI key) y = true ∧ rk_ k f g n (nI key) (f y) < rk_ k f g n (nI key) (f j))) n 0 := by
          refine cf_mono n 0 (fun y _ _ h => ?_)
          have h := of_decide_eq_true h
          exact dec_t ⟨h.1, by omega⟩
        have h6 := hcl (rk_ k f g n (nI key) (f j))
        rw [if_neg hoa, if_neg (fun h => ?_)]
        · exact ih (t + 1) (u + 1) (by omega) (by omega) h4.symm
        · have := (nI_eq (by omega) (by omega)).mp h
          omega
theorem ga_day (hW : WV_ k f e i g n) {j d : Nat} (hj : j < n) (hA : g j = 0 ∧ k j = nI key) (he : (e j).toInt = (d : Int)) (ho : e j < nf_ k f g n (k j) (f j)) : ga_ k f e g n (nI key) (nI (gd2_ k f e g n key d)) n 0 0 = nI j := by
  have hm := rk_many (f := f) hj hA
  have hmn : mn_ k g n (nI key) ≤ n := mn_le
  have h := ga_at hW hj hA (Int32.not_le.mpr ho) n 0 0 (by omega) (Nat.zero_le _) (cf_0 n 0 (fun y _ _ => dec_f (fun h => by omega))).symm
  have e1 : cf_ (fun y => decide (op_ k f e g n (nI key) y = true ∧ rk_ k f g n (nI key) (f y) < rk_ k f g n (nI key) (f j))) n 0 = gd2_ k f e g n key d := by
    unfold gd2_
    refine cf_congr n 0 (fun y _ hy => decide_eq_decide.mpr ?_)
    have ry : g y = 0 → _ := hW.2.2.1 y (by omega)
    have rj := hW.2.2.1 j hj hA.1
    constructor
    · rintro ⟨q1, q2⟩
      have q1 := of_decide_eq_true q1
      refine ⟨q1, ?_⟩
      have h1 := rk_fle hW (show y < n by omega) hj q1.1 hA q2
      rw [Int32.lt_iff_toInt_lt] at h1
      have hne : y ≠ j := fun h => by subst h; omega
      have := ry q1.1.1
      rcases hW.2.2.2 y j (by omega) hj hne q1.1.1 hA.1 (q1.1.2.trans hA.2.symm) with h3 | h3 <;> omega
    · rintro ⟨q1, q2⟩
      refine ⟨dec_t q1, ?_⟩
      have hne : y ≠ j := fun h => by subst h; omega
      have := ry q1.1.1
      refine rk_lt (show y < n by omega) q1.1 ?_
      rw [Int32.lt_iff_toInt_lt]
      rcases hW.2.2.2 y j (by omega) hj hne q1.1.1 hA.1 (q1.1.2.trans hA.2.symm) with h3 | h3 <;> omega
  rw [e1] at h
  exact h
end
