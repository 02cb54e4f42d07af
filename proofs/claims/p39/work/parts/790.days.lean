/-! a key's days: which version is valid on each; scans over days -/
def On_ (k f e g : Nat → Int32) (key d j : Nat) : Prop := g j = 0 ∧ k j = nI key ∧ (f j).toInt ≤ (d : Int) ∧ (d : Int) < (e j).toInt
def dy_ (k f e g : Nat → Int32) (n key d : Nat) : Int32 := fs_ (pOn_ k f e g (nI key) (nI d)) n 0
section
variable {k f e v i g : Nat → Int32} {n key d : Nat}
theorem pOn_On {j : Nat} (hd : d < 2 ^ 31) : (g j = 0 ∧ k j = nI key ∧ f j ≤ nI d ∧ nI d < e j) ↔ On_ k f e g key d j := by
  unfold On_
  rw [Int32.le_iff_toInt_le, Int32.lt_iff_toInt_lt, nI_toInt hd]
theorem dyS (hd : d < 2 ^ 31) : (dy_ k f e g n key d = -1 ∧ ∀ j, j < n → ¬ On_ k f e g key d j) ∨ ∃ j, j < n ∧ On_ k f e g key d j ∧ dy_ k f e g n key d = nI j := by
  unfold dy_
  rcases on_spec (k := k) (f := f) (e := e) (g := g) (n := n) (nI key) (nI d) with ⟨h1, h2⟩ | ⟨j, h1, h2, h3⟩
  · exact Or.inl ⟨h1, fun j hj h => h2 j hj ((pOn_On hd).mpr h)⟩
  · exact Or.inr ⟨j, h1, (pOn_On hd).mp h2, h3⟩
theorem On_inj (hW : WV_ k f e i g n) {a b : Nat} (ha : a < n) (hb : b < n) (hA : On_ k f e g key d a) (hB : On_ k f e g key d b) : a = b := by
  refine Classical.byContradiction fun hne => ?_
  obtain ⟨a1, a2, a3, a4⟩ := hA
  obtain ⟨b1, b2, b3, b4⟩ := hB
  rcases hW.2.2.2 a b ha hb hne a1 b1 (a2.trans b2.symm) with h | h <;> omega
theorem dyU (hW : WV_ k f e i g n) (hd : d < 2 ^ 31) {j : Nat} (hj : j < n) (h : On_ k f e g key d j) : dy_ k f e g n key d = nI j := by
  rcases dyS (k := k) (f := f) (e := e) (g := g) (n := n) (key := key) hd with ⟨-, h2⟩ | ⟨l, h1, h2, h3⟩
  · exact absurd h (h2 j hj)
  · rw [h3, On_inj hW h1 hj h2 h]
theorem dyN (hd : d < 2 ^ 31) (h : ∀ j, j < n → ¬ On_ k f e g key d j) : dy_ k f e g n key d = -1 := by
  rcases dyS (k := k) (f := f) (e := e) (g := g) (n := n) (key := key) hd with ⟨h1, -⟩ | ⟨l, h1, h2, h3⟩
  · exact h1
  · exact absurd h2 (h l h1)
theorem dy_of (hW : WV_ k f e i g n) (hd : d < 2 ^ 31) {x : Int32} (h : (x = -1 ∧ ∀ j, j < n → ¬ On_ k f e g key d j) ∨ ∃ j, j < n ∧ On_ k f e g key d j ∧ x = nI j) : dy_ k f e g n key d = x := by
  rcases h with ⟨rfl, h⟩ | ⟨j, hj, h, rfl⟩
  · exact dyN hd h
  · exact dyU hW hd hj h
theorem nI_m1 {j : Nat} (h : j < 2 ^ 31) : ¬ nI j = -1 := by rw [m1_ne h]; exact fun h => h
theorem dyI (hn : n ≤ 60) (hd : d < 2 ^ 31) {j : Nat} (hj : j < 2 ^ 31) (h : dy_ k f e g n key d = nI j) : j < n ∧ On_ k f e g key d j := by
  rcases dyS (k := k) (f := f) (e := e) (g := g) (n := n) (key := key) hd with ⟨h1, -⟩ | ⟨l, h1, h2, h3⟩
  · exact absurd (h.symm.trans h1) (nI_m1 hj)
  · have := (nI_eq hj (by omega)).mp (h.symm.trans h3)
    subst this
    exact ⟨h1, h2⟩
theorem m1_lt0 : (-1 : Int32) < 0 := by decide
theorem dy_lt0 (hn : n ≤ 60) (hd : d < 2 ^ 31) : dy_ k f e g n key d < 0 ↔ ∀ j, j < n → ¬ On_ k f e g key d j := by
  rcases dyS (k := k) (f := f) (e := e) (g := g) (n := n) (key := key) hd with ⟨h1, h2⟩ | ⟨l, h1, h2, h3⟩
  · exact ⟨fun _ => h2, fun _ => by rw [h1]; exact m1_lt0⟩
  · exact ⟨fun h => by rw [h3] at h; exact absurd h (nI_pos (by omega)), fun h => absurd h2 (h l h1)⟩
theorem dy_m1 (hn : n ≤ 60) (hd : d < 2 ^ 31) : dy_ k f e g n key d = -1 ↔ ∀ j, j < n → ¬ On_ k f e g key d j := by
  rcases dyS (k := k) (f := f) (e := e) (g := g) (n := n) (key := key) hd with ⟨h1, h2⟩ | ⟨l, h1, h2, h3⟩
  · exact ⟨fun _ => h2, fun _ => h1⟩
  · exact ⟨fun h => by rw [h3] at h; exact absurd h (nI_m1 (by omega)), fun h => absurd h2 (h l h1)⟩
theorem dy_cv (hn : n ≤ 60) : ¬ dy_ k f e g n key d = -1 ↔ cv_ k f e g n (nI key) (nI d) := on_cv hn
end
/-- the first index from j on, of c, of which p says yes; else the one behind -/
def sc_ (p : Nat → Bool) : Nat → Nat → Nat
  | 0, j => j
  | c + 1, j => if p j = true then j else sc_ p c (j + 1)
theorem scq_ {p : Nat → Bool} {t : Nat} : ∀ c j, j ≤ t → t ≤ j + c → (∀ i, j ≤ i → i < t → p i = false) → (t < j + c → p t = true) → sc_ p c j = t := by
  intro c
  induction c with
  | zero => intro j h1 h2 _ _; show j = t; omega
  | succ c ih =>
    intro j h1 h2 h3 h4
    show (if p j = true then j else sc_ p c (j + 1)) = t
    by_cases hj : j = t
    · subst hj
      rw [if_pos (h4 (by omega))]
    · rw [if_neg (by rw [h3 j (Nat.le_refl _) (by omega)]; decide)]
      exact ih (j + 1) (by omega) (by omega) (fun i a b => h3 i (by omega) b) (fun h => h4 (by omega))
theorem k_le {a b : Nat} (ha : a < 2 ^ 31) (hb : b < 2 ^ 31) (h : a ≤ b) : nI a ≤ nI b := (nI_leI ha hb).mpr h
theorem k_nle {a b : Nat} (ha : a < 2 ^ 31) (hb : b < 2 ^ 31) (h : b < a) : ¬ nI a ≤ nI b := fun q => absurd ((nI_leI ha hb).mp q) (by omega)
theorem le_1000 {j : Nat} (hj : j < 2 ^ 31) : ((1000 : Int32) ≤ nI j) = (1000 ≤ j) := propext (nI_leI (a := 1000) (by omega) hj)
theorem m3_I (a : Nat) : (3 : Int32) * nI a = nI (3 * a) := pk_mul 3 a
theorem A2_I (a : Nat) : nI a + 2 = nI (a + 2) := nI_add a 2
theorem A3_I (a : Nat) : nI a + 3 = nI (a + 3) := nI_add a 3
theorem L_next_L {yv : Nat → Int32} {x : Int32} : ∀ c m j, j + c = 1000 → c < m → f_L_next_L4 m (nI j) x yv = some (nI (sc_ (fun d => decide (0 ≤ yv d)) c j)) := by
  intro c
  induction c with
  | zero =>
    intro m j h1 h2
    obtain ⟨m, rfl⟩ := ex_S h2
    show f_L_next_S4 (f_L_next_L4 m) (nI j) x yv = _
    unfold f_L_next_S4
    rw [if_pos (by rw [le_1000 (by omega)]; omega)]
    rfl
  | succ c ih =>
    intro m j h1 h2
    obtain ⟨m, rfl⟩ := ex_S h2
    show f_L_next_S4 (f_L_next_L4 m) (nI j) x yv = some (nI (if decide (0 ≤ yv j) = true then j else sc_ (fun d => decide (0 ≤ yv d)) c (j + 1)))
    unfold f_L_next_S4
    rw [if_neg (by rw [le_1000 (by omega)]; omega), gd_I (by omega) (by omega), cl_I (by omega), S_I, ih m (j + 1) (by omega) (by omega)]
    by_cases h : 0 ≤ yv j
    · rw [if_pos h, if_pos (dec_t h)]
    · rw [if_neg h, if_neg (by rw [dec_f h]; decide)]
theorem L_next_t {yv : Nat → Int32} {a t : Nat} (ha : a < 1000) (h1 : a < t) (h2 : t ≤ 1000) (h3 : ∀ i, a < i → i < t → yv i < 0) (h4 : t < 1000 → 0 ≤ yv t) : f_L_next (nI a) yv = some (nI t) := by
  unfold f_L_next
  rw [S_I, L_next_L (1000 - (a + 1)) fu_ (a + 1) (by omega) (by unfold fu_; omega), scq_ (t := t) _ _ (by omega) (by omega) (fun i a b => dec_f (Int32.not_le.mpr (h3 i (by omega) b))) (fun h => dec_t (h4 (by omega)))]
/-- the days from a to b hold y -/
def fl_ (a b : Nat) (y : Int32) (yv : Nat → Int32) : Nat → Int32 := fun d => if a ≤ d ∧ d < b then y else yv d
theorem fl_i {a b d : Nat} {y : Int32} {yv : Nat → Int32} (h : a ≤ d ∧ d < b) : fl_ a b y yv d = y := if_pos h
theorem fl_o {a b d : Nat} {y : Int32} {yv : Nat → Int32} (h : ¬ (a ≤ d ∧ d < b)) : fl_ a b y yv d = yv d := if_neg h
theorem L_fill_L {b : Nat} {x y : Int32} (hb : b ≤ 1000) : ∀ c m j (yv : Nat → Int32), j + c = b → c < m → f_L_fill_L3 m (nI j) x (nI b) y yv = some (fl_ j b y yv) := by
  intro c
  induction c with
  | zero =>
    intro m j yv h1 h2
    obtain ⟨m, rfl⟩ := ex_S h2
    show f_L_fill_S3 (f_L_fill_L3 m) (nI j) x (nI b) y yv = _
    unfold f_L_fill_S3
    rw [if_pos (k_le (by omega) (by omega) (by omega))]
    refine congrArg some (funext fun d => ?_)
    rw [fl_o (by omega)]
  | succ c ih =>
    intro m j yv h1 h2
    obtain ⟨m, rfl⟩ := ex_S h2
    show f_L_fill_S3 (f_L_fill_L3 m) (nI j) x (nI b) y yv = _
    unfold f_L_fill_S3
    rw [if_neg (k_nle (by omega) (by omega) (by omega)), gd_I (by omega) (by omega), cl_I (by omega), nm_s, S_I, ih m (j + 1) _ (by omega) (by omega)]
    refine congrArg some (funext fun d => ?_)
    by_cases h : j + 1 ≤ d ∧ d < b
    · rw [fl_i h, fl_i (by omega)]
    · rw [fl_o h]
      by_cases h3 : d = j
      · subst h3; rw [up_s, fl_i (by omega)]
      · rw [up_n h3, fl_o (by omega)]
theorem L_fill_I {a b : Nat} {y : Int32} {yv : Nat → Int32} (hab : a ≤ b) (hb : b ≤ 1000) : f_L_fill (nI a) (nI b) y yv = some (fl_ a b y yv) := by
  unfold f_L_fill
  exact L_fill_L hb (b - a) fu_ a yv (by omega) (by unfold fu_; omega)
/-- a new version in the law's table: behind the last -/
def w3_ (wv : Nat → Int32) (n : Nat) (a b c : Int32) : Nat → Int32 := upd (upd (upd wv (3 * n) a) (3 * n + 1) b) (3 * n + 2) c
theorem new_I {n a b : Nat} {x y z : Int32} {yv wv : Nat → Int32} (hn : n < 60) (hab : a ≤ b) (hb : b ≤ 1000) : (bd_ (f_L_fill (nI a) (nI b) (nI n) yv) (fun yv65 =>
    gd_ (3 * nI n) 180 (nm_ (upd wv ((3 * nI n).toNatClampNeg) x) (fun u72 =>
    gd_ ((3 * nI n) + 1) 180 (nm_ (upd u72 (((3 * nI n) + 1).toNatClampNeg) y) (fun u76 =>
    gd_ ((3 * nI n) + 2) 180 (nm_ (upd u76 (((3 * nI n) + 2).toNatClampNeg) z) (fun u80 =>
    some (nI n + 1, yv65, u80)))))))) : Option (Int32 × tI_ × tI_)) = some (nI (n + 1), fl_ a b (nI n) yv, w3_ wv n x y z) := by
  rw [L_fill_I hab hb, bd_s]
  simp only [m3_I, S_I, A2_I]
  rw [gd_I (by omega) (by omega), cl_I (by omega), nm_s, gd_I (by omega) (by omega), cl_I (by omega), nm_s, gd_I (by omega) (by omega), cl_I (by omega), nm_s]
  rfl
theorem chg_L {n key a b : Nat} {l6 l5 : Int32} {yv wv : Nat → Int32} (hn : n < 60) (hab : a ≤ b) (hb : b ≤ 1000) (h1 : ∀ d, a ≤ d → d < b → yv d = l6) (h2 : b < 1000 → ¬ yv b = l6) : ∀ c m j, j + c = b → c < m → a ≤ j → f_L_change_L79 m (nI j) l6 (nI n) (nI key) (nI a) l5 yv wv = some (nI (n + 1), fl_ a b (nI n) yv, w3_ wv n l5 0 (nI key)) := by
  intro c
  induction c with
  | zero =>
    intro m j h3 h4 h5
    obtain ⟨m, rfl⟩ := ex_S h4
    have e : j = b := by omega
    subst e
    show f_L_change_S79 (f_L_change_L79 m) (nI j) l6 (nI n) (nI key) (nI a) l5 yv wv = _
    unfold f_L_change_S79
    by_cases h6 : 1000 ≤ j
    · rw [if_pos (by rw [le_1000 (by omega)]; exact h6)]
      exact new_I hn hab hb
    · rw [if_neg (by rw [le_1000 (by omega)]; exact h6), gd_I (by omega) (by omega), cl_I (by omega), if_neg (h2 (by omega))]
      exact new_I hn hab hb
  | succ c ih =>
    intro m j h3 h4 h5
    obtain ⟨m, rfl⟩ := ex_S h4
    show f_L_change_S79 (f_L_change_L79 m) (nI j) l6 (nI n) (nI key) (nI a) l5 yv wv = _
    unfold f_L_change_S79
    rw [if_neg (by rw [le_1000 (by omega)]; omega), gd_I (by omega) (by omega), cl_I (by omega), if_pos (h1 j h5 (by omega)), S_I]
    exact ih m (j + 1) (by omega) (by omega) (by omega)
