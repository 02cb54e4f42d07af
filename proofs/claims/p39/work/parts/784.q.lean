/-! what is asked without a change: class and model -/
def QI_ (X : Option (Int32 × (Nat → Int64))) (Y : Option (Int32 × tM_)) (M0 : Int32 → tM_) : Prop := ∃ c b ov', X = some (c, ov') ∧ Y = some (b, M0 c) ∧ (c = 0 → ov' 0 = b.toInt64)
def QL_ (X : Option (Int32 × (Nat → Int64))) (Y : Option (Int64 × tM_)) (M0 : Int32 → tM_) : Prop := ∃ c b ov', X = some (c, ov') ∧ Y = some (b, M0 c) ∧ (c = 0 → ov' 0 = b)
def QB_ (X : Option (Int32 × (Nat → Int64))) (Y : Option (Int32 × tM_)) (M0 : Int32 → tM_) : Prop := ∃ c b ov', X = some (c, ov') ∧ Y = some (b, M0 c) ∧ (c = 0 → ov' 0 = (if b = 0 then 0 else 1))
def QD_ (X : Option (Int32 × (Nat → UInt64))) (Y : Option (UInt64 × tM_)) (M0 : Int32 → tM_) : Prop := ∃ c b pv', X = some (c, pv') ∧ Y = some (b, M0 c) ∧ (c = 0 → pv' 0 = b)
theorem updL_s {f : Nat → Int64} {x : Int64} : vp_updL f 0 x 0 = x := if_pos rfl
theorem no_1 {P : Prop} : (1 : Int32) = 0 → P := fun h => absurd h (by decide)
theorem no_2 {P : Prop} : (2 : Int32) = 0 → P := fun h => absurd h (by decide)
theorem no_3 {P : Prop} : (3 : Int32) = 0 → P := fun h => absurd h (by decide)
theorem no_4 {P : Prop} : (4 : Int32) = 0 → P := fun h => absurd h (by decide)
theorem found_m1 : f_X5_found (-1) = some (Except.error "java/util/NoSuchElementException") := rfl
theorem found_I {a : Nat} (h : a < 2 ^ 31) : f_X5_found (nI a) = some (Except.ok (nI a)) := by
  unfold f_X5_found
  rw [if_neg (by rw [m1_ne h]; exact fun h => h)]
theorem sw6_ (a : Int32) : a = 0 ∨ a = 1 ∨ a = 2 ∨ a = 3 ∨ a = 4 ∨ a = 5 ∨ ¬ (0 ≤ a.toInt ∧ a.toInt ≤ 5) := by
  by_cases h : 0 ≤ a.toInt ∧ a.toInt ≤ 5
  · have h1 : a.toInt = 0 ∨ a.toInt = 1 ∨ a.toInt = 2 ∨ a.toInt = 3 ∨ a.toInt = 4 ∨ a.toInt = 5 := by omega
    rcases h1 with h1 | h1 | h1 | h1 | h1 | h1
    · exact Or.inl (Int32.toInt_inj.mp h1)
    · exact Or.inr (Or.inl (Int32.toInt_inj.mp h1))
    · exact Or.inr (Or.inr (Or.inl (Int32.toInt_inj.mp h1)))
    · exact Or.inr (Or.inr (Or.inr (Or.inl (Int32.toInt_inj.mp h1))))
    · exact Or.inr (Or.inr (Or.inr (Or.inr (Or.inl (Int32.toInt_inj.mp h1)))))
    · exact Or.inr (Or.inr (Or.inr (Or.inr (Or.inr (Or.inl (Int32.toInt_inj.mp h1))))))
  · exact Or.inr (Or.inr (Or.inr (Or.inr (Or.inr (Or.inr h)))))
theorem top_I {n : Nat} (h : n < 2 ^ 31) : (nI n - 1).toInt = (n : Int) - 1 := by
  cases n with
  | zero => decide
  | succ n =>
    rw [nI_pred, nI_toInt (by omega)]
    omega
def ei_ (k f i g : Nat → Int32) (j : Nat) (b : Int32) : Int32 := if (g j = 0 ∧ ¬ i j = 0) ∧ (b = -1 ∨ f j < f b.toNatClampNeg ∨ (f j = f b.toNatClampNeg ∧ k j < k b.toNatClampNeg)) then nI j else b
section
variable {k f e v i g fk fd fa fv rk rd rv G mkept mspare mwas mtext mtold : Nat → Int32} {mhasKept mwasMany manew mthrown mlength mspot mvalue merror mtolds : Int32} {n q r : Nat} {h1 h2 h3 a1 a2 a3 rc : Int32} {ov : Nat → Int64} {pv : Nat → UInt64}
theorem days_I {j : Nat} (hn : n ≤ 60) (hj : j < n) (hg : g j = 0) : f_X4_days (nI j) (k, f, e, v, i, g, nI n) = some (e j - f j) := by
  unfold f_X4_days
  dsimp only
  rw [has_I hn hj, bd_s, if_pos hg, if_neg (by decide), gd_I (by omega) (by omega), gd_I (by omega) (by omega), cl_I (by omega)]
end
