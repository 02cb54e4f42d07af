/-! what the model reads of its versions -/
theorem of_10 (j : Nat) : (10 : Int32) + nI j = nI (10 + j) := nI_add 10 j
theorem of_70 (j : Nat) : (70 : Int32) + nI j = nI (70 + j) := nI_add 70 j
theorem of_130 (j : Nat) : (130 : Int32) + nI j = nI (130 + j) := nI_add 130 j
theorem of_190 (j : Nat) : (190 : Int32) + nI j = nI (190 + j) := nI_add 190 j
theorem of_250 (j : Nat) : (250 : Int32) + nI j = nI (250 + j) := nI_add 250 j
theorem of_310 (j : Nat) : (310 : Int32) + nI j = nI (310 + j) := nI_add 310 j
theorem of_370 (j : Nat) : (370 : Int32) + nI j = nI (370 + j) := nI_add 370 j
theorem of_430 (j : Nat) : (430 : Int32) + nI j = nI (430 + j) := nI_add 430 j
theorem of_490 (j : Nat) : (490 : Int32) + nI j = nI (490 + j) := nI_add 490 j
theorem of_550 (j : Nat) : (550 : Int32) + nI j = nI (550 + j) := nI_add 550 j
theorem of_570 (j : Nat) : (570 : Int32) + nI j = nI (570 + j) := nI_add 570 j
theorem of_590 (j : Nat) : (590 : Int32) + nI j = nI (590 + j) := nI_add 590 j
theorem gd_L {α : Type} {x : Int32} {j N : Nat} {X : Option α} (e : x = nI j) (h : j < N) (hN : N < 2 ^ 31) : gd_ x N X = X := by rw [e]; exact gd_I h hN
theorem gd_0 {α : Type} {X : Option α} : gd_ (0 : Int32) 610 X = X := gd_L (j := 0) rfl (by omega) (by omega)
theorem gd_1 {α : Type} {X : Option α} : gd_ (1 : Int32) 610 X = X := gd_L (j := 1) rfl (by omega) (by omega)
theorem gd_2 {α : Type} {X : Option α} : gd_ (2 : Int32) 610 X = X := gd_L (j := 2) rfl (by omega) (by omega)
theorem cl_0 : (0 : Int32).toNatClampNeg = 0 := by decide
theorem cl_1 : (1 : Int32).toNatClampNeg = 1 := by decide
theorem cl_2 : (2 : Int32).toNatClampNeg = 2 := by decide
def WV_ (k f e i g : Nat → Int32) (n : Nat) : Prop := n ≤ 60 ∧ (∀ j, j < n → (g j = 0 ∨ g j = 1) ∧ (i j = 0 ∨ i j = 1)) ∧ (∀ j, j < n → g j = 0 → 0 ≤ (k j).toInt ∧ (k j).toInt ≤ 7 ∧ 0 ≤ (f j).toInt ∧ (f j).toInt < (e j).toInt ∧ (e j).toInt ≤ 1000) ∧ (∀ j l, j < n → l < n → j ≠ l → g j = 0 → g l = 0 → k j = k l → (e j).toInt ≤ (f l).toInt ∨ (e l).toInt ≤ (f j).toInt)
section
variable {k f e v i g G mkept mspare mwas mtext mtold : Nat → Int32} {mhasKept mwasMany manew mthrown mlength mspot mvalue merror mtolds : Int32} {n : Nat}
theorem pred_lt {x y : Int32} (h : 0 < y.toInt) (h2 : y.toInt ≤ 1000) : (y - 1 < x) = (y ≤ x) := by
  have e : (y - 1).toInt = y.toInt - 1 := by
    rw [Int32.toInt_sub]
    have : (1 : Int32).toInt = 1 := by decide
    rw [this, Int.bmod_eq_of_le] <;> omega
  rw [Int32.lt_iff_toInt_lt, Int32.le_iff_toInt_le, e]
  exact propext ⟨fun h => by omega, fun h => by omega⟩
end
section
variable {k f e v i g G mkept mspare mwas mtext mtold : Nat → Int32} {mhasKept mwasMany manew mthrown mlength mspot mvalue merror mtolds : Int32} {n : Nat}
theorem m1_lt : ((-1 : Int32) < 0) = True := by decide
end
