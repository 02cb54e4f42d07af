/-! keys and days; facts pointed anew; a change of the whole -/
def iK_ (a : Int32) : Prop := 0 ≤ a.toInt ∧ a.toInt ≤ 7
def iD_ (a : Int32) : Prop := 0 ≤ a.toInt ∧ a.toInt ≤ 999
theorem c_lt {a c : Int32} {z : Int} (hz : c.toInt = z) : (a < c) = (a.toInt < z) := by rw [Int32.lt_iff_toInt_lt, hz]
theorem c_gt {a c : Int32} {z : Int} (hz : c.toInt = z) : (c < a) = (z < a.toInt) := by rw [Int32.lt_iff_toInt_lt, hz]
theorem c_le {a c : Int32} {z : Int} (hz : c.toInt = z) : (a ≤ c) = (a.toInt ≤ z) := by rw [Int32.le_iff_toInt_le, hz]
theorem c_ge {a c : Int32} {z : Int} (hz : c.toInt = z) : (c ≤ a) = (z ≤ a.toInt) := by rw [Int32.le_iff_toInt_le, hz]
theorem z0_ : (0 : Int32).toInt = 0 := by decide
theorem z7_ : (7 : Int32).toInt = 7 := by decide
theorem z8_ : (8 : Int32).toInt = 8 := by decide
theorem z999_ : (999 : Int32).toInt = 999 := by decide
theorem z1000_ : (1000 : Int32).toInt = 1000 := by decide
theorem key_T {a : Int32} (h : iK_ a) : f_X5_checkKey a = some (.ok ()) := by
  unfold f_X5_checkKey
  rw [if_neg (by rw [c_lt z0_]; have := h.1; omega), if_pos (by rw [c_lt z8_]; have := h.2; omega)]
theorem key_F {a : Int32} (h : ¬ iK_ a) : f_X5_checkKey a = some (.error "java/lang/IndexOutOfBoundsException") := by
  unfold f_X5_checkKey
  by_cases h0 : a < 0
  · rw [if_pos h0]
  · rw [if_neg h0, if_neg]
    rw [c_lt z0_] at h0
    rw [c_lt z8_]
    unfold iK_ at h
    omega
theorem day_T {a : Int32} (h : iD_ a) : f_X5_checkDay a = some (.ok ()) := by
  unfold f_X5_checkDay
  rw [if_neg (by rw [c_lt z0_]; have := h.1; omega), if_pos (by rw [c_lt z1000_]; have := h.2; omega)]
theorem day_F {a : Int32} (h : ¬ iD_ a) : f_X5_checkDay a = some (.error "java/lang/IllegalArgumentException") := by
  unfold f_X5_checkDay
  by_cases h0 : a < 0
  · rw [if_pos h0]
  · rw [if_neg h0, if_neg]
    rw [c_lt z0_] at h0
    rw [c_lt z1000_]
    unfold iD_ at h
    omega
theorem gb_0 {α : Type} {X : Option α} : gb_ (0 : Int32) X = X := by unfold gb_; rw [if_pos (Or.inl rfl)]
theorem gb_1 {α : Type} {X : Option α} : gb_ (1 : Int32) X = X := by unfold gb_; rw [if_pos (Or.inr rfl)]
