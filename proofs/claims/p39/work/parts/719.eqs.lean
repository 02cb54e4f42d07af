/-! a step of each loop -/
theorem e_X4_onDay_L2 {n : Nat} {l3 : Int32} {l1 : Int32} {l2 : Int32} {V_ : tV_} : f_X4_onDay_L2 (n + 1) l3 l1 l2 V_ = f_X4_onDay_S2 (f_X4_onDay_L2 n) l3 l1 l2 V_ := rfl
theorem e_X4_next_L5 {n : Nat} {l4 : Int32} {l3 : Int32} {l1 : Int32} {l2 : Int32} {V_ : tV_} : f_X4_next_L5 (n + 1) l4 l3 l1 l2 V_ = f_X4_next_S5 (f_X4_next_L5 n) l4 l3 l1 l2 V_ := rfl
theorem e_X4_endingWhereBegins_L12 {n : Nat} {l2 : Int32} {l1 : Int32} {V_ : tV_} : f_X4_endingWhereBegins_L12 (n + 1) l2 l1 V_ = f_X4_endingWhereBegins_S12 (f_X4_endingWhereBegins_L12 n) l2 l1 V_ := rfl
theorem e_X4_joinAlike_L12 {n : Nat} {l4 : Int32} {l3 : Int32} {l2 : Int32} {l1 : Int32} {V_ : tV_} : f_X4_joinAlike_L12 (n + 1) l4 l3 l2 l1 V_ = f_X4_joinAlike_S12 (f_X4_joinAlike_L12 n) l4 l3 l2 l1 V_ := rfl
theorem e_X4_count_L4 {n : Nat} {l2 : Int32} {l1 : Int32} {V_ : tV_} : f_X4_count_L4 (n + 1) l2 l1 V_ = f_X4_count_S4 (f_X4_count_L4 n) l2 l1 V_ := rfl
theorem e_X4_countOf_L4 {n : Nat} {l3 : Int32} {l2 : Int32} {l1 : Int32} {V_ : tV_} : f_X4_countOf_L4 (n + 1) l3 l2 l1 V_ = f_X4_countOf_S4 (f_X4_countOf_L4 n) l3 l2 l1 V_ := rfl
theorem e_X4_atPlace_L24 {n : Nat} {l4 : Int32} {l3 : Int32} {l1 : Int32} {l2 : Int32} {V_ : tV_} : f_X4_atPlace_L24 (n + 1) l4 l3 l1 l2 V_ = f_X4_atPlace_S24 (f_X4_atPlace_L24 n) l4 l3 l1 l2 V_ := rfl
theorem e_X4_countGaps_L4 {n : Nat} {l3 : Int32} {l2 : Int32} {l1 : Int32} {V_ : tV_} : f_X4_countGaps_L4 (n + 1) l3 l2 l1 V_ = f_X4_countGaps_S4 (f_X4_countGaps_L4 n) l3 l2 l1 V_ := rfl
theorem e_X4_aheadOfGap_L13 {n : Nat} {l5 : Int32} {l4 : Int32} {l3 : Int32} {l1 : Int32} {l2 : Int32} {V_ : tV_} : f_X4_aheadOfGap_L13 (n + 1) l5 l4 l3 l1 l2 V_ = f_X4_aheadOfGap_S13 (f_X4_aheadOfGap_L13 n) l5 l4 l3 l1 l2 V_ := rfl
theorem e_X4_sumDays_L4 {n : Nat} {l3 : Int32} {l2 : Int32} {l1 : Int32} {V_ : tV_} : f_X4_sumDays_L4 (n + 1) l3 l2 l1 V_ = f_X4_sumDays_S4 (f_X4_sumDays_L4 n) l3 l2 l1 V_ := rfl
theorem e_X0_pointFrom_L2 {n : Nat} {l3 : Int32} {l1 : Int32} {l2 : Int32} {F_ : tF_} : f_X0_pointFrom_L2 (n + 1) l3 l1 l2 F_ = f_X0_pointFrom_S2 (f_X0_pointFrom_L2 n) l3 l1 l2 F_ := rfl
theorem e_X0_countOf_L4 {n : Nat} {l3 : Int32} {l2 : Int32} {l1 : Int32} {F_ : tF_} : f_X0_countOf_L4 (n + 1) l3 l2 l1 F_ = f_X0_countOf_S4 (f_X0_countOf_L4 n) l3 l2 l1 F_ := rfl
theorem e_X0_sumOf_L5 {n : Nat} {l4 : Int32} {l2 : Int64} {l1 : Int32} {F_ : tF_} : f_X0_sumOf_L5 (n + 1) l4 l2 l1 F_ = f_X0_sumOf_S5 (f_X0_sumOf_L5 n) l4 l2 l1 F_ := rfl
theorem e_X0_pointTo_L4 {n : Nat} {l3 : Int32} {l2 : Int32} {F_ : tF_} {V_ : tV_} : f_X0_pointTo_L4 (n + 1) l3 l2 F_ V_ = f_X0_pointTo_S4 (f_X0_pointTo_L4 n) l3 l2 F_ V_ := rfl
