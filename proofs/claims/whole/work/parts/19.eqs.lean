/-! a step of each loop -/
theorem e_X4_onDay_L2 {n : Nat} {l3 : Int32} {l1 : Int32} {l2 : Int32} {V_ : tV_} : f_X4_onDay_L2 (n + 1) l3 l1 l2 V_ = f_X4_onDay_S2 (f_X4_onDay_L2 n) l3 l1 l2 V_ := rfl
theorem e_X4_next_L5 {n : Nat} {l4 : Int32} {l3 : Int32} {l1 : Int32} {l2 : Int32} {V_ : tV_} : f_X4_next_L5 (n + 1) l4 l3 l1 l2 V_ = f_X4_next_S5 (f_X4_next_L5 n) l4 l3 l1 l2 V_ := rfl
theorem e_X4_endingWhereBegins_L12 {n : Nat} {l2 : Int32} {l1 : Int32} {V_ : tV_} : f_X4_endingWhereBegins_L12 (n + 1) l2 l1 V_ = f_X4_endingWhereBegins_S12 (f_X4_endingWhereBegins_L12 n) l2 l1 V_ := rfl
theorem e_X4_joinAlike_L12 {n : Nat} {l4 : Int32} {l3 : Int32} {l2 : Int32} {l1 : Int32} {V_ : tV_} : f_X4_joinAlike_L12 (n + 1) l4 l3 l2 l1 V_ = f_X4_joinAlike_S12 (f_X4_joinAlike_L12 n) l4 l3 l2 l1 V_ := rfl
theorem e_X4_count_L4 {n : Nat} {l2 : Int32} {l1 : Int32} {V_ : tV_} : f_X4_count_L4 (n + 1) l2 l1 V_ = f_X4_count_S4 (f_X4_count_L4 n) l2 l1 V_ := rfl
theorem e_X4_countOf_L4 {n : Nat} {l3 : Int32} {l2 : Int32} {l1 : Int32} {V_ : tV_} : f_X4_countOf_L4 (n + 1) l3 l2 l1 V_ = f_X4_countOf_S4 (f_X4_countOf_L4 n) l3 l2 l1 V_ := rfl
theorem e_X4_countInferred_L4 {n : Nat} {l2 : Int32} {l1 : Int32} {V_ : tV_} : f_X4_countInferred_L4 (n + 1) l2 l1 V_ = f_X4_countInferred_S4 (f_X4_countInferred_L4 n) l2 l1 V_ := rfl
theorem e_X4_atPlace_L24 {n : Nat} {l4 : Int32} {l3 : Int32} {l1 : Int32} {l2 : Int32} {V_ : tV_} : f_X4_atPlace_L24 (n + 1) l4 l3 l1 l2 V_ = f_X4_atPlace_S24 (f_X4_atPlace_L24 n) l4 l3 l1 l2 V_ := rfl
theorem e_X4_earliestInferred_L4 {n : Nat} {l2 : Int32} {l1 : Int32} {V_ : tV_} : f_X4_earliestInferred_L4 (n + 1) l2 l1 V_ = f_X4_earliestInferred_S4 (f_X4_earliestInferred_L4 n) l2 l1 V_ := rfl
theorem e_X4_countGaps_L4 {n : Nat} {l3 : Int32} {l2 : Int32} {l1 : Int32} {V_ : tV_} : f_X4_countGaps_L4 (n + 1) l3 l2 l1 V_ = f_X4_countGaps_S4 (f_X4_countGaps_L4 n) l3 l2 l1 V_ := rfl
theorem e_X4_sumGaps_L4 {n : Nat} {l2 : Int32} {l1 : Int32} {V_ : tV_} : f_X4_sumGaps_L4 (n + 1) l2 l1 V_ = f_X4_sumGaps_S4 (f_X4_sumGaps_L4 n) l2 l1 V_ := rfl
theorem e_X4_aheadOfGap_L13 {n : Nat} {l5 : Int32} {l4 : Int32} {l3 : Int32} {l1 : Int32} {l2 : Int32} {V_ : tV_} : f_X4_aheadOfGap_L13 (n + 1) l5 l4 l3 l1 l2 V_ = f_X4_aheadOfGap_S13 (f_X4_aheadOfGap_L13 n) l5 l4 l3 l1 l2 V_ := rfl
theorem e_X4_sumDays_L4 {n : Nat} {l3 : Int32} {l2 : Int32} {l1 : Int32} {V_ : tV_} : f_X4_sumDays_L4 (n + 1) l3 l2 l1 V_ = f_X4_sumDays_S4 (f_X4_sumDays_L4 n) l3 l2 l1 V_ := rfl
theorem e_X4_fill_L6 {n : Nat} {l5 : Int32} {l4 : Int32} {l1 : Int32} {l2 : Int32} {l3 : Int32} {V_ : tV_} : f_X4_fill_L6 (n + 1) l5 l4 l1 l2 l3 V_ = f_X4_fill_S6 (f_X4_fill_L6 n) l5 l4 l1 l2 l3 V_ := rfl
theorem e_X4_copy_L2 {n : Nat} {l2 : Int32} {V_ : tV_} {W_ : tV_} : f_X4_copy_L2 (n + 1) l2 V_ W_ = f_X4_copy_S2 (f_X4_copy_L2 n) l2 V_ W_ := rfl
theorem e_X0_pointFrom_L2 {n : Nat} {l3 : Int32} {l1 : Int32} {l2 : Int32} {F_ : tF_} : f_X0_pointFrom_L2 (n + 1) l3 l1 l2 F_ = f_X0_pointFrom_S2 (f_X0_pointFrom_L2 n) l3 l1 l2 F_ := rfl
theorem e_X0_countOf_L4 {n : Nat} {l3 : Int32} {l2 : Int32} {l1 : Int32} {F_ : tF_} : f_X0_countOf_L4 (n + 1) l3 l2 l1 F_ = f_X0_countOf_S4 (f_X0_countOf_L4 n) l3 l2 l1 F_ := rfl
theorem e_X0_sumOf_L5 {n : Nat} {l4 : Int32} {l2 : Int64} {l1 : Int32} {F_ : tF_} : f_X0_sumOf_L5 (n + 1) l4 l2 l1 F_ = f_X0_sumOf_S5 (f_X0_sumOf_L5 n) l4 l2 l1 F_ := rfl
theorem e_X1_insert_L17 {n : Nat} {l4 : Int32} {l1 : Int32} {l2 : Int32} {l3 : Int32} {R_ : tR_} : f_X1_insert_L17 (n + 1) l4 l1 l2 l3 R_ = f_X1_insert_S17 (f_X1_insert_L17 n) l4 l1 l2 l3 R_ := rfl
theorem e_X1_dropFirst_L15 {n : Nat} {l2 : Int32} {l1 : Int32} {R_ : tR_} : f_X1_dropFirst_L15 (n + 1) l2 l1 R_ = f_X1_dropFirst_S15 (f_X1_dropFirst_L15 n) l2 l1 R_ := rfl
theorem e_X3_takeNumber_L16 {n : Nat} {l2 : Int32} {l1 : Int32} {T_ : tT_} : f_X3_takeNumber_L16 (n + 1) l2 l1 T_ = f_X3_takeNumber_S16 (f_X3_takeNumber_L16 n) l2 l1 T_ := rfl
theorem e_X0_copy_L2 {n : Nat} {l2 : Int32} {F_ : tF_} {G_ : tF_} : f_X0_copy_L2 (n + 1) l2 F_ G_ = f_X0_copy_S2 (f_X0_copy_L2 n) l2 F_ G_ := rfl
theorem e_X0_pointTo_L4 {n : Nat} {l3 : Int32} {l2 : Int32} {F_ : tF_} {V_ : tV_} : f_X0_pointTo_L4 (n + 1) l3 l2 F_ V_ = f_X0_pointTo_S4 (f_X0_pointTo_L4 n) l3 l2 F_ V_ := rfl
theorem e_X1_copy_L2 {n : Nat} {l2 : Int32} {R_ : tR_} {Q_ : tR_} : f_X1_copy_L2 (n + 1) l2 R_ Q_ = f_X1_copy_S2 (f_X1_copy_L2 n) l2 R_ Q_ := rfl
theorem e_X3_takeRows_L12 {n : Nat} {l2 : Int32} {T_ : tT_} {R_ : tR_} : f_X3_takeRows_L12 (n + 1) l2 T_ R_ = f_X3_takeRows_S12 (f_X3_takeRows_L12 n) l2 T_ R_ := rfl
theorem e_X6_valid_L2 {n : Nat} {l3 : Int32} {l1 : Int32} {l2 : Int32} {M_ : tM_} : f_X6_valid_L2 (n + 1) l3 l1 l2 M_ = f_X6_valid_S2 (f_X6_valid_L2 n) l3 l1 l2 M_ := rfl
theorem e_X6_following_L5 {n : Nat} {l4 : Int32} {l3 : Int32} {l1 : Int32} {l2 : Int32} {M_ : tM_} : f_X6_following_L5 (n + 1) l4 l3 l1 l2 M_ = f_X6_following_S5 (f_X6_following_L5 n) l4 l3 l1 l2 M_ := rfl
theorem e_X6_begins_L12 {n : Nat} {l1 : Int32} {M_ : tM_} : f_X6_begins_L12 (n + 1) l1 M_ = f_X6_begins_S12 (f_X6_begins_L12 n) l1 M_ := rfl
theorem e_X6_ends_L7 {n : Nat} {l1 : Int32} {M_ : tM_} : f_X6_ends_L7 (n + 1) l1 M_ = f_X6_ends_S7 (f_X6_ends_L7 n) l1 M_ := rfl
theorem e_X6_factsOf_L5 {n : Nat} {l4 : Int32} {l3 : Int32} {l1 : Int32} {l2 : Int32} {M_ : tM_} : f_X6_factsOf_L5 (n + 1) l4 l3 l1 l2 M_ = f_X6_factsOf_S5 (f_X6_factsOf_L5 n) l4 l3 l1 l2 M_ := rfl
theorem e_X6_endingAt_L2 {n : Nat} {l3 : Int32} {l1 : Int32} {l2 : Int32} {M_ : tM_} : f_X6_endingAt_L2 (n + 1) l3 l1 l2 M_ = f_X6_endingAt_S2 (f_X6_endingAt_L2 n) l3 l1 l2 M_ := rfl
theorem e_X6_placeOf_L4 {n : Nat} {l3 : Int32} {l2 : Int32} {l1 : Int32} {M_ : tM_} : f_X6_placeOf_L4 (n + 1) l3 l2 l1 M_ = f_X6_placeOf_S4 (f_X6_placeOf_L4 n) l3 l2 l1 M_ := rfl
theorem e_X6_many_L4 {n : Nat} {l3 : Int32} {l2 : Int32} {l1 : Int32} {M_ : tM_} : f_X6_many_L4 (n + 1) l3 l2 l1 M_ = f_X6_many_S4 (f_X6_many_L4 n) l3 l2 l1 M_ := rfl
theorem e_X6_placed_L2 {n : Nat} {l3 : Int32} {l1 : Int32} {l2 : Int32} {M_ : tM_} : f_X6_placed_L2 (n + 1) l3 l1 l2 M_ = f_X6_placed_S2 (f_X6_placed_L2 n) l3 l1 l2 M_ := rfl
theorem e_X6_join_L26 {n : Nat} {l3 : Int32} {l2 : Int32} {l1 : Int32} {M_ : tM_} : f_X6_join_L26 (n + 1) l3 l2 l1 M_ = f_X6_join_S26 (f_X6_join_L26 n) l3 l2 l1 M_ := rfl
theorem e_X6_there_L4 {n : Nat} {l2 : Int32} {l1 : Int32} {M_ : tM_} : f_X6_there_L4 (n + 1) l2 l1 M_ = f_X6_there_S4 (f_X6_there_L4 n) l2 l1 M_ := rfl
theorem e_X6_firstInferred_L9 {n : Nat} {l2 : Int32} {l1 : Int32} {M_ : tM_} : f_X6_firstInferred_L9 (n + 1) l2 l1 M_ = f_X6_firstInferred_S9 (f_X6_firstInferred_L9 n) l2 l1 M_ := rfl
theorem e_X6_inferredCount_L9 {n : Nat} {l2 : Int32} {l1 : Int32} {M_ : tM_} : f_X6_inferredCount_L9 (n + 1) l2 l1 M_ = f_X6_inferredCount_S9 (f_X6_inferredCount_L9 n) l2 l1 M_ := rfl
theorem e_X6_amountOf_L22 {n : Nat} {l4 : Int32} {l2 : Int64} {l1 : Int32} {M_ : tM_} : f_X6_amountOf_L22 (n + 1) l4 l2 l1 M_ = f_X6_amountOf_S22 (f_X6_amountOf_L22 n) l4 l2 l1 M_ := rfl
theorem e_X6_amountFor_L21 {n : Nat} {l5 : Int32} {l3 : Int64} {l1 : Int32} {l2 : Int32} {M_ : tM_} : f_X6_amountFor_L21 (n + 1) l5 l3 l1 l2 M_ = f_X6_amountFor_S21 (f_X6_amountFor_L21 n) l5 l3 l1 l2 M_ := rfl
theorem e_X6_gapsOf_L4 {n : Nat} {l3 : Int32} {l2 : Int32} {l1 : Int32} {M_ : tM_} : f_X6_gapsOf_L4 (n + 1) l3 l2 l1 M_ = f_X6_gapsOf_S4 (f_X6_gapsOf_L4 n) l3 l2 l1 M_ := rfl
theorem e_X6_gapDay_L24 {n : Nat} {l5 : Int32} {l4 : Int32} {l1 : Int32} {l2 : Int32} {l3 : Int32} {M_ : tM_} : f_X6_gapDay_L24 (n + 1) l5 l4 l1 l2 l3 M_ = f_X6_gapDay_S24 (f_X6_gapDay_L24 n) l5 l4 l1 l2 l3 M_ := rfl
theorem e_X6_gapDays_L9 {n : Nat} {l2 : Int32} {l1 : Int32} {M_ : tM_} : f_X6_gapDays_L9 (n + 1) l2 l1 M_ = f_X6_gapDays_S9 (f_X6_gapDays_L9 n) l2 l1 M_ := rfl
theorem e_X6_coverage_L41 {n : Nat} {l3 : Int32} {l2 : Int32} {l1 : Int32} {M_ : tM_} : f_X6_coverage_L41 (n + 1) l3 l2 l1 M_ = f_X6_coverage_S41 (f_X6_coverage_L41 n) l3 l2 l1 M_ := rfl
theorem e_X6_isCovered_L46 {n : Nat} {l4 : Int32} {l1 : Int32} {l2 : Int32} {l3 : Int32} {M_ : tM_} : f_X6_isCovered_L46 (n + 1) l4 l1 l2 l3 M_ = f_X6_isCovered_S46 (f_X6_isCovered_L46 n) l4 l1 l2 l3 M_ := rfl
theorem e_X6_firstRow_L4 {n : Nat} {l2 : Int32} {l1 : Int32} {M_ : tM_} : f_X6_firstRow_L4 (n + 1) l2 l1 M_ = f_X6_firstRow_S4 (f_X6_firstRow_L4 n) l2 l1 M_ := rfl
theorem e_X6_remembers_L2 {n : Nat} {l1 : Int32} {M_ : tM_} : f_X6_remembers_L2 (n + 1) l1 M_ = f_X6_remembers_S2 (f_X6_remembers_L2 n) l1 M_ := rfl
theorem e_X6_goesBack_L2 {n : Nat} {l1 : Int32} {M_ : tM_} : f_X6_goesBack_L2 (n + 1) l1 M_ = f_X6_goesBack_S2 (f_X6_goesBack_L2 n) l1 M_ := rfl
theorem e_X6_loads_L56 {n : Nat} {l2 : Int32} {l1 : Int32} {M_ : tM_} : f_X6_loads_L56 (n + 1) l2 l1 M_ = f_X6_loads_S56 (f_X6_loads_L56 n) l2 l1 M_ := rfl
theorem e_X6_loadRows_L31 {n : Nat} {l2 : Int32} {l1 : Int32} {M_ : tM_} : f_X6_loadRows_L31 (n + 1) l2 l1 M_ = f_X6_loadRows_S31 (f_X6_loadRows_L31 n) l2 l1 M_ := rfl
theorem e_X6_number_L7 {n : Nat} {l2 : Int32} {l1 : Int32} {M_ : tM_} : f_X6_number_L7 (n + 1) l2 l1 M_ = f_X6_number_S7 (f_X6_number_L7 n) l2 l1 M_ := rfl
theorem e_X6_faultOf_L10 {n : Nat} {M_ : tM_} : f_X6_faultOf_L10 (n + 1) M_ = f_X6_faultOf_S10 (f_X6_faultOf_L10 n) M_ := rfl
theorem e_X6_read_L40 {n : Nat} {l2 : Int32} {l1 : Int32} {M_ : tM_} : f_X6_read_L40 (n + 1) l2 l1 M_ = f_X6_read_S40 (f_X6_read_L40 n) l2 l1 M_ := rfl
theorem e_X6_save_L12 {n : Nat} {l1 : Int32} {M_ : tM_} : f_X6_save_L12 (n + 1) l1 M_ = f_X6_save_S12 (f_X6_save_L12 n) l1 M_ := rfl
theorem e_X6_restore_L20 {n : Nat} {l1 : Int32} {M_ : tM_} : f_X6_restore_L20 (n + 1) l1 M_ = f_X6_restore_S20 (f_X6_restore_L20 n) l1 M_ := rfl
theorem e_X5_amountFor_L18 {n : Nat} {l6 : Int32} {l4 : Int64} {l1 : Int32} {l2 : Int32} {D_ : tD_} {S_ : tS_} {V_ : tV_} {F_ : tF_} {R_ : tR_} : f_X5_amountFor_L18 (n + 1) l6 l4 l1 l2 D_ S_ V_ F_ R_ = f_X5_amountFor_S18 (f_X5_amountFor_L18 n) l6 l4 l1 l2 D_ S_ V_ F_ R_ := rfl
theorem e_X5_makeChanges_L16 {n : Nat} {l3 : Int32} {l2 : Int32} {D_ : tD_} {S_ : tS_} {V_ : tV_} {F_ : tF_} {R_ : tR_} {B_ : tV_} : f_X5_makeChanges_L16 (n + 1) l3 l2 D_ S_ V_ F_ R_ B_ = f_X5_makeChanges_S16 (f_X5_makeChanges_L16 n) l3 l2 D_ S_ V_ F_ R_ B_ := rfl
theorem e_X5_makeChangesT_L16 {n : Nat} {l3 : Int32} {l2 : Int32} {D_ : tD_} {S_ : tS_} {V_ : tV_} {F_ : tF_} {R_ : tR_} {B_ : tV_} {Q_ : tR_} : f_X5_makeChangesT_L16 (n + 1) l3 l2 D_ S_ V_ F_ R_ B_ Q_ = f_X5_makeChangesT_S16 (f_X5_makeChangesT_L16 n) l3 l2 D_ S_ V_ F_ R_ B_ Q_ := rfl
