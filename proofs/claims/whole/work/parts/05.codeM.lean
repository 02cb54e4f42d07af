theorem dX6_init_0 : decode cX6_init 0 = .ok (.aload_n 0, 1) := by decide +kernel
theorem dX6_init_1 : decode cX6_init 1 = .ok (.invokespecial 1, 3) := by decide +kernel
theorem dX6_init_4 : decode cX6_init 4 = .ok (.aload_n 0, 1) := by decide +kernel
theorem dX6_init_5 : decode cX6_init 5 = .ok (.sipush 610, 3) := by decide +kernel
theorem dX6_init_8 : decode cX6_init 8 = .ok (.newarray .int, 2) := by decide +kernel
theorem dX6_init_10 : decode cX6_init 10 = .ok (.putfield 7, 3) := by decide +kernel
theorem dX6_init_13 : decode cX6_init 13 = .ok (.aload_n 0, 1) := by decide +kernel
theorem dX6_init_14 : decode cX6_init 14 = .ok (.sipush 610, 3) := by decide +kernel
theorem dX6_init_17 : decode cX6_init 17 = .ok (.newarray .int, 2) := by decide +kernel
theorem dX6_init_19 : decode cX6_init 19 = .ok (.putfield 13, 3) := by decide +kernel
theorem dX6_init_22 : decode cX6_init 22 = .ok (.aload_n 0, 1) := by decide +kernel
theorem dX6_init_23 : decode cX6_init 23 = .ok (.sipush 610, 3) := by decide +kernel
theorem dX6_init_26 : decode cX6_init 26 = .ok (.newarray .int, 2) := by decide +kernel
theorem dX6_init_28 : decode cX6_init 28 = .ok (.putfield 16, 3) := by decide +kernel
theorem dX6_init_31 : decode cX6_init 31 = .ok (.aload_n 0, 1) := by decide +kernel
theorem dX6_init_32 : decode cX6_init 32 = .ok (.bipush 60, 2) := by decide +kernel
theorem dX6_init_34 : decode cX6_init 34 = .ok (.newarray .int, 2) := by decide +kernel
theorem dX6_init_36 : decode cX6_init 36 = .ok (.putfield 19, 3) := by decide +kernel
theorem dX6_init_39 : decode cX6_init 39 = .ok (.aload_n 0, 1) := by decide +kernel
theorem dX6_init_40 : decode cX6_init 40 = .ok (.bipush 30, 2) := by decide +kernel
theorem dX6_init_42 : decode cX6_init 42 = .ok (.newarray .int, 2) := by decide +kernel
theorem dX6_init_44 : decode cX6_init 44 = .ok (.putfield 22, 3) := by decide +kernel
theorem dX6_init_47 : decode cX6_init 47 = .ok (.aload_n 0, 1) := by decide +kernel
theorem dX6_init_48 : decode cX6_init 48 = .ok (.iconst (-1), 1) := by decide +kernel
theorem dX6_init_49 : decode cX6_init 49 = .ok (.putfield 25, 3) := by decide +kernel
theorem dX6_init_52 : decode cX6_init 52 = .ok (.aload_n 0, 1) := by decide +kernel
theorem dX6_init_53 : decode cX6_init 53 = .ok (.bipush 30, 2) := by decide +kernel
theorem dX6_init_55 : decode cX6_init 55 = .ok (.newarray .int, 2) := by decide +kernel
theorem dX6_init_57 : decode cX6_init 57 = .ok (.putfield 29, 3) := by decide +kernel
theorem dX6_init_60 : decode cX6_init 60 = .ok (.return_, 1) := by decide +kernel
theorem dX6_thrown_0 : decode cX6_thrown 0 = .ok (.aload_n 0, 1) := by decide +kernel
theorem dX6_thrown_1 : decode cX6_thrown 1 = .ok (.getfield 32, 3) := by decide +kernel
theorem dX6_thrown_4 : decode cX6_thrown 4 = .ok (.ireturn, 1) := by decide +kernel
theorem dX6_fails_0 : decode cX6_fails 0 = .ok (.aload_n 0, 1) := by decide +kernel
theorem dX6_fails_1 : decode cX6_fails 1 = .ok (.iload_n 1, 1) := by decide +kernel
theorem dX6_fails_2 : decode cX6_fails 2 = .ok (.putfield 32, 3) := by decide +kernel
theorem dX6_fails_5 : decode cX6_fails 5 = .ok (.iconst 0, 1) := by decide +kernel
theorem dX6_fails_6 : decode cX6_fails 6 = .ok (.ireturn, 1) := by decide +kernel
theorem dX6_in_0 : decode cX6_in 0 = .ok (.iload_n 0, 1) := by decide +kernel
theorem dX6_in_1 : decode cX6_in 1 = .ok (.iload_n 1, 1) := by decide +kernel
theorem dX6_in_2 : decode cX6_in 2 = .ok (.if_icmp .lt 12, 3) := by decide +kernel
theorem dX6_in_5 : decode cX6_in 5 = .ok (.iload_n 0, 1) := by decide +kernel
theorem dX6_in_6 : decode cX6_in 6 = .ok (.iload_n 2, 1) := by decide +kernel
theorem dX6_in_7 : decode cX6_in 7 = .ok (.if_icmp .gt 7, 3) := by decide +kernel
theorem dX6_in_10 : decode cX6_in 10 = .ok (.iconst 1, 1) := by decide +kernel
theorem dX6_in_11 : decode cX6_in 11 = .ok (.goto 4, 3) := by decide +kernel
theorem dX6_in_14 : decode cX6_in 14 = .ok (.iconst 0, 1) := by decide +kernel
theorem dX6_in_15 : decode cX6_in 15 = .ok (.ireturn, 1) := by decide +kernel
set_option maxRecDepth 20000 in
theorem ggX6_isKey_X6_in : GoodIn wsX6_isKey wsX6_in := goodIn_r _ [4] (by decide +kernel) (by decide +kernel)
set_option maxRecDepth 20000 in
theorem gX6_isKey_X6_in : GoodIn wsX6_isKey (va_wsS RX6 35 yX6_in wsX6_in) := goodIn_app (goodIn_of _ (by decide +kernel)) ggX6_isKey_X6_in
theorem dX6_isKey_0 : decode cX6_isKey 0 = .ok (.iload_n 0, 1) := by decide +kernel
theorem dX6_isKey_1 : decode cX6_isKey 1 = .ok (.iconst 0, 1) := by decide +kernel
theorem dX6_isKey_2 : decode cX6_isKey 2 = .ok (.bipush 7, 2) := by decide +kernel
theorem dX6_isKey_4 : decode cX6_isKey 4 = .ok (.invokestatic 35, 3) := by decide +kernel
theorem dX6_isKey_7 : decode cX6_isKey 7 = .ok (.ireturn, 1) := by decide +kernel
set_option maxRecDepth 20000 in
theorem ggX6_isDay_X6_in : GoodIn wsX6_isDay wsX6_in := goodIn_r _ [4] (by decide +kernel) (by decide +kernel)
set_option maxRecDepth 20000 in
theorem gX6_isDay_X6_in : GoodIn wsX6_isDay (va_wsS RX6 35 yX6_in wsX6_in) := goodIn_app (goodIn_of _ (by decide +kernel)) ggX6_isDay_X6_in
theorem dX6_isDay_0 : decode cX6_isDay 0 = .ok (.iload_n 0, 1) := by decide +kernel
theorem dX6_isDay_1 : decode cX6_isDay 1 = .ok (.iconst 0, 1) := by decide +kernel
theorem dX6_isDay_2 : decode cX6_isDay 2 = .ok (.sipush 999, 3) := by decide +kernel
theorem dX6_isDay_5 : decode cX6_isDay 5 = .ok (.invokestatic 35, 3) := by decide +kernel
theorem dX6_isDay_8 : decode cX6_isDay 8 = .ok (.ireturn, 1) := by decide +kernel
set_option maxRecDepth 20000 in
theorem ggX6_isVersion_X6_in : GoodIn wsX6_isVersion wsX6_in := goodIn_r _ [5] (by decide +kernel) (by decide +kernel)
set_option maxRecDepth 20000 in
theorem gX6_isVersion_X6_in : GoodIn wsX6_isVersion (va_wsS RX6 35 yX6_in wsX6_in) := goodIn_app (goodIn_of _ (by decide +kernel)) ggX6_isVersion_X6_in
theorem dX6_isVersion_0 : decode cX6_isVersion 0 = .ok (.iload_n 1, 1) := by decide +kernel
theorem dX6_isVersion_1 : decode cX6_isVersion 1 = .ok (.iconst 0, 1) := by decide +kernel
theorem dX6_isVersion_2 : decode cX6_isVersion 2 = .ok (.aload_n 0, 1) := by decide +kernel
theorem dX6_isVersion_3 : decode cX6_isVersion 3 = .ok (.getfield 7, 3) := by decide +kernel
theorem dX6_isVersion_6 : decode cX6_isVersion 6 = .ok (.iconst 0, 1) := by decide +kernel
theorem dX6_isVersion_7 : decode cX6_isVersion 7 = .ok (.iaload, 1) := by decide +kernel
theorem dX6_isVersion_8 : decode cX6_isVersion 8 = .ok (.iconst 1, 1) := by decide +kernel
theorem dX6_isVersion_9 : decode cX6_isVersion 9 = .ok (.isub, 1) := by decide +kernel
theorem dX6_isVersion_10 : decode cX6_isVersion 10 = .ok (.invokestatic 35, 3) := by decide +kernel
theorem dX6_isVersion_13 : decode cX6_isVersion 13 = .ok (.ifCond .eq 20, 3) := by decide +kernel
theorem dX6_isVersion_16 : decode cX6_isVersion 16 = .ok (.aload_n 0, 1) := by decide +kernel
theorem dX6_isVersion_17 : decode cX6_isVersion 17 = .ok (.getfield 7, 3) := by decide +kernel
theorem dX6_isVersion_20 : decode cX6_isVersion 20 = .ok (.bipush 10, 2) := by decide +kernel
theorem dX6_isVersion_22 : decode cX6_isVersion 22 = .ok (.iload_n 1, 1) := by decide +kernel
theorem dX6_isVersion_23 : decode cX6_isVersion 23 = .ok (.iadd, 1) := by decide +kernel
theorem dX6_isVersion_24 : decode cX6_isVersion 24 = .ok (.iaload, 1) := by decide +kernel
theorem dX6_isVersion_25 : decode cX6_isVersion 25 = .ok (.iconst 1, 1) := by decide +kernel
theorem dX6_isVersion_26 : decode cX6_isVersion 26 = .ok (.if_icmp .ne 7, 3) := by decide +kernel
theorem dX6_isVersion_29 : decode cX6_isVersion 29 = .ok (.iconst 1, 1) := by decide +kernel
theorem dX6_isVersion_30 : decode cX6_isVersion 30 = .ok (.goto 4, 3) := by decide +kernel
theorem dX6_isVersion_33 : decode cX6_isVersion 33 = .ok (.iconst 0, 1) := by decide +kernel
theorem dX6_isVersion_34 : decode cX6_isVersion 34 = .ok (.ireturn, 1) := by decide +kernel
theorem dX6_isOf_0 : decode cX6_isOf 0 = .ok (.aload_n 0, 1) := by decide +kernel
theorem dX6_isOf_1 : decode cX6_isOf 1 = .ok (.getfield 7, 3) := by decide +kernel
theorem dX6_isOf_4 : decode cX6_isOf 4 = .ok (.bipush 10, 2) := by decide +kernel
theorem dX6_isOf_6 : decode cX6_isOf 6 = .ok (.iload_n 1, 1) := by decide +kernel
theorem dX6_isOf_7 : decode cX6_isOf 7 = .ok (.iadd, 1) := by decide +kernel
theorem dX6_isOf_8 : decode cX6_isOf 8 = .ok (.iaload, 1) := by decide +kernel
theorem dX6_isOf_9 : decode cX6_isOf 9 = .ok (.iconst 1, 1) := by decide +kernel
theorem dX6_isOf_10 : decode cX6_isOf 10 = .ok (.if_icmp .ne 20, 3) := by decide +kernel
theorem dX6_isOf_13 : decode cX6_isOf 13 = .ok (.aload_n 0, 1) := by decide +kernel
theorem dX6_isOf_14 : decode cX6_isOf 14 = .ok (.getfield 7, 3) := by decide +kernel
theorem dX6_isOf_17 : decode cX6_isOf 17 = .ok (.bipush 70, 2) := by decide +kernel
theorem dX6_isOf_19 : decode cX6_isOf 19 = .ok (.iload_n 1, 1) := by decide +kernel
theorem dX6_isOf_20 : decode cX6_isOf 20 = .ok (.iadd, 1) := by decide +kernel
theorem dX6_isOf_21 : decode cX6_isOf 21 = .ok (.iaload, 1) := by decide +kernel
theorem dX6_isOf_22 : decode cX6_isOf 22 = .ok (.iload_n 2, 1) := by decide +kernel
theorem dX6_isOf_23 : decode cX6_isOf 23 = .ok (.if_icmp .ne 7, 3) := by decide +kernel
theorem dX6_isOf_26 : decode cX6_isOf 26 = .ok (.iconst 1, 1) := by decide +kernel
theorem dX6_isOf_27 : decode cX6_isOf 27 = .ok (.goto 4, 3) := by decide +kernel
theorem dX6_isOf_30 : decode cX6_isOf 30 = .ok (.iconst 0, 1) := by decide +kernel
theorem dX6_isOf_31 : decode cX6_isOf 31 = .ok (.ireturn, 1) := by decide +kernel
set_option maxRecDepth 20000 in
theorem ggX6_valid_X6_isOf : GoodIn wsX6_valid wsX6_isOf := goodIn_ca (goodIn_r _ [6, 1, 10, 11, 12, 13, 14, 15, 16, 17, 18, 19, 20, 21, 22, 23, 24] (by decide +kernel) (by decide +kernel)) (goodIn_sub (fun _ h => List.mem_cons_of_mem _ (List.mem_append_right _ h)) (by decide +kernel))
set_option maxRecDepth 20000 in
theorem gX6_valid_X6_isOf : GoodIn wsX6_valid (wsV RX6 39 RX6 yX6_isOf wsX6_isOf) := goodIn_app (goodIn_of _ (by decide +kernel)) ggX6_valid_X6_isOf
set_option maxRecDepth 20000 in
theorem ggX6_valid_X6_in : GoodIn wsX6_valid wsX6_in := goodIn_r _ [9] (by decide +kernel) (by decide +kernel)
set_option maxRecDepth 20000 in
theorem gX6_valid_X6_in : GoodIn wsX6_valid (va_wsS RX6 35 yX6_in wsX6_in) := goodIn_app (goodIn_of _ (by decide +kernel)) ggX6_valid_X6_in
theorem dX6_valid_0 : decode cX6_valid 0 = .ok (.iconst 0, 1) := by decide +kernel
theorem dX6_valid_1 : decode cX6_valid 1 = .ok (.istore_n 3, 1) := by decide +kernel
theorem dX6_valid_2 : decode cX6_valid 2 = .ok (.iload_n 3, 1) := by decide +kernel
theorem dX6_valid_3 : decode cX6_valid 3 = .ok (.aload_n 0, 1) := by decide +kernel
theorem dX6_valid_4 : decode cX6_valid 4 = .ok (.getfield 7, 3) := by decide +kernel
theorem dX6_valid_7 : decode cX6_valid 7 = .ok (.iconst 0, 1) := by decide +kernel
theorem dX6_valid_8 : decode cX6_valid 8 = .ok (.iaload, 1) := by decide +kernel
theorem dX6_valid_9 : decode cX6_valid 9 = .ok (.if_icmp .ge 49, 3) := by decide +kernel
theorem dX6_valid_12 : decode cX6_valid 12 = .ok (.aload_n 0, 1) := by decide +kernel
theorem dX6_valid_13 : decode cX6_valid 13 = .ok (.iload_n 3, 1) := by decide +kernel
theorem dX6_valid_14 : decode cX6_valid 14 = .ok (.iload_n 1, 1) := by decide +kernel
theorem dX6_valid_15 : decode cX6_valid 15 = .ok (.invokevirtual 39, 3) := by decide +kernel
theorem dX6_valid_18 : decode cX6_valid 18 = .ok (.ifCond .eq 34, 3) := by decide +kernel
theorem dX6_valid_21 : decode cX6_valid 21 = .ok (.iload_n 2, 1) := by decide +kernel
theorem dX6_valid_22 : decode cX6_valid 22 = .ok (.aload_n 0, 1) := by decide +kernel
theorem dX6_valid_23 : decode cX6_valid 23 = .ok (.getfield 7, 3) := by decide +kernel
theorem dX6_valid_26 : decode cX6_valid 26 = .ok (.sipush 130, 3) := by decide +kernel
theorem dX6_valid_29 : decode cX6_valid 29 = .ok (.iload_n 3, 1) := by decide +kernel
theorem dX6_valid_30 : decode cX6_valid 30 = .ok (.iadd, 1) := by decide +kernel
theorem dX6_valid_31 : decode cX6_valid 31 = .ok (.iaload, 1) := by decide +kernel
theorem dX6_valid_32 : decode cX6_valid 32 = .ok (.aload_n 0, 1) := by decide +kernel
theorem dX6_valid_33 : decode cX6_valid 33 = .ok (.getfield 7, 3) := by decide +kernel
theorem dX6_valid_36 : decode cX6_valid 36 = .ok (.sipush 190, 3) := by decide +kernel
theorem dX6_valid_39 : decode cX6_valid 39 = .ok (.iload_n 3, 1) := by decide +kernel
theorem dX6_valid_40 : decode cX6_valid 40 = .ok (.iadd, 1) := by decide +kernel
theorem dX6_valid_41 : decode cX6_valid 41 = .ok (.iaload, 1) := by decide +kernel
theorem dX6_valid_42 : decode cX6_valid 42 = .ok (.iconst 1, 1) := by decide +kernel
theorem dX6_valid_43 : decode cX6_valid 43 = .ok (.isub, 1) := by decide +kernel
theorem dX6_valid_44 : decode cX6_valid 44 = .ok (.invokestatic 35, 3) := by decide +kernel
theorem dX6_valid_47 : decode cX6_valid 47 = .ok (.ifCond .eq 5, 3) := by decide +kernel
theorem dX6_valid_50 : decode cX6_valid 50 = .ok (.iload_n 3, 1) := by decide +kernel
theorem dX6_valid_51 : decode cX6_valid 51 = .ok (.ireturn, 1) := by decide +kernel
theorem dX6_valid_52 : decode cX6_valid 52 = .ok (.iinc 3 1, 3) := by decide +kernel
theorem dX6_valid_55 : decode cX6_valid 55 = .ok (.goto (-53), 3) := by decide +kernel
theorem dX6_valid_58 : decode cX6_valid 58 = .ok (.iconst (-1), 1) := by decide +kernel
theorem dX6_valid_59 : decode cX6_valid 59 = .ok (.ireturn, 1) := by decide +kernel
set_option maxRecDepth 20000 in
theorem ggX6_following_X6_isOf : GoodIn wsX6_following wsX6_isOf := goodIn_ca (goodIn_r _ [6, 1, 7, 8, 9, 10, 11, 12, 13, 14, 15, 16, 17, 18, 19, 20, 21] (by decide +kernel) (by decide +kernel)) (goodIn_sub (fun _ h => List.mem_cons_of_mem _ (List.mem_append_right _ h)) (by decide +kernel))
set_option maxRecDepth 20000 in
theorem gX6_following_X6_isOf : GoodIn wsX6_following (wsV RX6 39 RX6 yX6_isOf wsX6_isOf) := goodIn_app (goodIn_of _ (by decide +kernel)) ggX6_following_X6_isOf
theorem dX6_following_0 : decode cX6_following 0 = .ok (.iconst (-1), 1) := by decide +kernel
theorem dX6_following_1 : decode cX6_following 1 = .ok (.istore_n 3, 1) := by decide +kernel
theorem dX6_following_2 : decode cX6_following 2 = .ok (.iconst 0, 1) := by decide +kernel
theorem dX6_following_3 : decode cX6_following 3 = .ok (.istore 4, 2) := by decide +kernel
theorem dX6_following_5 : decode cX6_following 5 = .ok (.iload 4, 2) := by decide +kernel
theorem dX6_following_7 : decode cX6_following 7 = .ok (.aload_n 0, 1) := by decide +kernel
theorem dX6_following_8 : decode cX6_following 8 = .ok (.getfield 7, 3) := by decide +kernel
theorem dX6_following_11 : decode cX6_following 11 = .ok (.iconst 0, 1) := by decide +kernel
theorem dX6_following_12 : decode cX6_following 12 = .ok (.iaload, 1) := by decide +kernel
theorem dX6_following_13 : decode cX6_following 13 = .ok (.if_icmp .ge 65, 3) := by decide +kernel
theorem dX6_following_16 : decode cX6_following 16 = .ok (.aload_n 0, 1) := by decide +kernel
theorem dX6_following_17 : decode cX6_following 17 = .ok (.iload 4, 2) := by decide +kernel
theorem dX6_following_19 : decode cX6_following 19 = .ok (.iload_n 1, 1) := by decide +kernel
theorem dX6_following_20 : decode cX6_following 20 = .ok (.invokevirtual 39, 3) := by decide +kernel
theorem dX6_following_23 : decode cX6_following 23 = .ok (.ifCond .eq 49, 3) := by decide +kernel
theorem dX6_following_26 : decode cX6_following 26 = .ok (.aload_n 0, 1) := by decide +kernel
theorem dX6_following_27 : decode cX6_following 27 = .ok (.getfield 7, 3) := by decide +kernel
theorem dX6_following_30 : decode cX6_following 30 = .ok (.sipush 130, 3) := by decide +kernel
theorem dX6_following_33 : decode cX6_following 33 = .ok (.iload 4, 2) := by decide +kernel
theorem dX6_following_35 : decode cX6_following 35 = .ok (.iadd, 1) := by decide +kernel
theorem dX6_following_36 : decode cX6_following 36 = .ok (.iaload, 1) := by decide +kernel
theorem dX6_following_37 : decode cX6_following 37 = .ok (.iload_n 2, 1) := by decide +kernel
theorem dX6_following_38 : decode cX6_following 38 = .ok (.if_icmp .le 34, 3) := by decide +kernel
theorem dX6_following_41 : decode cX6_following 41 = .ok (.iload_n 3, 1) := by decide +kernel
theorem dX6_following_42 : decode cX6_following 42 = .ok (.ifCond .lt 27, 3) := by decide +kernel
theorem dX6_following_45 : decode cX6_following 45 = .ok (.aload_n 0, 1) := by decide +kernel
theorem dX6_following_46 : decode cX6_following 46 = .ok (.getfield 7, 3) := by decide +kernel
theorem dX6_following_49 : decode cX6_following 49 = .ok (.sipush 130, 3) := by decide +kernel
theorem dX6_following_52 : decode cX6_following 52 = .ok (.iload 4, 2) := by decide +kernel
theorem dX6_following_54 : decode cX6_following 54 = .ok (.iadd, 1) := by decide +kernel
theorem dX6_following_55 : decode cX6_following 55 = .ok (.iaload, 1) := by decide +kernel
theorem dX6_following_56 : decode cX6_following 56 = .ok (.aload_n 0, 1) := by decide +kernel
theorem dX6_following_57 : decode cX6_following 57 = .ok (.getfield 7, 3) := by decide +kernel
theorem dX6_following_60 : decode cX6_following 60 = .ok (.sipush 130, 3) := by decide +kernel
theorem dX6_following_63 : decode cX6_following 63 = .ok (.iload_n 3, 1) := by decide +kernel
theorem dX6_following_64 : decode cX6_following 64 = .ok (.iadd, 1) := by decide +kernel
theorem dX6_following_65 : decode cX6_following 65 = .ok (.iaload, 1) := by decide +kernel
theorem dX6_following_66 : decode cX6_following 66 = .ok (.if_icmp .ge 6, 3) := by decide +kernel
theorem dX6_following_69 : decode cX6_following 69 = .ok (.iload 4, 2) := by decide +kernel
theorem dX6_following_71 : decode cX6_following 71 = .ok (.istore_n 3, 1) := by decide +kernel
theorem dX6_following_72 : decode cX6_following 72 = .ok (.iinc 4 1, 3) := by decide +kernel
theorem dX6_following_75 : decode cX6_following 75 = .ok (.goto (-70), 3) := by decide +kernel
theorem dX6_following_78 : decode cX6_following 78 = .ok (.iload_n 3, 1) := by decide +kernel
theorem dX6_following_79 : decode cX6_following 79 = .ok (.ireturn, 1) := by decide +kernel
theorem dX6_makes_0 : decode cX6_makes 0 = .ok (.aload_n 0, 1) := by decide +kernel
theorem dX6_makes_1 : decode cX6_makes 1 = .ok (.getfield 7, 3) := by decide +kernel
theorem dX6_makes_4 : decode cX6_makes 4 = .ok (.iconst 0, 1) := by decide +kernel
theorem dX6_makes_5 : decode cX6_makes 5 = .ok (.iaload, 1) := by decide +kernel
theorem dX6_makes_6 : decode cX6_makes 6 = .ok (.istore 6, 2) := by decide +kernel
theorem dX6_makes_8 : decode cX6_makes 8 = .ok (.aload_n 0, 1) := by decide +kernel
theorem dX6_makes_9 : decode cX6_makes 9 = .ok (.getfield 7, 3) := by decide +kernel
theorem dX6_makes_12 : decode cX6_makes 12 = .ok (.iconst 0, 1) := by decide +kernel
theorem dX6_makes_13 : decode cX6_makes 13 = .ok (.dup2, 1) := by decide +kernel
theorem dX6_makes_14 : decode cX6_makes 14 = .ok (.iaload, 1) := by decide +kernel
theorem dX6_makes_15 : decode cX6_makes 15 = .ok (.iconst 1, 1) := by decide +kernel
theorem dX6_makes_16 : decode cX6_makes 16 = .ok (.iadd, 1) := by decide +kernel
theorem dX6_makes_17 : decode cX6_makes 17 = .ok (.iastore, 1) := by decide +kernel
theorem dX6_makes_18 : decode cX6_makes 18 = .ok (.aload_n 0, 1) := by decide +kernel
theorem dX6_makes_19 : decode cX6_makes 19 = .ok (.getfield 7, 3) := by decide +kernel
theorem dX6_makes_22 : decode cX6_makes 22 = .ok (.bipush 10, 2) := by decide +kernel
theorem dX6_makes_24 : decode cX6_makes 24 = .ok (.iload 6, 2) := by decide +kernel
theorem dX6_makes_26 : decode cX6_makes 26 = .ok (.iadd, 1) := by decide +kernel
theorem dX6_makes_27 : decode cX6_makes 27 = .ok (.iconst 1, 1) := by decide +kernel
theorem dX6_makes_28 : decode cX6_makes 28 = .ok (.iastore, 1) := by decide +kernel
theorem dX6_makes_29 : decode cX6_makes 29 = .ok (.aload_n 0, 1) := by decide +kernel
theorem dX6_makes_30 : decode cX6_makes 30 = .ok (.getfield 7, 3) := by decide +kernel
theorem dX6_makes_33 : decode cX6_makes 33 = .ok (.bipush 70, 2) := by decide +kernel
theorem dX6_makes_35 : decode cX6_makes 35 = .ok (.iload 6, 2) := by decide +kernel
theorem dX6_makes_37 : decode cX6_makes 37 = .ok (.iadd, 1) := by decide +kernel
theorem dX6_makes_38 : decode cX6_makes 38 = .ok (.iload_n 1, 1) := by decide +kernel
theorem dX6_makes_39 : decode cX6_makes 39 = .ok (.iastore, 1) := by decide +kernel
theorem dX6_makes_40 : decode cX6_makes 40 = .ok (.aload_n 0, 1) := by decide +kernel
theorem dX6_makes_41 : decode cX6_makes 41 = .ok (.getfield 7, 3) := by decide +kernel
theorem dX6_makes_44 : decode cX6_makes 44 = .ok (.sipush 130, 3) := by decide +kernel
theorem dX6_makes_47 : decode cX6_makes 47 = .ok (.iload 6, 2) := by decide +kernel
theorem dX6_makes_49 : decode cX6_makes 49 = .ok (.iadd, 1) := by decide +kernel
theorem dX6_makes_50 : decode cX6_makes 50 = .ok (.iload_n 2, 1) := by decide +kernel
theorem dX6_makes_51 : decode cX6_makes 51 = .ok (.iastore, 1) := by decide +kernel
theorem dX6_makes_52 : decode cX6_makes 52 = .ok (.aload_n 0, 1) := by decide +kernel
theorem dX6_makes_53 : decode cX6_makes 53 = .ok (.getfield 7, 3) := by decide +kernel
theorem dX6_makes_56 : decode cX6_makes 56 = .ok (.sipush 190, 3) := by decide +kernel
theorem dX6_makes_59 : decode cX6_makes 59 = .ok (.iload 6, 2) := by decide +kernel
theorem dX6_makes_61 : decode cX6_makes 61 = .ok (.iadd, 1) := by decide +kernel
theorem dX6_makes_62 : decode cX6_makes 62 = .ok (.iload_n 3, 1) := by decide +kernel
theorem dX6_makes_63 : decode cX6_makes 63 = .ok (.iastore, 1) := by decide +kernel
theorem dX6_makes_64 : decode cX6_makes 64 = .ok (.aload_n 0, 1) := by decide +kernel
theorem dX6_makes_65 : decode cX6_makes 65 = .ok (.getfield 7, 3) := by decide +kernel
theorem dX6_makes_68 : decode cX6_makes 68 = .ok (.sipush 250, 3) := by decide +kernel
theorem dX6_makes_71 : decode cX6_makes 71 = .ok (.iload 6, 2) := by decide +kernel
theorem dX6_makes_73 : decode cX6_makes 73 = .ok (.iadd, 1) := by decide +kernel
theorem dX6_makes_74 : decode cX6_makes 74 = .ok (.iload 4, 2) := by decide +kernel
theorem dX6_makes_76 : decode cX6_makes 76 = .ok (.iastore, 1) := by decide +kernel
theorem dX6_makes_77 : decode cX6_makes 77 = .ok (.aload_n 0, 1) := by decide +kernel
theorem dX6_makes_78 : decode cX6_makes 78 = .ok (.getfield 7, 3) := by decide +kernel
theorem dX6_makes_81 : decode cX6_makes 81 = .ok (.sipush 310, 3) := by decide +kernel
theorem dX6_makes_84 : decode cX6_makes 84 = .ok (.iload 6, 2) := by decide +kernel
theorem dX6_makes_86 : decode cX6_makes 86 = .ok (.iadd, 1) := by decide +kernel
theorem dX6_makes_87 : decode cX6_makes 87 = .ok (.iload 5, 2) := by decide +kernel
theorem dX6_makes_89 : decode cX6_makes 89 = .ok (.ifCond .eq 7, 3) := by decide +kernel
theorem dX6_makes_92 : decode cX6_makes 92 = .ok (.iconst 1, 1) := by decide +kernel
theorem dX6_makes_93 : decode cX6_makes 93 = .ok (.goto 4, 3) := by decide +kernel
theorem dX6_makes_96 : decode cX6_makes 96 = .ok (.iconst 0, 1) := by decide +kernel
theorem dX6_makes_97 : decode cX6_makes 97 = .ok (.iastore, 1) := by decide +kernel
theorem dX6_makes_98 : decode cX6_makes 98 = .ok (.iload 6, 2) := by decide +kernel
theorem dX6_makes_100 : decode cX6_makes 100 = .ok (.ireturn, 1) := by decide +kernel
theorem dX6_becomes_0 : decode cX6_becomes 0 = .ok (.aload_n 0, 1) := by decide +kernel
theorem dX6_becomes_1 : decode cX6_becomes 1 = .ok (.getfield 7, 3) := by decide +kernel
theorem dX6_becomes_4 : decode cX6_becomes 4 = .ok (.sipush 250, 3) := by decide +kernel
theorem dX6_becomes_7 : decode cX6_becomes 7 = .ok (.iload_n 1, 1) := by decide +kernel
theorem dX6_becomes_8 : decode cX6_becomes 8 = .ok (.iadd, 1) := by decide +kernel
theorem dX6_becomes_9 : decode cX6_becomes 9 = .ok (.iload_n 2, 1) := by decide +kernel
theorem dX6_becomes_10 : decode cX6_becomes 10 = .ok (.iastore, 1) := by decide +kernel
theorem dX6_becomes_11 : decode cX6_becomes 11 = .ok (.aload_n 0, 1) := by decide +kernel
theorem dX6_becomes_12 : decode cX6_becomes 12 = .ok (.getfield 7, 3) := by decide +kernel
theorem dX6_becomes_15 : decode cX6_becomes 15 = .ok (.sipush 310, 3) := by decide +kernel
theorem dX6_becomes_18 : decode cX6_becomes 18 = .ok (.iload_n 1, 1) := by decide +kernel
theorem dX6_becomes_19 : decode cX6_becomes 19 = .ok (.iadd, 1) := by decide +kernel
theorem dX6_becomes_20 : decode cX6_becomes 20 = .ok (.iconst 0, 1) := by decide +kernel
theorem dX6_becomes_21 : decode cX6_becomes 21 = .ok (.iastore, 1) := by decide +kernel
theorem dX6_becomes_22 : decode cX6_becomes 22 = .ok (.return_, 1) := by decide +kernel
set_option maxRecDepth 20000 in
theorem ggX6_changes_X6_valid : GoodIn wsX6_changes wsX6_valid := goodIn_ca (goodIn_r _ [6, 1, 7, 8, 9, 5, 10, 11, 12, 13, 26, 27, 28, 29, 30, 31, 32, 33, 34, 35, 36, 37, 38, 39, 40] (by decide +kernel) (by decide +kernel)) (goodIn_sub (fun _ h => List.mem_cons_of_mem _ (List.mem_append_right _ h)) (by decide +kernel))
set_option maxRecDepth 20000 in
theorem gX6_changes_X6_valid : GoodIn wsX6_changes (wsV RX6 43 RX6 yX6_valid wsX6_valid) := goodIn_app (goodIn_of _ (by decide +kernel)) ggX6_changes_X6_valid
set_option maxRecDepth 20000 in
theorem ggX6_changes_X6_following : GoodIn wsX6_changes wsX6_following := goodIn_ca (goodIn_r _ [17, 1, 7, 8, 9, 5, 10, 26, 27, 28, 29, 30, 31, 32, 33, 34, 35, 36, 37, 38, 39, 40] (by decide +kernel) (by decide +kernel)) (goodIn_sub (fun _ h => List.mem_cons_of_mem _ (List.mem_append_right _ h)) (by decide +kernel))
set_option maxRecDepth 20000 in
theorem gX6_changes_X6_following : GoodIn wsX6_changes (wsV RX6 47 RX6 yX6_following wsX6_following) := goodIn_app (goodIn_of _ (by decide +kernel)) ggX6_changes_X6_following
set_option maxRecDepth 20000 in
theorem ggX6_changes_X6_becomes : GoodIn wsX6_changes wsX6_becomes := goodIn_ca (goodIn_r _ [21, 1, 26, 27, 28, 29, 30, 31, 32, 33, 34, 35, 36, 37, 38, 39, 40] (by decide +kernel) (by decide +kernel)) (goodIn_sub (fun _ h => List.mem_cons_of_mem _ (List.mem_append_right _ h)) (by decide +kernel))
set_option maxRecDepth 20000 in
theorem gX6_changes_X6_becomes : GoodIn wsX6_changes (wsV RX6 50 RX6 yX6_becomes wsX6_becomes) := goodIn_app (goodIn_of _ (by decide +kernel)) ggX6_changes_X6_becomes
set_option maxRecDepth 20000 in
theorem ggX6_changes_X6_makes : GoodIn wsX6_changes wsX6_makes := goodIn_ca (goodIn_r _ [25, 1, 26, 27, 28, 29, 30, 31, 32, 33, 34, 35, 36, 37, 38, 39, 40] (by decide +kernel) (by decide +kernel)) (goodIn_sub (fun _ h => List.mem_cons_of_mem _ (List.mem_append_right _ h)) (by decide +kernel))
set_option maxRecDepth 20000 in
theorem gX6_changes_X6_makes : GoodIn wsX6_changes (wsV RX6 54 RX6 yX6_makes wsX6_makes) := goodIn_app (goodIn_of _ (by decide +kernel)) ggX6_changes_X6_makes
theorem dX6_changes_0 : decode cX6_changes 0 = .ok (.aload_n 0, 1) := by decide +kernel
theorem dX6_changes_1 : decode cX6_changes 1 = .ok (.iload_n 1, 1) := by decide +kernel
theorem dX6_changes_2 : decode cX6_changes 2 = .ok (.iload_n 2, 1) := by decide +kernel
theorem dX6_changes_3 : decode cX6_changes 3 = .ok (.invokevirtual 43, 3) := by decide +kernel
theorem dX6_changes_6 : decode cX6_changes 6 = .ok (.istore 4, 2) := by decide +kernel
theorem dX6_changes_8 : decode cX6_changes 8 = .ok (.aload_n 0, 1) := by decide +kernel
theorem dX6_changes_9 : decode cX6_changes 9 = .ok (.iload_n 1, 1) := by decide +kernel
theorem dX6_changes_10 : decode cX6_changes 10 = .ok (.iload_n 2, 1) := by decide +kernel
theorem dX6_changes_11 : decode cX6_changes 11 = .ok (.invokevirtual 47, 3) := by decide +kernel
theorem dX6_changes_14 : decode cX6_changes 14 = .ok (.istore 5, 2) := by decide +kernel
theorem dX6_changes_16 : decode cX6_changes 16 = .ok (.iload 4, 2) := by decide +kernel
theorem dX6_changes_18 : decode cX6_changes 18 = .ok (.ifCond .lt 28, 3) := by decide +kernel
theorem dX6_changes_21 : decode cX6_changes 21 = .ok (.aload_n 0, 1) := by decide +kernel
theorem dX6_changes_22 : decode cX6_changes 22 = .ok (.getfield 7, 3) := by decide +kernel
theorem dX6_changes_25 : decode cX6_changes 25 = .ok (.sipush 130, 3) := by decide +kernel
theorem dX6_changes_28 : decode cX6_changes 28 = .ok (.iload 4, 2) := by decide +kernel
theorem dX6_changes_30 : decode cX6_changes 30 = .ok (.iadd, 1) := by decide +kernel
theorem dX6_changes_31 : decode cX6_changes 31 = .ok (.iaload, 1) := by decide +kernel
theorem dX6_changes_32 : decode cX6_changes 32 = .ok (.iload_n 2, 1) := by decide +kernel
theorem dX6_changes_33 : decode cX6_changes 33 = .ok (.if_icmp .ne 13, 3) := by decide +kernel
theorem dX6_changes_36 : decode cX6_changes 36 = .ok (.aload_n 0, 1) := by decide +kernel
theorem dX6_changes_37 : decode cX6_changes 37 = .ok (.iload 4, 2) := by decide +kernel
theorem dX6_changes_39 : decode cX6_changes 39 = .ok (.iload_n 3, 1) := by decide +kernel
theorem dX6_changes_40 : decode cX6_changes 40 = .ok (.invokevirtual 50, 3) := by decide +kernel
theorem dX6_changes_43 : decode cX6_changes 43 = .ok (.iload 4, 2) := by decide +kernel
theorem dX6_changes_45 : decode cX6_changes 45 = .ok (.ireturn, 1) := by decide +kernel
theorem dX6_changes_46 : decode cX6_changes 46 = .ok (.iload 4, 2) := by decide +kernel
theorem dX6_changes_48 : decode cX6_changes 48 = .ok (.ifCond .lt 35, 3) := by decide +kernel
theorem dX6_changes_51 : decode cX6_changes 51 = .ok (.aload_n 0, 1) := by decide +kernel
theorem dX6_changes_52 : decode cX6_changes 52 = .ok (.getfield 7, 3) := by decide +kernel
theorem dX6_changes_55 : decode cX6_changes 55 = .ok (.sipush 310, 3) := by decide +kernel
theorem dX6_changes_58 : decode cX6_changes 58 = .ok (.iload 4, 2) := by decide +kernel
theorem dX6_changes_60 : decode cX6_changes 60 = .ok (.iadd, 1) := by decide +kernel
theorem dX6_changes_61 : decode cX6_changes 61 = .ok (.iaload, 1) := by decide +kernel
theorem dX6_changes_62 : decode cX6_changes 62 = .ok (.ifCond .ne 21, 3) := by decide +kernel
theorem dX6_changes_65 : decode cX6_changes 65 = .ok (.aload_n 0, 1) := by decide +kernel
theorem dX6_changes_66 : decode cX6_changes 66 = .ok (.getfield 7, 3) := by decide +kernel
theorem dX6_changes_69 : decode cX6_changes 69 = .ok (.sipush 250, 3) := by decide +kernel
theorem dX6_changes_72 : decode cX6_changes 72 = .ok (.iload 4, 2) := by decide +kernel
theorem dX6_changes_74 : decode cX6_changes 74 = .ok (.iadd, 1) := by decide +kernel
theorem dX6_changes_75 : decode cX6_changes 75 = .ok (.iaload, 1) := by decide +kernel
theorem dX6_changes_76 : decode cX6_changes 76 = .ok (.iload_n 3, 1) := by decide +kernel
theorem dX6_changes_77 : decode cX6_changes 77 = .ok (.if_icmp .ne 6, 3) := by decide +kernel
theorem dX6_changes_80 : decode cX6_changes 80 = .ok (.iload 4, 2) := by decide +kernel
theorem dX6_changes_82 : decode cX6_changes 82 = .ok (.ireturn, 1) := by decide +kernel
theorem dX6_changes_83 : decode cX6_changes 83 = .ok (.iload 4, 2) := by decide +kernel
theorem dX6_changes_85 : decode cX6_changes 85 = .ok (.ifCond .ge 45, 3) := by decide +kernel
theorem dX6_changes_88 : decode cX6_changes 88 = .ok (.iload 5, 2) := by decide +kernel
theorem dX6_changes_90 : decode cX6_changes 90 = .ok (.ifCond .lt 40, 3) := by decide +kernel
theorem dX6_changes_93 : decode cX6_changes 93 = .ok (.aload_n 0, 1) := by decide +kernel
theorem dX6_changes_94 : decode cX6_changes 94 = .ok (.getfield 7, 3) := by decide +kernel
theorem dX6_changes_97 : decode cX6_changes 97 = .ok (.sipush 310, 3) := by decide +kernel
theorem dX6_changes_100 : decode cX6_changes 100 = .ok (.iload 5, 2) := by decide +kernel
theorem dX6_changes_102 : decode cX6_changes 102 = .ok (.iadd, 1) := by decide +kernel
theorem dX6_changes_103 : decode cX6_changes 103 = .ok (.iaload, 1) := by decide +kernel
theorem dX6_changes_104 : decode cX6_changes 104 = .ok (.iconst 1, 1) := by decide +kernel
theorem dX6_changes_105 : decode cX6_changes 105 = .ok (.if_icmp .ne 25, 3) := by decide +kernel
theorem dX6_changes_108 : decode cX6_changes 108 = .ok (.aload_n 0, 1) := by decide +kernel
theorem dX6_changes_109 : decode cX6_changes 109 = .ok (.getfield 7, 3) := by decide +kernel
theorem dX6_changes_112 : decode cX6_changes 112 = .ok (.sipush 130, 3) := by decide +kernel
theorem dX6_changes_115 : decode cX6_changes 115 = .ok (.iload 5, 2) := by decide +kernel
theorem dX6_changes_117 : decode cX6_changes 117 = .ok (.iadd, 1) := by decide +kernel
theorem dX6_changes_118 : decode cX6_changes 118 = .ok (.iload_n 2, 1) := by decide +kernel
theorem dX6_changes_119 : decode cX6_changes 119 = .ok (.iastore, 1) := by decide +kernel
theorem dX6_changes_120 : decode cX6_changes 120 = .ok (.aload_n 0, 1) := by decide +kernel
theorem dX6_changes_121 : decode cX6_changes 121 = .ok (.iload 5, 2) := by decide +kernel
theorem dX6_changes_123 : decode cX6_changes 123 = .ok (.iload_n 3, 1) := by decide +kernel
theorem dX6_changes_124 : decode cX6_changes 124 = .ok (.invokevirtual 50, 3) := by decide +kernel
theorem dX6_changes_127 : decode cX6_changes 127 = .ok (.iload 5, 2) := by decide +kernel
theorem dX6_changes_129 : decode cX6_changes 129 = .ok (.ireturn, 1) := by decide +kernel
theorem dX6_changes_130 : decode cX6_changes 130 = .ok (.aload_n 0, 1) := by decide +kernel
theorem dX6_changes_131 : decode cX6_changes 131 = .ok (.getfield 7, 3) := by decide +kernel
theorem dX6_changes_134 : decode cX6_changes 134 = .ok (.iconst 0, 1) := by decide +kernel
theorem dX6_changes_135 : decode cX6_changes 135 = .ok (.iaload, 1) := by decide +kernel
theorem dX6_changes_136 : decode cX6_changes 136 = .ok (.bipush 60, 2) := by decide +kernel
theorem dX6_changes_138 : decode cX6_changes 138 = .ok (.if_icmp .ne 5, 3) := by decide +kernel
theorem dX6_changes_141 : decode cX6_changes 141 = .ok (.iconst (-1), 1) := by decide +kernel
theorem dX6_changes_142 : decode cX6_changes 142 = .ok (.ireturn, 1) := by decide +kernel
theorem dX6_changes_143 : decode cX6_changes 143 = .ok (.iload 4, 2) := by decide +kernel
theorem dX6_changes_145 : decode cX6_changes 145 = .ok (.ifCond .lt 17, 3) := by decide +kernel
theorem dX6_changes_148 : decode cX6_changes 148 = .ok (.aload_n 0, 1) := by decide +kernel
theorem dX6_changes_149 : decode cX6_changes 149 = .ok (.getfield 7, 3) := by decide +kernel
theorem dX6_changes_152 : decode cX6_changes 152 = .ok (.sipush 190, 3) := by decide +kernel
theorem dX6_changes_155 : decode cX6_changes 155 = .ok (.iload 4, 2) := by decide +kernel
theorem dX6_changes_157 : decode cX6_changes 157 = .ok (.iadd, 1) := by decide +kernel
theorem dX6_changes_158 : decode cX6_changes 158 = .ok (.iaload, 1) := by decide +kernel
theorem dX6_changes_159 : decode cX6_changes 159 = .ok (.goto 25, 3) := by decide +kernel
theorem dX6_changes_162 : decode cX6_changes 162 = .ok (.iload 5, 2) := by decide +kernel
theorem dX6_changes_164 : decode cX6_changes 164 = .ok (.ifCond .lt 17, 3) := by decide +kernel
theorem dX6_changes_167 : decode cX6_changes 167 = .ok (.aload_n 0, 1) := by decide +kernel
theorem dX6_changes_168 : decode cX6_changes 168 = .ok (.getfield 7, 3) := by decide +kernel
theorem dX6_changes_171 : decode cX6_changes 171 = .ok (.sipush 130, 3) := by decide +kernel
theorem dX6_changes_174 : decode cX6_changes 174 = .ok (.iload 5, 2) := by decide +kernel
theorem dX6_changes_176 : decode cX6_changes 176 = .ok (.iadd, 1) := by decide +kernel
theorem dX6_changes_177 : decode cX6_changes 177 = .ok (.iaload, 1) := by decide +kernel
theorem dX6_changes_178 : decode cX6_changes 178 = .ok (.goto 6, 3) := by decide +kernel
theorem dX6_changes_181 : decode cX6_changes 181 = .ok (.sipush 1000, 3) := by decide +kernel
theorem dX6_changes_184 : decode cX6_changes 184 = .ok (.istore 6, 2) := by decide +kernel
theorem dX6_changes_186 : decode cX6_changes 186 = .ok (.iload 4, 2) := by decide +kernel
theorem dX6_changes_188 : decode cX6_changes 188 = .ok (.ifCond .lt 15, 3) := by decide +kernel
theorem dX6_changes_191 : decode cX6_changes 191 = .ok (.aload_n 0, 1) := by decide +kernel
theorem dX6_changes_192 : decode cX6_changes 192 = .ok (.getfield 7, 3) := by decide +kernel
theorem dX6_changes_195 : decode cX6_changes 195 = .ok (.sipush 190, 3) := by decide +kernel
theorem dX6_changes_198 : decode cX6_changes 198 = .ok (.iload 4, 2) := by decide +kernel
theorem dX6_changes_200 : decode cX6_changes 200 = .ok (.iadd, 1) := by decide +kernel
theorem dX6_changes_201 : decode cX6_changes 201 = .ok (.iload_n 2, 1) := by decide +kernel
theorem dX6_changes_202 : decode cX6_changes 202 = .ok (.iastore, 1) := by decide +kernel
theorem dX6_changes_203 : decode cX6_changes 203 = .ok (.aload_n 0, 1) := by decide +kernel
theorem dX6_changes_204 : decode cX6_changes 204 = .ok (.iload_n 1, 1) := by decide +kernel
theorem dX6_changes_205 : decode cX6_changes 205 = .ok (.iload_n 2, 1) := by decide +kernel
theorem dX6_changes_206 : decode cX6_changes 206 = .ok (.iload 6, 2) := by decide +kernel
theorem dX6_changes_208 : decode cX6_changes 208 = .ok (.iload_n 3, 1) := by decide +kernel
theorem dX6_changes_209 : decode cX6_changes 209 = .ok (.iconst 0, 1) := by decide +kernel
theorem dX6_changes_210 : decode cX6_changes 210 = .ok (.invokevirtual 54, 3) := by decide +kernel
theorem dX6_changes_213 : decode cX6_changes 213 = .ok (.ireturn, 1) := by decide +kernel
set_option maxRecDepth 20000 in
theorem ggX6_versionOf_X6_valid : GoodIn wsX6_versionOf wsX6_valid := goodIn_ca (goodIn_r _ [6, 1, 7, 8, 9, 5, 10, 11, 12, 13, 14, 15, 16, 17, 18, 19, 20, 21, 22, 23, 24, 25, 26, 27, 28] (by decide +kernel) (by decide +kernel)) (goodIn_sub (fun _ h => List.mem_cons_of_mem _ (List.mem_append_right _ h)) (by decide +kernel))
set_option maxRecDepth 20000 in
theorem gX6_versionOf_X6_valid : GoodIn wsX6_versionOf (wsV RX6 43 RX6 yX6_valid wsX6_valid) := goodIn_app (goodIn_of _ (by decide +kernel)) ggX6_versionOf_X6_valid
theorem dX6_versionOf_0 : decode cX6_versionOf 0 = .ok (.aload_n 0, 1) := by decide +kernel
theorem dX6_versionOf_1 : decode cX6_versionOf 1 = .ok (.aload_n 0, 1) := by decide +kernel
theorem dX6_versionOf_2 : decode cX6_versionOf 2 = .ok (.getfield 7, 3) := by decide +kernel
theorem dX6_versionOf_5 : decode cX6_versionOf 5 = .ok (.sipush 370, 3) := by decide +kernel
theorem dX6_versionOf_8 : decode cX6_versionOf 8 = .ok (.iload_n 1, 1) := by decide +kernel
theorem dX6_versionOf_9 : decode cX6_versionOf 9 = .ok (.iadd, 1) := by decide +kernel
theorem dX6_versionOf_10 : decode cX6_versionOf 10 = .ok (.iaload, 1) := by decide +kernel
theorem dX6_versionOf_11 : decode cX6_versionOf 11 = .ok (.aload_n 0, 1) := by decide +kernel
theorem dX6_versionOf_12 : decode cX6_versionOf 12 = .ok (.getfield 7, 3) := by decide +kernel
theorem dX6_versionOf_15 : decode cX6_versionOf 15 = .ok (.sipush 430, 3) := by decide +kernel
theorem dX6_versionOf_18 : decode cX6_versionOf 18 = .ok (.iload_n 1, 1) := by decide +kernel
theorem dX6_versionOf_19 : decode cX6_versionOf 19 = .ok (.iadd, 1) := by decide +kernel
theorem dX6_versionOf_20 : decode cX6_versionOf 20 = .ok (.iaload, 1) := by decide +kernel
theorem dX6_versionOf_21 : decode cX6_versionOf 21 = .ok (.invokevirtual 43, 3) := by decide +kernel
theorem dX6_versionOf_24 : decode cX6_versionOf 24 = .ok (.ireturn, 1) := by decide +kernel
set_option maxRecDepth 20000 in
theorem ggX6_begins_X6_versionOf : GoodIn wsX6_begins wsX6_versionOf := goodIn_ca (goodIn_r _ [8, 1, 9, 10, 11, 7, 12, 13, 14, 15, 16, 17, 18, 19, 20, 21, 22, 23, 24, 25, 26, 27, 28, 29, 30, 31, 32, 33, 34] (by decide +kernel) (by decide +kernel)) (goodIn_sub (fun _ h => List.mem_cons_of_mem _ (List.mem_append_right _ h)) (by decide +kernel))
set_option maxRecDepth 20000 in
theorem gX6_begins_X6_versionOf : GoodIn wsX6_begins (wsV RX6 61 RX6 yX6_versionOf wsX6_versionOf) := goodIn_app (goodIn_of _ (by decide +kernel)) ggX6_begins_X6_versionOf
theorem dX6_begins_0 : decode cX6_begins 0 = .ok (.aload_n 0, 1) := by decide +kernel
theorem dX6_begins_1 : decode cX6_begins 1 = .ok (.aload_n 0, 1) := by decide +kernel
theorem dX6_begins_2 : decode cX6_begins 2 = .ok (.getfield 7, 3) := by decide +kernel
theorem dX6_begins_5 : decode cX6_begins 5 = .ok (.iconst 1, 1) := by decide +kernel
theorem dX6_begins_6 : decode cX6_begins 6 = .ok (.iaload, 1) := by decide +kernel
theorem dX6_begins_7 : decode cX6_begins 7 = .ok (.putfield 58, 3) := by decide +kernel
theorem dX6_begins_10 : decode cX6_begins 10 = .ok (.iconst 0, 1) := by decide +kernel
theorem dX6_begins_11 : decode cX6_begins 11 = .ok (.istore_n 1, 1) := by decide +kernel
theorem dX6_begins_12 : decode cX6_begins 12 = .ok (.iload_n 1, 1) := by decide +kernel
theorem dX6_begins_13 : decode cX6_begins 13 = .ok (.aload_n 0, 1) := by decide +kernel
theorem dX6_begins_14 : decode cX6_begins 14 = .ok (.getfield 58, 3) := by decide +kernel
theorem dX6_begins_17 : decode cX6_begins 17 = .ok (.if_icmp .ge 20, 3) := by decide +kernel
theorem dX6_begins_20 : decode cX6_begins 20 = .ok (.aload_n 0, 1) := by decide +kernel
theorem dX6_begins_21 : decode cX6_begins 21 = .ok (.getfield 19, 3) := by decide +kernel
theorem dX6_begins_24 : decode cX6_begins 24 = .ok (.iload_n 1, 1) := by decide +kernel
theorem dX6_begins_25 : decode cX6_begins 25 = .ok (.aload_n 0, 1) := by decide +kernel
theorem dX6_begins_26 : decode cX6_begins 26 = .ok (.iload_n 1, 1) := by decide +kernel
theorem dX6_begins_27 : decode cX6_begins 27 = .ok (.invokevirtual 61, 3) := by decide +kernel
theorem dX6_begins_30 : decode cX6_begins 30 = .ok (.iastore, 1) := by decide +kernel
theorem dX6_begins_31 : decode cX6_begins 31 = .ok (.iinc 1 1, 3) := by decide +kernel
theorem dX6_begins_34 : decode cX6_begins 34 = .ok (.goto (-22), 3) := by decide +kernel
theorem dX6_begins_37 : decode cX6_begins 37 = .ok (.return_, 1) := by decide +kernel
set_option maxRecDepth 20000 in
theorem ggX6_ends_X6_versionOf : GoodIn wsX6_ends wsX6_versionOf := goodIn_ca (goodIn_r _ [8, 9, 10, 11, 12, 7, 13, 14, 15, 16, 17, 18, 19, 20, 21, 22, 23, 24, 25, 26, 27, 28, 29, 30, 31, 32, 33, 34, 35] (by decide +kernel) (by decide +kernel)) (goodIn_sub (fun _ h => List.mem_cons_of_mem _ (List.mem_append_right _ h)) (by decide +kernel))
set_option maxRecDepth 20000 in
theorem gX6_ends_X6_versionOf : GoodIn wsX6_ends (wsV RX6 61 RX6 yX6_versionOf wsX6_versionOf) := goodIn_app (goodIn_of _ (by decide +kernel)) ggX6_ends_X6_versionOf
theorem dX6_ends_0 : decode cX6_ends 0 = .ok (.aload_n 0, 1) := by decide +kernel
theorem dX6_ends_1 : decode cX6_ends 1 = .ok (.iconst 0, 1) := by decide +kernel
theorem dX6_ends_2 : decode cX6_ends 2 = .ok (.putfield 65, 3) := by decide +kernel
theorem dX6_ends_5 : decode cX6_ends 5 = .ok (.iconst 0, 1) := by decide +kernel
theorem dX6_ends_6 : decode cX6_ends 6 = .ok (.istore_n 1, 1) := by decide +kernel
theorem dX6_ends_7 : decode cX6_ends 7 = .ok (.iload_n 1, 1) := by decide +kernel
theorem dX6_ends_8 : decode cX6_ends 8 = .ok (.aload_n 0, 1) := by decide +kernel
theorem dX6_ends_9 : decode cX6_ends 9 = .ok (.getfield 58, 3) := by decide +kernel
theorem dX6_ends_12 : decode cX6_ends 12 = .ok (.if_icmp .ge 37, 3) := by decide +kernel
theorem dX6_ends_15 : decode cX6_ends 15 = .ok (.aload_n 0, 1) := by decide +kernel
theorem dX6_ends_16 : decode cX6_ends 16 = .ok (.dup, 1) := by decide +kernel
theorem dX6_ends_17 : decode cX6_ends 17 = .ok (.getfield 65, 3) := by decide +kernel
theorem dX6_ends_20 : decode cX6_ends 20 = .ok (.aload_n 0, 1) := by decide +kernel
theorem dX6_ends_21 : decode cX6_ends 21 = .ok (.getfield 19, 3) := by decide +kernel
theorem dX6_ends_24 : decode cX6_ends 24 = .ok (.iload_n 1, 1) := by decide +kernel
theorem dX6_ends_25 : decode cX6_ends 25 = .ok (.iaload, 1) := by decide +kernel
theorem dX6_ends_26 : decode cX6_ends 26 = .ok (.aload_n 0, 1) := by decide +kernel
theorem dX6_ends_27 : decode cX6_ends 27 = .ok (.iload_n 1, 1) := by decide +kernel
theorem dX6_ends_28 : decode cX6_ends 28 = .ok (.invokevirtual 61, 3) := by decide +kernel
theorem dX6_ends_31 : decode cX6_ends 31 = .ok (.if_icmp .ne 7, 3) := by decide +kernel
theorem dX6_ends_34 : decode cX6_ends 34 = .ok (.iconst 0, 1) := by decide +kernel
theorem dX6_ends_35 : decode cX6_ends 35 = .ok (.goto 4, 3) := by decide +kernel
theorem dX6_ends_38 : decode cX6_ends 38 = .ok (.iconst 1, 1) := by decide +kernel
theorem dX6_ends_39 : decode cX6_ends 39 = .ok (.iadd, 1) := by decide +kernel
theorem dX6_ends_40 : decode cX6_ends 40 = .ok (.putfield 65, 3) := by decide +kernel
theorem dX6_ends_43 : decode cX6_ends 43 = .ok (.iinc 1 1, 3) := by decide +kernel
theorem dX6_ends_46 : decode cX6_ends 46 = .ok (.goto (-39), 3) := by decide +kernel
theorem dX6_ends_49 : decode cX6_ends 49 = .ok (.return_, 1) := by decide +kernel
set_option maxRecDepth 20000 in
theorem ggX6_change_X6_isKey : GoodIn wsX6_change wsX6_isKey := goodIn_r _ [5, 6, 7, 4, 8] (by decide +kernel) (by decide +kernel)
set_option maxRecDepth 20000 in
theorem gX6_change_X6_isKey : GoodIn wsX6_change (va_wsS RX6 68 yX6_isKey wsX6_isKey) := goodIn_app (goodIn_of _ (by decide +kernel)) ggX6_change_X6_isKey
set_option maxRecDepth 20000 in
theorem ggX6_change_X6_isDay : GoodIn wsX6_change wsX6_isDay := goodIn_r _ [11, 6, 7, 4, 8] (by decide +kernel) (by decide +kernel)
set_option maxRecDepth 20000 in
theorem gX6_change_X6_isDay : GoodIn wsX6_change (va_wsS RX6 72 yX6_isDay wsX6_isDay) := goodIn_app (goodIn_of _ (by decide +kernel)) ggX6_change_X6_isDay
set_option maxRecDepth 20000 in
theorem ggX6_change_X6_begins : GoodIn wsX6_change wsX6_begins := goodIn_ca (goodIn_r _ [15, 16, 17, 18, 19, 20, 21, 4, 22, 23, 24, 25, 26, 27, 28, 29, 30, 6, 7, 8, 56, 57, 58, 59, 60, 61, 62, 63, 64, 65, 66, 67, 68, 69, 70] (by decide +kernel) (by decide +kernel)) (goodIn_sub (fun _ h => List.mem_cons_of_mem _ (List.mem_append_right _ h)) (by decide +kernel))
set_option maxRecDepth 20000 in
theorem gX6_change_X6_begins : GoodIn wsX6_change (wsV RX6 75 RX6 yX6_begins wsX6_begins) := goodIn_app (goodIn_of _ (by decide +kernel)) ggX6_change_X6_begins
set_option maxRecDepth 20000 in
theorem ggX6_change_X6_changes : GoodIn wsX6_change wsX6_changes := goodIn_ca (goodIn_r _ [34, 16, 23, 24, 25, 4, 26, 27, 28, 29, 30, 6, 7, 8, 35, 36, 37, 38, 39, 40, 41, 42, 43, 44, 45, 46, 56, 57, 58, 59, 60, 61, 62, 63, 64, 65, 66, 67, 68, 69, 70] (by decide +kernel) (by decide +kernel)) (goodIn_sub (fun _ h => List.mem_cons_of_mem _ (List.mem_append_right _ h)) (by decide +kernel))
set_option maxRecDepth 20000 in
theorem gX6_change_X6_changes : GoodIn wsX6_change (wsV RX6 78 RX6 yX6_changes wsX6_changes) := goodIn_app (goodIn_of _ (by decide +kernel)) ggX6_change_X6_changes
set_option maxRecDepth 20000 in
theorem ggX6_change_X6_fails : GoodIn wsX6_change wsX6_fails := goodIn_r _ [50, 1, 56, 57, 58, 59, 60, 61, 62, 63, 64, 65, 66, 67, 68, 69, 70] (by decide +kernel) (by decide +kernel)
set_option maxRecDepth 20000 in
theorem gX6_change_X6_fails : GoodIn wsX6_change (wsV RX6 82 RX6 yX6_fails wsX6_fails) := goodIn_app (goodIn_of _ (by decide +kernel)) ggX6_change_X6_fails
set_option maxRecDepth 20000 in
theorem ggX6_change_X6_ends : GoodIn wsX6_change wsX6_ends := goodIn_ca (goodIn_r _ [54, 55, 17, 18, 19, 20, 21, 4, 22, 16, 23, 24, 25, 26, 27, 28, 29, 30, 6, 7, 8, 56, 57, 58, 59, 60, 61, 62, 63, 64, 65, 66, 67, 68, 69, 70] (by decide +kernel) (by decide +kernel)) (goodIn_sub (fun _ h => List.mem_cons_of_mem _ (List.mem_append_right _ h)) (by decide +kernel))
set_option maxRecDepth 20000 in
theorem gX6_change_X6_ends : GoodIn wsX6_change (wsV RX6 85 RX6 yX6_ends wsX6_ends) := goodIn_app (goodIn_of _ (by decide +kernel)) ggX6_change_X6_ends
theorem dX6_change_0 : decode cX6_change 0 = .ok (.aload_n 0, 1) := by decide +kernel
theorem dX6_change_1 : decode cX6_change 1 = .ok (.iload_n 1, 1) := by decide +kernel
theorem dX6_change_2 : decode cX6_change 2 = .ok (.invokestatic 68, 3) := by decide +kernel
theorem dX6_change_5 : decode cX6_change 5 = .ok (.ifCond .eq 18, 3) := by decide +kernel
theorem dX6_change_8 : decode cX6_change 8 = .ok (.iload_n 2, 1) := by decide +kernel
theorem dX6_change_9 : decode cX6_change 9 = .ok (.invokestatic 72, 3) := by decide +kernel
theorem dX6_change_12 : decode cX6_change 12 = .ok (.ifCond .eq 7, 3) := by decide +kernel
theorem dX6_change_15 : decode cX6_change 15 = .ok (.iconst 0, 1) := by decide +kernel
theorem dX6_change_16 : decode cX6_change 16 = .ok (.goto 8, 3) := by decide +kernel
theorem dX6_change_19 : decode cX6_change 19 = .ok (.iconst 2, 1) := by decide +kernel
theorem dX6_change_20 : decode cX6_change 20 = .ok (.goto 4, 3) := by decide +kernel
theorem dX6_change_23 : decode cX6_change 23 = .ok (.iconst 1, 1) := by decide +kernel
theorem dX6_change_24 : decode cX6_change 24 = .ok (.putfield 32, 3) := by decide +kernel
theorem dX6_change_27 : decode cX6_change 27 = .ok (.aload_n 0, 1) := by decide +kernel
theorem dX6_change_28 : decode cX6_change 28 = .ok (.getfield 32, 3) := by decide +kernel
theorem dX6_change_31 : decode cX6_change 31 = .ok (.ifCond .le 5, 3) := by decide +kernel
theorem dX6_change_34 : decode cX6_change 34 = .ok (.iconst 0, 1) := by decide +kernel
theorem dX6_change_35 : decode cX6_change 35 = .ok (.ireturn, 1) := by decide +kernel
theorem dX6_change_36 : decode cX6_change 36 = .ok (.aload_n 0, 1) := by decide +kernel
theorem dX6_change_37 : decode cX6_change 37 = .ok (.invokevirtual 75, 3) := by decide +kernel
theorem dX6_change_40 : decode cX6_change 40 = .ok (.aload_n 0, 1) := by decide +kernel
theorem dX6_change_41 : decode cX6_change 41 = .ok (.iload_n 1, 1) := by decide +kernel
theorem dX6_change_42 : decode cX6_change 42 = .ok (.iload_n 2, 1) := by decide +kernel
theorem dX6_change_43 : decode cX6_change 43 = .ok (.iload_n 3, 1) := by decide +kernel
theorem dX6_change_44 : decode cX6_change 44 = .ok (.invokevirtual 78, 3) := by decide +kernel
theorem dX6_change_47 : decode cX6_change 47 = .ok (.istore 4, 2) := by decide +kernel
theorem dX6_change_49 : decode cX6_change 49 = .ok (.iload 4, 2) := by decide +kernel
theorem dX6_change_51 : decode cX6_change 51 = .ok (.ifCond .ge 9, 3) := by decide +kernel
theorem dX6_change_54 : decode cX6_change 54 = .ok (.aload_n 0, 1) := by decide +kernel
theorem dX6_change_55 : decode cX6_change 55 = .ok (.iconst 3, 1) := by decide +kernel
theorem dX6_change_56 : decode cX6_change 56 = .ok (.invokevirtual 82, 3) := by decide +kernel
theorem dX6_change_59 : decode cX6_change 59 = .ok (.ireturn, 1) := by decide +kernel
theorem dX6_change_60 : decode cX6_change 60 = .ok (.aload_n 0, 1) := by decide +kernel
theorem dX6_change_61 : decode cX6_change 61 = .ok (.invokevirtual 85, 3) := by decide +kernel
theorem dX6_change_64 : decode cX6_change 64 = .ok (.iload 4, 2) := by decide +kernel
theorem dX6_change_66 : decode cX6_change 66 = .ok (.ireturn, 1) := by decide +kernel
set_option maxRecDepth 20000 in
theorem ggX6_addFact_X6_isKey : GoodIn wsX6_addFact wsX6_isKey := goodIn_r _ [6, 7, 8, 5, 9] (by decide +kernel) (by decide +kernel)
set_option maxRecDepth 20000 in
theorem gX6_addFact_X6_isKey : GoodIn wsX6_addFact (va_wsS RX6 68 yX6_isKey wsX6_isKey) := goodIn_app (goodIn_of _ (by decide +kernel)) ggX6_addFact_X6_isKey
set_option maxRecDepth 20000 in
theorem ggX6_addFact_X6_isDay : GoodIn wsX6_addFact wsX6_isDay := goodIn_r _ [12, 7, 8, 5, 9] (by decide +kernel) (by decide +kernel)
set_option maxRecDepth 20000 in
theorem gX6_addFact_X6_isDay : GoodIn wsX6_addFact (va_wsS RX6 72 yX6_isDay wsX6_isDay) := goodIn_app (goodIn_of _ (by decide +kernel)) ggX6_addFact_X6_isDay
set_option maxRecDepth 20000 in
theorem ggX6_addFact_X6_valid : GoodIn wsX6_addFact wsX6_valid := goodIn_ca (goodIn_r _ [16, 2, 17, 18, 19, 5, 20, 7, 8, 9, 48, 49, 50, 51, 52, 53, 54, 55, 56, 57, 58, 59, 60, 61, 62] (by decide +kernel) (by decide +kernel)) (goodIn_sub (fun _ h => List.mem_cons_of_mem _ (List.mem_append_right _ h)) (by decide +kernel))
set_option maxRecDepth 20000 in
theorem gX6_addFact_X6_valid : GoodIn wsX6_addFact (wsV RX6 43 RX6 yX6_valid wsX6_valid) := goodIn_app (goodIn_of _ (by decide +kernel)) ggX6_addFact_X6_valid
set_option maxRecDepth 20000 in
theorem ggX6_addFact_X6_following : GoodIn wsX6_addFact wsX6_following := goodIn_ca (goodIn_r _ [24, 2, 17, 18, 19, 5, 20, 48, 49, 50, 51, 52, 53, 54, 55, 56, 57, 58, 59, 60, 61, 62] (by decide +kernel) (by decide +kernel)) (goodIn_sub (fun _ h => List.mem_cons_of_mem _ (List.mem_append_right _ h)) (by decide +kernel))
set_option maxRecDepth 20000 in
theorem gX6_addFact_X6_following : GoodIn wsX6_addFact (wsV RX6 47 RX6 yX6_following wsX6_following) := goodIn_app (goodIn_of _ (by decide +kernel)) ggX6_addFact_X6_following
set_option maxRecDepth 20000 in
theorem ggX6_addFact_X6_fails : GoodIn wsX6_addFact wsX6_fails := goodIn_r _ [28, 1, 48, 49, 50, 51, 52, 53, 54, 55, 56, 57, 58, 59, 60, 61, 62] (by decide +kernel) (by decide +kernel)
set_option maxRecDepth 20000 in
theorem gX6_addFact_X6_fails : GoodIn wsX6_addFact (wsV RX6 82 RX6 yX6_fails wsX6_fails) := goodIn_app (goodIn_of _ (by decide +kernel)) ggX6_addFact_X6_fails
set_option maxRecDepth 20000 in
theorem ggX6_addFact_X6_begins : GoodIn wsX6_addFact wsX6_begins := goodIn_ca (goodIn_r _ [32, 2, 33, 34, 35, 36, 37, 5, 38, 13, 14, 15, 16, 17, 18, 19, 20, 7, 8, 9, 48, 49, 50, 51, 52, 53, 54, 55, 56, 57, 58, 59, 60, 61, 62] (by decide +kernel) (by decide +kernel)) (goodIn_sub (fun _ h => List.mem_cons_of_mem _ (List.mem_append_right _ h)) (by decide +kernel))
set_option maxRecDepth 20000 in
theorem gX6_addFact_X6_begins : GoodIn wsX6_addFact (wsV RX6 75 RX6 yX6_begins wsX6_begins) := goodIn_app (goodIn_of _ (by decide +kernel)) ggX6_addFact_X6_begins
set_option maxRecDepth 20000 in
theorem ggX6_addFact_X6_makes : GoodIn wsX6_addFact wsX6_makes := goodIn_ca (goodIn_r _ [42, 2, 48, 49, 50, 51, 52, 53, 54, 55, 56, 57, 58, 59, 60, 61, 62] (by decide +kernel) (by decide +kernel)) (goodIn_sub (fun _ h => List.mem_cons_of_mem _ (List.mem_append_right _ h)) (by decide +kernel))
set_option maxRecDepth 20000 in
theorem gX6_addFact_X6_makes : GoodIn wsX6_addFact (wsV RX6 54 RX6 yX6_makes wsX6_makes) := goodIn_app (goodIn_of _ (by decide +kernel)) ggX6_addFact_X6_makes
set_option maxRecDepth 20000 in
theorem ggX6_addFact_X6_ends : GoodIn wsX6_addFact wsX6_ends := goodIn_ca (goodIn_r _ [46, 47, 33, 34, 35, 36, 37, 5, 38, 2, 13, 14, 15, 16, 17, 18, 19, 20, 7, 8, 9, 48, 49, 50, 51, 52, 53, 54, 55, 56, 57, 58, 59, 60, 61, 62] (by decide +kernel) (by decide +kernel)) (goodIn_sub (fun _ h => List.mem_cons_of_mem _ (List.mem_append_right _ h)) (by decide +kernel))
set_option maxRecDepth 20000 in
theorem gX6_addFact_X6_ends : GoodIn wsX6_addFact (wsV RX6 85 RX6 yX6_ends wsX6_ends) := goodIn_app (goodIn_of _ (by decide +kernel)) ggX6_addFact_X6_ends
set_option maxRecDepth 20000 in
theorem ggX6_addFact_X6_versionOf : GoodIn wsX6_addFact wsX6_versionOf := goodIn_ca (goodIn_r _ [38, 2, 13, 14, 15, 5, 16, 17, 18, 19, 20, 7, 8, 9, 48, 49, 50, 51, 52, 53, 54, 55, 56, 57, 58, 59, 60, 61, 62] (by decide +kernel) (by decide +kernel)) (goodIn_sub (fun _ h => List.mem_cons_of_mem _ (List.mem_append_right _ h)) (by decide +kernel))
set_option maxRecDepth 20000 in
theorem gX6_addFact_X6_versionOf : GoodIn wsX6_addFact (wsV RX6 61 RX6 yX6_versionOf wsX6_versionOf) := goodIn_app (goodIn_of _ (by decide +kernel)) ggX6_addFact_X6_versionOf
theorem dX6_addFact_0 : decode cX6_addFact 0 = .ok (.aload_n 0, 1) := by decide +kernel
theorem dX6_addFact_1 : decode cX6_addFact 1 = .ok (.iload_n 1, 1) := by decide +kernel
theorem dX6_addFact_2 : decode cX6_addFact 2 = .ok (.invokestatic 68, 3) := by decide +kernel
theorem dX6_addFact_5 : decode cX6_addFact 5 = .ok (.ifCond .eq 18, 3) := by decide +kernel
theorem dX6_addFact_8 : decode cX6_addFact 8 = .ok (.iload_n 2, 1) := by decide +kernel
theorem dX6_addFact_9 : decode cX6_addFact 9 = .ok (.invokestatic 72, 3) := by decide +kernel
theorem dX6_addFact_12 : decode cX6_addFact 12 = .ok (.ifCond .eq 7, 3) := by decide +kernel
theorem dX6_addFact_15 : decode cX6_addFact 15 = .ok (.iconst 0, 1) := by decide +kernel
theorem dX6_addFact_16 : decode cX6_addFact 16 = .ok (.goto 8, 3) := by decide +kernel
theorem dX6_addFact_19 : decode cX6_addFact 19 = .ok (.iconst 2, 1) := by decide +kernel
theorem dX6_addFact_20 : decode cX6_addFact 20 = .ok (.goto 4, 3) := by decide +kernel
theorem dX6_addFact_23 : decode cX6_addFact 23 = .ok (.iconst 1, 1) := by decide +kernel
theorem dX6_addFact_24 : decode cX6_addFact 24 = .ok (.putfield 32, 3) := by decide +kernel
theorem dX6_addFact_27 : decode cX6_addFact 27 = .ok (.aload_n 0, 1) := by decide +kernel
theorem dX6_addFact_28 : decode cX6_addFact 28 = .ok (.getfield 32, 3) := by decide +kernel
theorem dX6_addFact_31 : decode cX6_addFact 31 = .ok (.ifCond .le 5, 3) := by decide +kernel
theorem dX6_addFact_34 : decode cX6_addFact 34 = .ok (.iconst 0, 1) := by decide +kernel
theorem dX6_addFact_35 : decode cX6_addFact 35 = .ok (.ireturn, 1) := by decide +kernel
theorem dX6_addFact_36 : decode cX6_addFact 36 = .ok (.aload_n 0, 1) := by decide +kernel
theorem dX6_addFact_37 : decode cX6_addFact 37 = .ok (.iload_n 1, 1) := by decide +kernel
theorem dX6_addFact_38 : decode cX6_addFact 38 = .ok (.iload_n 2, 1) := by decide +kernel
theorem dX6_addFact_39 : decode cX6_addFact 39 = .ok (.invokevirtual 43, 3) := by decide +kernel
theorem dX6_addFact_42 : decode cX6_addFact 42 = .ok (.istore 4, 2) := by decide +kernel
theorem dX6_addFact_44 : decode cX6_addFact 44 = .ok (.aload_n 0, 1) := by decide +kernel
theorem dX6_addFact_45 : decode cX6_addFact 45 = .ok (.iload_n 1, 1) := by decide +kernel
theorem dX6_addFact_46 : decode cX6_addFact 46 = .ok (.iload_n 2, 1) := by decide +kernel
theorem dX6_addFact_47 : decode cX6_addFact 47 = .ok (.invokevirtual 47, 3) := by decide +kernel
theorem dX6_addFact_50 : decode cX6_addFact 50 = .ok (.istore 5, 2) := by decide +kernel
theorem dX6_addFact_52 : decode cX6_addFact 52 = .ok (.iload 4, 2) := by decide +kernel
theorem dX6_addFact_54 : decode cX6_addFact 54 = .ok (.ifCond .ge 27, 3) := by decide +kernel
theorem dX6_addFact_57 : decode cX6_addFact 57 = .ok (.iload 5, 2) := by decide +kernel
theorem dX6_addFact_59 : decode cX6_addFact 59 = .ok (.ifCond .lt 22, 3) := by decide +kernel
theorem dX6_addFact_62 : decode cX6_addFact 62 = .ok (.aload_n 0, 1) := by decide +kernel
theorem dX6_addFact_63 : decode cX6_addFact 63 = .ok (.getfield 7, 3) := by decide +kernel
theorem dX6_addFact_66 : decode cX6_addFact 66 = .ok (.sipush 310, 3) := by decide +kernel
theorem dX6_addFact_69 : decode cX6_addFact 69 = .ok (.iload 5, 2) := by decide +kernel
theorem dX6_addFact_71 : decode cX6_addFact 71 = .ok (.iadd, 1) := by decide +kernel
theorem dX6_addFact_72 : decode cX6_addFact 72 = .ok (.iaload, 1) := by decide +kernel
theorem dX6_addFact_73 : decode cX6_addFact 73 = .ok (.iconst 1, 1) := by decide +kernel
theorem dX6_addFact_74 : decode cX6_addFact 74 = .ok (.if_icmp .ne 7, 3) := by decide +kernel
theorem dX6_addFact_77 : decode cX6_addFact 77 = .ok (.iconst 1, 1) := by decide +kernel
theorem dX6_addFact_78 : decode cX6_addFact 78 = .ok (.goto 4, 3) := by decide +kernel
theorem dX6_addFact_81 : decode cX6_addFact 81 = .ok (.iconst 0, 1) := by decide +kernel
theorem dX6_addFact_82 : decode cX6_addFact 82 = .ok (.istore 6, 2) := by decide +kernel
theorem dX6_addFact_84 : decode cX6_addFact 84 = .ok (.aload_n 0, 1) := by decide +kernel
theorem dX6_addFact_85 : decode cX6_addFact 85 = .ok (.getfield 7, 3) := by decide +kernel
theorem dX6_addFact_88 : decode cX6_addFact 88 = .ok (.iconst 1, 1) := by decide +kernel
theorem dX6_addFact_89 : decode cX6_addFact 89 = .ok (.iaload, 1) := by decide +kernel
theorem dX6_addFact_90 : decode cX6_addFact 90 = .ok (.bipush 60, 2) := by decide +kernel
theorem dX6_addFact_92 : decode cX6_addFact 92 = .ok (.if_icmp .eq 24, 3) := by decide +kernel
theorem dX6_addFact_95 : decode cX6_addFact 95 = .ok (.iload 4, 2) := by decide +kernel
theorem dX6_addFact_97 : decode cX6_addFact 97 = .ok (.ifCond .ge 25, 3) := by decide +kernel
theorem dX6_addFact_100 : decode cX6_addFact 100 = .ok (.iload 6, 2) := by decide +kernel
theorem dX6_addFact_102 : decode cX6_addFact 102 = .ok (.ifCond .ne 20, 3) := by decide +kernel
theorem dX6_addFact_105 : decode cX6_addFact 105 = .ok (.aload_n 0, 1) := by decide +kernel
theorem dX6_addFact_106 : decode cX6_addFact 106 = .ok (.getfield 7, 3) := by decide +kernel
theorem dX6_addFact_109 : decode cX6_addFact 109 = .ok (.iconst 0, 1) := by decide +kernel
theorem dX6_addFact_110 : decode cX6_addFact 110 = .ok (.iaload, 1) := by decide +kernel
theorem dX6_addFact_111 : decode cX6_addFact 111 = .ok (.bipush 60, 2) := by decide +kernel
theorem dX6_addFact_113 : decode cX6_addFact 113 = .ok (.if_icmp .ne 9, 3) := by decide +kernel
theorem dX6_addFact_116 : decode cX6_addFact 116 = .ok (.aload_n 0, 1) := by decide +kernel
theorem dX6_addFact_117 : decode cX6_addFact 117 = .ok (.iconst 3, 1) := by decide +kernel
theorem dX6_addFact_118 : decode cX6_addFact 118 = .ok (.invokevirtual 82, 3) := by decide +kernel
theorem dX6_addFact_121 : decode cX6_addFact 121 = .ok (.ireturn, 1) := by decide +kernel
theorem dX6_addFact_122 : decode cX6_addFact 122 = .ok (.aload_n 0, 1) := by decide +kernel
theorem dX6_addFact_123 : decode cX6_addFact 123 = .ok (.invokevirtual 75, 3) := by decide +kernel
theorem dX6_addFact_126 : decode cX6_addFact 126 = .ok (.iload 6, 2) := by decide +kernel
theorem dX6_addFact_128 : decode cX6_addFact 128 = .ok (.ifCond .eq 18, 3) := by decide +kernel
theorem dX6_addFact_131 : decode cX6_addFact 131 = .ok (.aload_n 0, 1) := by decide +kernel
theorem dX6_addFact_132 : decode cX6_addFact 132 = .ok (.getfield 7, 3) := by decide +kernel
theorem dX6_addFact_135 : decode cX6_addFact 135 = .ok (.sipush 130, 3) := by decide +kernel
theorem dX6_addFact_138 : decode cX6_addFact 138 = .ok (.iload 5, 2) := by decide +kernel
theorem dX6_addFact_140 : decode cX6_addFact 140 = .ok (.iadd, 1) := by decide +kernel
theorem dX6_addFact_141 : decode cX6_addFact 141 = .ok (.iload_n 2, 1) := by decide +kernel
theorem dX6_addFact_142 : decode cX6_addFact 142 = .ok (.iastore, 1) := by decide +kernel
theorem dX6_addFact_143 : decode cX6_addFact 143 = .ok (.goto 39, 3) := by decide +kernel
theorem dX6_addFact_146 : decode cX6_addFact 146 = .ok (.iload 4, 2) := by decide +kernel
theorem dX6_addFact_148 : decode cX6_addFact 148 = .ok (.ifCond .ge 34, 3) := by decide +kernel
theorem dX6_addFact_151 : decode cX6_addFact 151 = .ok (.aload_n 0, 1) := by decide +kernel
theorem dX6_addFact_152 : decode cX6_addFact 152 = .ok (.iload_n 1, 1) := by decide +kernel
theorem dX6_addFact_153 : decode cX6_addFact 153 = .ok (.iload_n 2, 1) := by decide +kernel
theorem dX6_addFact_154 : decode cX6_addFact 154 = .ok (.iload 5, 2) := by decide +kernel
theorem dX6_addFact_156 : decode cX6_addFact 156 = .ok (.ifCond .lt 17, 3) := by decide +kernel
theorem dX6_addFact_159 : decode cX6_addFact 159 = .ok (.aload_n 0, 1) := by decide +kernel
theorem dX6_addFact_160 : decode cX6_addFact 160 = .ok (.getfield 7, 3) := by decide +kernel
theorem dX6_addFact_163 : decode cX6_addFact 163 = .ok (.sipush 130, 3) := by decide +kernel
theorem dX6_addFact_166 : decode cX6_addFact 166 = .ok (.iload 5, 2) := by decide +kernel
theorem dX6_addFact_168 : decode cX6_addFact 168 = .ok (.iadd, 1) := by decide +kernel
theorem dX6_addFact_169 : decode cX6_addFact 169 = .ok (.iaload, 1) := by decide +kernel
theorem dX6_addFact_170 : decode cX6_addFact 170 = .ok (.goto 6, 3) := by decide +kernel
theorem dX6_addFact_173 : decode cX6_addFact 173 = .ok (.sipush 1000, 3) := by decide +kernel
theorem dX6_addFact_176 : decode cX6_addFact 176 = .ok (.iconst 0, 1) := by decide +kernel
theorem dX6_addFact_177 : decode cX6_addFact 177 = .ok (.iconst 1, 1) := by decide +kernel
theorem dX6_addFact_178 : decode cX6_addFact 178 = .ok (.invokevirtual 54, 3) := by decide +kernel
theorem dX6_addFact_181 : decode cX6_addFact 181 = .ok (.pop, 1) := by decide +kernel
theorem dX6_addFact_182 : decode cX6_addFact 182 = .ok (.aload_n 0, 1) := by decide +kernel
theorem dX6_addFact_183 : decode cX6_addFact 183 = .ok (.getfield 7, 3) := by decide +kernel
theorem dX6_addFact_186 : decode cX6_addFact 186 = .ok (.iconst 1, 1) := by decide +kernel
theorem dX6_addFact_187 : decode cX6_addFact 187 = .ok (.iaload, 1) := by decide +kernel
theorem dX6_addFact_188 : decode cX6_addFact 188 = .ok (.istore 7, 2) := by decide +kernel
theorem dX6_addFact_190 : decode cX6_addFact 190 = .ok (.aload_n 0, 1) := by decide +kernel
theorem dX6_addFact_191 : decode cX6_addFact 191 = .ok (.getfield 7, 3) := by decide +kernel
theorem dX6_addFact_194 : decode cX6_addFact 194 = .ok (.iconst 1, 1) := by decide +kernel
theorem dX6_addFact_195 : decode cX6_addFact 195 = .ok (.dup2, 1) := by decide +kernel
theorem dX6_addFact_196 : decode cX6_addFact 196 = .ok (.iaload, 1) := by decide +kernel
theorem dX6_addFact_197 : decode cX6_addFact 197 = .ok (.iconst 1, 1) := by decide +kernel
theorem dX6_addFact_198 : decode cX6_addFact 198 = .ok (.iadd, 1) := by decide +kernel
theorem dX6_addFact_199 : decode cX6_addFact 199 = .ok (.iastore, 1) := by decide +kernel
theorem dX6_addFact_200 : decode cX6_addFact 200 = .ok (.aload_n 0, 1) := by decide +kernel
theorem dX6_addFact_201 : decode cX6_addFact 201 = .ok (.getfield 7, 3) := by decide +kernel
theorem dX6_addFact_204 : decode cX6_addFact 204 = .ok (.sipush 370, 3) := by decide +kernel
theorem dX6_addFact_207 : decode cX6_addFact 207 = .ok (.iload 7, 2) := by decide +kernel
theorem dX6_addFact_209 : decode cX6_addFact 209 = .ok (.iadd, 1) := by decide +kernel
theorem dX6_addFact_210 : decode cX6_addFact 210 = .ok (.iload_n 1, 1) := by decide +kernel
theorem dX6_addFact_211 : decode cX6_addFact 211 = .ok (.iastore, 1) := by decide +kernel
theorem dX6_addFact_212 : decode cX6_addFact 212 = .ok (.aload_n 0, 1) := by decide +kernel
theorem dX6_addFact_213 : decode cX6_addFact 213 = .ok (.getfield 7, 3) := by decide +kernel
theorem dX6_addFact_216 : decode cX6_addFact 216 = .ok (.sipush 430, 3) := by decide +kernel
theorem dX6_addFact_219 : decode cX6_addFact 219 = .ok (.iload 7, 2) := by decide +kernel
theorem dX6_addFact_221 : decode cX6_addFact 221 = .ok (.iadd, 1) := by decide +kernel
theorem dX6_addFact_222 : decode cX6_addFact 222 = .ok (.iload_n 2, 1) := by decide +kernel
theorem dX6_addFact_223 : decode cX6_addFact 223 = .ok (.iastore, 1) := by decide +kernel
theorem dX6_addFact_224 : decode cX6_addFact 224 = .ok (.aload_n 0, 1) := by decide +kernel
theorem dX6_addFact_225 : decode cX6_addFact 225 = .ok (.getfield 7, 3) := by decide +kernel
theorem dX6_addFact_228 : decode cX6_addFact 228 = .ok (.sipush 490, 3) := by decide +kernel
theorem dX6_addFact_231 : decode cX6_addFact 231 = .ok (.iload 7, 2) := by decide +kernel
theorem dX6_addFact_233 : decode cX6_addFact 233 = .ok (.iadd, 1) := by decide +kernel
theorem dX6_addFact_234 : decode cX6_addFact 234 = .ok (.iload_n 3, 1) := by decide +kernel
theorem dX6_addFact_235 : decode cX6_addFact 235 = .ok (.iastore, 1) := by decide +kernel
theorem dX6_addFact_236 : decode cX6_addFact 236 = .ok (.aload_n 0, 1) := by decide +kernel
theorem dX6_addFact_237 : decode cX6_addFact 237 = .ok (.invokevirtual 85, 3) := by decide +kernel
theorem dX6_addFact_240 : decode cX6_addFact 240 = .ok (.aload_n 0, 1) := by decide +kernel
theorem dX6_addFact_241 : decode cX6_addFact 241 = .ok (.iload 7, 2) := by decide +kernel
theorem dX6_addFact_243 : decode cX6_addFact 243 = .ok (.invokevirtual 61, 3) := by decide +kernel
theorem dX6_addFact_246 : decode cX6_addFact 246 = .ok (.ireturn, 1) := by decide +kernel
set_option maxRecDepth 20000 in
theorem ggX6_factsOf_X6_versionOf : GoodIn wsX6_factsOf wsX6_versionOf := goodIn_ca (goodIn_r _ [6, 1, 7, 8, 9, 5, 10, 11, 12, 13, 14, 15, 16, 17, 18, 19, 20, 21, 22, 23, 24, 25, 26, 27, 28, 29, 30, 31, 32] (by decide +kernel) (by decide +kernel)) (goodIn_sub (fun _ h => List.mem_cons_of_mem _ (List.mem_append_right _ h)) (by decide +kernel))
set_option maxRecDepth 20000 in
theorem gX6_factsOf_X6_versionOf : GoodIn wsX6_factsOf (wsV RX6 61 RX6 yX6_versionOf wsX6_versionOf) := goodIn_app (goodIn_of _ (by decide +kernel)) ggX6_factsOf_X6_versionOf
theorem dX6_factsOf_0 : decode cX6_factsOf 0 = .ok (.iconst 0, 1) := by decide +kernel
theorem dX6_factsOf_1 : decode cX6_factsOf 1 = .ok (.istore_n 3, 1) := by decide +kernel
theorem dX6_factsOf_2 : decode cX6_factsOf 2 = .ok (.iconst 0, 1) := by decide +kernel
theorem dX6_factsOf_3 : decode cX6_factsOf 3 = .ok (.istore 4, 2) := by decide +kernel
theorem dX6_factsOf_5 : decode cX6_factsOf 5 = .ok (.iload 4, 2) := by decide +kernel
theorem dX6_factsOf_7 : decode cX6_factsOf 7 = .ok (.aload_n 0, 1) := by decide +kernel
theorem dX6_factsOf_8 : decode cX6_factsOf 8 = .ok (.getfield 7, 3) := by decide +kernel
theorem dX6_factsOf_11 : decode cX6_factsOf 11 = .ok (.iconst 1, 1) := by decide +kernel
theorem dX6_factsOf_12 : decode cX6_factsOf 12 = .ok (.iaload, 1) := by decide +kernel
theorem dX6_factsOf_13 : decode cX6_factsOf 13 = .ok (.if_icmp .ge 42, 3) := by decide +kernel
theorem dX6_factsOf_16 : decode cX6_factsOf 16 = .ok (.iload_n 3, 1) := by decide +kernel
theorem dX6_factsOf_17 : decode cX6_factsOf 17 = .ok (.aload_n 0, 1) := by decide +kernel
theorem dX6_factsOf_18 : decode cX6_factsOf 18 = .ok (.getfield 7, 3) := by decide +kernel
theorem dX6_factsOf_21 : decode cX6_factsOf 21 = .ok (.sipush 430, 3) := by decide +kernel
theorem dX6_factsOf_24 : decode cX6_factsOf 24 = .ok (.iload 4, 2) := by decide +kernel
theorem dX6_factsOf_26 : decode cX6_factsOf 26 = .ok (.iadd, 1) := by decide +kernel
theorem dX6_factsOf_27 : decode cX6_factsOf 27 = .ok (.iaload, 1) := by decide +kernel
theorem dX6_factsOf_28 : decode cX6_factsOf 28 = .ok (.iload_n 2, 1) := by decide +kernel
theorem dX6_factsOf_29 : decode cX6_factsOf 29 = .ok (.if_icmp .lt 17, 3) := by decide +kernel
theorem dX6_factsOf_32 : decode cX6_factsOf 32 = .ok (.aload_n 0, 1) := by decide +kernel
theorem dX6_factsOf_33 : decode cX6_factsOf 33 = .ok (.iload 4, 2) := by decide +kernel
theorem dX6_factsOf_35 : decode cX6_factsOf 35 = .ok (.invokevirtual 61, 3) := by decide +kernel
theorem dX6_factsOf_38 : decode cX6_factsOf 38 = .ok (.iload_n 1, 1) := by decide +kernel
theorem dX6_factsOf_39 : decode cX6_factsOf 39 = .ok (.if_icmp .ne 7, 3) := by decide +kernel
theorem dX6_factsOf_42 : decode cX6_factsOf 42 = .ok (.iconst 1, 1) := by decide +kernel
theorem dX6_factsOf_43 : decode cX6_factsOf 43 = .ok (.goto 4, 3) := by decide +kernel
theorem dX6_factsOf_46 : decode cX6_factsOf 46 = .ok (.iconst 0, 1) := by decide +kernel
theorem dX6_factsOf_47 : decode cX6_factsOf 47 = .ok (.iadd, 1) := by decide +kernel
theorem dX6_factsOf_48 : decode cX6_factsOf 48 = .ok (.istore_n 3, 1) := by decide +kernel
theorem dX6_factsOf_49 : decode cX6_factsOf 49 = .ok (.iinc 4 1, 3) := by decide +kernel
theorem dX6_factsOf_52 : decode cX6_factsOf 52 = .ok (.goto (-47), 3) := by decide +kernel
theorem dX6_factsOf_55 : decode cX6_factsOf 55 = .ok (.iload_n 3, 1) := by decide +kernel
theorem dX6_factsOf_56 : decode cX6_factsOf 56 = .ok (.ireturn, 1) := by decide +kernel
set_option maxRecDepth 20000 in
theorem ggX6_close_X6_isKey : GoodIn wsX6_close wsX6_isKey := goodIn_r _ [6, 7, 8, 5, 9] (by decide +kernel) (by decide +kernel)
set_option maxRecDepth 20000 in
theorem gX6_close_X6_isKey : GoodIn wsX6_close (va_wsS RX6 68 yX6_isKey wsX6_isKey) := goodIn_app (goodIn_of _ (by decide +kernel)) ggX6_close_X6_isKey
set_option maxRecDepth 20000 in
theorem ggX6_close_X6_isDay : GoodIn wsX6_close wsX6_isDay := goodIn_r _ [12, 7, 8, 5, 9] (by decide +kernel) (by decide +kernel)
set_option maxRecDepth 20000 in
theorem gX6_close_X6_isDay : GoodIn wsX6_close (va_wsS RX6 72 yX6_isDay wsX6_isDay) := goodIn_app (goodIn_of _ (by decide +kernel)) ggX6_close_X6_isDay
set_option maxRecDepth 20000 in
theorem ggX6_close_X6_valid : GoodIn wsX6_close wsX6_valid := goodIn_ca (goodIn_r _ [16, 2, 17, 18, 19, 5, 20, 7, 8, 9, 44, 45, 46, 47, 48, 49, 50, 51, 52, 53, 54, 55, 56, 57, 58] (by decide +kernel) (by decide +kernel)) (goodIn_sub (fun _ h => List.mem_cons_of_mem _ (List.mem_append_right _ h)) (by decide +kernel))
set_option maxRecDepth 20000 in
theorem gX6_close_X6_valid : GoodIn wsX6_close (wsV RX6 43 RX6 yX6_valid wsX6_valid) := goodIn_app (goodIn_of _ (by decide +kernel)) ggX6_close_X6_valid
set_option maxRecDepth 20000 in
theorem ggX6_close_X6_fails : GoodIn wsX6_close wsX6_fails := goodIn_r _ [24, 1, 44, 45, 46, 47, 48, 49, 50, 51, 52, 53, 54, 55, 56, 57, 58] (by decide +kernel) (by decide +kernel)
set_option maxRecDepth 20000 in
theorem gX6_close_X6_fails : GoodIn wsX6_close (wsV RX6 82 RX6 yX6_fails wsX6_fails) := goodIn_app (goodIn_of _ (by decide +kernel)) ggX6_close_X6_fails
set_option maxRecDepth 20000 in
theorem ggX6_close_X6_factsOf : GoodIn wsX6_close wsX6_factsOf := goodIn_ca (goodIn_r _ [28, 2, 29, 30, 31, 5, 32, 13, 14, 15, 16, 17, 18, 19, 20, 7, 8, 9, 44, 45, 46, 47, 48, 49, 50, 51, 52, 53, 54, 55, 56, 57, 58] (by decide +kernel) (by decide +kernel)) (goodIn_sub (fun _ h => List.mem_cons_of_mem _ (List.mem_append_right _ h)) (by decide +kernel))
set_option maxRecDepth 20000 in
theorem gX6_close_X6_factsOf : GoodIn wsX6_close (wsV RX6 88 RX6 yX6_factsOf wsX6_factsOf) := goodIn_app (goodIn_of _ (by decide +kernel)) ggX6_close_X6_factsOf
set_option maxRecDepth 20000 in
theorem ggX6_close_X6_begins : GoodIn wsX6_close wsX6_begins := goodIn_ca (goodIn_r _ [36, 2, 37, 38, 29, 30, 31, 5, 32, 13, 14, 15, 16, 17, 18, 19, 20, 7, 8, 9, 44, 45, 46, 47, 48, 49, 50, 51, 52, 53, 54, 55, 56, 57, 58] (by decide +kernel) (by decide +kernel)) (goodIn_sub (fun _ h => List.mem_cons_of_mem _ (List.mem_append_right _ h)) (by decide +kernel))
set_option maxRecDepth 20000 in
theorem gX6_close_X6_begins : GoodIn wsX6_close (wsV RX6 75 RX6 yX6_begins wsX6_begins) := goodIn_app (goodIn_of _ (by decide +kernel)) ggX6_close_X6_begins
set_option maxRecDepth 20000 in
theorem ggX6_close_X6_ends : GoodIn wsX6_close wsX6_ends := goodIn_ca (goodIn_r _ [42, 43, 37, 38, 29, 30, 31, 5, 32, 2, 13, 14, 15, 16, 17, 18, 19, 20, 7, 8, 9, 44, 45, 46, 47, 48, 49, 50, 51, 52, 53, 54, 55, 56, 57, 58] (by decide +kernel) (by decide +kernel)) (goodIn_sub (fun _ h => List.mem_cons_of_mem _ (List.mem_append_right _ h)) (by decide +kernel))
set_option maxRecDepth 20000 in
theorem gX6_close_X6_ends : GoodIn wsX6_close (wsV RX6 85 RX6 yX6_ends wsX6_ends) := goodIn_app (goodIn_of _ (by decide +kernel)) ggX6_close_X6_ends
theorem dX6_close_0 : decode cX6_close 0 = .ok (.aload_n 0, 1) := by decide +kernel
theorem dX6_close_1 : decode cX6_close 1 = .ok (.iload_n 1, 1) := by decide +kernel
theorem dX6_close_2 : decode cX6_close 2 = .ok (.invokestatic 68, 3) := by decide +kernel
theorem dX6_close_5 : decode cX6_close 5 = .ok (.ifCond .eq 18, 3) := by decide +kernel
theorem dX6_close_8 : decode cX6_close 8 = .ok (.iload_n 2, 1) := by decide +kernel
theorem dX6_close_9 : decode cX6_close 9 = .ok (.invokestatic 72, 3) := by decide +kernel
theorem dX6_close_12 : decode cX6_close 12 = .ok (.ifCond .eq 7, 3) := by decide +kernel
theorem dX6_close_15 : decode cX6_close 15 = .ok (.iconst 0, 1) := by decide +kernel
theorem dX6_close_16 : decode cX6_close 16 = .ok (.goto 8, 3) := by decide +kernel
theorem dX6_close_19 : decode cX6_close 19 = .ok (.iconst 2, 1) := by decide +kernel
theorem dX6_close_20 : decode cX6_close 20 = .ok (.goto 4, 3) := by decide +kernel
theorem dX6_close_23 : decode cX6_close 23 = .ok (.iconst 1, 1) := by decide +kernel
theorem dX6_close_24 : decode cX6_close 24 = .ok (.putfield 32, 3) := by decide +kernel
theorem dX6_close_27 : decode cX6_close 27 = .ok (.aload_n 0, 1) := by decide +kernel
theorem dX6_close_28 : decode cX6_close 28 = .ok (.getfield 32, 3) := by decide +kernel
theorem dX6_close_31 : decode cX6_close 31 = .ok (.ifCond .le 5, 3) := by decide +kernel
theorem dX6_close_34 : decode cX6_close 34 = .ok (.iconst 0, 1) := by decide +kernel
theorem dX6_close_35 : decode cX6_close 35 = .ok (.ireturn, 1) := by decide +kernel
theorem dX6_close_36 : decode cX6_close 36 = .ok (.aload_n 0, 1) := by decide +kernel
theorem dX6_close_37 : decode cX6_close 37 = .ok (.iload_n 1, 1) := by decide +kernel
theorem dX6_close_38 : decode cX6_close 38 = .ok (.iload_n 2, 1) := by decide +kernel
theorem dX6_close_39 : decode cX6_close 39 = .ok (.invokevirtual 43, 3) := by decide +kernel
theorem dX6_close_42 : decode cX6_close 42 = .ok (.istore_n 3, 1) := by decide +kernel
theorem dX6_close_43 : decode cX6_close 43 = .ok (.iload_n 3, 1) := by decide +kernel
theorem dX6_close_44 : decode cX6_close 44 = .ok (.ifCond .ge 9, 3) := by decide +kernel
theorem dX6_close_47 : decode cX6_close 47 = .ok (.aload_n 0, 1) := by decide +kernel
theorem dX6_close_48 : decode cX6_close 48 = .ok (.iconst 3, 1) := by decide +kernel
theorem dX6_close_49 : decode cX6_close 49 = .ok (.invokevirtual 82, 3) := by decide +kernel
theorem dX6_close_52 : decode cX6_close 52 = .ok (.ireturn, 1) := by decide +kernel
theorem dX6_close_53 : decode cX6_close 53 = .ok (.aload_n 0, 1) := by decide +kernel
theorem dX6_close_54 : decode cX6_close 54 = .ok (.getfield 7, 3) := by decide +kernel
theorem dX6_close_57 : decode cX6_close 57 = .ok (.sipush 130, 3) := by decide +kernel
theorem dX6_close_60 : decode cX6_close 60 = .ok (.iload_n 3, 1) := by decide +kernel
theorem dX6_close_61 : decode cX6_close 61 = .ok (.iadd, 1) := by decide +kernel
theorem dX6_close_62 : decode cX6_close 62 = .ok (.iaload, 1) := by decide +kernel
theorem dX6_close_63 : decode cX6_close 63 = .ok (.iload_n 2, 1) := by decide +kernel
theorem dX6_close_64 : decode cX6_close 64 = .ok (.if_icmp .eq 12, 3) := by decide +kernel
theorem dX6_close_67 : decode cX6_close 67 = .ok (.aload_n 0, 1) := by decide +kernel
theorem dX6_close_68 : decode cX6_close 68 = .ok (.iload_n 3, 1) := by decide +kernel
theorem dX6_close_69 : decode cX6_close 69 = .ok (.iload_n 2, 1) := by decide +kernel
theorem dX6_close_70 : decode cX6_close 70 = .ok (.invokevirtual 88, 3) := by decide +kernel
theorem dX6_close_73 : decode cX6_close 73 = .ok (.ifCond .le 9, 3) := by decide +kernel
theorem dX6_close_76 : decode cX6_close 76 = .ok (.aload_n 0, 1) := by decide +kernel
theorem dX6_close_77 : decode cX6_close 77 = .ok (.iconst 4, 1) := by decide +kernel
theorem dX6_close_78 : decode cX6_close 78 = .ok (.invokevirtual 82, 3) := by decide +kernel
theorem dX6_close_81 : decode cX6_close 81 = .ok (.ireturn, 1) := by decide +kernel
theorem dX6_close_82 : decode cX6_close 82 = .ok (.aload_n 0, 1) := by decide +kernel
theorem dX6_close_83 : decode cX6_close 83 = .ok (.invokevirtual 75, 3) := by decide +kernel
theorem dX6_close_86 : decode cX6_close 86 = .ok (.aload_n 0, 1) := by decide +kernel
theorem dX6_close_87 : decode cX6_close 87 = .ok (.getfield 7, 3) := by decide +kernel
theorem dX6_close_90 : decode cX6_close 90 = .ok (.sipush 190, 3) := by decide +kernel
theorem dX6_close_93 : decode cX6_close 93 = .ok (.iload_n 3, 1) := by decide +kernel
theorem dX6_close_94 : decode cX6_close 94 = .ok (.iadd, 1) := by decide +kernel
theorem dX6_close_95 : decode cX6_close 95 = .ok (.iaload, 1) := by decide +kernel
theorem dX6_close_96 : decode cX6_close 96 = .ok (.istore 4, 2) := by decide +kernel
theorem dX6_close_98 : decode cX6_close 98 = .ok (.aload_n 0, 1) := by decide +kernel
theorem dX6_close_99 : decode cX6_close 99 = .ok (.getfield 7, 3) := by decide +kernel
theorem dX6_close_102 : decode cX6_close 102 = .ok (.sipush 190, 3) := by decide +kernel
theorem dX6_close_105 : decode cX6_close 105 = .ok (.iload_n 3, 1) := by decide +kernel
theorem dX6_close_106 : decode cX6_close 106 = .ok (.iadd, 1) := by decide +kernel
theorem dX6_close_107 : decode cX6_close 107 = .ok (.iload_n 2, 1) := by decide +kernel
theorem dX6_close_108 : decode cX6_close 108 = .ok (.iastore, 1) := by decide +kernel
theorem dX6_close_109 : decode cX6_close 109 = .ok (.aload_n 0, 1) := by decide +kernel
theorem dX6_close_110 : decode cX6_close 110 = .ok (.invokevirtual 85, 3) := by decide +kernel
theorem dX6_close_113 : decode cX6_close 113 = .ok (.iload 4, 2) := by decide +kernel
theorem dX6_close_115 : decode cX6_close 115 = .ok (.ireturn, 1) := by decide +kernel
set_option maxRecDepth 20000 in
theorem ggX6_correct_X6_isVersion : GoodIn wsX6_correct wsX6_isVersion := goodIn_ca (goodIn_r _ [7, 2, 8, 9, 6, 10, 19, 20, 21, 22, 23, 24, 25, 26, 27, 28, 29, 30, 31, 32, 33] (by decide +kernel) (by decide +kernel)) (goodIn_sub (fun _ h => List.mem_cons_of_mem _ (List.mem_append_right _ h)) (by decide +kernel))
set_option maxRecDepth 20000 in
theorem gX6_correct_X6_isVersion : GoodIn wsX6_correct (wsV RX6 91 RX6 yX6_isVersion wsX6_isVersion) := goodIn_app (goodIn_of _ (by decide +kernel)) ggX6_correct_X6_isVersion
set_option maxRecDepth 20000 in
theorem ggX6_correct_X6_fails : GoodIn wsX6_correct wsX6_fails := goodIn_r _ [14, 1, 19, 20, 21, 22, 23, 24, 25, 26, 27, 28, 29, 30, 31, 32, 33] (by decide +kernel) (by decide +kernel)
set_option maxRecDepth 20000 in
theorem gX6_correct_X6_fails : GoodIn wsX6_correct (wsV RX6 82 RX6 yX6_fails wsX6_fails) := goodIn_app (goodIn_of _ (by decide +kernel)) ggX6_correct_X6_fails
set_option maxRecDepth 20000 in
theorem ggX6_correct_X6_becomes : GoodIn wsX6_correct wsX6_becomes := goodIn_ca (goodIn_r _ [18, 2, 19, 20, 21, 22, 23, 24, 25, 26, 27, 28, 29, 30, 31, 32, 33] (by decide +kernel) (by decide +kernel)) (goodIn_sub (fun _ h => List.mem_cons_of_mem _ (List.mem_append_right _ h)) (by decide +kernel))
set_option maxRecDepth 20000 in
theorem gX6_correct_X6_becomes : GoodIn wsX6_correct (wsV RX6 50 RX6 yX6_becomes wsX6_becomes) := goodIn_app (goodIn_of _ (by decide +kernel)) ggX6_correct_X6_becomes
theorem dX6_correct_0 : decode cX6_correct 0 = .ok (.aload_n 0, 1) := by decide +kernel
theorem dX6_correct_1 : decode cX6_correct 1 = .ok (.iconst 0, 1) := by decide +kernel
theorem dX6_correct_2 : decode cX6_correct 2 = .ok (.putfield 32, 3) := by decide +kernel
theorem dX6_correct_5 : decode cX6_correct 5 = .ok (.aload_n 0, 1) := by decide +kernel
theorem dX6_correct_6 : decode cX6_correct 6 = .ok (.iload_n 1, 1) := by decide +kernel
theorem dX6_correct_7 : decode cX6_correct 7 = .ok (.invokevirtual 91, 3) := by decide +kernel
theorem dX6_correct_10 : decode cX6_correct 10 = .ok (.ifCond .ne 9, 3) := by decide +kernel
theorem dX6_correct_13 : decode cX6_correct 13 = .ok (.aload_n 0, 1) := by decide +kernel
theorem dX6_correct_14 : decode cX6_correct 14 = .ok (.iconst 1, 1) := by decide +kernel
theorem dX6_correct_15 : decode cX6_correct 15 = .ok (.invokevirtual 82, 3) := by decide +kernel
theorem dX6_correct_18 : decode cX6_correct 18 = .ok (.ireturn, 1) := by decide +kernel
theorem dX6_correct_19 : decode cX6_correct 19 = .ok (.aload_n 0, 1) := by decide +kernel
theorem dX6_correct_20 : decode cX6_correct 20 = .ok (.getfield 7, 3) := by decide +kernel
theorem dX6_correct_23 : decode cX6_correct 23 = .ok (.sipush 250, 3) := by decide +kernel
theorem dX6_correct_26 : decode cX6_correct 26 = .ok (.iload_n 1, 1) := by decide +kernel
theorem dX6_correct_27 : decode cX6_correct 27 = .ok (.iadd, 1) := by decide +kernel
theorem dX6_correct_28 : decode cX6_correct 28 = .ok (.iaload, 1) := by decide +kernel
theorem dX6_correct_29 : decode cX6_correct 29 = .ok (.istore_n 3, 1) := by decide +kernel
theorem dX6_correct_30 : decode cX6_correct 30 = .ok (.aload_n 0, 1) := by decide +kernel
theorem dX6_correct_31 : decode cX6_correct 31 = .ok (.iload_n 1, 1) := by decide +kernel
theorem dX6_correct_32 : decode cX6_correct 32 = .ok (.iload_n 2, 1) := by decide +kernel
theorem dX6_correct_33 : decode cX6_correct 33 = .ok (.invokevirtual 50, 3) := by decide +kernel
theorem dX6_correct_36 : decode cX6_correct 36 = .ok (.iload_n 3, 1) := by decide +kernel
theorem dX6_correct_37 : decode cX6_correct 37 = .ok (.ireturn, 1) := by decide +kernel
set_option maxRecDepth 20000 in
theorem ggX6_endingAt_X6_isOf : GoodIn wsX6_endingAt wsX6_isOf := goodIn_ca (goodIn_r _ [6, 1, 7, 8, 9, 10, 11, 12, 13, 14, 15, 16, 17, 18, 19, 20, 21] (by decide +kernel) (by decide +kernel)) (goodIn_sub (fun _ h => List.mem_cons_of_mem _ (List.mem_append_right _ h)) (by decide +kernel))
set_option maxRecDepth 20000 in
theorem gX6_endingAt_X6_isOf : GoodIn wsX6_endingAt (wsV RX6 39 RX6 yX6_isOf wsX6_isOf) := goodIn_app (goodIn_of _ (by decide +kernel)) ggX6_endingAt_X6_isOf
theorem dX6_endingAt_0 : decode cX6_endingAt 0 = .ok (.iconst 0, 1) := by decide +kernel
theorem dX6_endingAt_1 : decode cX6_endingAt 1 = .ok (.istore_n 3, 1) := by decide +kernel
theorem dX6_endingAt_2 : decode cX6_endingAt 2 = .ok (.iload_n 3, 1) := by decide +kernel
theorem dX6_endingAt_3 : decode cX6_endingAt 3 = .ok (.aload_n 0, 1) := by decide +kernel
theorem dX6_endingAt_4 : decode cX6_endingAt 4 = .ok (.getfield 7, 3) := by decide +kernel
theorem dX6_endingAt_7 : decode cX6_endingAt 7 = .ok (.iconst 0, 1) := by decide +kernel
theorem dX6_endingAt_8 : decode cX6_endingAt 8 = .ok (.iaload, 1) := by decide +kernel
theorem dX6_endingAt_9 : decode cX6_endingAt 9 = .ok (.if_icmp .ge 34, 3) := by decide +kernel
theorem dX6_endingAt_12 : decode cX6_endingAt 12 = .ok (.aload_n 0, 1) := by decide +kernel
theorem dX6_endingAt_13 : decode cX6_endingAt 13 = .ok (.iload_n 3, 1) := by decide +kernel
theorem dX6_endingAt_14 : decode cX6_endingAt 14 = .ok (.iload_n 1, 1) := by decide +kernel
theorem dX6_endingAt_15 : decode cX6_endingAt 15 = .ok (.invokevirtual 39, 3) := by decide +kernel
theorem dX6_endingAt_18 : decode cX6_endingAt 18 = .ok (.ifCond .eq 19, 3) := by decide +kernel
theorem dX6_endingAt_21 : decode cX6_endingAt 21 = .ok (.aload_n 0, 1) := by decide +kernel
theorem dX6_endingAt_22 : decode cX6_endingAt 22 = .ok (.getfield 7, 3) := by decide +kernel
theorem dX6_endingAt_25 : decode cX6_endingAt 25 = .ok (.sipush 190, 3) := by decide +kernel
theorem dX6_endingAt_28 : decode cX6_endingAt 28 = .ok (.iload_n 3, 1) := by decide +kernel
theorem dX6_endingAt_29 : decode cX6_endingAt 29 = .ok (.iadd, 1) := by decide +kernel
theorem dX6_endingAt_30 : decode cX6_endingAt 30 = .ok (.iaload, 1) := by decide +kernel
theorem dX6_endingAt_31 : decode cX6_endingAt 31 = .ok (.iload_n 2, 1) := by decide +kernel
theorem dX6_endingAt_32 : decode cX6_endingAt 32 = .ok (.if_icmp .ne 5, 3) := by decide +kernel
theorem dX6_endingAt_35 : decode cX6_endingAt 35 = .ok (.iload_n 3, 1) := by decide +kernel
theorem dX6_endingAt_36 : decode cX6_endingAt 36 = .ok (.ireturn, 1) := by decide +kernel
theorem dX6_endingAt_37 : decode cX6_endingAt 37 = .ok (.iinc 3 1, 3) := by decide +kernel
theorem dX6_endingAt_40 : decode cX6_endingAt 40 = .ok (.goto (-38), 3) := by decide +kernel
theorem dX6_endingAt_43 : decode cX6_endingAt 43 = .ok (.iconst (-1), 1) := by decide +kernel
theorem dX6_endingAt_44 : decode cX6_endingAt 44 = .ok (.ireturn, 1) := by decide +kernel
set_option maxRecDepth 20000 in
theorem ggX6_remove_X6_isVersion : GoodIn wsX6_remove wsX6_isVersion := goodIn_ca (goodIn_r _ [7, 2, 8, 9, 6, 10, 46, 47, 48, 49, 50, 51, 52, 53, 54, 55, 56, 57, 58, 59, 60] (by decide +kernel) (by decide +kernel)) (goodIn_sub (fun _ h => List.mem_cons_of_mem _ (List.mem_append_right _ h)) (by decide +kernel))
set_option maxRecDepth 20000 in
theorem gX6_remove_X6_isVersion : GoodIn wsX6_remove (wsV RX6 91 RX6 yX6_isVersion wsX6_isVersion) := goodIn_app (goodIn_of _ (by decide +kernel)) ggX6_remove_X6_isVersion
set_option maxRecDepth 20000 in
theorem ggX6_remove_X6_fails : GoodIn wsX6_remove wsX6_fails := goodIn_r _ [14, 1, 46, 47, 48, 49, 50, 51, 52, 53, 54, 55, 56, 57, 58, 59, 60] (by decide +kernel) (by decide +kernel)
set_option maxRecDepth 20000 in
theorem gX6_remove_X6_fails : GoodIn wsX6_remove (wsV RX6 82 RX6 yX6_fails wsX6_fails) := goodIn_app (goodIn_of _ (by decide +kernel)) ggX6_remove_X6_fails
set_option maxRecDepth 20000 in
theorem ggX6_remove_X6_endingAt : GoodIn wsX6_remove wsX6_endingAt := goodIn_ca (goodIn_r _ [18, 2, 19, 20, 21, 6, 22, 46, 47, 48, 49, 50, 51, 52, 53, 54, 55, 56, 57, 58, 59, 60] (by decide +kernel) (by decide +kernel)) (goodIn_sub (fun _ h => List.mem_cons_of_mem _ (List.mem_append_right _ h)) (by decide +kernel))
set_option maxRecDepth 20000 in
theorem gX6_remove_X6_endingAt : GoodIn wsX6_remove (wsV RX6 94 RX6 yX6_endingAt wsX6_endingAt) := goodIn_app (goodIn_of _ (by decide +kernel)) ggX6_remove_X6_endingAt
set_option maxRecDepth 20000 in
theorem ggX6_remove_X6_factsOf : GoodIn wsX6_remove wsX6_factsOf := goodIn_ca (goodIn_r _ [26, 2, 27, 28, 29, 6, 30, 31, 32, 33, 34, 19, 20, 21, 22, 8, 9, 10, 46, 47, 48, 49, 50, 51, 52, 53, 54, 55, 56, 57, 58, 59, 60] (by decide +kernel) (by decide +kernel)) (goodIn_sub (fun _ h => List.mem_cons_of_mem _ (List.mem_append_right _ h)) (by decide +kernel))
set_option maxRecDepth 20000 in
theorem gX6_remove_X6_factsOf : GoodIn wsX6_remove (wsV RX6 88 RX6 yX6_factsOf wsX6_factsOf) := goodIn_app (goodIn_of _ (by decide +kernel)) ggX6_remove_X6_factsOf
set_option maxRecDepth 20000 in
theorem ggX6_remove_X6_begins : GoodIn wsX6_remove wsX6_begins := goodIn_ca (goodIn_r _ [38, 2, 39, 40, 27, 28, 29, 6, 30, 31, 32, 33, 34, 19, 20, 21, 22, 8, 9, 10, 46, 47, 48, 49, 50, 51, 52, 53, 54, 55, 56, 57, 58, 59, 60] (by decide +kernel) (by decide +kernel)) (goodIn_sub (fun _ h => List.mem_cons_of_mem _ (List.mem_append_right _ h)) (by decide +kernel))
set_option maxRecDepth 20000 in
theorem gX6_remove_X6_begins : GoodIn wsX6_remove (wsV RX6 75 RX6 yX6_begins wsX6_begins) := goodIn_app (goodIn_of _ (by decide +kernel)) ggX6_remove_X6_begins
set_option maxRecDepth 20000 in
theorem ggX6_remove_X6_ends : GoodIn wsX6_remove wsX6_ends := goodIn_ca (goodIn_r _ [44, 45, 39, 40, 27, 28, 29, 6, 30, 2, 31, 32, 33, 34, 19, 20, 21, 22, 8, 9, 10, 46, 47, 48, 49, 50, 51, 52, 53, 54, 55, 56, 57, 58, 59, 60] (by decide +kernel) (by decide +kernel)) (goodIn_sub (fun _ h => List.mem_cons_of_mem _ (List.mem_append_right _ h)) (by decide +kernel))
set_option maxRecDepth 20000 in
theorem gX6_remove_X6_ends : GoodIn wsX6_remove (wsV RX6 85 RX6 yX6_ends wsX6_ends) := goodIn_app (goodIn_of _ (by decide +kernel)) ggX6_remove_X6_ends
theorem dX6_remove_0 : decode cX6_remove 0 = .ok (.aload_n 0, 1) := by decide +kernel
theorem dX6_remove_1 : decode cX6_remove 1 = .ok (.iconst 0, 1) := by decide +kernel
theorem dX6_remove_2 : decode cX6_remove 2 = .ok (.putfield 32, 3) := by decide +kernel
theorem dX6_remove_5 : decode cX6_remove 5 = .ok (.aload_n 0, 1) := by decide +kernel
theorem dX6_remove_6 : decode cX6_remove 6 = .ok (.iload_n 1, 1) := by decide +kernel
theorem dX6_remove_7 : decode cX6_remove 7 = .ok (.invokevirtual 91, 3) := by decide +kernel
theorem dX6_remove_10 : decode cX6_remove 10 = .ok (.ifCond .ne 9, 3) := by decide +kernel
theorem dX6_remove_13 : decode cX6_remove 13 = .ok (.aload_n 0, 1) := by decide +kernel
theorem dX6_remove_14 : decode cX6_remove 14 = .ok (.iconst 1, 1) := by decide +kernel
theorem dX6_remove_15 : decode cX6_remove 15 = .ok (.invokevirtual 82, 3) := by decide +kernel
theorem dX6_remove_18 : decode cX6_remove 18 = .ok (.ireturn, 1) := by decide +kernel
theorem dX6_remove_19 : decode cX6_remove 19 = .ok (.aload_n 0, 1) := by decide +kernel
theorem dX6_remove_20 : decode cX6_remove 20 = .ok (.aload_n 0, 1) := by decide +kernel
theorem dX6_remove_21 : decode cX6_remove 21 = .ok (.getfield 7, 3) := by decide +kernel
theorem dX6_remove_24 : decode cX6_remove 24 = .ok (.bipush 70, 2) := by decide +kernel
theorem dX6_remove_26 : decode cX6_remove 26 = .ok (.iload_n 1, 1) := by decide +kernel
theorem dX6_remove_27 : decode cX6_remove 27 = .ok (.iadd, 1) := by decide +kernel
theorem dX6_remove_28 : decode cX6_remove 28 = .ok (.iaload, 1) := by decide +kernel
theorem dX6_remove_29 : decode cX6_remove 29 = .ok (.aload_n 0, 1) := by decide +kernel
theorem dX6_remove_30 : decode cX6_remove 30 = .ok (.getfield 7, 3) := by decide +kernel
theorem dX6_remove_33 : decode cX6_remove 33 = .ok (.sipush 130, 3) := by decide +kernel
theorem dX6_remove_36 : decode cX6_remove 36 = .ok (.iload_n 1, 1) := by decide +kernel
theorem dX6_remove_37 : decode cX6_remove 37 = .ok (.iadd, 1) := by decide +kernel
theorem dX6_remove_38 : decode cX6_remove 38 = .ok (.iaload, 1) := by decide +kernel
theorem dX6_remove_39 : decode cX6_remove 39 = .ok (.invokevirtual 94, 3) := by decide +kernel
theorem dX6_remove_42 : decode cX6_remove 42 = .ok (.istore_n 2, 1) := by decide +kernel
theorem dX6_remove_43 : decode cX6_remove 43 = .ok (.aload_n 0, 1) := by decide +kernel
theorem dX6_remove_44 : decode cX6_remove 44 = .ok (.iload_n 1, 1) := by decide +kernel
theorem dX6_remove_45 : decode cX6_remove 45 = .ok (.iconst 0, 1) := by decide +kernel
theorem dX6_remove_46 : decode cX6_remove 46 = .ok (.invokevirtual 88, 3) := by decide +kernel
theorem dX6_remove_49 : decode cX6_remove 49 = .ok (.istore_n 3, 1) := by decide +kernel
theorem dX6_remove_50 : decode cX6_remove 50 = .ok (.iload_n 2, 1) := by decide +kernel
theorem dX6_remove_51 : decode cX6_remove 51 = .ok (.ifCond .ge 13, 3) := by decide +kernel
theorem dX6_remove_54 : decode cX6_remove 54 = .ok (.iload_n 3, 1) := by decide +kernel
theorem dX6_remove_55 : decode cX6_remove 55 = .ok (.ifCond .le 9, 3) := by decide +kernel
theorem dX6_remove_58 : decode cX6_remove 58 = .ok (.aload_n 0, 1) := by decide +kernel
theorem dX6_remove_59 : decode cX6_remove 59 = .ok (.iconst 2, 1) := by decide +kernel
theorem dX6_remove_60 : decode cX6_remove 60 = .ok (.invokevirtual 82, 3) := by decide +kernel
theorem dX6_remove_63 : decode cX6_remove 63 = .ok (.ireturn, 1) := by decide +kernel
theorem dX6_remove_64 : decode cX6_remove 64 = .ok (.aload_n 0, 1) := by decide +kernel
theorem dX6_remove_65 : decode cX6_remove 65 = .ok (.invokevirtual 75, 3) := by decide +kernel
theorem dX6_remove_68 : decode cX6_remove 68 = .ok (.aload_n 0, 1) := by decide +kernel
theorem dX6_remove_69 : decode cX6_remove 69 = .ok (.getfield 7, 3) := by decide +kernel
theorem dX6_remove_72 : decode cX6_remove 72 = .ok (.bipush 10, 2) := by decide +kernel
theorem dX6_remove_74 : decode cX6_remove 74 = .ok (.iload_n 1, 1) := by decide +kernel
theorem dX6_remove_75 : decode cX6_remove 75 = .ok (.iadd, 1) := by decide +kernel
theorem dX6_remove_76 : decode cX6_remove 76 = .ok (.iconst 0, 1) := by decide +kernel
theorem dX6_remove_77 : decode cX6_remove 77 = .ok (.iastore, 1) := by decide +kernel
theorem dX6_remove_78 : decode cX6_remove 78 = .ok (.iload_n 2, 1) := by decide +kernel
theorem dX6_remove_79 : decode cX6_remove 79 = .ok (.ifCond .lt 23, 3) := by decide +kernel
theorem dX6_remove_82 : decode cX6_remove 82 = .ok (.aload_n 0, 1) := by decide +kernel
theorem dX6_remove_83 : decode cX6_remove 83 = .ok (.getfield 7, 3) := by decide +kernel
theorem dX6_remove_86 : decode cX6_remove 86 = .ok (.sipush 190, 3) := by decide +kernel
theorem dX6_remove_89 : decode cX6_remove 89 = .ok (.iload_n 2, 1) := by decide +kernel
theorem dX6_remove_90 : decode cX6_remove 90 = .ok (.iadd, 1) := by decide +kernel
theorem dX6_remove_91 : decode cX6_remove 91 = .ok (.aload_n 0, 1) := by decide +kernel
theorem dX6_remove_92 : decode cX6_remove 92 = .ok (.getfield 7, 3) := by decide +kernel
theorem dX6_remove_95 : decode cX6_remove 95 = .ok (.sipush 190, 3) := by decide +kernel
theorem dX6_remove_98 : decode cX6_remove 98 = .ok (.iload_n 1, 1) := by decide +kernel
theorem dX6_remove_99 : decode cX6_remove 99 = .ok (.iadd, 1) := by decide +kernel
theorem dX6_remove_100 : decode cX6_remove 100 = .ok (.iaload, 1) := by decide +kernel
theorem dX6_remove_101 : decode cX6_remove 101 = .ok (.iastore, 1) := by decide +kernel
theorem dX6_remove_102 : decode cX6_remove 102 = .ok (.aload_n 0, 1) := by decide +kernel
theorem dX6_remove_103 : decode cX6_remove 103 = .ok (.invokevirtual 85, 3) := by decide +kernel
theorem dX6_remove_106 : decode cX6_remove 106 = .ok (.iload_n 3, 1) := by decide +kernel
theorem dX6_remove_107 : decode cX6_remove 107 = .ok (.ireturn, 1) := by decide +kernel
set_option maxRecDepth 20000 in
theorem ggX6_placeOf_X6_isOf : GoodIn wsX6_placeOf wsX6_isOf := goodIn_ca (goodIn_r _ [6, 1, 7, 8, 9, 10, 11, 12, 13, 14, 15, 16, 17, 18, 19, 20, 21] (by decide +kernel) (by decide +kernel)) (goodIn_sub (fun _ h => List.mem_cons_of_mem _ (List.mem_append_right _ h)) (by decide +kernel))
set_option maxRecDepth 20000 in
theorem gX6_placeOf_X6_isOf : GoodIn wsX6_placeOf (wsV RX6 39 RX6 yX6_isOf wsX6_isOf) := goodIn_app (goodIn_of _ (by decide +kernel)) ggX6_placeOf_X6_isOf
theorem dX6_placeOf_0 : decode cX6_placeOf 0 = .ok (.iconst 0, 1) := by decide +kernel
theorem dX6_placeOf_1 : decode cX6_placeOf 1 = .ok (.istore_n 2, 1) := by decide +kernel
theorem dX6_placeOf_2 : decode cX6_placeOf 2 = .ok (.iconst 0, 1) := by decide +kernel
theorem dX6_placeOf_3 : decode cX6_placeOf 3 = .ok (.istore_n 3, 1) := by decide +kernel
theorem dX6_placeOf_4 : decode cX6_placeOf 4 = .ok (.iload_n 3, 1) := by decide +kernel
theorem dX6_placeOf_5 : decode cX6_placeOf 5 = .ok (.aload_n 0, 1) := by decide +kernel
theorem dX6_placeOf_6 : decode cX6_placeOf 6 = .ok (.getfield 7, 3) := by decide +kernel
theorem dX6_placeOf_9 : decode cX6_placeOf 9 = .ok (.iconst 0, 1) := by decide +kernel
theorem dX6_placeOf_10 : decode cX6_placeOf 10 = .ok (.iaload, 1) := by decide +kernel
theorem dX6_placeOf_11 : decode cX6_placeOf 11 = .ok (.if_icmp .ge 57, 3) := by decide +kernel
theorem dX6_placeOf_14 : decode cX6_placeOf 14 = .ok (.iload_n 2, 1) := by decide +kernel
theorem dX6_placeOf_15 : decode cX6_placeOf 15 = .ok (.aload_n 0, 1) := by decide +kernel
theorem dX6_placeOf_16 : decode cX6_placeOf 16 = .ok (.iload_n 3, 1) := by decide +kernel
theorem dX6_placeOf_17 : decode cX6_placeOf 17 = .ok (.aload_n 0, 1) := by decide +kernel
theorem dX6_placeOf_18 : decode cX6_placeOf 18 = .ok (.getfield 7, 3) := by decide +kernel
theorem dX6_placeOf_21 : decode cX6_placeOf 21 = .ok (.bipush 70, 2) := by decide +kernel
theorem dX6_placeOf_23 : decode cX6_placeOf 23 = .ok (.iload_n 1, 1) := by decide +kernel
theorem dX6_placeOf_24 : decode cX6_placeOf 24 = .ok (.iadd, 1) := by decide +kernel
theorem dX6_placeOf_25 : decode cX6_placeOf 25 = .ok (.iaload, 1) := by decide +kernel
theorem dX6_placeOf_26 : decode cX6_placeOf 26 = .ok (.invokevirtual 39, 3) := by decide +kernel
theorem dX6_placeOf_29 : decode cX6_placeOf 29 = .ok (.ifCond .eq 30, 3) := by decide +kernel
theorem dX6_placeOf_32 : decode cX6_placeOf 32 = .ok (.aload_n 0, 1) := by decide +kernel
theorem dX6_placeOf_33 : decode cX6_placeOf 33 = .ok (.getfield 7, 3) := by decide +kernel
theorem dX6_placeOf_36 : decode cX6_placeOf 36 = .ok (.sipush 130, 3) := by decide +kernel
theorem dX6_placeOf_39 : decode cX6_placeOf 39 = .ok (.iload_n 3, 1) := by decide +kernel
theorem dX6_placeOf_40 : decode cX6_placeOf 40 = .ok (.iadd, 1) := by decide +kernel
theorem dX6_placeOf_41 : decode cX6_placeOf 41 = .ok (.iaload, 1) := by decide +kernel
theorem dX6_placeOf_42 : decode cX6_placeOf 42 = .ok (.aload_n 0, 1) := by decide +kernel
theorem dX6_placeOf_43 : decode cX6_placeOf 43 = .ok (.getfield 7, 3) := by decide +kernel
theorem dX6_placeOf_46 : decode cX6_placeOf 46 = .ok (.sipush 130, 3) := by decide +kernel
theorem dX6_placeOf_49 : decode cX6_placeOf 49 = .ok (.iload_n 1, 1) := by decide +kernel
theorem dX6_placeOf_50 : decode cX6_placeOf 50 = .ok (.iadd, 1) := by decide +kernel
theorem dX6_placeOf_51 : decode cX6_placeOf 51 = .ok (.iaload, 1) := by decide +kernel
theorem dX6_placeOf_52 : decode cX6_placeOf 52 = .ok (.if_icmp .ge 7, 3) := by decide +kernel
theorem dX6_placeOf_55 : decode cX6_placeOf 55 = .ok (.iconst 1, 1) := by decide +kernel
theorem dX6_placeOf_56 : decode cX6_placeOf 56 = .ok (.goto 4, 3) := by decide +kernel
theorem dX6_placeOf_59 : decode cX6_placeOf 59 = .ok (.iconst 0, 1) := by decide +kernel
theorem dX6_placeOf_60 : decode cX6_placeOf 60 = .ok (.iadd, 1) := by decide +kernel
theorem dX6_placeOf_61 : decode cX6_placeOf 61 = .ok (.istore_n 2, 1) := by decide +kernel
theorem dX6_placeOf_62 : decode cX6_placeOf 62 = .ok (.iinc 3 1, 3) := by decide +kernel
theorem dX6_placeOf_65 : decode cX6_placeOf 65 = .ok (.goto (-61), 3) := by decide +kernel
theorem dX6_placeOf_68 : decode cX6_placeOf 68 = .ok (.iload_n 2, 1) := by decide +kernel
theorem dX6_placeOf_69 : decode cX6_placeOf 69 = .ok (.ireturn, 1) := by decide +kernel
set_option maxRecDepth 20000 in
theorem ggX6_many_X6_isOf : GoodIn wsX6_many wsX6_isOf := goodIn_ca (goodIn_r _ [6, 1, 7, 8, 9, 10, 11, 12, 13, 14, 15, 16, 17, 18, 19, 20, 21] (by decide +kernel) (by decide +kernel)) (goodIn_sub (fun _ h => List.mem_cons_of_mem _ (List.mem_append_right _ h)) (by decide +kernel))
set_option maxRecDepth 20000 in
theorem gX6_many_X6_isOf : GoodIn wsX6_many (wsV RX6 39 RX6 yX6_isOf wsX6_isOf) := goodIn_app (goodIn_of _ (by decide +kernel)) ggX6_many_X6_isOf
theorem dX6_many_0 : decode cX6_many 0 = .ok (.iconst 0, 1) := by decide +kernel
theorem dX6_many_1 : decode cX6_many 1 = .ok (.istore_n 2, 1) := by decide +kernel
theorem dX6_many_2 : decode cX6_many 2 = .ok (.iconst 0, 1) := by decide +kernel
theorem dX6_many_3 : decode cX6_many 3 = .ok (.istore_n 3, 1) := by decide +kernel
theorem dX6_many_4 : decode cX6_many 4 = .ok (.iload_n 3, 1) := by decide +kernel
theorem dX6_many_5 : decode cX6_many 5 = .ok (.aload_n 0, 1) := by decide +kernel
theorem dX6_many_6 : decode cX6_many 6 = .ok (.getfield 7, 3) := by decide +kernel
theorem dX6_many_9 : decode cX6_many 9 = .ok (.iconst 0, 1) := by decide +kernel
theorem dX6_many_10 : decode cX6_many 10 = .ok (.iaload, 1) := by decide +kernel
theorem dX6_many_11 : decode cX6_many 11 = .ok (.if_icmp .ge 26, 3) := by decide +kernel
theorem dX6_many_14 : decode cX6_many 14 = .ok (.iload_n 2, 1) := by decide +kernel
theorem dX6_many_15 : decode cX6_many 15 = .ok (.aload_n 0, 1) := by decide +kernel
theorem dX6_many_16 : decode cX6_many 16 = .ok (.iload_n 3, 1) := by decide +kernel
theorem dX6_many_17 : decode cX6_many 17 = .ok (.iload_n 1, 1) := by decide +kernel
theorem dX6_many_18 : decode cX6_many 18 = .ok (.invokevirtual 39, 3) := by decide +kernel
theorem dX6_many_21 : decode cX6_many 21 = .ok (.ifCond .eq 7, 3) := by decide +kernel
theorem dX6_many_24 : decode cX6_many 24 = .ok (.iconst 1, 1) := by decide +kernel
theorem dX6_many_25 : decode cX6_many 25 = .ok (.goto 4, 3) := by decide +kernel
theorem dX6_many_28 : decode cX6_many 28 = .ok (.iconst 0, 1) := by decide +kernel
theorem dX6_many_29 : decode cX6_many 29 = .ok (.iadd, 1) := by decide +kernel
theorem dX6_many_30 : decode cX6_many 30 = .ok (.istore_n 2, 1) := by decide +kernel
theorem dX6_many_31 : decode cX6_many 31 = .ok (.iinc 3 1, 3) := by decide +kernel
theorem dX6_many_34 : decode cX6_many 34 = .ok (.goto (-30), 3) := by decide +kernel
theorem dX6_many_37 : decode cX6_many 37 = .ok (.iload_n 2, 1) := by decide +kernel
theorem dX6_many_38 : decode cX6_many 38 = .ok (.ireturn, 1) := by decide +kernel
set_option maxRecDepth 20000 in
theorem ggX6_placed_X6_isOf : GoodIn wsX6_placed wsX6_isOf := goodIn_ca (goodIn_r _ [6, 1, 11, 12, 13, 14, 15, 16, 17, 18, 19, 20, 21, 22, 23, 24, 25] (by decide +kernel) (by decide +kernel)) (goodIn_sub (fun _ h => List.mem_cons_of_mem _ (List.mem_append_right _ h)) (by decide +kernel))
set_option maxRecDepth 20000 in
theorem gX6_placed_X6_isOf : GoodIn wsX6_placed (wsV RX6 39 RX6 yX6_isOf wsX6_isOf) := goodIn_app (goodIn_of _ (by decide +kernel)) ggX6_placed_X6_isOf
set_option maxRecDepth 20000 in
theorem ggX6_placed_X6_placeOf : GoodIn wsX6_placed wsX6_placeOf := goodIn_ca (goodIn_r _ [10, 1, 2, 3, 4, 5, 6, 11, 12, 13, 14, 15, 16, 17, 18, 19, 20, 21, 22, 23, 24, 25] (by decide +kernel) (by decide +kernel)) (goodIn_sub (fun _ h => List.mem_cons_of_mem _ (List.mem_append_right _ h)) (by decide +kernel))
set_option maxRecDepth 20000 in
theorem gX6_placed_X6_placeOf : GoodIn wsX6_placed (wsV RX6 97 RX6 yX6_placeOf wsX6_placeOf) := goodIn_app (goodIn_of _ (by decide +kernel)) ggX6_placed_X6_placeOf
theorem dX6_placed_0 : decode cX6_placed 0 = .ok (.iconst 0, 1) := by decide +kernel
theorem dX6_placed_1 : decode cX6_placed 1 = .ok (.istore_n 3, 1) := by decide +kernel
theorem dX6_placed_2 : decode cX6_placed 2 = .ok (.iload_n 3, 1) := by decide +kernel
theorem dX6_placed_3 : decode cX6_placed 3 = .ok (.aload_n 0, 1) := by decide +kernel
theorem dX6_placed_4 : decode cX6_placed 4 = .ok (.getfield 7, 3) := by decide +kernel
theorem dX6_placed_7 : decode cX6_placed 7 = .ok (.iconst 0, 1) := by decide +kernel
theorem dX6_placed_8 : decode cX6_placed 8 = .ok (.iaload, 1) := by decide +kernel
theorem dX6_placed_9 : decode cX6_placed 9 = .ok (.if_icmp .ge 29, 3) := by decide +kernel
theorem dX6_placed_12 : decode cX6_placed 12 = .ok (.aload_n 0, 1) := by decide +kernel
theorem dX6_placed_13 : decode cX6_placed 13 = .ok (.iload_n 3, 1) := by decide +kernel
theorem dX6_placed_14 : decode cX6_placed 14 = .ok (.iload_n 1, 1) := by decide +kernel
theorem dX6_placed_15 : decode cX6_placed 15 = .ok (.invokevirtual 39, 3) := by decide +kernel
theorem dX6_placed_18 : decode cX6_placed 18 = .ok (.ifCond .eq 14, 3) := by decide +kernel
theorem dX6_placed_21 : decode cX6_placed 21 = .ok (.aload_n 0, 1) := by decide +kernel
theorem dX6_placed_22 : decode cX6_placed 22 = .ok (.iload_n 3, 1) := by decide +kernel
theorem dX6_placed_23 : decode cX6_placed 23 = .ok (.invokevirtual 97, 3) := by decide +kernel
theorem dX6_placed_26 : decode cX6_placed 26 = .ok (.iload_n 2, 1) := by decide +kernel
theorem dX6_placed_27 : decode cX6_placed 27 = .ok (.if_icmp .ne 5, 3) := by decide +kernel
theorem dX6_placed_30 : decode cX6_placed 30 = .ok (.iload_n 3, 1) := by decide +kernel
theorem dX6_placed_31 : decode cX6_placed 31 = .ok (.ireturn, 1) := by decide +kernel
theorem dX6_placed_32 : decode cX6_placed 32 = .ok (.iinc 3 1, 3) := by decide +kernel
theorem dX6_placed_35 : decode cX6_placed 35 = .ok (.goto (-33), 3) := by decide +kernel
theorem dX6_placed_38 : decode cX6_placed 38 = .ok (.iconst (-1), 1) := by decide +kernel
theorem dX6_placed_39 : decode cX6_placed 39 = .ok (.ireturn, 1) := by decide +kernel
theorem dX6_joins_0 : decode cX6_joins 0 = .ok (.aload_n 0, 1) := by decide +kernel
theorem dX6_joins_1 : decode cX6_joins 1 = .ok (.getfield 7, 3) := by decide +kernel
theorem dX6_joins_4 : decode cX6_joins 4 = .ok (.sipush 190, 3) := by decide +kernel
theorem dX6_joins_7 : decode cX6_joins 7 = .ok (.iload_n 1, 1) := by decide +kernel
theorem dX6_joins_8 : decode cX6_joins 8 = .ok (.iadd, 1) := by decide +kernel
theorem dX6_joins_9 : decode cX6_joins 9 = .ok (.iaload, 1) := by decide +kernel
theorem dX6_joins_10 : decode cX6_joins 10 = .ok (.aload_n 0, 1) := by decide +kernel
theorem dX6_joins_11 : decode cX6_joins 11 = .ok (.getfield 7, 3) := by decide +kernel
theorem dX6_joins_14 : decode cX6_joins 14 = .ok (.sipush 130, 3) := by decide +kernel
theorem dX6_joins_17 : decode cX6_joins 17 = .ok (.iload_n 2, 1) := by decide +kernel
theorem dX6_joins_18 : decode cX6_joins 18 = .ok (.iadd, 1) := by decide +kernel
theorem dX6_joins_19 : decode cX6_joins 19 = .ok (.iaload, 1) := by decide +kernel
theorem dX6_joins_20 : decode cX6_joins 20 = .ok (.if_icmp .ne 56, 3) := by decide +kernel
theorem dX6_joins_23 : decode cX6_joins 23 = .ok (.aload_n 0, 1) := by decide +kernel
theorem dX6_joins_24 : decode cX6_joins 24 = .ok (.getfield 7, 3) := by decide +kernel
theorem dX6_joins_27 : decode cX6_joins 27 = .ok (.sipush 310, 3) := by decide +kernel
theorem dX6_joins_30 : decode cX6_joins 30 = .ok (.iload_n 1, 1) := by decide +kernel
theorem dX6_joins_31 : decode cX6_joins 31 = .ok (.iadd, 1) := by decide +kernel
theorem dX6_joins_32 : decode cX6_joins 32 = .ok (.iaload, 1) := by decide +kernel
theorem dX6_joins_33 : decode cX6_joins 33 = .ok (.ifCond .ne 43, 3) := by decide +kernel
theorem dX6_joins_36 : decode cX6_joins 36 = .ok (.aload_n 0, 1) := by decide +kernel
theorem dX6_joins_37 : decode cX6_joins 37 = .ok (.getfield 7, 3) := by decide +kernel
theorem dX6_joins_40 : decode cX6_joins 40 = .ok (.sipush 310, 3) := by decide +kernel
theorem dX6_joins_43 : decode cX6_joins 43 = .ok (.iload_n 2, 1) := by decide +kernel
theorem dX6_joins_44 : decode cX6_joins 44 = .ok (.iadd, 1) := by decide +kernel
theorem dX6_joins_45 : decode cX6_joins 45 = .ok (.iaload, 1) := by decide +kernel
theorem dX6_joins_46 : decode cX6_joins 46 = .ok (.ifCond .ne 30, 3) := by decide +kernel
theorem dX6_joins_49 : decode cX6_joins 49 = .ok (.aload_n 0, 1) := by decide +kernel
theorem dX6_joins_50 : decode cX6_joins 50 = .ok (.getfield 7, 3) := by decide +kernel
theorem dX6_joins_53 : decode cX6_joins 53 = .ok (.sipush 250, 3) := by decide +kernel
theorem dX6_joins_56 : decode cX6_joins 56 = .ok (.iload_n 1, 1) := by decide +kernel
theorem dX6_joins_57 : decode cX6_joins 57 = .ok (.iadd, 1) := by decide +kernel
theorem dX6_joins_58 : decode cX6_joins 58 = .ok (.iaload, 1) := by decide +kernel
theorem dX6_joins_59 : decode cX6_joins 59 = .ok (.aload_n 0, 1) := by decide +kernel
theorem dX6_joins_60 : decode cX6_joins 60 = .ok (.getfield 7, 3) := by decide +kernel
theorem dX6_joins_63 : decode cX6_joins 63 = .ok (.sipush 250, 3) := by decide +kernel
theorem dX6_joins_66 : decode cX6_joins 66 = .ok (.iload_n 2, 1) := by decide +kernel
theorem dX6_joins_67 : decode cX6_joins 67 = .ok (.iadd, 1) := by decide +kernel
theorem dX6_joins_68 : decode cX6_joins 68 = .ok (.iaload, 1) := by decide +kernel
theorem dX6_joins_69 : decode cX6_joins 69 = .ok (.if_icmp .ne 7, 3) := by decide +kernel
theorem dX6_joins_72 : decode cX6_joins 72 = .ok (.iconst 1, 1) := by decide +kernel
theorem dX6_joins_73 : decode cX6_joins 73 = .ok (.goto 4, 3) := by decide +kernel
theorem dX6_joins_76 : decode cX6_joins 76 = .ok (.iconst 0, 1) := by decide +kernel
theorem dX6_joins_77 : decode cX6_joins 77 = .ok (.ireturn, 1) := by decide +kernel
set_option maxRecDepth 20000 in
theorem ggX6_join_X6_isKey : GoodIn wsX6_join wsX6_isKey := goodIn_r _ [6, 7, 8, 5, 9] (by decide +kernel) (by decide +kernel)
set_option maxRecDepth 20000 in
theorem gX6_join_X6_isKey : GoodIn wsX6_join (va_wsS RX6 68 yX6_isKey wsX6_isKey) := goodIn_app (goodIn_of _ (by decide +kernel)) ggX6_join_X6_isKey
set_option maxRecDepth 20000 in
theorem ggX6_join_X6_fails : GoodIn wsX6_join wsX6_fails := goodIn_r _ [13, 1, 53, 54, 55, 56, 57, 58, 59, 60, 61, 62, 63, 64, 65, 66, 67] (by decide +kernel) (by decide +kernel)
set_option maxRecDepth 20000 in
theorem gX6_join_X6_fails : GoodIn wsX6_join (wsV RX6 82 RX6 yX6_fails wsX6_fails) := goodIn_app (goodIn_of _ (by decide +kernel)) ggX6_join_X6_fails
set_option maxRecDepth 20000 in
theorem ggX6_join_X6_begins : GoodIn wsX6_join wsX6_begins := goodIn_ca (goodIn_r _ [17, 2, 18, 19, 20, 21, 22, 5, 23, 24, 25, 26, 27, 28, 29, 30, 31, 7, 8, 9, 53, 54, 55, 56, 57, 58, 59, 60, 61, 62, 63, 64, 65, 66, 67] (by decide +kernel) (by decide +kernel)) (goodIn_sub (fun _ h => List.mem_cons_of_mem _ (List.mem_append_right _ h)) (by decide +kernel))
set_option maxRecDepth 20000 in
theorem gX6_join_X6_begins : GoodIn wsX6_join (wsV RX6 75 RX6 yX6_begins wsX6_begins) := goodIn_app (goodIn_of _ (by decide +kernel)) ggX6_join_X6_begins
set_option maxRecDepth 20000 in
theorem ggX6_join_X6_many : GoodIn wsX6_join wsX6_many := goodIn_ca (goodIn_r _ [35, 2, 28, 29, 30, 5, 31, 53, 54, 55, 56, 57, 58, 59, 60, 61, 62, 63, 64, 65, 66, 67] (by decide +kernel) (by decide +kernel)) (goodIn_sub (fun _ h => List.mem_cons_of_mem _ (List.mem_append_right _ h)) (by decide +kernel))
set_option maxRecDepth 20000 in
theorem gX6_join_X6_many : GoodIn wsX6_join (wsV RX6 100 RX6 yX6_many wsX6_many) := goodIn_app (goodIn_of _ (by decide +kernel)) ggX6_join_X6_many
set_option maxRecDepth 20000 in
theorem ggX6_join_X6_placed : GoodIn wsX6_join wsX6_placed := goodIn_ca (goodIn_r _ [39, 2, 28, 29, 30, 5, 31, 40, 41, 42, 43, 53, 54, 55, 56, 57, 58, 59, 60, 61, 62, 63, 64, 65, 66, 67] (by decide +kernel) (by decide +kernel)) (goodIn_sub (fun _ h => List.mem_cons_of_mem _ (List.mem_append_right _ h)) (by decide +kernel))
set_option maxRecDepth 20000 in
theorem gX6_join_X6_placed : GoodIn wsX6_join (wsV RX6 103 RX6 yX6_placed wsX6_placed) := goodIn_app (goodIn_of _ (by decide +kernel)) ggX6_join_X6_placed
set_option maxRecDepth 20000 in
theorem ggX6_join_X6_joins : GoodIn wsX6_join wsX6_joins := goodIn_ca (goodIn_r _ [47, 2, 53, 54, 55, 56, 57, 58, 59, 60, 61, 62, 63, 64, 65, 66, 67] (by decide +kernel) (by decide +kernel)) (goodIn_sub (fun _ h => List.mem_cons_of_mem _ (List.mem_append_right _ h)) (by decide +kernel))
set_option maxRecDepth 20000 in
theorem gX6_join_X6_joins : GoodIn wsX6_join (wsV RX6 106 RX6 yX6_joins wsX6_joins) := goodIn_app (goodIn_of _ (by decide +kernel)) ggX6_join_X6_joins
set_option maxRecDepth 20000 in
theorem ggX6_join_X6_ends : GoodIn wsX6_join wsX6_ends := goodIn_ca (goodIn_r _ [51, 52, 18, 19, 20, 21, 22, 5, 23, 2, 24, 25, 26, 27, 28, 29, 30, 31, 7, 8, 9, 53, 54, 55, 56, 57, 58, 59, 60, 61, 62, 63, 64, 65, 66, 67] (by decide +kernel) (by decide +kernel)) (goodIn_sub (fun _ h => List.mem_cons_of_mem _ (List.mem_append_right _ h)) (by decide +kernel))
set_option maxRecDepth 20000 in
theorem gX6_join_X6_ends : GoodIn wsX6_join (wsV RX6 85 RX6 yX6_ends wsX6_ends) := goodIn_app (goodIn_of _ (by decide +kernel)) ggX6_join_X6_ends
theorem dX6_join_0 : decode cX6_join 0 = .ok (.aload_n 0, 1) := by decide +kernel
theorem dX6_join_1 : decode cX6_join 1 = .ok (.iconst 0, 1) := by decide +kernel
theorem dX6_join_2 : decode cX6_join 2 = .ok (.putfield 32, 3) := by decide +kernel
theorem dX6_join_5 : decode cX6_join 5 = .ok (.iload_n 1, 1) := by decide +kernel
theorem dX6_join_6 : decode cX6_join 6 = .ok (.invokestatic 68, 3) := by decide +kernel
theorem dX6_join_9 : decode cX6_join 9 = .ok (.ifCond .ne 9, 3) := by decide +kernel
theorem dX6_join_12 : decode cX6_join 12 = .ok (.aload_n 0, 1) := by decide +kernel
theorem dX6_join_13 : decode cX6_join 13 = .ok (.iconst 1, 1) := by decide +kernel
theorem dX6_join_14 : decode cX6_join 14 = .ok (.invokevirtual 82, 3) := by decide +kernel
theorem dX6_join_17 : decode cX6_join 17 = .ok (.ireturn, 1) := by decide +kernel
theorem dX6_join_18 : decode cX6_join 18 = .ok (.aload_n 0, 1) := by decide +kernel
theorem dX6_join_19 : decode cX6_join 19 = .ok (.invokevirtual 75, 3) := by decide +kernel
theorem dX6_join_22 : decode cX6_join 22 = .ok (.iconst 0, 1) := by decide +kernel
theorem dX6_join_23 : decode cX6_join 23 = .ok (.istore_n 2, 1) := by decide +kernel
theorem dX6_join_24 : decode cX6_join 24 = .ok (.iconst 0, 1) := by decide +kernel
theorem dX6_join_25 : decode cX6_join 25 = .ok (.istore_n 3, 1) := by decide +kernel
theorem dX6_join_26 : decode cX6_join 26 = .ok (.iload_n 3, 1) := by decide +kernel
theorem dX6_join_27 : decode cX6_join 27 = .ok (.iconst 1, 1) := by decide +kernel
theorem dX6_join_28 : decode cX6_join 28 = .ok (.iadd, 1) := by decide +kernel
theorem dX6_join_29 : decode cX6_join 29 = .ok (.aload_n 0, 1) := by decide +kernel
theorem dX6_join_30 : decode cX6_join 30 = .ok (.iload_n 1, 1) := by decide +kernel
theorem dX6_join_31 : decode cX6_join 31 = .ok (.invokevirtual 100, 3) := by decide +kernel
theorem dX6_join_34 : decode cX6_join 34 = .ok (.if_icmp .ge 77, 3) := by decide +kernel
theorem dX6_join_37 : decode cX6_join 37 = .ok (.aload_n 0, 1) := by decide +kernel
theorem dX6_join_38 : decode cX6_join 38 = .ok (.iload_n 1, 1) := by decide +kernel
theorem dX6_join_39 : decode cX6_join 39 = .ok (.iload_n 3, 1) := by decide +kernel
theorem dX6_join_40 : decode cX6_join 40 = .ok (.invokevirtual 103, 3) := by decide +kernel
theorem dX6_join_43 : decode cX6_join 43 = .ok (.istore 4, 2) := by decide +kernel
theorem dX6_join_45 : decode cX6_join 45 = .ok (.aload_n 0, 1) := by decide +kernel
theorem dX6_join_46 : decode cX6_join 46 = .ok (.iload_n 1, 1) := by decide +kernel
theorem dX6_join_47 : decode cX6_join 47 = .ok (.iload_n 3, 1) := by decide +kernel
theorem dX6_join_48 : decode cX6_join 48 = .ok (.iconst 1, 1) := by decide +kernel
theorem dX6_join_49 : decode cX6_join 49 = .ok (.iadd, 1) := by decide +kernel
theorem dX6_join_50 : decode cX6_join 50 = .ok (.invokevirtual 103, 3) := by decide +kernel
theorem dX6_join_53 : decode cX6_join 53 = .ok (.istore 5, 2) := by decide +kernel
theorem dX6_join_55 : decode cX6_join 55 = .ok (.aload_n 0, 1) := by decide +kernel
theorem dX6_join_56 : decode cX6_join 56 = .ok (.iload 4, 2) := by decide +kernel
theorem dX6_join_58 : decode cX6_join 58 = .ok (.iload 5, 2) := by decide +kernel
theorem dX6_join_60 : decode cX6_join 60 = .ok (.invokevirtual 106, 3) := by decide +kernel
theorem dX6_join_63 : decode cX6_join 63 = .ok (.ifCond .eq 42, 3) := by decide +kernel
theorem dX6_join_66 : decode cX6_join 66 = .ok (.aload_n 0, 1) := by decide +kernel
theorem dX6_join_67 : decode cX6_join 67 = .ok (.getfield 7, 3) := by decide +kernel
theorem dX6_join_70 : decode cX6_join 70 = .ok (.sipush 190, 3) := by decide +kernel
theorem dX6_join_73 : decode cX6_join 73 = .ok (.iload 4, 2) := by decide +kernel
theorem dX6_join_75 : decode cX6_join 75 = .ok (.iadd, 1) := by decide +kernel
theorem dX6_join_76 : decode cX6_join 76 = .ok (.aload_n 0, 1) := by decide +kernel
theorem dX6_join_77 : decode cX6_join 77 = .ok (.getfield 7, 3) := by decide +kernel
theorem dX6_join_80 : decode cX6_join 80 = .ok (.sipush 190, 3) := by decide +kernel
theorem dX6_join_83 : decode cX6_join 83 = .ok (.iload 5, 2) := by decide +kernel
theorem dX6_join_85 : decode cX6_join 85 = .ok (.iadd, 1) := by decide +kernel
theorem dX6_join_86 : decode cX6_join 86 = .ok (.iaload, 1) := by decide +kernel
theorem dX6_join_87 : decode cX6_join 87 = .ok (.iastore, 1) := by decide +kernel
theorem dX6_join_88 : decode cX6_join 88 = .ok (.aload_n 0, 1) := by decide +kernel
theorem dX6_join_89 : decode cX6_join 89 = .ok (.getfield 7, 3) := by decide +kernel
theorem dX6_join_92 : decode cX6_join 92 = .ok (.bipush 10, 2) := by decide +kernel
theorem dX6_join_94 : decode cX6_join 94 = .ok (.iload 5, 2) := by decide +kernel
theorem dX6_join_96 : decode cX6_join 96 = .ok (.iadd, 1) := by decide +kernel
theorem dX6_join_97 : decode cX6_join 97 = .ok (.iconst 0, 1) := by decide +kernel
theorem dX6_join_98 : decode cX6_join 98 = .ok (.iastore, 1) := by decide +kernel
theorem dX6_join_99 : decode cX6_join 99 = .ok (.iinc 2 1, 3) := by decide +kernel
theorem dX6_join_102 : decode cX6_join 102 = .ok (.goto 6, 3) := by decide +kernel
theorem dX6_join_105 : decode cX6_join 105 = .ok (.iinc 3 1, 3) := by decide +kernel
theorem dX6_join_108 : decode cX6_join 108 = .ok (.goto (-82), 3) := by decide +kernel
theorem dX6_join_111 : decode cX6_join 111 = .ok (.aload_n 0, 1) := by decide +kernel
theorem dX6_join_112 : decode cX6_join 112 = .ok (.invokevirtual 85, 3) := by decide +kernel
theorem dX6_join_115 : decode cX6_join 115 = .ok (.iload_n 2, 1) := by decide +kernel
theorem dX6_join_116 : decode cX6_join 116 = .ok (.ireturn, 1) := by decide +kernel
theorem dX6_there_0 : decode cX6_there 0 = .ok (.iconst 0, 1) := by decide +kernel
theorem dX6_there_1 : decode cX6_there 1 = .ok (.istore_n 1, 1) := by decide +kernel
theorem dX6_there_2 : decode cX6_there 2 = .ok (.iconst 0, 1) := by decide +kernel
theorem dX6_there_3 : decode cX6_there 3 = .ok (.istore_n 2, 1) := by decide +kernel
theorem dX6_there_4 : decode cX6_there 4 = .ok (.iload_n 2, 1) := by decide +kernel
theorem dX6_there_5 : decode cX6_there 5 = .ok (.aload_n 0, 1) := by decide +kernel
theorem dX6_there_6 : decode cX6_there 6 = .ok (.getfield 7, 3) := by decide +kernel
theorem dX6_there_9 : decode cX6_there 9 = .ok (.iconst 0, 1) := by decide +kernel
theorem dX6_there_10 : decode cX6_there 10 = .ok (.iaload, 1) := by decide +kernel
theorem dX6_there_11 : decode cX6_there 11 = .ok (.if_icmp .ge 21, 3) := by decide +kernel
theorem dX6_there_14 : decode cX6_there 14 = .ok (.iload_n 1, 1) := by decide +kernel
theorem dX6_there_15 : decode cX6_there 15 = .ok (.aload_n 0, 1) := by decide +kernel
theorem dX6_there_16 : decode cX6_there 16 = .ok (.getfield 7, 3) := by decide +kernel
theorem dX6_there_19 : decode cX6_there 19 = .ok (.bipush 10, 2) := by decide +kernel
theorem dX6_there_21 : decode cX6_there 21 = .ok (.iload_n 2, 1) := by decide +kernel
theorem dX6_there_22 : decode cX6_there 22 = .ok (.iadd, 1) := by decide +kernel
theorem dX6_there_23 : decode cX6_there 23 = .ok (.iaload, 1) := by decide +kernel
theorem dX6_there_24 : decode cX6_there 24 = .ok (.iadd, 1) := by decide +kernel
theorem dX6_there_25 : decode cX6_there 25 = .ok (.istore_n 1, 1) := by decide +kernel
theorem dX6_there_26 : decode cX6_there 26 = .ok (.iinc 2 1, 3) := by decide +kernel
theorem dX6_there_29 : decode cX6_there 29 = .ok (.goto (-25), 3) := by decide +kernel
theorem dX6_there_32 : decode cX6_there 32 = .ok (.iload_n 1, 1) := by decide +kernel
theorem dX6_there_33 : decode cX6_there 33 = .ok (.ireturn, 1) := by decide +kernel
set_option maxRecDepth 20000 in
theorem ggX6_clear_X6_there : GoodIn wsX6_clear wsX6_there := goodIn_ca (goodIn_r _ [8, 2, 9, 10, 11, 12, 13, 14, 15, 16, 17, 18, 19, 20, 21, 22, 23] (by decide +kernel) (by decide +kernel)) (goodIn_sub (fun _ h => List.mem_cons_of_mem _ (List.mem_append_right _ h)) (by decide +kernel))
set_option maxRecDepth 20000 in
theorem gX6_clear_X6_there : GoodIn wsX6_clear (wsV RX6 109 RX6 yX6_there wsX6_there) := goodIn_app (goodIn_of _ (by decide +kernel)) ggX6_clear_X6_there
theorem dX6_clear_0 : decode cX6_clear 0 = .ok (.aload_n 0, 1) := by decide +kernel
theorem dX6_clear_1 : decode cX6_clear 1 = .ok (.iconst 0, 1) := by decide +kernel
theorem dX6_clear_2 : decode cX6_clear 2 = .ok (.putfield 32, 3) := by decide +kernel
theorem dX6_clear_5 : decode cX6_clear 5 = .ok (.aload_n 0, 1) := by decide +kernel
theorem dX6_clear_6 : decode cX6_clear 6 = .ok (.invokevirtual 109, 3) := by decide +kernel
theorem dX6_clear_9 : decode cX6_clear 9 = .ok (.istore_n 1, 1) := by decide +kernel
theorem dX6_clear_10 : decode cX6_clear 10 = .ok (.aload_n 0, 1) := by decide +kernel
theorem dX6_clear_11 : decode cX6_clear 11 = .ok (.getfield 7, 3) := by decide +kernel
theorem dX6_clear_14 : decode cX6_clear 14 = .ok (.iconst 0, 1) := by decide +kernel
theorem dX6_clear_15 : decode cX6_clear 15 = .ok (.iconst 0, 1) := by decide +kernel
theorem dX6_clear_16 : decode cX6_clear 16 = .ok (.iastore, 1) := by decide +kernel
theorem dX6_clear_17 : decode cX6_clear 17 = .ok (.aload_n 0, 1) := by decide +kernel
theorem dX6_clear_18 : decode cX6_clear 18 = .ok (.getfield 7, 3) := by decide +kernel
theorem dX6_clear_21 : decode cX6_clear 21 = .ok (.iconst 1, 1) := by decide +kernel
theorem dX6_clear_22 : decode cX6_clear 22 = .ok (.iconst 0, 1) := by decide +kernel
theorem dX6_clear_23 : decode cX6_clear 23 = .ok (.iastore, 1) := by decide +kernel
theorem dX6_clear_24 : decode cX6_clear 24 = .ok (.aload_n 0, 1) := by decide +kernel
theorem dX6_clear_25 : decode cX6_clear 25 = .ok (.getfield 7, 3) := by decide +kernel
theorem dX6_clear_28 : decode cX6_clear 28 = .ok (.iconst 2, 1) := by decide +kernel
theorem dX6_clear_29 : decode cX6_clear 29 = .ok (.iconst 0, 1) := by decide +kernel
theorem dX6_clear_30 : decode cX6_clear 30 = .ok (.iastore, 1) := by decide +kernel
theorem dX6_clear_31 : decode cX6_clear 31 = .ok (.aload_n 0, 1) := by decide +kernel
theorem dX6_clear_32 : decode cX6_clear 32 = .ok (.iconst 0, 1) := by decide +kernel
theorem dX6_clear_33 : decode cX6_clear 33 = .ok (.putfield 65, 3) := by decide +kernel
theorem dX6_clear_36 : decode cX6_clear 36 = .ok (.iload_n 1, 1) := by decide +kernel
theorem dX6_clear_37 : decode cX6_clear 37 = .ok (.ireturn, 1) := by decide +kernel
set_option maxRecDepth 20000 in
theorem ggX6_versionCount_X6_there : GoodIn wsX6_versionCount wsX6_there := goodIn_ca (goodIn_r _ [6, 7, 8, 9, 10, 11, 12, 13, 14, 15, 16, 17, 18, 19, 20, 21, 22] (by decide +kernel) (by decide +kernel)) (goodIn_sub (fun _ h => List.mem_cons_of_mem _ (List.mem_append_right _ h)) (by decide +kernel))
set_option maxRecDepth 20000 in
theorem gX6_versionCount_X6_there : GoodIn wsX6_versionCount (wsV RX6 109 RX6 yX6_there wsX6_there) := goodIn_app (goodIn_of _ (by decide +kernel)) ggX6_versionCount_X6_there
theorem dX6_versionCount_0 : decode cX6_versionCount 0 = .ok (.aload_n 0, 1) := by decide +kernel
theorem dX6_versionCount_1 : decode cX6_versionCount 1 = .ok (.iconst 0, 1) := by decide +kernel
theorem dX6_versionCount_2 : decode cX6_versionCount 2 = .ok (.putfield 32, 3) := by decide +kernel
theorem dX6_versionCount_5 : decode cX6_versionCount 5 = .ok (.aload_n 0, 1) := by decide +kernel
theorem dX6_versionCount_6 : decode cX6_versionCount 6 = .ok (.invokevirtual 109, 3) := by decide +kernel
theorem dX6_versionCount_9 : decode cX6_versionCount 9 = .ok (.ireturn, 1) := by decide +kernel
set_option maxRecDepth 20000 in
theorem ggX6_versionsOf_X6_isKey : GoodIn wsX6_versionsOf wsX6_isKey := goodIn_r _ [5, 6, 7, 4, 8] (by decide +kernel) (by decide +kernel)
set_option maxRecDepth 20000 in
theorem gX6_versionsOf_X6_isKey : GoodIn wsX6_versionsOf (va_wsS RX6 68 yX6_isKey wsX6_isKey) := goodIn_app (goodIn_of _ (by decide +kernel)) ggX6_versionsOf_X6_isKey
set_option maxRecDepth 20000 in
theorem ggX6_versionsOf_X6_many : GoodIn wsX6_versionsOf wsX6_many := goodIn_ca (goodIn_r _ [12, 13, 14, 15, 16, 4, 17, 22, 23, 24, 25, 26, 27, 28, 29, 30, 31, 32, 33, 34, 35, 36] (by decide +kernel) (by decide +kernel)) (goodIn_sub (fun _ h => List.mem_cons_of_mem _ (List.mem_append_right _ h)) (by decide +kernel))
set_option maxRecDepth 20000 in
theorem gX6_versionsOf_X6_many : GoodIn wsX6_versionsOf (wsV RX6 100 RX6 yX6_many wsX6_many) := goodIn_app (goodIn_of _ (by decide +kernel)) ggX6_versionsOf_X6_many
set_option maxRecDepth 20000 in
theorem ggX6_versionsOf_X6_fails : GoodIn wsX6_versionsOf wsX6_fails := goodIn_r _ [21, 1, 22, 23, 24, 25, 26, 27, 28, 29, 30, 31, 32, 33, 34, 35, 36] (by decide +kernel) (by decide +kernel)
set_option maxRecDepth 20000 in
theorem gX6_versionsOf_X6_fails : GoodIn wsX6_versionsOf (wsV RX6 82 RX6 yX6_fails wsX6_fails) := goodIn_app (goodIn_of _ (by decide +kernel)) ggX6_versionsOf_X6_fails
theorem dX6_versionsOf_0 : decode cX6_versionsOf 0 = .ok (.aload_n 0, 1) := by decide +kernel
theorem dX6_versionsOf_1 : decode cX6_versionsOf 1 = .ok (.iconst 0, 1) := by decide +kernel
theorem dX6_versionsOf_2 : decode cX6_versionsOf 2 = .ok (.putfield 32, 3) := by decide +kernel
theorem dX6_versionsOf_5 : decode cX6_versionsOf 5 = .ok (.iload_n 1, 1) := by decide +kernel
theorem dX6_versionsOf_6 : decode cX6_versionsOf 6 = .ok (.invokestatic 68, 3) := by decide +kernel
theorem dX6_versionsOf_9 : decode cX6_versionsOf 9 = .ok (.ifCond .eq 11, 3) := by decide +kernel
theorem dX6_versionsOf_12 : decode cX6_versionsOf 12 = .ok (.aload_n 0, 1) := by decide +kernel
theorem dX6_versionsOf_13 : decode cX6_versionsOf 13 = .ok (.iload_n 1, 1) := by decide +kernel
theorem dX6_versionsOf_14 : decode cX6_versionsOf 14 = .ok (.invokevirtual 100, 3) := by decide +kernel
theorem dX6_versionsOf_17 : decode cX6_versionsOf 17 = .ok (.goto 8, 3) := by decide +kernel
theorem dX6_versionsOf_20 : decode cX6_versionsOf 20 = .ok (.aload_n 0, 1) := by decide +kernel
theorem dX6_versionsOf_21 : decode cX6_versionsOf 21 = .ok (.iconst 1, 1) := by decide +kernel
theorem dX6_versionsOf_22 : decode cX6_versionsOf 22 = .ok (.invokevirtual 82, 3) := by decide +kernel
theorem dX6_versionsOf_25 : decode cX6_versionsOf 25 = .ok (.ireturn, 1) := by decide +kernel
set_option maxRecDepth 20000 in
theorem ggX6_versionAt_X6_isKey : GoodIn wsX6_versionAt wsX6_isKey := goodIn_r _ [5, 6, 7, 4, 8] (by decide +kernel) (by decide +kernel)
set_option maxRecDepth 20000 in
theorem gX6_versionAt_X6_isKey : GoodIn wsX6_versionAt (va_wsS RX6 68 yX6_isKey wsX6_isKey) := goodIn_app (goodIn_of _ (by decide +kernel)) ggX6_versionAt_X6_isKey
set_option maxRecDepth 20000 in
theorem ggX6_versionAt_X6_fails : GoodIn wsX6_versionAt wsX6_fails := goodIn_r _ [12, 1, 26, 27, 28, 29, 30, 31, 32, 33, 34, 35, 36, 37, 38, 39, 40] (by decide +kernel) (by decide +kernel)
set_option maxRecDepth 20000 in
theorem gX6_versionAt_X6_fails : GoodIn wsX6_versionAt (wsV RX6 82 RX6 yX6_fails wsX6_fails) := goodIn_app (goodIn_of _ (by decide +kernel)) ggX6_versionAt_X6_fails
set_option maxRecDepth 20000 in
theorem ggX6_versionAt_X6_placed : GoodIn wsX6_versionAt wsX6_placed := goodIn_ca (goodIn_r _ [16, 17, 18, 19, 20, 4, 21, 22, 23, 24, 25, 26, 27, 28, 29, 30, 31, 32, 33, 34, 35, 36, 37, 38, 39, 40] (by decide +kernel) (by decide +kernel)) (goodIn_sub (fun _ h => List.mem_cons_of_mem _ (List.mem_append_right _ h)) (by decide +kernel))
set_option maxRecDepth 20000 in
theorem gX6_versionAt_X6_placed : GoodIn wsX6_versionAt (wsV RX6 103 RX6 yX6_placed wsX6_placed) := goodIn_app (goodIn_of _ (by decide +kernel)) ggX6_versionAt_X6_placed
theorem dX6_versionAt_0 : decode cX6_versionAt 0 = .ok (.aload_n 0, 1) := by decide +kernel
theorem dX6_versionAt_1 : decode cX6_versionAt 1 = .ok (.iconst 0, 1) := by decide +kernel
theorem dX6_versionAt_2 : decode cX6_versionAt 2 = .ok (.putfield 32, 3) := by decide +kernel
theorem dX6_versionAt_5 : decode cX6_versionAt 5 = .ok (.iload_n 1, 1) := by decide +kernel
theorem dX6_versionAt_6 : decode cX6_versionAt 6 = .ok (.invokestatic 68, 3) := by decide +kernel
theorem dX6_versionAt_9 : decode cX6_versionAt 9 = .ok (.ifCond .ne 9, 3) := by decide +kernel
theorem dX6_versionAt_12 : decode cX6_versionAt 12 = .ok (.aload_n 0, 1) := by decide +kernel
theorem dX6_versionAt_13 : decode cX6_versionAt 13 = .ok (.iconst 1, 1) := by decide +kernel
theorem dX6_versionAt_14 : decode cX6_versionAt 14 = .ok (.invokevirtual 82, 3) := by decide +kernel
theorem dX6_versionAt_17 : decode cX6_versionAt 17 = .ok (.ireturn, 1) := by decide +kernel
theorem dX6_versionAt_18 : decode cX6_versionAt 18 = .ok (.aload_n 0, 1) := by decide +kernel
theorem dX6_versionAt_19 : decode cX6_versionAt 19 = .ok (.iload_n 1, 1) := by decide +kernel
theorem dX6_versionAt_20 : decode cX6_versionAt 20 = .ok (.iload_n 2, 1) := by decide +kernel
theorem dX6_versionAt_21 : decode cX6_versionAt 21 = .ok (.invokevirtual 103, 3) := by decide +kernel
theorem dX6_versionAt_24 : decode cX6_versionAt 24 = .ok (.istore_n 3, 1) := by decide +kernel
theorem dX6_versionAt_25 : decode cX6_versionAt 25 = .ok (.iload_n 3, 1) := by decide +kernel
theorem dX6_versionAt_26 : decode cX6_versionAt 26 = .ok (.ifCond .ge 11, 3) := by decide +kernel
theorem dX6_versionAt_29 : decode cX6_versionAt 29 = .ok (.aload_n 0, 1) := by decide +kernel
theorem dX6_versionAt_30 : decode cX6_versionAt 30 = .ok (.iconst 2, 1) := by decide +kernel
theorem dX6_versionAt_31 : decode cX6_versionAt 31 = .ok (.invokevirtual 82, 3) := by decide +kernel
theorem dX6_versionAt_34 : decode cX6_versionAt 34 = .ok (.goto 4, 3) := by decide +kernel
theorem dX6_versionAt_37 : decode cX6_versionAt 37 = .ok (.iload_n 3, 1) := by decide +kernel
theorem dX6_versionAt_38 : decode cX6_versionAt 38 = .ok (.ireturn, 1) := by decide +kernel
set_option maxRecDepth 20000 in
theorem ggX6_validOn_X6_isKey : GoodIn wsX6_validOn wsX6_isKey := goodIn_r _ [5, 6, 7, 4, 8] (by decide +kernel) (by decide +kernel)
set_option maxRecDepth 20000 in
theorem gX6_validOn_X6_isKey : GoodIn wsX6_validOn (va_wsS RX6 68 yX6_isKey wsX6_isKey) := goodIn_app (goodIn_of _ (by decide +kernel)) ggX6_validOn_X6_isKey
set_option maxRecDepth 20000 in
theorem ggX6_validOn_X6_isDay : GoodIn wsX6_validOn wsX6_isDay := goodIn_r _ [11, 6, 7, 4, 8] (by decide +kernel) (by decide +kernel)
set_option maxRecDepth 20000 in
theorem gX6_validOn_X6_isDay : GoodIn wsX6_validOn (va_wsS RX6 72 yX6_isDay wsX6_isDay) := goodIn_app (goodIn_of _ (by decide +kernel)) ggX6_validOn_X6_isDay
set_option maxRecDepth 20000 in
theorem ggX6_validOn_X6_valid : GoodIn wsX6_validOn wsX6_valid := goodIn_ca (goodIn_r _ [15, 16, 17, 18, 19, 4, 20, 6, 7, 8, 21, 22, 23, 24, 25, 26, 27, 28, 29, 30, 31, 32, 33, 34, 35] (by decide +kernel) (by decide +kernel)) (goodIn_sub (fun _ h => List.mem_cons_of_mem _ (List.mem_append_right _ h)) (by decide +kernel))
set_option maxRecDepth 20000 in
theorem gX6_validOn_X6_valid : GoodIn wsX6_validOn (wsV RX6 43 RX6 yX6_valid wsX6_valid) := goodIn_app (goodIn_of _ (by decide +kernel)) ggX6_validOn_X6_valid
theorem dX6_validOn_0 : decode cX6_validOn 0 = .ok (.aload_n 0, 1) := by decide +kernel
theorem dX6_validOn_1 : decode cX6_validOn 1 = .ok (.iload_n 1, 1) := by decide +kernel
theorem dX6_validOn_2 : decode cX6_validOn 2 = .ok (.invokestatic 68, 3) := by decide +kernel
theorem dX6_validOn_5 : decode cX6_validOn 5 = .ok (.ifCond .eq 31, 3) := by decide +kernel
theorem dX6_validOn_8 : decode cX6_validOn 8 = .ok (.iload_n 2, 1) := by decide +kernel
theorem dX6_validOn_9 : decode cX6_validOn 9 = .ok (.invokestatic 72, 3) := by decide +kernel
theorem dX6_validOn_12 : decode cX6_validOn 12 = .ok (.ifCond .eq 20, 3) := by decide +kernel
theorem dX6_validOn_15 : decode cX6_validOn 15 = .ok (.aload_n 0, 1) := by decide +kernel
theorem dX6_validOn_16 : decode cX6_validOn 16 = .ok (.iload_n 1, 1) := by decide +kernel
theorem dX6_validOn_17 : decode cX6_validOn 17 = .ok (.iload_n 2, 1) := by decide +kernel
theorem dX6_validOn_18 : decode cX6_validOn 18 = .ok (.invokevirtual 43, 3) := by decide +kernel
theorem dX6_validOn_21 : decode cX6_validOn 21 = .ok (.ifCond .ge 7, 3) := by decide +kernel
theorem dX6_validOn_24 : decode cX6_validOn 24 = .ok (.iconst 3, 1) := by decide +kernel
theorem dX6_validOn_25 : decode cX6_validOn 25 = .ok (.goto 12, 3) := by decide +kernel
theorem dX6_validOn_28 : decode cX6_validOn 28 = .ok (.iconst 0, 1) := by decide +kernel
theorem dX6_validOn_29 : decode cX6_validOn 29 = .ok (.goto 8, 3) := by decide +kernel
theorem dX6_validOn_32 : decode cX6_validOn 32 = .ok (.iconst 2, 1) := by decide +kernel
theorem dX6_validOn_33 : decode cX6_validOn 33 = .ok (.goto 4, 3) := by decide +kernel
theorem dX6_validOn_36 : decode cX6_validOn 36 = .ok (.iconst 1, 1) := by decide +kernel
theorem dX6_validOn_37 : decode cX6_validOn 37 = .ok (.putfield 32, 3) := by decide +kernel
theorem dX6_validOn_40 : decode cX6_validOn 40 = .ok (.aload_n 0, 1) := by decide +kernel
theorem dX6_validOn_41 : decode cX6_validOn 41 = .ok (.getfield 32, 3) := by decide +kernel
theorem dX6_validOn_44 : decode cX6_validOn 44 = .ok (.ifCond .le 7, 3) := by decide +kernel
theorem dX6_validOn_47 : decode cX6_validOn 47 = .ok (.iconst 0, 1) := by decide +kernel
theorem dX6_validOn_48 : decode cX6_validOn 48 = .ok (.goto 9, 3) := by decide +kernel
theorem dX6_validOn_51 : decode cX6_validOn 51 = .ok (.aload_n 0, 1) := by decide +kernel
theorem dX6_validOn_52 : decode cX6_validOn 52 = .ok (.iload_n 1, 1) := by decide +kernel
theorem dX6_validOn_53 : decode cX6_validOn 53 = .ok (.iload_n 2, 1) := by decide +kernel
theorem dX6_validOn_54 : decode cX6_validOn 54 = .ok (.invokevirtual 43, 3) := by decide +kernel
theorem dX6_validOn_57 : decode cX6_validOn 57 = .ok (.ireturn, 1) := by decide +kernel
set_option maxRecDepth 20000 in
theorem ggX6_nextAfter_X6_isKey : GoodIn wsX6_nextAfter wsX6_isKey := goodIn_r _ [5, 6, 7, 4, 8] (by decide +kernel) (by decide +kernel)
set_option maxRecDepth 20000 in
theorem gX6_nextAfter_X6_isKey : GoodIn wsX6_nextAfter (va_wsS RX6 68 yX6_isKey wsX6_isKey) := goodIn_app (goodIn_of _ (by decide +kernel)) ggX6_nextAfter_X6_isKey
set_option maxRecDepth 20000 in
theorem ggX6_nextAfter_X6_isDay : GoodIn wsX6_nextAfter wsX6_isDay := goodIn_r _ [11, 6, 7, 4, 8] (by decide +kernel) (by decide +kernel)
set_option maxRecDepth 20000 in
theorem gX6_nextAfter_X6_isDay : GoodIn wsX6_nextAfter (va_wsS RX6 72 yX6_isDay wsX6_isDay) := goodIn_app (goodIn_of _ (by decide +kernel)) ggX6_nextAfter_X6_isDay
set_option maxRecDepth 20000 in
theorem ggX6_nextAfter_X6_following : GoodIn wsX6_nextAfter wsX6_following := goodIn_ca (goodIn_r _ [15, 16, 17, 18, 19, 4, 20, 21, 22, 23, 24, 25, 26, 27, 28, 29, 30, 31, 32, 33, 34, 35] (by decide +kernel) (by decide +kernel)) (goodIn_sub (fun _ h => List.mem_cons_of_mem _ (List.mem_append_right _ h)) (by decide +kernel))
set_option maxRecDepth 20000 in
theorem gX6_nextAfter_X6_following : GoodIn wsX6_nextAfter (wsV RX6 47 RX6 yX6_following wsX6_following) := goodIn_app (goodIn_of _ (by decide +kernel)) ggX6_nextAfter_X6_following
theorem dX6_nextAfter_0 : decode cX6_nextAfter 0 = .ok (.aload_n 0, 1) := by decide +kernel
theorem dX6_nextAfter_1 : decode cX6_nextAfter 1 = .ok (.iload_n 1, 1) := by decide +kernel
theorem dX6_nextAfter_2 : decode cX6_nextAfter 2 = .ok (.invokestatic 68, 3) := by decide +kernel
theorem dX6_nextAfter_5 : decode cX6_nextAfter 5 = .ok (.ifCond .eq 31, 3) := by decide +kernel
theorem dX6_nextAfter_8 : decode cX6_nextAfter 8 = .ok (.iload_n 2, 1) := by decide +kernel
theorem dX6_nextAfter_9 : decode cX6_nextAfter 9 = .ok (.invokestatic 72, 3) := by decide +kernel
theorem dX6_nextAfter_12 : decode cX6_nextAfter 12 = .ok (.ifCond .eq 20, 3) := by decide +kernel
theorem dX6_nextAfter_15 : decode cX6_nextAfter 15 = .ok (.aload_n 0, 1) := by decide +kernel
theorem dX6_nextAfter_16 : decode cX6_nextAfter 16 = .ok (.iload_n 1, 1) := by decide +kernel
theorem dX6_nextAfter_17 : decode cX6_nextAfter 17 = .ok (.iload_n 2, 1) := by decide +kernel
theorem dX6_nextAfter_18 : decode cX6_nextAfter 18 = .ok (.invokevirtual 47, 3) := by decide +kernel
theorem dX6_nextAfter_21 : decode cX6_nextAfter 21 = .ok (.ifCond .ge 7, 3) := by decide +kernel
theorem dX6_nextAfter_24 : decode cX6_nextAfter 24 = .ok (.iconst 3, 1) := by decide +kernel
theorem dX6_nextAfter_25 : decode cX6_nextAfter 25 = .ok (.goto 12, 3) := by decide +kernel
theorem dX6_nextAfter_28 : decode cX6_nextAfter 28 = .ok (.iconst 0, 1) := by decide +kernel
theorem dX6_nextAfter_29 : decode cX6_nextAfter 29 = .ok (.goto 8, 3) := by decide +kernel
theorem dX6_nextAfter_32 : decode cX6_nextAfter 32 = .ok (.iconst 2, 1) := by decide +kernel
theorem dX6_nextAfter_33 : decode cX6_nextAfter 33 = .ok (.goto 4, 3) := by decide +kernel
theorem dX6_nextAfter_36 : decode cX6_nextAfter 36 = .ok (.iconst 1, 1) := by decide +kernel
theorem dX6_nextAfter_37 : decode cX6_nextAfter 37 = .ok (.putfield 32, 3) := by decide +kernel
theorem dX6_nextAfter_40 : decode cX6_nextAfter 40 = .ok (.aload_n 0, 1) := by decide +kernel
theorem dX6_nextAfter_41 : decode cX6_nextAfter 41 = .ok (.getfield 32, 3) := by decide +kernel
theorem dX6_nextAfter_44 : decode cX6_nextAfter 44 = .ok (.ifCond .le 7, 3) := by decide +kernel
theorem dX6_nextAfter_47 : decode cX6_nextAfter 47 = .ok (.iconst 0, 1) := by decide +kernel
theorem dX6_nextAfter_48 : decode cX6_nextAfter 48 = .ok (.goto 9, 3) := by decide +kernel
theorem dX6_nextAfter_51 : decode cX6_nextAfter 51 = .ok (.aload_n 0, 1) := by decide +kernel
theorem dX6_nextAfter_52 : decode cX6_nextAfter 52 = .ok (.iload_n 1, 1) := by decide +kernel
theorem dX6_nextAfter_53 : decode cX6_nextAfter 53 = .ok (.iload_n 2, 1) := by decide +kernel
theorem dX6_nextAfter_54 : decode cX6_nextAfter 54 = .ok (.invokevirtual 47, 3) := by decide +kernel
theorem dX6_nextAfter_57 : decode cX6_nextAfter 57 = .ok (.ireturn, 1) := by decide +kernel
set_option maxRecDepth 20000 in
theorem ggX6_versionTold_X6_factsOf : GoodIn wsX6_versionTold wsX6_factsOf := goodIn_ca (goodIn_r _ [6, 1, 7, 8, 9, 5, 10, 11, 12, 13, 14, 15, 16, 17, 18, 19, 20, 21, 22, 23, 24, 25, 26, 27, 28, 29, 30, 31, 32, 33, 34, 35, 36] (by decide +kernel) (by decide +kernel)) (goodIn_sub (fun _ h => List.mem_cons_of_mem _ (List.mem_append_right _ h)) (by decide +kernel))
set_option maxRecDepth 20000 in
theorem gX6_versionTold_X6_factsOf : GoodIn wsX6_versionTold (wsV RX6 88 RX6 yX6_factsOf wsX6_factsOf) := goodIn_app (goodIn_of _ (by decide +kernel)) ggX6_versionTold_X6_factsOf
theorem dX6_versionTold_0 : decode cX6_versionTold 0 = .ok (.iload_n 2, 1) := by decide +kernel
theorem dX6_versionTold_1 : decode cX6_versionTold 1 = .ok (.tableswitch 85 0 4 #[35, 45, 56, 67, 78], 35) := by decide +kernel
theorem dX6_versionTold_36 : decode cX6_versionTold 36 = .ok (.aload_n 0, 1) := by decide +kernel
theorem dX6_versionTold_37 : decode cX6_versionTold 37 = .ok (.getfield 7, 3) := by decide +kernel
theorem dX6_versionTold_40 : decode cX6_versionTold 40 = .ok (.bipush 70, 2) := by decide +kernel
theorem dX6_versionTold_42 : decode cX6_versionTold 42 = .ok (.iload_n 1, 1) := by decide +kernel
theorem dX6_versionTold_43 : decode cX6_versionTold 43 = .ok (.iadd, 1) := by decide +kernel
theorem dX6_versionTold_44 : decode cX6_versionTold 44 = .ok (.iaload, 1) := by decide +kernel
theorem dX6_versionTold_45 : decode cX6_versionTold 45 = .ok (.ireturn, 1) := by decide +kernel
theorem dX6_versionTold_46 : decode cX6_versionTold 46 = .ok (.aload_n 0, 1) := by decide +kernel
theorem dX6_versionTold_47 : decode cX6_versionTold 47 = .ok (.getfield 7, 3) := by decide +kernel
theorem dX6_versionTold_50 : decode cX6_versionTold 50 = .ok (.sipush 130, 3) := by decide +kernel
theorem dX6_versionTold_53 : decode cX6_versionTold 53 = .ok (.iload_n 1, 1) := by decide +kernel
theorem dX6_versionTold_54 : decode cX6_versionTold 54 = .ok (.iadd, 1) := by decide +kernel
theorem dX6_versionTold_55 : decode cX6_versionTold 55 = .ok (.iaload, 1) := by decide +kernel
theorem dX6_versionTold_56 : decode cX6_versionTold 56 = .ok (.ireturn, 1) := by decide +kernel
theorem dX6_versionTold_57 : decode cX6_versionTold 57 = .ok (.aload_n 0, 1) := by decide +kernel
theorem dX6_versionTold_58 : decode cX6_versionTold 58 = .ok (.getfield 7, 3) := by decide +kernel
theorem dX6_versionTold_61 : decode cX6_versionTold 61 = .ok (.sipush 190, 3) := by decide +kernel
theorem dX6_versionTold_64 : decode cX6_versionTold 64 = .ok (.iload_n 1, 1) := by decide +kernel
theorem dX6_versionTold_65 : decode cX6_versionTold 65 = .ok (.iadd, 1) := by decide +kernel
theorem dX6_versionTold_66 : decode cX6_versionTold 66 = .ok (.iaload, 1) := by decide +kernel
theorem dX6_versionTold_67 : decode cX6_versionTold 67 = .ok (.ireturn, 1) := by decide +kernel
theorem dX6_versionTold_68 : decode cX6_versionTold 68 = .ok (.aload_n 0, 1) := by decide +kernel
theorem dX6_versionTold_69 : decode cX6_versionTold 69 = .ok (.getfield 7, 3) := by decide +kernel
theorem dX6_versionTold_72 : decode cX6_versionTold 72 = .ok (.sipush 250, 3) := by decide +kernel
theorem dX6_versionTold_75 : decode cX6_versionTold 75 = .ok (.iload_n 1, 1) := by decide +kernel
theorem dX6_versionTold_76 : decode cX6_versionTold 76 = .ok (.iadd, 1) := by decide +kernel
theorem dX6_versionTold_77 : decode cX6_versionTold 77 = .ok (.iaload, 1) := by decide +kernel
theorem dX6_versionTold_78 : decode cX6_versionTold 78 = .ok (.ireturn, 1) := by decide +kernel
theorem dX6_versionTold_79 : decode cX6_versionTold 79 = .ok (.aload_n 0, 1) := by decide +kernel
theorem dX6_versionTold_80 : decode cX6_versionTold 80 = .ok (.iload_n 1, 1) := by decide +kernel
theorem dX6_versionTold_81 : decode cX6_versionTold 81 = .ok (.iconst 0, 1) := by decide +kernel
theorem dX6_versionTold_82 : decode cX6_versionTold 82 = .ok (.invokevirtual 88, 3) := by decide +kernel
theorem dX6_versionTold_85 : decode cX6_versionTold 85 = .ok (.ireturn, 1) := by decide +kernel
theorem dX6_versionTold_86 : decode cX6_versionTold 86 = .ok (.aload_n 0, 1) := by decide +kernel
theorem dX6_versionTold_87 : decode cX6_versionTold 87 = .ok (.getfield 7, 3) := by decide +kernel
theorem dX6_versionTold_90 : decode cX6_versionTold 90 = .ok (.sipush 190, 3) := by decide +kernel
theorem dX6_versionTold_93 : decode cX6_versionTold 93 = .ok (.iload_n 1, 1) := by decide +kernel
theorem dX6_versionTold_94 : decode cX6_versionTold 94 = .ok (.iadd, 1) := by decide +kernel
theorem dX6_versionTold_95 : decode cX6_versionTold 95 = .ok (.iaload, 1) := by decide +kernel
theorem dX6_versionTold_96 : decode cX6_versionTold 96 = .ok (.aload_n 0, 1) := by decide +kernel
theorem dX6_versionTold_97 : decode cX6_versionTold 97 = .ok (.getfield 7, 3) := by decide +kernel
theorem dX6_versionTold_100 : decode cX6_versionTold 100 = .ok (.sipush 130, 3) := by decide +kernel
theorem dX6_versionTold_103 : decode cX6_versionTold 103 = .ok (.iload_n 1, 1) := by decide +kernel
theorem dX6_versionTold_104 : decode cX6_versionTold 104 = .ok (.iadd, 1) := by decide +kernel
theorem dX6_versionTold_105 : decode cX6_versionTold 105 = .ok (.iaload, 1) := by decide +kernel
theorem dX6_versionTold_106 : decode cX6_versionTold 106 = .ok (.isub, 1) := by decide +kernel
theorem dX6_versionTold_107 : decode cX6_versionTold 107 = .ok (.ireturn, 1) := by decide +kernel
set_option maxRecDepth 20000 in
theorem ggX6_version_X6_isVersion : GoodIn wsX6_version wsX6_isVersion := goodIn_ca (goodIn_r _ [6, 7, 8, 9, 5, 10, 35, 36, 37, 38, 39, 40, 41, 42, 43, 44, 45, 46, 47, 48, 49] (by decide +kernel) (by decide +kernel)) (goodIn_sub (fun _ h => List.mem_cons_of_mem _ (List.mem_append_right _ h)) (by decide +kernel))
set_option maxRecDepth 20000 in
theorem gX6_version_X6_isVersion : GoodIn wsX6_version (wsV RX6 91 RX6 yX6_isVersion wsX6_isVersion) := goodIn_app (goodIn_of _ (by decide +kernel)) ggX6_version_X6_isVersion
set_option maxRecDepth 20000 in
theorem ggX6_version_X6_fails : GoodIn wsX6_version wsX6_fails := goodIn_r _ [14, 1, 35, 36, 37, 38, 39, 40, 41, 42, 43, 44, 45, 46, 47, 48, 49] (by decide +kernel) (by decide +kernel)
set_option maxRecDepth 20000 in
theorem gX6_version_X6_fails : GoodIn wsX6_version (wsV RX6 82 RX6 yX6_fails wsX6_fails) := goodIn_app (goodIn_of _ (by decide +kernel)) ggX6_version_X6_fails
set_option maxRecDepth 20000 in
theorem ggX6_version_X6_in : GoodIn wsX6_version wsX6_in := goodIn_r _ [10] (by decide +kernel) (by decide +kernel)
set_option maxRecDepth 20000 in
theorem gX6_version_X6_in : GoodIn wsX6_version (va_wsS RX6 35 yX6_in wsX6_in) := goodIn_app (goodIn_of _ (by decide +kernel)) ggX6_version_X6_in
set_option maxRecDepth 20000 in
theorem ggX6_version_X6_versionTold : GoodIn wsX6_version wsX6_versionTold := goodIn_ca (goodIn_r _ [18, 7, 19, 20, 21, 5, 22, 23, 24, 25, 26, 27, 28, 29, 30, 31, 32, 33, 34, 8, 9, 10, 35, 36, 37, 38, 39, 40, 41, 42, 43, 44, 45, 46, 47, 48, 49] (by decide +kernel) (by decide +kernel)) (goodIn_sub (fun _ h => List.mem_cons_of_mem _ (List.mem_append_right _ h)) (by decide +kernel))
set_option maxRecDepth 20000 in
theorem gX6_version_X6_versionTold : GoodIn wsX6_version (wsV RX6 113 RX6 yX6_versionTold wsX6_versionTold) := goodIn_app (goodIn_of _ (by decide +kernel)) ggX6_version_X6_versionTold
theorem dX6_version_0 : decode cX6_version 0 = .ok (.aload_n 0, 1) := by decide +kernel
theorem dX6_version_1 : decode cX6_version 1 = .ok (.iconst 0, 1) := by decide +kernel
theorem dX6_version_2 : decode cX6_version 2 = .ok (.putfield 32, 3) := by decide +kernel
theorem dX6_version_5 : decode cX6_version 5 = .ok (.aload_n 0, 1) := by decide +kernel
theorem dX6_version_6 : decode cX6_version 6 = .ok (.iload_n 1, 1) := by decide +kernel
theorem dX6_version_7 : decode cX6_version 7 = .ok (.invokevirtual 91, 3) := by decide +kernel
theorem dX6_version_10 : decode cX6_version 10 = .ok (.ifCond .ne 9, 3) := by decide +kernel
theorem dX6_version_13 : decode cX6_version 13 = .ok (.aload_n 0, 1) := by decide +kernel
theorem dX6_version_14 : decode cX6_version 14 = .ok (.iconst 1, 1) := by decide +kernel
theorem dX6_version_15 : decode cX6_version 15 = .ok (.invokevirtual 82, 3) := by decide +kernel
theorem dX6_version_18 : decode cX6_version 18 = .ok (.ireturn, 1) := by decide +kernel
theorem dX6_version_19 : decode cX6_version 19 = .ok (.iload_n 2, 1) := by decide +kernel
theorem dX6_version_20 : decode cX6_version 20 = .ok (.iconst 0, 1) := by decide +kernel
theorem dX6_version_21 : decode cX6_version 21 = .ok (.iconst 5, 1) := by decide +kernel
theorem dX6_version_22 : decode cX6_version 22 = .ok (.invokestatic 35, 3) := by decide +kernel
theorem dX6_version_25 : decode cX6_version 25 = .ok (.ifCond .eq 12, 3) := by decide +kernel
theorem dX6_version_28 : decode cX6_version 28 = .ok (.aload_n 0, 1) := by decide +kernel
theorem dX6_version_29 : decode cX6_version 29 = .ok (.iload_n 1, 1) := by decide +kernel
theorem dX6_version_30 : decode cX6_version 30 = .ok (.iload_n 2, 1) := by decide +kernel
theorem dX6_version_31 : decode cX6_version 31 = .ok (.invokevirtual 113, 3) := by decide +kernel
theorem dX6_version_34 : decode cX6_version 34 = .ok (.goto 8, 3) := by decide +kernel
theorem dX6_version_37 : decode cX6_version 37 = .ok (.aload_n 0, 1) := by decide +kernel
theorem dX6_version_38 : decode cX6_version 38 = .ok (.iconst 2, 1) := by decide +kernel
theorem dX6_version_39 : decode cX6_version 39 = .ok (.invokevirtual 82, 3) := by decide +kernel
theorem dX6_version_42 : decode cX6_version 42 = .ok (.ireturn, 1) := by decide +kernel
set_option maxRecDepth 20000 in
theorem ggX6_isInferred_X6_isVersion : GoodIn wsX6_isInferred wsX6_isVersion := goodIn_ca (goodIn_r _ [7, 2, 8, 9, 6, 10, 11, 12, 13, 14, 15, 16, 17, 18, 19, 20, 21, 22, 23, 24, 25] (by decide +kernel) (by decide +kernel)) (goodIn_sub (fun _ h => List.mem_cons_of_mem _ (List.mem_append_right _ h)) (by decide +kernel))
set_option maxRecDepth 20000 in
theorem gX6_isInferred_X6_isVersion : GoodIn wsX6_isInferred (wsV RX6 91 RX6 yX6_isVersion wsX6_isVersion) := goodIn_app (goodIn_of _ (by decide +kernel)) ggX6_isInferred_X6_isVersion
theorem dX6_isInferred_0 : decode cX6_isInferred 0 = .ok (.aload_n 0, 1) := by decide +kernel
theorem dX6_isInferred_1 : decode cX6_isInferred 1 = .ok (.aload_n 0, 1) := by decide +kernel
theorem dX6_isInferred_2 : decode cX6_isInferred 2 = .ok (.iload_n 1, 1) := by decide +kernel
theorem dX6_isInferred_3 : decode cX6_isInferred 3 = .ok (.invokevirtual 91, 3) := by decide +kernel
theorem dX6_isInferred_6 : decode cX6_isInferred 6 = .ok (.ifCond .eq 7, 3) := by decide +kernel
theorem dX6_isInferred_9 : decode cX6_isInferred 9 = .ok (.iconst 0, 1) := by decide +kernel
theorem dX6_isInferred_10 : decode cX6_isInferred 10 = .ok (.goto 4, 3) := by decide +kernel
theorem dX6_isInferred_13 : decode cX6_isInferred 13 = .ok (.iconst 1, 1) := by decide +kernel
theorem dX6_isInferred_14 : decode cX6_isInferred 14 = .ok (.putfield 32, 3) := by decide +kernel
theorem dX6_isInferred_17 : decode cX6_isInferred 17 = .ok (.aload_n 0, 1) := by decide +kernel
theorem dX6_isInferred_18 : decode cX6_isInferred 18 = .ok (.getfield 32, 3) := by decide +kernel
theorem dX6_isInferred_21 : decode cX6_isInferred 21 = .ok (.ifCond .ne 21, 3) := by decide +kernel
theorem dX6_isInferred_24 : decode cX6_isInferred 24 = .ok (.aload_n 0, 1) := by decide +kernel
theorem dX6_isInferred_25 : decode cX6_isInferred 25 = .ok (.getfield 7, 3) := by decide +kernel
theorem dX6_isInferred_28 : decode cX6_isInferred 28 = .ok (.sipush 310, 3) := by decide +kernel
theorem dX6_isInferred_31 : decode cX6_isInferred 31 = .ok (.iload_n 1, 1) := by decide +kernel
theorem dX6_isInferred_32 : decode cX6_isInferred 32 = .ok (.iadd, 1) := by decide +kernel
theorem dX6_isInferred_33 : decode cX6_isInferred 33 = .ok (.iaload, 1) := by decide +kernel
theorem dX6_isInferred_34 : decode cX6_isInferred 34 = .ok (.iconst 1, 1) := by decide +kernel
theorem dX6_isInferred_35 : decode cX6_isInferred 35 = .ok (.if_icmp .ne 7, 3) := by decide +kernel
theorem dX6_isInferred_38 : decode cX6_isInferred 38 = .ok (.iconst 1, 1) := by decide +kernel
theorem dX6_isInferred_39 : decode cX6_isInferred 39 = .ok (.goto 4, 3) := by decide +kernel
theorem dX6_isInferred_42 : decode cX6_isInferred 42 = .ok (.iconst 0, 1) := by decide +kernel
theorem dX6_isInferred_43 : decode cX6_isInferred 43 = .ok (.ireturn, 1) := by decide +kernel
set_option maxRecDepth 20000 in
theorem ggX6_firstInferred_X6_fails : GoodIn wsX6_firstInferred wsX6_fails := goodIn_r _ [7, 1, 8, 9, 10, 11, 12, 13, 14, 15, 16, 17, 18, 19, 20, 21, 22] (by decide +kernel) (by decide +kernel)
set_option maxRecDepth 20000 in
theorem gX6_firstInferred_X6_fails : GoodIn wsX6_firstInferred (wsV RX6 82 RX6 yX6_fails wsX6_fails) := goodIn_app (goodIn_of _ (by decide +kernel)) ggX6_firstInferred_X6_fails
theorem dX6_firstInferred_0 : decode cX6_firstInferred 0 = .ok (.aload_n 0, 1) := by decide +kernel
theorem dX6_firstInferred_1 : decode cX6_firstInferred 1 = .ok (.iconst 0, 1) := by decide +kernel
theorem dX6_firstInferred_2 : decode cX6_firstInferred 2 = .ok (.putfield 32, 3) := by decide +kernel
theorem dX6_firstInferred_5 : decode cX6_firstInferred 5 = .ok (.iconst (-1), 1) := by decide +kernel
theorem dX6_firstInferred_6 : decode cX6_firstInferred 6 = .ok (.istore_n 1, 1) := by decide +kernel
theorem dX6_firstInferred_7 : decode cX6_firstInferred 7 = .ok (.iconst 0, 1) := by decide +kernel
theorem dX6_firstInferred_8 : decode cX6_firstInferred 8 = .ok (.istore_n 2, 1) := by decide +kernel
theorem dX6_firstInferred_9 : decode cX6_firstInferred 9 = .ok (.iload_n 2, 1) := by decide +kernel
theorem dX6_firstInferred_10 : decode cX6_firstInferred 10 = .ok (.aload_n 0, 1) := by decide +kernel
theorem dX6_firstInferred_11 : decode cX6_firstInferred 11 = .ok (.getfield 7, 3) := by decide +kernel
theorem dX6_firstInferred_14 : decode cX6_firstInferred 14 = .ok (.iconst 0, 1) := by decide +kernel
theorem dX6_firstInferred_15 : decode cX6_firstInferred 15 = .ok (.iaload, 1) := by decide +kernel
theorem dX6_firstInferred_16 : decode cX6_firstInferred 16 = .ok (.if_icmp .ge 109, 3) := by decide +kernel
theorem dX6_firstInferred_19 : decode cX6_firstInferred 19 = .ok (.aload_n 0, 1) := by decide +kernel
theorem dX6_firstInferred_20 : decode cX6_firstInferred 20 = .ok (.getfield 7, 3) := by decide +kernel
theorem dX6_firstInferred_23 : decode cX6_firstInferred 23 = .ok (.bipush 10, 2) := by decide +kernel
theorem dX6_firstInferred_25 : decode cX6_firstInferred 25 = .ok (.iload_n 2, 1) := by decide +kernel
theorem dX6_firstInferred_26 : decode cX6_firstInferred 26 = .ok (.iadd, 1) := by decide +kernel
theorem dX6_firstInferred_27 : decode cX6_firstInferred 27 = .ok (.iaload, 1) := by decide +kernel
theorem dX6_firstInferred_28 : decode cX6_firstInferred 28 = .ok (.iconst 1, 1) := by decide +kernel
theorem dX6_firstInferred_29 : decode cX6_firstInferred 29 = .ok (.if_icmp .ne 90, 3) := by decide +kernel
theorem dX6_firstInferred_32 : decode cX6_firstInferred 32 = .ok (.aload_n 0, 1) := by decide +kernel
theorem dX6_firstInferred_33 : decode cX6_firstInferred 33 = .ok (.getfield 7, 3) := by decide +kernel
theorem dX6_firstInferred_36 : decode cX6_firstInferred 36 = .ok (.sipush 310, 3) := by decide +kernel
theorem dX6_firstInferred_39 : decode cX6_firstInferred 39 = .ok (.iload_n 2, 1) := by decide +kernel
theorem dX6_firstInferred_40 : decode cX6_firstInferred 40 = .ok (.iadd, 1) := by decide +kernel
theorem dX6_firstInferred_41 : decode cX6_firstInferred 41 = .ok (.iaload, 1) := by decide +kernel
theorem dX6_firstInferred_42 : decode cX6_firstInferred 42 = .ok (.iconst 1, 1) := by decide +kernel
theorem dX6_firstInferred_43 : decode cX6_firstInferred 43 = .ok (.if_icmp .ne 76, 3) := by decide +kernel
theorem dX6_firstInferred_46 : decode cX6_firstInferred 46 = .ok (.iload_n 1, 1) := by decide +kernel
theorem dX6_firstInferred_47 : decode cX6_firstInferred 47 = .ok (.ifCond .lt 70, 3) := by decide +kernel
theorem dX6_firstInferred_50 : decode cX6_firstInferred 50 = .ok (.aload_n 0, 1) := by decide +kernel
theorem dX6_firstInferred_51 : decode cX6_firstInferred 51 = .ok (.getfield 7, 3) := by decide +kernel
theorem dX6_firstInferred_54 : decode cX6_firstInferred 54 = .ok (.sipush 130, 3) := by decide +kernel
theorem dX6_firstInferred_57 : decode cX6_firstInferred 57 = .ok (.iload_n 2, 1) := by decide +kernel
theorem dX6_firstInferred_58 : decode cX6_firstInferred 58 = .ok (.iadd, 1) := by decide +kernel
theorem dX6_firstInferred_59 : decode cX6_firstInferred 59 = .ok (.iaload, 1) := by decide +kernel
theorem dX6_firstInferred_60 : decode cX6_firstInferred 60 = .ok (.aload_n 0, 1) := by decide +kernel
theorem dX6_firstInferred_61 : decode cX6_firstInferred 61 = .ok (.getfield 7, 3) := by decide +kernel
theorem dX6_firstInferred_64 : decode cX6_firstInferred 64 = .ok (.sipush 130, 3) := by decide +kernel
theorem dX6_firstInferred_67 : decode cX6_firstInferred 67 = .ok (.iload_n 1, 1) := by decide +kernel
theorem dX6_firstInferred_68 : decode cX6_firstInferred 68 = .ok (.iadd, 1) := by decide +kernel
theorem dX6_firstInferred_69 : decode cX6_firstInferred 69 = .ok (.iaload, 1) := by decide +kernel
theorem dX6_firstInferred_70 : decode cX6_firstInferred 70 = .ok (.if_icmp .lt 47, 3) := by decide +kernel
theorem dX6_firstInferred_73 : decode cX6_firstInferred 73 = .ok (.aload_n 0, 1) := by decide +kernel
theorem dX6_firstInferred_74 : decode cX6_firstInferred 74 = .ok (.getfield 7, 3) := by decide +kernel
theorem dX6_firstInferred_77 : decode cX6_firstInferred 77 = .ok (.sipush 130, 3) := by decide +kernel
theorem dX6_firstInferred_80 : decode cX6_firstInferred 80 = .ok (.iload_n 2, 1) := by decide +kernel
theorem dX6_firstInferred_81 : decode cX6_firstInferred 81 = .ok (.iadd, 1) := by decide +kernel
theorem dX6_firstInferred_82 : decode cX6_firstInferred 82 = .ok (.iaload, 1) := by decide +kernel
theorem dX6_firstInferred_83 : decode cX6_firstInferred 83 = .ok (.aload_n 0, 1) := by decide +kernel
theorem dX6_firstInferred_84 : decode cX6_firstInferred 84 = .ok (.getfield 7, 3) := by decide +kernel
theorem dX6_firstInferred_87 : decode cX6_firstInferred 87 = .ok (.sipush 130, 3) := by decide +kernel
theorem dX6_firstInferred_90 : decode cX6_firstInferred 90 = .ok (.iload_n 1, 1) := by decide +kernel
theorem dX6_firstInferred_91 : decode cX6_firstInferred 91 = .ok (.iadd, 1) := by decide +kernel
theorem dX6_firstInferred_92 : decode cX6_firstInferred 92 = .ok (.iaload, 1) := by decide +kernel
theorem dX6_firstInferred_93 : decode cX6_firstInferred 93 = .ok (.if_icmp .ne 26, 3) := by decide +kernel
theorem dX6_firstInferred_96 : decode cX6_firstInferred 96 = .ok (.aload_n 0, 1) := by decide +kernel
theorem dX6_firstInferred_97 : decode cX6_firstInferred 97 = .ok (.getfield 7, 3) := by decide +kernel
theorem dX6_firstInferred_100 : decode cX6_firstInferred 100 = .ok (.bipush 70, 2) := by decide +kernel
theorem dX6_firstInferred_102 : decode cX6_firstInferred 102 = .ok (.iload_n 2, 1) := by decide +kernel
theorem dX6_firstInferred_103 : decode cX6_firstInferred 103 = .ok (.iadd, 1) := by decide +kernel
theorem dX6_firstInferred_104 : decode cX6_firstInferred 104 = .ok (.iaload, 1) := by decide +kernel
theorem dX6_firstInferred_105 : decode cX6_firstInferred 105 = .ok (.aload_n 0, 1) := by decide +kernel
theorem dX6_firstInferred_106 : decode cX6_firstInferred 106 = .ok (.getfield 7, 3) := by decide +kernel
theorem dX6_firstInferred_109 : decode cX6_firstInferred 109 = .ok (.bipush 70, 2) := by decide +kernel
theorem dX6_firstInferred_111 : decode cX6_firstInferred 111 = .ok (.iload_n 1, 1) := by decide +kernel
theorem dX6_firstInferred_112 : decode cX6_firstInferred 112 = .ok (.iadd, 1) := by decide +kernel
theorem dX6_firstInferred_113 : decode cX6_firstInferred 113 = .ok (.iaload, 1) := by decide +kernel
theorem dX6_firstInferred_114 : decode cX6_firstInferred 114 = .ok (.if_icmp .ge 5, 3) := by decide +kernel
theorem dX6_firstInferred_117 : decode cX6_firstInferred 117 = .ok (.iload_n 2, 1) := by decide +kernel
theorem dX6_firstInferred_118 : decode cX6_firstInferred 118 = .ok (.istore_n 1, 1) := by decide +kernel
theorem dX6_firstInferred_119 : decode cX6_firstInferred 119 = .ok (.iinc 2 1, 3) := by decide +kernel
theorem dX6_firstInferred_122 : decode cX6_firstInferred 122 = .ok (.goto (-113), 3) := by decide +kernel
theorem dX6_firstInferred_125 : decode cX6_firstInferred 125 = .ok (.iload_n 1, 1) := by decide +kernel
theorem dX6_firstInferred_126 : decode cX6_firstInferred 126 = .ok (.ifCond .ge 11, 3) := by decide +kernel
theorem dX6_firstInferred_129 : decode cX6_firstInferred 129 = .ok (.aload_n 0, 1) := by decide +kernel
theorem dX6_firstInferred_130 : decode cX6_firstInferred 130 = .ok (.iconst 1, 1) := by decide +kernel
theorem dX6_firstInferred_131 : decode cX6_firstInferred 131 = .ok (.invokevirtual 82, 3) := by decide +kernel
theorem dX6_firstInferred_134 : decode cX6_firstInferred 134 = .ok (.goto 4, 3) := by decide +kernel
theorem dX6_firstInferred_137 : decode cX6_firstInferred 137 = .ok (.iload_n 1, 1) := by decide +kernel
theorem dX6_firstInferred_138 : decode cX6_firstInferred 138 = .ok (.ireturn, 1) := by decide +kernel
theorem dX6_inferredCount_0 : decode cX6_inferredCount 0 = .ok (.aload_n 0, 1) := by decide +kernel
theorem dX6_inferredCount_1 : decode cX6_inferredCount 1 = .ok (.iconst 0, 1) := by decide +kernel
theorem dX6_inferredCount_2 : decode cX6_inferredCount 2 = .ok (.putfield 32, 3) := by decide +kernel
theorem dX6_inferredCount_5 : decode cX6_inferredCount 5 = .ok (.iconst 0, 1) := by decide +kernel
theorem dX6_inferredCount_6 : decode cX6_inferredCount 6 = .ok (.istore_n 1, 1) := by decide +kernel
theorem dX6_inferredCount_7 : decode cX6_inferredCount 7 = .ok (.iconst 0, 1) := by decide +kernel
theorem dX6_inferredCount_8 : decode cX6_inferredCount 8 = .ok (.istore_n 2, 1) := by decide +kernel
theorem dX6_inferredCount_9 : decode cX6_inferredCount 9 = .ok (.iload_n 2, 1) := by decide +kernel
theorem dX6_inferredCount_10 : decode cX6_inferredCount 10 = .ok (.aload_n 0, 1) := by decide +kernel
theorem dX6_inferredCount_11 : decode cX6_inferredCount 11 = .ok (.getfield 7, 3) := by decide +kernel
theorem dX6_inferredCount_14 : decode cX6_inferredCount 14 = .ok (.iconst 0, 1) := by decide +kernel
theorem dX6_inferredCount_15 : decode cX6_inferredCount 15 = .ok (.iaload, 1) := by decide +kernel
theorem dX6_inferredCount_16 : decode cX6_inferredCount 16 = .ok (.if_icmp .ge 39, 3) := by decide +kernel
theorem dX6_inferredCount_19 : decode cX6_inferredCount 19 = .ok (.iload_n 1, 1) := by decide +kernel
theorem dX6_inferredCount_20 : decode cX6_inferredCount 20 = .ok (.aload_n 0, 1) := by decide +kernel
theorem dX6_inferredCount_21 : decode cX6_inferredCount 21 = .ok (.getfield 7, 3) := by decide +kernel
theorem dX6_inferredCount_24 : decode cX6_inferredCount 24 = .ok (.bipush 10, 2) := by decide +kernel
theorem dX6_inferredCount_26 : decode cX6_inferredCount 26 = .ok (.iload_n 2, 1) := by decide +kernel
theorem dX6_inferredCount_27 : decode cX6_inferredCount 27 = .ok (.iadd, 1) := by decide +kernel
theorem dX6_inferredCount_28 : decode cX6_inferredCount 28 = .ok (.iaload, 1) := by decide +kernel
theorem dX6_inferredCount_29 : decode cX6_inferredCount 29 = .ok (.iconst 1, 1) := by decide +kernel
theorem dX6_inferredCount_30 : decode cX6_inferredCount 30 = .ok (.if_icmp .ne 16, 3) := by decide +kernel
theorem dX6_inferredCount_33 : decode cX6_inferredCount 33 = .ok (.aload_n 0, 1) := by decide +kernel
theorem dX6_inferredCount_34 : decode cX6_inferredCount 34 = .ok (.getfield 7, 3) := by decide +kernel
theorem dX6_inferredCount_37 : decode cX6_inferredCount 37 = .ok (.sipush 310, 3) := by decide +kernel
theorem dX6_inferredCount_40 : decode cX6_inferredCount 40 = .ok (.iload_n 2, 1) := by decide +kernel
theorem dX6_inferredCount_41 : decode cX6_inferredCount 41 = .ok (.iadd, 1) := by decide +kernel
theorem dX6_inferredCount_42 : decode cX6_inferredCount 42 = .ok (.iaload, 1) := by decide +kernel
theorem dX6_inferredCount_43 : decode cX6_inferredCount 43 = .ok (.goto 4, 3) := by decide +kernel
theorem dX6_inferredCount_46 : decode cX6_inferredCount 46 = .ok (.iconst 0, 1) := by decide +kernel
theorem dX6_inferredCount_47 : decode cX6_inferredCount 47 = .ok (.iadd, 1) := by decide +kernel
theorem dX6_inferredCount_48 : decode cX6_inferredCount 48 = .ok (.istore_n 1, 1) := by decide +kernel
theorem dX6_inferredCount_49 : decode cX6_inferredCount 49 = .ok (.iinc 2 1, 3) := by decide +kernel
theorem dX6_inferredCount_52 : decode cX6_inferredCount 52 = .ok (.goto (-43), 3) := by decide +kernel
theorem dX6_inferredCount_55 : decode cX6_inferredCount 55 = .ok (.iload_n 1, 1) := by decide +kernel
theorem dX6_inferredCount_56 : decode cX6_inferredCount 56 = .ok (.ireturn, 1) := by decide +kernel
set_option maxRecDepth 20000 in
theorem ggX6_removedCount_X6_there : GoodIn wsX6_removedCount wsX6_there := goodIn_ca (goodIn_r _ [7, 2, 8, 9, 10, 11, 12, 13, 14, 15, 16, 17, 18, 19, 20, 21, 22] (by decide +kernel) (by decide +kernel)) (goodIn_sub (fun _ h => List.mem_cons_of_mem _ (List.mem_append_right _ h)) (by decide +kernel))
set_option maxRecDepth 20000 in
theorem gX6_removedCount_X6_there : GoodIn wsX6_removedCount (wsV RX6 109 RX6 yX6_there wsX6_there) := goodIn_app (goodIn_of _ (by decide +kernel)) ggX6_removedCount_X6_there
theorem dX6_removedCount_0 : decode cX6_removedCount 0 = .ok (.aload_n 0, 1) := by decide +kernel
theorem dX6_removedCount_1 : decode cX6_removedCount 1 = .ok (.iconst 0, 1) := by decide +kernel
theorem dX6_removedCount_2 : decode cX6_removedCount 2 = .ok (.putfield 32, 3) := by decide +kernel
theorem dX6_removedCount_5 : decode cX6_removedCount 5 = .ok (.aload_n 0, 1) := by decide +kernel
theorem dX6_removedCount_6 : decode cX6_removedCount 6 = .ok (.getfield 7, 3) := by decide +kernel
theorem dX6_removedCount_9 : decode cX6_removedCount 9 = .ok (.iconst 0, 1) := by decide +kernel
theorem dX6_removedCount_10 : decode cX6_removedCount 10 = .ok (.iaload, 1) := by decide +kernel
theorem dX6_removedCount_11 : decode cX6_removedCount 11 = .ok (.aload_n 0, 1) := by decide +kernel
theorem dX6_removedCount_12 : decode cX6_removedCount 12 = .ok (.invokevirtual 109, 3) := by decide +kernel
theorem dX6_removedCount_15 : decode cX6_removedCount 15 = .ok (.isub, 1) := by decide +kernel
theorem dX6_removedCount_16 : decode cX6_removedCount 16 = .ok (.ireturn, 1) := by decide +kernel
theorem dX6_factCount_0 : decode cX6_factCount 0 = .ok (.aload_n 0, 1) := by decide +kernel
theorem dX6_factCount_1 : decode cX6_factCount 1 = .ok (.iconst 0, 1) := by decide +kernel
theorem dX6_factCount_2 : decode cX6_factCount 2 = .ok (.putfield 32, 3) := by decide +kernel
theorem dX6_factCount_5 : decode cX6_factCount 5 = .ok (.aload_n 0, 1) := by decide +kernel
theorem dX6_factCount_6 : decode cX6_factCount 6 = .ok (.getfield 7, 3) := by decide +kernel
theorem dX6_factCount_9 : decode cX6_factCount 9 = .ok (.iconst 1, 1) := by decide +kernel
theorem dX6_factCount_10 : decode cX6_factCount 10 = .ok (.iaload, 1) := by decide +kernel
theorem dX6_factCount_11 : decode cX6_factCount 11 = .ok (.ireturn, 1) := by decide +kernel
set_option maxRecDepth 20000 in
theorem ggX6_factTold_X6_versionOf : GoodIn wsX6_factTold wsX6_versionOf := goodIn_ca (goodIn_r _ [6, 1, 7, 8, 9, 5, 10, 11, 12, 13, 14, 15, 16, 17, 18, 19, 20, 21, 22, 23, 24, 25, 26, 27, 28, 29, 30, 31, 32] (by decide +kernel) (by decide +kernel)) (goodIn_sub (fun _ h => List.mem_cons_of_mem _ (List.mem_append_right _ h)) (by decide +kernel))
set_option maxRecDepth 20000 in
theorem gX6_factTold_X6_versionOf : GoodIn wsX6_factTold (wsV RX6 61 RX6 yX6_versionOf wsX6_versionOf) := goodIn_app (goodIn_of _ (by decide +kernel)) ggX6_factTold_X6_versionOf
theorem dX6_factTold_0 : decode cX6_factTold 0 = .ok (.iload_n 2, 1) := by decide +kernel
theorem dX6_factTold_1 : decode cX6_factTold 1 = .ok (.tableswitch 70 0 3 #[31, 42, 53, 64], 31) := by decide +kernel
theorem dX6_factTold_32 : decode cX6_factTold 32 = .ok (.aload_n 0, 1) := by decide +kernel
theorem dX6_factTold_33 : decode cX6_factTold 33 = .ok (.getfield 7, 3) := by decide +kernel
theorem dX6_factTold_36 : decode cX6_factTold 36 = .ok (.sipush 370, 3) := by decide +kernel
theorem dX6_factTold_39 : decode cX6_factTold 39 = .ok (.iload_n 1, 1) := by decide +kernel
theorem dX6_factTold_40 : decode cX6_factTold 40 = .ok (.iadd, 1) := by decide +kernel
theorem dX6_factTold_41 : decode cX6_factTold 41 = .ok (.iaload, 1) := by decide +kernel
theorem dX6_factTold_42 : decode cX6_factTold 42 = .ok (.ireturn, 1) := by decide +kernel
theorem dX6_factTold_43 : decode cX6_factTold 43 = .ok (.aload_n 0, 1) := by decide +kernel
theorem dX6_factTold_44 : decode cX6_factTold 44 = .ok (.getfield 7, 3) := by decide +kernel
theorem dX6_factTold_47 : decode cX6_factTold 47 = .ok (.sipush 430, 3) := by decide +kernel
theorem dX6_factTold_50 : decode cX6_factTold 50 = .ok (.iload_n 1, 1) := by decide +kernel
theorem dX6_factTold_51 : decode cX6_factTold 51 = .ok (.iadd, 1) := by decide +kernel
theorem dX6_factTold_52 : decode cX6_factTold 52 = .ok (.iaload, 1) := by decide +kernel
theorem dX6_factTold_53 : decode cX6_factTold 53 = .ok (.ireturn, 1) := by decide +kernel
theorem dX6_factTold_54 : decode cX6_factTold 54 = .ok (.aload_n 0, 1) := by decide +kernel
theorem dX6_factTold_55 : decode cX6_factTold 55 = .ok (.getfield 7, 3) := by decide +kernel
theorem dX6_factTold_58 : decode cX6_factTold 58 = .ok (.sipush 490, 3) := by decide +kernel
theorem dX6_factTold_61 : decode cX6_factTold 61 = .ok (.iload_n 1, 1) := by decide +kernel
theorem dX6_factTold_62 : decode cX6_factTold 62 = .ok (.iadd, 1) := by decide +kernel
theorem dX6_factTold_63 : decode cX6_factTold 63 = .ok (.iaload, 1) := by decide +kernel
theorem dX6_factTold_64 : decode cX6_factTold 64 = .ok (.ireturn, 1) := by decide +kernel
theorem dX6_factTold_65 : decode cX6_factTold 65 = .ok (.aload_n 0, 1) := by decide +kernel
theorem dX6_factTold_66 : decode cX6_factTold 66 = .ok (.iload_n 1, 1) := by decide +kernel
theorem dX6_factTold_67 : decode cX6_factTold 67 = .ok (.invokevirtual 61, 3) := by decide +kernel
theorem dX6_factTold_70 : decode cX6_factTold 70 = .ok (.ireturn, 1) := by decide +kernel
theorem dX6_factTold_71 : decode cX6_factTold 71 = .ok (.aload_n 0, 1) := by decide +kernel
theorem dX6_factTold_72 : decode cX6_factTold 72 = .ok (.getfield 7, 3) := by decide +kernel
theorem dX6_factTold_75 : decode cX6_factTold 75 = .ok (.sipush 250, 3) := by decide +kernel
theorem dX6_factTold_78 : decode cX6_factTold 78 = .ok (.aload_n 0, 1) := by decide +kernel
theorem dX6_factTold_79 : decode cX6_factTold 79 = .ok (.iload_n 1, 1) := by decide +kernel
theorem dX6_factTold_80 : decode cX6_factTold 80 = .ok (.invokevirtual 61, 3) := by decide +kernel
theorem dX6_factTold_83 : decode cX6_factTold 83 = .ok (.iadd, 1) := by decide +kernel
theorem dX6_factTold_84 : decode cX6_factTold 84 = .ok (.iaload, 1) := by decide +kernel
theorem dX6_factTold_85 : decode cX6_factTold 85 = .ok (.ireturn, 1) := by decide +kernel
set_option maxRecDepth 20000 in
theorem ggX6_fact_X6_in : GoodIn wsX6_fact wsX6_in := goodIn_r _ [6] (by decide +kernel) (by decide +kernel)
set_option maxRecDepth 20000 in
theorem gX6_fact_X6_in : GoodIn wsX6_fact (va_wsS RX6 35 yX6_in wsX6_in) := goodIn_app (goodIn_of _ (by decide +kernel)) ggX6_fact_X6_in
set_option maxRecDepth 20000 in
theorem ggX6_fact_X6_fails : GoodIn wsX6_fact wsX6_fails := goodIn_r _ [10, 1, 27, 28, 29, 30, 31, 32, 33, 34, 35, 36, 37, 38, 39, 40, 41] (by decide +kernel) (by decide +kernel)
set_option maxRecDepth 20000 in
theorem gX6_fact_X6_fails : GoodIn wsX6_fact (wsV RX6 82 RX6 yX6_fails wsX6_fails) := goodIn_app (goodIn_of _ (by decide +kernel)) ggX6_fact_X6_fails
set_option maxRecDepth 20000 in
theorem ggX6_fact_X6_factTold : GoodIn wsX6_fact wsX6_factTold := goodIn_ca (goodIn_r _ [14, 2, 15, 16, 17, 5, 18, 19, 20, 21, 22, 23, 24, 25, 26, 3, 4, 6, 27, 28, 29, 30, 31, 32, 33, 34, 35, 36, 37, 38, 39, 40, 41] (by decide +kernel) (by decide +kernel)) (goodIn_sub (fun _ h => List.mem_cons_of_mem _ (List.mem_append_right _ h)) (by decide +kernel))
set_option maxRecDepth 20000 in
theorem gX6_fact_X6_factTold : GoodIn wsX6_fact (wsV RX6 116 RX6 yX6_factTold wsX6_factTold) := goodIn_app (goodIn_of _ (by decide +kernel)) ggX6_fact_X6_factTold
theorem dX6_fact_0 : decode cX6_fact 0 = .ok (.aload_n 0, 1) := by decide +kernel
theorem dX6_fact_1 : decode cX6_fact 1 = .ok (.iconst 0, 1) := by decide +kernel
theorem dX6_fact_2 : decode cX6_fact 2 = .ok (.putfield 32, 3) := by decide +kernel
theorem dX6_fact_5 : decode cX6_fact 5 = .ok (.iload_n 1, 1) := by decide +kernel
theorem dX6_fact_6 : decode cX6_fact 6 = .ok (.iconst 0, 1) := by decide +kernel
theorem dX6_fact_7 : decode cX6_fact 7 = .ok (.aload_n 0, 1) := by decide +kernel
theorem dX6_fact_8 : decode cX6_fact 8 = .ok (.getfield 7, 3) := by decide +kernel
theorem dX6_fact_11 : decode cX6_fact 11 = .ok (.iconst 1, 1) := by decide +kernel
theorem dX6_fact_12 : decode cX6_fact 12 = .ok (.iaload, 1) := by decide +kernel
theorem dX6_fact_13 : decode cX6_fact 13 = .ok (.iconst 1, 1) := by decide +kernel
theorem dX6_fact_14 : decode cX6_fact 14 = .ok (.isub, 1) := by decide +kernel
theorem dX6_fact_15 : decode cX6_fact 15 = .ok (.invokestatic 35, 3) := by decide +kernel
theorem dX6_fact_18 : decode cX6_fact 18 = .ok (.ifCond .ne 9, 3) := by decide +kernel
theorem dX6_fact_21 : decode cX6_fact 21 = .ok (.aload_n 0, 1) := by decide +kernel
theorem dX6_fact_22 : decode cX6_fact 22 = .ok (.iconst 1, 1) := by decide +kernel
theorem dX6_fact_23 : decode cX6_fact 23 = .ok (.invokevirtual 82, 3) := by decide +kernel
theorem dX6_fact_26 : decode cX6_fact 26 = .ok (.ireturn, 1) := by decide +kernel
theorem dX6_fact_27 : decode cX6_fact 27 = .ok (.iload_n 2, 1) := by decide +kernel
theorem dX6_fact_28 : decode cX6_fact 28 = .ok (.iconst 0, 1) := by decide +kernel
theorem dX6_fact_29 : decode cX6_fact 29 = .ok (.iconst 4, 1) := by decide +kernel
theorem dX6_fact_30 : decode cX6_fact 30 = .ok (.invokestatic 35, 3) := by decide +kernel
theorem dX6_fact_33 : decode cX6_fact 33 = .ok (.ifCond .eq 12, 3) := by decide +kernel
theorem dX6_fact_36 : decode cX6_fact 36 = .ok (.aload_n 0, 1) := by decide +kernel
theorem dX6_fact_37 : decode cX6_fact 37 = .ok (.iload_n 1, 1) := by decide +kernel
theorem dX6_fact_38 : decode cX6_fact 38 = .ok (.iload_n 2, 1) := by decide +kernel
theorem dX6_fact_39 : decode cX6_fact 39 = .ok (.invokevirtual 116, 3) := by decide +kernel
theorem dX6_fact_42 : decode cX6_fact 42 = .ok (.goto 8, 3) := by decide +kernel
theorem dX6_fact_45 : decode cX6_fact 45 = .ok (.aload_n 0, 1) := by decide +kernel
theorem dX6_fact_46 : decode cX6_fact 46 = .ok (.iconst 2, 1) := by decide +kernel
theorem dX6_fact_47 : decode cX6_fact 47 = .ok (.invokevirtual 82, 3) := by decide +kernel
theorem dX6_fact_50 : decode cX6_fact 50 = .ok (.ireturn, 1) := by decide +kernel
set_option maxRecDepth 20000 in
theorem ggX6_amountOf_X6_isVersion : GoodIn wsX6_amountOf wsX6_isVersion := goodIn_ca (goodIn_r _ [7, 2, 8, 9, 6, 10, 23, 24, 25, 26, 27, 28, 29, 30, 31, 32, 33, 34, 35, 36, 37] (by decide +kernel) (by decide +kernel)) (goodIn_sub (fun _ h => List.mem_cons_of_mem _ (List.mem_append_right _ h)) (by decide +kernel))
set_option maxRecDepth 20000 in
theorem gX6_amountOf_X6_isVersion : GoodIn wsX6_amountOf (wsV RX6 91 RX6 yX6_isVersion wsX6_isVersion) := goodIn_app (goodIn_of _ (by decide +kernel)) ggX6_amountOf_X6_isVersion
set_option maxRecDepth 20000 in
theorem ggX6_amountOf_X6_versionOf : GoodIn wsX6_amountOf wsX6_versionOf := goodIn_ca (goodIn_r _ [14, 2, 15, 16, 17, 6, 18, 19, 20, 21, 22, 8, 9, 10, 23, 24, 25, 26, 27, 28, 29, 30, 31, 32, 33, 34, 35, 36, 37] (by decide +kernel) (by decide +kernel)) (goodIn_sub (fun _ h => List.mem_cons_of_mem _ (List.mem_append_right _ h)) (by decide +kernel))
set_option maxRecDepth 20000 in
theorem gX6_amountOf_X6_versionOf : GoodIn wsX6_amountOf (wsV RX6 61 RX6 yX6_versionOf wsX6_versionOf) := goodIn_app (goodIn_of _ (by decide +kernel)) ggX6_amountOf_X6_versionOf
theorem dX6_amountOf_0 : decode cX6_amountOf 0 = .ok (.aload_n 0, 1) := by decide +kernel
theorem dX6_amountOf_1 : decode cX6_amountOf 1 = .ok (.aload_n 0, 1) := by decide +kernel
theorem dX6_amountOf_2 : decode cX6_amountOf 2 = .ok (.iload_n 1, 1) := by decide +kernel
theorem dX6_amountOf_3 : decode cX6_amountOf 3 = .ok (.invokevirtual 91, 3) := by decide +kernel
theorem dX6_amountOf_6 : decode cX6_amountOf 6 = .ok (.ifCond .eq 7, 3) := by decide +kernel
theorem dX6_amountOf_9 : decode cX6_amountOf 9 = .ok (.iconst 0, 1) := by decide +kernel
theorem dX6_amountOf_10 : decode cX6_amountOf 10 = .ok (.goto 4, 3) := by decide +kernel
theorem dX6_amountOf_13 : decode cX6_amountOf 13 = .ok (.iconst 1, 1) := by decide +kernel
theorem dX6_amountOf_14 : decode cX6_amountOf 14 = .ok (.putfield 32, 3) := by decide +kernel
theorem dX6_amountOf_17 : decode cX6_amountOf 17 = .ok (.lconst 0, 1) := by decide +kernel
theorem dX6_amountOf_18 : decode cX6_amountOf 18 = .ok (.lstore_n 2, 1) := by decide +kernel
theorem dX6_amountOf_19 : decode cX6_amountOf 19 = .ok (.iconst 0, 1) := by decide +kernel
theorem dX6_amountOf_20 : decode cX6_amountOf 20 = .ok (.istore 4, 2) := by decide +kernel
theorem dX6_amountOf_22 : decode cX6_amountOf 22 = .ok (.iload 4, 2) := by decide +kernel
theorem dX6_amountOf_24 : decode cX6_amountOf 24 = .ok (.aload_n 0, 1) := by decide +kernel
theorem dX6_amountOf_25 : decode cX6_amountOf 25 = .ok (.getfield 7, 3) := by decide +kernel
theorem dX6_amountOf_28 : decode cX6_amountOf 28 = .ok (.iconst 1, 1) := by decide +kernel
theorem dX6_amountOf_29 : decode cX6_amountOf 29 = .ok (.iaload, 1) := by decide +kernel
theorem dX6_amountOf_30 : decode cX6_amountOf 30 = .ok (.if_icmp .ge 45, 3) := by decide +kernel
theorem dX6_amountOf_33 : decode cX6_amountOf 33 = .ok (.aload_n 0, 1) := by decide +kernel
theorem dX6_amountOf_34 : decode cX6_amountOf 34 = .ok (.getfield 32, 3) := by decide +kernel
theorem dX6_amountOf_37 : decode cX6_amountOf 37 = .ok (.ifCond .ne 38, 3) := by decide +kernel
theorem dX6_amountOf_40 : decode cX6_amountOf 40 = .ok (.lload_n 2, 1) := by decide +kernel
theorem dX6_amountOf_41 : decode cX6_amountOf 41 = .ok (.aload_n 0, 1) := by decide +kernel
theorem dX6_amountOf_42 : decode cX6_amountOf 42 = .ok (.iload 4, 2) := by decide +kernel
theorem dX6_amountOf_44 : decode cX6_amountOf 44 = .ok (.invokevirtual 61, 3) := by decide +kernel
theorem dX6_amountOf_47 : decode cX6_amountOf 47 = .ok (.iload_n 1, 1) := by decide +kernel
theorem dX6_amountOf_48 : decode cX6_amountOf 48 = .ok (.if_icmp .ne 18, 3) := by decide +kernel
theorem dX6_amountOf_51 : decode cX6_amountOf 51 = .ok (.aload_n 0, 1) := by decide +kernel
theorem dX6_amountOf_52 : decode cX6_amountOf 52 = .ok (.getfield 7, 3) := by decide +kernel
theorem dX6_amountOf_55 : decode cX6_amountOf 55 = .ok (.sipush 490, 3) := by decide +kernel
theorem dX6_amountOf_58 : decode cX6_amountOf 58 = .ok (.iload 4, 2) := by decide +kernel
theorem dX6_amountOf_60 : decode cX6_amountOf 60 = .ok (.iadd, 1) := by decide +kernel
theorem dX6_amountOf_61 : decode cX6_amountOf 61 = .ok (.iaload, 1) := by decide +kernel
theorem dX6_amountOf_62 : decode cX6_amountOf 62 = .ok (.i2l, 1) := by decide +kernel
theorem dX6_amountOf_63 : decode cX6_amountOf 63 = .ok (.goto 4, 3) := by decide +kernel
theorem dX6_amountOf_66 : decode cX6_amountOf 66 = .ok (.lconst 0, 1) := by decide +kernel
theorem dX6_amountOf_67 : decode cX6_amountOf 67 = .ok (.ladd, 1) := by decide +kernel
theorem dX6_amountOf_68 : decode cX6_amountOf 68 = .ok (.lstore_n 2, 1) := by decide +kernel
theorem dX6_amountOf_69 : decode cX6_amountOf 69 = .ok (.iinc 4 1, 3) := by decide +kernel
theorem dX6_amountOf_72 : decode cX6_amountOf 72 = .ok (.goto (-50), 3) := by decide +kernel
theorem dX6_amountOf_75 : decode cX6_amountOf 75 = .ok (.lload_n 2, 1) := by decide +kernel
theorem dX6_amountOf_76 : decode cX6_amountOf 76 = .ok (.lreturn, 1) := by decide +kernel
set_option maxRecDepth 20000 in
theorem ggX6_amountFor_X6_isKey : GoodIn wsX6_amountFor wsX6_isKey := goodIn_r _ [6, 7, 8, 5, 9] (by decide +kernel) (by decide +kernel)
set_option maxRecDepth 20000 in
theorem gX6_amountFor_X6_isKey : GoodIn wsX6_amountFor (va_wsS RX6 68 yX6_isKey wsX6_isKey) := goodIn_app (goodIn_of _ (by decide +kernel)) ggX6_amountFor_X6_isKey
set_option maxRecDepth 20000 in
theorem ggX6_amountFor_X6_versionOf : GoodIn wsX6_amountFor wsX6_versionOf := goodIn_ca (goodIn_r _ [13, 2, 14, 15, 16, 5, 17, 18, 19, 20, 21, 7, 8, 9, 22, 23, 24, 25, 26, 27, 28, 29, 30, 31, 32, 33, 34, 35, 36] (by decide +kernel) (by decide +kernel)) (goodIn_sub (fun _ h => List.mem_cons_of_mem _ (List.mem_append_right _ h)) (by decide +kernel))
set_option maxRecDepth 20000 in
theorem gX6_amountFor_X6_versionOf : GoodIn wsX6_amountFor (wsV RX6 61 RX6 yX6_versionOf wsX6_versionOf) := goodIn_app (goodIn_of _ (by decide +kernel)) ggX6_amountFor_X6_versionOf
theorem dX6_amountFor_0 : decode cX6_amountFor 0 = .ok (.aload_n 0, 1) := by decide +kernel
theorem dX6_amountFor_1 : decode cX6_amountFor 1 = .ok (.iload_n 1, 1) := by decide +kernel
theorem dX6_amountFor_2 : decode cX6_amountFor 2 = .ok (.invokestatic 68, 3) := by decide +kernel
theorem dX6_amountFor_5 : decode cX6_amountFor 5 = .ok (.ifCond .eq 7, 3) := by decide +kernel
theorem dX6_amountFor_8 : decode cX6_amountFor 8 = .ok (.iconst 0, 1) := by decide +kernel
theorem dX6_amountFor_9 : decode cX6_amountFor 9 = .ok (.goto 4, 3) := by decide +kernel
theorem dX6_amountFor_12 : decode cX6_amountFor 12 = .ok (.iconst 1, 1) := by decide +kernel
theorem dX6_amountFor_13 : decode cX6_amountFor 13 = .ok (.putfield 32, 3) := by decide +kernel
theorem dX6_amountFor_16 : decode cX6_amountFor 16 = .ok (.lconst 0, 1) := by decide +kernel
theorem dX6_amountFor_17 : decode cX6_amountFor 17 = .ok (.lstore_n 3, 1) := by decide +kernel
theorem dX6_amountFor_18 : decode cX6_amountFor 18 = .ok (.iconst 0, 1) := by decide +kernel
theorem dX6_amountFor_19 : decode cX6_amountFor 19 = .ok (.istore 5, 2) := by decide +kernel
theorem dX6_amountFor_21 : decode cX6_amountFor 21 = .ok (.iload 5, 2) := by decide +kernel
theorem dX6_amountFor_23 : decode cX6_amountFor 23 = .ok (.aload_n 0, 1) := by decide +kernel
theorem dX6_amountFor_24 : decode cX6_amountFor 24 = .ok (.getfield 7, 3) := by decide +kernel
theorem dX6_amountFor_27 : decode cX6_amountFor 27 = .ok (.iconst 1, 1) := by decide +kernel
theorem dX6_amountFor_28 : decode cX6_amountFor 28 = .ok (.iaload, 1) := by decide +kernel
theorem dX6_amountFor_29 : decode cX6_amountFor 29 = .ok (.if_icmp .ge 69, 3) := by decide +kernel
theorem dX6_amountFor_32 : decode cX6_amountFor 32 = .ok (.aload_n 0, 1) := by decide +kernel
theorem dX6_amountFor_33 : decode cX6_amountFor 33 = .ok (.getfield 32, 3) := by decide +kernel
theorem dX6_amountFor_36 : decode cX6_amountFor 36 = .ok (.ifCond .ne 62, 3) := by decide +kernel
theorem dX6_amountFor_39 : decode cX6_amountFor 39 = .ok (.lload_n 3, 1) := by decide +kernel
theorem dX6_amountFor_40 : decode cX6_amountFor 40 = .ok (.aload_n 0, 1) := by decide +kernel
theorem dX6_amountFor_41 : decode cX6_amountFor 41 = .ok (.getfield 7, 3) := by decide +kernel
theorem dX6_amountFor_44 : decode cX6_amountFor 44 = .ok (.sipush 370, 3) := by decide +kernel
theorem dX6_amountFor_47 : decode cX6_amountFor 47 = .ok (.iload 5, 2) := by decide +kernel
theorem dX6_amountFor_49 : decode cX6_amountFor 49 = .ok (.iadd, 1) := by decide +kernel
theorem dX6_amountFor_50 : decode cX6_amountFor 50 = .ok (.iaload, 1) := by decide +kernel
theorem dX6_amountFor_51 : decode cX6_amountFor 51 = .ok (.iload_n 1, 1) := by decide +kernel
theorem dX6_amountFor_52 : decode cX6_amountFor 52 = .ok (.if_icmp .ne 37, 3) := by decide +kernel
theorem dX6_amountFor_55 : decode cX6_amountFor 55 = .ok (.aload_n 0, 1) := by decide +kernel
theorem dX6_amountFor_56 : decode cX6_amountFor 56 = .ok (.getfield 7, 3) := by decide +kernel
theorem dX6_amountFor_59 : decode cX6_amountFor 59 = .ok (.sipush 250, 3) := by decide +kernel
theorem dX6_amountFor_62 : decode cX6_amountFor 62 = .ok (.aload_n 0, 1) := by decide +kernel
theorem dX6_amountFor_63 : decode cX6_amountFor 63 = .ok (.iload 5, 2) := by decide +kernel
theorem dX6_amountFor_65 : decode cX6_amountFor 65 = .ok (.invokevirtual 61, 3) := by decide +kernel
theorem dX6_amountFor_68 : decode cX6_amountFor 68 = .ok (.iadd, 1) := by decide +kernel
theorem dX6_amountFor_69 : decode cX6_amountFor 69 = .ok (.iaload, 1) := by decide +kernel
theorem dX6_amountFor_70 : decode cX6_amountFor 70 = .ok (.iload_n 2, 1) := by decide +kernel
theorem dX6_amountFor_71 : decode cX6_amountFor 71 = .ok (.if_icmp .ne 18, 3) := by decide +kernel
theorem dX6_amountFor_74 : decode cX6_amountFor 74 = .ok (.aload_n 0, 1) := by decide +kernel
theorem dX6_amountFor_75 : decode cX6_amountFor 75 = .ok (.getfield 7, 3) := by decide +kernel
theorem dX6_amountFor_78 : decode cX6_amountFor 78 = .ok (.sipush 490, 3) := by decide +kernel
theorem dX6_amountFor_81 : decode cX6_amountFor 81 = .ok (.iload 5, 2) := by decide +kernel
theorem dX6_amountFor_83 : decode cX6_amountFor 83 = .ok (.iadd, 1) := by decide +kernel
theorem dX6_amountFor_84 : decode cX6_amountFor 84 = .ok (.iaload, 1) := by decide +kernel
theorem dX6_amountFor_85 : decode cX6_amountFor 85 = .ok (.i2l, 1) := by decide +kernel
theorem dX6_amountFor_86 : decode cX6_amountFor 86 = .ok (.goto 4, 3) := by decide +kernel
theorem dX6_amountFor_89 : decode cX6_amountFor 89 = .ok (.lconst 0, 1) := by decide +kernel
theorem dX6_amountFor_90 : decode cX6_amountFor 90 = .ok (.ladd, 1) := by decide +kernel
theorem dX6_amountFor_91 : decode cX6_amountFor 91 = .ok (.lstore_n 3, 1) := by decide +kernel
theorem dX6_amountFor_92 : decode cX6_amountFor 92 = .ok (.iinc 5 1, 3) := by decide +kernel
theorem dX6_amountFor_95 : decode cX6_amountFor 95 = .ok (.goto (-74), 3) := by decide +kernel
theorem dX6_amountFor_98 : decode cX6_amountFor 98 = .ok (.lload_n 3, 1) := by decide +kernel
theorem dX6_amountFor_99 : decode cX6_amountFor 99 = .ok (.lreturn, 1) := by decide +kernel
theorem dX6_pointedAnew_0 : decode cX6_pointedAnew 0 = .ok (.aload_n 0, 1) := by decide +kernel
theorem dX6_pointedAnew_1 : decode cX6_pointedAnew 1 = .ok (.iconst 0, 1) := by decide +kernel
theorem dX6_pointedAnew_2 : decode cX6_pointedAnew 2 = .ok (.putfield 32, 3) := by decide +kernel
theorem dX6_pointedAnew_5 : decode cX6_pointedAnew 5 = .ok (.aload_n 0, 1) := by decide +kernel
theorem dX6_pointedAnew_6 : decode cX6_pointedAnew 6 = .ok (.getfield 65, 3) := by decide +kernel
theorem dX6_pointedAnew_9 : decode cX6_pointedAnew 9 = .ok (.ireturn, 1) := by decide +kernel
set_option maxRecDepth 20000 in
theorem ggX6_isOpen_X6_following : GoodIn wsX6_isOpen wsX6_following := goodIn_ca (goodIn_r _ [6, 1, 7, 8, 9, 5, 10, 11, 12, 13, 14, 15, 16, 17, 18, 19, 20, 21, 22, 23, 24, 25] (by decide +kernel) (by decide +kernel)) (goodIn_sub (fun _ h => List.mem_cons_of_mem _ (List.mem_append_right _ h)) (by decide +kernel))
set_option maxRecDepth 20000 in
theorem gX6_isOpen_X6_following : GoodIn wsX6_isOpen (wsV RX6 47 RX6 yX6_following wsX6_following) := goodIn_app (goodIn_of _ (by decide +kernel)) ggX6_isOpen_X6_following
theorem dX6_isOpen_0 : decode cX6_isOpen 0 = .ok (.aload_n 0, 1) := by decide +kernel
theorem dX6_isOpen_1 : decode cX6_isOpen 1 = .ok (.aload_n 0, 1) := by decide +kernel
theorem dX6_isOpen_2 : decode cX6_isOpen 2 = .ok (.getfield 7, 3) := by decide +kernel
theorem dX6_isOpen_5 : decode cX6_isOpen 5 = .ok (.bipush 70, 2) := by decide +kernel
theorem dX6_isOpen_7 : decode cX6_isOpen 7 = .ok (.iload_n 1, 1) := by decide +kernel
theorem dX6_isOpen_8 : decode cX6_isOpen 8 = .ok (.iadd, 1) := by decide +kernel
theorem dX6_isOpen_9 : decode cX6_isOpen 9 = .ok (.iaload, 1) := by decide +kernel
theorem dX6_isOpen_10 : decode cX6_isOpen 10 = .ok (.aload_n 0, 1) := by decide +kernel
theorem dX6_isOpen_11 : decode cX6_isOpen 11 = .ok (.getfield 7, 3) := by decide +kernel
theorem dX6_isOpen_14 : decode cX6_isOpen 14 = .ok (.sipush 130, 3) := by decide +kernel
theorem dX6_isOpen_17 : decode cX6_isOpen 17 = .ok (.iload_n 1, 1) := by decide +kernel
theorem dX6_isOpen_18 : decode cX6_isOpen 18 = .ok (.iadd, 1) := by decide +kernel
theorem dX6_isOpen_19 : decode cX6_isOpen 19 = .ok (.iaload, 1) := by decide +kernel
theorem dX6_isOpen_20 : decode cX6_isOpen 20 = .ok (.invokevirtual 47, 3) := by decide +kernel
theorem dX6_isOpen_23 : decode cX6_isOpen 23 = .ok (.istore_n 2, 1) := by decide +kernel
theorem dX6_isOpen_24 : decode cX6_isOpen 24 = .ok (.aload_n 0, 1) := by decide +kernel
theorem dX6_isOpen_25 : decode cX6_isOpen 25 = .ok (.getfield 7, 3) := by decide +kernel
theorem dX6_isOpen_28 : decode cX6_isOpen 28 = .ok (.sipush 190, 3) := by decide +kernel
theorem dX6_isOpen_31 : decode cX6_isOpen 31 = .ok (.iload_n 1, 1) := by decide +kernel
theorem dX6_isOpen_32 : decode cX6_isOpen 32 = .ok (.iadd, 1) := by decide +kernel
theorem dX6_isOpen_33 : decode cX6_isOpen 33 = .ok (.iaload, 1) := by decide +kernel
theorem dX6_isOpen_34 : decode cX6_isOpen 34 = .ok (.iload_n 2, 1) := by decide +kernel
theorem dX6_isOpen_35 : decode cX6_isOpen 35 = .ok (.ifCond .lt 16, 3) := by decide +kernel
theorem dX6_isOpen_38 : decode cX6_isOpen 38 = .ok (.aload_n 0, 1) := by decide +kernel
theorem dX6_isOpen_39 : decode cX6_isOpen 39 = .ok (.getfield 7, 3) := by decide +kernel
theorem dX6_isOpen_42 : decode cX6_isOpen 42 = .ok (.sipush 130, 3) := by decide +kernel
theorem dX6_isOpen_45 : decode cX6_isOpen 45 = .ok (.iload_n 2, 1) := by decide +kernel
theorem dX6_isOpen_46 : decode cX6_isOpen 46 = .ok (.iadd, 1) := by decide +kernel
theorem dX6_isOpen_47 : decode cX6_isOpen 47 = .ok (.iaload, 1) := by decide +kernel
theorem dX6_isOpen_48 : decode cX6_isOpen 48 = .ok (.goto 6, 3) := by decide +kernel
theorem dX6_isOpen_51 : decode cX6_isOpen 51 = .ok (.sipush 1000, 3) := by decide +kernel
theorem dX6_isOpen_54 : decode cX6_isOpen 54 = .ok (.if_icmp .ge 7, 3) := by decide +kernel
theorem dX6_isOpen_57 : decode cX6_isOpen 57 = .ok (.iconst 1, 1) := by decide +kernel
theorem dX6_isOpen_58 : decode cX6_isOpen 58 = .ok (.goto 4, 3) := by decide +kernel
theorem dX6_isOpen_61 : decode cX6_isOpen 61 = .ok (.iconst 0, 1) := by decide +kernel
theorem dX6_isOpen_62 : decode cX6_isOpen 62 = .ok (.ireturn, 1) := by decide +kernel
set_option maxRecDepth 20000 in
theorem ggX6_gapsOf_X6_isOf : GoodIn wsX6_gapsOf wsX6_isOf := goodIn_ca (goodIn_r _ [6, 1, 15, 16, 17, 18, 19, 20, 21, 22, 23, 24, 25, 26, 27, 28, 29] (by decide +kernel) (by decide +kernel)) (goodIn_sub (fun _ h => List.mem_cons_of_mem _ (List.mem_append_right _ h)) (by decide +kernel))
set_option maxRecDepth 20000 in
theorem gX6_gapsOf_X6_isOf : GoodIn wsX6_gapsOf (wsV RX6 39 RX6 yX6_isOf wsX6_isOf) := goodIn_app (goodIn_of _ (by decide +kernel)) ggX6_gapsOf_X6_isOf
set_option maxRecDepth 20000 in
theorem ggX6_gapsOf_X6_isOpen : GoodIn wsX6_gapsOf wsX6_isOpen := goodIn_ca (goodIn_r _ [10, 1, 11, 12, 13, 5, 14, 2, 3, 4, 6, 15, 16, 17, 18, 19, 20, 21, 22, 23, 24, 25, 26, 27, 28, 29] (by decide +kernel) (by decide +kernel)) (goodIn_sub (fun _ h => List.mem_cons_of_mem _ (List.mem_append_right _ h)) (by decide +kernel))
set_option maxRecDepth 20000 in
theorem gX6_gapsOf_X6_isOpen : GoodIn wsX6_gapsOf (wsV RX6 119 RX6 yX6_isOpen wsX6_isOpen) := goodIn_app (goodIn_of _ (by decide +kernel)) ggX6_gapsOf_X6_isOpen
theorem dX6_gapsOf_0 : decode cX6_gapsOf 0 = .ok (.iconst 0, 1) := by decide +kernel
theorem dX6_gapsOf_1 : decode cX6_gapsOf 1 = .ok (.istore_n 2, 1) := by decide +kernel
theorem dX6_gapsOf_2 : decode cX6_gapsOf 2 = .ok (.iconst 0, 1) := by decide +kernel
theorem dX6_gapsOf_3 : decode cX6_gapsOf 3 = .ok (.istore_n 3, 1) := by decide +kernel
theorem dX6_gapsOf_4 : decode cX6_gapsOf 4 = .ok (.iload_n 3, 1) := by decide +kernel
theorem dX6_gapsOf_5 : decode cX6_gapsOf 5 = .ok (.aload_n 0, 1) := by decide +kernel
theorem dX6_gapsOf_6 : decode cX6_gapsOf 6 = .ok (.getfield 7, 3) := by decide +kernel
theorem dX6_gapsOf_9 : decode cX6_gapsOf 9 = .ok (.iconst 0, 1) := by decide +kernel
theorem dX6_gapsOf_10 : decode cX6_gapsOf 10 = .ok (.iaload, 1) := by decide +kernel
theorem dX6_gapsOf_11 : decode cX6_gapsOf 11 = .ok (.if_icmp .ge 34, 3) := by decide +kernel
theorem dX6_gapsOf_14 : decode cX6_gapsOf 14 = .ok (.iload_n 2, 1) := by decide +kernel
theorem dX6_gapsOf_15 : decode cX6_gapsOf 15 = .ok (.aload_n 0, 1) := by decide +kernel
theorem dX6_gapsOf_16 : decode cX6_gapsOf 16 = .ok (.iload_n 3, 1) := by decide +kernel
theorem dX6_gapsOf_17 : decode cX6_gapsOf 17 = .ok (.iload_n 1, 1) := by decide +kernel
theorem dX6_gapsOf_18 : decode cX6_gapsOf 18 = .ok (.invokevirtual 39, 3) := by decide +kernel
theorem dX6_gapsOf_21 : decode cX6_gapsOf 21 = .ok (.ifCond .eq 15, 3) := by decide +kernel
theorem dX6_gapsOf_24 : decode cX6_gapsOf 24 = .ok (.aload_n 0, 1) := by decide +kernel
theorem dX6_gapsOf_25 : decode cX6_gapsOf 25 = .ok (.iload_n 3, 1) := by decide +kernel
theorem dX6_gapsOf_26 : decode cX6_gapsOf 26 = .ok (.invokevirtual 119, 3) := by decide +kernel
theorem dX6_gapsOf_29 : decode cX6_gapsOf 29 = .ok (.ifCond .eq 7, 3) := by decide +kernel
theorem dX6_gapsOf_32 : decode cX6_gapsOf 32 = .ok (.iconst 1, 1) := by decide +kernel
theorem dX6_gapsOf_33 : decode cX6_gapsOf 33 = .ok (.goto 4, 3) := by decide +kernel
theorem dX6_gapsOf_36 : decode cX6_gapsOf 36 = .ok (.iconst 0, 1) := by decide +kernel
theorem dX6_gapsOf_37 : decode cX6_gapsOf 37 = .ok (.iadd, 1) := by decide +kernel
theorem dX6_gapsOf_38 : decode cX6_gapsOf 38 = .ok (.istore_n 2, 1) := by decide +kernel
theorem dX6_gapsOf_39 : decode cX6_gapsOf 39 = .ok (.iinc 3 1, 3) := by decide +kernel
theorem dX6_gapsOf_42 : decode cX6_gapsOf 42 = .ok (.goto (-38), 3) := by decide +kernel
theorem dX6_gapsOf_45 : decode cX6_gapsOf 45 = .ok (.iload_n 2, 1) := by decide +kernel
theorem dX6_gapsOf_46 : decode cX6_gapsOf 46 = .ok (.ireturn, 1) := by decide +kernel
set_option maxRecDepth 20000 in
theorem ggX6_gaps_X6_isKey : GoodIn wsX6_gaps wsX6_isKey := goodIn_r _ [5, 6, 7, 4, 8] (by decide +kernel) (by decide +kernel)
set_option maxRecDepth 20000 in
theorem gX6_gaps_X6_isKey : GoodIn wsX6_gaps (va_wsS RX6 68 yX6_isKey wsX6_isKey) := goodIn_app (goodIn_of _ (by decide +kernel)) ggX6_gaps_X6_isKey
set_option maxRecDepth 20000 in
theorem ggX6_gaps_X6_gapsOf : GoodIn wsX6_gaps wsX6_gapsOf := goodIn_ca (goodIn_r _ [12, 13, 14, 15, 16, 4, 17, 18, 19, 20, 21, 22, 23, 24, 25, 30, 31, 32, 33, 34, 35, 36, 37, 38, 39, 40, 41, 42, 43, 44] (by decide +kernel) (by decide +kernel)) (goodIn_sub (fun _ h => List.mem_cons_of_mem _ (List.mem_append_right _ h)) (by decide +kernel))
set_option maxRecDepth 20000 in
theorem gX6_gaps_X6_gapsOf : GoodIn wsX6_gaps (wsV RX6 122 RX6 yX6_gapsOf wsX6_gapsOf) := goodIn_app (goodIn_of _ (by decide +kernel)) ggX6_gaps_X6_gapsOf
set_option maxRecDepth 20000 in
theorem ggX6_gaps_X6_fails : GoodIn wsX6_gaps wsX6_fails := goodIn_r _ [29, 1, 30, 31, 32, 33, 34, 35, 36, 37, 38, 39, 40, 41, 42, 43, 44] (by decide +kernel) (by decide +kernel)
set_option maxRecDepth 20000 in
theorem gX6_gaps_X6_fails : GoodIn wsX6_gaps (wsV RX6 82 RX6 yX6_fails wsX6_fails) := goodIn_app (goodIn_of _ (by decide +kernel)) ggX6_gaps_X6_fails
theorem dX6_gaps_0 : decode cX6_gaps 0 = .ok (.aload_n 0, 1) := by decide +kernel
theorem dX6_gaps_1 : decode cX6_gaps 1 = .ok (.iconst 0, 1) := by decide +kernel
theorem dX6_gaps_2 : decode cX6_gaps 2 = .ok (.putfield 32, 3) := by decide +kernel
theorem dX6_gaps_5 : decode cX6_gaps 5 = .ok (.iload_n 1, 1) := by decide +kernel
theorem dX6_gaps_6 : decode cX6_gaps 6 = .ok (.invokestatic 68, 3) := by decide +kernel
theorem dX6_gaps_9 : decode cX6_gaps 9 = .ok (.ifCond .eq 11, 3) := by decide +kernel
theorem dX6_gaps_12 : decode cX6_gaps 12 = .ok (.aload_n 0, 1) := by decide +kernel
theorem dX6_gaps_13 : decode cX6_gaps 13 = .ok (.iload_n 1, 1) := by decide +kernel
theorem dX6_gaps_14 : decode cX6_gaps 14 = .ok (.invokevirtual 122, 3) := by decide +kernel
theorem dX6_gaps_17 : decode cX6_gaps 17 = .ok (.goto 8, 3) := by decide +kernel
theorem dX6_gaps_20 : decode cX6_gaps 20 = .ok (.aload_n 0, 1) := by decide +kernel
theorem dX6_gaps_21 : decode cX6_gaps 21 = .ok (.iconst 1, 1) := by decide +kernel
theorem dX6_gaps_22 : decode cX6_gaps 22 = .ok (.invokevirtual 82, 3) := by decide +kernel
theorem dX6_gaps_25 : decode cX6_gaps 25 = .ok (.ireturn, 1) := by decide +kernel
set_option maxRecDepth 20000 in
theorem ggX6_lastOf_X6_following : GoodIn wsX6_lastOf wsX6_following := goodIn_ca (goodIn_r _ [6, 1, 7, 8, 9, 5, 10, 11, 12, 13, 14, 15, 16, 17, 18, 19, 20, 21, 22, 23, 24, 25] (by decide +kernel) (by decide +kernel)) (goodIn_sub (fun _ h => List.mem_cons_of_mem _ (List.mem_append_right _ h)) (by decide +kernel))
set_option maxRecDepth 20000 in
theorem gX6_lastOf_X6_following : GoodIn wsX6_lastOf (wsV RX6 47 RX6 yX6_following wsX6_following) := goodIn_app (goodIn_of _ (by decide +kernel)) ggX6_lastOf_X6_following
theorem dX6_lastOf_0 : decode cX6_lastOf 0 = .ok (.aload_n 0, 1) := by decide +kernel
theorem dX6_lastOf_1 : decode cX6_lastOf 1 = .ok (.aload_n 0, 1) := by decide +kernel
theorem dX6_lastOf_2 : decode cX6_lastOf 2 = .ok (.getfield 7, 3) := by decide +kernel
theorem dX6_lastOf_5 : decode cX6_lastOf 5 = .ok (.bipush 70, 2) := by decide +kernel
theorem dX6_lastOf_7 : decode cX6_lastOf 7 = .ok (.iload_n 1, 1) := by decide +kernel
theorem dX6_lastOf_8 : decode cX6_lastOf 8 = .ok (.iadd, 1) := by decide +kernel
theorem dX6_lastOf_9 : decode cX6_lastOf 9 = .ok (.iaload, 1) := by decide +kernel
theorem dX6_lastOf_10 : decode cX6_lastOf 10 = .ok (.aload_n 0, 1) := by decide +kernel
theorem dX6_lastOf_11 : decode cX6_lastOf 11 = .ok (.getfield 7, 3) := by decide +kernel
theorem dX6_lastOf_14 : decode cX6_lastOf 14 = .ok (.sipush 130, 3) := by decide +kernel
theorem dX6_lastOf_17 : decode cX6_lastOf 17 = .ok (.iload_n 1, 1) := by decide +kernel
theorem dX6_lastOf_18 : decode cX6_lastOf 18 = .ok (.iadd, 1) := by decide +kernel
theorem dX6_lastOf_19 : decode cX6_lastOf 19 = .ok (.iaload, 1) := by decide +kernel
theorem dX6_lastOf_20 : decode cX6_lastOf 20 = .ok (.invokevirtual 47, 3) := by decide +kernel
theorem dX6_lastOf_23 : decode cX6_lastOf 23 = .ok (.istore_n 2, 1) := by decide +kernel
theorem dX6_lastOf_24 : decode cX6_lastOf 24 = .ok (.iload_n 2, 1) := by decide +kernel
theorem dX6_lastOf_25 : decode cX6_lastOf 25 = .ok (.ifCond .lt 16, 3) := by decide +kernel
theorem dX6_lastOf_28 : decode cX6_lastOf 28 = .ok (.aload_n 0, 1) := by decide +kernel
theorem dX6_lastOf_29 : decode cX6_lastOf 29 = .ok (.getfield 7, 3) := by decide +kernel
theorem dX6_lastOf_32 : decode cX6_lastOf 32 = .ok (.sipush 130, 3) := by decide +kernel
theorem dX6_lastOf_35 : decode cX6_lastOf 35 = .ok (.iload_n 2, 1) := by decide +kernel
theorem dX6_lastOf_36 : decode cX6_lastOf 36 = .ok (.iadd, 1) := by decide +kernel
theorem dX6_lastOf_37 : decode cX6_lastOf 37 = .ok (.iaload, 1) := by decide +kernel
theorem dX6_lastOf_38 : decode cX6_lastOf 38 = .ok (.goto 6, 3) := by decide +kernel
theorem dX6_lastOf_41 : decode cX6_lastOf 41 = .ok (.sipush 1000, 3) := by decide +kernel
theorem dX6_lastOf_44 : decode cX6_lastOf 44 = .ok (.iconst 1, 1) := by decide +kernel
theorem dX6_lastOf_45 : decode cX6_lastOf 45 = .ok (.isub, 1) := by decide +kernel
theorem dX6_lastOf_46 : decode cX6_lastOf 46 = .ok (.ireturn, 1) := by decide +kernel
set_option maxRecDepth 20000 in
theorem ggX6_gapDay_X6_isKey : GoodIn wsX6_gapDay wsX6_isKey := goodIn_r _ [6, 7, 8, 5, 9] (by decide +kernel) (by decide +kernel)
set_option maxRecDepth 20000 in
theorem gX6_gapDay_X6_isKey : GoodIn wsX6_gapDay (va_wsS RX6 68 yX6_isKey wsX6_isKey) := goodIn_app (goodIn_of _ (by decide +kernel)) ggX6_gapDay_X6_isKey
set_option maxRecDepth 20000 in
theorem ggX6_gapDay_X6_fails : GoodIn wsX6_gapDay wsX6_fails := goodIn_r _ [13, 1, 42, 43, 44, 45, 46, 47, 48, 49, 50, 51, 52, 53, 54, 55, 56] (by decide +kernel) (by decide +kernel)
set_option maxRecDepth 20000 in
theorem gX6_gapDay_X6_fails : GoodIn wsX6_gapDay (wsV RX6 82 RX6 yX6_fails wsX6_fails) := goodIn_app (goodIn_of _ (by decide +kernel)) ggX6_gapDay_X6_fails
set_option maxRecDepth 20000 in
theorem ggX6_gapDay_X6_many : GoodIn wsX6_gapDay wsX6_many := goodIn_ca (goodIn_r _ [17, 2, 18, 19, 20, 5, 21, 42, 43, 44, 45, 46, 47, 48, 49, 50, 51, 52, 53, 54, 55, 56] (by decide +kernel) (by decide +kernel)) (goodIn_sub (fun _ h => List.mem_cons_of_mem _ (List.mem_append_right _ h)) (by decide +kernel))
set_option maxRecDepth 20000 in
theorem gX6_gapDay_X6_many : GoodIn wsX6_gapDay (wsV RX6 100 RX6 yX6_many wsX6_many) := goodIn_app (goodIn_of _ (by decide +kernel)) ggX6_gapDay_X6_many
set_option maxRecDepth 20000 in
theorem ggX6_gapDay_X6_placed : GoodIn wsX6_gapDay wsX6_placed := goodIn_ca (goodIn_r _ [25, 2, 18, 19, 20, 5, 21, 26, 27, 28, 29, 42, 43, 44, 45, 46, 47, 48, 49, 50, 51, 52, 53, 54, 55, 56] (by decide +kernel) (by decide +kernel)) (goodIn_sub (fun _ h => List.mem_cons_of_mem _ (List.mem_append_right _ h)) (by decide +kernel))
set_option maxRecDepth 20000 in
theorem gX6_gapDay_X6_placed : GoodIn wsX6_gapDay (wsV RX6 103 RX6 yX6_placed wsX6_placed) := goodIn_app (goodIn_of _ (by decide +kernel)) ggX6_gapDay_X6_placed
set_option maxRecDepth 20000 in
theorem ggX6_gapDay_X6_isOpen : GoodIn wsX6_gapDay wsX6_isOpen := goodIn_ca (goodIn_r _ [33, 2, 34, 35, 36, 5, 37, 18, 19, 20, 21, 42, 43, 44, 45, 46, 47, 48, 49, 50, 51, 52, 53, 54, 55, 56] (by decide +kernel) (by decide +kernel)) (goodIn_sub (fun _ h => List.mem_cons_of_mem _ (List.mem_append_right _ h)) (by decide +kernel))
set_option maxRecDepth 20000 in
theorem gX6_gapDay_X6_isOpen : GoodIn wsX6_gapDay (wsV RX6 119 RX6 yX6_isOpen wsX6_isOpen) := goodIn_app (goodIn_of _ (by decide +kernel)) ggX6_gapDay_X6_isOpen
set_option maxRecDepth 20000 in
theorem ggX6_gapDay_X6_lastOf : GoodIn wsX6_gapDay wsX6_lastOf := goodIn_ca (goodIn_r _ [41, 2, 34, 35, 36, 5, 37, 18, 19, 20, 21, 42, 43, 44, 45, 46, 47, 48, 49, 50, 51, 52, 53, 54, 55, 56] (by decide +kernel) (by decide +kernel)) (goodIn_sub (fun _ h => List.mem_cons_of_mem _ (List.mem_append_right _ h)) (by decide +kernel))
set_option maxRecDepth 20000 in
theorem gX6_gapDay_X6_lastOf : GoodIn wsX6_gapDay (wsV RX6 125 RX6 yX6_lastOf wsX6_lastOf) := goodIn_app (goodIn_of _ (by decide +kernel)) ggX6_gapDay_X6_lastOf
theorem dX6_gapDay_0 : decode cX6_gapDay 0 = .ok (.aload_n 0, 1) := by decide +kernel
theorem dX6_gapDay_1 : decode cX6_gapDay 1 = .ok (.iconst 0, 1) := by decide +kernel
theorem dX6_gapDay_2 : decode cX6_gapDay 2 = .ok (.putfield 32, 3) := by decide +kernel
theorem dX6_gapDay_5 : decode cX6_gapDay 5 = .ok (.iload_n 1, 1) := by decide +kernel
theorem dX6_gapDay_6 : decode cX6_gapDay 6 = .ok (.invokestatic 68, 3) := by decide +kernel
theorem dX6_gapDay_9 : decode cX6_gapDay 9 = .ok (.ifCond .ne 9, 3) := by decide +kernel
theorem dX6_gapDay_12 : decode cX6_gapDay 12 = .ok (.aload_n 0, 1) := by decide +kernel
theorem dX6_gapDay_13 : decode cX6_gapDay 13 = .ok (.iconst 1, 1) := by decide +kernel
theorem dX6_gapDay_14 : decode cX6_gapDay 14 = .ok (.invokevirtual 82, 3) := by decide +kernel
theorem dX6_gapDay_17 : decode cX6_gapDay 17 = .ok (.ireturn, 1) := by decide +kernel
theorem dX6_gapDay_18 : decode cX6_gapDay 18 = .ok (.iload_n 2, 1) := by decide +kernel
theorem dX6_gapDay_19 : decode cX6_gapDay 19 = .ok (.istore 4, 2) := by decide +kernel
theorem dX6_gapDay_21 : decode cX6_gapDay 21 = .ok (.iconst 0, 1) := by decide +kernel
theorem dX6_gapDay_22 : decode cX6_gapDay 22 = .ok (.istore 5, 2) := by decide +kernel
theorem dX6_gapDay_24 : decode cX6_gapDay 24 = .ok (.iload 5, 2) := by decide +kernel
theorem dX6_gapDay_26 : decode cX6_gapDay 26 = .ok (.aload_n 0, 1) := by decide +kernel
theorem dX6_gapDay_27 : decode cX6_gapDay 27 = .ok (.iload_n 1, 1) := by decide +kernel
theorem dX6_gapDay_28 : decode cX6_gapDay 28 = .ok (.invokevirtual 100, 3) := by decide +kernel
theorem dX6_gapDay_31 : decode cX6_gapDay 31 = .ok (.if_icmp .ge 80, 3) := by decide +kernel
theorem dX6_gapDay_34 : decode cX6_gapDay 34 = .ok (.iload_n 2, 1) := by decide +kernel
theorem dX6_gapDay_35 : decode cX6_gapDay 35 = .ok (.ifCond .lt 76, 3) := by decide +kernel
theorem dX6_gapDay_38 : decode cX6_gapDay 38 = .ok (.aload_n 0, 1) := by decide +kernel
theorem dX6_gapDay_39 : decode cX6_gapDay 39 = .ok (.iload_n 1, 1) := by decide +kernel
theorem dX6_gapDay_40 : decode cX6_gapDay 40 = .ok (.iload 5, 2) := by decide +kernel
theorem dX6_gapDay_42 : decode cX6_gapDay 42 = .ok (.invokevirtual 103, 3) := by decide +kernel
theorem dX6_gapDay_45 : decode cX6_gapDay 45 = .ok (.istore 6, 2) := by decide +kernel
theorem dX6_gapDay_47 : decode cX6_gapDay 47 = .ok (.aload_n 0, 1) := by decide +kernel
theorem dX6_gapDay_48 : decode cX6_gapDay 48 = .ok (.iload 6, 2) := by decide +kernel
theorem dX6_gapDay_50 : decode cX6_gapDay 50 = .ok (.invokevirtual 119, 3) := by decide +kernel
theorem dX6_gapDay_53 : decode cX6_gapDay 53 = .ok (.ifCond .eq 33, 3) := by decide +kernel
theorem dX6_gapDay_56 : decode cX6_gapDay 56 = .ok (.iload 4, 2) := by decide +kernel
theorem dX6_gapDay_58 : decode cX6_gapDay 58 = .ok (.ifCond .ne 28, 3) := by decide +kernel
theorem dX6_gapDay_61 : decode cX6_gapDay 61 = .ok (.iload_n 3, 1) := by decide +kernel
theorem dX6_gapDay_62 : decode cX6_gapDay 62 = .ok (.ifCond .eq 12, 3) := by decide +kernel
theorem dX6_gapDay_65 : decode cX6_gapDay 65 = .ok (.aload_n 0, 1) := by decide +kernel
theorem dX6_gapDay_66 : decode cX6_gapDay 66 = .ok (.iload 6, 2) := by decide +kernel
theorem dX6_gapDay_68 : decode cX6_gapDay 68 = .ok (.invokevirtual 125, 3) := by decide +kernel
theorem dX6_gapDay_71 : decode cX6_gapDay 71 = .ok (.goto 14, 3) := by decide +kernel
theorem dX6_gapDay_74 : decode cX6_gapDay 74 = .ok (.aload_n 0, 1) := by decide +kernel
theorem dX6_gapDay_75 : decode cX6_gapDay 75 = .ok (.getfield 7, 3) := by decide +kernel
theorem dX6_gapDay_78 : decode cX6_gapDay 78 = .ok (.sipush 190, 3) := by decide +kernel
theorem dX6_gapDay_81 : decode cX6_gapDay 81 = .ok (.iload 6, 2) := by decide +kernel
theorem dX6_gapDay_83 : decode cX6_gapDay 83 = .ok (.iadd, 1) := by decide +kernel
theorem dX6_gapDay_84 : decode cX6_gapDay 84 = .ok (.iaload, 1) := by decide +kernel
theorem dX6_gapDay_85 : decode cX6_gapDay 85 = .ok (.ireturn, 1) := by decide +kernel
theorem dX6_gapDay_86 : decode cX6_gapDay 86 = .ok (.iload 4, 2) := by decide +kernel
theorem dX6_gapDay_88 : decode cX6_gapDay 88 = .ok (.aload_n 0, 1) := by decide +kernel
theorem dX6_gapDay_89 : decode cX6_gapDay 89 = .ok (.iload 6, 2) := by decide +kernel
theorem dX6_gapDay_91 : decode cX6_gapDay 91 = .ok (.invokevirtual 119, 3) := by decide +kernel
theorem dX6_gapDay_94 : decode cX6_gapDay 94 = .ok (.ifCond .eq 7, 3) := by decide +kernel
theorem dX6_gapDay_97 : decode cX6_gapDay 97 = .ok (.iconst 1, 1) := by decide +kernel
theorem dX6_gapDay_98 : decode cX6_gapDay 98 = .ok (.goto 4, 3) := by decide +kernel
theorem dX6_gapDay_101 : decode cX6_gapDay 101 = .ok (.iconst 0, 1) := by decide +kernel
theorem dX6_gapDay_102 : decode cX6_gapDay 102 = .ok (.isub, 1) := by decide +kernel
theorem dX6_gapDay_103 : decode cX6_gapDay 103 = .ok (.istore 4, 2) := by decide +kernel
theorem dX6_gapDay_105 : decode cX6_gapDay 105 = .ok (.iinc 5 1, 3) := by decide +kernel
theorem dX6_gapDay_108 : decode cX6_gapDay 108 = .ok (.goto (-84), 3) := by decide +kernel
theorem dX6_gapDay_111 : decode cX6_gapDay 111 = .ok (.aload_n 0, 1) := by decide +kernel
theorem dX6_gapDay_112 : decode cX6_gapDay 112 = .ok (.iconst 2, 1) := by decide +kernel
theorem dX6_gapDay_113 : decode cX6_gapDay 113 = .ok (.invokevirtual 82, 3) := by decide +kernel
theorem dX6_gapDay_116 : decode cX6_gapDay 116 = .ok (.ireturn, 1) := by decide +kernel
set_option maxRecDepth 20000 in
theorem ggX6_gapDays_X6_lastOf : GoodIn wsX6_gapDays wsX6_lastOf := goodIn_ca (goodIn_r _ [7, 2, 8, 9, 10, 6, 11, 12, 13, 14, 15, 16, 17, 18, 19, 20, 21, 22, 23, 24, 25, 26, 27, 28, 29, 30] (by decide +kernel) (by decide +kernel)) (goodIn_sub (fun _ h => List.mem_cons_of_mem _ (List.mem_append_right _ h)) (by decide +kernel))
set_option maxRecDepth 20000 in
theorem gX6_gapDays_X6_lastOf : GoodIn wsX6_gapDays (wsV RX6 125 RX6 yX6_lastOf wsX6_lastOf) := goodIn_app (goodIn_of _ (by decide +kernel)) ggX6_gapDays_X6_lastOf
theorem dX6_gapDays_0 : decode cX6_gapDays 0 = .ok (.aload_n 0, 1) := by decide +kernel
theorem dX6_gapDays_1 : decode cX6_gapDays 1 = .ok (.iconst 0, 1) := by decide +kernel
theorem dX6_gapDays_2 : decode cX6_gapDays 2 = .ok (.putfield 32, 3) := by decide +kernel
theorem dX6_gapDays_5 : decode cX6_gapDays 5 = .ok (.iconst 0, 1) := by decide +kernel
theorem dX6_gapDays_6 : decode cX6_gapDays 6 = .ok (.istore_n 1, 1) := by decide +kernel
theorem dX6_gapDays_7 : decode cX6_gapDays 7 = .ok (.iconst 0, 1) := by decide +kernel
theorem dX6_gapDays_8 : decode cX6_gapDays 8 = .ok (.istore_n 2, 1) := by decide +kernel
theorem dX6_gapDays_9 : decode cX6_gapDays 9 = .ok (.iload_n 2, 1) := by decide +kernel
theorem dX6_gapDays_10 : decode cX6_gapDays 10 = .ok (.aload_n 0, 1) := by decide +kernel
theorem dX6_gapDays_11 : decode cX6_gapDays 11 = .ok (.getfield 7, 3) := by decide +kernel
theorem dX6_gapDays_14 : decode cX6_gapDays 14 = .ok (.iconst 0, 1) := by decide +kernel
theorem dX6_gapDays_15 : decode cX6_gapDays 15 = .ok (.iaload, 1) := by decide +kernel
theorem dX6_gapDays_16 : decode cX6_gapDays 16 = .ok (.if_icmp .ge 47, 3) := by decide +kernel
theorem dX6_gapDays_19 : decode cX6_gapDays 19 = .ok (.iload_n 1, 1) := by decide +kernel
theorem dX6_gapDays_20 : decode cX6_gapDays 20 = .ok (.aload_n 0, 1) := by decide +kernel
theorem dX6_gapDays_21 : decode cX6_gapDays 21 = .ok (.getfield 7, 3) := by decide +kernel
theorem dX6_gapDays_24 : decode cX6_gapDays 24 = .ok (.bipush 10, 2) := by decide +kernel
theorem dX6_gapDays_26 : decode cX6_gapDays 26 = .ok (.iload_n 2, 1) := by decide +kernel
theorem dX6_gapDays_27 : decode cX6_gapDays 27 = .ok (.iadd, 1) := by decide +kernel
theorem dX6_gapDays_28 : decode cX6_gapDays 28 = .ok (.iaload, 1) := by decide +kernel
theorem dX6_gapDays_29 : decode cX6_gapDays 29 = .ok (.iconst 1, 1) := by decide +kernel
theorem dX6_gapDays_30 : decode cX6_gapDays 30 = .ok (.if_icmp .ne 24, 3) := by decide +kernel
theorem dX6_gapDays_33 : decode cX6_gapDays 33 = .ok (.aload_n 0, 1) := by decide +kernel
theorem dX6_gapDays_34 : decode cX6_gapDays 34 = .ok (.iload_n 2, 1) := by decide +kernel
theorem dX6_gapDays_35 : decode cX6_gapDays 35 = .ok (.invokevirtual 125, 3) := by decide +kernel
theorem dX6_gapDays_38 : decode cX6_gapDays 38 = .ok (.iconst 1, 1) := by decide +kernel
theorem dX6_gapDays_39 : decode cX6_gapDays 39 = .ok (.iadd, 1) := by decide +kernel
theorem dX6_gapDays_40 : decode cX6_gapDays 40 = .ok (.aload_n 0, 1) := by decide +kernel
theorem dX6_gapDays_41 : decode cX6_gapDays 41 = .ok (.getfield 7, 3) := by decide +kernel
theorem dX6_gapDays_44 : decode cX6_gapDays 44 = .ok (.sipush 190, 3) := by decide +kernel
theorem dX6_gapDays_47 : decode cX6_gapDays 47 = .ok (.iload_n 2, 1) := by decide +kernel
theorem dX6_gapDays_48 : decode cX6_gapDays 48 = .ok (.iadd, 1) := by decide +kernel
theorem dX6_gapDays_49 : decode cX6_gapDays 49 = .ok (.iaload, 1) := by decide +kernel
theorem dX6_gapDays_50 : decode cX6_gapDays 50 = .ok (.isub, 1) := by decide +kernel
theorem dX6_gapDays_51 : decode cX6_gapDays 51 = .ok (.goto 4, 3) := by decide +kernel
theorem dX6_gapDays_54 : decode cX6_gapDays 54 = .ok (.iconst 0, 1) := by decide +kernel
theorem dX6_gapDays_55 : decode cX6_gapDays 55 = .ok (.iadd, 1) := by decide +kernel
theorem dX6_gapDays_56 : decode cX6_gapDays 56 = .ok (.istore_n 1, 1) := by decide +kernel
theorem dX6_gapDays_57 : decode cX6_gapDays 57 = .ok (.iinc 2 1, 3) := by decide +kernel
theorem dX6_gapDays_60 : decode cX6_gapDays 60 = .ok (.goto (-51), 3) := by decide +kernel
theorem dX6_gapDays_63 : decode cX6_gapDays 63 = .ok (.iload_n 1, 1) := by decide +kernel
theorem dX6_gapDays_64 : decode cX6_gapDays 64 = .ok (.ireturn, 1) := by decide +kernel
set_option maxRecDepth 20000 in
theorem ggX6_coverage_X6_isKey : GoodIn wsX6_coverage wsX6_isKey := goodIn_r _ [6, 7, 8, 5, 9] (by decide +kernel) (by decide +kernel)
set_option maxRecDepth 20000 in
theorem gX6_coverage_X6_isKey : GoodIn wsX6_coverage (va_wsS RX6 68 yX6_isKey wsX6_isKey) := goodIn_app (goodIn_of _ (by decide +kernel)) ggX6_coverage_X6_isKey
set_option maxRecDepth 20000 in
theorem ggX6_coverage_X6_many : GoodIn wsX6_coverage wsX6_many := goodIn_ca (goodIn_r _ [13, 2, 14, 15, 16, 5, 17, 26, 27, 28, 29, 30, 31, 32, 33, 34, 35, 36, 37, 38, 39, 40] (by decide +kernel) (by decide +kernel)) (goodIn_sub (fun _ h => List.mem_cons_of_mem _ (List.mem_append_right _ h)) (by decide +kernel))
set_option maxRecDepth 20000 in
theorem gX6_coverage_X6_many : GoodIn wsX6_coverage (wsV RX6 100 RX6 yX6_many wsX6_many) := goodIn_app (goodIn_of _ (by decide +kernel)) ggX6_coverage_X6_many
set_option maxRecDepth 20000 in
theorem ggX6_coverage_X6_isOf : GoodIn wsX6_coverage wsX6_isOf := goodIn_ca (goodIn_r _ [17, 2, 26, 27, 28, 29, 30, 31, 32, 33, 34, 35, 36, 37, 38, 39, 40] (by decide +kernel) (by decide +kernel)) (goodIn_sub (fun _ h => List.mem_cons_of_mem _ (List.mem_append_right _ h)) (by decide +kernel))
set_option maxRecDepth 20000 in
theorem gX6_coverage_X6_isOf : GoodIn wsX6_coverage (wsV RX6 39 RX6 yX6_isOf wsX6_isOf) := goodIn_app (goodIn_of _ (by decide +kernel)) ggX6_coverage_X6_isOf
set_option maxRecDepth 20000 in
theorem ggX6_coverage_X6_placed : GoodIn wsX6_coverage wsX6_placed := goodIn_ca (goodIn_r _ [21, 2, 14, 15, 16, 5, 17, 22, 23, 24, 25, 26, 27, 28, 29, 30, 31, 32, 33, 34, 35, 36, 37, 38, 39, 40] (by decide +kernel) (by decide +kernel)) (goodIn_sub (fun _ h => List.mem_cons_of_mem _ (List.mem_append_right _ h)) (by decide +kernel))
set_option maxRecDepth 20000 in
theorem gX6_coverage_X6_placed : GoodIn wsX6_coverage (wsV RX6 103 RX6 yX6_placed wsX6_placed) := goodIn_app (goodIn_of _ (by decide +kernel)) ggX6_coverage_X6_placed
theorem dX6_coverage_0 : decode cX6_coverage 0 = .ok (.aload_n 0, 1) := by decide +kernel
theorem dX6_coverage_1 : decode cX6_coverage 1 = .ok (.iload_n 1, 1) := by decide +kernel
theorem dX6_coverage_2 : decode cX6_coverage 2 = .ok (.invokestatic 68, 3) := by decide +kernel
theorem dX6_coverage_5 : decode cX6_coverage 5 = .ok (.ifCond .eq 19, 3) := by decide +kernel
theorem dX6_coverage_8 : decode cX6_coverage 8 = .ok (.aload_n 0, 1) := by decide +kernel
theorem dX6_coverage_9 : decode cX6_coverage 9 = .ok (.iload_n 1, 1) := by decide +kernel
theorem dX6_coverage_10 : decode cX6_coverage 10 = .ok (.invokevirtual 100, 3) := by decide +kernel
theorem dX6_coverage_13 : decode cX6_coverage 13 = .ok (.ifCond .ne 7, 3) := by decide +kernel
theorem dX6_coverage_16 : decode cX6_coverage 16 = .ok (.iconst 2, 1) := by decide +kernel
theorem dX6_coverage_17 : decode cX6_coverage 17 = .ok (.goto 8, 3) := by decide +kernel
theorem dX6_coverage_20 : decode cX6_coverage 20 = .ok (.iconst 0, 1) := by decide +kernel
theorem dX6_coverage_21 : decode cX6_coverage 21 = .ok (.goto 4, 3) := by decide +kernel
theorem dX6_coverage_24 : decode cX6_coverage 24 = .ok (.iconst 1, 1) := by decide +kernel
theorem dX6_coverage_25 : decode cX6_coverage 25 = .ok (.putfield 32, 3) := by decide +kernel
theorem dX6_coverage_28 : decode cX6_coverage 28 = .ok (.aload_n 0, 1) := by decide +kernel
theorem dX6_coverage_29 : decode cX6_coverage 29 = .ok (.getfield 32, 3) := by decide +kernel
theorem dX6_coverage_32 : decode cX6_coverage 32 = .ok (.ifCond .le 5, 3) := by decide +kernel
theorem dX6_coverage_35 : decode cX6_coverage 35 = .ok (.dconst 0, 1) := by decide +kernel
theorem dX6_coverage_36 : decode cX6_coverage 36 = .ok (.dreturn, 1) := by decide +kernel
theorem dX6_coverage_37 : decode cX6_coverage 37 = .ok (.iconst 0, 1) := by decide +kernel
theorem dX6_coverage_38 : decode cX6_coverage 38 = .ok (.istore_n 2, 1) := by decide +kernel
theorem dX6_coverage_39 : decode cX6_coverage 39 = .ok (.iconst 0, 1) := by decide +kernel
theorem dX6_coverage_40 : decode cX6_coverage 40 = .ok (.istore_n 3, 1) := by decide +kernel
theorem dX6_coverage_41 : decode cX6_coverage 41 = .ok (.iload_n 3, 1) := by decide +kernel
theorem dX6_coverage_42 : decode cX6_coverage 42 = .ok (.aload_n 0, 1) := by decide +kernel
theorem dX6_coverage_43 : decode cX6_coverage 43 = .ok (.getfield 7, 3) := by decide +kernel
theorem dX6_coverage_46 : decode cX6_coverage 46 = .ok (.iconst 0, 1) := by decide +kernel
theorem dX6_coverage_47 : decode cX6_coverage 47 = .ok (.iaload, 1) := by decide +kernel
theorem dX6_coverage_48 : decode cX6_coverage 48 = .ok (.if_icmp .ge 46, 3) := by decide +kernel
theorem dX6_coverage_51 : decode cX6_coverage 51 = .ok (.iload_n 2, 1) := by decide +kernel
theorem dX6_coverage_52 : decode cX6_coverage 52 = .ok (.aload_n 0, 1) := by decide +kernel
theorem dX6_coverage_53 : decode cX6_coverage 53 = .ok (.iload_n 3, 1) := by decide +kernel
theorem dX6_coverage_54 : decode cX6_coverage 54 = .ok (.iload_n 1, 1) := by decide +kernel
theorem dX6_coverage_55 : decode cX6_coverage 55 = .ok (.invokevirtual 39, 3) := by decide +kernel
theorem dX6_coverage_58 : decode cX6_coverage 58 = .ok (.ifCond .eq 27, 3) := by decide +kernel
theorem dX6_coverage_61 : decode cX6_coverage 61 = .ok (.aload_n 0, 1) := by decide +kernel
theorem dX6_coverage_62 : decode cX6_coverage 62 = .ok (.getfield 7, 3) := by decide +kernel
theorem dX6_coverage_65 : decode cX6_coverage 65 = .ok (.sipush 190, 3) := by decide +kernel
theorem dX6_coverage_68 : decode cX6_coverage 68 = .ok (.iload_n 3, 1) := by decide +kernel
theorem dX6_coverage_69 : decode cX6_coverage 69 = .ok (.iadd, 1) := by decide +kernel
theorem dX6_coverage_70 : decode cX6_coverage 70 = .ok (.iaload, 1) := by decide +kernel
theorem dX6_coverage_71 : decode cX6_coverage 71 = .ok (.aload_n 0, 1) := by decide +kernel
theorem dX6_coverage_72 : decode cX6_coverage 72 = .ok (.getfield 7, 3) := by decide +kernel
theorem dX6_coverage_75 : decode cX6_coverage 75 = .ok (.sipush 130, 3) := by decide +kernel
theorem dX6_coverage_78 : decode cX6_coverage 78 = .ok (.iload_n 3, 1) := by decide +kernel
theorem dX6_coverage_79 : decode cX6_coverage 79 = .ok (.iadd, 1) := by decide +kernel
theorem dX6_coverage_80 : decode cX6_coverage 80 = .ok (.iaload, 1) := by decide +kernel
theorem dX6_coverage_81 : decode cX6_coverage 81 = .ok (.isub, 1) := by decide +kernel
theorem dX6_coverage_82 : decode cX6_coverage 82 = .ok (.goto 4, 3) := by decide +kernel
theorem dX6_coverage_85 : decode cX6_coverage 85 = .ok (.iconst 0, 1) := by decide +kernel
theorem dX6_coverage_86 : decode cX6_coverage 86 = .ok (.iadd, 1) := by decide +kernel
theorem dX6_coverage_87 : decode cX6_coverage 87 = .ok (.istore_n 2, 1) := by decide +kernel
theorem dX6_coverage_88 : decode cX6_coverage 88 = .ok (.iinc 3 1, 3) := by decide +kernel
theorem dX6_coverage_91 : decode cX6_coverage 91 = .ok (.goto (-50), 3) := by decide +kernel
theorem dX6_coverage_94 : decode cX6_coverage 94 = .ok (.iload_n 2, 1) := by decide +kernel
theorem dX6_coverage_95 : decode cX6_coverage 95 = .ok (.i2d, 1) := by decide +kernel
theorem dX6_coverage_96 : decode cX6_coverage 96 = .ok (.sipush 1000, 3) := by decide +kernel
theorem dX6_coverage_99 : decode cX6_coverage 99 = .ok (.aload_n 0, 1) := by decide +kernel
theorem dX6_coverage_100 : decode cX6_coverage 100 = .ok (.getfield 7, 3) := by decide +kernel
theorem dX6_coverage_103 : decode cX6_coverage 103 = .ok (.sipush 130, 3) := by decide +kernel
theorem dX6_coverage_106 : decode cX6_coverage 106 = .ok (.aload_n 0, 1) := by decide +kernel
theorem dX6_coverage_107 : decode cX6_coverage 107 = .ok (.iload_n 1, 1) := by decide +kernel
theorem dX6_coverage_108 : decode cX6_coverage 108 = .ok (.iconst 0, 1) := by decide +kernel
theorem dX6_coverage_109 : decode cX6_coverage 109 = .ok (.invokevirtual 103, 3) := by decide +kernel
theorem dX6_coverage_112 : decode cX6_coverage 112 = .ok (.iadd, 1) := by decide +kernel
theorem dX6_coverage_113 : decode cX6_coverage 113 = .ok (.iaload, 1) := by decide +kernel
theorem dX6_coverage_114 : decode cX6_coverage 114 = .ok (.isub, 1) := by decide +kernel
theorem dX6_coverage_115 : decode cX6_coverage 115 = .ok (.i2d, 1) := by decide +kernel
theorem dX6_coverage_116 : decode cX6_coverage 116 = .ok (.ddiv, 1) := by decide +kernel
theorem dX6_coverage_117 : decode cX6_coverage 117 = .ok (.dreturn, 1) := by decide +kernel
set_option maxRecDepth 20000 in
theorem ggX6_isCovered_X6_isKey : GoodIn wsX6_isCovered wsX6_isKey := goodIn_r _ [6, 7, 8, 5, 9] (by decide +kernel) (by decide +kernel)
set_option maxRecDepth 20000 in
theorem gX6_isCovered_X6_isKey : GoodIn wsX6_isCovered (va_wsS RX6 68 yX6_isKey wsX6_isKey) := goodIn_app (goodIn_of _ (by decide +kernel)) ggX6_isCovered_X6_isKey
set_option maxRecDepth 20000 in
theorem ggX6_isCovered_X6_isDay : GoodIn wsX6_isCovered wsX6_isDay := goodIn_r _ [12, 7, 8, 5, 9] (by decide +kernel) (by decide +kernel)
set_option maxRecDepth 20000 in
theorem gX6_isCovered_X6_isDay : GoodIn wsX6_isCovered (va_wsS RX6 72 yX6_isDay wsX6_isDay) := goodIn_app (goodIn_of _ (by decide +kernel)) ggX6_isCovered_X6_isDay
set_option maxRecDepth 20000 in
theorem ggX6_isCovered_X6_valid : GoodIn wsX6_isCovered wsX6_valid := goodIn_ca (goodIn_r _ [16, 2, 17, 18, 19, 5, 20, 7, 8, 9, 21, 22, 23, 24, 25, 26, 27, 28, 29, 30, 31, 32, 33, 34, 35] (by decide +kernel) (by decide +kernel)) (goodIn_sub (fun _ h => List.mem_cons_of_mem _ (List.mem_append_right _ h)) (by decide +kernel))
set_option maxRecDepth 20000 in
theorem gX6_isCovered_X6_valid : GoodIn wsX6_isCovered (wsV RX6 43 RX6 yX6_valid wsX6_valid) := goodIn_app (goodIn_of _ (by decide +kernel)) ggX6_isCovered_X6_valid
theorem dX6_isCovered_0 : decode cX6_isCovered 0 = .ok (.aload_n 0, 1) := by decide +kernel
theorem dX6_isCovered_1 : decode cX6_isCovered 1 = .ok (.iload_n 1, 1) := by decide +kernel
theorem dX6_isCovered_2 : decode cX6_isCovered 2 = .ok (.invokestatic 68, 3) := by decide +kernel
theorem dX6_isCovered_5 : decode cX6_isCovered 5 = .ok (.ifCond .eq 25, 3) := by decide +kernel
theorem dX6_isCovered_8 : decode cX6_isCovered 8 = .ok (.iload_n 2, 1) := by decide +kernel
theorem dX6_isCovered_9 : decode cX6_isCovered 9 = .ok (.invokestatic 72, 3) := by decide +kernel
theorem dX6_isCovered_12 : decode cX6_isCovered 12 = .ok (.ifCond .eq 14, 3) := by decide +kernel
theorem dX6_isCovered_15 : decode cX6_isCovered 15 = .ok (.iload_n 3, 1) := by decide +kernel
theorem dX6_isCovered_16 : decode cX6_isCovered 16 = .ok (.invokestatic 72, 3) := by decide +kernel
theorem dX6_isCovered_19 : decode cX6_isCovered 19 = .ok (.ifCond .eq 7, 3) := by decide +kernel
theorem dX6_isCovered_22 : decode cX6_isCovered 22 = .ok (.iconst 0, 1) := by decide +kernel
theorem dX6_isCovered_23 : decode cX6_isCovered 23 = .ok (.goto 8, 3) := by decide +kernel
theorem dX6_isCovered_26 : decode cX6_isCovered 26 = .ok (.iconst 2, 1) := by decide +kernel
theorem dX6_isCovered_27 : decode cX6_isCovered 27 = .ok (.goto 4, 3) := by decide +kernel
theorem dX6_isCovered_30 : decode cX6_isCovered 30 = .ok (.iconst 1, 1) := by decide +kernel
theorem dX6_isCovered_31 : decode cX6_isCovered 31 = .ok (.putfield 32, 3) := by decide +kernel
theorem dX6_isCovered_34 : decode cX6_isCovered 34 = .ok (.aload_n 0, 1) := by decide +kernel
theorem dX6_isCovered_35 : decode cX6_isCovered 35 = .ok (.getfield 32, 3) := by decide +kernel
theorem dX6_isCovered_38 : decode cX6_isCovered 38 = .ok (.ifCond .le 5, 3) := by decide +kernel
theorem dX6_isCovered_41 : decode cX6_isCovered 41 = .ok (.iconst 0, 1) := by decide +kernel
theorem dX6_isCovered_42 : decode cX6_isCovered 42 = .ok (.ireturn, 1) := by decide +kernel
theorem dX6_isCovered_43 : decode cX6_isCovered 43 = .ok (.iload_n 2, 1) := by decide +kernel
theorem dX6_isCovered_44 : decode cX6_isCovered 44 = .ok (.istore 4, 2) := by decide +kernel
theorem dX6_isCovered_46 : decode cX6_isCovered 46 = .ok (.iload 4, 2) := by decide +kernel
theorem dX6_isCovered_48 : decode cX6_isCovered 48 = .ok (.iload_n 3, 1) := by decide +kernel
theorem dX6_isCovered_49 : decode cX6_isCovered 49 = .ok (.if_icmp .gt 34, 3) := by decide +kernel
theorem dX6_isCovered_52 : decode cX6_isCovered 52 = .ok (.aload_n 0, 1) := by decide +kernel
theorem dX6_isCovered_53 : decode cX6_isCovered 53 = .ok (.iload_n 1, 1) := by decide +kernel
theorem dX6_isCovered_54 : decode cX6_isCovered 54 = .ok (.iload 4, 2) := by decide +kernel
theorem dX6_isCovered_56 : decode cX6_isCovered 56 = .ok (.invokevirtual 43, 3) := by decide +kernel
theorem dX6_isCovered_59 : decode cX6_isCovered 59 = .ok (.ifCond .lt 24, 3) := by decide +kernel
theorem dX6_isCovered_62 : decode cX6_isCovered 62 = .ok (.aload_n 0, 1) := by decide +kernel
theorem dX6_isCovered_63 : decode cX6_isCovered 63 = .ok (.getfield 7, 3) := by decide +kernel
theorem dX6_isCovered_66 : decode cX6_isCovered 66 = .ok (.sipush 190, 3) := by decide +kernel
theorem dX6_isCovered_69 : decode cX6_isCovered 69 = .ok (.aload_n 0, 1) := by decide +kernel
theorem dX6_isCovered_70 : decode cX6_isCovered 70 = .ok (.iload_n 1, 1) := by decide +kernel
theorem dX6_isCovered_71 : decode cX6_isCovered 71 = .ok (.iload 4, 2) := by decide +kernel
theorem dX6_isCovered_73 : decode cX6_isCovered 73 = .ok (.invokevirtual 43, 3) := by decide +kernel
theorem dX6_isCovered_76 : decode cX6_isCovered 76 = .ok (.iadd, 1) := by decide +kernel
theorem dX6_isCovered_77 : decode cX6_isCovered 77 = .ok (.iaload, 1) := by decide +kernel
theorem dX6_isCovered_78 : decode cX6_isCovered 78 = .ok (.istore 4, 2) := by decide +kernel
theorem dX6_isCovered_80 : decode cX6_isCovered 80 = .ok (.goto (-34), 3) := by decide +kernel
theorem dX6_isCovered_83 : decode cX6_isCovered 83 = .ok (.iload 4, 2) := by decide +kernel
theorem dX6_isCovered_85 : decode cX6_isCovered 85 = .ok (.iload_n 3, 1) := by decide +kernel
theorem dX6_isCovered_86 : decode cX6_isCovered 86 = .ok (.if_icmp .le 7, 3) := by decide +kernel
theorem dX6_isCovered_89 : decode cX6_isCovered 89 = .ok (.iconst 1, 1) := by decide +kernel
theorem dX6_isCovered_90 : decode cX6_isCovered 90 = .ok (.goto 4, 3) := by decide +kernel
theorem dX6_isCovered_93 : decode cX6_isCovered 93 = .ok (.iconst 0, 1) := by decide +kernel
theorem dX6_isCovered_94 : decode cX6_isCovered 94 = .ok (.ireturn, 1) := by decide +kernel
set_option maxRecDepth 20000 in
theorem ggX6_stage_X6_isKey : GoodIn wsX6_stage wsX6_isKey := goodIn_r _ [6, 7, 8, 5, 9] (by decide +kernel) (by decide +kernel)
set_option maxRecDepth 20000 in
theorem gX6_stage_X6_isKey : GoodIn wsX6_stage (va_wsS RX6 68 yX6_isKey wsX6_isKey) := goodIn_app (goodIn_of _ (by decide +kernel)) ggX6_stage_X6_isKey
set_option maxRecDepth 20000 in
theorem ggX6_stage_X6_isDay : GoodIn wsX6_stage wsX6_isDay := goodIn_r _ [12, 7, 8, 5, 9] (by decide +kernel) (by decide +kernel)
set_option maxRecDepth 20000 in
theorem gX6_stage_X6_isDay : GoodIn wsX6_stage (va_wsS RX6 72 yX6_isDay wsX6_isDay) := goodIn_app (goodIn_of _ (by decide +kernel)) ggX6_stage_X6_isDay
theorem dX6_stage_0 : decode cX6_stage 0 = .ok (.aload_n 0, 1) := by decide +kernel
theorem dX6_stage_1 : decode cX6_stage 1 = .ok (.iload_n 1, 1) := by decide +kernel
theorem dX6_stage_2 : decode cX6_stage 2 = .ok (.invokestatic 68, 3) := by decide +kernel
theorem dX6_stage_5 : decode cX6_stage 5 = .ok (.ifCond .eq 33, 3) := by decide +kernel
theorem dX6_stage_8 : decode cX6_stage 8 = .ok (.iload_n 2, 1) := by decide +kernel
theorem dX6_stage_9 : decode cX6_stage 9 = .ok (.invokestatic 72, 3) := by decide +kernel
theorem dX6_stage_12 : decode cX6_stage 12 = .ok (.ifCond .eq 22, 3) := by decide +kernel
theorem dX6_stage_15 : decode cX6_stage 15 = .ok (.aload_n 0, 1) := by decide +kernel
theorem dX6_stage_16 : decode cX6_stage 16 = .ok (.getfield 7, 3) := by decide +kernel
theorem dX6_stage_19 : decode cX6_stage 19 = .ok (.iconst 2, 1) := by decide +kernel
theorem dX6_stage_20 : decode cX6_stage 20 = .ok (.iaload, 1) := by decide +kernel
theorem dX6_stage_21 : decode cX6_stage 21 = .ok (.bipush 20, 2) := by decide +kernel
theorem dX6_stage_23 : decode cX6_stage 23 = .ok (.if_icmp .ne 7, 3) := by decide +kernel
theorem dX6_stage_26 : decode cX6_stage 26 = .ok (.iconst 3, 1) := by decide +kernel
theorem dX6_stage_27 : decode cX6_stage 27 = .ok (.goto 12, 3) := by decide +kernel
theorem dX6_stage_30 : decode cX6_stage 30 = .ok (.iconst 0, 1) := by decide +kernel
theorem dX6_stage_31 : decode cX6_stage 31 = .ok (.goto 8, 3) := by decide +kernel
theorem dX6_stage_34 : decode cX6_stage 34 = .ok (.iconst 2, 1) := by decide +kernel
theorem dX6_stage_35 : decode cX6_stage 35 = .ok (.goto 4, 3) := by decide +kernel
theorem dX6_stage_38 : decode cX6_stage 38 = .ok (.iconst 1, 1) := by decide +kernel
theorem dX6_stage_39 : decode cX6_stage 39 = .ok (.putfield 32, 3) := by decide +kernel
theorem dX6_stage_42 : decode cX6_stage 42 = .ok (.aload_n 0, 1) := by decide +kernel
theorem dX6_stage_43 : decode cX6_stage 43 = .ok (.getfield 32, 3) := by decide +kernel
theorem dX6_stage_46 : decode cX6_stage 46 = .ok (.ifCond .le 5, 3) := by decide +kernel
theorem dX6_stage_49 : decode cX6_stage 49 = .ok (.iconst 0, 1) := by decide +kernel
theorem dX6_stage_50 : decode cX6_stage 50 = .ok (.ireturn, 1) := by decide +kernel
theorem dX6_stage_51 : decode cX6_stage 51 = .ok (.aload_n 0, 1) := by decide +kernel
theorem dX6_stage_52 : decode cX6_stage 52 = .ok (.getfield 7, 3) := by decide +kernel
theorem dX6_stage_55 : decode cX6_stage 55 = .ok (.iconst 2, 1) := by decide +kernel
theorem dX6_stage_56 : decode cX6_stage 56 = .ok (.iaload, 1) := by decide +kernel
theorem dX6_stage_57 : decode cX6_stage 57 = .ok (.istore 4, 2) := by decide +kernel
theorem dX6_stage_59 : decode cX6_stage 59 = .ok (.aload_n 0, 1) := by decide +kernel
theorem dX6_stage_60 : decode cX6_stage 60 = .ok (.getfield 7, 3) := by decide +kernel
theorem dX6_stage_63 : decode cX6_stage 63 = .ok (.iconst 2, 1) := by decide +kernel
theorem dX6_stage_64 : decode cX6_stage 64 = .ok (.dup2, 1) := by decide +kernel
theorem dX6_stage_65 : decode cX6_stage 65 = .ok (.iaload, 1) := by decide +kernel
theorem dX6_stage_66 : decode cX6_stage 66 = .ok (.iconst 1, 1) := by decide +kernel
theorem dX6_stage_67 : decode cX6_stage 67 = .ok (.iadd, 1) := by decide +kernel
theorem dX6_stage_68 : decode cX6_stage 68 = .ok (.iastore, 1) := by decide +kernel
theorem dX6_stage_69 : decode cX6_stage 69 = .ok (.aload_n 0, 1) := by decide +kernel
theorem dX6_stage_70 : decode cX6_stage 70 = .ok (.getfield 7, 3) := by decide +kernel
theorem dX6_stage_73 : decode cX6_stage 73 = .ok (.sipush 550, 3) := by decide +kernel
theorem dX6_stage_76 : decode cX6_stage 76 = .ok (.iload 4, 2) := by decide +kernel
theorem dX6_stage_78 : decode cX6_stage 78 = .ok (.iadd, 1) := by decide +kernel
theorem dX6_stage_79 : decode cX6_stage 79 = .ok (.iload_n 1, 1) := by decide +kernel
theorem dX6_stage_80 : decode cX6_stage 80 = .ok (.iastore, 1) := by decide +kernel
theorem dX6_stage_81 : decode cX6_stage 81 = .ok (.aload_n 0, 1) := by decide +kernel
theorem dX6_stage_82 : decode cX6_stage 82 = .ok (.getfield 7, 3) := by decide +kernel
theorem dX6_stage_85 : decode cX6_stage 85 = .ok (.sipush 570, 3) := by decide +kernel
theorem dX6_stage_88 : decode cX6_stage 88 = .ok (.iload 4, 2) := by decide +kernel
theorem dX6_stage_90 : decode cX6_stage 90 = .ok (.iadd, 1) := by decide +kernel
theorem dX6_stage_91 : decode cX6_stage 91 = .ok (.iload_n 2, 1) := by decide +kernel
theorem dX6_stage_92 : decode cX6_stage 92 = .ok (.iastore, 1) := by decide +kernel
theorem dX6_stage_93 : decode cX6_stage 93 = .ok (.aload_n 0, 1) := by decide +kernel
theorem dX6_stage_94 : decode cX6_stage 94 = .ok (.getfield 7, 3) := by decide +kernel
theorem dX6_stage_97 : decode cX6_stage 97 = .ok (.sipush 590, 3) := by decide +kernel
theorem dX6_stage_100 : decode cX6_stage 100 = .ok (.iload 4, 2) := by decide +kernel
theorem dX6_stage_102 : decode cX6_stage 102 = .ok (.iadd, 1) := by decide +kernel
theorem dX6_stage_103 : decode cX6_stage 103 = .ok (.iload_n 3, 1) := by decide +kernel
theorem dX6_stage_104 : decode cX6_stage 104 = .ok (.iastore, 1) := by decide +kernel
theorem dX6_stage_105 : decode cX6_stage 105 = .ok (.aload_n 0, 1) := by decide +kernel
theorem dX6_stage_106 : decode cX6_stage 106 = .ok (.getfield 7, 3) := by decide +kernel
theorem dX6_stage_109 : decode cX6_stage 109 = .ok (.iconst 2, 1) := by decide +kernel
theorem dX6_stage_110 : decode cX6_stage 110 = .ok (.iaload, 1) := by decide +kernel
theorem dX6_stage_111 : decode cX6_stage 111 = .ok (.ireturn, 1) := by decide +kernel
theorem dX6_staged_0 : decode cX6_staged 0 = .ok (.aload_n 0, 1) := by decide +kernel
theorem dX6_staged_1 : decode cX6_staged 1 = .ok (.iconst 0, 1) := by decide +kernel
theorem dX6_staged_2 : decode cX6_staged 2 = .ok (.putfield 32, 3) := by decide +kernel
theorem dX6_staged_5 : decode cX6_staged 5 = .ok (.aload_n 0, 1) := by decide +kernel
theorem dX6_staged_6 : decode cX6_staged 6 = .ok (.getfield 7, 3) := by decide +kernel
theorem dX6_staged_9 : decode cX6_staged 9 = .ok (.iconst 2, 1) := by decide +kernel
theorem dX6_staged_10 : decode cX6_staged 10 = .ok (.iaload, 1) := by decide +kernel
theorem dX6_staged_11 : decode cX6_staged 11 = .ok (.ireturn, 1) := by decide +kernel
theorem dX6_firstRow_0 : decode cX6_firstRow 0 = .ok (.iconst 0, 1) := by decide +kernel
theorem dX6_firstRow_1 : decode cX6_firstRow 1 = .ok (.istore_n 1, 1) := by decide +kernel
theorem dX6_firstRow_2 : decode cX6_firstRow 2 = .ok (.iconst 1, 1) := by decide +kernel
theorem dX6_firstRow_3 : decode cX6_firstRow 3 = .ok (.istore_n 2, 1) := by decide +kernel
theorem dX6_firstRow_4 : decode cX6_firstRow 4 = .ok (.iload_n 2, 1) := by decide +kernel
theorem dX6_firstRow_5 : decode cX6_firstRow 5 = .ok (.aload_n 0, 1) := by decide +kernel
theorem dX6_firstRow_6 : decode cX6_firstRow 6 = .ok (.getfield 7, 3) := by decide +kernel
theorem dX6_firstRow_9 : decode cX6_firstRow 9 = .ok (.iconst 2, 1) := by decide +kernel
theorem dX6_firstRow_10 : decode cX6_firstRow 10 = .ok (.iaload, 1) := by decide +kernel
theorem dX6_firstRow_11 : decode cX6_firstRow 11 = .ok (.if_icmp .ge 94, 3) := by decide +kernel
theorem dX6_firstRow_14 : decode cX6_firstRow 14 = .ok (.aload_n 0, 1) := by decide +kernel
theorem dX6_firstRow_15 : decode cX6_firstRow 15 = .ok (.getfield 7, 3) := by decide +kernel
theorem dX6_firstRow_18 : decode cX6_firstRow 18 = .ok (.sipush 570, 3) := by decide +kernel
theorem dX6_firstRow_21 : decode cX6_firstRow 21 = .ok (.iload_n 2, 1) := by decide +kernel
theorem dX6_firstRow_22 : decode cX6_firstRow 22 = .ok (.iadd, 1) := by decide +kernel
theorem dX6_firstRow_23 : decode cX6_firstRow 23 = .ok (.iaload, 1) := by decide +kernel
theorem dX6_firstRow_24 : decode cX6_firstRow 24 = .ok (.aload_n 0, 1) := by decide +kernel
theorem dX6_firstRow_25 : decode cX6_firstRow 25 = .ok (.getfield 7, 3) := by decide +kernel
theorem dX6_firstRow_28 : decode cX6_firstRow 28 = .ok (.sipush 570, 3) := by decide +kernel
theorem dX6_firstRow_31 : decode cX6_firstRow 31 = .ok (.iload_n 1, 1) := by decide +kernel
theorem dX6_firstRow_32 : decode cX6_firstRow 32 = .ok (.iadd, 1) := by decide +kernel
theorem dX6_firstRow_33 : decode cX6_firstRow 33 = .ok (.iaload, 1) := by decide +kernel
theorem dX6_firstRow_34 : decode cX6_firstRow 34 = .ok (.if_icmp .lt 49, 3) := by decide +kernel
theorem dX6_firstRow_37 : decode cX6_firstRow 37 = .ok (.aload_n 0, 1) := by decide +kernel
theorem dX6_firstRow_38 : decode cX6_firstRow 38 = .ok (.getfield 7, 3) := by decide +kernel
theorem dX6_firstRow_41 : decode cX6_firstRow 41 = .ok (.sipush 570, 3) := by decide +kernel
theorem dX6_firstRow_44 : decode cX6_firstRow 44 = .ok (.iload_n 2, 1) := by decide +kernel
theorem dX6_firstRow_45 : decode cX6_firstRow 45 = .ok (.iadd, 1) := by decide +kernel
theorem dX6_firstRow_46 : decode cX6_firstRow 46 = .ok (.iaload, 1) := by decide +kernel
theorem dX6_firstRow_47 : decode cX6_firstRow 47 = .ok (.aload_n 0, 1) := by decide +kernel
theorem dX6_firstRow_48 : decode cX6_firstRow 48 = .ok (.getfield 7, 3) := by decide +kernel
theorem dX6_firstRow_51 : decode cX6_firstRow 51 = .ok (.sipush 570, 3) := by decide +kernel
theorem dX6_firstRow_54 : decode cX6_firstRow 54 = .ok (.iload_n 1, 1) := by decide +kernel
theorem dX6_firstRow_55 : decode cX6_firstRow 55 = .ok (.iadd, 1) := by decide +kernel
theorem dX6_firstRow_56 : decode cX6_firstRow 56 = .ok (.iaload, 1) := by decide +kernel
theorem dX6_firstRow_57 : decode cX6_firstRow 57 = .ok (.if_icmp .ne 30, 3) := by decide +kernel
theorem dX6_firstRow_60 : decode cX6_firstRow 60 = .ok (.aload_n 0, 1) := by decide +kernel
theorem dX6_firstRow_61 : decode cX6_firstRow 61 = .ok (.getfield 7, 3) := by decide +kernel
theorem dX6_firstRow_64 : decode cX6_firstRow 64 = .ok (.sipush 550, 3) := by decide +kernel
theorem dX6_firstRow_67 : decode cX6_firstRow 67 = .ok (.iload_n 2, 1) := by decide +kernel
theorem dX6_firstRow_68 : decode cX6_firstRow 68 = .ok (.iadd, 1) := by decide +kernel
theorem dX6_firstRow_69 : decode cX6_firstRow 69 = .ok (.iaload, 1) := by decide +kernel
theorem dX6_firstRow_70 : decode cX6_firstRow 70 = .ok (.aload_n 0, 1) := by decide +kernel
theorem dX6_firstRow_71 : decode cX6_firstRow 71 = .ok (.getfield 7, 3) := by decide +kernel
theorem dX6_firstRow_74 : decode cX6_firstRow 74 = .ok (.sipush 550, 3) := by decide +kernel
theorem dX6_firstRow_77 : decode cX6_firstRow 77 = .ok (.iload_n 1, 1) := by decide +kernel
theorem dX6_firstRow_78 : decode cX6_firstRow 78 = .ok (.iadd, 1) := by decide +kernel
theorem dX6_firstRow_79 : decode cX6_firstRow 79 = .ok (.iaload, 1) := by decide +kernel
theorem dX6_firstRow_80 : decode cX6_firstRow 80 = .ok (.if_icmp .ge 7, 3) := by decide +kernel
theorem dX6_firstRow_83 : decode cX6_firstRow 83 = .ok (.iconst 1, 1) := by decide +kernel
theorem dX6_firstRow_84 : decode cX6_firstRow 84 = .ok (.goto 4, 3) := by decide +kernel
theorem dX6_firstRow_87 : decode cX6_firstRow 87 = .ok (.iconst 0, 1) := by decide +kernel
theorem dX6_firstRow_88 : decode cX6_firstRow 88 = .ok (.istore_n 3, 1) := by decide +kernel
theorem dX6_firstRow_89 : decode cX6_firstRow 89 = .ok (.iload_n 3, 1) := by decide +kernel
theorem dX6_firstRow_90 : decode cX6_firstRow 90 = .ok (.ifCond .eq 7, 3) := by decide +kernel
theorem dX6_firstRow_93 : decode cX6_firstRow 93 = .ok (.iload_n 2, 1) := by decide +kernel
theorem dX6_firstRow_94 : decode cX6_firstRow 94 = .ok (.goto 4, 3) := by decide +kernel
theorem dX6_firstRow_97 : decode cX6_firstRow 97 = .ok (.iload_n 1, 1) := by decide +kernel
theorem dX6_firstRow_98 : decode cX6_firstRow 98 = .ok (.istore_n 1, 1) := by decide +kernel
theorem dX6_firstRow_99 : decode cX6_firstRow 99 = .ok (.iinc 2 1, 3) := by decide +kernel
theorem dX6_firstRow_102 : decode cX6_firstRow 102 = .ok (.goto (-98), 3) := by decide +kernel
theorem dX6_firstRow_105 : decode cX6_firstRow 105 = .ok (.iload_n 1, 1) := by decide +kernel
theorem dX6_firstRow_106 : decode cX6_firstRow 106 = .ok (.ireturn, 1) := by decide +kernel
set_option maxRecDepth 20000 in
theorem ggX6_nextRow_X6_in : GoodIn wsX6_nextRow wsX6_in := goodIn_r _ [6] (by decide +kernel) (by decide +kernel)
set_option maxRecDepth 20000 in
theorem gX6_nextRow_X6_in : GoodIn wsX6_nextRow (va_wsS RX6 35 yX6_in wsX6_in) := goodIn_app (goodIn_of _ (by decide +kernel)) ggX6_nextRow_X6_in
set_option maxRecDepth 20000 in
theorem ggX6_nextRow_X6_firstRow : GoodIn wsX6_nextRow wsX6_firstRow := goodIn_ca (goodIn_r _ [10, 1, 11, 12, 13, 14, 15, 16, 17, 18, 19, 20, 21, 22, 23, 24, 25] (by decide +kernel) (by decide +kernel)) (goodIn_sub (fun _ h => List.mem_cons_of_mem _ (List.mem_append_right _ h)) (by decide +kernel))
set_option maxRecDepth 20000 in
theorem gX6_nextRow_X6_firstRow : GoodIn wsX6_nextRow (wsV RX6 128 RX6 yX6_firstRow wsX6_firstRow) := goodIn_app (goodIn_of _ (by decide +kernel)) ggX6_nextRow_X6_firstRow
theorem dX6_nextRow_0 : decode cX6_nextRow 0 = .ok (.aload_n 0, 1) := by decide +kernel
theorem dX6_nextRow_1 : decode cX6_nextRow 1 = .ok (.iload_n 1, 1) := by decide +kernel
theorem dX6_nextRow_2 : decode cX6_nextRow 2 = .ok (.iconst 0, 1) := by decide +kernel
theorem dX6_nextRow_3 : decode cX6_nextRow 3 = .ok (.iconst 2, 1) := by decide +kernel
theorem dX6_nextRow_4 : decode cX6_nextRow 4 = .ok (.invokestatic 35, 3) := by decide +kernel
theorem dX6_nextRow_7 : decode cX6_nextRow 7 = .ok (.ifCond .eq 20, 3) := by decide +kernel
theorem dX6_nextRow_10 : decode cX6_nextRow 10 = .ok (.aload_n 0, 1) := by decide +kernel
theorem dX6_nextRow_11 : decode cX6_nextRow 11 = .ok (.getfield 7, 3) := by decide +kernel
theorem dX6_nextRow_14 : decode cX6_nextRow 14 = .ok (.iconst 2, 1) := by decide +kernel
theorem dX6_nextRow_15 : decode cX6_nextRow 15 = .ok (.iaload, 1) := by decide +kernel
theorem dX6_nextRow_16 : decode cX6_nextRow 16 = .ok (.ifCond .ne 7, 3) := by decide +kernel
theorem dX6_nextRow_19 : decode cX6_nextRow 19 = .ok (.iconst 2, 1) := by decide +kernel
theorem dX6_nextRow_20 : decode cX6_nextRow 20 = .ok (.goto 8, 3) := by decide +kernel
theorem dX6_nextRow_23 : decode cX6_nextRow 23 = .ok (.iconst 0, 1) := by decide +kernel
theorem dX6_nextRow_24 : decode cX6_nextRow 24 = .ok (.goto 4, 3) := by decide +kernel
theorem dX6_nextRow_27 : decode cX6_nextRow 27 = .ok (.iconst 1, 1) := by decide +kernel
theorem dX6_nextRow_28 : decode cX6_nextRow 28 = .ok (.putfield 32, 3) := by decide +kernel
theorem dX6_nextRow_31 : decode cX6_nextRow 31 = .ok (.aload_n 0, 1) := by decide +kernel
theorem dX6_nextRow_32 : decode cX6_nextRow 32 = .ok (.getfield 32, 3) := by decide +kernel
theorem dX6_nextRow_35 : decode cX6_nextRow 35 = .ok (.ifCond .le 5, 3) := by decide +kernel
theorem dX6_nextRow_38 : decode cX6_nextRow 38 = .ok (.iconst 0, 1) := by decide +kernel
theorem dX6_nextRow_39 : decode cX6_nextRow 39 = .ok (.ireturn, 1) := by decide +kernel
theorem dX6_nextRow_40 : decode cX6_nextRow 40 = .ok (.aload_n 0, 1) := by decide +kernel
theorem dX6_nextRow_41 : decode cX6_nextRow 41 = .ok (.invokevirtual 128, 3) := by decide +kernel
theorem dX6_nextRow_44 : decode cX6_nextRow 44 = .ok (.istore_n 2, 1) := by decide +kernel
theorem dX6_nextRow_45 : decode cX6_nextRow 45 = .ok (.iload_n 1, 1) := by decide +kernel
theorem dX6_nextRow_46 : decode cX6_nextRow 46 = .ok (.ifCond .ne 16, 3) := by decide +kernel
theorem dX6_nextRow_49 : decode cX6_nextRow 49 = .ok (.aload_n 0, 1) := by decide +kernel
theorem dX6_nextRow_50 : decode cX6_nextRow 50 = .ok (.getfield 7, 3) := by decide +kernel
theorem dX6_nextRow_53 : decode cX6_nextRow 53 = .ok (.sipush 550, 3) := by decide +kernel
theorem dX6_nextRow_56 : decode cX6_nextRow 56 = .ok (.iload_n 2, 1) := by decide +kernel
theorem dX6_nextRow_57 : decode cX6_nextRow 57 = .ok (.iadd, 1) := by decide +kernel
theorem dX6_nextRow_58 : decode cX6_nextRow 58 = .ok (.iaload, 1) := by decide +kernel
theorem dX6_nextRow_59 : decode cX6_nextRow 59 = .ok (.goto 31, 3) := by decide +kernel
theorem dX6_nextRow_62 : decode cX6_nextRow 62 = .ok (.iload_n 1, 1) := by decide +kernel
theorem dX6_nextRow_63 : decode cX6_nextRow 63 = .ok (.iconst 1, 1) := by decide +kernel
theorem dX6_nextRow_64 : decode cX6_nextRow 64 = .ok (.if_icmp .ne 16, 3) := by decide +kernel
theorem dX6_nextRow_67 : decode cX6_nextRow 67 = .ok (.aload_n 0, 1) := by decide +kernel
theorem dX6_nextRow_68 : decode cX6_nextRow 68 = .ok (.getfield 7, 3) := by decide +kernel
theorem dX6_nextRow_71 : decode cX6_nextRow 71 = .ok (.sipush 570, 3) := by decide +kernel
theorem dX6_nextRow_74 : decode cX6_nextRow 74 = .ok (.iload_n 2, 1) := by decide +kernel
theorem dX6_nextRow_75 : decode cX6_nextRow 75 = .ok (.iadd, 1) := by decide +kernel
theorem dX6_nextRow_76 : decode cX6_nextRow 76 = .ok (.iaload, 1) := by decide +kernel
theorem dX6_nextRow_77 : decode cX6_nextRow 77 = .ok (.goto 13, 3) := by decide +kernel
theorem dX6_nextRow_80 : decode cX6_nextRow 80 = .ok (.aload_n 0, 1) := by decide +kernel
theorem dX6_nextRow_81 : decode cX6_nextRow 81 = .ok (.getfield 7, 3) := by decide +kernel
theorem dX6_nextRow_84 : decode cX6_nextRow 84 = .ok (.sipush 590, 3) := by decide +kernel
theorem dX6_nextRow_87 : decode cX6_nextRow 87 = .ok (.iload_n 2, 1) := by decide +kernel
theorem dX6_nextRow_88 : decode cX6_nextRow 88 = .ok (.iadd, 1) := by decide +kernel
theorem dX6_nextRow_89 : decode cX6_nextRow 89 = .ok (.iaload, 1) := by decide +kernel
theorem dX6_nextRow_90 : decode cX6_nextRow 90 = .ok (.ireturn, 1) := by decide +kernel
theorem dX6_remembers_0 : decode cX6_remembers 0 = .ok (.iconst 0, 1) := by decide +kernel
theorem dX6_remembers_1 : decode cX6_remembers 1 = .ok (.istore_n 1, 1) := by decide +kernel
theorem dX6_remembers_2 : decode cX6_remembers 2 = .ok (.iload_n 1, 1) := by decide +kernel
theorem dX6_remembers_3 : decode cX6_remembers 3 = .ok (.sipush 610, 3) := by decide +kernel
theorem dX6_remembers_6 : decode cX6_remembers 6 = .ok (.if_icmp .ge 21, 3) := by decide +kernel
theorem dX6_remembers_9 : decode cX6_remembers 9 = .ok (.aload_n 0, 1) := by decide +kernel
theorem dX6_remembers_10 : decode cX6_remembers 10 = .ok (.getfield 16, 3) := by decide +kernel
theorem dX6_remembers_13 : decode cX6_remembers 13 = .ok (.iload_n 1, 1) := by decide +kernel
theorem dX6_remembers_14 : decode cX6_remembers 14 = .ok (.aload_n 0, 1) := by decide +kernel
theorem dX6_remembers_15 : decode cX6_remembers 15 = .ok (.getfield 7, 3) := by decide +kernel
theorem dX6_remembers_18 : decode cX6_remembers 18 = .ok (.iload_n 1, 1) := by decide +kernel
theorem dX6_remembers_19 : decode cX6_remembers 19 = .ok (.iaload, 1) := by decide +kernel
theorem dX6_remembers_20 : decode cX6_remembers 20 = .ok (.iastore, 1) := by decide +kernel
theorem dX6_remembers_21 : decode cX6_remembers 21 = .ok (.iinc 1 1, 3) := by decide +kernel
theorem dX6_remembers_24 : decode cX6_remembers 24 = .ok (.goto (-22), 3) := by decide +kernel
theorem dX6_remembers_27 : decode cX6_remembers 27 = .ok (.return_, 1) := by decide +kernel
theorem dX6_goesBack_0 : decode cX6_goesBack 0 = .ok (.iconst 0, 1) := by decide +kernel
theorem dX6_goesBack_1 : decode cX6_goesBack 1 = .ok (.istore_n 1, 1) := by decide +kernel
theorem dX6_goesBack_2 : decode cX6_goesBack 2 = .ok (.iload_n 1, 1) := by decide +kernel
theorem dX6_goesBack_3 : decode cX6_goesBack 3 = .ok (.sipush 610, 3) := by decide +kernel
theorem dX6_goesBack_6 : decode cX6_goesBack 6 = .ok (.if_icmp .ge 21, 3) := by decide +kernel
theorem dX6_goesBack_9 : decode cX6_goesBack 9 = .ok (.aload_n 0, 1) := by decide +kernel
theorem dX6_goesBack_10 : decode cX6_goesBack 10 = .ok (.getfield 7, 3) := by decide +kernel
theorem dX6_goesBack_13 : decode cX6_goesBack 13 = .ok (.iload_n 1, 1) := by decide +kernel
theorem dX6_goesBack_14 : decode cX6_goesBack 14 = .ok (.aload_n 0, 1) := by decide +kernel
theorem dX6_goesBack_15 : decode cX6_goesBack 15 = .ok (.getfield 16, 3) := by decide +kernel
theorem dX6_goesBack_18 : decode cX6_goesBack 18 = .ok (.iload_n 1, 1) := by decide +kernel
theorem dX6_goesBack_19 : decode cX6_goesBack 19 = .ok (.iaload, 1) := by decide +kernel
theorem dX6_goesBack_20 : decode cX6_goesBack 20 = .ok (.iastore, 1) := by decide +kernel
theorem dX6_goesBack_21 : decode cX6_goesBack 21 = .ok (.iinc 1 1, 3) := by decide +kernel
theorem dX6_goesBack_24 : decode cX6_goesBack 24 = .ok (.goto (-22), 3) := by decide +kernel
theorem dX6_goesBack_27 : decode cX6_goesBack 27 = .ok (.return_, 1) := by decide +kernel
set_option maxRecDepth 20000 in
theorem ggX6_loads_X6_firstRow : GoodIn wsX6_loads wsX6_firstRow := goodIn_ca (goodIn_r _ [6, 1, 34, 35, 36, 37, 38, 39, 40, 41, 42, 43, 44, 45, 46, 47, 48] (by decide +kernel) (by decide +kernel)) (goodIn_sub (fun _ h => List.mem_cons_of_mem _ (List.mem_append_right _ h)) (by decide +kernel))
set_option maxRecDepth 20000 in
theorem gX6_loads_X6_firstRow : GoodIn wsX6_loads (wsV RX6 128 RX6 yX6_firstRow wsX6_firstRow) := goodIn_app (goodIn_of _ (by decide +kernel)) ggX6_loads_X6_firstRow
set_option maxRecDepth 20000 in
theorem ggX6_loads_X6_changes : GoodIn wsX6_loads wsX6_changes := goodIn_ca (goodIn_r _ [10, 1, 11, 12, 13, 5, 14, 15, 16, 17, 18, 19, 20, 21, 22, 23, 24, 25, 26, 27, 28, 29, 30, 31, 32, 33, 34, 35, 36, 37, 38, 39, 40, 41, 42, 43, 44, 45, 46, 47, 48] (by decide +kernel) (by decide +kernel)) (goodIn_sub (fun _ h => List.mem_cons_of_mem _ (List.mem_append_right _ h)) (by decide +kernel))
set_option maxRecDepth 20000 in
theorem gX6_loads_X6_changes : GoodIn wsX6_loads (wsV RX6 78 RX6 yX6_changes wsX6_changes) := goodIn_app (goodIn_of _ (by decide +kernel)) ggX6_loads_X6_changes
theorem dX6_loads_0 : decode cX6_loads 0 = .ok (.aload_n 0, 1) := by decide +kernel
theorem dX6_loads_1 : decode cX6_loads 1 = .ok (.invokevirtual 128, 3) := by decide +kernel
theorem dX6_loads_4 : decode cX6_loads 4 = .ok (.istore_n 1, 1) := by decide +kernel
theorem dX6_loads_5 : decode cX6_loads 5 = .ok (.aload_n 0, 1) := by decide +kernel
theorem dX6_loads_6 : decode cX6_loads 6 = .ok (.aload_n 0, 1) := by decide +kernel
theorem dX6_loads_7 : decode cX6_loads 7 = .ok (.getfield 7, 3) := by decide +kernel
theorem dX6_loads_10 : decode cX6_loads 10 = .ok (.sipush 550, 3) := by decide +kernel
theorem dX6_loads_13 : decode cX6_loads 13 = .ok (.iload_n 1, 1) := by decide +kernel
theorem dX6_loads_14 : decode cX6_loads 14 = .ok (.iadd, 1) := by decide +kernel
theorem dX6_loads_15 : decode cX6_loads 15 = .ok (.iaload, 1) := by decide +kernel
theorem dX6_loads_16 : decode cX6_loads 16 = .ok (.aload_n 0, 1) := by decide +kernel
theorem dX6_loads_17 : decode cX6_loads 17 = .ok (.getfield 7, 3) := by decide +kernel
theorem dX6_loads_20 : decode cX6_loads 20 = .ok (.sipush 570, 3) := by decide +kernel
theorem dX6_loads_23 : decode cX6_loads 23 = .ok (.iload_n 1, 1) := by decide +kernel
theorem dX6_loads_24 : decode cX6_loads 24 = .ok (.iadd, 1) := by decide +kernel
theorem dX6_loads_25 : decode cX6_loads 25 = .ok (.iaload, 1) := by decide +kernel
theorem dX6_loads_26 : decode cX6_loads 26 = .ok (.aload_n 0, 1) := by decide +kernel
theorem dX6_loads_27 : decode cX6_loads 27 = .ok (.getfield 7, 3) := by decide +kernel
theorem dX6_loads_30 : decode cX6_loads 30 = .ok (.sipush 590, 3) := by decide +kernel
theorem dX6_loads_33 : decode cX6_loads 33 = .ok (.iload_n 1, 1) := by decide +kernel
theorem dX6_loads_34 : decode cX6_loads 34 = .ok (.iadd, 1) := by decide +kernel
theorem dX6_loads_35 : decode cX6_loads 35 = .ok (.iaload, 1) := by decide +kernel
theorem dX6_loads_36 : decode cX6_loads 36 = .ok (.invokevirtual 78, 3) := by decide +kernel
theorem dX6_loads_39 : decode cX6_loads 39 = .ok (.ifCond .ge 5, 3) := by decide +kernel
theorem dX6_loads_42 : decode cX6_loads 42 = .ok (.iconst 0, 1) := by decide +kernel
theorem dX6_loads_43 : decode cX6_loads 43 = .ok (.ireturn, 1) := by decide +kernel
theorem dX6_loads_44 : decode cX6_loads 44 = .ok (.aload_n 0, 1) := by decide +kernel
theorem dX6_loads_45 : decode cX6_loads 45 = .ok (.getfield 7, 3) := by decide +kernel
theorem dX6_loads_48 : decode cX6_loads 48 = .ok (.iconst 2, 1) := by decide +kernel
theorem dX6_loads_49 : decode cX6_loads 49 = .ok (.dup2, 1) := by decide +kernel
theorem dX6_loads_50 : decode cX6_loads 50 = .ok (.iaload, 1) := by decide +kernel
theorem dX6_loads_51 : decode cX6_loads 51 = .ok (.iconst 1, 1) := by decide +kernel
theorem dX6_loads_52 : decode cX6_loads 52 = .ok (.isub, 1) := by decide +kernel
theorem dX6_loads_53 : decode cX6_loads 53 = .ok (.iastore, 1) := by decide +kernel
theorem dX6_loads_54 : decode cX6_loads 54 = .ok (.iload_n 1, 1) := by decide +kernel
theorem dX6_loads_55 : decode cX6_loads 55 = .ok (.istore_n 2, 1) := by decide +kernel
theorem dX6_loads_56 : decode cX6_loads 56 = .ok (.iload_n 2, 1) := by decide +kernel
theorem dX6_loads_57 : decode cX6_loads 57 = .ok (.aload_n 0, 1) := by decide +kernel
theorem dX6_loads_58 : decode cX6_loads 58 = .ok (.getfield 7, 3) := by decide +kernel
theorem dX6_loads_61 : decode cX6_loads 61 = .ok (.iconst 2, 1) := by decide +kernel
theorem dX6_loads_62 : decode cX6_loads 62 = .ok (.iaload, 1) := by decide +kernel
theorem dX6_loads_63 : decode cX6_loads 63 = .ok (.if_icmp .ge 75, 3) := by decide +kernel
theorem dX6_loads_66 : decode cX6_loads 66 = .ok (.aload_n 0, 1) := by decide +kernel
theorem dX6_loads_67 : decode cX6_loads 67 = .ok (.getfield 7, 3) := by decide +kernel
theorem dX6_loads_70 : decode cX6_loads 70 = .ok (.sipush 550, 3) := by decide +kernel
theorem dX6_loads_73 : decode cX6_loads 73 = .ok (.iload_n 2, 1) := by decide +kernel
theorem dX6_loads_74 : decode cX6_loads 74 = .ok (.iadd, 1) := by decide +kernel
theorem dX6_loads_75 : decode cX6_loads 75 = .ok (.aload_n 0, 1) := by decide +kernel
theorem dX6_loads_76 : decode cX6_loads 76 = .ok (.getfield 7, 3) := by decide +kernel
theorem dX6_loads_79 : decode cX6_loads 79 = .ok (.sipush 550, 3) := by decide +kernel
theorem dX6_loads_82 : decode cX6_loads 82 = .ok (.iload_n 2, 1) := by decide +kernel
theorem dX6_loads_83 : decode cX6_loads 83 = .ok (.iadd, 1) := by decide +kernel
theorem dX6_loads_84 : decode cX6_loads 84 = .ok (.iconst 1, 1) := by decide +kernel
theorem dX6_loads_85 : decode cX6_loads 85 = .ok (.iadd, 1) := by decide +kernel
theorem dX6_loads_86 : decode cX6_loads 86 = .ok (.iaload, 1) := by decide +kernel
theorem dX6_loads_87 : decode cX6_loads 87 = .ok (.iastore, 1) := by decide +kernel
theorem dX6_loads_88 : decode cX6_loads 88 = .ok (.aload_n 0, 1) := by decide +kernel
theorem dX6_loads_89 : decode cX6_loads 89 = .ok (.getfield 7, 3) := by decide +kernel
theorem dX6_loads_92 : decode cX6_loads 92 = .ok (.sipush 570, 3) := by decide +kernel
theorem dX6_loads_95 : decode cX6_loads 95 = .ok (.iload_n 2, 1) := by decide +kernel
theorem dX6_loads_96 : decode cX6_loads 96 = .ok (.iadd, 1) := by decide +kernel
theorem dX6_loads_97 : decode cX6_loads 97 = .ok (.aload_n 0, 1) := by decide +kernel
theorem dX6_loads_98 : decode cX6_loads 98 = .ok (.getfield 7, 3) := by decide +kernel
theorem dX6_loads_101 : decode cX6_loads 101 = .ok (.sipush 570, 3) := by decide +kernel
theorem dX6_loads_104 : decode cX6_loads 104 = .ok (.iload_n 2, 1) := by decide +kernel
theorem dX6_loads_105 : decode cX6_loads 105 = .ok (.iadd, 1) := by decide +kernel
theorem dX6_loads_106 : decode cX6_loads 106 = .ok (.iconst 1, 1) := by decide +kernel
theorem dX6_loads_107 : decode cX6_loads 107 = .ok (.iadd, 1) := by decide +kernel
theorem dX6_loads_108 : decode cX6_loads 108 = .ok (.iaload, 1) := by decide +kernel
theorem dX6_loads_109 : decode cX6_loads 109 = .ok (.iastore, 1) := by decide +kernel
theorem dX6_loads_110 : decode cX6_loads 110 = .ok (.aload_n 0, 1) := by decide +kernel
theorem dX6_loads_111 : decode cX6_loads 111 = .ok (.getfield 7, 3) := by decide +kernel
theorem dX6_loads_114 : decode cX6_loads 114 = .ok (.sipush 590, 3) := by decide +kernel
theorem dX6_loads_117 : decode cX6_loads 117 = .ok (.iload_n 2, 1) := by decide +kernel
theorem dX6_loads_118 : decode cX6_loads 118 = .ok (.iadd, 1) := by decide +kernel
theorem dX6_loads_119 : decode cX6_loads 119 = .ok (.aload_n 0, 1) := by decide +kernel
theorem dX6_loads_120 : decode cX6_loads 120 = .ok (.getfield 7, 3) := by decide +kernel
theorem dX6_loads_123 : decode cX6_loads 123 = .ok (.sipush 590, 3) := by decide +kernel
theorem dX6_loads_126 : decode cX6_loads 126 = .ok (.iload_n 2, 1) := by decide +kernel
theorem dX6_loads_127 : decode cX6_loads 127 = .ok (.iadd, 1) := by decide +kernel
theorem dX6_loads_128 : decode cX6_loads 128 = .ok (.iconst 1, 1) := by decide +kernel
theorem dX6_loads_129 : decode cX6_loads 129 = .ok (.iadd, 1) := by decide +kernel
theorem dX6_loads_130 : decode cX6_loads 130 = .ok (.iaload, 1) := by decide +kernel
theorem dX6_loads_131 : decode cX6_loads 131 = .ok (.iastore, 1) := by decide +kernel
theorem dX6_loads_132 : decode cX6_loads 132 = .ok (.iinc 2 1, 3) := by decide +kernel
theorem dX6_loads_135 : decode cX6_loads 135 = .ok (.goto (-79), 3) := by decide +kernel
theorem dX6_loads_138 : decode cX6_loads 138 = .ok (.iconst 1, 1) := by decide +kernel
theorem dX6_loads_139 : decode cX6_loads 139 = .ok (.ireturn, 1) := by decide +kernel
set_option maxRecDepth 20000 in
theorem ggX6_loadRows_X6_in : GoodIn wsX6_loadRows wsX6_in := goodIn_r _ [6] (by decide +kernel) (by decide +kernel)
set_option maxRecDepth 20000 in
theorem gX6_loadRows_X6_in : GoodIn wsX6_loadRows (va_wsS RX6 35 yX6_in wsX6_in) := goodIn_app (goodIn_of _ (by decide +kernel)) ggX6_loadRows_X6_in
set_option maxRecDepth 20000 in
theorem ggX6_loadRows_X6_fails : GoodIn wsX6_loadRows wsX6_fails := goodIn_r _ [10, 1, 67, 68, 69, 70, 71, 72, 73, 74, 75, 76, 77, 78, 79, 80, 81] (by decide +kernel) (by decide +kernel)
set_option maxRecDepth 20000 in
theorem gX6_loadRows_X6_fails : GoodIn wsX6_loadRows (wsV RX6 82 RX6 yX6_fails wsX6_fails) := goodIn_app (goodIn_of _ (by decide +kernel)) ggX6_loadRows_X6_fails
set_option maxRecDepth 20000 in
theorem ggX6_loadRows_X6_begins : GoodIn wsX6_loadRows wsX6_begins := goodIn_ca (goodIn_r _ [14, 2, 15, 16, 17, 18, 19, 5, 20, 21, 22, 23, 24, 25, 26, 27, 28, 3, 4, 6, 67, 68, 69, 70, 71, 72, 73, 74, 75, 76, 77, 78, 79, 80, 81] (by decide +kernel) (by decide +kernel)) (goodIn_sub (fun _ h => List.mem_cons_of_mem _ (List.mem_append_right _ h)) (by decide +kernel))
set_option maxRecDepth 20000 in
theorem gX6_loadRows_X6_begins : GoodIn wsX6_loadRows (wsV RX6 75 RX6 yX6_begins wsX6_begins) := goodIn_app (goodIn_of _ (by decide +kernel)) ggX6_loadRows_X6_begins
set_option maxRecDepth 20000 in
theorem ggX6_loadRows_X6_remembers : GoodIn wsX6_loadRows wsX6_remembers := goodIn_ca (goodIn_r _ [32, 33, 2, 67, 68, 69, 70, 71, 72, 73, 74, 75, 76, 77, 78, 79, 80, 81] (by decide +kernel) (by decide +kernel)) (goodIn_sub (fun _ h => List.mem_cons_of_mem _ (List.mem_append_right _ h)) (by decide +kernel))
set_option maxRecDepth 20000 in
theorem gX6_loadRows_X6_remembers : GoodIn wsX6_loadRows (wsV RX6 131 RX6 yX6_remembers wsX6_remembers) := goodIn_app (goodIn_of _ (by decide +kernel)) ggX6_loadRows_X6_remembers
set_option maxRecDepth 20000 in
theorem ggX6_loadRows_X6_loads : GoodIn wsX6_loadRows wsX6_loads := goodIn_ca (goodIn_r _ [37, 2, 38, 39, 40, 5, 41, 42, 43, 44, 45, 21, 22, 23, 24, 25, 26, 27, 28, 3, 4, 6, 46, 47, 48, 49, 50, 51, 52, 53, 54, 55, 56, 57, 67, 68, 69, 70, 71, 72, 73, 74, 75, 76, 77, 78, 79, 80, 81] (by decide +kernel) (by decide +kernel)) (goodIn_sub (fun _ h => List.mem_cons_of_mem _ (List.mem_append_right _ h)) (by decide +kernel))
set_option maxRecDepth 20000 in
theorem gX6_loadRows_X6_loads : GoodIn wsX6_loadRows (wsV RX6 134 RX6 yX6_loads wsX6_loads) := goodIn_app (goodIn_of _ (by decide +kernel)) ggX6_loadRows_X6_loads
set_option maxRecDepth 20000 in
theorem ggX6_loadRows_X6_goesBack : GoodIn wsX6_loadRows wsX6_goesBack := goodIn_ca (goodIn_r _ [61, 2, 33, 67, 68, 69, 70, 71, 72, 73, 74, 75, 76, 77, 78, 79, 80, 81] (by decide +kernel) (by decide +kernel)) (goodIn_sub (fun _ h => List.mem_cons_of_mem _ (List.mem_append_right _ h)) (by decide +kernel))
set_option maxRecDepth 20000 in
theorem gX6_loadRows_X6_goesBack : GoodIn wsX6_loadRows (wsV RX6 138 RX6 yX6_goesBack wsX6_goesBack) := goodIn_app (goodIn_of _ (by decide +kernel)) ggX6_loadRows_X6_goesBack
set_option maxRecDepth 20000 in
theorem ggX6_loadRows_X6_ends : GoodIn wsX6_loadRows wsX6_ends := goodIn_ca (goodIn_r _ [65, 66, 15, 16, 17, 18, 19, 5, 20, 2, 21, 22, 23, 24, 25, 26, 27, 28, 3, 4, 6, 67, 68, 69, 70, 71, 72, 73, 74, 75, 76, 77, 78, 79, 80, 81] (by decide +kernel) (by decide +kernel)) (goodIn_sub (fun _ h => List.mem_cons_of_mem _ (List.mem_append_right _ h)) (by decide +kernel))
set_option maxRecDepth 20000 in
theorem gX6_loadRows_X6_ends : GoodIn wsX6_loadRows (wsV RX6 85 RX6 yX6_ends wsX6_ends) := goodIn_app (goodIn_of _ (by decide +kernel)) ggX6_loadRows_X6_ends
theorem dX6_loadRows_0 : decode cX6_loadRows 0 = .ok (.aload_n 0, 1) := by decide +kernel
theorem dX6_loadRows_1 : decode cX6_loadRows 1 = .ok (.iconst 0, 1) := by decide +kernel
theorem dX6_loadRows_2 : decode cX6_loadRows 2 = .ok (.putfield 32, 3) := by decide +kernel
theorem dX6_loadRows_5 : decode cX6_loadRows 5 = .ok (.iload_n 1, 1) := by decide +kernel
theorem dX6_loadRows_6 : decode cX6_loadRows 6 = .ok (.iconst 1, 1) := by decide +kernel
theorem dX6_loadRows_7 : decode cX6_loadRows 7 = .ok (.bipush 20, 2) := by decide +kernel
theorem dX6_loadRows_9 : decode cX6_loadRows 9 = .ok (.invokestatic 35, 3) := by decide +kernel
theorem dX6_loadRows_12 : decode cX6_loadRows 12 = .ok (.ifCond .ne 9, 3) := by decide +kernel
theorem dX6_loadRows_15 : decode cX6_loadRows 15 = .ok (.aload_n 0, 1) := by decide +kernel
theorem dX6_loadRows_16 : decode cX6_loadRows 16 = .ok (.iconst 1, 1) := by decide +kernel
theorem dX6_loadRows_17 : decode cX6_loadRows 17 = .ok (.invokevirtual 82, 3) := by decide +kernel
theorem dX6_loadRows_20 : decode cX6_loadRows 20 = .ok (.ireturn, 1) := by decide +kernel
theorem dX6_loadRows_21 : decode cX6_loadRows 21 = .ok (.aload_n 0, 1) := by decide +kernel
theorem dX6_loadRows_22 : decode cX6_loadRows 22 = .ok (.invokevirtual 75, 3) := by decide +kernel
theorem dX6_loadRows_25 : decode cX6_loadRows 25 = .ok (.aload_n 0, 1) := by decide +kernel
theorem dX6_loadRows_26 : decode cX6_loadRows 26 = .ok (.invokevirtual 131, 3) := by decide +kernel
theorem dX6_loadRows_29 : decode cX6_loadRows 29 = .ok (.iconst 0, 1) := by decide +kernel
theorem dX6_loadRows_30 : decode cX6_loadRows 30 = .ok (.istore_n 2, 1) := by decide +kernel
theorem dX6_loadRows_31 : decode cX6_loadRows 31 = .ok (.iload_n 2, 1) := by decide +kernel
theorem dX6_loadRows_32 : decode cX6_loadRows 32 = .ok (.iload_n 1, 1) := by decide +kernel
theorem dX6_loadRows_33 : decode cX6_loadRows 33 = .ok (.if_icmp .ge 35, 3) := by decide +kernel
theorem dX6_loadRows_36 : decode cX6_loadRows 36 = .ok (.aload_n 0, 1) := by decide +kernel
theorem dX6_loadRows_37 : decode cX6_loadRows 37 = .ok (.getfield 7, 3) := by decide +kernel
theorem dX6_loadRows_40 : decode cX6_loadRows 40 = .ok (.iconst 2, 1) := by decide +kernel
theorem dX6_loadRows_41 : decode cX6_loadRows 41 = .ok (.iaload, 1) := by decide +kernel
theorem dX6_loadRows_42 : decode cX6_loadRows 42 = .ok (.ifCond .le 26, 3) := by decide +kernel
theorem dX6_loadRows_45 : decode cX6_loadRows 45 = .ok (.aload_n 0, 1) := by decide +kernel
theorem dX6_loadRows_46 : decode cX6_loadRows 46 = .ok (.invokevirtual 134, 3) := by decide +kernel
theorem dX6_loadRows_49 : decode cX6_loadRows 49 = .ok (.ifCond .ne 13, 3) := by decide +kernel
theorem dX6_loadRows_52 : decode cX6_loadRows 52 = .ok (.aload_n 0, 1) := by decide +kernel
theorem dX6_loadRows_53 : decode cX6_loadRows 53 = .ok (.invokevirtual 138, 3) := by decide +kernel
theorem dX6_loadRows_56 : decode cX6_loadRows 56 = .ok (.aload_n 0, 1) := by decide +kernel
theorem dX6_loadRows_57 : decode cX6_loadRows 57 = .ok (.iconst 2, 1) := by decide +kernel
theorem dX6_loadRows_58 : decode cX6_loadRows 58 = .ok (.invokevirtual 82, 3) := by decide +kernel
theorem dX6_loadRows_61 : decode cX6_loadRows 61 = .ok (.ireturn, 1) := by decide +kernel
theorem dX6_loadRows_62 : decode cX6_loadRows 62 = .ok (.iinc 2 1, 3) := by decide +kernel
theorem dX6_loadRows_65 : decode cX6_loadRows 65 = .ok (.goto (-34), 3) := by decide +kernel
theorem dX6_loadRows_68 : decode cX6_loadRows 68 = .ok (.aload_n 0, 1) := by decide +kernel
theorem dX6_loadRows_69 : decode cX6_loadRows 69 = .ok (.invokevirtual 85, 3) := by decide +kernel
theorem dX6_loadRows_72 : decode cX6_loadRows 72 = .ok (.iload_n 2, 1) := by decide +kernel
theorem dX6_loadRows_73 : decode cX6_loadRows 73 = .ok (.ireturn, 1) := by decide +kernel
set_option maxRecDepth 20000 in
theorem ggX6_append_X6_in : GoodIn wsX6_append wsX6_in := goodIn_r _ [7] (by decide +kernel) (by decide +kernel)
set_option maxRecDepth 20000 in
theorem gX6_append_X6_in : GoodIn wsX6_append (va_wsS RX6 35 yX6_in wsX6_in) := goodIn_app (goodIn_of _ (by decide +kernel)) ggX6_append_X6_in
theorem dX6_append_0 : decode cX6_append 0 = .ok (.aload_n 0, 1) := by decide +kernel
theorem dX6_append_1 : decode cX6_append 1 = .ok (.iload_n 1, 1) := by decide +kernel
theorem dX6_append_2 : decode cX6_append 2 = .ok (.bipush 32, 2) := by decide +kernel
theorem dX6_append_4 : decode cX6_append 4 = .ok (.bipush 126, 2) := by decide +kernel
theorem dX6_append_6 : decode cX6_append 6 = .ok (.invokestatic 35, 3) := by decide +kernel
theorem dX6_append_9 : decode cX6_append 9 = .ok (.ifCond .eq 20, 3) := by decide +kernel
theorem dX6_append_12 : decode cX6_append 12 = .ok (.aload_n 0, 1) := by decide +kernel
theorem dX6_append_13 : decode cX6_append 13 = .ok (.getfield 141, 3) := by decide +kernel
theorem dX6_append_16 : decode cX6_append 16 = .ok (.bipush 30, 2) := by decide +kernel
theorem dX6_append_18 : decode cX6_append 18 = .ok (.if_icmp .ne 7, 3) := by decide +kernel
theorem dX6_append_21 : decode cX6_append 21 = .ok (.iconst 2, 1) := by decide +kernel
theorem dX6_append_22 : decode cX6_append 22 = .ok (.goto 8, 3) := by decide +kernel
theorem dX6_append_25 : decode cX6_append 25 = .ok (.iconst 0, 1) := by decide +kernel
theorem dX6_append_26 : decode cX6_append 26 = .ok (.goto 4, 3) := by decide +kernel
theorem dX6_append_29 : decode cX6_append 29 = .ok (.iconst 1, 1) := by decide +kernel
theorem dX6_append_30 : decode cX6_append 30 = .ok (.putfield 32, 3) := by decide +kernel
theorem dX6_append_33 : decode cX6_append 33 = .ok (.aload_n 0, 1) := by decide +kernel
theorem dX6_append_34 : decode cX6_append 34 = .ok (.getfield 32, 3) := by decide +kernel
theorem dX6_append_37 : decode cX6_append 37 = .ok (.ifCond .le 5, 3) := by decide +kernel
theorem dX6_append_40 : decode cX6_append 40 = .ok (.iconst 0, 1) := by decide +kernel
theorem dX6_append_41 : decode cX6_append 41 = .ok (.ireturn, 1) := by decide +kernel
theorem dX6_append_42 : decode cX6_append 42 = .ok (.aload_n 0, 1) := by decide +kernel
theorem dX6_append_43 : decode cX6_append 43 = .ok (.getfield 22, 3) := by decide +kernel
theorem dX6_append_46 : decode cX6_append 46 = .ok (.aload_n 0, 1) := by decide +kernel
theorem dX6_append_47 : decode cX6_append 47 = .ok (.getfield 141, 3) := by decide +kernel
theorem dX6_append_50 : decode cX6_append 50 = .ok (.iload_n 1, 1) := by decide +kernel
theorem dX6_append_51 : decode cX6_append 51 = .ok (.iastore, 1) := by decide +kernel
theorem dX6_append_52 : decode cX6_append 52 = .ok (.aload_n 0, 1) := by decide +kernel
theorem dX6_append_53 : decode cX6_append 53 = .ok (.dup, 1) := by decide +kernel
theorem dX6_append_54 : decode cX6_append 54 = .ok (.getfield 141, 3) := by decide +kernel
theorem dX6_append_57 : decode cX6_append 57 = .ok (.iconst 1, 1) := by decide +kernel
theorem dX6_append_58 : decode cX6_append 58 = .ok (.iadd, 1) := by decide +kernel
theorem dX6_append_59 : decode cX6_append 59 = .ok (.putfield 141, 3) := by decide +kernel
theorem dX6_append_62 : decode cX6_append 62 = .ok (.aload_n 0, 1) := by decide +kernel
theorem dX6_append_63 : decode cX6_append 63 = .ok (.getfield 141, 3) := by decide +kernel
theorem dX6_append_66 : decode cX6_append 66 = .ok (.ireturn, 1) := by decide +kernel
theorem dX6_here_0 : decode cX6_here 0 = .ok (.aload_n 0, 1) := by decide +kernel
theorem dX6_here_1 : decode cX6_here 1 = .ok (.getfield 144, 3) := by decide +kernel
theorem dX6_here_4 : decode cX6_here 4 = .ok (.aload_n 0, 1) := by decide +kernel
theorem dX6_here_5 : decode cX6_here 5 = .ok (.getfield 141, 3) := by decide +kernel
theorem dX6_here_8 : decode cX6_here 8 = .ok (.if_icmp .ge 15, 3) := by decide +kernel
theorem dX6_here_11 : decode cX6_here 11 = .ok (.aload_n 0, 1) := by decide +kernel
theorem dX6_here_12 : decode cX6_here 12 = .ok (.getfield 22, 3) := by decide +kernel
theorem dX6_here_15 : decode cX6_here 15 = .ok (.aload_n 0, 1) := by decide +kernel
theorem dX6_here_16 : decode cX6_here 16 = .ok (.getfield 144, 3) := by decide +kernel
theorem dX6_here_19 : decode cX6_here 19 = .ok (.iaload, 1) := by decide +kernel
theorem dX6_here_20 : decode cX6_here 20 = .ok (.goto 4, 3) := by decide +kernel
theorem dX6_here_23 : decode cX6_here 23 = .ok (.iconst (-1), 1) := by decide +kernel
theorem dX6_here_24 : decode cX6_here 24 = .ok (.ireturn, 1) := by decide +kernel
set_option maxRecDepth 20000 in
theorem ggX6_skips_X6_here : GoodIn wsX6_skips wsX6_here := goodIn_ca (goodIn_r _ [6, 1, 7, 8, 9, 10, 11, 12, 13, 14, 15, 16, 17, 18, 19, 20, 21, 22, 23] (by decide +kernel) (by decide +kernel)) (goodIn_sub (fun _ h => List.mem_cons_of_mem _ (List.mem_append_right _ h)) (by decide +kernel))
set_option maxRecDepth 20000 in
theorem gX6_skips_X6_here : GoodIn wsX6_skips (wsV RX6 147 RX6 yX6_here wsX6_here) := goodIn_app (goodIn_of _ (by decide +kernel)) ggX6_skips_X6_here
theorem dX6_skips_0 : decode cX6_skips 0 = .ok (.aload_n 0, 1) := by decide +kernel
theorem dX6_skips_1 : decode cX6_skips 1 = .ok (.invokevirtual 147, 3) := by decide +kernel
theorem dX6_skips_4 : decode cX6_skips 4 = .ok (.iload_n 1, 1) := by decide +kernel
theorem dX6_skips_5 : decode cX6_skips 5 = .ok (.if_icmp .eq 5, 3) := by decide +kernel
theorem dX6_skips_8 : decode cX6_skips 8 = .ok (.iconst 0, 1) := by decide +kernel
theorem dX6_skips_9 : decode cX6_skips 9 = .ok (.ireturn, 1) := by decide +kernel
theorem dX6_skips_10 : decode cX6_skips 10 = .ok (.aload_n 0, 1) := by decide +kernel
theorem dX6_skips_11 : decode cX6_skips 11 = .ok (.dup, 1) := by decide +kernel
theorem dX6_skips_12 : decode cX6_skips 12 = .ok (.getfield 144, 3) := by decide +kernel
theorem dX6_skips_15 : decode cX6_skips 15 = .ok (.iconst 1, 1) := by decide +kernel
theorem dX6_skips_16 : decode cX6_skips 16 = .ok (.iadd, 1) := by decide +kernel
theorem dX6_skips_17 : decode cX6_skips 17 = .ok (.putfield 144, 3) := by decide +kernel
theorem dX6_skips_20 : decode cX6_skips 20 = .ok (.iconst 1, 1) := by decide +kernel
theorem dX6_skips_21 : decode cX6_skips 21 = .ok (.ireturn, 1) := by decide +kernel
set_option maxRecDepth 20000 in
theorem ggX6_number_X6_here : GoodIn wsX6_number wsX6_here := goodIn_ca (goodIn_r _ [7, 2, 8, 9, 13, 14, 15, 16, 17, 18, 19, 20, 21, 22, 23, 24, 25, 26, 27] (by decide +kernel) (by decide +kernel)) (goodIn_sub (fun _ h => List.mem_cons_of_mem _ (List.mem_append_right _ h)) (by decide +kernel))
set_option maxRecDepth 20000 in
theorem gX6_number_X6_here : GoodIn wsX6_number (wsV RX6 147 RX6 yX6_here wsX6_here) := goodIn_app (goodIn_of _ (by decide +kernel)) ggX6_number_X6_here
set_option maxRecDepth 20000 in
theorem ggX6_number_X6_in : GoodIn wsX6_number wsX6_in := goodIn_r _ [12] (by decide +kernel) (by decide +kernel)
set_option maxRecDepth 20000 in
theorem gX6_number_X6_in : GoodIn wsX6_number (va_wsS RX6 35 yX6_in wsX6_in) := goodIn_app (goodIn_of _ (by decide +kernel)) ggX6_number_X6_in
theorem dX6_number_0 : decode cX6_number 0 = .ok (.aload_n 0, 1) := by decide +kernel
theorem dX6_number_1 : decode cX6_number 1 = .ok (.iconst 0, 1) := by decide +kernel
theorem dX6_number_2 : decode cX6_number 2 = .ok (.putfield 150, 3) := by decide +kernel
theorem dX6_number_5 : decode cX6_number 5 = .ok (.iconst 0, 1) := by decide +kernel
theorem dX6_number_6 : decode cX6_number 6 = .ok (.istore_n 2, 1) := by decide +kernel
theorem dX6_number_7 : decode cX6_number 7 = .ok (.iload_n 2, 1) := by decide +kernel
theorem dX6_number_8 : decode cX6_number 8 = .ok (.iload_n 1, 1) := by decide +kernel
theorem dX6_number_9 : decode cX6_number 9 = .ok (.if_icmp .ge 52, 3) := by decide +kernel
theorem dX6_number_12 : decode cX6_number 12 = .ok (.aload_n 0, 1) := by decide +kernel
theorem dX6_number_13 : decode cX6_number 13 = .ok (.invokevirtual 147, 3) := by decide +kernel
theorem dX6_number_16 : decode cX6_number 16 = .ok (.bipush 48, 2) := by decide +kernel
theorem dX6_number_18 : decode cX6_number 18 = .ok (.bipush 57, 2) := by decide +kernel
theorem dX6_number_20 : decode cX6_number 20 = .ok (.invokestatic 35, 3) := by decide +kernel
theorem dX6_number_23 : decode cX6_number 23 = .ok (.ifCond .eq 38, 3) := by decide +kernel
theorem dX6_number_26 : decode cX6_number 26 = .ok (.aload_n 0, 1) := by decide +kernel
theorem dX6_number_27 : decode cX6_number 27 = .ok (.bipush 10, 2) := by decide +kernel
theorem dX6_number_29 : decode cX6_number 29 = .ok (.aload_n 0, 1) := by decide +kernel
theorem dX6_number_30 : decode cX6_number 30 = .ok (.getfield 150, 3) := by decide +kernel
theorem dX6_number_33 : decode cX6_number 33 = .ok (.imul, 1) := by decide +kernel
theorem dX6_number_34 : decode cX6_number 34 = .ok (.aload_n 0, 1) := by decide +kernel
theorem dX6_number_35 : decode cX6_number 35 = .ok (.invokevirtual 147, 3) := by decide +kernel
theorem dX6_number_38 : decode cX6_number 38 = .ok (.iadd, 1) := by decide +kernel
theorem dX6_number_39 : decode cX6_number 39 = .ok (.bipush 48, 2) := by decide +kernel
theorem dX6_number_41 : decode cX6_number 41 = .ok (.isub, 1) := by decide +kernel
theorem dX6_number_42 : decode cX6_number 42 = .ok (.putfield 150, 3) := by decide +kernel
theorem dX6_number_45 : decode cX6_number 45 = .ok (.aload_n 0, 1) := by decide +kernel
theorem dX6_number_46 : decode cX6_number 46 = .ok (.dup, 1) := by decide +kernel
theorem dX6_number_47 : decode cX6_number 47 = .ok (.getfield 144, 3) := by decide +kernel
theorem dX6_number_50 : decode cX6_number 50 = .ok (.iconst 1, 1) := by decide +kernel
theorem dX6_number_51 : decode cX6_number 51 = .ok (.iadd, 1) := by decide +kernel
theorem dX6_number_52 : decode cX6_number 52 = .ok (.putfield 144, 3) := by decide +kernel
theorem dX6_number_55 : decode cX6_number 55 = .ok (.iinc 2 1, 3) := by decide +kernel
theorem dX6_number_58 : decode cX6_number 58 = .ok (.goto (-51), 3) := by decide +kernel
theorem dX6_number_61 : decode cX6_number 61 = .ok (.iload_n 2, 1) := by decide +kernel
theorem dX6_number_62 : decode cX6_number 62 = .ok (.ifCond .le 7, 3) := by decide +kernel
theorem dX6_number_65 : decode cX6_number 65 = .ok (.iconst 1, 1) := by decide +kernel
theorem dX6_number_66 : decode cX6_number 66 = .ok (.goto 4, 3) := by decide +kernel
theorem dX6_number_69 : decode cX6_number 69 = .ok (.iconst 0, 1) := by decide +kernel
theorem dX6_number_70 : decode cX6_number 70 = .ok (.ireturn, 1) := by decide +kernel
set_option maxRecDepth 20000 in
theorem ggX6_isRow_X6_skips : GoodIn wsX6_isRow wsX6_skips := goodIn_ca (goodIn_r _ [9, 3, 10, 11, 12, 8, 13, 14, 15, 23, 24, 25, 26, 27, 28, 29, 30, 31, 32, 33, 34, 35, 36, 37] (by decide +kernel) (by decide +kernel)) (goodIn_sub (fun _ h => List.mem_cons_of_mem _ (List.mem_append_right _ h)) (by decide +kernel))
set_option maxRecDepth 20000 in
theorem gX6_isRow_X6_skips : GoodIn wsX6_isRow (wsV RX6 153 RX6 yX6_skips wsX6_skips) := goodIn_app (goodIn_of _ (by decide +kernel)) ggX6_isRow_X6_skips
set_option maxRecDepth 20000 in
theorem ggX6_isRow_X6_here : GoodIn wsX6_isRow wsX6_here := goodIn_ca (goodIn_r _ [13, 3, 14, 15, 23, 24, 25, 26, 27, 28, 29, 30, 31, 32, 33, 34, 35, 36, 37] (by decide +kernel) (by decide +kernel)) (goodIn_sub (fun _ h => List.mem_cons_of_mem _ (List.mem_append_right _ h)) (by decide +kernel))
set_option maxRecDepth 20000 in
theorem gX6_isRow_X6_here : GoodIn wsX6_isRow (wsV RX6 147 RX6 yX6_here wsX6_here) := goodIn_app (goodIn_of _ (by decide +kernel)) ggX6_isRow_X6_here
set_option maxRecDepth 20000 in
theorem ggX6_isRow_X6_in : GoodIn wsX6_isRow wsX6_in := goodIn_r _ [18] (by decide +kernel) (by decide +kernel)
set_option maxRecDepth 20000 in
theorem gX6_isRow_X6_in : GoodIn wsX6_isRow (va_wsS RX6 35 yX6_in wsX6_in) := goodIn_app (goodIn_of _ (by decide +kernel)) ggX6_isRow_X6_in
set_option maxRecDepth 20000 in
theorem ggX6_isRow_X6_number : GoodIn wsX6_isRow wsX6_number := goodIn_ca (goodIn_r _ [22, 4, 3, 10, 11, 12, 8, 13, 14, 15, 16, 17, 18, 23, 24, 25, 26, 27, 28, 29, 30, 31, 32, 33, 34, 35, 36, 37] (by decide +kernel) (by decide +kernel)) (goodIn_sub (fun _ h => List.mem_cons_of_mem _ (List.mem_append_right _ h)) (by decide +kernel))
set_option maxRecDepth 20000 in
theorem gX6_isRow_X6_number : GoodIn wsX6_isRow (wsV RX6 159 RX6 yX6_number wsX6_number) := goodIn_app (goodIn_of _ (by decide +kernel)) ggX6_isRow_X6_number
theorem dX6_isRow_0 : decode cX6_isRow 0 = .ok (.aload_n 0, 1) := by decide +kernel
theorem dX6_isRow_1 : decode cX6_isRow 1 = .ok (.bipush 107, 2) := by decide +kernel
theorem dX6_isRow_3 : decode cX6_isRow 3 = .ok (.invokevirtual 153, 3) := by decide +kernel
theorem dX6_isRow_6 : decode cX6_isRow 6 = .ok (.ifCond .eq 17, 3) := by decide +kernel
theorem dX6_isRow_9 : decode cX6_isRow 9 = .ok (.aload_n 0, 1) := by decide +kernel
theorem dX6_isRow_10 : decode cX6_isRow 10 = .ok (.invokevirtual 147, 3) := by decide +kernel
theorem dX6_isRow_13 : decode cX6_isRow 13 = .ok (.bipush 48, 2) := by decide +kernel
theorem dX6_isRow_15 : decode cX6_isRow 15 = .ok (.bipush 55, 2) := by decide +kernel
theorem dX6_isRow_17 : decode cX6_isRow 17 = .ok (.invokestatic 35, 3) := by decide +kernel
theorem dX6_isRow_20 : decode cX6_isRow 20 = .ok (.ifCond .ne 5, 3) := by decide +kernel
theorem dX6_isRow_23 : decode cX6_isRow 23 = .ok (.iconst 0, 1) := by decide +kernel
theorem dX6_isRow_24 : decode cX6_isRow 24 = .ok (.ireturn, 1) := by decide +kernel
theorem dX6_isRow_25 : decode cX6_isRow 25 = .ok (.aload_n 0, 1) := by decide +kernel
theorem dX6_isRow_26 : decode cX6_isRow 26 = .ok (.getfield 29, 3) := by decide +kernel
theorem dX6_isRow_29 : decode cX6_isRow 29 = .ok (.iconst 3, 1) := by decide +kernel
theorem dX6_isRow_30 : decode cX6_isRow 30 = .ok (.aload_n 0, 1) := by decide +kernel
theorem dX6_isRow_31 : decode cX6_isRow 31 = .ok (.getfield 156, 3) := by decide +kernel
theorem dX6_isRow_34 : decode cX6_isRow 34 = .ok (.imul, 1) := by decide +kernel
theorem dX6_isRow_35 : decode cX6_isRow 35 = .ok (.aload_n 0, 1) := by decide +kernel
theorem dX6_isRow_36 : decode cX6_isRow 36 = .ok (.invokevirtual 147, 3) := by decide +kernel
theorem dX6_isRow_39 : decode cX6_isRow 39 = .ok (.bipush 48, 2) := by decide +kernel
theorem dX6_isRow_41 : decode cX6_isRow 41 = .ok (.isub, 1) := by decide +kernel
theorem dX6_isRow_42 : decode cX6_isRow 42 = .ok (.iastore, 1) := by decide +kernel
theorem dX6_isRow_43 : decode cX6_isRow 43 = .ok (.aload_n 0, 1) := by decide +kernel
theorem dX6_isRow_44 : decode cX6_isRow 44 = .ok (.dup, 1) := by decide +kernel
theorem dX6_isRow_45 : decode cX6_isRow 45 = .ok (.getfield 144, 3) := by decide +kernel
theorem dX6_isRow_48 : decode cX6_isRow 48 = .ok (.iconst 1, 1) := by decide +kernel
theorem dX6_isRow_49 : decode cX6_isRow 49 = .ok (.iadd, 1) := by decide +kernel
theorem dX6_isRow_50 : decode cX6_isRow 50 = .ok (.putfield 144, 3) := by decide +kernel
theorem dX6_isRow_53 : decode cX6_isRow 53 = .ok (.aload_n 0, 1) := by decide +kernel
theorem dX6_isRow_54 : decode cX6_isRow 54 = .ok (.bipush 64, 2) := by decide +kernel
theorem dX6_isRow_56 : decode cX6_isRow 56 = .ok (.invokevirtual 153, 3) := by decide +kernel
theorem dX6_isRow_59 : decode cX6_isRow 59 = .ok (.ifCond .eq 11, 3) := by decide +kernel
theorem dX6_isRow_62 : decode cX6_isRow 62 = .ok (.aload_n 0, 1) := by decide +kernel
theorem dX6_isRow_63 : decode cX6_isRow 63 = .ok (.iconst 3, 1) := by decide +kernel
theorem dX6_isRow_64 : decode cX6_isRow 64 = .ok (.invokevirtual 159, 3) := by decide +kernel
theorem dX6_isRow_67 : decode cX6_isRow 67 = .ok (.ifCond .ne 5, 3) := by decide +kernel
theorem dX6_isRow_70 : decode cX6_isRow 70 = .ok (.iconst 0, 1) := by decide +kernel
theorem dX6_isRow_71 : decode cX6_isRow 71 = .ok (.ireturn, 1) := by decide +kernel
theorem dX6_isRow_72 : decode cX6_isRow 72 = .ok (.aload_n 0, 1) := by decide +kernel
theorem dX6_isRow_73 : decode cX6_isRow 73 = .ok (.getfield 29, 3) := by decide +kernel
theorem dX6_isRow_76 : decode cX6_isRow 76 = .ok (.iconst 3, 1) := by decide +kernel
theorem dX6_isRow_77 : decode cX6_isRow 77 = .ok (.aload_n 0, 1) := by decide +kernel
theorem dX6_isRow_78 : decode cX6_isRow 78 = .ok (.getfield 156, 3) := by decide +kernel
theorem dX6_isRow_81 : decode cX6_isRow 81 = .ok (.imul, 1) := by decide +kernel
theorem dX6_isRow_82 : decode cX6_isRow 82 = .ok (.iconst 1, 1) := by decide +kernel
theorem dX6_isRow_83 : decode cX6_isRow 83 = .ok (.iadd, 1) := by decide +kernel
theorem dX6_isRow_84 : decode cX6_isRow 84 = .ok (.aload_n 0, 1) := by decide +kernel
theorem dX6_isRow_85 : decode cX6_isRow 85 = .ok (.getfield 150, 3) := by decide +kernel
theorem dX6_isRow_88 : decode cX6_isRow 88 = .ok (.iastore, 1) := by decide +kernel
theorem dX6_isRow_89 : decode cX6_isRow 89 = .ok (.aload_n 0, 1) := by decide +kernel
theorem dX6_isRow_90 : decode cX6_isRow 90 = .ok (.bipush 61, 2) := by decide +kernel
theorem dX6_isRow_92 : decode cX6_isRow 92 = .ok (.invokevirtual 153, 3) := by decide +kernel
theorem dX6_isRow_95 : decode cX6_isRow 95 = .ok (.ifCond .ne 5, 3) := by decide +kernel
theorem dX6_isRow_98 : decode cX6_isRow 98 = .ok (.iconst 0, 1) := by decide +kernel
theorem dX6_isRow_99 : decode cX6_isRow 99 = .ok (.ireturn, 1) := by decide +kernel
theorem dX6_isRow_100 : decode cX6_isRow 100 = .ok (.aload_n 0, 1) := by decide +kernel
theorem dX6_isRow_101 : decode cX6_isRow 101 = .ok (.bipush 45, 2) := by decide +kernel
theorem dX6_isRow_103 : decode cX6_isRow 103 = .ok (.invokevirtual 153, 3) := by decide +kernel
theorem dX6_isRow_106 : decode cX6_isRow 106 = .ok (.istore_n 1, 1) := by decide +kernel
theorem dX6_isRow_107 : decode cX6_isRow 107 = .ok (.aload_n 0, 1) := by decide +kernel
theorem dX6_isRow_108 : decode cX6_isRow 108 = .ok (.iconst 3, 1) := by decide +kernel
theorem dX6_isRow_109 : decode cX6_isRow 109 = .ok (.invokevirtual 159, 3) := by decide +kernel
theorem dX6_isRow_112 : decode cX6_isRow 112 = .ok (.ifCond .ne 5, 3) := by decide +kernel
theorem dX6_isRow_115 : decode cX6_isRow 115 = .ok (.iconst 0, 1) := by decide +kernel
theorem dX6_isRow_116 : decode cX6_isRow 116 = .ok (.ireturn, 1) := by decide +kernel
theorem dX6_isRow_117 : decode cX6_isRow 117 = .ok (.aload_n 0, 1) := by decide +kernel
theorem dX6_isRow_118 : decode cX6_isRow 118 = .ok (.getfield 29, 3) := by decide +kernel
theorem dX6_isRow_121 : decode cX6_isRow 121 = .ok (.iconst 3, 1) := by decide +kernel
theorem dX6_isRow_122 : decode cX6_isRow 122 = .ok (.aload_n 0, 1) := by decide +kernel
theorem dX6_isRow_123 : decode cX6_isRow 123 = .ok (.getfield 156, 3) := by decide +kernel
theorem dX6_isRow_126 : decode cX6_isRow 126 = .ok (.imul, 1) := by decide +kernel
theorem dX6_isRow_127 : decode cX6_isRow 127 = .ok (.iconst 2, 1) := by decide +kernel
theorem dX6_isRow_128 : decode cX6_isRow 128 = .ok (.iadd, 1) := by decide +kernel
theorem dX6_isRow_129 : decode cX6_isRow 129 = .ok (.iload_n 1, 1) := by decide +kernel
theorem dX6_isRow_130 : decode cX6_isRow 130 = .ok (.ifCond .eq 11, 3) := by decide +kernel
theorem dX6_isRow_133 : decode cX6_isRow 133 = .ok (.aload_n 0, 1) := by decide +kernel
theorem dX6_isRow_134 : decode cX6_isRow 134 = .ok (.getfield 150, 3) := by decide +kernel
theorem dX6_isRow_137 : decode cX6_isRow 137 = .ok (.ineg, 1) := by decide +kernel
theorem dX6_isRow_138 : decode cX6_isRow 138 = .ok (.goto 7, 3) := by decide +kernel
theorem dX6_isRow_141 : decode cX6_isRow 141 = .ok (.aload_n 0, 1) := by decide +kernel
theorem dX6_isRow_142 : decode cX6_isRow 142 = .ok (.getfield 150, 3) := by decide +kernel
theorem dX6_isRow_145 : decode cX6_isRow 145 = .ok (.iastore, 1) := by decide +kernel
theorem dX6_isRow_146 : decode cX6_isRow 146 = .ok (.aload_n 0, 1) := by decide +kernel
theorem dX6_isRow_147 : decode cX6_isRow 147 = .ok (.dup, 1) := by decide +kernel
theorem dX6_isRow_148 : decode cX6_isRow 148 = .ok (.getfield 156, 3) := by decide +kernel
theorem dX6_isRow_151 : decode cX6_isRow 151 = .ok (.iconst 1, 1) := by decide +kernel
theorem dX6_isRow_152 : decode cX6_isRow 152 = .ok (.iadd, 1) := by decide +kernel
theorem dX6_isRow_153 : decode cX6_isRow 153 = .ok (.putfield 156, 3) := by decide +kernel
theorem dX6_isRow_156 : decode cX6_isRow 156 = .ok (.iconst 1, 1) := by decide +kernel
theorem dX6_isRow_157 : decode cX6_isRow 157 = .ok (.ireturn, 1) := by decide +kernel
set_option maxRecDepth 20000 in
theorem ggX6_faultOf_X6_isRow : GoodIn wsX6_faultOf wsX6_isRow := goodIn_ca (goodIn_r _ [8, 9, 2, 1, 10, 11, 12, 13, 7, 14, 15, 16, 17, 18, 3, 19, 20, 21, 22, 23, 24, 25, 26, 27, 28, 29, 30, 31, 32, 33, 34, 35, 36, 37, 38, 39, 40, 41] (by decide +kernel) (by decide +kernel)) (goodIn_sub (fun _ h => List.mem_cons_of_mem _ (List.mem_append_right _ h)) (by decide +kernel))
set_option maxRecDepth 20000 in
theorem gX6_faultOf_X6_isRow : GoodIn wsX6_faultOf (wsV RX6 162 RX6 yX6_isRow wsX6_isRow) := goodIn_app (goodIn_of _ (by decide +kernel)) ggX6_faultOf_X6_isRow
set_option maxRecDepth 20000 in
theorem ggX6_faultOf_X6_skips : GoodIn wsX6_faultOf wsX6_skips := goodIn_ca (goodIn_r _ [14, 1, 15, 16, 17, 7, 18, 3, 19, 27, 28, 29, 30, 31, 32, 33, 34, 35, 36, 37, 38, 39, 40, 41] (by decide +kernel) (by decide +kernel)) (goodIn_sub (fun _ h => List.mem_cons_of_mem _ (List.mem_append_right _ h)) (by decide +kernel))
set_option maxRecDepth 20000 in
theorem gX6_faultOf_X6_skips : GoodIn wsX6_faultOf (wsV RX6 153 RX6 yX6_skips wsX6_skips) := goodIn_app (goodIn_of _ (by decide +kernel)) ggX6_faultOf_X6_skips
theorem dX6_faultOf_0 : decode cX6_faultOf 0 = .ok (.aload_n 0, 1) := by decide +kernel
theorem dX6_faultOf_1 : decode cX6_faultOf 1 = .ok (.iconst 0, 1) := by decide +kernel
theorem dX6_faultOf_2 : decode cX6_faultOf 2 = .ok (.putfield 144, 3) := by decide +kernel
theorem dX6_faultOf_5 : decode cX6_faultOf 5 = .ok (.aload_n 0, 1) := by decide +kernel
theorem dX6_faultOf_6 : decode cX6_faultOf 6 = .ok (.iconst 0, 1) := by decide +kernel
theorem dX6_faultOf_7 : decode cX6_faultOf 7 = .ok (.putfield 156, 3) := by decide +kernel
theorem dX6_faultOf_10 : decode cX6_faultOf 10 = .ok (.aload_n 0, 1) := by decide +kernel
theorem dX6_faultOf_11 : decode cX6_faultOf 11 = .ok (.invokevirtual 162, 3) := by decide +kernel
theorem dX6_faultOf_14 : decode cX6_faultOf 14 = .ok (.ifCond .ne 8, 3) := by decide +kernel
theorem dX6_faultOf_17 : decode cX6_faultOf 17 = .ok (.aload_n 0, 1) := by decide +kernel
theorem dX6_faultOf_18 : decode cX6_faultOf 18 = .ok (.getfield 144, 3) := by decide +kernel
theorem dX6_faultOf_21 : decode cX6_faultOf 21 = .ok (.ireturn, 1) := by decide +kernel
theorem dX6_faultOf_22 : decode cX6_faultOf 22 = .ok (.aload_n 0, 1) := by decide +kernel
theorem dX6_faultOf_23 : decode cX6_faultOf 23 = .ok (.bipush 44, 2) := by decide +kernel
theorem dX6_faultOf_25 : decode cX6_faultOf 25 = .ok (.invokevirtual 153, 3) := by decide +kernel
theorem dX6_faultOf_28 : decode cX6_faultOf 28 = .ok (.ifCond .ne (-18), 3) := by decide +kernel
theorem dX6_faultOf_31 : decode cX6_faultOf 31 = .ok (.aload_n 0, 1) := by decide +kernel
theorem dX6_faultOf_32 : decode cX6_faultOf 32 = .ok (.getfield 144, 3) := by decide +kernel
theorem dX6_faultOf_35 : decode cX6_faultOf 35 = .ok (.aload_n 0, 1) := by decide +kernel
theorem dX6_faultOf_36 : decode cX6_faultOf 36 = .ok (.getfield 141, 3) := by decide +kernel
theorem dX6_faultOf_39 : decode cX6_faultOf 39 = .ok (.if_icmp .ge 10, 3) := by decide +kernel
theorem dX6_faultOf_42 : decode cX6_faultOf 42 = .ok (.aload_n 0, 1) := by decide +kernel
theorem dX6_faultOf_43 : decode cX6_faultOf 43 = .ok (.getfield 144, 3) := by decide +kernel
theorem dX6_faultOf_46 : decode cX6_faultOf 46 = .ok (.goto 4, 3) := by decide +kernel
theorem dX6_faultOf_49 : decode cX6_faultOf 49 = .ok (.iconst (-1), 1) := by decide +kernel
theorem dX6_faultOf_50 : decode cX6_faultOf 50 = .ok (.ireturn, 1) := by decide +kernel
set_option maxRecDepth 20000 in
theorem ggX6_read_X6_faultOf : GoodIn wsX6_read wsX6_faultOf := goodIn_ca (goodIn_r _ [10, 11, 4, 2, 12, 13, 14, 9, 15, 5, 16, 17, 18, 19, 20, 21, 22, 23, 24, 25, 26, 27, 28, 29, 30, 31, 32, 86, 87, 88, 89, 90, 91, 92, 93, 94, 95, 96, 97, 98, 99, 100] (by decide +kernel) (by decide +kernel)) (goodIn_sub (fun _ h => List.mem_cons_of_mem _ (List.mem_append_right _ h)) (by decide +kernel))
set_option maxRecDepth 20000 in
theorem gX6_read_X6_faultOf : GoodIn wsX6_read (wsV RX6 165 RX6 yX6_faultOf wsX6_faultOf) := goodIn_app (goodIn_of _ (by decide +kernel)) ggX6_read_X6_faultOf
set_option maxRecDepth 20000 in
theorem ggX6_read_X6_fails : GoodIn wsX6_read wsX6_fails := goodIn_r _ [36, 1, 86, 87, 88, 89, 90, 91, 92, 93, 94, 95, 96, 97, 98, 99, 100] (by decide +kernel) (by decide +kernel)
set_option maxRecDepth 20000 in
theorem gX6_read_X6_fails : GoodIn wsX6_read (wsV RX6 82 RX6 yX6_fails wsX6_fails) := goodIn_app (goodIn_of _ (by decide +kernel)) ggX6_read_X6_fails
set_option maxRecDepth 20000 in
theorem ggX6_read_X6_begins : GoodIn wsX6_read wsX6_begins := goodIn_ca (goodIn_r _ [40, 41, 42, 43, 44, 45, 46, 9, 47, 48, 49, 50, 51, 52, 53, 54, 55, 26, 27, 28, 86, 87, 88, 89, 90, 91, 92, 93, 94, 95, 96, 97, 98, 99, 100] (by decide +kernel) (by decide +kernel)) (goodIn_sub (fun _ h => List.mem_cons_of_mem _ (List.mem_append_right _ h)) (by decide +kernel))
set_option maxRecDepth 20000 in
theorem gX6_read_X6_begins : GoodIn wsX6_read (wsV RX6 75 RX6 yX6_begins wsX6_begins) := goodIn_app (goodIn_of _ (by decide +kernel)) ggX6_read_X6_begins
set_option maxRecDepth 20000 in
theorem ggX6_read_X6_remembers : GoodIn wsX6_read wsX6_remembers := goodIn_ca (goodIn_r _ [59, 60, 41, 86, 87, 88, 89, 90, 91, 92, 93, 94, 95, 96, 97, 98, 99, 100] (by decide +kernel) (by decide +kernel)) (goodIn_sub (fun _ h => List.mem_cons_of_mem _ (List.mem_append_right _ h)) (by decide +kernel))
set_option maxRecDepth 20000 in
theorem gX6_read_X6_remembers : GoodIn wsX6_read (wsV RX6 131 RX6 yX6_remembers wsX6_remembers) := goodIn_app (goodIn_of _ (by decide +kernel)) ggX6_read_X6_remembers
set_option maxRecDepth 20000 in
theorem ggX6_read_X6_changes : GoodIn wsX6_read wsX6_changes := goodIn_ca (goodIn_r _ [64, 41, 48, 49, 50, 9, 51, 52, 53, 54, 55, 26, 27, 28, 65, 66, 67, 68, 69, 70, 71, 72, 73, 74, 75, 76, 86, 87, 88, 89, 90, 91, 92, 93, 94, 95, 96, 97, 98, 99, 100] (by decide +kernel) (by decide +kernel)) (goodIn_sub (fun _ h => List.mem_cons_of_mem _ (List.mem_append_right _ h)) (by decide +kernel))
set_option maxRecDepth 20000 in
theorem gX6_read_X6_changes : GoodIn wsX6_read (wsV RX6 78 RX6 yX6_changes wsX6_changes) := goodIn_app (goodIn_of _ (by decide +kernel)) ggX6_read_X6_changes
set_option maxRecDepth 20000 in
theorem ggX6_read_X6_goesBack : GoodIn wsX6_read wsX6_goesBack := goodIn_ca (goodIn_r _ [80, 41, 60, 86, 87, 88, 89, 90, 91, 92, 93, 94, 95, 96, 97, 98, 99, 100] (by decide +kernel) (by decide +kernel)) (goodIn_sub (fun _ h => List.mem_cons_of_mem _ (List.mem_append_right _ h)) (by decide +kernel))
set_option maxRecDepth 20000 in
theorem gX6_read_X6_goesBack : GoodIn wsX6_read (wsV RX6 138 RX6 yX6_goesBack wsX6_goesBack) := goodIn_app (goodIn_of _ (by decide +kernel)) ggX6_read_X6_goesBack
set_option maxRecDepth 20000 in
theorem ggX6_read_X6_ends : GoodIn wsX6_read wsX6_ends := goodIn_ca (goodIn_r _ [84, 85, 42, 43, 44, 45, 46, 9, 47, 41, 48, 49, 50, 51, 52, 53, 54, 55, 26, 27, 28, 86, 87, 88, 89, 90, 91, 92, 93, 94, 95, 96, 97, 98, 99, 100] (by decide +kernel) (by decide +kernel)) (goodIn_sub (fun _ h => List.mem_cons_of_mem _ (List.mem_append_right _ h)) (by decide +kernel))
set_option maxRecDepth 20000 in
theorem gX6_read_X6_ends : GoodIn wsX6_read (wsV RX6 85 RX6 yX6_ends wsX6_ends) := goodIn_app (goodIn_of _ (by decide +kernel)) ggX6_read_X6_ends
theorem dX6_read_0 : decode cX6_read 0 = .ok (.aload_n 0, 1) := by decide +kernel
theorem dX6_read_1 : decode cX6_read 1 = .ok (.iconst 0, 1) := by decide +kernel
theorem dX6_read_2 : decode cX6_read 2 = .ok (.putfield 32, 3) := by decide +kernel
theorem dX6_read_5 : decode cX6_read 5 = .ok (.aload_n 0, 1) := by decide +kernel
theorem dX6_read_6 : decode cX6_read 6 = .ok (.invokevirtual 165, 3) := by decide +kernel
theorem dX6_read_9 : decode cX6_read 9 = .ok (.istore_n 1, 1) := by decide +kernel
theorem dX6_read_10 : decode cX6_read 10 = .ok (.aload_n 0, 1) := by decide +kernel
theorem dX6_read_11 : decode cX6_read 11 = .ok (.iconst 0, 1) := by decide +kernel
theorem dX6_read_12 : decode cX6_read 12 = .ok (.putfield 141, 3) := by decide +kernel
theorem dX6_read_15 : decode cX6_read 15 = .ok (.iload_n 1, 1) := by decide +kernel
theorem dX6_read_16 : decode cX6_read 16 = .ok (.ifCond .lt 14, 3) := by decide +kernel
theorem dX6_read_19 : decode cX6_read 19 = .ok (.aload_n 0, 1) := by decide +kernel
theorem dX6_read_20 : decode cX6_read 20 = .ok (.iload_n 1, 1) := by decide +kernel
theorem dX6_read_21 : decode cX6_read 21 = .ok (.putfield 25, 3) := by decide +kernel
theorem dX6_read_24 : decode cX6_read 24 = .ok (.aload_n 0, 1) := by decide +kernel
theorem dX6_read_25 : decode cX6_read 25 = .ok (.iconst 1, 1) := by decide +kernel
theorem dX6_read_26 : decode cX6_read 26 = .ok (.invokevirtual 82, 3) := by decide +kernel
theorem dX6_read_29 : decode cX6_read 29 = .ok (.ireturn, 1) := by decide +kernel
theorem dX6_read_30 : decode cX6_read 30 = .ok (.aload_n 0, 1) := by decide +kernel
theorem dX6_read_31 : decode cX6_read 31 = .ok (.invokevirtual 75, 3) := by decide +kernel
theorem dX6_read_34 : decode cX6_read 34 = .ok (.aload_n 0, 1) := by decide +kernel
theorem dX6_read_35 : decode cX6_read 35 = .ok (.invokevirtual 131, 3) := by decide +kernel
theorem dX6_read_38 : decode cX6_read 38 = .ok (.iconst 0, 1) := by decide +kernel
theorem dX6_read_39 : decode cX6_read 39 = .ok (.istore_n 2, 1) := by decide +kernel
theorem dX6_read_40 : decode cX6_read 40 = .ok (.iload_n 2, 1) := by decide +kernel
theorem dX6_read_41 : decode cX6_read 41 = .ok (.aload_n 0, 1) := by decide +kernel
theorem dX6_read_42 : decode cX6_read 42 = .ok (.getfield 156, 3) := by decide +kernel
theorem dX6_read_45 : decode cX6_read 45 = .ok (.if_icmp .ge 54, 3) := by decide +kernel
theorem dX6_read_48 : decode cX6_read 48 = .ok (.aload_n 0, 1) := by decide +kernel
theorem dX6_read_49 : decode cX6_read 49 = .ok (.aload_n 0, 1) := by decide +kernel
theorem dX6_read_50 : decode cX6_read 50 = .ok (.getfield 29, 3) := by decide +kernel
theorem dX6_read_53 : decode cX6_read 53 = .ok (.iconst 3, 1) := by decide +kernel
theorem dX6_read_54 : decode cX6_read 54 = .ok (.iload_n 2, 1) := by decide +kernel
theorem dX6_read_55 : decode cX6_read 55 = .ok (.imul, 1) := by decide +kernel
theorem dX6_read_56 : decode cX6_read 56 = .ok (.iaload, 1) := by decide +kernel
theorem dX6_read_57 : decode cX6_read 57 = .ok (.aload_n 0, 1) := by decide +kernel
theorem dX6_read_58 : decode cX6_read 58 = .ok (.getfield 29, 3) := by decide +kernel
theorem dX6_read_61 : decode cX6_read 61 = .ok (.iconst 3, 1) := by decide +kernel
theorem dX6_read_62 : decode cX6_read 62 = .ok (.iload_n 2, 1) := by decide +kernel
theorem dX6_read_63 : decode cX6_read 63 = .ok (.imul, 1) := by decide +kernel
theorem dX6_read_64 : decode cX6_read 64 = .ok (.iconst 1, 1) := by decide +kernel
theorem dX6_read_65 : decode cX6_read 65 = .ok (.iadd, 1) := by decide +kernel
theorem dX6_read_66 : decode cX6_read 66 = .ok (.iaload, 1) := by decide +kernel
theorem dX6_read_67 : decode cX6_read 67 = .ok (.aload_n 0, 1) := by decide +kernel
theorem dX6_read_68 : decode cX6_read 68 = .ok (.getfield 29, 3) := by decide +kernel
theorem dX6_read_71 : decode cX6_read 71 = .ok (.iconst 3, 1) := by decide +kernel
theorem dX6_read_72 : decode cX6_read 72 = .ok (.iload_n 2, 1) := by decide +kernel
theorem dX6_read_73 : decode cX6_read 73 = .ok (.imul, 1) := by decide +kernel
theorem dX6_read_74 : decode cX6_read 74 = .ok (.iconst 2, 1) := by decide +kernel
theorem dX6_read_75 : decode cX6_read 75 = .ok (.iadd, 1) := by decide +kernel
theorem dX6_read_76 : decode cX6_read 76 = .ok (.iaload, 1) := by decide +kernel
theorem dX6_read_77 : decode cX6_read 77 = .ok (.invokevirtual 78, 3) := by decide +kernel
theorem dX6_read_80 : decode cX6_read 80 = .ok (.ifCond .ge 13, 3) := by decide +kernel
theorem dX6_read_83 : decode cX6_read 83 = .ok (.aload_n 0, 1) := by decide +kernel
theorem dX6_read_84 : decode cX6_read 84 = .ok (.invokevirtual 138, 3) := by decide +kernel
theorem dX6_read_87 : decode cX6_read 87 = .ok (.aload_n 0, 1) := by decide +kernel
theorem dX6_read_88 : decode cX6_read 88 = .ok (.iconst 2, 1) := by decide +kernel
theorem dX6_read_89 : decode cX6_read 89 = .ok (.invokevirtual 82, 3) := by decide +kernel
theorem dX6_read_92 : decode cX6_read 92 = .ok (.ireturn, 1) := by decide +kernel
theorem dX6_read_93 : decode cX6_read 93 = .ok (.iinc 2 1, 3) := by decide +kernel
theorem dX6_read_96 : decode cX6_read 96 = .ok (.goto (-56), 3) := by decide +kernel
theorem dX6_read_99 : decode cX6_read 99 = .ok (.aload_n 0, 1) := by decide +kernel
theorem dX6_read_100 : decode cX6_read 100 = .ok (.invokevirtual 85, 3) := by decide +kernel
theorem dX6_read_103 : decode cX6_read 103 = .ok (.aload_n 0, 1) := by decide +kernel
theorem dX6_read_104 : decode cX6_read 104 = .ok (.getfield 156, 3) := by decide +kernel
theorem dX6_read_107 : decode cX6_read 107 = .ok (.ireturn, 1) := by decide +kernel
set_option maxRecDepth 20000 in
theorem ggX6_errorPosition_X6_fails : GoodIn wsX6_errorPosition wsX6_fails := goodIn_r _ [7, 1, 8, 9, 10, 11, 12, 13, 14, 15, 16, 17, 18, 19, 20, 21, 22] (by decide +kernel) (by decide +kernel)
set_option maxRecDepth 20000 in
theorem gX6_errorPosition_X6_fails : GoodIn wsX6_errorPosition (wsV RX6 82 RX6 yX6_fails wsX6_fails) := goodIn_app (goodIn_of _ (by decide +kernel)) ggX6_errorPosition_X6_fails
theorem dX6_errorPosition_0 : decode cX6_errorPosition 0 = .ok (.aload_n 0, 1) := by decide +kernel
theorem dX6_errorPosition_1 : decode cX6_errorPosition 1 = .ok (.iconst 0, 1) := by decide +kernel
theorem dX6_errorPosition_2 : decode cX6_errorPosition 2 = .ok (.putfield 32, 3) := by decide +kernel
theorem dX6_errorPosition_5 : decode cX6_errorPosition 5 = .ok (.aload_n 0, 1) := by decide +kernel
theorem dX6_errorPosition_6 : decode cX6_errorPosition 6 = .ok (.getfield 25, 3) := by decide +kernel
theorem dX6_errorPosition_9 : decode cX6_errorPosition 9 = .ok (.ifCond .ge 11, 3) := by decide +kernel
theorem dX6_errorPosition_12 : decode cX6_errorPosition 12 = .ok (.aload_n 0, 1) := by decide +kernel
theorem dX6_errorPosition_13 : decode cX6_errorPosition 13 = .ok (.iconst 1, 1) := by decide +kernel
theorem dX6_errorPosition_14 : decode cX6_errorPosition 14 = .ok (.invokevirtual 82, 3) := by decide +kernel
theorem dX6_errorPosition_17 : decode cX6_errorPosition 17 = .ok (.goto 7, 3) := by decide +kernel
theorem dX6_errorPosition_20 : decode cX6_errorPosition 20 = .ok (.aload_n 0, 1) := by decide +kernel
theorem dX6_errorPosition_21 : decode cX6_errorPosition 21 = .ok (.getfield 25, 3) := by decide +kernel
theorem dX6_errorPosition_24 : decode cX6_errorPosition 24 = .ok (.ireturn, 1) := by decide +kernel
set_option maxRecDepth 20000 in
theorem ggX6_save_X6_there : GoodIn wsX6_save wsX6_there := goodIn_ca (goodIn_r _ [9, 4, 10, 11, 12, 13, 14, 15, 16, 17, 18, 19, 20, 21, 22, 23, 24] (by decide +kernel) (by decide +kernel)) (goodIn_sub (fun _ h => List.mem_cons_of_mem _ (List.mem_append_right _ h)) (by decide +kernel))
set_option maxRecDepth 20000 in
theorem gX6_save_X6_there : GoodIn wsX6_save (wsV RX6 109 RX6 yX6_there wsX6_there) := goodIn_app (goodIn_of _ (by decide +kernel)) ggX6_save_X6_there
theorem dX6_save_0 : decode cX6_save 0 = .ok (.aload_n 0, 1) := by decide +kernel
theorem dX6_save_1 : decode cX6_save 1 = .ok (.iconst 0, 1) := by decide +kernel
theorem dX6_save_2 : decode cX6_save 2 = .ok (.putfield 32, 3) := by decide +kernel
theorem dX6_save_5 : decode cX6_save 5 = .ok (.aload_n 0, 1) := by decide +kernel
theorem dX6_save_6 : decode cX6_save 6 = .ok (.iconst 1, 1) := by decide +kernel
theorem dX6_save_7 : decode cX6_save 7 = .ok (.putfield 168, 3) := by decide +kernel
theorem dX6_save_10 : decode cX6_save 10 = .ok (.iconst 0, 1) := by decide +kernel
theorem dX6_save_11 : decode cX6_save 11 = .ok (.istore_n 1, 1) := by decide +kernel
theorem dX6_save_12 : decode cX6_save 12 = .ok (.iload_n 1, 1) := by decide +kernel
theorem dX6_save_13 : decode cX6_save 13 = .ok (.sipush 610, 3) := by decide +kernel
theorem dX6_save_16 : decode cX6_save 16 = .ok (.if_icmp .ge 21, 3) := by decide +kernel
theorem dX6_save_19 : decode cX6_save 19 = .ok (.aload_n 0, 1) := by decide +kernel
theorem dX6_save_20 : decode cX6_save 20 = .ok (.getfield 13, 3) := by decide +kernel
theorem dX6_save_23 : decode cX6_save 23 = .ok (.iload_n 1, 1) := by decide +kernel
theorem dX6_save_24 : decode cX6_save 24 = .ok (.aload_n 0, 1) := by decide +kernel
theorem dX6_save_25 : decode cX6_save 25 = .ok (.getfield 7, 3) := by decide +kernel
theorem dX6_save_28 : decode cX6_save 28 = .ok (.iload_n 1, 1) := by decide +kernel
theorem dX6_save_29 : decode cX6_save 29 = .ok (.iaload, 1) := by decide +kernel
theorem dX6_save_30 : decode cX6_save 30 = .ok (.iastore, 1) := by decide +kernel
theorem dX6_save_31 : decode cX6_save 31 = .ok (.iinc 1 1, 3) := by decide +kernel
theorem dX6_save_34 : decode cX6_save 34 = .ok (.goto (-22), 3) := by decide +kernel
theorem dX6_save_37 : decode cX6_save 37 = .ok (.aload_n 0, 1) := by decide +kernel
theorem dX6_save_38 : decode cX6_save 38 = .ok (.invokevirtual 109, 3) := by decide +kernel
theorem dX6_save_41 : decode cX6_save 41 = .ok (.ireturn, 1) := by decide +kernel
set_option maxRecDepth 20000 in
theorem ggX6_restore_X6_fails : GoodIn wsX6_restore wsX6_fails := goodIn_r _ [10, 1, 15, 16, 17, 18, 19, 20, 21, 22, 23, 24, 25, 26, 27, 28, 29] (by decide +kernel) (by decide +kernel)
set_option maxRecDepth 20000 in
theorem gX6_restore_X6_fails : GoodIn wsX6_restore (wsV RX6 82 RX6 yX6_fails wsX6_fails) := goodIn_app (goodIn_of _ (by decide +kernel)) ggX6_restore_X6_fails
set_option maxRecDepth 20000 in
theorem ggX6_restore_X6_there : GoodIn wsX6_restore wsX6_there := goodIn_ca (goodIn_r _ [14, 3, 15, 16, 17, 18, 19, 20, 21, 22, 23, 24, 25, 26, 27, 28, 29] (by decide +kernel) (by decide +kernel)) (goodIn_sub (fun _ h => List.mem_cons_of_mem _ (List.mem_append_right _ h)) (by decide +kernel))
set_option maxRecDepth 20000 in
theorem gX6_restore_X6_there : GoodIn wsX6_restore (wsV RX6 109 RX6 yX6_there wsX6_there) := goodIn_app (goodIn_of _ (by decide +kernel)) ggX6_restore_X6_there
theorem dX6_restore_0 : decode cX6_restore 0 = .ok (.aload_n 0, 1) := by decide +kernel
theorem dX6_restore_1 : decode cX6_restore 1 = .ok (.iconst 0, 1) := by decide +kernel
theorem dX6_restore_2 : decode cX6_restore 2 = .ok (.putfield 32, 3) := by decide +kernel
theorem dX6_restore_5 : decode cX6_restore 5 = .ok (.aload_n 0, 1) := by decide +kernel
theorem dX6_restore_6 : decode cX6_restore 6 = .ok (.getfield 168, 3) := by decide +kernel
theorem dX6_restore_9 : decode cX6_restore 9 = .ok (.ifCond .ne 9, 3) := by decide +kernel
theorem dX6_restore_12 : decode cX6_restore 12 = .ok (.aload_n 0, 1) := by decide +kernel
theorem dX6_restore_13 : decode cX6_restore 13 = .ok (.iconst 1, 1) := by decide +kernel
theorem dX6_restore_14 : decode cX6_restore 14 = .ok (.invokevirtual 82, 3) := by decide +kernel
theorem dX6_restore_17 : decode cX6_restore 17 = .ok (.ireturn, 1) := by decide +kernel
theorem dX6_restore_18 : decode cX6_restore 18 = .ok (.iconst 0, 1) := by decide +kernel
theorem dX6_restore_19 : decode cX6_restore 19 = .ok (.istore_n 1, 1) := by decide +kernel
theorem dX6_restore_20 : decode cX6_restore 20 = .ok (.iload_n 1, 1) := by decide +kernel
theorem dX6_restore_21 : decode cX6_restore 21 = .ok (.sipush 610, 3) := by decide +kernel
theorem dX6_restore_24 : decode cX6_restore 24 = .ok (.if_icmp .ge 21, 3) := by decide +kernel
theorem dX6_restore_27 : decode cX6_restore 27 = .ok (.aload_n 0, 1) := by decide +kernel
theorem dX6_restore_28 : decode cX6_restore 28 = .ok (.getfield 7, 3) := by decide +kernel
theorem dX6_restore_31 : decode cX6_restore 31 = .ok (.iload_n 1, 1) := by decide +kernel
theorem dX6_restore_32 : decode cX6_restore 32 = .ok (.aload_n 0, 1) := by decide +kernel
theorem dX6_restore_33 : decode cX6_restore 33 = .ok (.getfield 13, 3) := by decide +kernel
theorem dX6_restore_36 : decode cX6_restore 36 = .ok (.iload_n 1, 1) := by decide +kernel
theorem dX6_restore_37 : decode cX6_restore 37 = .ok (.iaload, 1) := by decide +kernel
theorem dX6_restore_38 : decode cX6_restore 38 = .ok (.iastore, 1) := by decide +kernel
theorem dX6_restore_39 : decode cX6_restore 39 = .ok (.iinc 1 1, 3) := by decide +kernel
theorem dX6_restore_42 : decode cX6_restore 42 = .ok (.goto (-22), 3) := by decide +kernel
theorem dX6_restore_45 : decode cX6_restore 45 = .ok (.aload_n 0, 1) := by decide +kernel
theorem dX6_restore_46 : decode cX6_restore 46 = .ok (.iconst 0, 1) := by decide +kernel
theorem dX6_restore_47 : decode cX6_restore 47 = .ok (.putfield 65, 3) := by decide +kernel
theorem dX6_restore_50 : decode cX6_restore 50 = .ok (.aload_n 0, 1) := by decide +kernel
theorem dX6_restore_51 : decode cX6_restore 51 = .ok (.invokevirtual 109, 3) := by decide +kernel
theorem dX6_restore_54 : decode cX6_restore 54 = .ok (.ireturn, 1) := by decide +kernel
theorem dJx00060_init_a7421_0 : decode cJx00060_init_a7421 0 = .ok (.aload_n 0, 1) := by decide +kernel
theorem dJx00060_init_a7421_1 : decode cJx00060_init_a7421 1 = .ok (.aload_n 1, 1) := by decide +kernel
theorem dJx00060_init_a7421_2 : decode cJx00060_init_a7421 2 = .ok (.invokespecial 7, 3) := by decide +kernel
theorem dJx00060_init_a7421_5 : decode cJx00060_init_a7421 5 = .ok (.return_, 1) := by decide +kernel
theorem dJ9_min_7cf53_0 : decode cJ9_min_7cf53 0 = .ok (.iload_n 0, 1) := by decide +kernel
theorem dJ9_min_7cf53_1 : decode cJ9_min_7cf53 1 = .ok (.iload_n 1, 1) := by decide +kernel
theorem dJ9_min_7cf53_2 : decode cJ9_min_7cf53 2 = .ok (.if_icmp .gt 7, 3) := by decide +kernel
theorem dJ9_min_7cf53_5 : decode cJ9_min_7cf53 5 = .ok (.iload_n 0, 1) := by decide +kernel
theorem dJ9_min_7cf53_6 : decode cJ9_min_7cf53 6 = .ok (.goto 4, 3) := by decide +kernel
theorem dJ9_min_7cf53_9 : decode cJ9_min_7cf53 9 = .ok (.iload_n 1, 1) := by decide +kernel
theorem dJ9_min_7cf53_10 : decode cJ9_min_7cf53 10 = .ok (.ireturn, 1) := by decide +kernel
set_option maxRecDepth 20000 in
theorem ggL_change_X5_change : GoodIn wsL_change wsX5_change := goodIn_ca (goodIn_ca (goodIn_ca (goodIn_ca (goodIn_r _ [8, 9, 10, 11, 12, 13, 14, 7, 15, 16, 17, 18, 19, 20, 21, 22, 23, 24, 25, 26, 27, 28, 29, 30, 31, 32, 33, 34, 35, 36, 37, 38, 39, 40, 41, 42, 43, 44, 45, 46, 47, 48, 49, 50, 51, 52, 53, 54, 55, 56, 57, 58, 59, 60, 61, 62, 63, 64, 65, 66, 67, 68, 69, 70, 71, 72, 73, 74, 75, 76, 77, 78, 79, 80, 81, 82, 83, 84, 85, 86, 87, 88, 89, 90, 91, 92, 93, 94, 95, 96, 97, 98, 99, 100, 101, 102, 103, 104, 105] (by decide +kernel) (by decide +kernel)) (goodIn_sub (fun _ h => List.mem_cons_of_mem _ (List.mem_append_left _ (List.mem_append_left _ (List.mem_append_right _ h)))) (by decide +kernel))) (goodIn_sub (fun _ h => List.mem_cons_of_mem _ (List.mem_append_left _ (List.mem_append_right _ h))) (by decide +kernel))) (goodIn_sub (fun _ h => List.mem_cons_of_mem _ (List.mem_append_right _ h)) (by decide +kernel))) (goodIn_sub (fun _ h => List.mem_cons_of_mem _ (List.mem_append_left _ (List.mem_append_left _ (List.mem_append_left _ (List.mem_append_right _ h))))) (by decide +kernel))
