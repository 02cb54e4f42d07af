theorem dX0_init_0 : decode cX0_init 0 = .ok (.aload_n 0, 1) := by decide +kernel
theorem dX0_init_1 : decode cX0_init 1 = .ok (.invokespecial 3, 3) := by decide +kernel
theorem dX0_init_4 : decode cX0_init 4 = .ok (.aload_n 0, 1) := by decide +kernel
theorem dX0_init_5 : decode cX0_init 5 = .ok (.bipush 60, 2) := by decide +kernel
theorem dX0_init_7 : decode cX0_init 7 = .ok (.newarray .int, 2) := by decide +kernel
theorem dX0_init_9 : decode cX0_init 9 = .ok (.putfield 9, 3) := by decide +kernel
theorem dX0_init_12 : decode cX0_init 12 = .ok (.aload_n 0, 1) := by decide +kernel
theorem dX0_init_13 : decode cX0_init 13 = .ok (.bipush 60, 2) := by decide +kernel
theorem dX0_init_15 : decode cX0_init 15 = .ok (.newarray .int, 2) := by decide +kernel
theorem dX0_init_17 : decode cX0_init 17 = .ok (.putfield 15, 3) := by decide +kernel
theorem dX0_init_20 : decode cX0_init 20 = .ok (.aload_n 0, 1) := by decide +kernel
theorem dX0_init_21 : decode cX0_init 21 = .ok (.bipush 60, 2) := by decide +kernel
theorem dX0_init_23 : decode cX0_init 23 = .ok (.newarray .int, 2) := by decide +kernel
theorem dX0_init_25 : decode cX0_init 25 = .ok (.putfield 18, 3) := by decide +kernel
theorem dX0_init_28 : decode cX0_init 28 = .ok (.aload_n 0, 1) := by decide +kernel
theorem dX0_init_29 : decode cX0_init 29 = .ok (.bipush 60, 2) := by decide +kernel
theorem dX0_init_31 : decode cX0_init 31 = .ok (.newarray .int, 2) := by decide +kernel
theorem dX0_init_33 : decode cX0_init 33 = .ok (.putfield 21, 3) := by decide +kernel
theorem dX0_init_36 : decode cX0_init 36 = .ok (.return_, 1) := by decide +kernel
theorem dX0_isFull_0 : decode cX0_isFull 0 = .ok (.aload_n 0, 1) := by decide +kernel
theorem dX0_isFull_1 : decode cX0_isFull 1 = .ok (.getfield 24, 3) := by decide +kernel
theorem dX0_isFull_4 : decode cX0_isFull 4 = .ok (.bipush 60, 2) := by decide +kernel
theorem dX0_isFull_6 : decode cX0_isFull 6 = .ok (.if_icmp .lt 7, 3) := by decide +kernel
theorem dX0_isFull_9 : decode cX0_isFull 9 = .ok (.iconst 1, 1) := by decide +kernel
theorem dX0_isFull_10 : decode cX0_isFull 10 = .ok (.goto 4, 3) := by decide +kernel
theorem dX0_isFull_13 : decode cX0_isFull 13 = .ok (.iconst 0, 1) := by decide +kernel
theorem dX0_isFull_14 : decode cX0_isFull 14 = .ok (.ireturn, 1) := by decide +kernel
set_option maxRecDepth 20000 in
theorem ggX0_add_X0_isFull : GoodIn wsX0_add wsX0_isFull := goodIn_r _ [10, 2, 11, 12, 13, 14, 15] (by decide +kernel) (by decide +kernel)
set_option maxRecDepth 20000 in
theorem gX0_add_X0_isFull : GoodIn wsX0_add (wsV RX0 28 RX0 yX0_isFull wsX0_isFull) := goodIn_app (goodIn_of _ (by decide +kernel)) ggX0_add_X0_isFull
theorem dX0_add_0 : decode cX0_add 0 = .ok (.aload_n 0, 1) := by decide +kernel
theorem dX0_add_1 : decode cX0_add 1 = .ok (.invokevirtual 28, 3) := by decide +kernel
theorem dX0_add_4 : decode cX0_add 4 = .ok (.ifCond .eq 4, 3) := by decide +kernel
theorem dX0_add_7 : decode cX0_add 7 = .ok (.return_, 1) := by decide +kernel
theorem dX0_add_8 : decode cX0_add 8 = .ok (.aload_n 0, 1) := by decide +kernel
theorem dX0_add_9 : decode cX0_add 9 = .ok (.getfield 9, 3) := by decide +kernel
theorem dX0_add_12 : decode cX0_add 12 = .ok (.aload_n 0, 1) := by decide +kernel
theorem dX0_add_13 : decode cX0_add 13 = .ok (.getfield 24, 3) := by decide +kernel
theorem dX0_add_16 : decode cX0_add 16 = .ok (.iload_n 1, 1) := by decide +kernel
theorem dX0_add_17 : decode cX0_add 17 = .ok (.iastore, 1) := by decide +kernel
theorem dX0_add_18 : decode cX0_add 18 = .ok (.aload_n 0, 1) := by decide +kernel
theorem dX0_add_19 : decode cX0_add 19 = .ok (.getfield 15, 3) := by decide +kernel
theorem dX0_add_22 : decode cX0_add 22 = .ok (.aload_n 0, 1) := by decide +kernel
theorem dX0_add_23 : decode cX0_add 23 = .ok (.getfield 24, 3) := by decide +kernel
theorem dX0_add_26 : decode cX0_add 26 = .ok (.iload_n 2, 1) := by decide +kernel
theorem dX0_add_27 : decode cX0_add 27 = .ok (.iastore, 1) := by decide +kernel
theorem dX0_add_28 : decode cX0_add 28 = .ok (.aload_n 0, 1) := by decide +kernel
theorem dX0_add_29 : decode cX0_add 29 = .ok (.getfield 18, 3) := by decide +kernel
theorem dX0_add_32 : decode cX0_add 32 = .ok (.aload_n 0, 1) := by decide +kernel
theorem dX0_add_33 : decode cX0_add 33 = .ok (.getfield 24, 3) := by decide +kernel
theorem dX0_add_36 : decode cX0_add 36 = .ok (.iload_n 3, 1) := by decide +kernel
theorem dX0_add_37 : decode cX0_add 37 = .ok (.iastore, 1) := by decide +kernel
theorem dX0_add_38 : decode cX0_add 38 = .ok (.aload_n 0, 1) := by decide +kernel
theorem dX0_add_39 : decode cX0_add 39 = .ok (.getfield 21, 3) := by decide +kernel
theorem dX0_add_42 : decode cX0_add 42 = .ok (.aload_n 0, 1) := by decide +kernel
theorem dX0_add_43 : decode cX0_add 43 = .ok (.getfield 24, 3) := by decide +kernel
theorem dX0_add_46 : decode cX0_add 46 = .ok (.iload 4, 2) := by decide +kernel
theorem dX0_add_48 : decode cX0_add 48 = .ok (.iastore, 1) := by decide +kernel
theorem dX0_add_49 : decode cX0_add 49 = .ok (.aload_n 0, 1) := by decide +kernel
theorem dX0_add_50 : decode cX0_add 50 = .ok (.dup, 1) := by decide +kernel
theorem dX0_add_51 : decode cX0_add 51 = .ok (.getfield 24, 3) := by decide +kernel
theorem dX0_add_54 : decode cX0_add 54 = .ok (.iconst 1, 1) := by decide +kernel
theorem dX0_add_55 : decode cX0_add 55 = .ok (.iadd, 1) := by decide +kernel
theorem dX0_add_56 : decode cX0_add 56 = .ok (.putfield 24, 3) := by decide +kernel
theorem dX0_add_59 : decode cX0_add 59 = .ok (.return_, 1) := by decide +kernel
set_option maxRecDepth 20000 in
theorem ggX0_pointTo_X4_onDay : GoodIn wsX0_pointTo wsX4_onDay := goodIn_ca (goodIn_r _ [9, 10, 11, 12, 13, 14, 15, 8, 16, 17, 18, 19, 20, 21, 22, 28, 29, 30, 31, 32, 33, 34] (by decide +kernel) (by decide +kernel)) (goodIn_sub (fun _ h => List.mem_cons_of_mem _ (List.mem_append_right _ h)) (by decide +kernel))
set_option maxRecDepth 20000 in
theorem gX0_pointTo_X4_onDay : GoodIn wsX0_pointTo (wsV RX0 32 RX4 yX4_onDay wsX4_onDay) := goodIn_app (goodIn_of _ (by decide +kernel)) ggX0_pointTo_X4_onDay
theorem dX0_pointTo_0 : decode cX0_pointTo 0 = .ok (.iconst 0, 1) := by decide +kernel
theorem dX0_pointTo_1 : decode cX0_pointTo 1 = .ok (.istore_n 2, 1) := by decide +kernel
theorem dX0_pointTo_2 : decode cX0_pointTo 2 = .ok (.iconst 0, 1) := by decide +kernel
theorem dX0_pointTo_3 : decode cX0_pointTo 3 = .ok (.istore_n 3, 1) := by decide +kernel
theorem dX0_pointTo_4 : decode cX0_pointTo 4 = .ok (.iload_n 3, 1) := by decide +kernel
theorem dX0_pointTo_5 : decode cX0_pointTo 5 = .ok (.aload_n 0, 1) := by decide +kernel
theorem dX0_pointTo_6 : decode cX0_pointTo 6 = .ok (.getfield 24, 3) := by decide +kernel
theorem dX0_pointTo_9 : decode cX0_pointTo 9 = .ok (.if_icmp .ge 49, 3) := by decide +kernel
theorem dX0_pointTo_12 : decode cX0_pointTo 12 = .ok (.aload_n 1, 1) := by decide +kernel
theorem dX0_pointTo_13 : decode cX0_pointTo 13 = .ok (.aload_n 0, 1) := by decide +kernel
theorem dX0_pointTo_14 : decode cX0_pointTo 14 = .ok (.getfield 9, 3) := by decide +kernel
theorem dX0_pointTo_17 : decode cX0_pointTo 17 = .ok (.iload_n 3, 1) := by decide +kernel
theorem dX0_pointTo_18 : decode cX0_pointTo 18 = .ok (.iaload, 1) := by decide +kernel
theorem dX0_pointTo_19 : decode cX0_pointTo 19 = .ok (.aload_n 0, 1) := by decide +kernel
theorem dX0_pointTo_20 : decode cX0_pointTo 20 = .ok (.getfield 15, 3) := by decide +kernel
theorem dX0_pointTo_23 : decode cX0_pointTo 23 = .ok (.iload_n 3, 1) := by decide +kernel
theorem dX0_pointTo_24 : decode cX0_pointTo 24 = .ok (.iaload, 1) := by decide +kernel
theorem dX0_pointTo_25 : decode cX0_pointTo 25 = .ok (.invokevirtual 32, 3) := by decide +kernel
theorem dX0_pointTo_28 : decode cX0_pointTo 28 = .ok (.istore 4, 2) := by decide +kernel
theorem dX0_pointTo_30 : decode cX0_pointTo 30 = .ok (.iload 4, 2) := by decide +kernel
theorem dX0_pointTo_32 : decode cX0_pointTo 32 = .ok (.aload_n 0, 1) := by decide +kernel
theorem dX0_pointTo_33 : decode cX0_pointTo 33 = .ok (.getfield 21, 3) := by decide +kernel
theorem dX0_pointTo_36 : decode cX0_pointTo 36 = .ok (.iload_n 3, 1) := by decide +kernel
theorem dX0_pointTo_37 : decode cX0_pointTo 37 = .ok (.iaload, 1) := by decide +kernel
theorem dX0_pointTo_38 : decode cX0_pointTo 38 = .ok (.if_icmp .eq 14, 3) := by decide +kernel
theorem dX0_pointTo_41 : decode cX0_pointTo 41 = .ok (.aload_n 0, 1) := by decide +kernel
theorem dX0_pointTo_42 : decode cX0_pointTo 42 = .ok (.getfield 21, 3) := by decide +kernel
theorem dX0_pointTo_45 : decode cX0_pointTo 45 = .ok (.iload_n 3, 1) := by decide +kernel
theorem dX0_pointTo_46 : decode cX0_pointTo 46 = .ok (.iload 4, 2) := by decide +kernel
theorem dX0_pointTo_48 : decode cX0_pointTo 48 = .ok (.iastore, 1) := by decide +kernel
theorem dX0_pointTo_49 : decode cX0_pointTo 49 = .ok (.iinc 2 1, 3) := by decide +kernel
theorem dX0_pointTo_52 : decode cX0_pointTo 52 = .ok (.iinc 3 1, 3) := by decide +kernel
theorem dX0_pointTo_55 : decode cX0_pointTo 55 = .ok (.goto (-51), 3) := by decide +kernel
theorem dX0_pointTo_58 : decode cX0_pointTo 58 = .ok (.iload_n 2, 1) := by decide +kernel
theorem dX0_pointTo_59 : decode cX0_pointTo 59 = .ok (.ireturn, 1) := by decide +kernel
theorem dX0_pointFrom_0 : decode cX0_pointFrom 0 = .ok (.iconst 0, 1) := by decide +kernel
theorem dX0_pointFrom_1 : decode cX0_pointFrom 1 = .ok (.istore_n 3, 1) := by decide +kernel
theorem dX0_pointFrom_2 : decode cX0_pointFrom 2 = .ok (.iload_n 3, 1) := by decide +kernel
theorem dX0_pointFrom_3 : decode cX0_pointFrom 3 = .ok (.aload_n 0, 1) := by decide +kernel
theorem dX0_pointFrom_4 : decode cX0_pointFrom 4 = .ok (.getfield 24, 3) := by decide +kernel
theorem dX0_pointFrom_7 : decode cX0_pointFrom 7 = .ok (.if_icmp .ge 31, 3) := by decide +kernel
theorem dX0_pointFrom_10 : decode cX0_pointFrom 10 = .ok (.aload_n 0, 1) := by decide +kernel
theorem dX0_pointFrom_11 : decode cX0_pointFrom 11 = .ok (.getfield 21, 3) := by decide +kernel
theorem dX0_pointFrom_14 : decode cX0_pointFrom 14 = .ok (.iload_n 3, 1) := by decide +kernel
theorem dX0_pointFrom_15 : decode cX0_pointFrom 15 = .ok (.iaload, 1) := by decide +kernel
theorem dX0_pointFrom_16 : decode cX0_pointFrom 16 = .ok (.iload_n 2, 1) := by decide +kernel
theorem dX0_pointFrom_17 : decode cX0_pointFrom 17 = .ok (.if_icmp .ne 15, 3) := by decide +kernel
theorem dX0_pointFrom_20 : decode cX0_pointFrom 20 = .ok (.aload_n 0, 1) := by decide +kernel
theorem dX0_pointFrom_21 : decode cX0_pointFrom 21 = .ok (.getfield 15, 3) := by decide +kernel
theorem dX0_pointFrom_24 : decode cX0_pointFrom 24 = .ok (.iload_n 3, 1) := by decide +kernel
theorem dX0_pointFrom_25 : decode cX0_pointFrom 25 = .ok (.iaload, 1) := by decide +kernel
theorem dX0_pointFrom_26 : decode cX0_pointFrom 26 = .ok (.iload_n 1, 1) := by decide +kernel
theorem dX0_pointFrom_27 : decode cX0_pointFrom 27 = .ok (.if_icmp .lt 5, 3) := by decide +kernel
theorem dX0_pointFrom_30 : decode cX0_pointFrom 30 = .ok (.iconst 1, 1) := by decide +kernel
theorem dX0_pointFrom_31 : decode cX0_pointFrom 31 = .ok (.ireturn, 1) := by decide +kernel
theorem dX0_pointFrom_32 : decode cX0_pointFrom 32 = .ok (.iinc 3 1, 3) := by decide +kernel
theorem dX0_pointFrom_35 : decode cX0_pointFrom 35 = .ok (.goto (-33), 3) := by decide +kernel
theorem dX0_pointFrom_38 : decode cX0_pointFrom 38 = .ok (.iconst 0, 1) := by decide +kernel
theorem dX0_pointFrom_39 : decode cX0_pointFrom 39 = .ok (.ireturn, 1) := by decide +kernel
theorem dX0_countOf_0 : decode cX0_countOf 0 = .ok (.iconst 0, 1) := by decide +kernel
theorem dX0_countOf_1 : decode cX0_countOf 1 = .ok (.istore_n 2, 1) := by decide +kernel
theorem dX0_countOf_2 : decode cX0_countOf 2 = .ok (.iconst 0, 1) := by decide +kernel
theorem dX0_countOf_3 : decode cX0_countOf 3 = .ok (.istore_n 3, 1) := by decide +kernel
theorem dX0_countOf_4 : decode cX0_countOf 4 = .ok (.iload_n 3, 1) := by decide +kernel
theorem dX0_countOf_5 : decode cX0_countOf 5 = .ok (.aload_n 0, 1) := by decide +kernel
theorem dX0_countOf_6 : decode cX0_countOf 6 = .ok (.getfield 24, 3) := by decide +kernel
theorem dX0_countOf_9 : decode cX0_countOf 9 = .ok (.if_icmp .ge 22, 3) := by decide +kernel
theorem dX0_countOf_12 : decode cX0_countOf 12 = .ok (.aload_n 0, 1) := by decide +kernel
theorem dX0_countOf_13 : decode cX0_countOf 13 = .ok (.getfield 21, 3) := by decide +kernel
theorem dX0_countOf_16 : decode cX0_countOf 16 = .ok (.iload_n 3, 1) := by decide +kernel
theorem dX0_countOf_17 : decode cX0_countOf 17 = .ok (.iaload, 1) := by decide +kernel
theorem dX0_countOf_18 : decode cX0_countOf 18 = .ok (.iload_n 1, 1) := by decide +kernel
theorem dX0_countOf_19 : decode cX0_countOf 19 = .ok (.if_icmp .ne 6, 3) := by decide +kernel
theorem dX0_countOf_22 : decode cX0_countOf 22 = .ok (.iinc 2 1, 3) := by decide +kernel
theorem dX0_countOf_25 : decode cX0_countOf 25 = .ok (.iinc 3 1, 3) := by decide +kernel
theorem dX0_countOf_28 : decode cX0_countOf 28 = .ok (.goto (-24), 3) := by decide +kernel
theorem dX0_countOf_31 : decode cX0_countOf 31 = .ok (.iload_n 2, 1) := by decide +kernel
theorem dX0_countOf_32 : decode cX0_countOf 32 = .ok (.ireturn, 1) := by decide +kernel
theorem dX0_sumOf_0 : decode cX0_sumOf 0 = .ok (.lconst 0, 1) := by decide +kernel
theorem dX0_sumOf_1 : decode cX0_sumOf 1 = .ok (.lstore_n 2, 1) := by decide +kernel
theorem dX0_sumOf_2 : decode cX0_sumOf 2 = .ok (.iconst 0, 1) := by decide +kernel
theorem dX0_sumOf_3 : decode cX0_sumOf 3 = .ok (.istore 4, 2) := by decide +kernel
theorem dX0_sumOf_5 : decode cX0_sumOf 5 = .ok (.iload 4, 2) := by decide +kernel
theorem dX0_sumOf_7 : decode cX0_sumOf 7 = .ok (.aload_n 0, 1) := by decide +kernel
theorem dX0_sumOf_8 : decode cX0_sumOf 8 = .ok (.getfield 24, 3) := by decide +kernel
theorem dX0_sumOf_11 : decode cX0_sumOf 11 = .ok (.if_icmp .ge 31, 3) := by decide +kernel
theorem dX0_sumOf_14 : decode cX0_sumOf 14 = .ok (.aload_n 0, 1) := by decide +kernel
theorem dX0_sumOf_15 : decode cX0_sumOf 15 = .ok (.getfield 21, 3) := by decide +kernel
theorem dX0_sumOf_18 : decode cX0_sumOf 18 = .ok (.iload 4, 2) := by decide +kernel
theorem dX0_sumOf_20 : decode cX0_sumOf 20 = .ok (.iaload, 1) := by decide +kernel
theorem dX0_sumOf_21 : decode cX0_sumOf 21 = .ok (.iload_n 1, 1) := by decide +kernel
theorem dX0_sumOf_22 : decode cX0_sumOf 22 = .ok (.if_icmp .ne 14, 3) := by decide +kernel
theorem dX0_sumOf_25 : decode cX0_sumOf 25 = .ok (.lload_n 2, 1) := by decide +kernel
theorem dX0_sumOf_26 : decode cX0_sumOf 26 = .ok (.aload_n 0, 1) := by decide +kernel
theorem dX0_sumOf_27 : decode cX0_sumOf 27 = .ok (.getfield 18, 3) := by decide +kernel
theorem dX0_sumOf_30 : decode cX0_sumOf 30 = .ok (.iload 4, 2) := by decide +kernel
theorem dX0_sumOf_32 : decode cX0_sumOf 32 = .ok (.iaload, 1) := by decide +kernel
theorem dX0_sumOf_33 : decode cX0_sumOf 33 = .ok (.i2l, 1) := by decide +kernel
theorem dX0_sumOf_34 : decode cX0_sumOf 34 = .ok (.ladd, 1) := by decide +kernel
theorem dX0_sumOf_35 : decode cX0_sumOf 35 = .ok (.lstore_n 2, 1) := by decide +kernel
theorem dX0_sumOf_36 : decode cX0_sumOf 36 = .ok (.iinc 4 1, 3) := by decide +kernel
theorem dX0_sumOf_39 : decode cX0_sumOf 39 = .ok (.goto (-34), 3) := by decide +kernel
theorem dX0_sumOf_42 : decode cX0_sumOf 42 = .ok (.lload_n 2, 1) := by decide +kernel
theorem dX0_sumOf_43 : decode cX0_sumOf 43 = .ok (.lreturn, 1) := by decide +kernel
theorem dX1_init_0 : decode cX1_init 0 = .ok (.aload_n 0, 1) := by decide +kernel
theorem dX1_init_1 : decode cX1_init 1 = .ok (.invokespecial 3, 3) := by decide +kernel
theorem dX1_init_4 : decode cX1_init 4 = .ok (.aload_n 0, 1) := by decide +kernel
theorem dX1_init_5 : decode cX1_init 5 = .ok (.bipush 20, 2) := by decide +kernel
theorem dX1_init_7 : decode cX1_init 7 = .ok (.newarray .int, 2) := by decide +kernel
theorem dX1_init_9 : decode cX1_init 9 = .ok (.putfield 9, 3) := by decide +kernel
theorem dX1_init_12 : decode cX1_init 12 = .ok (.aload_n 0, 1) := by decide +kernel
theorem dX1_init_13 : decode cX1_init 13 = .ok (.bipush 20, 2) := by decide +kernel
theorem dX1_init_15 : decode cX1_init 15 = .ok (.newarray .int, 2) := by decide +kernel
theorem dX1_init_17 : decode cX1_init 17 = .ok (.putfield 15, 3) := by decide +kernel
theorem dX1_init_20 : decode cX1_init 20 = .ok (.aload_n 0, 1) := by decide +kernel
theorem dX1_init_21 : decode cX1_init 21 = .ok (.bipush 20, 2) := by decide +kernel
theorem dX1_init_23 : decode cX1_init 23 = .ok (.newarray .int, 2) := by decide +kernel
theorem dX1_init_25 : decode cX1_init 25 = .ok (.putfield 18, 3) := by decide +kernel
theorem dX1_init_28 : decode cX1_init 28 = .ok (.return_, 1) := by decide +kernel
set_option maxRecDepth 20000 in
theorem ggX2_init_X4_init : GoodIn wsX2_init wsX4_init := goodIn_r _ [17, 18, 2, 3, 19, 20, 21, 22, 23, 24, 25, 26, 40, 41, 42, 43, 44, 45, 46] (by decide +kernel) (by decide +kernel)
set_option maxRecDepth 20000 in
theorem gX2_init_X4_init_n9 : GoodIn wsX2_init (wsX4_init) := ggX2_init_X4_init
set_option maxRecDepth 20000 in
theorem ggX2_init_X0_init : GoodIn wsX2_init wsX0_init := goodIn_r _ [28, 29, 2, 3, 19, 30, 31, 32, 33, 50, 51, 52, 53, 54] (by decide +kernel) (by decide +kernel)
set_option maxRecDepth 20000 in
theorem gX2_init_X0_init_n18 : GoodIn wsX2_init (wsX0_init) := ggX2_init_X0_init
set_option maxRecDepth 20000 in
theorem ggX2_init_X1_init : GoodIn wsX2_init wsX1_init := goodIn_r _ [35, 36, 2, 3, 19, 37, 38, 39, 55, 56, 57, 58] (by decide +kernel) (by decide +kernel)
set_option maxRecDepth 20000 in
theorem gX2_init_X1_init_n25 : GoodIn wsX2_init (wsX1_init) := ggX2_init_X1_init
theorem dX2_init_0 : decode cX2_init 0 = .ok (.aload_n 0, 1) := by decide +kernel
theorem dX2_init_1 : decode cX2_init 1 = .ok (.invokespecial 1, 3) := by decide +kernel
theorem dX2_init_4 : decode cX2_init 4 = .ok (.aload_n 0, 1) := by decide +kernel
theorem dX2_init_5 : decode cX2_init 5 = .ok (.new 7, 3) := by decide +kernel
theorem dX2_init_8 : decode cX2_init 8 = .ok (.dup, 1) := by decide +kernel
theorem dX2_init_9 : decode cX2_init 9 = .ok (.invokespecial 9, 3) := by decide +kernel
theorem dX2_init_12 : decode cX2_init 12 = .ok (.putfield 10, 3) := by decide +kernel
theorem dX2_init_15 : decode cX2_init 15 = .ok (.aload_n 0, 1) := by decide +kernel
theorem dX2_init_16 : decode cX2_init 16 = .ok (.new 16, 3) := by decide +kernel
theorem dX2_init_19 : decode cX2_init 19 = .ok (.dup, 1) := by decide +kernel
theorem dX2_init_20 : decode cX2_init 20 = .ok (.invokespecial 18, 3) := by decide +kernel
theorem dX2_init_23 : decode cX2_init 23 = .ok (.putfield 19, 3) := by decide +kernel
theorem dX2_init_26 : decode cX2_init 26 = .ok (.aload_n 0, 1) := by decide +kernel
theorem dX2_init_27 : decode cX2_init 27 = .ok (.new 23, 3) := by decide +kernel
theorem dX2_init_30 : decode cX2_init 30 = .ok (.dup, 1) := by decide +kernel
theorem dX2_init_31 : decode cX2_init 31 = .ok (.invokespecial 25, 3) := by decide +kernel
theorem dX2_init_34 : decode cX2_init 34 = .ok (.putfield 26, 3) := by decide +kernel
theorem dX2_init_37 : decode cX2_init 37 = .ok (.return_, 1) := by decide +kernel
theorem dX3_init_0 : decode cX3_init 0 = .ok (.aload_n 0, 1) := by decide +kernel
theorem dX3_init_1 : decode cX3_init 1 = .ok (.invokespecial 3, 3) := by decide +kernel
theorem dX3_init_4 : decode cX3_init 4 = .ok (.aload_n 0, 1) := by decide +kernel
theorem dX3_init_5 : decode cX3_init 5 = .ok (.bipush 30, 2) := by decide +kernel
theorem dX3_init_7 : decode cX3_init 7 = .ok (.newarray .char, 2) := by decide +kernel
theorem dX3_init_9 : decode cX3_init 9 = .ok (.putfield 9, 3) := by decide +kernel
theorem dX3_init_12 : decode cX3_init 12 = .ok (.return_, 1) := by decide +kernel
theorem dX4_init_0 : decode cX4_init 0 = .ok (.aload_n 0, 1) := by decide +kernel
theorem dX4_init_1 : decode cX4_init 1 = .ok (.invokespecial 3, 3) := by decide +kernel
theorem dX4_init_4 : decode cX4_init 4 = .ok (.aload_n 0, 1) := by decide +kernel
theorem dX4_init_5 : decode cX4_init 5 = .ok (.bipush 60, 2) := by decide +kernel
theorem dX4_init_7 : decode cX4_init 7 = .ok (.newarray .int, 2) := by decide +kernel
theorem dX4_init_9 : decode cX4_init 9 = .ok (.putfield 9, 3) := by decide +kernel
theorem dX4_init_12 : decode cX4_init 12 = .ok (.aload_n 0, 1) := by decide +kernel
theorem dX4_init_13 : decode cX4_init 13 = .ok (.bipush 60, 2) := by decide +kernel
theorem dX4_init_15 : decode cX4_init 15 = .ok (.newarray .int, 2) := by decide +kernel
theorem dX4_init_17 : decode cX4_init 17 = .ok (.putfield 15, 3) := by decide +kernel
theorem dX4_init_20 : decode cX4_init 20 = .ok (.aload_n 0, 1) := by decide +kernel
theorem dX4_init_21 : decode cX4_init 21 = .ok (.bipush 60, 2) := by decide +kernel
theorem dX4_init_23 : decode cX4_init 23 = .ok (.newarray .int, 2) := by decide +kernel
theorem dX4_init_25 : decode cX4_init 25 = .ok (.putfield 18, 3) := by decide +kernel
theorem dX4_init_28 : decode cX4_init 28 = .ok (.aload_n 0, 1) := by decide +kernel
theorem dX4_init_29 : decode cX4_init 29 = .ok (.bipush 60, 2) := by decide +kernel
theorem dX4_init_31 : decode cX4_init 31 = .ok (.newarray .int, 2) := by decide +kernel
theorem dX4_init_33 : decode cX4_init 33 = .ok (.putfield 21, 3) := by decide +kernel
theorem dX4_init_36 : decode cX4_init 36 = .ok (.aload_n 0, 1) := by decide +kernel
theorem dX4_init_37 : decode cX4_init 37 = .ok (.bipush 60, 2) := by decide +kernel
theorem dX4_init_39 : decode cX4_init 39 = .ok (.newarray .boolean, 2) := by decide +kernel
theorem dX4_init_41 : decode cX4_init 41 = .ok (.putfield 24, 3) := by decide +kernel
theorem dX4_init_44 : decode cX4_init 44 = .ok (.aload_n 0, 1) := by decide +kernel
theorem dX4_init_45 : decode cX4_init 45 = .ok (.bipush 60, 2) := by decide +kernel
theorem dX4_init_47 : decode cX4_init 47 = .ok (.newarray .boolean, 2) := by decide +kernel
theorem dX4_init_49 : decode cX4_init 49 = .ok (.putfield 28, 3) := by decide +kernel
theorem dX4_init_52 : decode cX4_init 52 = .ok (.return_, 1) := by decide +kernel
theorem dX4_has_0 : decode cX4_has 0 = .ok (.iload_n 1, 1) := by decide +kernel
theorem dX4_has_1 : decode cX4_has 1 = .ok (.ifCond .lt 24, 3) := by decide +kernel
theorem dX4_has_4 : decode cX4_has 4 = .ok (.iload_n 1, 1) := by decide +kernel
theorem dX4_has_5 : decode cX4_has 5 = .ok (.aload_n 0, 1) := by decide +kernel
theorem dX4_has_6 : decode cX4_has 6 = .ok (.getfield 31, 3) := by decide +kernel
theorem dX4_has_9 : decode cX4_has 9 = .ok (.if_icmp .ge 16, 3) := by decide +kernel
theorem dX4_has_12 : decode cX4_has 12 = .ok (.aload_n 0, 1) := by decide +kernel
theorem dX4_has_13 : decode cX4_has 13 = .ok (.getfield 28, 3) := by decide +kernel
theorem dX4_has_16 : decode cX4_has 16 = .ok (.iload_n 1, 1) := by decide +kernel
theorem dX4_has_17 : decode cX4_has 17 = .ok (.baload, 1) := by decide +kernel
theorem dX4_has_18 : decode cX4_has 18 = .ok (.ifCond .ne 7, 3) := by decide +kernel
theorem dX4_has_21 : decode cX4_has 21 = .ok (.iconst 1, 1) := by decide +kernel
theorem dX4_has_22 : decode cX4_has 22 = .ok (.goto 4, 3) := by decide +kernel
theorem dX4_has_25 : decode cX4_has 25 = .ok (.iconst 0, 1) := by decide +kernel
theorem dX4_has_26 : decode cX4_has 26 = .ok (.ireturn, 1) := by decide +kernel
set_option maxRecDepth 20000 in
theorem ggX4_isOf_X4_has : GoodIn wsX4_isOf wsX4_has := goodIn_ca (goodIn_r _ [6, 7, 8, 9, 10, 11, 12, 13, 14, 15] (by decide +kernel) (by decide +kernel)) (goodIn_sub (fun _ h => List.mem_cons_of_mem _ (List.mem_append_right _ h)) (by decide +kernel))
set_option maxRecDepth 20000 in
theorem gX4_isOf_X4_has : GoodIn wsX4_isOf (wsV RX4 35 RX4 yX4_has wsX4_has) := goodIn_app (goodIn_of _ (by decide +kernel)) ggX4_isOf_X4_has
theorem dX4_isOf_0 : decode cX4_isOf 0 = .ok (.aload_n 0, 1) := by decide +kernel
theorem dX4_isOf_1 : decode cX4_isOf 1 = .ok (.iload_n 1, 1) := by decide +kernel
theorem dX4_isOf_2 : decode cX4_isOf 2 = .ok (.invokevirtual 35, 3) := by decide +kernel
theorem dX4_isOf_5 : decode cX4_isOf 5 = .ok (.ifCond .eq 17, 3) := by decide +kernel
theorem dX4_isOf_8 : decode cX4_isOf 8 = .ok (.aload_n 0, 1) := by decide +kernel
theorem dX4_isOf_9 : decode cX4_isOf 9 = .ok (.getfield 9, 3) := by decide +kernel
theorem dX4_isOf_12 : decode cX4_isOf 12 = .ok (.iload_n 1, 1) := by decide +kernel
theorem dX4_isOf_13 : decode cX4_isOf 13 = .ok (.iaload, 1) := by decide +kernel
theorem dX4_isOf_14 : decode cX4_isOf 14 = .ok (.iload_n 2, 1) := by decide +kernel
theorem dX4_isOf_15 : decode cX4_isOf 15 = .ok (.if_icmp .ne 7, 3) := by decide +kernel
theorem dX4_isOf_18 : decode cX4_isOf 18 = .ok (.iconst 1, 1) := by decide +kernel
theorem dX4_isOf_19 : decode cX4_isOf 19 = .ok (.goto 4, 3) := by decide +kernel
theorem dX4_isOf_22 : decode cX4_isOf 22 = .ok (.iconst 0, 1) := by decide +kernel
theorem dX4_isOf_23 : decode cX4_isOf 23 = .ok (.ireturn, 1) := by decide +kernel
set_option maxRecDepth 20000 in
theorem ggX4_valueOf_X4_has : GoodIn wsX4_valueOf wsX4_has := goodIn_ca (goodIn_r _ [6, 7, 8, 9, 10, 11, 12, 13, 14, 15] (by decide +kernel) (by decide +kernel)) (goodIn_sub (fun _ h => List.mem_cons_of_mem _ (List.mem_append_right _ h)) (by decide +kernel))
set_option maxRecDepth 20000 in
theorem gX4_valueOf_X4_has : GoodIn wsX4_valueOf (wsV RX4 35 RX4 yX4_has wsX4_has) := goodIn_app (goodIn_of _ (by decide +kernel)) ggX4_valueOf_X4_has
theorem dX4_valueOf_0 : decode cX4_valueOf 0 = .ok (.aload_n 0, 1) := by decide +kernel
theorem dX4_valueOf_1 : decode cX4_valueOf 1 = .ok (.iload_n 1, 1) := by decide +kernel
theorem dX4_valueOf_2 : decode cX4_valueOf 2 = .ok (.invokevirtual 35, 3) := by decide +kernel
theorem dX4_valueOf_5 : decode cX4_valueOf 5 = .ok (.ifCond .eq 12, 3) := by decide +kernel
theorem dX4_valueOf_8 : decode cX4_valueOf 8 = .ok (.aload_n 0, 1) := by decide +kernel
theorem dX4_valueOf_9 : decode cX4_valueOf 9 = .ok (.getfield 21, 3) := by decide +kernel
theorem dX4_valueOf_12 : decode cX4_valueOf 12 = .ok (.iload_n 1, 1) := by decide +kernel
theorem dX4_valueOf_13 : decode cX4_valueOf 13 = .ok (.iaload, 1) := by decide +kernel
theorem dX4_valueOf_14 : decode cX4_valueOf 14 = .ok (.goto 4, 3) := by decide +kernel
theorem dX4_valueOf_17 : decode cX4_valueOf 17 = .ok (.iconst 0, 1) := by decide +kernel
theorem dX4_valueOf_18 : decode cX4_valueOf 18 = .ok (.ireturn, 1) := by decide +kernel
set_option maxRecDepth 20000 in
theorem ggX4_days_X4_has : GoodIn wsX4_days wsX4_has := goodIn_ca (goodIn_r _ [7, 8, 9, 10, 11, 12, 13, 14, 15, 16] (by decide +kernel) (by decide +kernel)) (goodIn_sub (fun _ h => List.mem_cons_of_mem _ (List.mem_append_right _ h)) (by decide +kernel))
set_option maxRecDepth 20000 in
theorem gX4_days_X4_has : GoodIn wsX4_days (wsV RX4 35 RX4 yX4_has wsX4_has) := goodIn_app (goodIn_of _ (by decide +kernel)) ggX4_days_X4_has
theorem dX4_days_0 : decode cX4_days 0 = .ok (.aload_n 0, 1) := by decide +kernel
theorem dX4_days_1 : decode cX4_days 1 = .ok (.iload_n 1, 1) := by decide +kernel
theorem dX4_days_2 : decode cX4_days 2 = .ok (.invokevirtual 35, 3) := by decide +kernel
theorem dX4_days_5 : decode cX4_days 5 = .ok (.ifCond .eq 19, 3) := by decide +kernel
theorem dX4_days_8 : decode cX4_days 8 = .ok (.aload_n 0, 1) := by decide +kernel
theorem dX4_days_9 : decode cX4_days 9 = .ok (.getfield 18, 3) := by decide +kernel
theorem dX4_days_12 : decode cX4_days 12 = .ok (.iload_n 1, 1) := by decide +kernel
theorem dX4_days_13 : decode cX4_days 13 = .ok (.iaload, 1) := by decide +kernel
theorem dX4_days_14 : decode cX4_days 14 = .ok (.aload_n 0, 1) := by decide +kernel
theorem dX4_days_15 : decode cX4_days 15 = .ok (.getfield 15, 3) := by decide +kernel
theorem dX4_days_18 : decode cX4_days 18 = .ok (.iload_n 1, 1) := by decide +kernel
theorem dX4_days_19 : decode cX4_days 19 = .ok (.iaload, 1) := by decide +kernel
theorem dX4_days_20 : decode cX4_days 20 = .ok (.isub, 1) := by decide +kernel
theorem dX4_days_21 : decode cX4_days 21 = .ok (.goto 4, 3) := by decide +kernel
theorem dX4_days_24 : decode cX4_days 24 = .ok (.iconst 0, 1) := by decide +kernel
theorem dX4_days_25 : decode cX4_days 25 = .ok (.ireturn, 1) := by decide +kernel
set_option maxRecDepth 20000 in
theorem ggX4_onDay_X4_isOf : GoodIn wsX4_onDay wsX4_isOf := goodIn_ca (goodIn_r _ [8, 9, 10, 11, 12, 7, 13, 1, 14, 15, 16, 17, 18, 19, 20, 21] (by decide +kernel) (by decide +kernel)) (goodIn_sub (fun _ h => List.mem_cons_of_mem _ (List.mem_append_right _ h)) (by decide +kernel))
set_option maxRecDepth 20000 in
theorem gX4_onDay_X4_isOf : GoodIn wsX4_onDay (wsV RX4 39 RX4 yX4_isOf wsX4_isOf) := goodIn_app (goodIn_of _ (by decide +kernel)) ggX4_onDay_X4_isOf
theorem dX4_onDay_0 : decode cX4_onDay 0 = .ok (.iconst 0, 1) := by decide +kernel
theorem dX4_onDay_1 : decode cX4_onDay 1 = .ok (.istore_n 3, 1) := by decide +kernel
theorem dX4_onDay_2 : decode cX4_onDay 2 = .ok (.iload_n 3, 1) := by decide +kernel
theorem dX4_onDay_3 : decode cX4_onDay 3 = .ok (.aload_n 0, 1) := by decide +kernel
theorem dX4_onDay_4 : decode cX4_onDay 4 = .ok (.getfield 31, 3) := by decide +kernel
theorem dX4_onDay_7 : decode cX4_onDay 7 = .ok (.if_icmp .ge 40, 3) := by decide +kernel
theorem dX4_onDay_10 : decode cX4_onDay 10 = .ok (.aload_n 0, 1) := by decide +kernel
theorem dX4_onDay_11 : decode cX4_onDay 11 = .ok (.iload_n 3, 1) := by decide +kernel
theorem dX4_onDay_12 : decode cX4_onDay 12 = .ok (.iload_n 1, 1) := by decide +kernel
theorem dX4_onDay_13 : decode cX4_onDay 13 = .ok (.invokevirtual 39, 3) := by decide +kernel
theorem dX4_onDay_16 : decode cX4_onDay 16 = .ok (.ifCond .eq 25, 3) := by decide +kernel
theorem dX4_onDay_19 : decode cX4_onDay 19 = .ok (.aload_n 0, 1) := by decide +kernel
theorem dX4_onDay_20 : decode cX4_onDay 20 = .ok (.getfield 15, 3) := by decide +kernel
theorem dX4_onDay_23 : decode cX4_onDay 23 = .ok (.iload_n 3, 1) := by decide +kernel
theorem dX4_onDay_24 : decode cX4_onDay 24 = .ok (.iaload, 1) := by decide +kernel
theorem dX4_onDay_25 : decode cX4_onDay 25 = .ok (.iload_n 2, 1) := by decide +kernel
theorem dX4_onDay_26 : decode cX4_onDay 26 = .ok (.if_icmp .gt 15, 3) := by decide +kernel
theorem dX4_onDay_29 : decode cX4_onDay 29 = .ok (.iload_n 2, 1) := by decide +kernel
theorem dX4_onDay_30 : decode cX4_onDay 30 = .ok (.aload_n 0, 1) := by decide +kernel
theorem dX4_onDay_31 : decode cX4_onDay 31 = .ok (.getfield 18, 3) := by decide +kernel
theorem dX4_onDay_34 : decode cX4_onDay 34 = .ok (.iload_n 3, 1) := by decide +kernel
theorem dX4_onDay_35 : decode cX4_onDay 35 = .ok (.iaload, 1) := by decide +kernel
theorem dX4_onDay_36 : decode cX4_onDay 36 = .ok (.if_icmp .ge 5, 3) := by decide +kernel
theorem dX4_onDay_39 : decode cX4_onDay 39 = .ok (.iload_n 3, 1) := by decide +kernel
theorem dX4_onDay_40 : decode cX4_onDay 40 = .ok (.ireturn, 1) := by decide +kernel
theorem dX4_onDay_41 : decode cX4_onDay 41 = .ok (.iinc 3 1, 3) := by decide +kernel
theorem dX4_onDay_44 : decode cX4_onDay 44 = .ok (.goto (-42), 3) := by decide +kernel
theorem dX4_onDay_47 : decode cX4_onDay 47 = .ok (.iconst (-1), 1) := by decide +kernel
theorem dX4_onDay_48 : decode cX4_onDay 48 = .ok (.ireturn, 1) := by decide +kernel
set_option maxRecDepth 20000 in
theorem ggX4_next_X4_isOf : GoodIn wsX4_next wsX4_isOf := goodIn_ca (goodIn_r _ [7, 8, 9, 10, 11, 6, 12, 1, 13, 14, 15, 16, 17, 18, 19, 20] (by decide +kernel) (by decide +kernel)) (goodIn_sub (fun _ h => List.mem_cons_of_mem _ (List.mem_append_right _ h)) (by decide +kernel))
set_option maxRecDepth 20000 in
theorem gX4_next_X4_isOf : GoodIn wsX4_next (wsV RX4 39 RX4 yX4_isOf wsX4_isOf) := goodIn_app (goodIn_of _ (by decide +kernel)) ggX4_next_X4_isOf
theorem dX4_next_0 : decode cX4_next 0 = .ok (.iconst (-1), 1) := by decide +kernel
theorem dX4_next_1 : decode cX4_next 1 = .ok (.istore_n 3, 1) := by decide +kernel
theorem dX4_next_2 : decode cX4_next 2 = .ok (.iconst 0, 1) := by decide +kernel
theorem dX4_next_3 : decode cX4_next 3 = .ok (.istore 4, 2) := by decide +kernel
theorem dX4_next_5 : decode cX4_next 5 = .ok (.iload 4, 2) := by decide +kernel
theorem dX4_next_7 : decode cX4_next 7 = .ok (.aload_n 0, 1) := by decide +kernel
theorem dX4_next_8 : decode cX4_next 8 = .ok (.getfield 31, 3) := by decide +kernel
theorem dX4_next_11 : decode cX4_next 11 = .ok (.if_icmp .ge 54, 3) := by decide +kernel
theorem dX4_next_14 : decode cX4_next 14 = .ok (.aload_n 0, 1) := by decide +kernel
theorem dX4_next_15 : decode cX4_next 15 = .ok (.iload 4, 2) := by decide +kernel
theorem dX4_next_17 : decode cX4_next 17 = .ok (.iload_n 1, 1) := by decide +kernel
theorem dX4_next_18 : decode cX4_next 18 = .ok (.invokevirtual 39, 3) := by decide +kernel
theorem dX4_next_21 : decode cX4_next 21 = .ok (.ifCond .eq 38, 3) := by decide +kernel
theorem dX4_next_24 : decode cX4_next 24 = .ok (.aload_n 0, 1) := by decide +kernel
theorem dX4_next_25 : decode cX4_next 25 = .ok (.getfield 15, 3) := by decide +kernel
theorem dX4_next_28 : decode cX4_next 28 = .ok (.iload 4, 2) := by decide +kernel
theorem dX4_next_30 : decode cX4_next 30 = .ok (.iaload, 1) := by decide +kernel
theorem dX4_next_31 : decode cX4_next 31 = .ok (.iload_n 2, 1) := by decide +kernel
theorem dX4_next_32 : decode cX4_next 32 = .ok (.if_icmp .le 27, 3) := by decide +kernel
theorem dX4_next_35 : decode cX4_next 35 = .ok (.iload_n 3, 1) := by decide +kernel
theorem dX4_next_36 : decode cX4_next 36 = .ok (.iconst (-1), 1) := by decide +kernel
theorem dX4_next_37 : decode cX4_next 37 = .ok (.if_icmp .eq 19, 3) := by decide +kernel
theorem dX4_next_40 : decode cX4_next 40 = .ok (.aload_n 0, 1) := by decide +kernel
theorem dX4_next_41 : decode cX4_next 41 = .ok (.getfield 15, 3) := by decide +kernel
theorem dX4_next_44 : decode cX4_next 44 = .ok (.iload 4, 2) := by decide +kernel
theorem dX4_next_46 : decode cX4_next 46 = .ok (.iaload, 1) := by decide +kernel
theorem dX4_next_47 : decode cX4_next 47 = .ok (.aload_n 0, 1) := by decide +kernel
theorem dX4_next_48 : decode cX4_next 48 = .ok (.getfield 15, 3) := by decide +kernel
theorem dX4_next_51 : decode cX4_next 51 = .ok (.iload_n 3, 1) := by decide +kernel
theorem dX4_next_52 : decode cX4_next 52 = .ok (.iaload, 1) := by decide +kernel
theorem dX4_next_53 : decode cX4_next 53 = .ok (.if_icmp .ge 6, 3) := by decide +kernel
theorem dX4_next_56 : decode cX4_next 56 = .ok (.iload 4, 2) := by decide +kernel
theorem dX4_next_58 : decode cX4_next 58 = .ok (.istore_n 3, 1) := by decide +kernel
theorem dX4_next_59 : decode cX4_next 59 = .ok (.iinc 4 1, 3) := by decide +kernel
theorem dX4_next_62 : decode cX4_next 62 = .ok (.goto (-57), 3) := by decide +kernel
theorem dX4_next_65 : decode cX4_next 65 = .ok (.iload_n 3, 1) := by decide +kernel
theorem dX4_next_66 : decode cX4_next 66 = .ok (.ireturn, 1) := by decide +kernel
set_option maxRecDepth 20000 in
theorem ggX4_nextFirst_X4_next : GoodIn wsX4_nextFirst wsX4_next := goodIn_ca (goodIn_r _ [6, 7, 1, 8, 9, 10, 5, 11, 12, 13, 14, 15, 16, 17, 18, 19, 20, 21, 22, 23, 24] (by decide +kernel) (by decide +kernel)) (goodIn_sub (fun _ h => List.mem_cons_of_mem _ (List.mem_append_right _ h)) (by decide +kernel))
set_option maxRecDepth 20000 in
theorem gX4_nextFirst_X4_next : GoodIn wsX4_nextFirst (wsV RX4 43 RX4 yX4_next wsX4_next) := goodIn_app (goodIn_of _ (by decide +kernel)) ggX4_nextFirst_X4_next
theorem dX4_nextFirst_0 : decode cX4_nextFirst 0 = .ok (.aload_n 0, 1) := by decide +kernel
theorem dX4_nextFirst_1 : decode cX4_nextFirst 1 = .ok (.iload_n 1, 1) := by decide +kernel
theorem dX4_nextFirst_2 : decode cX4_nextFirst 2 = .ok (.iload_n 2, 1) := by decide +kernel
theorem dX4_nextFirst_3 : decode cX4_nextFirst 3 = .ok (.invokevirtual 43, 3) := by decide +kernel
theorem dX4_nextFirst_6 : decode cX4_nextFirst 6 = .ok (.istore_n 3, 1) := by decide +kernel
theorem dX4_nextFirst_7 : decode cX4_nextFirst 7 = .ok (.iload_n 3, 1) := by decide +kernel
theorem dX4_nextFirst_8 : decode cX4_nextFirst 8 = .ok (.iconst (-1), 1) := by decide +kernel
theorem dX4_nextFirst_9 : decode cX4_nextFirst 9 = .ok (.if_icmp .ne 9, 3) := by decide +kernel
theorem dX4_nextFirst_12 : decode cX4_nextFirst 12 = .ok (.sipush 1000, 3) := by decide +kernel
theorem dX4_nextFirst_15 : decode cX4_nextFirst 15 = .ok (.goto 9, 3) := by decide +kernel
theorem dX4_nextFirst_18 : decode cX4_nextFirst 18 = .ok (.aload_n 0, 1) := by decide +kernel
theorem dX4_nextFirst_19 : decode cX4_nextFirst 19 = .ok (.getfield 15, 3) := by decide +kernel
theorem dX4_nextFirst_22 : decode cX4_nextFirst 22 = .ok (.iload_n 3, 1) := by decide +kernel
theorem dX4_nextFirst_23 : decode cX4_nextFirst 23 = .ok (.iaload, 1) := by decide +kernel
theorem dX4_nextFirst_24 : decode cX4_nextFirst 24 = .ok (.ireturn, 1) := by decide +kernel
set_option maxRecDepth 20000 in
theorem ggX4_put_X4_onDay : GoodIn wsX4_put wsX4_onDay := goodIn_ca (goodIn_r _ [8, 9, 1, 10, 11, 12, 13, 7, 14, 15, 16, 17, 18, 19, 20, 41, 42, 43, 44, 45, 46, 47] (by decide +kernel) (by decide +kernel)) (goodIn_sub (fun _ h => List.mem_cons_of_mem _ (List.mem_append_right _ h)) (by decide +kernel))
set_option maxRecDepth 20000 in
theorem gX4_put_X4_onDay : GoodIn wsX4_put (wsV RX4 47 RX4 yX4_onDay wsX4_onDay) := goodIn_app (goodIn_of _ (by decide +kernel)) ggX4_put_X4_onDay
set_option maxRecDepth 20000 in
theorem ggX4_put_X4_cover : GoodIn wsX4_put wsX4_cover := goodIn_ca (goodIn_r _ [24, 2, 1, 4, 5, 6, 7, 8, 9, 10, 11, 12, 13, 14, 15, 16, 17, 18, 19, 20, 25, 26, 27, 28, 29, 30, 31, 32, 3, 41, 42, 43, 44, 45, 46, 47] (by decide +kernel) (by decide +kernel)) (goodIn_sub (fun _ h => List.mem_cons_of_mem _ (List.mem_append_right _ h)) (by decide +kernel))
set_option maxRecDepth 20000 in
theorem gX4_put_X4_cover : GoodIn wsX4_put (wsV RX4 50 RX4 yX4_cover wsX4_cover) := goodIn_app (goodIn_of _ (by decide +kernel)) ggX4_put_X4_cover
set_option maxRecDepth 20000 in
theorem ggX4_put_X4_split : GoodIn wsX4_put wsX4_split := goodIn_ca (goodIn_r _ [36, 15, 10, 29, 30, 31, 7, 32, 9, 1, 3, 2, 20, 41, 42, 43, 44, 45, 46, 47] (by decide +kernel) (by decide +kernel)) (goodIn_sub (fun _ h => List.mem_cons_of_mem _ (List.mem_append_right _ h)) (by decide +kernel))
set_option maxRecDepth 20000 in
theorem gX4_put_X4_split : GoodIn wsX4_put (wsV RX4 53 RX4 yX4_split wsX4_split) := goodIn_app (goodIn_of _ (by decide +kernel)) ggX4_put_X4_split
set_option maxRecDepth 20000 in
theorem ggX4_put_X4_settle : GoodIn wsX4_put wsX4_settle := goodIn_ca (goodIn_r _ [40, 3, 2, 16, 17, 18, 7, 19, 9, 20, 41, 42, 43, 44, 45, 46, 47] (by decide +kernel) (by decide +kernel)) (goodIn_sub (fun _ h => List.mem_cons_of_mem _ (List.mem_append_right _ h)) (by decide +kernel))
set_option maxRecDepth 20000 in
theorem gX4_put_X4_settle : GoodIn wsX4_put (wsV RX4 56 RX4 yX4_settle wsX4_settle) := goodIn_app (goodIn_of _ (by decide +kernel)) ggX4_put_X4_settle
theorem dX4_put_0 : decode cX4_put 0 = .ok (.aload_n 0, 1) := by decide +kernel
theorem dX4_put_1 : decode cX4_put 1 = .ok (.iload_n 1, 1) := by decide +kernel
theorem dX4_put_2 : decode cX4_put 2 = .ok (.iload_n 2, 1) := by decide +kernel
theorem dX4_put_3 : decode cX4_put 3 = .ok (.invokevirtual 47, 3) := by decide +kernel
theorem dX4_put_6 : decode cX4_put 6 = .ok (.istore 4, 2) := by decide +kernel
theorem dX4_put_8 : decode cX4_put 8 = .ok (.iload 4, 2) := by decide +kernel
theorem dX4_put_10 : decode cX4_put 10 = .ok (.iconst (-1), 1) := by decide +kernel
theorem dX4_put_11 : decode cX4_put 11 = .ok (.if_icmp .ne 14, 3) := by decide +kernel
theorem dX4_put_14 : decode cX4_put 14 = .ok (.aload_n 0, 1) := by decide +kernel
theorem dX4_put_15 : decode cX4_put 15 = .ok (.iload_n 1, 1) := by decide +kernel
theorem dX4_put_16 : decode cX4_put 16 = .ok (.iload_n 2, 1) := by decide +kernel
theorem dX4_put_17 : decode cX4_put 17 = .ok (.invokevirtual 50, 3) := by decide +kernel
theorem dX4_put_20 : decode cX4_put 20 = .ok (.istore 4, 2) := by decide +kernel
theorem dX4_put_22 : decode cX4_put 22 = .ok (.goto 47, 3) := by decide +kernel
theorem dX4_put_25 : decode cX4_put 25 = .ok (.aload_n 0, 1) := by decide +kernel
theorem dX4_put_26 : decode cX4_put 26 = .ok (.getfield 15, 3) := by decide +kernel
theorem dX4_put_29 : decode cX4_put 29 = .ok (.iload 4, 2) := by decide +kernel
theorem dX4_put_31 : decode cX4_put 31 = .ok (.iaload, 1) := by decide +kernel
theorem dX4_put_32 : decode cX4_put 32 = .ok (.iload_n 2, 1) := by decide +kernel
theorem dX4_put_33 : decode cX4_put 33 = .ok (.if_icmp .ge 36, 3) := by decide +kernel
theorem dX4_put_36 : decode cX4_put 36 = .ok (.aload_n 0, 1) := by decide +kernel
theorem dX4_put_37 : decode cX4_put 37 = .ok (.getfield 24, 3) := by decide +kernel
theorem dX4_put_40 : decode cX4_put 40 = .ok (.iload 4, 2) := by decide +kernel
theorem dX4_put_42 : decode cX4_put 42 = .ok (.baload, 1) := by decide +kernel
theorem dX4_put_43 : decode cX4_put 43 = .ok (.ifCond .ne 17, 3) := by decide +kernel
theorem dX4_put_46 : decode cX4_put 46 = .ok (.aload_n 0, 1) := by decide +kernel
theorem dX4_put_47 : decode cX4_put 47 = .ok (.getfield 21, 3) := by decide +kernel
theorem dX4_put_50 : decode cX4_put 50 = .ok (.iload 4, 2) := by decide +kernel
theorem dX4_put_52 : decode cX4_put 52 = .ok (.iaload, 1) := by decide +kernel
theorem dX4_put_53 : decode cX4_put 53 = .ok (.iload_n 3, 1) := by decide +kernel
theorem dX4_put_54 : decode cX4_put 54 = .ok (.if_icmp .ne 6, 3) := by decide +kernel
theorem dX4_put_57 : decode cX4_put 57 = .ok (.iload 4, 2) := by decide +kernel
theorem dX4_put_59 : decode cX4_put 59 = .ok (.ireturn, 1) := by decide +kernel
theorem dX4_put_60 : decode cX4_put 60 = .ok (.aload_n 0, 1) := by decide +kernel
theorem dX4_put_61 : decode cX4_put 61 = .ok (.iload 4, 2) := by decide +kernel
theorem dX4_put_63 : decode cX4_put 63 = .ok (.iload_n 2, 1) := by decide +kernel
theorem dX4_put_64 : decode cX4_put 64 = .ok (.invokevirtual 53, 3) := by decide +kernel
theorem dX4_put_67 : decode cX4_put 67 = .ok (.istore 4, 2) := by decide +kernel
theorem dX4_put_69 : decode cX4_put 69 = .ok (.iload 4, 2) := by decide +kernel
theorem dX4_put_71 : decode cX4_put 71 = .ok (.iconst (-1), 1) := by decide +kernel
theorem dX4_put_72 : decode cX4_put 72 = .ok (.if_icmp .eq 10, 3) := by decide +kernel
theorem dX4_put_75 : decode cX4_put 75 = .ok (.aload_n 0, 1) := by decide +kernel
theorem dX4_put_76 : decode cX4_put 76 = .ok (.iload 4, 2) := by decide +kernel
theorem dX4_put_78 : decode cX4_put 78 = .ok (.iload_n 3, 1) := by decide +kernel
theorem dX4_put_79 : decode cX4_put 79 = .ok (.invokevirtual 56, 3) := by decide +kernel
theorem dX4_put_82 : decode cX4_put 82 = .ok (.iload 4, 2) := by decide +kernel
theorem dX4_put_84 : decode cX4_put 84 = .ok (.ireturn, 1) := by decide +kernel
set_option maxRecDepth 20000 in
theorem ggX4_cover_X4_onDay : GoodIn wsX4_cover wsX4_onDay := goodIn_ca (goodIn_r _ [7, 8, 2, 9, 10, 11, 12, 6, 13, 14, 15, 16, 17, 18, 19, 29, 30, 31, 32, 33, 34, 35] (by decide +kernel) (by decide +kernel)) (goodIn_sub (fun _ h => List.mem_cons_of_mem _ (List.mem_append_right _ h)) (by decide +kernel))
set_option maxRecDepth 20000 in
theorem gX4_cover_X4_onDay : GoodIn wsX4_cover (wsV RX4 47 RX4 yX4_onDay wsX4_onDay) := goodIn_app (goodIn_of _ (by decide +kernel)) ggX4_cover_X4_onDay
set_option maxRecDepth 20000 in
theorem ggX4_cover_X4_next : GoodIn wsX4_cover wsX4_next := goodIn_ca (goodIn_r _ [23, 8, 2, 10, 11, 12, 6, 13, 14, 15, 16, 17, 18, 19, 29, 30, 31, 32, 33, 34, 35] (by decide +kernel) (by decide +kernel)) (goodIn_sub (fun _ h => List.mem_cons_of_mem _ (List.mem_append_right _ h)) (by decide +kernel))
set_option maxRecDepth 20000 in
theorem gX4_cover_X4_next : GoodIn wsX4_cover (wsV RX4 43 RX4 yX4_next wsX4_next) := goodIn_app (goodIn_of _ (by decide +kernel)) ggX4_cover_X4_next
set_option maxRecDepth 20000 in
theorem ggX4_cover_X4_make : GoodIn wsX4_cover wsX4_make := goodIn_ca (goodIn_r _ [27, 8, 14, 2, 9, 28, 1, 19, 29, 30, 31, 32, 33, 34, 35] (by decide +kernel) (by decide +kernel)) (goodIn_sub (fun _ h => List.mem_cons_of_mem _ (List.mem_append_right _ h)) (by decide +kernel))
set_option maxRecDepth 20000 in
theorem gX4_cover_X4_make : GoodIn wsX4_cover (wsV RX4 60 RX4 yX4_make wsX4_make) := goodIn_app (goodIn_of _ (by decide +kernel)) ggX4_cover_X4_make
theorem dX4_cover_0 : decode cX4_cover 0 = .ok (.aload_n 0, 1) := by decide +kernel
theorem dX4_cover_1 : decode cX4_cover 1 = .ok (.iload_n 1, 1) := by decide +kernel
theorem dX4_cover_2 : decode cX4_cover 2 = .ok (.iload_n 2, 1) := by decide +kernel
theorem dX4_cover_3 : decode cX4_cover 3 = .ok (.invokevirtual 47, 3) := by decide +kernel
theorem dX4_cover_6 : decode cX4_cover 6 = .ok (.istore_n 3, 1) := by decide +kernel
theorem dX4_cover_7 : decode cX4_cover 7 = .ok (.iload_n 3, 1) := by decide +kernel
theorem dX4_cover_8 : decode cX4_cover 8 = .ok (.iconst (-1), 1) := by decide +kernel
theorem dX4_cover_9 : decode cX4_cover 9 = .ok (.if_icmp .eq 5, 3) := by decide +kernel
theorem dX4_cover_12 : decode cX4_cover 12 = .ok (.iload_n 3, 1) := by decide +kernel
theorem dX4_cover_13 : decode cX4_cover 13 = .ok (.ireturn, 1) := by decide +kernel
theorem dX4_cover_14 : decode cX4_cover 14 = .ok (.aload_n 0, 1) := by decide +kernel
theorem dX4_cover_15 : decode cX4_cover 15 = .ok (.iload_n 1, 1) := by decide +kernel
theorem dX4_cover_16 : decode cX4_cover 16 = .ok (.iload_n 2, 1) := by decide +kernel
theorem dX4_cover_17 : decode cX4_cover 17 = .ok (.invokevirtual 43, 3) := by decide +kernel
theorem dX4_cover_20 : decode cX4_cover 20 = .ok (.istore 4, 2) := by decide +kernel
theorem dX4_cover_22 : decode cX4_cover 22 = .ok (.iload 4, 2) := by decide +kernel
theorem dX4_cover_24 : decode cX4_cover 24 = .ok (.iconst (-1), 1) := by decide +kernel
theorem dX4_cover_25 : decode cX4_cover 25 = .ok (.if_icmp .eq 24, 3) := by decide +kernel
theorem dX4_cover_28 : decode cX4_cover 28 = .ok (.aload_n 0, 1) := by decide +kernel
theorem dX4_cover_29 : decode cX4_cover 29 = .ok (.getfield 24, 3) := by decide +kernel
theorem dX4_cover_32 : decode cX4_cover 32 = .ok (.iload 4, 2) := by decide +kernel
theorem dX4_cover_34 : decode cX4_cover 34 = .ok (.baload, 1) := by decide +kernel
theorem dX4_cover_35 : decode cX4_cover 35 = .ok (.ifCond .eq 14, 3) := by decide +kernel
theorem dX4_cover_38 : decode cX4_cover 38 = .ok (.aload_n 0, 1) := by decide +kernel
theorem dX4_cover_39 : decode cX4_cover 39 = .ok (.getfield 15, 3) := by decide +kernel
theorem dX4_cover_42 : decode cX4_cover 42 = .ok (.iload 4, 2) := by decide +kernel
theorem dX4_cover_44 : decode cX4_cover 44 = .ok (.iload_n 2, 1) := by decide +kernel
theorem dX4_cover_45 : decode cX4_cover 45 = .ok (.iastore, 1) := by decide +kernel
theorem dX4_cover_46 : decode cX4_cover 46 = .ok (.iload 4, 2) := by decide +kernel
theorem dX4_cover_48 : decode cX4_cover 48 = .ok (.ireturn, 1) := by decide +kernel
theorem dX4_cover_49 : decode cX4_cover 49 = .ok (.aload_n 0, 1) := by decide +kernel
theorem dX4_cover_50 : decode cX4_cover 50 = .ok (.iload_n 1, 1) := by decide +kernel
theorem dX4_cover_51 : decode cX4_cover 51 = .ok (.iload_n 2, 1) := by decide +kernel
theorem dX4_cover_52 : decode cX4_cover 52 = .ok (.iload 4, 2) := by decide +kernel
theorem dX4_cover_54 : decode cX4_cover 54 = .ok (.iconst (-1), 1) := by decide +kernel
theorem dX4_cover_55 : decode cX4_cover 55 = .ok (.if_icmp .ne 9, 3) := by decide +kernel
theorem dX4_cover_58 : decode cX4_cover 58 = .ok (.sipush 1000, 3) := by decide +kernel
theorem dX4_cover_61 : decode cX4_cover 61 = .ok (.goto 10, 3) := by decide +kernel
theorem dX4_cover_64 : decode cX4_cover 64 = .ok (.aload_n 0, 1) := by decide +kernel
theorem dX4_cover_65 : decode cX4_cover 65 = .ok (.getfield 15, 3) := by decide +kernel
theorem dX4_cover_68 : decode cX4_cover 68 = .ok (.iload 4, 2) := by decide +kernel
theorem dX4_cover_70 : decode cX4_cover 70 = .ok (.iaload, 1) := by decide +kernel
theorem dX4_cover_71 : decode cX4_cover 71 = .ok (.invokevirtual 60, 3) := by decide +kernel
theorem dX4_cover_74 : decode cX4_cover 74 = .ok (.ireturn, 1) := by decide +kernel
set_option maxRecDepth 20000 in
theorem ggX4_split_X4_make : GoodIn wsX4_split wsX4_make := goodIn_ca (goodIn_r _ [7, 8, 1, 9, 2, 10, 11, 12, 13, 14, 15, 16, 17, 18, 19] (by decide +kernel) (by decide +kernel)) (goodIn_sub (fun _ h => List.mem_cons_of_mem _ (List.mem_append_right _ h)) (by decide +kernel))
set_option maxRecDepth 20000 in
theorem gX4_split_X4_make : GoodIn wsX4_split (wsV RX4 60 RX4 yX4_make wsX4_make) := goodIn_app (goodIn_of _ (by decide +kernel)) ggX4_split_X4_make
theorem dX4_split_0 : decode cX4_split 0 = .ok (.aload_n 0, 1) := by decide +kernel
theorem dX4_split_1 : decode cX4_split 1 = .ok (.aload_n 0, 1) := by decide +kernel
theorem dX4_split_2 : decode cX4_split 2 = .ok (.getfield 9, 3) := by decide +kernel
theorem dX4_split_5 : decode cX4_split 5 = .ok (.iload_n 1, 1) := by decide +kernel
theorem dX4_split_6 : decode cX4_split 6 = .ok (.iaload, 1) := by decide +kernel
theorem dX4_split_7 : decode cX4_split 7 = .ok (.iload_n 2, 1) := by decide +kernel
theorem dX4_split_8 : decode cX4_split 8 = .ok (.aload_n 0, 1) := by decide +kernel
theorem dX4_split_9 : decode cX4_split 9 = .ok (.getfield 18, 3) := by decide +kernel
theorem dX4_split_12 : decode cX4_split 12 = .ok (.iload_n 1, 1) := by decide +kernel
theorem dX4_split_13 : decode cX4_split 13 = .ok (.iaload, 1) := by decide +kernel
theorem dX4_split_14 : decode cX4_split 14 = .ok (.invokevirtual 60, 3) := by decide +kernel
theorem dX4_split_17 : decode cX4_split 17 = .ok (.istore_n 3, 1) := by decide +kernel
theorem dX4_split_18 : decode cX4_split 18 = .ok (.iload_n 3, 1) := by decide +kernel
theorem dX4_split_19 : decode cX4_split 19 = .ok (.iconst (-1), 1) := by decide +kernel
theorem dX4_split_20 : decode cX4_split 20 = .ok (.if_icmp .eq 10, 3) := by decide +kernel
theorem dX4_split_23 : decode cX4_split 23 = .ok (.aload_n 0, 1) := by decide +kernel
theorem dX4_split_24 : decode cX4_split 24 = .ok (.getfield 18, 3) := by decide +kernel
theorem dX4_split_27 : decode cX4_split 27 = .ok (.iload_n 1, 1) := by decide +kernel
theorem dX4_split_28 : decode cX4_split 28 = .ok (.iload_n 2, 1) := by decide +kernel
theorem dX4_split_29 : decode cX4_split 29 = .ok (.iastore, 1) := by decide +kernel
theorem dX4_split_30 : decode cX4_split 30 = .ok (.iload_n 3, 1) := by decide +kernel
theorem dX4_split_31 : decode cX4_split 31 = .ok (.ireturn, 1) := by decide +kernel
theorem dX4_make_0 : decode cX4_make 0 = .ok (.aload_n 0, 1) := by decide +kernel
theorem dX4_make_1 : decode cX4_make 1 = .ok (.getfield 31, 3) := by decide +kernel
theorem dX4_make_4 : decode cX4_make 4 = .ok (.bipush 60, 2) := by decide +kernel
theorem dX4_make_6 : decode cX4_make 6 = .ok (.if_icmp .lt 5, 3) := by decide +kernel
theorem dX4_make_9 : decode cX4_make 9 = .ok (.iconst (-1), 1) := by decide +kernel
theorem dX4_make_10 : decode cX4_make 10 = .ok (.ireturn, 1) := by decide +kernel
theorem dX4_make_11 : decode cX4_make 11 = .ok (.aload_n 0, 1) := by decide +kernel
theorem dX4_make_12 : decode cX4_make 12 = .ok (.getfield 31, 3) := by decide +kernel
theorem dX4_make_15 : decode cX4_make 15 = .ok (.istore 4, 2) := by decide +kernel
theorem dX4_make_17 : decode cX4_make 17 = .ok (.aload_n 0, 1) := by decide +kernel
theorem dX4_make_18 : decode cX4_make 18 = .ok (.dup, 1) := by decide +kernel
theorem dX4_make_19 : decode cX4_make 19 = .ok (.getfield 31, 3) := by decide +kernel
theorem dX4_make_22 : decode cX4_make 22 = .ok (.iconst 1, 1) := by decide +kernel
theorem dX4_make_23 : decode cX4_make 23 = .ok (.iadd, 1) := by decide +kernel
theorem dX4_make_24 : decode cX4_make 24 = .ok (.putfield 31, 3) := by decide +kernel
theorem dX4_make_27 : decode cX4_make 27 = .ok (.aload_n 0, 1) := by decide +kernel
theorem dX4_make_28 : decode cX4_make 28 = .ok (.getfield 9, 3) := by decide +kernel
theorem dX4_make_31 : decode cX4_make 31 = .ok (.iload 4, 2) := by decide +kernel
theorem dX4_make_33 : decode cX4_make 33 = .ok (.iload_n 1, 1) := by decide +kernel
theorem dX4_make_34 : decode cX4_make 34 = .ok (.iastore, 1) := by decide +kernel
theorem dX4_make_35 : decode cX4_make 35 = .ok (.aload_n 0, 1) := by decide +kernel
theorem dX4_make_36 : decode cX4_make 36 = .ok (.getfield 15, 3) := by decide +kernel
theorem dX4_make_39 : decode cX4_make 39 = .ok (.iload 4, 2) := by decide +kernel
theorem dX4_make_41 : decode cX4_make 41 = .ok (.iload_n 2, 1) := by decide +kernel
theorem dX4_make_42 : decode cX4_make 42 = .ok (.iastore, 1) := by decide +kernel
theorem dX4_make_43 : decode cX4_make 43 = .ok (.aload_n 0, 1) := by decide +kernel
theorem dX4_make_44 : decode cX4_make 44 = .ok (.getfield 18, 3) := by decide +kernel
theorem dX4_make_47 : decode cX4_make 47 = .ok (.iload 4, 2) := by decide +kernel
theorem dX4_make_49 : decode cX4_make 49 = .ok (.iload_n 3, 1) := by decide +kernel
theorem dX4_make_50 : decode cX4_make 50 = .ok (.iastore, 1) := by decide +kernel
theorem dX4_make_51 : decode cX4_make 51 = .ok (.aload_n 0, 1) := by decide +kernel
theorem dX4_make_52 : decode cX4_make 52 = .ok (.getfield 21, 3) := by decide +kernel
theorem dX4_make_55 : decode cX4_make 55 = .ok (.iload 4, 2) := by decide +kernel
theorem dX4_make_57 : decode cX4_make 57 = .ok (.iconst 0, 1) := by decide +kernel
theorem dX4_make_58 : decode cX4_make 58 = .ok (.iastore, 1) := by decide +kernel
theorem dX4_make_59 : decode cX4_make 59 = .ok (.aload_n 0, 1) := by decide +kernel
theorem dX4_make_60 : decode cX4_make 60 = .ok (.getfield 24, 3) := by decide +kernel
theorem dX4_make_63 : decode cX4_make 63 = .ok (.iload 4, 2) := by decide +kernel
theorem dX4_make_65 : decode cX4_make 65 = .ok (.iconst 1, 1) := by decide +kernel
theorem dX4_make_66 : decode cX4_make 66 = .ok (.bastore, 1) := by decide +kernel
theorem dX4_make_67 : decode cX4_make 67 = .ok (.aload_n 0, 1) := by decide +kernel
theorem dX4_make_68 : decode cX4_make 68 = .ok (.getfield 28, 3) := by decide +kernel
theorem dX4_make_71 : decode cX4_make 71 = .ok (.iload 4, 2) := by decide +kernel
theorem dX4_make_73 : decode cX4_make 73 = .ok (.iconst 0, 1) := by decide +kernel
theorem dX4_make_74 : decode cX4_make 74 = .ok (.bastore, 1) := by decide +kernel
theorem dX4_make_75 : decode cX4_make 75 = .ok (.iload 4, 2) := by decide +kernel
theorem dX4_make_77 : decode cX4_make 77 = .ok (.ireturn, 1) := by decide +kernel
set_option maxRecDepth 20000 in
theorem ggX4_settle_X4_has : GoodIn wsX4_settle wsX4_has := goodIn_ca (goodIn_r _ [7, 8, 9, 10, 11, 12, 13, 14, 15, 16] (by decide +kernel) (by decide +kernel)) (goodIn_sub (fun _ h => List.mem_cons_of_mem _ (List.mem_append_right _ h)) (by decide +kernel))
set_option maxRecDepth 20000 in
theorem gX4_settle_X4_has : GoodIn wsX4_settle (wsV RX4 35 RX4 yX4_has wsX4_has) := goodIn_app (goodIn_of _ (by decide +kernel)) ggX4_settle_X4_has
theorem dX4_settle_0 : decode cX4_settle 0 = .ok (.aload_n 0, 1) := by decide +kernel
theorem dX4_settle_1 : decode cX4_settle 1 = .ok (.iload_n 1, 1) := by decide +kernel
theorem dX4_settle_2 : decode cX4_settle 2 = .ok (.invokevirtual 35, 3) := by decide +kernel
theorem dX4_settle_5 : decode cX4_settle 5 = .ok (.ifCond .eq 17, 3) := by decide +kernel
theorem dX4_settle_8 : decode cX4_settle 8 = .ok (.aload_n 0, 1) := by decide +kernel
theorem dX4_settle_9 : decode cX4_settle 9 = .ok (.getfield 21, 3) := by decide +kernel
theorem dX4_settle_12 : decode cX4_settle 12 = .ok (.iload_n 1, 1) := by decide +kernel
theorem dX4_settle_13 : decode cX4_settle 13 = .ok (.iload_n 2, 1) := by decide +kernel
theorem dX4_settle_14 : decode cX4_settle 14 = .ok (.iastore, 1) := by decide +kernel
theorem dX4_settle_15 : decode cX4_settle 15 = .ok (.aload_n 0, 1) := by decide +kernel
theorem dX4_settle_16 : decode cX4_settle 16 = .ok (.getfield 24, 3) := by decide +kernel
theorem dX4_settle_19 : decode cX4_settle 19 = .ok (.iload_n 1, 1) := by decide +kernel
theorem dX4_settle_20 : decode cX4_settle 20 = .ok (.iconst 0, 1) := by decide +kernel
theorem dX4_settle_21 : decode cX4_settle 21 = .ok (.bastore, 1) := by decide +kernel
theorem dX4_settle_22 : decode cX4_settle 22 = .ok (.return_, 1) := by decide +kernel
set_option maxRecDepth 20000 in
theorem ggX4_endingWhereBegins_X4_has : GoodIn wsX4_endingWhereBegins wsX4_has := goodIn_ca (goodIn_r _ [9, 1, 10, 15, 16, 17, 18, 19, 20, 21] (by decide +kernel) (by decide +kernel)) (goodIn_sub (fun _ h => List.mem_cons_of_mem _ (List.mem_append_right _ h)) (by decide +kernel))
set_option maxRecDepth 20000 in
theorem gX4_endingWhereBegins_X4_has : GoodIn wsX4_endingWhereBegins (wsV RX4 35 RX4 yX4_has wsX4_has) := goodIn_app (goodIn_of _ (by decide +kernel)) ggX4_endingWhereBegins_X4_has
set_option maxRecDepth 20000 in
theorem ggX4_endingWhereBegins_X4_isOf : GoodIn wsX4_endingWhereBegins wsX4_isOf := goodIn_ca (goodIn_r _ [14, 2, 5, 6, 7, 8, 9, 1, 10, 15, 16, 17, 18, 19, 20, 21] (by decide +kernel) (by decide +kernel)) (goodIn_sub (fun _ h => List.mem_cons_of_mem _ (List.mem_append_right _ h)) (by decide +kernel))
set_option maxRecDepth 20000 in
theorem gX4_endingWhereBegins_X4_isOf : GoodIn wsX4_endingWhereBegins (wsV RX4 39 RX4 yX4_isOf wsX4_isOf) := goodIn_app (goodIn_of _ (by decide +kernel)) ggX4_endingWhereBegins_X4_isOf
theorem dX4_endingWhereBegins_0 : decode cX4_endingWhereBegins 0 = .ok (.aload_n 0, 1) := by decide +kernel
theorem dX4_endingWhereBegins_1 : decode cX4_endingWhereBegins 1 = .ok (.iload_n 1, 1) := by decide +kernel
theorem dX4_endingWhereBegins_2 : decode cX4_endingWhereBegins 2 = .ok (.invokevirtual 35, 3) := by decide +kernel
theorem dX4_endingWhereBegins_5 : decode cX4_endingWhereBegins 5 = .ok (.ifCond .ne 5, 3) := by decide +kernel
theorem dX4_endingWhereBegins_8 : decode cX4_endingWhereBegins 8 = .ok (.iconst (-1), 1) := by decide +kernel
theorem dX4_endingWhereBegins_9 : decode cX4_endingWhereBegins 9 = .ok (.ireturn, 1) := by decide +kernel
theorem dX4_endingWhereBegins_10 : decode cX4_endingWhereBegins 10 = .ok (.iconst 0, 1) := by decide +kernel
theorem dX4_endingWhereBegins_11 : decode cX4_endingWhereBegins 11 = .ok (.istore_n 2, 1) := by decide +kernel
theorem dX4_endingWhereBegins_12 : decode cX4_endingWhereBegins 12 = .ok (.iload_n 2, 1) := by decide +kernel
theorem dX4_endingWhereBegins_13 : decode cX4_endingWhereBegins 13 = .ok (.aload_n 0, 1) := by decide +kernel
theorem dX4_endingWhereBegins_14 : decode cX4_endingWhereBegins 14 = .ok (.getfield 31, 3) := by decide +kernel
theorem dX4_endingWhereBegins_17 : decode cX4_endingWhereBegins 17 = .ok (.if_icmp .ge 40, 3) := by decide +kernel
theorem dX4_endingWhereBegins_20 : decode cX4_endingWhereBegins 20 = .ok (.aload_n 0, 1) := by decide +kernel
theorem dX4_endingWhereBegins_21 : decode cX4_endingWhereBegins 21 = .ok (.iload_n 2, 1) := by decide +kernel
theorem dX4_endingWhereBegins_22 : decode cX4_endingWhereBegins 22 = .ok (.aload_n 0, 1) := by decide +kernel
theorem dX4_endingWhereBegins_23 : decode cX4_endingWhereBegins 23 = .ok (.getfield 9, 3) := by decide +kernel
theorem dX4_endingWhereBegins_26 : decode cX4_endingWhereBegins 26 = .ok (.iload_n 1, 1) := by decide +kernel
theorem dX4_endingWhereBegins_27 : decode cX4_endingWhereBegins 27 = .ok (.iaload, 1) := by decide +kernel
theorem dX4_endingWhereBegins_28 : decode cX4_endingWhereBegins 28 = .ok (.invokevirtual 39, 3) := by decide +kernel
theorem dX4_endingWhereBegins_31 : decode cX4_endingWhereBegins 31 = .ok (.ifCond .eq 20, 3) := by decide +kernel
theorem dX4_endingWhereBegins_34 : decode cX4_endingWhereBegins 34 = .ok (.aload_n 0, 1) := by decide +kernel
theorem dX4_endingWhereBegins_35 : decode cX4_endingWhereBegins 35 = .ok (.getfield 18, 3) := by decide +kernel
theorem dX4_endingWhereBegins_38 : decode cX4_endingWhereBegins 38 = .ok (.iload_n 2, 1) := by decide +kernel
theorem dX4_endingWhereBegins_39 : decode cX4_endingWhereBegins 39 = .ok (.iaload, 1) := by decide +kernel
theorem dX4_endingWhereBegins_40 : decode cX4_endingWhereBegins 40 = .ok (.aload_n 0, 1) := by decide +kernel
theorem dX4_endingWhereBegins_41 : decode cX4_endingWhereBegins 41 = .ok (.getfield 15, 3) := by decide +kernel
theorem dX4_endingWhereBegins_44 : decode cX4_endingWhereBegins 44 = .ok (.iload_n 1, 1) := by decide +kernel
theorem dX4_endingWhereBegins_45 : decode cX4_endingWhereBegins 45 = .ok (.iaload, 1) := by decide +kernel
theorem dX4_endingWhereBegins_46 : decode cX4_endingWhereBegins 46 = .ok (.if_icmp .ne 5, 3) := by decide +kernel
theorem dX4_endingWhereBegins_49 : decode cX4_endingWhereBegins 49 = .ok (.iload_n 2, 1) := by decide +kernel
theorem dX4_endingWhereBegins_50 : decode cX4_endingWhereBegins 50 = .ok (.ireturn, 1) := by decide +kernel
theorem dX4_endingWhereBegins_51 : decode cX4_endingWhereBegins 51 = .ok (.iinc 2 1, 3) := by decide +kernel
theorem dX4_endingWhereBegins_54 : decode cX4_endingWhereBegins 54 = .ok (.goto (-42), 3) := by decide +kernel
theorem dX4_endingWhereBegins_57 : decode cX4_endingWhereBegins 57 = .ok (.iconst (-1), 1) := by decide +kernel
theorem dX4_endingWhereBegins_58 : decode cX4_endingWhereBegins 58 = .ok (.ireturn, 1) := by decide +kernel
set_option maxRecDepth 20000 in
theorem ggX4_drop_X4_has : GoodIn wsX4_drop wsX4_has := goodIn_ca (goodIn_r _ [6, 7, 1, 8, 9, 10, 11, 12, 13, 14] (by decide +kernel) (by decide +kernel)) (goodIn_sub (fun _ h => List.mem_cons_of_mem _ (List.mem_append_right _ h)) (by decide +kernel))
set_option maxRecDepth 20000 in
theorem gX4_drop_X4_has : GoodIn wsX4_drop (wsV RX4 35 RX4 yX4_has wsX4_has) := goodIn_app (goodIn_of _ (by decide +kernel)) ggX4_drop_X4_has
theorem dX4_drop_0 : decode cX4_drop 0 = .ok (.aload_n 0, 1) := by decide +kernel
theorem dX4_drop_1 : decode cX4_drop 1 = .ok (.iload_n 1, 1) := by decide +kernel
theorem dX4_drop_2 : decode cX4_drop 2 = .ok (.invokevirtual 35, 3) := by decide +kernel
theorem dX4_drop_5 : decode cX4_drop 5 = .ok (.ifCond .eq 10, 3) := by decide +kernel
theorem dX4_drop_8 : decode cX4_drop 8 = .ok (.aload_n 0, 1) := by decide +kernel
theorem dX4_drop_9 : decode cX4_drop 9 = .ok (.getfield 28, 3) := by decide +kernel
theorem dX4_drop_12 : decode cX4_drop 12 = .ok (.iload_n 1, 1) := by decide +kernel
theorem dX4_drop_13 : decode cX4_drop 13 = .ok (.iconst 1, 1) := by decide +kernel
theorem dX4_drop_14 : decode cX4_drop 14 = .ok (.bastore, 1) := by decide +kernel
theorem dX4_drop_15 : decode cX4_drop 15 = .ok (.return_, 1) := by decide +kernel
set_option maxRecDepth 20000 in
theorem ggX4_merge_X4_has : GoodIn wsX4_merge wsX4_has := goodIn_ca (goodIn_r _ [7, 8, 2, 9, 10, 11, 12, 13, 14, 15] (by decide +kernel) (by decide +kernel)) (goodIn_sub (fun _ h => List.mem_cons_of_mem _ (List.mem_append_right _ h)) (by decide +kernel))
set_option maxRecDepth 20000 in
theorem gX4_merge_X4_has : GoodIn wsX4_merge (wsV RX4 35 RX4 yX4_has wsX4_has) := goodIn_app (goodIn_of _ (by decide +kernel)) ggX4_merge_X4_has
theorem dX4_merge_0 : decode cX4_merge 0 = .ok (.aload_n 0, 1) := by decide +kernel
theorem dX4_merge_1 : decode cX4_merge 1 = .ok (.iload_n 1, 1) := by decide +kernel
theorem dX4_merge_2 : decode cX4_merge 2 = .ok (.invokevirtual 35, 3) := by decide +kernel
theorem dX4_merge_5 : decode cX4_merge 5 = .ok (.ifCond .eq 30, 3) := by decide +kernel
theorem dX4_merge_8 : decode cX4_merge 8 = .ok (.aload_n 0, 1) := by decide +kernel
theorem dX4_merge_9 : decode cX4_merge 9 = .ok (.iload_n 2, 1) := by decide +kernel
theorem dX4_merge_10 : decode cX4_merge 10 = .ok (.invokevirtual 35, 3) := by decide +kernel
theorem dX4_merge_13 : decode cX4_merge 13 = .ok (.ifCond .eq 22, 3) := by decide +kernel
theorem dX4_merge_16 : decode cX4_merge 16 = .ok (.aload_n 0, 1) := by decide +kernel
theorem dX4_merge_17 : decode cX4_merge 17 = .ok (.getfield 18, 3) := by decide +kernel
theorem dX4_merge_20 : decode cX4_merge 20 = .ok (.iload_n 1, 1) := by decide +kernel
theorem dX4_merge_21 : decode cX4_merge 21 = .ok (.aload_n 0, 1) := by decide +kernel
theorem dX4_merge_22 : decode cX4_merge 22 = .ok (.getfield 18, 3) := by decide +kernel
theorem dX4_merge_25 : decode cX4_merge 25 = .ok (.iload_n 2, 1) := by decide +kernel
theorem dX4_merge_26 : decode cX4_merge 26 = .ok (.iaload, 1) := by decide +kernel
theorem dX4_merge_27 : decode cX4_merge 27 = .ok (.iastore, 1) := by decide +kernel
theorem dX4_merge_28 : decode cX4_merge 28 = .ok (.aload_n 0, 1) := by decide +kernel
theorem dX4_merge_29 : decode cX4_merge 29 = .ok (.getfield 28, 3) := by decide +kernel
theorem dX4_merge_32 : decode cX4_merge 32 = .ok (.iload_n 2, 1) := by decide +kernel
theorem dX4_merge_33 : decode cX4_merge 33 = .ok (.iconst 1, 1) := by decide +kernel
theorem dX4_merge_34 : decode cX4_merge 34 = .ok (.bastore, 1) := by decide +kernel
theorem dX4_merge_35 : decode cX4_merge 35 = .ok (.return_, 1) := by decide +kernel
set_option maxRecDepth 20000 in
theorem ggX4_joinAlike_X4_next : GoodIn wsX4_joinAlike wsX4_next := goodIn_ca (goodIn_r _ [7, 1, 2, 8, 9, 10, 6, 11, 12, 13, 14, 15, 16, 17, 29, 30, 31, 32, 33, 34, 35] (by decide +kernel) (by decide +kernel)) (goodIn_sub (fun _ h => List.mem_cons_of_mem _ (List.mem_append_right _ h)) (by decide +kernel))
set_option maxRecDepth 20000 in
theorem gX4_joinAlike_X4_next : GoodIn wsX4_joinAlike (wsV RX4 43 RX4 yX4_next wsX4_next) := goodIn_app (goodIn_of _ (by decide +kernel)) ggX4_joinAlike_X4_next
set_option maxRecDepth 20000 in
theorem ggX4_joinAlike_X4_areAlike : GoodIn wsX4_joinAlike wsX4_areAlike := goodIn_ca (goodIn_r _ [21, 22, 2, 23, 24, 29, 30, 31, 32, 33, 34, 35] (by decide +kernel) (by decide +kernel)) (goodIn_sub (fun _ h => List.mem_cons_of_mem _ (List.mem_append_right _ h)) (by decide +kernel))
set_option maxRecDepth 20000 in
theorem gX4_joinAlike_X4_areAlike : GoodIn wsX4_joinAlike (wsV RX4 64 RX4 yX4_areAlike wsX4_areAlike) := goodIn_app (goodIn_of _ (by decide +kernel)) ggX4_joinAlike_X4_areAlike
set_option maxRecDepth 20000 in
theorem ggX4_joinAlike_X4_merge : GoodIn wsX4_joinAlike wsX4_merge := goodIn_ca (goodIn_r _ [28, 22, 17, 13, 14, 15, 6, 16, 1, 29, 30, 31, 32, 33, 34, 35] (by decide +kernel) (by decide +kernel)) (goodIn_sub (fun _ h => List.mem_cons_of_mem _ (List.mem_append_right _ h)) (by decide +kernel))
set_option maxRecDepth 20000 in
theorem gX4_joinAlike_X4_merge : GoodIn wsX4_joinAlike (wsV RX4 67 RX4 yX4_merge wsX4_merge) := goodIn_app (goodIn_of _ (by decide +kernel)) ggX4_joinAlike_X4_merge
theorem dX4_joinAlike_0 : decode cX4_joinAlike 0 = .ok (.iconst 0, 1) := by decide +kernel
theorem dX4_joinAlike_1 : decode cX4_joinAlike 1 = .ok (.istore_n 2, 1) := by decide +kernel
theorem dX4_joinAlike_2 : decode cX4_joinAlike 2 = .ok (.aload_n 0, 1) := by decide +kernel
theorem dX4_joinAlike_3 : decode cX4_joinAlike 3 = .ok (.iload_n 1, 1) := by decide +kernel
theorem dX4_joinAlike_4 : decode cX4_joinAlike 4 = .ok (.iconst (-1), 1) := by decide +kernel
theorem dX4_joinAlike_5 : decode cX4_joinAlike 5 = .ok (.invokevirtual 43, 3) := by decide +kernel
theorem dX4_joinAlike_8 : decode cX4_joinAlike 8 = .ok (.istore_n 3, 1) := by decide +kernel
theorem dX4_joinAlike_9 : decode cX4_joinAlike 9 = .ok (.iconst 0, 1) := by decide +kernel
theorem dX4_joinAlike_10 : decode cX4_joinAlike 10 = .ok (.istore 4, 2) := by decide +kernel
theorem dX4_joinAlike_12 : decode cX4_joinAlike 12 = .ok (.iload 4, 2) := by decide +kernel
theorem dX4_joinAlike_14 : decode cX4_joinAlike 14 = .ok (.aload_n 0, 1) := by decide +kernel
theorem dX4_joinAlike_15 : decode cX4_joinAlike 15 = .ok (.getfield 31, 3) := by decide +kernel
theorem dX4_joinAlike_18 : decode cX4_joinAlike 18 = .ok (.if_icmp .ge 59, 3) := by decide +kernel
theorem dX4_joinAlike_21 : decode cX4_joinAlike 21 = .ok (.iload_n 3, 1) := by decide +kernel
theorem dX4_joinAlike_22 : decode cX4_joinAlike 22 = .ok (.iconst (-1), 1) := by decide +kernel
theorem dX4_joinAlike_23 : decode cX4_joinAlike 23 = .ok (.if_icmp .eq 54, 3) := by decide +kernel
theorem dX4_joinAlike_26 : decode cX4_joinAlike 26 = .ok (.aload_n 0, 1) := by decide +kernel
theorem dX4_joinAlike_27 : decode cX4_joinAlike 27 = .ok (.iload_n 1, 1) := by decide +kernel
theorem dX4_joinAlike_28 : decode cX4_joinAlike 28 = .ok (.aload_n 0, 1) := by decide +kernel
theorem dX4_joinAlike_29 : decode cX4_joinAlike 29 = .ok (.getfield 15, 3) := by decide +kernel
theorem dX4_joinAlike_32 : decode cX4_joinAlike 32 = .ok (.iload_n 3, 1) := by decide +kernel
theorem dX4_joinAlike_33 : decode cX4_joinAlike 33 = .ok (.iaload, 1) := by decide +kernel
theorem dX4_joinAlike_34 : decode cX4_joinAlike 34 = .ok (.invokevirtual 43, 3) := by decide +kernel
theorem dX4_joinAlike_37 : decode cX4_joinAlike 37 = .ok (.istore 5, 2) := by decide +kernel
theorem dX4_joinAlike_39 : decode cX4_joinAlike 39 = .ok (.iload 5, 2) := by decide +kernel
theorem dX4_joinAlike_41 : decode cX4_joinAlike 41 = .ok (.iconst (-1), 1) := by decide +kernel
theorem dX4_joinAlike_42 : decode cX4_joinAlike 42 = .ok (.if_icmp .eq 26, 3) := by decide +kernel
theorem dX4_joinAlike_45 : decode cX4_joinAlike 45 = .ok (.aload_n 0, 1) := by decide +kernel
theorem dX4_joinAlike_46 : decode cX4_joinAlike 46 = .ok (.iload_n 3, 1) := by decide +kernel
theorem dX4_joinAlike_47 : decode cX4_joinAlike 47 = .ok (.iload 5, 2) := by decide +kernel
theorem dX4_joinAlike_49 : decode cX4_joinAlike 49 = .ok (.invokevirtual 64, 3) := by decide +kernel
theorem dX4_joinAlike_52 : decode cX4_joinAlike 52 = .ok (.ifCond .eq 16, 3) := by decide +kernel
theorem dX4_joinAlike_55 : decode cX4_joinAlike 55 = .ok (.aload_n 0, 1) := by decide +kernel
theorem dX4_joinAlike_56 : decode cX4_joinAlike 56 = .ok (.iload_n 3, 1) := by decide +kernel
theorem dX4_joinAlike_57 : decode cX4_joinAlike 57 = .ok (.iload 5, 2) := by decide +kernel
theorem dX4_joinAlike_59 : decode cX4_joinAlike 59 = .ok (.invokevirtual 67, 3) := by decide +kernel
theorem dX4_joinAlike_62 : decode cX4_joinAlike 62 = .ok (.iinc 2 1, 3) := by decide +kernel
theorem dX4_joinAlike_65 : decode cX4_joinAlike 65 = .ok (.goto 6, 3) := by decide +kernel
theorem dX4_joinAlike_68 : decode cX4_joinAlike 68 = .ok (.iload 5, 2) := by decide +kernel
theorem dX4_joinAlike_70 : decode cX4_joinAlike 70 = .ok (.istore_n 3, 1) := by decide +kernel
theorem dX4_joinAlike_71 : decode cX4_joinAlike 71 = .ok (.iinc 4 1, 3) := by decide +kernel
theorem dX4_joinAlike_74 : decode cX4_joinAlike 74 = .ok (.goto (-62), 3) := by decide +kernel
theorem dX4_joinAlike_77 : decode cX4_joinAlike 77 = .ok (.iload_n 2, 1) := by decide +kernel
theorem dX4_joinAlike_78 : decode cX4_joinAlike 78 = .ok (.ireturn, 1) := by decide +kernel
theorem dX4_areAlike_0 : decode cX4_areAlike 0 = .ok (.aload_n 0, 1) := by decide +kernel
theorem dX4_areAlike_1 : decode cX4_areAlike 1 = .ok (.getfield 18, 3) := by decide +kernel
theorem dX4_areAlike_4 : decode cX4_areAlike 4 = .ok (.iload_n 1, 1) := by decide +kernel
theorem dX4_areAlike_5 : decode cX4_areAlike 5 = .ok (.iaload, 1) := by decide +kernel
theorem dX4_areAlike_6 : decode cX4_areAlike 6 = .ok (.aload_n 0, 1) := by decide +kernel
theorem dX4_areAlike_7 : decode cX4_areAlike 7 = .ok (.getfield 15, 3) := by decide +kernel
theorem dX4_areAlike_10 : decode cX4_areAlike 10 = .ok (.iload_n 2, 1) := by decide +kernel
theorem dX4_areAlike_11 : decode cX4_areAlike 11 = .ok (.iaload, 1) := by decide +kernel
theorem dX4_areAlike_12 : decode cX4_areAlike 12 = .ok (.if_icmp .ne 40, 3) := by decide +kernel
theorem dX4_areAlike_15 : decode cX4_areAlike 15 = .ok (.aload_n 0, 1) := by decide +kernel
theorem dX4_areAlike_16 : decode cX4_areAlike 16 = .ok (.getfield 21, 3) := by decide +kernel
theorem dX4_areAlike_19 : decode cX4_areAlike 19 = .ok (.iload_n 1, 1) := by decide +kernel
theorem dX4_areAlike_20 : decode cX4_areAlike 20 = .ok (.iaload, 1) := by decide +kernel
theorem dX4_areAlike_21 : decode cX4_areAlike 21 = .ok (.aload_n 0, 1) := by decide +kernel
theorem dX4_areAlike_22 : decode cX4_areAlike 22 = .ok (.getfield 21, 3) := by decide +kernel
theorem dX4_areAlike_25 : decode cX4_areAlike 25 = .ok (.iload_n 2, 1) := by decide +kernel
theorem dX4_areAlike_26 : decode cX4_areAlike 26 = .ok (.iaload, 1) := by decide +kernel
theorem dX4_areAlike_27 : decode cX4_areAlike 27 = .ok (.if_icmp .ne 25, 3) := by decide +kernel
theorem dX4_areAlike_30 : decode cX4_areAlike 30 = .ok (.aload_n 0, 1) := by decide +kernel
theorem dX4_areAlike_31 : decode cX4_areAlike 31 = .ok (.getfield 24, 3) := by decide +kernel
theorem dX4_areAlike_34 : decode cX4_areAlike 34 = .ok (.iload_n 1, 1) := by decide +kernel
theorem dX4_areAlike_35 : decode cX4_areAlike 35 = .ok (.baload, 1) := by decide +kernel
theorem dX4_areAlike_36 : decode cX4_areAlike 36 = .ok (.ifCond .ne 16, 3) := by decide +kernel
theorem dX4_areAlike_39 : decode cX4_areAlike 39 = .ok (.aload_n 0, 1) := by decide +kernel
theorem dX4_areAlike_40 : decode cX4_areAlike 40 = .ok (.getfield 24, 3) := by decide +kernel
theorem dX4_areAlike_43 : decode cX4_areAlike 43 = .ok (.iload_n 2, 1) := by decide +kernel
theorem dX4_areAlike_44 : decode cX4_areAlike 44 = .ok (.baload, 1) := by decide +kernel
theorem dX4_areAlike_45 : decode cX4_areAlike 45 = .ok (.ifCond .ne 7, 3) := by decide +kernel
theorem dX4_areAlike_48 : decode cX4_areAlike 48 = .ok (.iconst 1, 1) := by decide +kernel
theorem dX4_areAlike_49 : decode cX4_areAlike 49 = .ok (.goto 4, 3) := by decide +kernel
theorem dX4_areAlike_52 : decode cX4_areAlike 52 = .ok (.iconst 0, 1) := by decide +kernel
theorem dX4_areAlike_53 : decode cX4_areAlike 53 = .ok (.ireturn, 1) := by decide +kernel
set_option maxRecDepth 20000 in
theorem ggX4_count_X4_has : GoodIn wsX4_count wsX4_has := goodIn_ca (goodIn_r _ [6, 1, 7, 8, 9, 10, 11, 12, 13, 14] (by decide +kernel) (by decide +kernel)) (goodIn_sub (fun _ h => List.mem_cons_of_mem _ (List.mem_append_right _ h)) (by decide +kernel))
set_option maxRecDepth 20000 in
theorem gX4_count_X4_has : GoodIn wsX4_count (wsV RX4 35 RX4 yX4_has wsX4_has) := goodIn_app (goodIn_of _ (by decide +kernel)) ggX4_count_X4_has
theorem dX4_count_0 : decode cX4_count 0 = .ok (.iconst 0, 1) := by decide +kernel
theorem dX4_count_1 : decode cX4_count 1 = .ok (.istore_n 1, 1) := by decide +kernel
theorem dX4_count_2 : decode cX4_count 2 = .ok (.iconst 0, 1) := by decide +kernel
theorem dX4_count_3 : decode cX4_count 3 = .ok (.istore_n 2, 1) := by decide +kernel
theorem dX4_count_4 : decode cX4_count 4 = .ok (.iload_n 2, 1) := by decide +kernel
theorem dX4_count_5 : decode cX4_count 5 = .ok (.aload_n 0, 1) := by decide +kernel
theorem dX4_count_6 : decode cX4_count 6 = .ok (.getfield 31, 3) := by decide +kernel
theorem dX4_count_9 : decode cX4_count 9 = .ok (.if_icmp .ge 20, 3) := by decide +kernel
theorem dX4_count_12 : decode cX4_count 12 = .ok (.aload_n 0, 1) := by decide +kernel
theorem dX4_count_13 : decode cX4_count 13 = .ok (.iload_n 2, 1) := by decide +kernel
theorem dX4_count_14 : decode cX4_count 14 = .ok (.invokevirtual 35, 3) := by decide +kernel
theorem dX4_count_17 : decode cX4_count 17 = .ok (.ifCond .eq 6, 3) := by decide +kernel
theorem dX4_count_20 : decode cX4_count 20 = .ok (.iinc 1 1, 3) := by decide +kernel
theorem dX4_count_23 : decode cX4_count 23 = .ok (.iinc 2 1, 3) := by decide +kernel
theorem dX4_count_26 : decode cX4_count 26 = .ok (.goto (-22), 3) := by decide +kernel
theorem dX4_count_29 : decode cX4_count 29 = .ok (.iload_n 1, 1) := by decide +kernel
theorem dX4_count_30 : decode cX4_count 30 = .ok (.ireturn, 1) := by decide +kernel
set_option maxRecDepth 20000 in
theorem ggX4_countOf_X4_isOf : GoodIn wsX4_countOf wsX4_isOf := goodIn_ca (goodIn_r _ [6, 7, 8, 9, 10, 5, 11, 1, 12, 13, 14, 15, 16, 17, 18, 19] (by decide +kernel) (by decide +kernel)) (goodIn_sub (fun _ h => List.mem_cons_of_mem _ (List.mem_append_right _ h)) (by decide +kernel))
set_option maxRecDepth 20000 in
theorem gX4_countOf_X4_isOf : GoodIn wsX4_countOf (wsV RX4 39 RX4 yX4_isOf wsX4_isOf) := goodIn_app (goodIn_of _ (by decide +kernel)) ggX4_countOf_X4_isOf
theorem dX4_countOf_0 : decode cX4_countOf 0 = .ok (.iconst 0, 1) := by decide +kernel
theorem dX4_countOf_1 : decode cX4_countOf 1 = .ok (.istore_n 2, 1) := by decide +kernel
theorem dX4_countOf_2 : decode cX4_countOf 2 = .ok (.iconst 0, 1) := by decide +kernel
theorem dX4_countOf_3 : decode cX4_countOf 3 = .ok (.istore_n 3, 1) := by decide +kernel
theorem dX4_countOf_4 : decode cX4_countOf 4 = .ok (.iload_n 3, 1) := by decide +kernel
theorem dX4_countOf_5 : decode cX4_countOf 5 = .ok (.aload_n 0, 1) := by decide +kernel
theorem dX4_countOf_6 : decode cX4_countOf 6 = .ok (.getfield 31, 3) := by decide +kernel
theorem dX4_countOf_9 : decode cX4_countOf 9 = .ok (.if_icmp .ge 21, 3) := by decide +kernel
theorem dX4_countOf_12 : decode cX4_countOf 12 = .ok (.aload_n 0, 1) := by decide +kernel
theorem dX4_countOf_13 : decode cX4_countOf 13 = .ok (.iload_n 3, 1) := by decide +kernel
theorem dX4_countOf_14 : decode cX4_countOf 14 = .ok (.iload_n 1, 1) := by decide +kernel
theorem dX4_countOf_15 : decode cX4_countOf 15 = .ok (.invokevirtual 39, 3) := by decide +kernel
theorem dX4_countOf_18 : decode cX4_countOf 18 = .ok (.ifCond .eq 6, 3) := by decide +kernel
theorem dX4_countOf_21 : decode cX4_countOf 21 = .ok (.iinc 2 1, 3) := by decide +kernel
theorem dX4_countOf_24 : decode cX4_countOf 24 = .ok (.iinc 3 1, 3) := by decide +kernel
theorem dX4_countOf_27 : decode cX4_countOf 27 = .ok (.goto (-23), 3) := by decide +kernel
theorem dX4_countOf_30 : decode cX4_countOf 30 = .ok (.iload_n 2, 1) := by decide +kernel
theorem dX4_countOf_31 : decode cX4_countOf 31 = .ok (.ireturn, 1) := by decide +kernel
set_option maxRecDepth 20000 in
theorem ggX4_atPlace_X4_next : GoodIn wsX4_atPlace wsX4_next := goodIn_ca (goodIn_r _ [7, 1, 2, 8, 9, 10, 6, 11, 12, 13, 14, 15, 16, 17, 18, 19, 20, 21, 22, 23, 24] (by decide +kernel) (by decide +kernel)) (goodIn_sub (fun _ h => List.mem_cons_of_mem _ (List.mem_append_right _ h)) (by decide +kernel))
set_option maxRecDepth 20000 in
theorem gX4_atPlace_X4_next : GoodIn wsX4_atPlace (wsV RX4 43 RX4 yX4_next wsX4_next) := goodIn_app (goodIn_of _ (by decide +kernel)) ggX4_atPlace_X4_next
theorem dX4_atPlace_0 : decode cX4_atPlace 0 = .ok (.iload_n 2, 1) := by decide +kernel
theorem dX4_atPlace_1 : decode cX4_atPlace 1 = .ok (.ifCond .lt 11, 3) := by decide +kernel
theorem dX4_atPlace_4 : decode cX4_atPlace 4 = .ok (.iload_n 2, 1) := by decide +kernel
theorem dX4_atPlace_5 : decode cX4_atPlace 5 = .ok (.aload_n 0, 1) := by decide +kernel
theorem dX4_atPlace_6 : decode cX4_atPlace 6 = .ok (.getfield 31, 3) := by decide +kernel
theorem dX4_atPlace_9 : decode cX4_atPlace 9 = .ok (.if_icmp .lt 5, 3) := by decide +kernel
theorem dX4_atPlace_12 : decode cX4_atPlace 12 = .ok (.iconst (-1), 1) := by decide +kernel
theorem dX4_atPlace_13 : decode cX4_atPlace 13 = .ok (.ireturn, 1) := by decide +kernel
theorem dX4_atPlace_14 : decode cX4_atPlace 14 = .ok (.aload_n 0, 1) := by decide +kernel
theorem dX4_atPlace_15 : decode cX4_atPlace 15 = .ok (.iload_n 1, 1) := by decide +kernel
theorem dX4_atPlace_16 : decode cX4_atPlace 16 = .ok (.iconst (-1), 1) := by decide +kernel
theorem dX4_atPlace_17 : decode cX4_atPlace 17 = .ok (.invokevirtual 43, 3) := by decide +kernel
theorem dX4_atPlace_20 : decode cX4_atPlace 20 = .ok (.istore_n 3, 1) := by decide +kernel
theorem dX4_atPlace_21 : decode cX4_atPlace 21 = .ok (.iconst 0, 1) := by decide +kernel
theorem dX4_atPlace_22 : decode cX4_atPlace 22 = .ok (.istore 4, 2) := by decide +kernel
theorem dX4_atPlace_24 : decode cX4_atPlace 24 = .ok (.iload 4, 2) := by decide +kernel
theorem dX4_atPlace_26 : decode cX4_atPlace 26 = .ok (.iload_n 2, 1) := by decide +kernel
theorem dX4_atPlace_27 : decode cX4_atPlace 27 = .ok (.if_icmp .ge 26, 3) := by decide +kernel
theorem dX4_atPlace_30 : decode cX4_atPlace 30 = .ok (.iload_n 3, 1) := by decide +kernel
theorem dX4_atPlace_31 : decode cX4_atPlace 31 = .ok (.iconst (-1), 1) := by decide +kernel
theorem dX4_atPlace_32 : decode cX4_atPlace 32 = .ok (.if_icmp .eq 21, 3) := by decide +kernel
theorem dX4_atPlace_35 : decode cX4_atPlace 35 = .ok (.aload_n 0, 1) := by decide +kernel
theorem dX4_atPlace_36 : decode cX4_atPlace 36 = .ok (.iload_n 1, 1) := by decide +kernel
theorem dX4_atPlace_37 : decode cX4_atPlace 37 = .ok (.aload_n 0, 1) := by decide +kernel
theorem dX4_atPlace_38 : decode cX4_atPlace 38 = .ok (.getfield 15, 3) := by decide +kernel
theorem dX4_atPlace_41 : decode cX4_atPlace 41 = .ok (.iload_n 3, 1) := by decide +kernel
theorem dX4_atPlace_42 : decode cX4_atPlace 42 = .ok (.iaload, 1) := by decide +kernel
theorem dX4_atPlace_43 : decode cX4_atPlace 43 = .ok (.invokevirtual 43, 3) := by decide +kernel
theorem dX4_atPlace_46 : decode cX4_atPlace 46 = .ok (.istore_n 3, 1) := by decide +kernel
theorem dX4_atPlace_47 : decode cX4_atPlace 47 = .ok (.iinc 4 1, 3) := by decide +kernel
theorem dX4_atPlace_50 : decode cX4_atPlace 50 = .ok (.goto (-26), 3) := by decide +kernel
theorem dX4_atPlace_53 : decode cX4_atPlace 53 = .ok (.iload_n 3, 1) := by decide +kernel
theorem dX4_atPlace_54 : decode cX4_atPlace 54 = .ok (.ireturn, 1) := by decide +kernel
set_option maxRecDepth 20000 in
theorem ggX4_gapBehind_X4_has : GoodIn wsX4_gapBehind wsX4_has := goodIn_ca (goodIn_r _ [8, 9, 10, 23, 24, 25, 26, 27, 28, 29] (by decide +kernel) (by decide +kernel)) (goodIn_sub (fun _ h => List.mem_cons_of_mem _ (List.mem_append_right _ h)) (by decide +kernel))
set_option maxRecDepth 20000 in
theorem gX4_gapBehind_X4_has : GoodIn wsX4_gapBehind (wsV RX4 35 RX4 yX4_has wsX4_has) := goodIn_app (goodIn_of _ (by decide +kernel)) ggX4_gapBehind_X4_has
set_option maxRecDepth 20000 in
theorem ggX4_gapBehind_X4_nextFirst : GoodIn wsX4_gapBehind wsX4_nextFirst := goodIn_ca (goodIn_r _ [14, 2, 15, 16, 17, 7, 18, 9, 19, 20, 21, 22, 1, 4, 5, 6, 8, 10, 23, 24, 25, 26, 27, 28, 29] (by decide +kernel) (by decide +kernel)) (goodIn_sub (fun _ h => List.mem_cons_of_mem _ (List.mem_append_right _ h)) (by decide +kernel))
set_option maxRecDepth 20000 in
theorem gX4_gapBehind_X4_nextFirst : GoodIn wsX4_gapBehind (wsV RX4 73 RX4 yX4_nextFirst wsX4_nextFirst) := goodIn_app (goodIn_of _ (by decide +kernel)) ggX4_gapBehind_X4_nextFirst
theorem dX4_gapBehind_0 : decode cX4_gapBehind 0 = .ok (.aload_n 0, 1) := by decide +kernel
theorem dX4_gapBehind_1 : decode cX4_gapBehind 1 = .ok (.iload_n 1, 1) := by decide +kernel
theorem dX4_gapBehind_2 : decode cX4_gapBehind 2 = .ok (.invokevirtual 35, 3) := by decide +kernel
theorem dX4_gapBehind_5 : decode cX4_gapBehind 5 = .ok (.ifCond .eq 29, 3) := by decide +kernel
theorem dX4_gapBehind_8 : decode cX4_gapBehind 8 = .ok (.aload_n 0, 1) := by decide +kernel
theorem dX4_gapBehind_9 : decode cX4_gapBehind 9 = .ok (.aload_n 0, 1) := by decide +kernel
theorem dX4_gapBehind_10 : decode cX4_gapBehind 10 = .ok (.getfield 9, 3) := by decide +kernel
theorem dX4_gapBehind_13 : decode cX4_gapBehind 13 = .ok (.iload_n 1, 1) := by decide +kernel
theorem dX4_gapBehind_14 : decode cX4_gapBehind 14 = .ok (.iaload, 1) := by decide +kernel
theorem dX4_gapBehind_15 : decode cX4_gapBehind 15 = .ok (.aload_n 0, 1) := by decide +kernel
theorem dX4_gapBehind_16 : decode cX4_gapBehind 16 = .ok (.getfield 15, 3) := by decide +kernel
theorem dX4_gapBehind_19 : decode cX4_gapBehind 19 = .ok (.iload_n 1, 1) := by decide +kernel
theorem dX4_gapBehind_20 : decode cX4_gapBehind 20 = .ok (.iaload, 1) := by decide +kernel
theorem dX4_gapBehind_21 : decode cX4_gapBehind 21 = .ok (.invokevirtual 73, 3) := by decide +kernel
theorem dX4_gapBehind_24 : decode cX4_gapBehind 24 = .ok (.aload_n 0, 1) := by decide +kernel
theorem dX4_gapBehind_25 : decode cX4_gapBehind 25 = .ok (.getfield 18, 3) := by decide +kernel
theorem dX4_gapBehind_28 : decode cX4_gapBehind 28 = .ok (.iload_n 1, 1) := by decide +kernel
theorem dX4_gapBehind_29 : decode cX4_gapBehind 29 = .ok (.iaload, 1) := by decide +kernel
theorem dX4_gapBehind_30 : decode cX4_gapBehind 30 = .ok (.isub, 1) := by decide +kernel
theorem dX4_gapBehind_31 : decode cX4_gapBehind 31 = .ok (.goto 4, 3) := by decide +kernel
theorem dX4_gapBehind_34 : decode cX4_gapBehind 34 = .ok (.iconst 0, 1) := by decide +kernel
theorem dX4_gapBehind_35 : decode cX4_gapBehind 35 = .ok (.ireturn, 1) := by decide +kernel
set_option maxRecDepth 20000 in
theorem ggX4_countGaps_X4_isOf : GoodIn wsX4_countGaps wsX4_isOf := goodIn_ca (goodIn_r _ [6, 7, 8, 9, 10, 5, 11, 1, 12, 27, 28, 29, 30, 31, 32, 33] (by decide +kernel) (by decide +kernel)) (goodIn_sub (fun _ h => List.mem_cons_of_mem _ (List.mem_append_right _ h)) (by decide +kernel))
set_option maxRecDepth 20000 in
theorem gX4_countGaps_X4_isOf : GoodIn wsX4_countGaps (wsV RX4 39 RX4 yX4_isOf wsX4_isOf) := goodIn_app (goodIn_of _ (by decide +kernel)) ggX4_countGaps_X4_isOf
set_option maxRecDepth 20000 in
theorem ggX4_countGaps_X4_gapBehind : GoodIn wsX4_countGaps wsX4_gapBehind := goodIn_ca (goodIn_r _ [16, 7, 17, 18, 8, 9, 10, 5, 11, 1, 12, 19, 20, 21, 22, 23, 24, 25, 26, 2, 3, 4, 6, 27, 28, 29, 30, 31, 32, 33] (by decide +kernel) (by decide +kernel)) (goodIn_sub (fun _ h => List.mem_cons_of_mem _ (List.mem_append_right _ h)) (by decide +kernel))
set_option maxRecDepth 20000 in
theorem gX4_countGaps_X4_gapBehind : GoodIn wsX4_countGaps (wsV RX4 76 RX4 yX4_gapBehind wsX4_gapBehind) := goodIn_app (goodIn_of _ (by decide +kernel)) ggX4_countGaps_X4_gapBehind
theorem dX4_countGaps_0 : decode cX4_countGaps 0 = .ok (.iconst 0, 1) := by decide +kernel
theorem dX4_countGaps_1 : decode cX4_countGaps 1 = .ok (.istore_n 2, 1) := by decide +kernel
theorem dX4_countGaps_2 : decode cX4_countGaps 2 = .ok (.iconst 0, 1) := by decide +kernel
theorem dX4_countGaps_3 : decode cX4_countGaps 3 = .ok (.istore_n 3, 1) := by decide +kernel
theorem dX4_countGaps_4 : decode cX4_countGaps 4 = .ok (.iload_n 3, 1) := by decide +kernel
theorem dX4_countGaps_5 : decode cX4_countGaps 5 = .ok (.aload_n 0, 1) := by decide +kernel
theorem dX4_countGaps_6 : decode cX4_countGaps 6 = .ok (.getfield 31, 3) := by decide +kernel
theorem dX4_countGaps_9 : decode cX4_countGaps 9 = .ok (.if_icmp .ge 29, 3) := by decide +kernel
theorem dX4_countGaps_12 : decode cX4_countGaps 12 = .ok (.aload_n 0, 1) := by decide +kernel
theorem dX4_countGaps_13 : decode cX4_countGaps 13 = .ok (.iload_n 3, 1) := by decide +kernel
theorem dX4_countGaps_14 : decode cX4_countGaps 14 = .ok (.iload_n 1, 1) := by decide +kernel
theorem dX4_countGaps_15 : decode cX4_countGaps 15 = .ok (.invokevirtual 39, 3) := by decide +kernel
theorem dX4_countGaps_18 : decode cX4_countGaps 18 = .ok (.ifCond .eq 14, 3) := by decide +kernel
theorem dX4_countGaps_21 : decode cX4_countGaps 21 = .ok (.aload_n 0, 1) := by decide +kernel
theorem dX4_countGaps_22 : decode cX4_countGaps 22 = .ok (.iload_n 3, 1) := by decide +kernel
theorem dX4_countGaps_23 : decode cX4_countGaps 23 = .ok (.invokevirtual 76, 3) := by decide +kernel
theorem dX4_countGaps_26 : decode cX4_countGaps 26 = .ok (.ifCond .le 6, 3) := by decide +kernel
theorem dX4_countGaps_29 : decode cX4_countGaps 29 = .ok (.iinc 2 1, 3) := by decide +kernel
theorem dX4_countGaps_32 : decode cX4_countGaps 32 = .ok (.iinc 3 1, 3) := by decide +kernel
theorem dX4_countGaps_35 : decode cX4_countGaps 35 = .ok (.goto (-31), 3) := by decide +kernel
theorem dX4_countGaps_38 : decode cX4_countGaps 38 = .ok (.iload_n 2, 1) := by decide +kernel
theorem dX4_countGaps_39 : decode cX4_countGaps 39 = .ok (.ireturn, 1) := by decide +kernel
set_option maxRecDepth 20000 in
theorem ggX4_aheadOfGap_X4_next : GoodIn wsX4_aheadOfGap wsX4_next := goodIn_ca (goodIn_r _ [7, 1, 2, 8, 9, 10, 6, 11, 12, 13, 14, 15, 16, 17, 27, 28, 29, 30, 31, 32, 33] (by decide +kernel) (by decide +kernel)) (goodIn_sub (fun _ h => List.mem_cons_of_mem _ (List.mem_append_right _ h)) (by decide +kernel))
set_option maxRecDepth 20000 in
theorem gX4_aheadOfGap_X4_next : GoodIn wsX4_aheadOfGap (wsV RX4 43 RX4 yX4_next wsX4_next) := goodIn_app (goodIn_of _ (by decide +kernel)) ggX4_aheadOfGap_X4_next
set_option maxRecDepth 20000 in
theorem ggX4_aheadOfGap_X4_gapBehind : GoodIn wsX4_aheadOfGap wsX4_gapBehind := goodIn_ca (goodIn_r _ [21, 12, 2, 22, 13, 14, 15, 6, 16, 1, 17, 23, 24, 25, 26, 3, 4, 5, 7, 8, 9, 10, 11, 27, 28, 29, 30, 31, 32, 33] (by decide +kernel) (by decide +kernel)) (goodIn_sub (fun _ h => List.mem_cons_of_mem _ (List.mem_append_right _ h)) (by decide +kernel))
set_option maxRecDepth 20000 in
theorem gX4_aheadOfGap_X4_gapBehind : GoodIn wsX4_aheadOfGap (wsV RX4 76 RX4 yX4_gapBehind wsX4_gapBehind) := goodIn_app (goodIn_of _ (by decide +kernel)) ggX4_aheadOfGap_X4_gapBehind
theorem dX4_aheadOfGap_0 : decode cX4_aheadOfGap 0 = .ok (.iconst 0, 1) := by decide +kernel
theorem dX4_aheadOfGap_1 : decode cX4_aheadOfGap 1 = .ok (.istore_n 3, 1) := by decide +kernel
theorem dX4_aheadOfGap_2 : decode cX4_aheadOfGap 2 = .ok (.aload_n 0, 1) := by decide +kernel
theorem dX4_aheadOfGap_3 : decode cX4_aheadOfGap 3 = .ok (.iload_n 1, 1) := by decide +kernel
theorem dX4_aheadOfGap_4 : decode cX4_aheadOfGap 4 = .ok (.iconst (-1), 1) := by decide +kernel
theorem dX4_aheadOfGap_5 : decode cX4_aheadOfGap 5 = .ok (.invokevirtual 43, 3) := by decide +kernel
theorem dX4_aheadOfGap_8 : decode cX4_aheadOfGap 8 = .ok (.istore 4, 2) := by decide +kernel
theorem dX4_aheadOfGap_10 : decode cX4_aheadOfGap 10 = .ok (.iconst 0, 1) := by decide +kernel
theorem dX4_aheadOfGap_11 : decode cX4_aheadOfGap 11 = .ok (.istore 5, 2) := by decide +kernel
theorem dX4_aheadOfGap_13 : decode cX4_aheadOfGap 13 = .ok (.iload 5, 2) := by decide +kernel
theorem dX4_aheadOfGap_15 : decode cX4_aheadOfGap 15 = .ok (.aload_n 0, 1) := by decide +kernel
theorem dX4_aheadOfGap_16 : decode cX4_aheadOfGap 16 = .ok (.getfield 31, 3) := by decide +kernel
theorem dX4_aheadOfGap_19 : decode cX4_aheadOfGap 19 = .ok (.if_icmp .ge 49, 3) := by decide +kernel
theorem dX4_aheadOfGap_22 : decode cX4_aheadOfGap 22 = .ok (.iload 4, 2) := by decide +kernel
theorem dX4_aheadOfGap_24 : decode cX4_aheadOfGap 24 = .ok (.iconst (-1), 1) := by decide +kernel
theorem dX4_aheadOfGap_25 : decode cX4_aheadOfGap 25 = .ok (.if_icmp .eq 43, 3) := by decide +kernel
theorem dX4_aheadOfGap_28 : decode cX4_aheadOfGap 28 = .ok (.aload_n 0, 1) := by decide +kernel
theorem dX4_aheadOfGap_29 : decode cX4_aheadOfGap 29 = .ok (.iload 4, 2) := by decide +kernel
theorem dX4_aheadOfGap_31 : decode cX4_aheadOfGap 31 = .ok (.invokevirtual 76, 3) := by decide +kernel
theorem dX4_aheadOfGap_34 : decode cX4_aheadOfGap 34 = .ok (.ifCond .le 14, 3) := by decide +kernel
theorem dX4_aheadOfGap_37 : decode cX4_aheadOfGap 37 = .ok (.iload_n 3, 1) := by decide +kernel
theorem dX4_aheadOfGap_38 : decode cX4_aheadOfGap 38 = .ok (.iload_n 2, 1) := by decide +kernel
theorem dX4_aheadOfGap_39 : decode cX4_aheadOfGap 39 = .ok (.if_icmp .ne 6, 3) := by decide +kernel
theorem dX4_aheadOfGap_42 : decode cX4_aheadOfGap 42 = .ok (.iload 4, 2) := by decide +kernel
theorem dX4_aheadOfGap_44 : decode cX4_aheadOfGap 44 = .ok (.ireturn, 1) := by decide +kernel
theorem dX4_aheadOfGap_45 : decode cX4_aheadOfGap 45 = .ok (.iinc 3 1, 3) := by decide +kernel
theorem dX4_aheadOfGap_48 : decode cX4_aheadOfGap 48 = .ok (.aload_n 0, 1) := by decide +kernel
theorem dX4_aheadOfGap_49 : decode cX4_aheadOfGap 49 = .ok (.iload_n 1, 1) := by decide +kernel
theorem dX4_aheadOfGap_50 : decode cX4_aheadOfGap 50 = .ok (.aload_n 0, 1) := by decide +kernel
theorem dX4_aheadOfGap_51 : decode cX4_aheadOfGap 51 = .ok (.getfield 15, 3) := by decide +kernel
theorem dX4_aheadOfGap_54 : decode cX4_aheadOfGap 54 = .ok (.iload 4, 2) := by decide +kernel
theorem dX4_aheadOfGap_56 : decode cX4_aheadOfGap 56 = .ok (.iaload, 1) := by decide +kernel
theorem dX4_aheadOfGap_57 : decode cX4_aheadOfGap 57 = .ok (.invokevirtual 43, 3) := by decide +kernel
theorem dX4_aheadOfGap_60 : decode cX4_aheadOfGap 60 = .ok (.istore 4, 2) := by decide +kernel
theorem dX4_aheadOfGap_62 : decode cX4_aheadOfGap 62 = .ok (.iinc 5 1, 3) := by decide +kernel
theorem dX4_aheadOfGap_65 : decode cX4_aheadOfGap 65 = .ok (.goto (-52), 3) := by decide +kernel
theorem dX4_aheadOfGap_68 : decode cX4_aheadOfGap 68 = .ok (.iconst (-1), 1) := by decide +kernel
theorem dX4_aheadOfGap_69 : decode cX4_aheadOfGap 69 = .ok (.ireturn, 1) := by decide +kernel
set_option maxRecDepth 20000 in
theorem ggX4_sumDays_X4_isOf : GoodIn wsX4_sumDays wsX4_isOf := goodIn_ca (goodIn_r _ [6, 7, 8, 9, 10, 5, 11, 1, 12, 19, 20, 21, 22, 23, 24, 25] (by decide +kernel) (by decide +kernel)) (goodIn_sub (fun _ h => List.mem_cons_of_mem _ (List.mem_append_right _ h)) (by decide +kernel))
set_option maxRecDepth 20000 in
theorem gX4_sumDays_X4_isOf : GoodIn wsX4_sumDays (wsV RX4 39 RX4 yX4_isOf wsX4_isOf) := goodIn_app (goodIn_of _ (by decide +kernel)) ggX4_sumDays_X4_isOf
set_option maxRecDepth 20000 in
theorem ggX4_sumDays_X4_days : GoodIn wsX4_sumDays wsX4_days := goodIn_ca (goodIn_r _ [16, 17, 18, 8, 9, 10, 5, 11, 1, 12, 19, 20, 21, 22, 23, 24, 25] (by decide +kernel) (by decide +kernel)) (goodIn_sub (fun _ h => List.mem_cons_of_mem _ (List.mem_append_right _ h)) (by decide +kernel))
set_option maxRecDepth 20000 in
theorem gX4_sumDays_X4_days : GoodIn wsX4_sumDays (wsV RX4 80 RX4 yX4_days wsX4_days) := goodIn_app (goodIn_of _ (by decide +kernel)) ggX4_sumDays_X4_days
theorem dX4_sumDays_0 : decode cX4_sumDays 0 = .ok (.iconst 0, 1) := by decide +kernel
theorem dX4_sumDays_1 : decode cX4_sumDays 1 = .ok (.istore_n 2, 1) := by decide +kernel
theorem dX4_sumDays_2 : decode cX4_sumDays 2 = .ok (.iconst 0, 1) := by decide +kernel
theorem dX4_sumDays_3 : decode cX4_sumDays 3 = .ok (.istore_n 3, 1) := by decide +kernel
theorem dX4_sumDays_4 : decode cX4_sumDays 4 = .ok (.iload_n 3, 1) := by decide +kernel
theorem dX4_sumDays_5 : decode cX4_sumDays 5 = .ok (.aload_n 0, 1) := by decide +kernel
theorem dX4_sumDays_6 : decode cX4_sumDays 6 = .ok (.getfield 31, 3) := by decide +kernel
theorem dX4_sumDays_9 : decode cX4_sumDays 9 = .ok (.if_icmp .ge 26, 3) := by decide +kernel
theorem dX4_sumDays_12 : decode cX4_sumDays 12 = .ok (.aload_n 0, 1) := by decide +kernel
theorem dX4_sumDays_13 : decode cX4_sumDays 13 = .ok (.iload_n 3, 1) := by decide +kernel
theorem dX4_sumDays_14 : decode cX4_sumDays 14 = .ok (.iload_n 1, 1) := by decide +kernel
theorem dX4_sumDays_15 : decode cX4_sumDays 15 = .ok (.invokevirtual 39, 3) := by decide +kernel
theorem dX4_sumDays_18 : decode cX4_sumDays 18 = .ok (.ifCond .eq 11, 3) := by decide +kernel
theorem dX4_sumDays_21 : decode cX4_sumDays 21 = .ok (.iload_n 2, 1) := by decide +kernel
theorem dX4_sumDays_22 : decode cX4_sumDays 22 = .ok (.aload_n 0, 1) := by decide +kernel
theorem dX4_sumDays_23 : decode cX4_sumDays 23 = .ok (.iload_n 3, 1) := by decide +kernel
theorem dX4_sumDays_24 : decode cX4_sumDays 24 = .ok (.invokevirtual 80, 3) := by decide +kernel
theorem dX4_sumDays_27 : decode cX4_sumDays 27 = .ok (.iadd, 1) := by decide +kernel
theorem dX4_sumDays_28 : decode cX4_sumDays 28 = .ok (.istore_n 2, 1) := by decide +kernel
theorem dX4_sumDays_29 : decode cX4_sumDays 29 = .ok (.iinc 3 1, 3) := by decide +kernel
theorem dX4_sumDays_32 : decode cX4_sumDays 32 = .ok (.goto (-28), 3) := by decide +kernel
theorem dX4_sumDays_35 : decode cX4_sumDays 35 = .ok (.iload_n 2, 1) := by decide +kernel
theorem dX4_sumDays_36 : decode cX4_sumDays 36 = .ok (.ireturn, 1) := by decide +kernel
set_option maxRecDepth 20000 in
theorem ggX5_init_X2_init : GoodIn wsX5_init wsX2_init := goodIn_r _ [23, 24, 2, 3, 25, 10, 11, 26, 27, 28, 29, 30, 31, 14, 15, 32, 33, 34, 35, 36, 37, 38, 39, 40, 41, 42, 43, 44, 45, 46, 47, 48, 49, 50, 51, 52, 53, 54, 55, 56, 73, 74, 75, 76, 77, 78, 79, 62, 63, 64, 87, 88, 89, 90, 91, 80, 81, 82, 83] (by decide +kernel) (by decide +kernel)
set_option maxRecDepth 20000 in
theorem gX5_init_X2_init_n9 : GoodIn wsX5_init (wsX2_init) := ggX5_init_X2_init
set_option maxRecDepth 20000 in
theorem ggX5_init_X4_init : GoodIn wsX5_init wsX4_init := goodIn_r _ [34, 35, 2, 3, 36, 37, 38, 39, 40, 41, 42, 43, 73, 74, 75, 76, 77, 78, 79] (by decide +kernel) (by decide +kernel)
set_option maxRecDepth 20000 in
theorem gX5_init_X4_init_n21 : GoodIn wsX5_init (wsX4_init) := ggX5_init_X4_init
set_option maxRecDepth 20000 in
theorem ggX5_init_X1_init : GoodIn wsX5_init wsX1_init := goodIn_r _ [52, 53, 2, 3, 36, 54, 55, 56, 80, 81, 82, 83] (by decide +kernel) (by decide +kernel)
set_option maxRecDepth 20000 in
theorem gX5_init_X1_init_n28 : GoodIn wsX5_init (wsX1_init) := ggX5_init_X1_init
set_option maxRecDepth 20000 in
theorem ggX5_init_X3_init : GoodIn wsX5_init wsX3_init := goodIn_r _ [58, 59, 2, 3, 60, 61, 84, 85, 86] (by decide +kernel) (by decide +kernel)
set_option maxRecDepth 20000 in
theorem gX5_init_X3_init_n35 : GoodIn wsX5_init (wsX3_init) := ggX5_init_X3_init
theorem dX5_init_0 : decode cX5_init 0 = .ok (.aload_n 0, 1) := by decide +kernel
theorem dX5_init_1 : decode cX5_init 1 = .ok (.invokespecial 1, 3) := by decide +kernel
theorem dX5_init_4 : decode cX5_init 4 = .ok (.aload_n 0, 1) := by decide +kernel
theorem dX5_init_5 : decode cX5_init 5 = .ok (.new 7, 3) := by decide +kernel
theorem dX5_init_8 : decode cX5_init 8 = .ok (.dup, 1) := by decide +kernel
theorem dX5_init_9 : decode cX5_init 9 = .ok (.invokespecial 9, 3) := by decide +kernel
theorem dX5_init_12 : decode cX5_init 12 = .ok (.putfield 10, 3) := by decide +kernel
theorem dX5_init_15 : decode cX5_init 15 = .ok (.aload_n 0, 1) := by decide +kernel
theorem dX5_init_16 : decode cX5_init 16 = .ok (.new 7, 3) := by decide +kernel
theorem dX5_init_19 : decode cX5_init 19 = .ok (.dup, 1) := by decide +kernel
theorem dX5_init_20 : decode cX5_init 20 = .ok (.invokespecial 9, 3) := by decide +kernel
theorem dX5_init_23 : decode cX5_init 23 = .ok (.putfield 16, 3) := by decide +kernel
theorem dX5_init_26 : decode cX5_init 26 = .ok (.aload_n 0, 1) := by decide +kernel
theorem dX5_init_27 : decode cX5_init 27 = .ok (.new 19, 3) := by decide +kernel
theorem dX5_init_30 : decode cX5_init 30 = .ok (.dup, 1) := by decide +kernel
theorem dX5_init_31 : decode cX5_init 31 = .ok (.invokespecial 21, 3) := by decide +kernel
theorem dX5_init_34 : decode cX5_init 34 = .ok (.putfield 22, 3) := by decide +kernel
theorem dX5_init_37 : decode cX5_init 37 = .ok (.aload_n 0, 1) := by decide +kernel
theorem dX5_init_38 : decode cX5_init 38 = .ok (.new 26, 3) := by decide +kernel
theorem dX5_init_41 : decode cX5_init 41 = .ok (.dup, 1) := by decide +kernel
theorem dX5_init_42 : decode cX5_init 42 = .ok (.invokespecial 28, 3) := by decide +kernel
theorem dX5_init_45 : decode cX5_init 45 = .ok (.putfield 29, 3) := by decide +kernel
theorem dX5_init_48 : decode cX5_init 48 = .ok (.aload_n 0, 1) := by decide +kernel
theorem dX5_init_49 : decode cX5_init 49 = .ok (.new 33, 3) := by decide +kernel
theorem dX5_init_52 : decode cX5_init 52 = .ok (.dup, 1) := by decide +kernel
theorem dX5_init_53 : decode cX5_init 53 = .ok (.invokespecial 35, 3) := by decide +kernel
theorem dX5_init_56 : decode cX5_init 56 = .ok (.putfield 36, 3) := by decide +kernel
theorem dX5_init_59 : decode cX5_init 59 = .ok (.aload_n 0, 1) := by decide +kernel
theorem dX5_init_60 : decode cX5_init 60 = .ok (.iconst (-1), 1) := by decide +kernel
theorem dX5_init_61 : decode cX5_init 61 = .ok (.putfield 40, 3) := by decide +kernel
theorem dX5_init_64 : decode cX5_init 64 = .ok (.return_, 1) := by decide +kernel
set_option maxRecDepth 20000 in
theorem ggX5_change_X5_checkKey : GoodIn wsX5_change wsX5_checkKey := goodIn_ca (goodIn_r _ [8, 9, 10] (by decide +kernel) (by decide +kernel)) (goodIn_sub (fun _ h => List.mem_cons_of_mem _ (List.mem_append_left _ (List.mem_append_left _ (List.mem_append_right _ h)))) (by decide +kernel))
set_option maxRecDepth 20000 in
theorem gX5_change_X5_checkKey : GoodIn wsX5_change (va_wsS RX5 44 yX5_checkKey wsX5_checkKey) := goodIn_app (goodIn_of _ (by decide +kernel)) ggX5_change_X5_checkKey
set_option maxRecDepth 20000 in
theorem ggX5_change_X5_checkDay : GoodIn wsX5_change wsX5_checkDay := goodIn_ca (goodIn_r _ [13, 14, 15] (by decide +kernel) (by decide +kernel)) (goodIn_sub (fun _ h => List.mem_cons_of_mem _ (List.mem_append_left _ (List.mem_append_right _ h))) (by decide +kernel))
set_option maxRecDepth 20000 in
theorem gX5_change_X5_checkDay : GoodIn wsX5_change (va_wsS RX5 48 yX5_checkDay wsX5_checkDay) := goodIn_app (goodIn_of _ (by decide +kernel)) ggX5_change_X5_checkDay
set_option maxRecDepth 20000 in
theorem ggX5_change_X4_put : GoodIn wsX5_change wsX4_put := goodIn_ca (goodIn_r _ [20, 21, 22, 23, 24, 25, 26, 19, 27, 28, 29, 30, 31, 32, 33, 34, 35, 36, 37, 38, 39, 40, 41, 42, 43, 44, 45, 46, 47, 48, 49, 50, 51, 52, 53, 54, 55, 56, 57, 58, 59, 87, 88, 89, 90, 91, 92, 93] (by decide +kernel) (by decide +kernel)) (goodIn_sub (fun _ h => List.mem_cons_of_mem _ (List.mem_append_right _ h)) (by decide +kernel))
set_option maxRecDepth 20000 in
theorem gX5_change_X4_put : GoodIn wsX5_change (wsV RX5 54 RX4 yX4_put wsX4_put) := goodIn_app (goodIn_of _ (by decide +kernel)) ggX5_change_X4_put
set_option maxRecDepth 20000 in
theorem ggX5_change_X5_pointFacts : GoodIn wsX5_change wsX5_pointFacts := goodIn_ca (goodIn_r _ [63, 3, 64, 4, 65, 66, 67, 68, 69, 70, 71, 72, 73, 74, 75, 25, 26, 19, 27, 28, 21, 29, 30, 31, 32, 33, 34, 35, 36, 37, 38, 39, 76, 77, 78, 79, 80, 81, 82, 83, 84, 85, 86, 94, 95, 96, 97, 98, 87, 88, 89, 90, 91, 92, 93] (by decide +kernel) (by decide +kernel)) (goodIn_sub (fun _ h => List.mem_cons_of_mem _ (List.mem_append_right _ h)) (by decide +kernel))
set_option maxRecDepth 20000 in
theorem gX5_change_X5_pointFacts : GoodIn wsX5_change (wsV RX5 61 RX5 yX5_pointFacts wsX5_pointFacts) := goodIn_app (goodIn_of _ (by decide +kernel)) ggX5_change_X5_pointFacts
theorem dX5_change_0 : decode cX5_change 0 = .ok (.iload_n 1, 1) := by decide +kernel
theorem dX5_change_1 : decode cX5_change 1 = .ok (.invokestatic 44, 3) := by decide +kernel
theorem dX5_change_4 : decode cX5_change 4 = .ok (.iload_n 2, 1) := by decide +kernel
theorem dX5_change_5 : decode cX5_change 5 = .ok (.invokestatic 48, 3) := by decide +kernel
theorem dX5_change_8 : decode cX5_change 8 = .ok (.aload_n 0, 1) := by decide +kernel
theorem dX5_change_9 : decode cX5_change 9 = .ok (.getfield 10, 3) := by decide +kernel
theorem dX5_change_12 : decode cX5_change 12 = .ok (.getfield 51, 3) := by decide +kernel
theorem dX5_change_15 : decode cX5_change 15 = .ok (.iload_n 1, 1) := by decide +kernel
theorem dX5_change_16 : decode cX5_change 16 = .ok (.iload_n 2, 1) := by decide +kernel
theorem dX5_change_17 : decode cX5_change 17 = .ok (.iload_n 3, 1) := by decide +kernel
theorem dX5_change_18 : decode cX5_change 18 = .ok (.invokevirtual 54, 3) := by decide +kernel
theorem dX5_change_21 : decode cX5_change 21 = .ok (.istore 4, 2) := by decide +kernel
theorem dX5_change_23 : decode cX5_change 23 = .ok (.iload 4, 2) := by decide +kernel
theorem dX5_change_25 : decode cX5_change 25 = .ok (.iconst (-1), 1) := by decide +kernel
theorem dX5_change_26 : decode cX5_change 26 = .ok (.if_icmp .ne 11, 3) := by decide +kernel
theorem dX5_change_29 : decode cX5_change 29 = .ok (.new 58, 3) := by decide +kernel
theorem dX5_change_32 : decode cX5_change 32 = .ok (.dup, 1) := by decide +kernel
theorem dX5_change_33 : decode cX5_change 33 = .ok (.invokespecial 60, 3) := by decide +kernel
theorem dX5_change_36 : decode cX5_change 36 = .ok (.athrow, 1) := by decide +kernel
theorem dX5_change_37 : decode cX5_change 37 = .ok (.aload_n 0, 1) := by decide +kernel
theorem dX5_change_38 : decode cX5_change 38 = .ok (.invokevirtual 61, 3) := by decide +kernel
theorem dX5_change_41 : decode cX5_change 41 = .ok (.iload 4, 2) := by decide +kernel
theorem dX5_change_43 : decode cX5_change 43 = .ok (.ireturn, 1) := by decide +kernel
set_option maxRecDepth 20000 in
theorem ggX5_addFact_X5_checkKey : GoodIn wsX5_addFact wsX5_checkKey := goodIn_ca (goodIn_r _ [9, 10, 11] (by decide +kernel) (by decide +kernel)) (goodIn_sub (fun _ h => List.mem_cons_of_mem _ (List.mem_append_left _ (List.mem_append_left _ (List.mem_append_right _ h)))) (by decide +kernel))
set_option maxRecDepth 20000 in
theorem gX5_addFact_X5_checkKey : GoodIn wsX5_addFact (va_wsS RX5 44 yX5_checkKey wsX5_checkKey) := goodIn_app (goodIn_of _ (by decide +kernel)) ggX5_addFact_X5_checkKey
set_option maxRecDepth 20000 in
theorem ggX5_addFact_X5_checkDay : GoodIn wsX5_addFact wsX5_checkDay := goodIn_ca (goodIn_r _ [14, 15, 16] (by decide +kernel) (by decide +kernel)) (goodIn_sub (fun _ h => List.mem_cons_of_mem _ (List.mem_append_left _ (List.mem_append_right _ h))) (by decide +kernel))
set_option maxRecDepth 20000 in
theorem gX5_addFact_X5_checkDay : GoodIn wsX5_addFact (va_wsS RX5 48 yX5_checkDay wsX5_checkDay) := goodIn_app (goodIn_of _ (by decide +kernel)) ggX5_addFact_X5_checkDay
set_option maxRecDepth 20000 in
theorem ggX5_addFact_X0_isFull : GoodIn wsX5_addFact wsX0_isFull := goodIn_r _ [21, 22, 85, 86, 87, 88, 89] (by decide +kernel) (by decide +kernel)
set_option maxRecDepth 20000 in
theorem gX5_addFact_X0_isFull : GoodIn wsX5_addFact (wsV RX5 68 RX0 yX0_isFull wsX0_isFull) := goodIn_app (goodIn_of _ (by decide +kernel)) ggX5_addFact_X0_isFull
set_option maxRecDepth 20000 in
theorem ggX5_addFact_X4_cover : GoodIn wsX5_addFact wsX4_cover := goodIn_ca (goodIn_r _ [27, 28, 29, 30, 31, 32, 26, 33, 34, 35, 36, 37, 38, 39, 40, 41, 42, 43, 44, 45, 46, 47, 48, 49, 50, 51, 52, 53, 54, 90, 91, 92, 93, 94, 95, 96] (by decide +kernel) (by decide +kernel)) (goodIn_sub (fun _ h => List.mem_cons_of_mem _ (List.mem_append_right _ h)) (by decide +kernel))
set_option maxRecDepth 20000 in
theorem gX5_addFact_X4_cover : GoodIn wsX5_addFact (wsV RX5 74 RX4 yX4_cover wsX4_cover) := goodIn_app (goodIn_of _ (by decide +kernel)) ggX5_addFact_X4_cover
set_option maxRecDepth 20000 in
theorem ggX5_addFact_X5_pointFacts : GoodIn wsX5_addFact wsX5_pointFacts := goodIn_ca (goodIn_r _ [58, 3, 4, 5, 59, 60, 61, 62, 20, 63, 22, 64, 65, 66, 67, 31, 32, 26, 33, 34, 29, 35, 36, 37, 38, 39, 40, 41, 42, 43, 44, 45, 74, 75, 76, 77, 78, 79, 80, 81, 82, 83, 84, 85, 86, 87, 88, 89, 90, 91, 92, 93, 94, 95, 96] (by decide +kernel) (by decide +kernel)) (goodIn_sub (fun _ h => List.mem_cons_of_mem _ (List.mem_append_right _ h)) (by decide +kernel))
set_option maxRecDepth 20000 in
theorem gX5_addFact_X5_pointFacts : GoodIn wsX5_addFact (wsV RX5 61 RX5 yX5_pointFacts wsX5_pointFacts) := goodIn_app (goodIn_of _ (by decide +kernel)) ggX5_addFact_X5_pointFacts
set_option maxRecDepth 20000 in
theorem ggX5_addFact_X0_add : GoodIn wsX5_addFact wsX0_add := goodIn_ca (goodIn_r _ [71, 64, 22, 65, 72, 66, 73, 18, 19, 20, 21, 85, 86, 87, 88, 89] (by decide +kernel) (by decide +kernel)) (goodIn_sub (fun _ h => List.mem_cons_of_mem _ (List.mem_append_right _ h)) (by decide +kernel))
set_option maxRecDepth 20000 in
theorem gX5_addFact_X0_add : GoodIn wsX5_addFact (wsV RX5 78 RX0 yX0_add wsX0_add) := goodIn_app (goodIn_of _ (by decide +kernel)) ggX5_addFact_X0_add
theorem dX5_addFact_0 : decode cX5_addFact 0 = .ok (.iload_n 1, 1) := by decide +kernel
theorem dX5_addFact_1 : decode cX5_addFact 1 = .ok (.invokestatic 44, 3) := by decide +kernel
theorem dX5_addFact_4 : decode cX5_addFact 4 = .ok (.iload_n 2, 1) := by decide +kernel
theorem dX5_addFact_5 : decode cX5_addFact 5 = .ok (.invokestatic 48, 3) := by decide +kernel
theorem dX5_addFact_8 : decode cX5_addFact 8 = .ok (.aload_n 0, 1) := by decide +kernel
theorem dX5_addFact_9 : decode cX5_addFact 9 = .ok (.getfield 10, 3) := by decide +kernel
theorem dX5_addFact_12 : decode cX5_addFact 12 = .ok (.getfield 64, 3) := by decide +kernel
theorem dX5_addFact_15 : decode cX5_addFact 15 = .ok (.invokevirtual 68, 3) := by decide +kernel
theorem dX5_addFact_18 : decode cX5_addFact 18 = .ok (.ifCond .eq 11, 3) := by decide +kernel
theorem dX5_addFact_21 : decode cX5_addFact 21 = .ok (.new 58, 3) := by decide +kernel
theorem dX5_addFact_24 : decode cX5_addFact 24 = .ok (.dup, 1) := by decide +kernel
theorem dX5_addFact_25 : decode cX5_addFact 25 = .ok (.invokespecial 60, 3) := by decide +kernel
theorem dX5_addFact_28 : decode cX5_addFact 28 = .ok (.athrow, 1) := by decide +kernel
theorem dX5_addFact_29 : decode cX5_addFact 29 = .ok (.aload_n 0, 1) := by decide +kernel
theorem dX5_addFact_30 : decode cX5_addFact 30 = .ok (.getfield 10, 3) := by decide +kernel
theorem dX5_addFact_33 : decode cX5_addFact 33 = .ok (.getfield 51, 3) := by decide +kernel
theorem dX5_addFact_36 : decode cX5_addFact 36 = .ok (.iload_n 1, 1) := by decide +kernel
theorem dX5_addFact_37 : decode cX5_addFact 37 = .ok (.iload_n 2, 1) := by decide +kernel
theorem dX5_addFact_38 : decode cX5_addFact 38 = .ok (.invokevirtual 74, 3) := by decide +kernel
theorem dX5_addFact_41 : decode cX5_addFact 41 = .ok (.istore 4, 2) := by decide +kernel
theorem dX5_addFact_43 : decode cX5_addFact 43 = .ok (.iload 4, 2) := by decide +kernel
theorem dX5_addFact_45 : decode cX5_addFact 45 = .ok (.iconst (-1), 1) := by decide +kernel
theorem dX5_addFact_46 : decode cX5_addFact 46 = .ok (.if_icmp .ne 11, 3) := by decide +kernel
theorem dX5_addFact_49 : decode cX5_addFact 49 = .ok (.new 58, 3) := by decide +kernel
theorem dX5_addFact_52 : decode cX5_addFact 52 = .ok (.dup, 1) := by decide +kernel
theorem dX5_addFact_53 : decode cX5_addFact 53 = .ok (.invokespecial 60, 3) := by decide +kernel
theorem dX5_addFact_56 : decode cX5_addFact 56 = .ok (.athrow, 1) := by decide +kernel
theorem dX5_addFact_57 : decode cX5_addFact 57 = .ok (.aload_n 0, 1) := by decide +kernel
theorem dX5_addFact_58 : decode cX5_addFact 58 = .ok (.invokevirtual 61, 3) := by decide +kernel
theorem dX5_addFact_61 : decode cX5_addFact 61 = .ok (.aload_n 0, 1) := by decide +kernel
theorem dX5_addFact_62 : decode cX5_addFact 62 = .ok (.getfield 10, 3) := by decide +kernel
theorem dX5_addFact_65 : decode cX5_addFact 65 = .ok (.getfield 64, 3) := by decide +kernel
theorem dX5_addFact_68 : decode cX5_addFact 68 = .ok (.iload_n 1, 1) := by decide +kernel
theorem dX5_addFact_69 : decode cX5_addFact 69 = .ok (.iload_n 2, 1) := by decide +kernel
theorem dX5_addFact_70 : decode cX5_addFact 70 = .ok (.iload_n 3, 1) := by decide +kernel
theorem dX5_addFact_71 : decode cX5_addFact 71 = .ok (.iload 4, 2) := by decide +kernel
theorem dX5_addFact_73 : decode cX5_addFact 73 = .ok (.invokevirtual 78, 3) := by decide +kernel
theorem dX5_addFact_76 : decode cX5_addFact 76 = .ok (.iload 4, 2) := by decide +kernel
theorem dX5_addFact_78 : decode cX5_addFact 78 = .ok (.ireturn, 1) := by decide +kernel
set_option maxRecDepth 20000 in
theorem ggX5_close_X5_checkKey : GoodIn wsX5_close wsX5_checkKey := goodIn_ca (goodIn_r _ [13, 14, 15] (by decide +kernel) (by decide +kernel)) (goodIn_sub (fun _ h => List.mem_cons_of_mem _ (List.mem_append_left _ (List.mem_append_right _ h))) (by decide +kernel))
set_option maxRecDepth 20000 in
theorem gX5_close_X5_checkKey : GoodIn wsX5_close (va_wsS RX5 44 yX5_checkKey wsX5_checkKey) := goodIn_app (goodIn_of _ (by decide +kernel)) ggX5_close_X5_checkKey
set_option maxRecDepth 20000 in
theorem ggX5_close_X5_checkDay : GoodIn wsX5_close wsX5_checkDay := goodIn_ca (goodIn_r _ [18, 19, 20] (by decide +kernel) (by decide +kernel)) (goodIn_sub (fun _ h => List.mem_cons_of_mem _ (List.mem_append_right _ h)) (by decide +kernel))
set_option maxRecDepth 20000 in
theorem gX5_close_X5_checkDay : GoodIn wsX5_close (va_wsS RX5 48 yX5_checkDay wsX5_checkDay) := goodIn_app (goodIn_of _ (by decide +kernel)) ggX5_close_X5_checkDay
set_option maxRecDepth 20000 in
theorem ggX5_close_X4_onDay : GoodIn wsX5_close wsX4_onDay := goodIn_ca (goodIn_r _ [25, 26, 27, 28, 29, 30, 31, 24, 32, 33, 34, 35, 36, 37, 38, 69, 70, 71, 72, 73, 74, 75] (by decide +kernel) (by decide +kernel)) (goodIn_sub (fun _ h => List.mem_cons_of_mem _ (List.mem_append_left _ (List.mem_append_left _ (List.mem_append_left _ (List.mem_append_right _ h))))) (by decide +kernel))
set_option maxRecDepth 20000 in
theorem gX5_close_X4_onDay : GoodIn wsX5_close (wsV RX5 82 RX4 yX4_onDay wsX4_onDay) := goodIn_app (goodIn_of _ (by decide +kernel)) ggX5_close_X4_onDay
set_option maxRecDepth 20000 in
theorem ggX5_close_X0_pointFrom : GoodIn wsX5_close wsX0_pointFrom := goodIn_ca (goodIn_r _ [43, 44, 45, 46, 76, 77, 78, 79, 80] (by decide +kernel) (by decide +kernel)) (goodIn_sub (fun _ h => List.mem_cons_of_mem _ (List.mem_append_left _ (List.mem_append_left _ (List.mem_append_left _ (List.mem_append_right _ h))))) (by decide +kernel))
set_option maxRecDepth 20000 in
theorem gX5_close_X0_pointFrom : GoodIn wsX5_close (wsV RX5 92 RX0 yX0_pointFrom wsX0_pointFrom) := goodIn_app (goodIn_of _ (by decide +kernel)) ggX5_close_X0_pointFrom
set_option maxRecDepth 20000 in
theorem ggX5_close_X5_pointFacts : GoodIn wsX5_close wsX5_pointFacts := goodIn_ca (goodIn_r _ [50, 5, 8, 6, 51, 52, 53, 54, 42, 55, 44, 56, 46, 45, 57, 22, 23, 24, 25, 26, 27, 28, 29, 30, 31, 32, 33, 34, 35, 36, 37, 38, 58, 59, 60, 61, 62, 63, 64, 65, 66, 67, 68, 76, 77, 78, 79, 80, 69, 70, 71, 72, 73, 74, 75] (by decide +kernel) (by decide +kernel)) (goodIn_sub (fun _ h => List.mem_cons_of_mem _ (List.mem_append_left _ (List.mem_append_left _ (List.mem_append_left _ (List.mem_append_right _ h))))) (by decide +kernel))
set_option maxRecDepth 20000 in
theorem gX5_close_X5_pointFacts : GoodIn wsX5_close (wsV RX5 61 RX5 yX5_pointFacts wsX5_pointFacts) := goodIn_app (goodIn_of _ (by decide +kernel)) ggX5_close_X5_pointFacts
theorem dX5_close_0 : decode cX5_close 0 = .ok (.iload_n 1, 1) := by decide +kernel
theorem dX5_close_1 : decode cX5_close 1 = .ok (.invokestatic 44, 3) := by decide +kernel
theorem dX5_close_4 : decode cX5_close 4 = .ok (.iload_n 2, 1) := by decide +kernel
theorem dX5_close_5 : decode cX5_close 5 = .ok (.invokestatic 48, 3) := by decide +kernel
theorem dX5_close_8 : decode cX5_close 8 = .ok (.aload_n 0, 1) := by decide +kernel
theorem dX5_close_9 : decode cX5_close 9 = .ok (.getfield 10, 3) := by decide +kernel
theorem dX5_close_12 : decode cX5_close 12 = .ok (.getfield 51, 3) := by decide +kernel
theorem dX5_close_15 : decode cX5_close 15 = .ok (.astore_n 3, 1) := by decide +kernel
theorem dX5_close_16 : decode cX5_close 16 = .ok (.aload_n 3, 1) := by decide +kernel
theorem dX5_close_17 : decode cX5_close 17 = .ok (.iload_n 1, 1) := by decide +kernel
theorem dX5_close_18 : decode cX5_close 18 = .ok (.iload_n 2, 1) := by decide +kernel
theorem dX5_close_19 : decode cX5_close 19 = .ok (.invokevirtual 82, 3) := by decide +kernel
theorem dX5_close_22 : decode cX5_close 22 = .ok (.istore 4, 2) := by decide +kernel
theorem dX5_close_24 : decode cX5_close 24 = .ok (.iload 4, 2) := by decide +kernel
theorem dX5_close_26 : decode cX5_close 26 = .ok (.iconst (-1), 1) := by decide +kernel
theorem dX5_close_27 : decode cX5_close 27 = .ok (.if_icmp .ne 11, 3) := by decide +kernel
theorem dX5_close_30 : decode cX5_close 30 = .ok (.new 85, 3) := by decide +kernel
theorem dX5_close_33 : decode cX5_close 33 = .ok (.dup, 1) := by decide +kernel
theorem dX5_close_34 : decode cX5_close 34 = .ok (.invokespecial 87, 3) := by decide +kernel
theorem dX5_close_37 : decode cX5_close 37 = .ok (.athrow, 1) := by decide +kernel
theorem dX5_close_38 : decode cX5_close 38 = .ok (.aload_n 3, 1) := by decide +kernel
theorem dX5_close_39 : decode cX5_close 39 = .ok (.getfield 88, 3) := by decide +kernel
theorem dX5_close_42 : decode cX5_close 42 = .ok (.iload 4, 2) := by decide +kernel
theorem dX5_close_44 : decode cX5_close 44 = .ok (.iaload, 1) := by decide +kernel
theorem dX5_close_45 : decode cX5_close 45 = .ok (.iload_n 2, 1) := by decide +kernel
theorem dX5_close_46 : decode cX5_close 46 = .ok (.if_icmp .eq 19, 3) := by decide +kernel
theorem dX5_close_49 : decode cX5_close 49 = .ok (.aload_n 0, 1) := by decide +kernel
theorem dX5_close_50 : decode cX5_close 50 = .ok (.getfield 10, 3) := by decide +kernel
theorem dX5_close_53 : decode cX5_close 53 = .ok (.getfield 64, 3) := by decide +kernel
theorem dX5_close_56 : decode cX5_close 56 = .ok (.iload_n 2, 1) := by decide +kernel
theorem dX5_close_57 : decode cX5_close 57 = .ok (.iload 4, 2) := by decide +kernel
theorem dX5_close_59 : decode cX5_close 59 = .ok (.invokevirtual 92, 3) := by decide +kernel
theorem dX5_close_62 : decode cX5_close 62 = .ok (.ifCond .eq 11, 3) := by decide +kernel
theorem dX5_close_65 : decode cX5_close 65 = .ok (.new 58, 3) := by decide +kernel
theorem dX5_close_68 : decode cX5_close 68 = .ok (.dup, 1) := by decide +kernel
theorem dX5_close_69 : decode cX5_close 69 = .ok (.invokespecial 60, 3) := by decide +kernel
theorem dX5_close_72 : decode cX5_close 72 = .ok (.athrow, 1) := by decide +kernel
theorem dX5_close_73 : decode cX5_close 73 = .ok (.aload_n 3, 1) := by decide +kernel
theorem dX5_close_74 : decode cX5_close 74 = .ok (.getfield 96, 3) := by decide +kernel
theorem dX5_close_77 : decode cX5_close 77 = .ok (.iload 4, 2) := by decide +kernel
theorem dX5_close_79 : decode cX5_close 79 = .ok (.iaload, 1) := by decide +kernel
theorem dX5_close_80 : decode cX5_close 80 = .ok (.istore 5, 2) := by decide +kernel
theorem dX5_close_82 : decode cX5_close 82 = .ok (.aload_n 3, 1) := by decide +kernel
theorem dX5_close_83 : decode cX5_close 83 = .ok (.getfield 96, 3) := by decide +kernel
theorem dX5_close_86 : decode cX5_close 86 = .ok (.iload 4, 2) := by decide +kernel
theorem dX5_close_88 : decode cX5_close 88 = .ok (.iload_n 2, 1) := by decide +kernel
theorem dX5_close_89 : decode cX5_close 89 = .ok (.iastore, 1) := by decide +kernel
theorem dX5_close_90 : decode cX5_close 90 = .ok (.aload_n 0, 1) := by decide +kernel
theorem dX5_close_91 : decode cX5_close 91 = .ok (.invokevirtual 61, 3) := by decide +kernel
theorem dX5_close_94 : decode cX5_close 94 = .ok (.iload 5, 2) := by decide +kernel
theorem dX5_close_96 : decode cX5_close 96 = .ok (.ireturn, 1) := by decide +kernel
set_option maxRecDepth 20000 in
theorem ggX5_remove_X5_checkVersion : GoodIn wsX5_remove wsX5_checkVersion := goodIn_ca (goodIn_ca (goodIn_r _ [10, 11, 12, 3, 5, 13, 14, 15, 16, 17, 18, 19, 62, 63, 64, 65, 66, 67, 68, 69, 70, 71, 72, 73, 74, 75, 76, 77, 78, 79] (by decide +kernel) (by decide +kernel)) (goodIn_sub (fun _ h => List.mem_cons_of_mem _ (List.mem_append_left _ (List.mem_append_right _ h))) (by decide +kernel))) (goodIn_sub (fun _ h => List.mem_cons_of_mem _ (List.mem_append_right _ h)) (by decide +kernel))
set_option maxRecDepth 20000 in
theorem gX5_remove_X5_checkVersion : GoodIn wsX5_remove (wsV RX5 99 RX5 yX5_checkVersion wsX5_checkVersion) := goodIn_app (goodIn_of _ (by decide +kernel)) ggX5_remove_X5_checkVersion
set_option maxRecDepth 20000 in
theorem ggX5_remove_X0_countOf : GoodIn wsX5_remove wsX0_countOf := goodIn_ca (goodIn_r _ [24, 25, 26, 80, 81, 82, 83, 84] (by decide +kernel) (by decide +kernel)) (goodIn_sub (fun _ h => List.mem_cons_of_mem _ (List.mem_append_right _ h)) (by decide +kernel))
set_option maxRecDepth 20000 in
theorem gX5_remove_X0_countOf : GoodIn wsX5_remove (wsV RX5 109 RX0 yX0_countOf wsX0_countOf) := goodIn_app (goodIn_of _ (by decide +kernel)) ggX5_remove_X0_countOf
set_option maxRecDepth 20000 in
theorem ggX5_remove_X4_endingWhereBegins : GoodIn wsX5_remove wsX4_endingWhereBegins := goodIn_ca (goodIn_r _ [30, 18, 31, 32, 33, 34, 14, 15, 16, 17, 19, 35, 36, 37, 38, 73, 74, 75, 76, 77, 78, 79] (by decide +kernel) (by decide +kernel)) (goodIn_sub (fun _ h => List.mem_cons_of_mem _ (List.mem_append_right _ h)) (by decide +kernel))
set_option maxRecDepth 20000 in
theorem gX5_remove_X4_endingWhereBegins : GoodIn wsX5_remove (wsV RX5 113 RX4 yX4_endingWhereBegins wsX4_endingWhereBegins) := goodIn_app (goodIn_of _ (by decide +kernel)) ggX5_remove_X4_endingWhereBegins
set_option maxRecDepth 20000 in
theorem ggX5_remove_X4_drop : GoodIn wsX5_remove wsX4_drop := goodIn_ca (goodIn_r _ [42, 19, 34, 14, 15, 16, 17, 18, 73, 74, 75, 76, 77, 78, 79] (by decide +kernel) (by decide +kernel)) (goodIn_sub (fun _ h => List.mem_cons_of_mem _ (List.mem_append_right _ h)) (by decide +kernel))
set_option maxRecDepth 20000 in
theorem gX5_remove_X4_drop : GoodIn wsX5_remove (wsV RX5 116 RX4 yX4_drop wsX4_drop) := goodIn_app (goodIn_of _ (by decide +kernel)) ggX5_remove_X4_drop
set_option maxRecDepth 20000 in
theorem ggX5_remove_X4_merge : GoodIn wsX5_remove wsX4_merge := goodIn_ca (goodIn_r _ [46, 32, 19, 34, 14, 15, 16, 17, 18, 73, 74, 75, 76, 77, 78, 79] (by decide +kernel) (by decide +kernel)) (goodIn_sub (fun _ h => List.mem_cons_of_mem _ (List.mem_append_right _ h)) (by decide +kernel))
set_option maxRecDepth 20000 in
theorem gX5_remove_X4_merge : GoodIn wsX5_remove (wsV RX5 119 RX4 yX4_merge wsX4_merge) := goodIn_app (goodIn_of _ (by decide +kernel)) ggX5_remove_X4_merge
set_option maxRecDepth 20000 in
theorem ggX5_remove_X5_pointFacts : GoodIn wsX5_remove wsX5_pointFacts := goodIn_ca (goodIn_r _ [50, 3, 4, 5, 51, 52, 53, 54, 23, 55, 25, 56, 57, 26, 58, 59, 60, 16, 61, 18, 33, 32, 35, 36, 37, 38, 31, 34, 14, 15, 17, 19, 62, 63, 64, 65, 66, 67, 68, 69, 70, 71, 72, 80, 81, 82, 83, 84, 73, 74, 75, 76, 77, 78, 79] (by decide +kernel) (by decide +kernel)) (goodIn_sub (fun _ h => List.mem_cons_of_mem _ (List.mem_append_right _ h)) (by decide +kernel))
set_option maxRecDepth 20000 in
theorem gX5_remove_X5_pointFacts : GoodIn wsX5_remove (wsV RX5 61 RX5 yX5_pointFacts wsX5_pointFacts) := goodIn_app (goodIn_of _ (by decide +kernel)) ggX5_remove_X5_pointFacts
theorem dX5_remove_0 : decode cX5_remove 0 = .ok (.aload_n 0, 1) := by decide +kernel
theorem dX5_remove_1 : decode cX5_remove 1 = .ok (.iload_n 1, 1) := by decide +kernel
theorem dX5_remove_2 : decode cX5_remove 2 = .ok (.invokevirtual 99, 3) := by decide +kernel
theorem dX5_remove_5 : decode cX5_remove 5 = .ok (.aload_n 0, 1) := by decide +kernel
theorem dX5_remove_6 : decode cX5_remove 6 = .ok (.getfield 10, 3) := by decide +kernel
theorem dX5_remove_9 : decode cX5_remove 9 = .ok (.getfield 64, 3) := by decide +kernel
theorem dX5_remove_12 : decode cX5_remove 12 = .ok (.iload_n 1, 1) := by decide +kernel
theorem dX5_remove_13 : decode cX5_remove 13 = .ok (.invokevirtual 109, 3) := by decide +kernel
theorem dX5_remove_16 : decode cX5_remove 16 = .ok (.istore_n 2, 1) := by decide +kernel
theorem dX5_remove_17 : decode cX5_remove 17 = .ok (.aload_n 0, 1) := by decide +kernel
theorem dX5_remove_18 : decode cX5_remove 18 = .ok (.getfield 10, 3) := by decide +kernel
theorem dX5_remove_21 : decode cX5_remove 21 = .ok (.getfield 51, 3) := by decide +kernel
theorem dX5_remove_24 : decode cX5_remove 24 = .ok (.iload_n 1, 1) := by decide +kernel
theorem dX5_remove_25 : decode cX5_remove 25 = .ok (.invokevirtual 113, 3) := by decide +kernel
theorem dX5_remove_28 : decode cX5_remove 28 = .ok (.istore_n 3, 1) := by decide +kernel
theorem dX5_remove_29 : decode cX5_remove 29 = .ok (.iload_n 2, 1) := by decide +kernel
theorem dX5_remove_30 : decode cX5_remove 30 = .ok (.ifCond .le 16, 3) := by decide +kernel
theorem dX5_remove_33 : decode cX5_remove 33 = .ok (.iload_n 3, 1) := by decide +kernel
theorem dX5_remove_34 : decode cX5_remove 34 = .ok (.iconst (-1), 1) := by decide +kernel
theorem dX5_remove_35 : decode cX5_remove 35 = .ok (.if_icmp .ne 11, 3) := by decide +kernel
theorem dX5_remove_38 : decode cX5_remove 38 = .ok (.new 58, 3) := by decide +kernel
theorem dX5_remove_41 : decode cX5_remove 41 = .ok (.dup, 1) := by decide +kernel
theorem dX5_remove_42 : decode cX5_remove 42 = .ok (.invokespecial 60, 3) := by decide +kernel
theorem dX5_remove_45 : decode cX5_remove 45 = .ok (.athrow, 1) := by decide +kernel
theorem dX5_remove_46 : decode cX5_remove 46 = .ok (.iload_n 3, 1) := by decide +kernel
theorem dX5_remove_47 : decode cX5_remove 47 = .ok (.iconst (-1), 1) := by decide +kernel
theorem dX5_remove_48 : decode cX5_remove 48 = .ok (.if_icmp .ne 17, 3) := by decide +kernel
theorem dX5_remove_51 : decode cX5_remove 51 = .ok (.aload_n 0, 1) := by decide +kernel
theorem dX5_remove_52 : decode cX5_remove 52 = .ok (.getfield 10, 3) := by decide +kernel
theorem dX5_remove_55 : decode cX5_remove 55 = .ok (.getfield 51, 3) := by decide +kernel
theorem dX5_remove_58 : decode cX5_remove 58 = .ok (.iload_n 1, 1) := by decide +kernel
theorem dX5_remove_59 : decode cX5_remove 59 = .ok (.invokevirtual 116, 3) := by decide +kernel
theorem dX5_remove_62 : decode cX5_remove 62 = .ok (.goto 15, 3) := by decide +kernel
theorem dX5_remove_65 : decode cX5_remove 65 = .ok (.aload_n 0, 1) := by decide +kernel
theorem dX5_remove_66 : decode cX5_remove 66 = .ok (.getfield 10, 3) := by decide +kernel
theorem dX5_remove_69 : decode cX5_remove 69 = .ok (.getfield 51, 3) := by decide +kernel
theorem dX5_remove_72 : decode cX5_remove 72 = .ok (.iload_n 3, 1) := by decide +kernel
theorem dX5_remove_73 : decode cX5_remove 73 = .ok (.iload_n 1, 1) := by decide +kernel
theorem dX5_remove_74 : decode cX5_remove 74 = .ok (.invokevirtual 119, 3) := by decide +kernel
theorem dX5_remove_77 : decode cX5_remove 77 = .ok (.aload_n 0, 1) := by decide +kernel
theorem dX5_remove_78 : decode cX5_remove 78 = .ok (.invokevirtual 61, 3) := by decide +kernel
theorem dX5_remove_81 : decode cX5_remove 81 = .ok (.iload_n 2, 1) := by decide +kernel
theorem dX5_remove_82 : decode cX5_remove 82 = .ok (.ireturn, 1) := by decide +kernel
set_option maxRecDepth 20000 in
theorem ggX5_join_X5_checkKey : GoodIn wsX5_join wsX5_checkKey := goodIn_ca (goodIn_r _ [6, 7, 8] (by decide +kernel) (by decide +kernel)) (goodIn_sub (fun _ h => List.mem_cons_of_mem _ (List.mem_append_left _ (List.mem_append_right _ h))) (by decide +kernel))
set_option maxRecDepth 20000 in
theorem gX5_join_X5_checkKey : GoodIn wsX5_join (va_wsS RX5 44 yX5_checkKey wsX5_checkKey) := goodIn_app (goodIn_of _ (by decide +kernel)) ggX5_join_X5_checkKey
set_option maxRecDepth 20000 in
theorem ggX5_join_X4_joinAlike : GoodIn wsX5_join wsX4_joinAlike := goodIn_ca (goodIn_r _ [13, 14, 15, 16, 17, 18, 12, 19, 20, 21, 22, 23, 24, 25, 26, 27, 28, 29, 30, 31, 32, 33, 34, 35, 36, 37, 38, 39, 40, 71, 72, 73, 74, 75, 76, 77] (by decide +kernel) (by decide +kernel)) (goodIn_sub (fun _ h => List.mem_cons_of_mem _ (List.mem_append_right _ h)) (by decide +kernel))
set_option maxRecDepth 20000 in
theorem gX5_join_X4_joinAlike : GoodIn wsX5_join (wsV RX5 122 RX4 yX4_joinAlike wsX4_joinAlike) := goodIn_app (goodIn_of _ (by decide +kernel)) ggX5_join_X4_joinAlike
set_option maxRecDepth 20000 in
theorem ggX5_join_X5_pointFacts : GoodIn wsX5_join wsX5_pointFacts := goodIn_ca (goodIn_r _ [44, 1, 45, 2, 46, 47, 48, 49, 50, 51, 52, 53, 54, 55, 56, 57, 58, 12, 59, 14, 15, 34, 20, 21, 22, 23, 24, 25, 26, 27, 28, 29, 60, 61, 62, 63, 64, 65, 66, 67, 68, 69, 70, 78, 79, 80, 81, 82, 71, 72, 73, 74, 75, 76, 77] (by decide +kernel) (by decide +kernel)) (goodIn_sub (fun _ h => List.mem_cons_of_mem _ (List.mem_append_right _ h)) (by decide +kernel))
set_option maxRecDepth 20000 in
theorem gX5_join_X5_pointFacts : GoodIn wsX5_join (wsV RX5 61 RX5 yX5_pointFacts wsX5_pointFacts) := goodIn_app (goodIn_of _ (by decide +kernel)) ggX5_join_X5_pointFacts
theorem dX5_join_0 : decode cX5_join 0 = .ok (.iload_n 1, 1) := by decide +kernel
theorem dX5_join_1 : decode cX5_join 1 = .ok (.invokestatic 44, 3) := by decide +kernel
theorem dX5_join_4 : decode cX5_join 4 = .ok (.aload_n 0, 1) := by decide +kernel
theorem dX5_join_5 : decode cX5_join 5 = .ok (.getfield 10, 3) := by decide +kernel
theorem dX5_join_8 : decode cX5_join 8 = .ok (.getfield 51, 3) := by decide +kernel
theorem dX5_join_11 : decode cX5_join 11 = .ok (.iload_n 1, 1) := by decide +kernel
theorem dX5_join_12 : decode cX5_join 12 = .ok (.invokevirtual 122, 3) := by decide +kernel
theorem dX5_join_15 : decode cX5_join 15 = .ok (.istore_n 2, 1) := by decide +kernel
theorem dX5_join_16 : decode cX5_join 16 = .ok (.aload_n 0, 1) := by decide +kernel
theorem dX5_join_17 : decode cX5_join 17 = .ok (.invokevirtual 61, 3) := by decide +kernel
theorem dX5_join_20 : decode cX5_join 20 = .ok (.iload_n 2, 1) := by decide +kernel
theorem dX5_join_21 : decode cX5_join 21 = .ok (.ireturn, 1) := by decide +kernel
set_option maxRecDepth 20000 in
theorem ggX5_versionCount_X4_count : GoodIn wsX5_versionCount wsX4_count := goodIn_ca (goodIn_r _ [7, 8, 9, 10, 11, 6, 12, 13, 25, 26, 27, 28, 29, 30, 31] (by decide +kernel) (by decide +kernel)) (goodIn_sub (fun _ h => List.mem_cons_of_mem _ (List.mem_append_right _ h)) (by decide +kernel))
set_option maxRecDepth 20000 in
theorem gX5_versionCount_X4_count : GoodIn wsX5_versionCount (wsV RX5 125 RX4 yX4_count wsX4_count) := goodIn_app (goodIn_of _ (by decide +kernel)) ggX5_versionCount_X4_count
theorem dX5_versionCount_0 : decode cX5_versionCount 0 = .ok (.aload_n 0, 1) := by decide +kernel
theorem dX5_versionCount_1 : decode cX5_versionCount 1 = .ok (.getfield 10, 3) := by decide +kernel
theorem dX5_versionCount_4 : decode cX5_versionCount 4 = .ok (.getfield 51, 3) := by decide +kernel
theorem dX5_versionCount_7 : decode cX5_versionCount 7 = .ok (.invokevirtual 125, 3) := by decide +kernel
theorem dX5_versionCount_10 : decode cX5_versionCount 10 = .ok (.ireturn, 1) := by decide +kernel
set_option maxRecDepth 20000 in
theorem ggX5_versionsOf_X5_checkKey : GoodIn wsX5_versionsOf wsX5_checkKey := goodIn_ca (goodIn_r _ [6, 7, 8] (by decide +kernel) (by decide +kernel)) (goodIn_sub (fun _ h => List.mem_cons_of_mem _ (List.mem_append_left _ (List.mem_append_right _ h))) (by decide +kernel))
set_option maxRecDepth 20000 in
theorem gX5_versionsOf_X5_checkKey : GoodIn wsX5_versionsOf (va_wsS RX5 44 yX5_checkKey wsX5_checkKey) := goodIn_app (goodIn_of _ (by decide +kernel)) ggX5_versionsOf_X5_checkKey
set_option maxRecDepth 20000 in
theorem ggX5_versionsOf_X4_countOf : GoodIn wsX5_versionsOf wsX4_countOf := goodIn_ca (goodIn_r _ [13, 14, 15, 16, 17, 12, 18, 19, 20, 21, 22, 23, 24, 36, 37, 38, 39, 40, 41, 42] (by decide +kernel) (by decide +kernel)) (goodIn_sub (fun _ h => List.mem_cons_of_mem _ (List.mem_append_right _ h)) (by decide +kernel))
set_option maxRecDepth 20000 in
theorem gX5_versionsOf_X4_countOf : GoodIn wsX5_versionsOf (wsV RX5 135 RX4 yX4_countOf wsX4_countOf) := goodIn_app (goodIn_of _ (by decide +kernel)) ggX5_versionsOf_X4_countOf
theorem dX5_versionsOf_0 : decode cX5_versionsOf 0 = .ok (.iload_n 1, 1) := by decide +kernel
theorem dX5_versionsOf_1 : decode cX5_versionsOf 1 = .ok (.invokestatic 44, 3) := by decide +kernel
theorem dX5_versionsOf_4 : decode cX5_versionsOf 4 = .ok (.aload_n 0, 1) := by decide +kernel
theorem dX5_versionsOf_5 : decode cX5_versionsOf 5 = .ok (.getfield 10, 3) := by decide +kernel
theorem dX5_versionsOf_8 : decode cX5_versionsOf 8 = .ok (.getfield 51, 3) := by decide +kernel
theorem dX5_versionsOf_11 : decode cX5_versionsOf 11 = .ok (.iload_n 1, 1) := by decide +kernel
theorem dX5_versionsOf_12 : decode cX5_versionsOf 12 = .ok (.invokevirtual 135, 3) := by decide +kernel
theorem dX5_versionsOf_15 : decode cX5_versionsOf 15 = .ok (.ireturn, 1) := by decide +kernel
set_option maxRecDepth 20000 in
theorem ggX5_versionAt_X5_checkKey : GoodIn wsX5_versionAt wsX5_checkKey := goodIn_ca (goodIn_r _ [6, 7, 8] (by decide +kernel) (by decide +kernel)) (goodIn_sub (fun _ h => List.mem_cons_of_mem _ (List.mem_append_left _ (List.mem_append_left _ (List.mem_append_right _ h)))) (by decide +kernel))
set_option maxRecDepth 20000 in
theorem gX5_versionAt_X5_checkKey : GoodIn wsX5_versionAt (va_wsS RX5 44 yX5_checkKey wsX5_checkKey) := goodIn_app (goodIn_of _ (by decide +kernel)) ggX5_versionAt_X5_checkKey
set_option maxRecDepth 20000 in
theorem ggX5_versionAt_X4_atPlace : GoodIn wsX5_versionAt wsX4_atPlace := goodIn_ca (goodIn_r _ [13, 14, 15, 16, 17, 18, 12, 19, 20, 21, 22, 23, 24, 25, 26, 27, 28, 29, 46, 47, 48, 49, 50, 51, 52] (by decide +kernel) (by decide +kernel)) (goodIn_sub (fun _ h => List.mem_cons_of_mem _ (List.mem_append_left _ (List.mem_append_right _ h))) (by decide +kernel))
set_option maxRecDepth 20000 in
theorem gX5_versionAt_X4_atPlace : GoodIn wsX5_versionAt (wsV RX5 136 RX4 yX4_atPlace wsX4_atPlace) := goodIn_app (goodIn_of _ (by decide +kernel)) ggX5_versionAt_X4_atPlace
set_option maxRecDepth 20000 in
theorem ggX5_versionAt_X5_found : GoodIn wsX5_versionAt wsX5_found := goodIn_ca (goodIn_r _ [32, 33, 34] (by decide +kernel) (by decide +kernel)) (goodIn_sub (fun _ h => List.mem_cons_of_mem _ (List.mem_append_right _ h)) (by decide +kernel))
set_option maxRecDepth 20000 in
theorem gX5_versionAt_X5_found : GoodIn wsX5_versionAt (va_wsS RX5 139 yX5_found wsX5_found) := goodIn_app (goodIn_of _ (by decide +kernel)) ggX5_versionAt_X5_found
theorem dX5_versionAt_0 : decode cX5_versionAt 0 = .ok (.iload_n 1, 1) := by decide +kernel
theorem dX5_versionAt_1 : decode cX5_versionAt 1 = .ok (.invokestatic 44, 3) := by decide +kernel
theorem dX5_versionAt_4 : decode cX5_versionAt 4 = .ok (.aload_n 0, 1) := by decide +kernel
theorem dX5_versionAt_5 : decode cX5_versionAt 5 = .ok (.getfield 10, 3) := by decide +kernel
theorem dX5_versionAt_8 : decode cX5_versionAt 8 = .ok (.getfield 51, 3) := by decide +kernel
theorem dX5_versionAt_11 : decode cX5_versionAt 11 = .ok (.iload_n 1, 1) := by decide +kernel
theorem dX5_versionAt_12 : decode cX5_versionAt 12 = .ok (.iload_n 2, 1) := by decide +kernel
theorem dX5_versionAt_13 : decode cX5_versionAt 13 = .ok (.invokevirtual 136, 3) := by decide +kernel
theorem dX5_versionAt_16 : decode cX5_versionAt 16 = .ok (.invokestatic 139, 3) := by decide +kernel
theorem dX5_versionAt_19 : decode cX5_versionAt 19 = .ok (.ireturn, 1) := by decide +kernel
set_option maxRecDepth 20000 in
theorem ggX5_validOn_X5_checkKey : GoodIn wsX5_validOn wsX5_checkKey := goodIn_ca (goodIn_r _ [6, 7, 8] (by decide +kernel) (by decide +kernel)) (goodIn_sub (fun _ h => List.mem_cons_of_mem _ (List.mem_append_left _ (List.mem_append_left _ (List.mem_append_left _ (List.mem_append_right _ h))))) (by decide +kernel))
set_option maxRecDepth 20000 in
theorem gX5_validOn_X5_checkKey : GoodIn wsX5_validOn (va_wsS RX5 44 yX5_checkKey wsX5_checkKey) := goodIn_app (goodIn_of _ (by decide +kernel)) ggX5_validOn_X5_checkKey
set_option maxRecDepth 20000 in
theorem ggX5_validOn_X5_checkDay : GoodIn wsX5_validOn wsX5_checkDay := goodIn_ca (goodIn_r _ [11, 12, 13] (by decide +kernel) (by decide +kernel)) (goodIn_sub (fun _ h => List.mem_cons_of_mem _ (List.mem_append_left _ (List.mem_append_left _ (List.mem_append_right _ h)))) (by decide +kernel))
set_option maxRecDepth 20000 in
theorem gX5_validOn_X5_checkDay : GoodIn wsX5_validOn (va_wsS RX5 48 yX5_checkDay wsX5_checkDay) := goodIn_app (goodIn_of _ (by decide +kernel)) ggX5_validOn_X5_checkDay
set_option maxRecDepth 20000 in
theorem ggX5_validOn_X4_onDay : GoodIn wsX5_validOn wsX4_onDay := goodIn_ca (goodIn_r _ [18, 19, 20, 21, 22, 23, 24, 17, 25, 26, 27, 28, 29, 30, 31, 48, 49, 50, 51, 52, 53, 54] (by decide +kernel) (by decide +kernel)) (goodIn_sub (fun _ h => List.mem_cons_of_mem _ (List.mem_append_left _ (List.mem_append_right _ h))) (by decide +kernel))
set_option maxRecDepth 20000 in
theorem gX5_validOn_X4_onDay : GoodIn wsX5_validOn (wsV RX5 82 RX4 yX4_onDay wsX4_onDay) := goodIn_app (goodIn_of _ (by decide +kernel)) ggX5_validOn_X4_onDay
set_option maxRecDepth 20000 in
theorem ggX5_validOn_X5_found : GoodIn wsX5_validOn wsX5_found := goodIn_ca (goodIn_r _ [34, 35, 36] (by decide +kernel) (by decide +kernel)) (goodIn_sub (fun _ h => List.mem_cons_of_mem _ (List.mem_append_right _ h)) (by decide +kernel))
set_option maxRecDepth 20000 in
theorem gX5_validOn_X5_found : GoodIn wsX5_validOn (va_wsS RX5 139 yX5_found wsX5_found) := goodIn_app (goodIn_of _ (by decide +kernel)) ggX5_validOn_X5_found
theorem dX5_validOn_0 : decode cX5_validOn 0 = .ok (.iload_n 1, 1) := by decide +kernel
theorem dX5_validOn_1 : decode cX5_validOn 1 = .ok (.invokestatic 44, 3) := by decide +kernel
theorem dX5_validOn_4 : decode cX5_validOn 4 = .ok (.iload_n 2, 1) := by decide +kernel
theorem dX5_validOn_5 : decode cX5_validOn 5 = .ok (.invokestatic 48, 3) := by decide +kernel
theorem dX5_validOn_8 : decode cX5_validOn 8 = .ok (.aload_n 0, 1) := by decide +kernel
theorem dX5_validOn_9 : decode cX5_validOn 9 = .ok (.getfield 10, 3) := by decide +kernel
theorem dX5_validOn_12 : decode cX5_validOn 12 = .ok (.getfield 51, 3) := by decide +kernel
theorem dX5_validOn_15 : decode cX5_validOn 15 = .ok (.iload_n 1, 1) := by decide +kernel
theorem dX5_validOn_16 : decode cX5_validOn 16 = .ok (.iload_n 2, 1) := by decide +kernel
theorem dX5_validOn_17 : decode cX5_validOn 17 = .ok (.invokevirtual 82, 3) := by decide +kernel
theorem dX5_validOn_20 : decode cX5_validOn 20 = .ok (.invokestatic 139, 3) := by decide +kernel
theorem dX5_validOn_23 : decode cX5_validOn 23 = .ok (.ireturn, 1) := by decide +kernel
set_option maxRecDepth 20000 in
theorem ggX5_version_X5_checkVersion : GoodIn wsX5_version wsX5_checkVersion := goodIn_ca (goodIn_ca (goodIn_r _ [14, 15, 16, 3, 4, 17, 18, 19, 20, 21, 22, 23, 38, 39, 40, 41, 42, 43, 44, 45, 46, 47, 48, 49, 50, 51, 52, 53, 54, 55] (by decide +kernel) (by decide +kernel)) (goodIn_sub (fun _ h => List.mem_cons_of_mem _ (List.mem_append_right _ h)) (by decide +kernel))) (goodIn_sub (fun _ h => List.mem_cons_of_mem _ (List.mem_append_left _ (List.mem_append_left _ (List.mem_append_right _ h)))) (by decide +kernel))
set_option maxRecDepth 20000 in
theorem gX5_version_X5_checkVersion : GoodIn wsX5_version (wsV RX5 99 RX5 yX5_checkVersion wsX5_checkVersion) := goodIn_app (goodIn_of _ (by decide +kernel)) ggX5_version_X5_checkVersion
set_option maxRecDepth 20000 in
theorem ggX5_version_X0_countOf : GoodIn wsX5_version wsX0_countOf := goodIn_ca (goodIn_r _ [28, 29, 30, 56, 57, 58, 59, 60] (by decide +kernel) (by decide +kernel)) (goodIn_sub (fun _ h => List.mem_cons_of_mem _ (List.mem_append_left _ (List.mem_append_left _ (List.mem_append_right _ h)))) (by decide +kernel))
set_option maxRecDepth 20000 in
theorem gX5_version_X0_countOf : GoodIn wsX5_version (wsV RX5 109 RX0 yX0_countOf wsX0_countOf) := goodIn_app (goodIn_of _ (by decide +kernel)) ggX5_version_X0_countOf
set_option maxRecDepth 20000 in
theorem ggX5_version_X4_days : GoodIn wsX5_version wsX4_days := goodIn_ca (goodIn_r _ [34, 35, 36, 37, 18, 19, 20, 21, 22, 23, 49, 50, 51, 52, 53, 54, 55] (by decide +kernel) (by decide +kernel)) (goodIn_sub (fun _ h => List.mem_cons_of_mem _ (List.mem_append_left _ (List.mem_append_left _ (List.mem_append_right _ h)))) (by decide +kernel))
set_option maxRecDepth 20000 in
theorem gX5_version_X4_days : GoodIn wsX5_version (wsV RX5 148 RX4 yX4_days wsX4_days) := goodIn_app (goodIn_of _ (by decide +kernel)) ggX5_version_X4_days
theorem dX5_version_0 : decode cX5_version 0 = .ok (.aload_n 0, 1) := by decide +kernel
theorem dX5_version_1 : decode cX5_version 1 = .ok (.iload_n 1, 1) := by decide +kernel
theorem dX5_version_2 : decode cX5_version 2 = .ok (.invokevirtual 99, 3) := by decide +kernel
theorem dX5_version_5 : decode cX5_version 5 = .ok (.iload_n 2, 1) := by decide +kernel
theorem dX5_version_6 : decode cX5_version 6 = .ok (.tableswitch 114 0 5 #[38, 51, 64, 77, 90, 102], 38) := by decide +kernel
theorem dX5_version_44 : decode cX5_version 44 = .ok (.aload_n 0, 1) := by decide +kernel
theorem dX5_version_45 : decode cX5_version 45 = .ok (.getfield 10, 3) := by decide +kernel
theorem dX5_version_48 : decode cX5_version 48 = .ok (.getfield 51, 3) := by decide +kernel
theorem dX5_version_51 : decode cX5_version 51 = .ok (.getfield 145, 3) := by decide +kernel
theorem dX5_version_54 : decode cX5_version 54 = .ok (.iload_n 1, 1) := by decide +kernel
theorem dX5_version_55 : decode cX5_version 55 = .ok (.iaload, 1) := by decide +kernel
theorem dX5_version_56 : decode cX5_version 56 = .ok (.ireturn, 1) := by decide +kernel
theorem dX5_version_57 : decode cX5_version 57 = .ok (.aload_n 0, 1) := by decide +kernel
theorem dX5_version_58 : decode cX5_version 58 = .ok (.getfield 10, 3) := by decide +kernel
theorem dX5_version_61 : decode cX5_version 61 = .ok (.getfield 51, 3) := by decide +kernel
theorem dX5_version_64 : decode cX5_version 64 = .ok (.getfield 88, 3) := by decide +kernel
theorem dX5_version_67 : decode cX5_version 67 = .ok (.iload_n 1, 1) := by decide +kernel
theorem dX5_version_68 : decode cX5_version 68 = .ok (.iaload, 1) := by decide +kernel
theorem dX5_version_69 : decode cX5_version 69 = .ok (.ireturn, 1) := by decide +kernel
theorem dX5_version_70 : decode cX5_version 70 = .ok (.aload_n 0, 1) := by decide +kernel
theorem dX5_version_71 : decode cX5_version 71 = .ok (.getfield 10, 3) := by decide +kernel
theorem dX5_version_74 : decode cX5_version 74 = .ok (.getfield 51, 3) := by decide +kernel
theorem dX5_version_77 : decode cX5_version 77 = .ok (.getfield 96, 3) := by decide +kernel
theorem dX5_version_80 : decode cX5_version 80 = .ok (.iload_n 1, 1) := by decide +kernel
theorem dX5_version_81 : decode cX5_version 81 = .ok (.iaload, 1) := by decide +kernel
theorem dX5_version_82 : decode cX5_version 82 = .ok (.ireturn, 1) := by decide +kernel
theorem dX5_version_83 : decode cX5_version 83 = .ok (.aload_n 0, 1) := by decide +kernel
theorem dX5_version_84 : decode cX5_version 84 = .ok (.getfield 10, 3) := by decide +kernel
theorem dX5_version_87 : decode cX5_version 87 = .ok (.getfield 51, 3) := by decide +kernel
theorem dX5_version_90 : decode cX5_version 90 = .ok (.getfield 102, 3) := by decide +kernel
theorem dX5_version_93 : decode cX5_version 93 = .ok (.iload_n 1, 1) := by decide +kernel
theorem dX5_version_94 : decode cX5_version 94 = .ok (.iaload, 1) := by decide +kernel
theorem dX5_version_95 : decode cX5_version 95 = .ok (.ireturn, 1) := by decide +kernel
theorem dX5_version_96 : decode cX5_version 96 = .ok (.aload_n 0, 1) := by decide +kernel
theorem dX5_version_97 : decode cX5_version 97 = .ok (.getfield 10, 3) := by decide +kernel
theorem dX5_version_100 : decode cX5_version 100 = .ok (.getfield 64, 3) := by decide +kernel
theorem dX5_version_103 : decode cX5_version 103 = .ok (.iload_n 1, 1) := by decide +kernel
theorem dX5_version_104 : decode cX5_version 104 = .ok (.invokevirtual 109, 3) := by decide +kernel
theorem dX5_version_107 : decode cX5_version 107 = .ok (.ireturn, 1) := by decide +kernel
theorem dX5_version_108 : decode cX5_version 108 = .ok (.aload_n 0, 1) := by decide +kernel
theorem dX5_version_109 : decode cX5_version 109 = .ok (.getfield 10, 3) := by decide +kernel
theorem dX5_version_112 : decode cX5_version 112 = .ok (.getfield 51, 3) := by decide +kernel
theorem dX5_version_115 : decode cX5_version 115 = .ok (.iload_n 1, 1) := by decide +kernel
theorem dX5_version_116 : decode cX5_version 116 = .ok (.invokevirtual 148, 3) := by decide +kernel
theorem dX5_version_119 : decode cX5_version 119 = .ok (.ireturn, 1) := by decide +kernel
theorem dX5_version_120 : decode cX5_version 120 = .ok (.new 151, 3) := by decide +kernel
theorem dX5_version_123 : decode cX5_version 123 = .ok (.dup, 1) := by decide +kernel
theorem dX5_version_124 : decode cX5_version 124 = .ok (.invokespecial 153, 3) := by decide +kernel
theorem dX5_version_127 : decode cX5_version 127 = .ok (.athrow, 1) := by decide +kernel
set_option maxRecDepth 20000 in
theorem ggX5_isInferred_X5_checkVersion : GoodIn wsX5_isInferred wsX5_checkVersion := goodIn_ca (goodIn_ca (goodIn_r _ [8, 9, 10, 1, 2, 11, 12, 13, 14, 15, 16, 17, 18, 19, 20, 21, 22, 23, 24, 25, 26, 27, 28, 29, 30, 31, 32, 33, 34, 35] (by decide +kernel) (by decide +kernel)) (goodIn_sub (fun _ h => List.mem_cons_of_mem _ (List.mem_append_right _ h)) (by decide +kernel))) (goodIn_sub (fun _ h => List.mem_cons_of_mem _ (List.mem_append_left _ (List.mem_append_right _ h))) (by decide +kernel))
set_option maxRecDepth 20000 in
theorem gX5_isInferred_X5_checkVersion : GoodIn wsX5_isInferred (wsV RX5 99 RX5 yX5_checkVersion wsX5_checkVersion) := goodIn_app (goodIn_of _ (by decide +kernel)) ggX5_isInferred_X5_checkVersion
theorem dX5_isInferred_0 : decode cX5_isInferred 0 = .ok (.aload_n 0, 1) := by decide +kernel
theorem dX5_isInferred_1 : decode cX5_isInferred 1 = .ok (.iload_n 1, 1) := by decide +kernel
theorem dX5_isInferred_2 : decode cX5_isInferred 2 = .ok (.invokevirtual 99, 3) := by decide +kernel
theorem dX5_isInferred_5 : decode cX5_isInferred 5 = .ok (.aload_n 0, 1) := by decide +kernel
theorem dX5_isInferred_6 : decode cX5_isInferred 6 = .ok (.getfield 10, 3) := by decide +kernel
theorem dX5_isInferred_9 : decode cX5_isInferred 9 = .ok (.getfield 51, 3) := by decide +kernel
theorem dX5_isInferred_12 : decode cX5_isInferred 12 = .ok (.getfield 154, 3) := by decide +kernel
theorem dX5_isInferred_15 : decode cX5_isInferred 15 = .ok (.iload_n 1, 1) := by decide +kernel
theorem dX5_isInferred_16 : decode cX5_isInferred 16 = .ok (.baload, 1) := by decide +kernel
theorem dX5_isInferred_17 : decode cX5_isInferred 17 = .ok (.ireturn, 1) := by decide +kernel
set_option maxRecDepth 20000 in
theorem ggX5_removedCount_X4_count : GoodIn wsX5_removedCount wsX4_count := goodIn_ca (goodIn_r _ [8, 9, 10, 11, 12, 7, 13, 14, 26, 27, 28, 29, 30, 31, 32] (by decide +kernel) (by decide +kernel)) (goodIn_sub (fun _ h => List.mem_cons_of_mem _ (List.mem_append_right _ h)) (by decide +kernel))
set_option maxRecDepth 20000 in
theorem gX5_removedCount_X4_count : GoodIn wsX5_removedCount (wsV RX5 125 RX4 yX4_count wsX4_count) := goodIn_app (goodIn_of _ (by decide +kernel)) ggX5_removedCount_X4_count
theorem dX5_removedCount_0 : decode cX5_removedCount 0 = .ok (.aload_n 0, 1) := by decide +kernel
theorem dX5_removedCount_1 : decode cX5_removedCount 1 = .ok (.getfield 10, 3) := by decide +kernel
theorem dX5_removedCount_4 : decode cX5_removedCount 4 = .ok (.getfield 51, 3) := by decide +kernel
theorem dX5_removedCount_7 : decode cX5_removedCount 7 = .ok (.getfield 164, 3) := by decide +kernel
theorem dX5_removedCount_10 : decode cX5_removedCount 10 = .ok (.aload_n 0, 1) := by decide +kernel
theorem dX5_removedCount_11 : decode cX5_removedCount 11 = .ok (.getfield 10, 3) := by decide +kernel
theorem dX5_removedCount_14 : decode cX5_removedCount 14 = .ok (.getfield 51, 3) := by decide +kernel
theorem dX5_removedCount_17 : decode cX5_removedCount 17 = .ok (.invokevirtual 125, 3) := by decide +kernel
theorem dX5_removedCount_20 : decode cX5_removedCount 20 = .ok (.isub, 1) := by decide +kernel
theorem dX5_removedCount_21 : decode cX5_removedCount 21 = .ok (.ireturn, 1) := by decide +kernel
theorem dX5_factCount_0 : decode cX5_factCount 0 = .ok (.aload_n 0, 1) := by decide +kernel
theorem dX5_factCount_1 : decode cX5_factCount 1 = .ok (.getfield 10, 3) := by decide +kernel
theorem dX5_factCount_4 : decode cX5_factCount 4 = .ok (.getfield 64, 3) := by decide +kernel
theorem dX5_factCount_7 : decode cX5_factCount 7 = .ok (.getfield 167, 3) := by decide +kernel
theorem dX5_factCount_10 : decode cX5_factCount 10 = .ok (.ireturn, 1) := by decide +kernel
set_option maxRecDepth 20000 in
theorem ggX5_fact_X4_valueOf : GoodIn wsX5_fact wsX4_valueOf := goodIn_ca (goodIn_r _ [17, 18, 19, 20, 21, 16, 22, 23, 24, 41, 42, 43, 44, 45, 46, 47] (by decide +kernel) (by decide +kernel)) (goodIn_sub (fun _ h => List.mem_cons_of_mem _ (List.mem_append_left _ (List.mem_append_right _ h))) (by decide +kernel))
set_option maxRecDepth 20000 in
theorem gX5_fact_X4_valueOf : GoodIn wsX5_fact (wsV RX5 180 RX4 yX4_valueOf wsX4_valueOf) := goodIn_app (goodIn_of _ (by decide +kernel)) ggX5_fact_X4_valueOf
theorem dX5_fact_0 : decode cX5_fact 0 = .ok (.iload_n 1, 1) := by decide +kernel
theorem dX5_fact_1 : decode cX5_fact 1 = .ok (.ifCond .lt 17, 3) := by decide +kernel
theorem dX5_fact_4 : decode cX5_fact 4 = .ok (.iload_n 1, 1) := by decide +kernel
theorem dX5_fact_5 : decode cX5_fact 5 = .ok (.aload_n 0, 1) := by decide +kernel
theorem dX5_fact_6 : decode cX5_fact 6 = .ok (.getfield 10, 3) := by decide +kernel
theorem dX5_fact_9 : decode cX5_fact 9 = .ok (.getfield 64, 3) := by decide +kernel
theorem dX5_fact_12 : decode cX5_fact 12 = .ok (.getfield 167, 3) := by decide +kernel
theorem dX5_fact_15 : decode cX5_fact 15 = .ok (.if_icmp .lt 11, 3) := by decide +kernel
theorem dX5_fact_18 : decode cX5_fact 18 = .ok (.new 169, 3) := by decide +kernel
theorem dX5_fact_21 : decode cX5_fact 21 = .ok (.dup, 1) := by decide +kernel
theorem dX5_fact_22 : decode cX5_fact 22 = .ok (.invokespecial 171, 3) := by decide +kernel
theorem dX5_fact_25 : decode cX5_fact 25 = .ok (.athrow, 1) := by decide +kernel
theorem dX5_fact_26 : decode cX5_fact 26 = .ok (.iload_n 2, 1) := by decide +kernel
theorem dX5_fact_27 : decode cX5_fact 27 = .ok (.tableswitch 108 0 4 #[33, 46, 59, 72, 85], 33) := by decide +kernel
theorem dX5_fact_60 : decode cX5_fact 60 = .ok (.aload_n 0, 1) := by decide +kernel
theorem dX5_fact_61 : decode cX5_fact 61 = .ok (.getfield 10, 3) := by decide +kernel
theorem dX5_fact_64 : decode cX5_fact 64 = .ok (.getfield 64, 3) := by decide +kernel
theorem dX5_fact_67 : decode cX5_fact 67 = .ok (.getfield 172, 3) := by decide +kernel
theorem dX5_fact_70 : decode cX5_fact 70 = .ok (.iload_n 1, 1) := by decide +kernel
theorem dX5_fact_71 : decode cX5_fact 71 = .ok (.iaload, 1) := by decide +kernel
theorem dX5_fact_72 : decode cX5_fact 72 = .ok (.ireturn, 1) := by decide +kernel
theorem dX5_fact_73 : decode cX5_fact 73 = .ok (.aload_n 0, 1) := by decide +kernel
theorem dX5_fact_74 : decode cX5_fact 74 = .ok (.getfield 10, 3) := by decide +kernel
theorem dX5_fact_77 : decode cX5_fact 77 = .ok (.getfield 64, 3) := by decide +kernel
theorem dX5_fact_80 : decode cX5_fact 80 = .ok (.getfield 173, 3) := by decide +kernel
theorem dX5_fact_83 : decode cX5_fact 83 = .ok (.iload_n 1, 1) := by decide +kernel
theorem dX5_fact_84 : decode cX5_fact 84 = .ok (.iaload, 1) := by decide +kernel
theorem dX5_fact_85 : decode cX5_fact 85 = .ok (.ireturn, 1) := by decide +kernel
theorem dX5_fact_86 : decode cX5_fact 86 = .ok (.aload_n 0, 1) := by decide +kernel
theorem dX5_fact_87 : decode cX5_fact 87 = .ok (.getfield 10, 3) := by decide +kernel
theorem dX5_fact_90 : decode cX5_fact 90 = .ok (.getfield 64, 3) := by decide +kernel
theorem dX5_fact_93 : decode cX5_fact 93 = .ok (.getfield 175, 3) := by decide +kernel
theorem dX5_fact_96 : decode cX5_fact 96 = .ok (.iload_n 1, 1) := by decide +kernel
theorem dX5_fact_97 : decode cX5_fact 97 = .ok (.iaload, 1) := by decide +kernel
theorem dX5_fact_98 : decode cX5_fact 98 = .ok (.ireturn, 1) := by decide +kernel
theorem dX5_fact_99 : decode cX5_fact 99 = .ok (.aload_n 0, 1) := by decide +kernel
theorem dX5_fact_100 : decode cX5_fact 100 = .ok (.getfield 10, 3) := by decide +kernel
theorem dX5_fact_103 : decode cX5_fact 103 = .ok (.getfield 64, 3) := by decide +kernel
theorem dX5_fact_106 : decode cX5_fact 106 = .ok (.getfield 178, 3) := by decide +kernel
theorem dX5_fact_109 : decode cX5_fact 109 = .ok (.iload_n 1, 1) := by decide +kernel
theorem dX5_fact_110 : decode cX5_fact 110 = .ok (.iaload, 1) := by decide +kernel
theorem dX5_fact_111 : decode cX5_fact 111 = .ok (.ireturn, 1) := by decide +kernel
theorem dX5_fact_112 : decode cX5_fact 112 = .ok (.aload_n 0, 1) := by decide +kernel
theorem dX5_fact_113 : decode cX5_fact 113 = .ok (.getfield 10, 3) := by decide +kernel
theorem dX5_fact_116 : decode cX5_fact 116 = .ok (.getfield 51, 3) := by decide +kernel
theorem dX5_fact_119 : decode cX5_fact 119 = .ok (.aload_n 0, 1) := by decide +kernel
theorem dX5_fact_120 : decode cX5_fact 120 = .ok (.getfield 10, 3) := by decide +kernel
theorem dX5_fact_123 : decode cX5_fact 123 = .ok (.getfield 64, 3) := by decide +kernel
theorem dX5_fact_126 : decode cX5_fact 126 = .ok (.getfield 178, 3) := by decide +kernel
theorem dX5_fact_129 : decode cX5_fact 129 = .ok (.iload_n 1, 1) := by decide +kernel
theorem dX5_fact_130 : decode cX5_fact 130 = .ok (.iaload, 1) := by decide +kernel
theorem dX5_fact_131 : decode cX5_fact 131 = .ok (.invokevirtual 180, 3) := by decide +kernel
theorem dX5_fact_134 : decode cX5_fact 134 = .ok (.ireturn, 1) := by decide +kernel
theorem dX5_fact_135 : decode cX5_fact 135 = .ok (.new 151, 3) := by decide +kernel
theorem dX5_fact_138 : decode cX5_fact 138 = .ok (.dup, 1) := by decide +kernel
theorem dX5_fact_139 : decode cX5_fact 139 = .ok (.invokespecial 153, 3) := by decide +kernel
theorem dX5_fact_142 : decode cX5_fact 142 = .ok (.athrow, 1) := by decide +kernel
set_option maxRecDepth 20000 in
theorem ggX5_amountOf_X5_checkVersion : GoodIn wsX5_amountOf wsX5_checkVersion := goodIn_ca (goodIn_ca (goodIn_r _ [7, 8, 9, 1, 10, 11, 12, 13, 14, 15, 16, 17, 26, 27, 28, 29, 30, 31, 32, 33, 34, 35, 36, 37, 38, 39, 40, 41, 42, 43] (by decide +kernel) (by decide +kernel)) (goodIn_sub (fun _ h => List.mem_cons_of_mem _ (List.mem_append_left _ (List.mem_append_right _ h))) (by decide +kernel))) (goodIn_sub (fun _ h => List.mem_cons_of_mem _ (List.mem_append_right _ h)) (by decide +kernel))
set_option maxRecDepth 20000 in
theorem gX5_amountOf_X5_checkVersion : GoodIn wsX5_amountOf (wsV RX5 99 RX5 yX5_checkVersion wsX5_checkVersion) := goodIn_app (goodIn_of _ (by decide +kernel)) ggX5_amountOf_X5_checkVersion
set_option maxRecDepth 20000 in
theorem ggX5_amountOf_X0_sumOf : GoodIn wsX5_amountOf wsX0_sumOf := goodIn_ca (goodIn_r _ [22, 23, 24, 25, 44, 45, 46, 47, 48] (by decide +kernel) (by decide +kernel)) (goodIn_sub (fun _ h => List.mem_cons_of_mem _ (List.mem_append_right _ h)) (by decide +kernel))
set_option maxRecDepth 20000 in
theorem gX5_amountOf_X0_sumOf : GoodIn wsX5_amountOf (wsV RX5 183 RX0 yX0_sumOf wsX0_sumOf) := goodIn_app (goodIn_of _ (by decide +kernel)) ggX5_amountOf_X0_sumOf
theorem dX5_amountOf_0 : decode cX5_amountOf 0 = .ok (.aload_n 0, 1) := by decide +kernel
theorem dX5_amountOf_1 : decode cX5_amountOf 1 = .ok (.iload_n 1, 1) := by decide +kernel
theorem dX5_amountOf_2 : decode cX5_amountOf 2 = .ok (.invokevirtual 99, 3) := by decide +kernel
theorem dX5_amountOf_5 : decode cX5_amountOf 5 = .ok (.aload_n 0, 1) := by decide +kernel
theorem dX5_amountOf_6 : decode cX5_amountOf 6 = .ok (.getfield 10, 3) := by decide +kernel
theorem dX5_amountOf_9 : decode cX5_amountOf 9 = .ok (.getfield 64, 3) := by decide +kernel
theorem dX5_amountOf_12 : decode cX5_amountOf 12 = .ok (.iload_n 1, 1) := by decide +kernel
theorem dX5_amountOf_13 : decode cX5_amountOf 13 = .ok (.invokevirtual 183, 3) := by decide +kernel
theorem dX5_amountOf_16 : decode cX5_amountOf 16 = .ok (.lreturn, 1) := by decide +kernel
theorem dX5_pointedAnew_0 : decode cX5_pointedAnew 0 = .ok (.aload_n 0, 1) := by decide +kernel
theorem dX5_pointedAnew_1 : decode cX5_pointedAnew 1 = .ok (.getfield 132, 3) := by decide +kernel
theorem dX5_pointedAnew_4 : decode cX5_pointedAnew 4 = .ok (.ireturn, 1) := by decide +kernel
set_option maxRecDepth 20000 in
theorem ggX5_gaps_X5_checkKey : GoodIn wsX5_gaps wsX5_checkKey := goodIn_ca (goodIn_r _ [6, 7, 8] (by decide +kernel) (by decide +kernel)) (goodIn_sub (fun _ h => List.mem_cons_of_mem _ (List.mem_append_left _ (List.mem_append_right _ h))) (by decide +kernel))
set_option maxRecDepth 20000 in
theorem gX5_gaps_X5_checkKey : GoodIn wsX5_gaps (va_wsS RX5 44 yX5_checkKey wsX5_checkKey) := goodIn_app (goodIn_of _ (by decide +kernel)) ggX5_gaps_X5_checkKey
set_option maxRecDepth 20000 in
theorem ggX5_gaps_X4_countGaps : GoodIn wsX5_gaps wsX4_countGaps := goodIn_ca (goodIn_r _ [13, 14, 15, 16, 17, 12, 18, 19, 20, 21, 22, 23, 24, 25, 26, 27, 28, 29, 30, 31, 32, 33, 34, 35, 36, 37, 38, 50, 51, 52, 53, 54, 55, 56] (by decide +kernel) (by decide +kernel)) (goodIn_sub (fun _ h => List.mem_cons_of_mem _ (List.mem_append_right _ h)) (by decide +kernel))
set_option maxRecDepth 20000 in
theorem gX5_gaps_X4_countGaps : GoodIn wsX5_gaps (wsV RX5 190 RX4 yX4_countGaps wsX4_countGaps) := goodIn_app (goodIn_of _ (by decide +kernel)) ggX5_gaps_X4_countGaps
theorem dX5_gaps_0 : decode cX5_gaps 0 = .ok (.iload_n 1, 1) := by decide +kernel
theorem dX5_gaps_1 : decode cX5_gaps 1 = .ok (.invokestatic 44, 3) := by decide +kernel
theorem dX5_gaps_4 : decode cX5_gaps 4 = .ok (.aload_n 0, 1) := by decide +kernel
theorem dX5_gaps_5 : decode cX5_gaps 5 = .ok (.getfield 10, 3) := by decide +kernel
theorem dX5_gaps_8 : decode cX5_gaps 8 = .ok (.getfield 51, 3) := by decide +kernel
theorem dX5_gaps_11 : decode cX5_gaps 11 = .ok (.iload_n 1, 1) := by decide +kernel
theorem dX5_gaps_12 : decode cX5_gaps 12 = .ok (.invokevirtual 190, 3) := by decide +kernel
theorem dX5_gaps_15 : decode cX5_gaps 15 = .ok (.ireturn, 1) := by decide +kernel
set_option maxRecDepth 20000 in
theorem ggX5_gapDay_X5_checkKey : GoodIn wsX5_gapDay wsX5_checkKey := goodIn_ca (goodIn_r _ [8, 9, 10] (by decide +kernel) (by decide +kernel)) (goodIn_sub (fun _ h => List.mem_cons_of_mem _ (List.mem_append_left _ (List.mem_append_right _ h))) (by decide +kernel))
set_option maxRecDepth 20000 in
theorem gX5_gapDay_X5_checkKey : GoodIn wsX5_gapDay (va_wsS RX5 44 yX5_checkKey wsX5_checkKey) := goodIn_app (goodIn_of _ (by decide +kernel)) ggX5_gapDay_X5_checkKey
set_option maxRecDepth 20000 in
theorem ggX5_gapDay_X4_aheadOfGap : GoodIn wsX5_gapDay wsX4_aheadOfGap := goodIn_ca (goodIn_r _ [15, 16, 17, 18, 19, 20, 14, 21, 22, 23, 24, 25, 26, 27, 28, 29, 30, 31, 32, 33, 34, 35, 36, 37, 38, 39, 40, 58, 59, 60, 61, 62, 63, 64] (by decide +kernel) (by decide +kernel)) (goodIn_sub (fun _ h => List.mem_cons_of_mem _ (List.mem_append_left _ (List.mem_append_left _ (List.mem_append_right _ h)))) (by decide +kernel))
set_option maxRecDepth 20000 in
theorem gX5_gapDay_X4_aheadOfGap : GoodIn wsX5_gapDay (wsV RX5 193 RX4 yX4_aheadOfGap wsX4_aheadOfGap) := goodIn_app (goodIn_of _ (by decide +kernel)) ggX5_gapDay_X4_aheadOfGap
set_option maxRecDepth 20000 in
theorem ggX5_gapDay_X5_found : GoodIn wsX5_gapDay wsX5_found := goodIn_ca (goodIn_r _ [43, 44, 45] (by decide +kernel) (by decide +kernel)) (goodIn_sub (fun _ h => List.mem_cons_of_mem _ (List.mem_append_right _ h)) (by decide +kernel))
set_option maxRecDepth 20000 in
theorem gX5_gapDay_X5_found : GoodIn wsX5_gapDay (va_wsS RX5 139 yX5_found wsX5_found) := goodIn_app (goodIn_of _ (by decide +kernel)) ggX5_gapDay_X5_found
set_option maxRecDepth 20000 in
theorem ggX5_gapDay_X4_nextFirst : GoodIn wsX5_gapDay wsX4_nextFirst := goodIn_ca (goodIn_r _ [40, 17, 18, 19, 20, 14, 21, 16, 22, 23, 24, 25, 26, 27, 28, 29, 30, 31, 58, 59, 60, 61, 62, 63, 64] (by decide +kernel) (by decide +kernel)) (goodIn_sub (fun _ h => List.mem_cons_of_mem _ (List.mem_append_left _ (List.mem_append_left _ (List.mem_append_right _ h)))) (by decide +kernel))
set_option maxRecDepth 20000 in
theorem gX5_gapDay_X4_nextFirst : GoodIn wsX5_gapDay (wsV RX5 196 RX4 yX4_nextFirst wsX4_nextFirst) := goodIn_app (goodIn_of _ (by decide +kernel)) ggX5_gapDay_X4_nextFirst
theorem dX5_gapDay_0 : decode cX5_gapDay 0 = .ok (.iload_n 1, 1) := by decide +kernel
theorem dX5_gapDay_1 : decode cX5_gapDay 1 = .ok (.invokestatic 44, 3) := by decide +kernel
theorem dX5_gapDay_4 : decode cX5_gapDay 4 = .ok (.aload_n 0, 1) := by decide +kernel
theorem dX5_gapDay_5 : decode cX5_gapDay 5 = .ok (.getfield 10, 3) := by decide +kernel
theorem dX5_gapDay_8 : decode cX5_gapDay 8 = .ok (.getfield 51, 3) := by decide +kernel
theorem dX5_gapDay_11 : decode cX5_gapDay 11 = .ok (.astore 4, 2) := by decide +kernel
theorem dX5_gapDay_13 : decode cX5_gapDay 13 = .ok (.aload 4, 2) := by decide +kernel
theorem dX5_gapDay_15 : decode cX5_gapDay 15 = .ok (.iload_n 1, 1) := by decide +kernel
theorem dX5_gapDay_16 : decode cX5_gapDay 16 = .ok (.iload_n 2, 1) := by decide +kernel
theorem dX5_gapDay_17 : decode cX5_gapDay 17 = .ok (.invokevirtual 193, 3) := by decide +kernel
theorem dX5_gapDay_20 : decode cX5_gapDay 20 = .ok (.invokestatic 139, 3) := by decide +kernel
theorem dX5_gapDay_23 : decode cX5_gapDay 23 = .ok (.istore 5, 2) := by decide +kernel
theorem dX5_gapDay_25 : decode cX5_gapDay 25 = .ok (.iload_n 3, 1) := by decide +kernel
theorem dX5_gapDay_26 : decode cX5_gapDay 26 = .ok (.ifCond .eq 22, 3) := by decide +kernel
theorem dX5_gapDay_29 : decode cX5_gapDay 29 = .ok (.aload 4, 2) := by decide +kernel
theorem dX5_gapDay_31 : decode cX5_gapDay 31 = .ok (.iload_n 1, 1) := by decide +kernel
theorem dX5_gapDay_32 : decode cX5_gapDay 32 = .ok (.aload 4, 2) := by decide +kernel
theorem dX5_gapDay_34 : decode cX5_gapDay 34 = .ok (.getfield 88, 3) := by decide +kernel
theorem dX5_gapDay_37 : decode cX5_gapDay 37 = .ok (.iload 5, 2) := by decide +kernel
theorem dX5_gapDay_39 : decode cX5_gapDay 39 = .ok (.iaload, 1) := by decide +kernel
theorem dX5_gapDay_40 : decode cX5_gapDay 40 = .ok (.invokevirtual 196, 3) := by decide +kernel
theorem dX5_gapDay_43 : decode cX5_gapDay 43 = .ok (.iconst 1, 1) := by decide +kernel
theorem dX5_gapDay_44 : decode cX5_gapDay 44 = .ok (.isub, 1) := by decide +kernel
theorem dX5_gapDay_45 : decode cX5_gapDay 45 = .ok (.goto 11, 3) := by decide +kernel
theorem dX5_gapDay_48 : decode cX5_gapDay 48 = .ok (.aload 4, 2) := by decide +kernel
theorem dX5_gapDay_50 : decode cX5_gapDay 50 = .ok (.getfield 96, 3) := by decide +kernel
theorem dX5_gapDay_53 : decode cX5_gapDay 53 = .ok (.iload 5, 2) := by decide +kernel
theorem dX5_gapDay_55 : decode cX5_gapDay 55 = .ok (.iaload, 1) := by decide +kernel
theorem dX5_gapDay_56 : decode cX5_gapDay 56 = .ok (.ireturn, 1) := by decide +kernel
set_option maxRecDepth 20000 in
theorem ggX5_coverage_X5_checkKey : GoodIn wsX5_coverage wsX5_checkKey := goodIn_ca (goodIn_r _ [8, 9, 10] (by decide +kernel) (by decide +kernel)) (goodIn_sub (fun _ h => List.mem_cons_of_mem _ (List.mem_append_left _ (List.mem_append_right _ h))) (by decide +kernel))
set_option maxRecDepth 20000 in
theorem gX5_coverage_X5_checkKey : GoodIn wsX5_coverage (va_wsS RX5 44 yX5_checkKey wsX5_checkKey) := goodIn_app (goodIn_of _ (by decide +kernel)) ggX5_coverage_X5_checkKey
set_option maxRecDepth 20000 in
theorem ggX5_coverage_X4_countOf : GoodIn wsX5_coverage wsX4_countOf := goodIn_ca (goodIn_r _ [15, 16, 17, 18, 19, 14, 20, 21, 22, 23, 24, 25, 26, 56, 57, 58, 59, 60, 61, 62] (by decide +kernel) (by decide +kernel)) (goodIn_sub (fun _ h => List.mem_cons_of_mem _ (List.mem_append_right _ h)) (by decide +kernel))
set_option maxRecDepth 20000 in
theorem gX5_coverage_X4_countOf : GoodIn wsX5_coverage (wsV RX5 135 RX4 yX4_countOf wsX4_countOf) := goodIn_app (goodIn_of _ (by decide +kernel)) ggX5_coverage_X4_countOf
set_option maxRecDepth 20000 in
theorem ggX5_coverage_X4_sumDays : GoodIn wsX5_coverage wsX4_sumDays := goodIn_ca (goodIn_r _ [30, 16, 17, 18, 19, 14, 20, 21, 22, 23, 24, 25, 26, 31, 32, 33, 34, 35, 36, 56, 57, 58, 59, 60, 61, 62] (by decide +kernel) (by decide +kernel)) (goodIn_sub (fun _ h => List.mem_cons_of_mem _ (List.mem_append_right _ h)) (by decide +kernel))
set_option maxRecDepth 20000 in
theorem gX5_coverage_X4_sumDays : GoodIn wsX5_coverage (wsV RX5 205 RX4 yX4_sumDays wsX4_sumDays) := goodIn_app (goodIn_of _ (by decide +kernel)) ggX5_coverage_X4_sumDays
set_option maxRecDepth 20000 in
theorem ggX5_coverage_X4_nextFirst : GoodIn wsX5_coverage wsX4_nextFirst := goodIn_ca (goodIn_r _ [40, 36, 41, 42, 43, 14, 44, 16, 17, 18, 19, 20, 21, 22, 23, 24, 25, 26, 56, 57, 58, 59, 60, 61, 62] (by decide +kernel) (by decide +kernel)) (goodIn_sub (fun _ h => List.mem_cons_of_mem _ (List.mem_append_right _ h)) (by decide +kernel))
set_option maxRecDepth 20000 in
theorem gX5_coverage_X4_nextFirst : GoodIn wsX5_coverage (wsV RX5 196 RX4 yX4_nextFirst wsX4_nextFirst) := goodIn_app (goodIn_of _ (by decide +kernel)) ggX5_coverage_X4_nextFirst
theorem dX5_coverage_0 : decode cX5_coverage 0 = .ok (.iload_n 1, 1) := by decide +kernel
theorem dX5_coverage_1 : decode cX5_coverage 1 = .ok (.invokestatic 44, 3) := by decide +kernel
theorem dX5_coverage_4 : decode cX5_coverage 4 = .ok (.aload_n 0, 1) := by decide +kernel
theorem dX5_coverage_5 : decode cX5_coverage 5 = .ok (.getfield 10, 3) := by decide +kernel
theorem dX5_coverage_8 : decode cX5_coverage 8 = .ok (.getfield 51, 3) := by decide +kernel
theorem dX5_coverage_11 : decode cX5_coverage 11 = .ok (.iload_n 1, 1) := by decide +kernel
theorem dX5_coverage_12 : decode cX5_coverage 12 = .ok (.invokevirtual 135, 3) := by decide +kernel
theorem dX5_coverage_15 : decode cX5_coverage 15 = .ok (.ifCond .ne 11, 3) := by decide +kernel
theorem dX5_coverage_18 : decode cX5_coverage 18 = .ok (.new 202, 3) := by decide +kernel
theorem dX5_coverage_21 : decode cX5_coverage 21 = .ok (.dup, 1) := by decide +kernel
theorem dX5_coverage_22 : decode cX5_coverage 22 = .ok (.invokespecial 204, 3) := by decide +kernel
theorem dX5_coverage_25 : decode cX5_coverage 25 = .ok (.athrow, 1) := by decide +kernel
theorem dX5_coverage_26 : decode cX5_coverage 26 = .ok (.aload_n 0, 1) := by decide +kernel
theorem dX5_coverage_27 : decode cX5_coverage 27 = .ok (.getfield 10, 3) := by decide +kernel
theorem dX5_coverage_30 : decode cX5_coverage 30 = .ok (.getfield 51, 3) := by decide +kernel
theorem dX5_coverage_33 : decode cX5_coverage 33 = .ok (.iload_n 1, 1) := by decide +kernel
theorem dX5_coverage_34 : decode cX5_coverage 34 = .ok (.invokevirtual 205, 3) := by decide +kernel
theorem dX5_coverage_37 : decode cX5_coverage 37 = .ok (.i2d, 1) := by decide +kernel
theorem dX5_coverage_38 : decode cX5_coverage 38 = .ok (.sipush 1000, 3) := by decide +kernel
theorem dX5_coverage_41 : decode cX5_coverage 41 = .ok (.aload_n 0, 1) := by decide +kernel
theorem dX5_coverage_42 : decode cX5_coverage 42 = .ok (.getfield 10, 3) := by decide +kernel
theorem dX5_coverage_45 : decode cX5_coverage 45 = .ok (.getfield 51, 3) := by decide +kernel
theorem dX5_coverage_48 : decode cX5_coverage 48 = .ok (.iload_n 1, 1) := by decide +kernel
theorem dX5_coverage_49 : decode cX5_coverage 49 = .ok (.iconst (-1), 1) := by decide +kernel
theorem dX5_coverage_50 : decode cX5_coverage 50 = .ok (.invokevirtual 196, 3) := by decide +kernel
theorem dX5_coverage_53 : decode cX5_coverage 53 = .ok (.isub, 1) := by decide +kernel
theorem dX5_coverage_54 : decode cX5_coverage 54 = .ok (.i2d, 1) := by decide +kernel
theorem dX5_coverage_55 : decode cX5_coverage 55 = .ok (.ddiv, 1) := by decide +kernel
theorem dX5_coverage_56 : decode cX5_coverage 56 = .ok (.dreturn, 1) := by decide +kernel
theorem dX5_checkKey_0 : decode cX5_checkKey 0 = .ok (.iload_n 0, 1) := by decide +kernel
theorem dX5_checkKey_1 : decode cX5_checkKey 1 = .ok (.ifCond .lt 9, 3) := by decide +kernel
theorem dX5_checkKey_4 : decode cX5_checkKey 4 = .ok (.iload_n 0, 1) := by decide +kernel
theorem dX5_checkKey_5 : decode cX5_checkKey 5 = .ok (.bipush 8, 2) := by decide +kernel
theorem dX5_checkKey_7 : decode cX5_checkKey 7 = .ok (.if_icmp .lt 11, 3) := by decide +kernel
theorem dX5_checkKey_10 : decode cX5_checkKey 10 = .ok (.new 169, 3) := by decide +kernel
theorem dX5_checkKey_13 : decode cX5_checkKey 13 = .ok (.dup, 1) := by decide +kernel
theorem dX5_checkKey_14 : decode cX5_checkKey 14 = .ok (.invokespecial 171, 3) := by decide +kernel
theorem dX5_checkKey_17 : decode cX5_checkKey 17 = .ok (.athrow, 1) := by decide +kernel
theorem dX5_checkKey_18 : decode cX5_checkKey 18 = .ok (.return_, 1) := by decide +kernel
theorem dX5_checkDay_0 : decode cX5_checkDay 0 = .ok (.iload_n 0, 1) := by decide +kernel
theorem dX5_checkDay_1 : decode cX5_checkDay 1 = .ok (.ifCond .lt 10, 3) := by decide +kernel
theorem dX5_checkDay_4 : decode cX5_checkDay 4 = .ok (.iload_n 0, 1) := by decide +kernel
theorem dX5_checkDay_5 : decode cX5_checkDay 5 = .ok (.sipush 1000, 3) := by decide +kernel
theorem dX5_checkDay_8 : decode cX5_checkDay 8 = .ok (.if_icmp .lt 11, 3) := by decide +kernel
theorem dX5_checkDay_11 : decode cX5_checkDay 11 = .ok (.new 151, 3) := by decide +kernel
theorem dX5_checkDay_14 : decode cX5_checkDay 14 = .ok (.dup, 1) := by decide +kernel
theorem dX5_checkDay_15 : decode cX5_checkDay 15 = .ok (.invokespecial 153, 3) := by decide +kernel
theorem dX5_checkDay_18 : decode cX5_checkDay 18 = .ok (.athrow, 1) := by decide +kernel
theorem dX5_checkDay_19 : decode cX5_checkDay 19 = .ok (.return_, 1) := by decide +kernel
set_option maxRecDepth 20000 in
theorem ggX5_checkVersion_X4_has : GoodIn wsX5_checkVersion wsX4_has := goodIn_ca (goodIn_r _ [9, 10, 11, 23, 24, 25, 26, 27, 28, 29] (by decide +kernel) (by decide +kernel)) (goodIn_sub (fun _ h => List.mem_cons_of_mem _ (List.mem_append_right _ h)) (by decide +kernel))
set_option maxRecDepth 20000 in
theorem gX5_checkVersion_X4_has : GoodIn wsX5_checkVersion (wsV RX5 255 RX4 yX4_has wsX4_has) := goodIn_app (goodIn_of _ (by decide +kernel)) ggX5_checkVersion_X4_has
theorem dX5_checkVersion_0 : decode cX5_checkVersion 0 = .ok (.aload_n 0, 1) := by decide +kernel
theorem dX5_checkVersion_1 : decode cX5_checkVersion 1 = .ok (.getfield 10, 3) := by decide +kernel
theorem dX5_checkVersion_4 : decode cX5_checkVersion 4 = .ok (.getfield 51, 3) := by decide +kernel
theorem dX5_checkVersion_7 : decode cX5_checkVersion 7 = .ok (.iload_n 1, 1) := by decide +kernel
theorem dX5_checkVersion_8 : decode cX5_checkVersion 8 = .ok (.invokevirtual 255, 3) := by decide +kernel
theorem dX5_checkVersion_11 : decode cX5_checkVersion 11 = .ok (.ifCond .ne 11, 3) := by decide +kernel
theorem dX5_checkVersion_14 : decode cX5_checkVersion 14 = .ok (.new 169, 3) := by decide +kernel
theorem dX5_checkVersion_17 : decode cX5_checkVersion 17 = .ok (.dup, 1) := by decide +kernel
theorem dX5_checkVersion_18 : decode cX5_checkVersion 18 = .ok (.invokespecial 171, 3) := by decide +kernel
theorem dX5_checkVersion_21 : decode cX5_checkVersion 21 = .ok (.athrow, 1) := by decide +kernel
theorem dX5_checkVersion_22 : decode cX5_checkVersion 22 = .ok (.return_, 1) := by decide +kernel
theorem dX5_found_0 : decode cX5_found 0 = .ok (.iload_n 0, 1) := by decide +kernel
theorem dX5_found_1 : decode cX5_found 1 = .ok (.iconst (-1), 1) := by decide +kernel
theorem dX5_found_2 : decode cX5_found 2 = .ok (.if_icmp .ne 11, 3) := by decide +kernel
theorem dX5_found_5 : decode cX5_found 5 = .ok (.new 85, 3) := by decide +kernel
theorem dX5_found_8 : decode cX5_found 8 = .ok (.dup, 1) := by decide +kernel
theorem dX5_found_9 : decode cX5_found 9 = .ok (.invokespecial 87, 3) := by decide +kernel
theorem dX5_found_12 : decode cX5_found 12 = .ok (.athrow, 1) := by decide +kernel
theorem dX5_found_13 : decode cX5_found 13 = .ok (.iload_n 0, 1) := by decide +kernel
theorem dX5_found_14 : decode cX5_found 14 = .ok (.ireturn, 1) := by decide +kernel
set_option maxRecDepth 20000 in
theorem ggX5_pointFacts_X0_pointTo : GoodIn wsX5_pointFacts wsX0_pointTo := goodIn_ca (goodIn_r _ [9, 10, 11, 12, 13, 14, 15, 16, 17, 18, 19, 20, 21, 22, 23, 24, 25, 26, 27, 28, 29, 30, 31, 43, 44, 45, 46, 47, 48, 49, 50, 51, 52, 53, 54] (by decide +kernel) (by decide +kernel)) (goodIn_sub (fun _ h => List.mem_cons_of_mem _ (List.mem_append_right _ h)) (by decide +kernel))
set_option maxRecDepth 20000 in
theorem gX5_pointFacts_X0_pointTo : GoodIn wsX5_pointFacts (wsV RX5 259 RX0 yX0_pointTo wsX0_pointTo) := goodIn_app (goodIn_of _ (by decide +kernel)) ggX5_pointFacts_X0_pointTo
theorem dX5_pointFacts_0 : decode cX5_pointFacts 0 = .ok (.aload_n 0, 1) := by decide +kernel
theorem dX5_pointFacts_1 : decode cX5_pointFacts 1 = .ok (.aload_n 0, 1) := by decide +kernel
theorem dX5_pointFacts_2 : decode cX5_pointFacts 2 = .ok (.getfield 10, 3) := by decide +kernel
theorem dX5_pointFacts_5 : decode cX5_pointFacts 5 = .ok (.getfield 64, 3) := by decide +kernel
theorem dX5_pointFacts_8 : decode cX5_pointFacts 8 = .ok (.aload_n 0, 1) := by decide +kernel
theorem dX5_pointFacts_9 : decode cX5_pointFacts 9 = .ok (.getfield 10, 3) := by decide +kernel
theorem dX5_pointFacts_12 : decode cX5_pointFacts 12 = .ok (.getfield 51, 3) := by decide +kernel
theorem dX5_pointFacts_15 : decode cX5_pointFacts 15 = .ok (.invokevirtual 259, 3) := by decide +kernel
theorem dX5_pointFacts_18 : decode cX5_pointFacts 18 = .ok (.putfield 132, 3) := by decide +kernel
theorem dX5_pointFacts_21 : decode cX5_pointFacts 21 = .ok (.return_, 1) := by decide +kernel
theorem dJx00060_init_a7421_0 : decode cJx00060_init_a7421 0 = .ok (.aload_n 0, 1) := by decide +kernel
theorem dJx00060_init_a7421_1 : decode cJx00060_init_a7421 1 = .ok (.aload_n 1, 1) := by decide +kernel
theorem dJx00060_init_a7421_2 : decode cJx00060_init_a7421 2 = .ok (.invokespecial 7, 3) := by decide +kernel
theorem dJx00060_init_a7421_5 : decode cJx00060_init_a7421 5 = .ok (.return_, 1) := by decide +kernel
