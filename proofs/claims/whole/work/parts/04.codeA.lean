theorem dX0_init_0 : decode cX0_init 0 = .ok (.aload_n 0, 1) := by decide +kernel
theorem dX0_init_1 : decode cX0_init 1 = .ok (.invokespecial 3, 3) := by decide +kernel
theorem dX0_init_4 : decode cX0_init 4 = .ok (.aload_n 0, 1) := by decide +kernel
theorem dX0_init_5 : decode cX0_init 5 = .ok (.bipush 60, 2) := by decide +kernel
theorem dX0_init_7 : decode cX0_init 7 = .ok (.newarray .int, 2) := by decide +kernel
theorem dX0_init_9 : decode cX0_init 9 = .ok (.putfield 9, 3) := by decide +kernel
theorem dX0_init_12 : decode cX0_init 12 = .ok (.aload_n 0, 1) := by decide +kernel
theorem dX0_init_13 : decode cX0_init 13 = .ok (.bipush 60, 2) := by decide +kernel
theorem dX0_init_15 : decode cX0_init 15 = .ok (.newarray .int, 2) := by decide +kernel
theorem dX0_init_17 : decode cX0_init 17 = .ok (.putfield 15, 3) := by decide +kernel
theorem dX0_init_20 : decode cX0_init 20 = .ok (.aload_n 0, 1) := by decide +kernel
theorem dX0_init_21 : decode cX0_init 21 = .ok (.bipush 60, 2) := by decide +kernel
theorem dX0_init_23 : decode cX0_init 23 = .ok (.newarray .int, 2) := by decide +kernel
theorem dX0_init_25 : decode cX0_init 25 = .ok (.putfield 18, 3) := by decide +kernel
theorem dX0_init_28 : decode cX0_init 28 = .ok (.aload_n 0, 1) := by decide +kernel
theorem dX0_init_29 : decode cX0_init 29 = .ok (.bipush 60, 2) := by decide +kernel
theorem dX0_init_31 : decode cX0_init 31 = .ok (.newarray .int, 2) := by decide +kernel
theorem dX0_init_33 : decode cX0_init 33 = .ok (.putfield 21, 3) := by decide +kernel
theorem dX0_init_36 : decode cX0_init 36 = .ok (.return_, 1) := by decide +kernel
theorem dX0_isFull_0 : decode cX0_isFull 0 = .ok (.aload_n 0, 1) := by decide +kernel
theorem dX0_isFull_1 : decode cX0_isFull 1 = .ok (.getfield 24, 3) := by decide +kernel
theorem dX0_isFull_4 : decode cX0_isFull 4 = .ok (.bipush 60, 2) := by decide +kernel
theorem dX0_isFull_6 : decode cX0_isFull 6 = .ok (.if_icmp .lt 7, 3) := by decide +kernel
theorem dX0_isFull_9 : decode cX0_isFull 9 = .ok (.iconst 1, 1) := by decide +kernel
theorem dX0_isFull_10 : decode cX0_isFull 10 = .ok (.goto 4, 3) := by decide +kernel
theorem dX0_isFull_13 : decode cX0_isFull 13 = .ok (.iconst 0, 1) := by decide +kernel
theorem dX0_isFull_14 : decode cX0_isFull 14 = .ok (.ireturn, 1) := by decide +kernel
set_option maxRecDepth 20000 in
theorem ggX0_add_X0_isFull : GoodIn wsX0_add wsX0_isFull := goodIn_r _ [10, 2, 11, 12, 13, 14, 15] (by decide +kernel) (by decide +kernel)
set_option maxRecDepth 20000 in
theorem gX0_add_X0_isFull : GoodIn wsX0_add (wsV RX0 28 RX0 yX0_isFull wsX0_isFull) := goodIn_app (goodIn_of _ (by decide +kernel)) ggX0_add_X0_isFull
theorem dX0_add_0 : decode cX0_add 0 = .ok (.aload_n 0, 1) := by decide +kernel
theorem dX0_add_1 : decode cX0_add 1 = .ok (.invokevirtual 28, 3) := by decide +kernel
theorem dX0_add_4 : decode cX0_add 4 = .ok (.ifCond .eq 4, 3) := by decide +kernel
theorem dX0_add_7 : decode cX0_add 7 = .ok (.return_, 1) := by decide +kernel
theorem dX0_add_8 : decode cX0_add 8 = .ok (.aload_n 0, 1) := by decide +kernel
theorem dX0_add_9 : decode cX0_add 9 = .ok (.getfield 9, 3) := by decide +kernel
theorem dX0_add_12 : decode cX0_add 12 = .ok (.aload_n 0, 1) := by decide +kernel
theorem dX0_add_13 : decode cX0_add 13 = .ok (.getfield 24, 3) := by decide +kernel
theorem dX0_add_16 : decode cX0_add 16 = .ok (.iload_n 1, 1) := by decide +kernel
theorem dX0_add_17 : decode cX0_add 17 = .ok (.iastore, 1) := by decide +kernel
theorem dX0_add_18 : decode cX0_add 18 = .ok (.aload_n 0, 1) := by decide +kernel
theorem dX0_add_19 : decode cX0_add 19 = .ok (.getfield 15, 3) := by decide +kernel
theorem dX0_add_22 : decode cX0_add 22 = .ok (.aload_n 0, 1) := by decide +kernel
theorem dX0_add_23 : decode cX0_add 23 = .ok (.getfield 24, 3) := by decide +kernel
theorem dX0_add_26 : decode cX0_add 26 = .ok (.iload_n 2, 1) := by decide +kernel
theorem dX0_add_27 : decode cX0_add 27 = .ok (.iastore, 1) := by decide +kernel
theorem dX0_add_28 : decode cX0_add 28 = .ok (.aload_n 0, 1) := by decide +kernel
theorem dX0_add_29 : decode cX0_add 29 = .ok (.getfield 18, 3) := by decide +kernel
theorem dX0_add_32 : decode cX0_add 32 = .ok (.aload_n 0, 1) := by decide +kernel
theorem dX0_add_33 : decode cX0_add 33 = .ok (.getfield 24, 3) := by decide +kernel
theorem dX0_add_36 : decode cX0_add 36 = .ok (.iload_n 3, 1) := by decide +kernel
theorem dX0_add_37 : decode cX0_add 37 = .ok (.iastore, 1) := by decide +kernel
theorem dX0_add_38 : decode cX0_add 38 = .ok (.aload_n 0, 1) := by decide +kernel
theorem dX0_add_39 : decode cX0_add 39 = .ok (.getfield 21, 3) := by decide +kernel
theorem dX0_add_42 : decode cX0_add 42 = .ok (.aload_n 0, 1) := by decide +kernel
theorem dX0_add_43 : decode cX0_add 43 = .ok (.getfield 24, 3) := by decide +kernel
theorem dX0_add_46 : decode cX0_add 46 = .ok (.iload 4, 2) := by decide +kernel
theorem dX0_add_48 : decode cX0_add 48 = .ok (.iastore, 1) := by decide +kernel
theorem dX0_add_49 : decode cX0_add 49 = .ok (.aload_n 0, 1) := by decide +kernel
theorem dX0_add_50 : decode cX0_add 50 = .ok (.dup, 1) := by decide +kernel
theorem dX0_add_51 : decode cX0_add 51 = .ok (.getfield 24, 3) := by decide +kernel
theorem dX0_add_54 : decode cX0_add 54 = .ok (.iconst 1, 1) := by decide +kernel
theorem dX0_add_55 : decode cX0_add 55 = .ok (.iadd, 1) := by decide +kernel
theorem dX0_add_56 : decode cX0_add 56 = .ok (.putfield 24, 3) := by decide +kernel
theorem dX0_add_59 : decode cX0_add 59 = .ok (.return_, 1) := by decide +kernel
set_option maxRecDepth 20000 in
theorem ggX0_pointTo_X4_onDay : GoodIn wsX0_pointTo wsX4_onDay := goodIn_ca (goodIn_r _ [9, 10, 11, 12, 13, 14, 15, 8, 16, 17, 18, 19, 20, 21, 22, 28, 29, 30, 31, 32, 33, 34] (by decide +kernel) (by decide +kernel)) (goodIn_sub (fun _ h => List.mem_cons_of_mem _ (List.mem_append_right _ h)) (by decide +kernel))
set_option maxRecDepth 20000 in
theorem gX0_pointTo_X4_onDay : GoodIn wsX0_pointTo (wsV RX0 32 RX4 yX4_onDay wsX4_onDay) := goodIn_app (goodIn_of _ (by decide +kernel)) ggX0_pointTo_X4_onDay
theorem dX0_pointTo_0 : decode cX0_pointTo 0 = .ok (.iconst 0, 1) := by decide +kernel
theorem dX0_pointTo_1 : decode cX0_pointTo 1 = .ok (.istore_n 2, 1) := by decide +kernel
theorem dX0_pointTo_2 : decode cX0_pointTo 2 = .ok (.iconst 0, 1) := by decide +kernel
theorem dX0_pointTo_3 : decode cX0_pointTo 3 = .ok (.istore_n 3, 1) := by decide +kernel
theorem dX0_pointTo_4 : decode cX0_pointTo 4 = .ok (.iload_n 3, 1) := by decide +kernel
theorem dX0_pointTo_5 : decode cX0_pointTo 5 = .ok (.aload_n 0, 1) := by decide +kernel
theorem dX0_pointTo_6 : decode cX0_pointTo 6 = .ok (.getfield 24, 3) := by decide +kernel
theorem dX0_pointTo_9 : decode cX0_pointTo 9 = .ok (.if_icmp .ge 49, 3) := by decide +kernel
theorem dX0_pointTo_12 : decode cX0_pointTo 12 = .ok (.aload_n 1, 1) := by decide +kernel
theorem dX0_pointTo_13 : decode cX0_pointTo 13 = .ok (.aload_n 0, 1) := by decide +kernel
theorem dX0_pointTo_14 : decode cX0_pointTo 14 = .ok (.getfield 9, 3) := by decide +kernel
theorem dX0_pointTo_17 : decode cX0_pointTo 17 = .ok (.iload_n 3, 1) := by decide +kernel
theorem dX0_pointTo_18 : decode cX0_pointTo 18 = .ok (.iaload, 1) := by decide +kernel
theorem dX0_pointTo_19 : decode cX0_pointTo 19 = .ok (.aload_n 0, 1) := by decide +kernel
theorem dX0_pointTo_20 : decode cX0_pointTo 20 = .ok (.getfield 15, 3) := by decide +kernel
theorem dX0_pointTo_23 : decode cX0_pointTo 23 = .ok (.iload_n 3, 1) := by decide +kernel
theorem dX0_pointTo_24 : decode cX0_pointTo 24 = .ok (.iaload, 1) := by decide +kernel
theorem dX0_pointTo_25 : decode cX0_pointTo 25 = .ok (.invokevirtual 32, 3) := by decide +kernel
theorem dX0_pointTo_28 : decode cX0_pointTo 28 = .ok (.istore 4, 2) := by decide +kernel
theorem dX0_pointTo_30 : decode cX0_pointTo 30 = .ok (.iload 4, 2) := by decide +kernel
theorem dX0_pointTo_32 : decode cX0_pointTo 32 = .ok (.aload_n 0, 1) := by decide +kernel
theorem dX0_pointTo_33 : decode cX0_pointTo 33 = .ok (.getfield 21, 3) := by decide +kernel
theorem dX0_pointTo_36 : decode cX0_pointTo 36 = .ok (.iload_n 3, 1) := by decide +kernel
theorem dX0_pointTo_37 : decode cX0_pointTo 37 = .ok (.iaload, 1) := by decide +kernel
theorem dX0_pointTo_38 : decode cX0_pointTo 38 = .ok (.if_icmp .eq 14, 3) := by decide +kernel
theorem dX0_pointTo_41 : decode cX0_pointTo 41 = .ok (.aload_n 0, 1) := by decide +kernel
theorem dX0_pointTo_42 : decode cX0_pointTo 42 = .ok (.getfield 21, 3) := by decide +kernel
theorem dX0_pointTo_45 : decode cX0_pointTo 45 = .ok (.iload_n 3, 1) := by decide +kernel
theorem dX0_pointTo_46 : decode cX0_pointTo 46 = .ok (.iload 4, 2) := by decide +kernel
theorem dX0_pointTo_48 : decode cX0_pointTo 48 = .ok (.iastore, 1) := by decide +kernel
theorem dX0_pointTo_49 : decode cX0_pointTo 49 = .ok (.iinc 2 1, 3) := by decide +kernel
theorem dX0_pointTo_52 : decode cX0_pointTo 52 = .ok (.iinc 3 1, 3) := by decide +kernel
theorem dX0_pointTo_55 : decode cX0_pointTo 55 = .ok (.goto (-51), 3) := by decide +kernel
theorem dX0_pointTo_58 : decode cX0_pointTo 58 = .ok (.iload_n 2, 1) := by decide +kernel
theorem dX0_pointTo_59 : decode cX0_pointTo 59 = .ok (.ireturn, 1) := by decide +kernel
theorem dX0_pointFrom_0 : decode cX0_pointFrom 0 = .ok (.iconst 0, 1) := by decide +kernel
theorem dX0_pointFrom_1 : decode cX0_pointFrom 1 = .ok (.istore_n 3, 1) := by decide +kernel
theorem dX0_pointFrom_2 : decode cX0_pointFrom 2 = .ok (.iload_n 3, 1) := by decide +kernel
theorem dX0_pointFrom_3 : decode cX0_pointFrom 3 = .ok (.aload_n 0, 1) := by decide +kernel
theorem dX0_pointFrom_4 : decode cX0_pointFrom 4 = .ok (.getfield 24, 3) := by decide +kernel
theorem dX0_pointFrom_7 : decode cX0_pointFrom 7 = .ok (.if_icmp .ge 31, 3) := by decide +kernel
theorem dX0_pointFrom_10 : decode cX0_pointFrom 10 = .ok (.aload_n 0, 1) := by decide +kernel
theorem dX0_pointFrom_11 : decode cX0_pointFrom 11 = .ok (.getfield 21, 3) := by decide +kernel
theorem dX0_pointFrom_14 : decode cX0_pointFrom 14 = .ok (.iload_n 3, 1) := by decide +kernel
theorem dX0_pointFrom_15 : decode cX0_pointFrom 15 = .ok (.iaload, 1) := by decide +kernel
theorem dX0_pointFrom_16 : decode cX0_pointFrom 16 = .ok (.iload_n 2, 1) := by decide +kernel
theorem dX0_pointFrom_17 : decode cX0_pointFrom 17 = .ok (.if_icmp .ne 15, 3) := by decide +kernel
theorem dX0_pointFrom_20 : decode cX0_pointFrom 20 = .ok (.aload_n 0, 1) := by decide +kernel
theorem dX0_pointFrom_21 : decode cX0_pointFrom 21 = .ok (.getfield 15, 3) := by decide +kernel
theorem dX0_pointFrom_24 : decode cX0_pointFrom 24 = .ok (.iload_n 3, 1) := by decide +kernel
theorem dX0_pointFrom_25 : decode cX0_pointFrom 25 = .ok (.iaload, 1) := by decide +kernel
theorem dX0_pointFrom_26 : decode cX0_pointFrom 26 = .ok (.iload_n 1, 1) := by decide +kernel
theorem dX0_pointFrom_27 : decode cX0_pointFrom 27 = .ok (.if_icmp .lt 5, 3) := by decide +kernel
theorem dX0_pointFrom_30 : decode cX0_pointFrom 30 = .ok (.iconst 1, 1) := by decide +kernel
theorem dX0_pointFrom_31 : decode cX0_pointFrom 31 = .ok (.ireturn, 1) := by decide +kernel
theorem dX0_pointFrom_32 : decode cX0_pointFrom 32 = .ok (.iinc 3 1, 3) := by decide +kernel
theorem dX0_pointFrom_35 : decode cX0_pointFrom 35 = .ok (.goto (-33), 3) := by decide +kernel
theorem dX0_pointFrom_38 : decode cX0_pointFrom 38 = .ok (.iconst 0, 1) := by decide +kernel
theorem dX0_pointFrom_39 : decode cX0_pointFrom 39 = .ok (.ireturn, 1) := by decide +kernel
theorem dX0_countOf_0 : decode cX0_countOf 0 = .ok (.iconst 0, 1) := by decide +kernel
theorem dX0_countOf_1 : decode cX0_countOf 1 = .ok (.istore_n 2, 1) := by decide +kernel
theorem dX0_countOf_2 : decode cX0_countOf 2 = .ok (.iconst 0, 1) := by decide +kernel
theorem dX0_countOf_3 : decode cX0_countOf 3 = .ok (.istore_n 3, 1) := by decide +kernel
theorem dX0_countOf_4 : decode cX0_countOf 4 = .ok (.iload_n 3, 1) := by decide +kernel
theorem dX0_countOf_5 : decode cX0_countOf 5 = .ok (.aload_n 0, 1) := by decide +kernel
theorem dX0_countOf_6 : decode cX0_countOf 6 = .ok (.getfield 24, 3) := by decide +kernel
theorem dX0_countOf_9 : decode cX0_countOf 9 = .ok (.if_icmp .ge 22, 3) := by decide +kernel
theorem dX0_countOf_12 : decode cX0_countOf 12 = .ok (.aload_n 0, 1) := by decide +kernel
theorem dX0_countOf_13 : decode cX0_countOf 13 = .ok (.getfield 21, 3) := by decide +kernel
theorem dX0_countOf_16 : decode cX0_countOf 16 = .ok (.iload_n 3, 1) := by decide +kernel
theorem dX0_countOf_17 : decode cX0_countOf 17 = .ok (.iaload, 1) := by decide +kernel
theorem dX0_countOf_18 : decode cX0_countOf 18 = .ok (.iload_n 1, 1) := by decide +kernel
theorem dX0_countOf_19 : decode cX0_countOf 19 = .ok (.if_icmp .ne 6, 3) := by decide +kernel
theorem dX0_countOf_22 : decode cX0_countOf 22 = .ok (.iinc 2 1, 3) := by decide +kernel
theorem dX0_countOf_25 : decode cX0_countOf 25 = .ok (.iinc 3 1, 3) := by decide +kernel
theorem dX0_countOf_28 : decode cX0_countOf 28 = .ok (.goto (-24), 3) := by decide +kernel
theorem dX0_countOf_31 : decode cX0_countOf 31 = .ok (.iload_n 2, 1) := by decide +kernel
theorem dX0_countOf_32 : decode cX0_countOf 32 = .ok (.ireturn, 1) := by decide +kernel
theorem dX0_sumOf_0 : decode cX0_sumOf 0 = .ok (.lconst 0, 1) := by decide +kernel
theorem dX0_sumOf_1 : decode cX0_sumOf 1 = .ok (.lstore_n 2, 1) := by decide +kernel
theorem dX0_sumOf_2 : decode cX0_sumOf 2 = .ok (.iconst 0, 1) := by decide +kernel
theorem dX0_sumOf_3 : decode cX0_sumOf 3 = .ok (.istore 4, 2) := by decide +kernel
theorem dX0_sumOf_5 : decode cX0_sumOf 5 = .ok (.iload 4, 2) := by decide +kernel
theorem dX0_sumOf_7 : decode cX0_sumOf 7 = .ok (.aload_n 0, 1) := by decide +kernel
theorem dX0_sumOf_8 : decode cX0_sumOf 8 = .ok (.getfield 24, 3) := by decide +kernel
theorem dX0_sumOf_11 : decode cX0_sumOf 11 = .ok (.if_icmp .ge 31, 3) := by decide +kernel
theorem dX0_sumOf_14 : decode cX0_sumOf 14 = .ok (.aload_n 0, 1) := by decide +kernel
theorem dX0_sumOf_15 : decode cX0_sumOf 15 = .ok (.getfield 21, 3) := by decide +kernel
theorem dX0_sumOf_18 : decode cX0_sumOf 18 = .ok (.iload 4, 2) := by decide +kernel
theorem dX0_sumOf_20 : decode cX0_sumOf 20 = .ok (.iaload, 1) := by decide +kernel
theorem dX0_sumOf_21 : decode cX0_sumOf 21 = .ok (.iload_n 1, 1) := by decide +kernel
theorem dX0_sumOf_22 : decode cX0_sumOf 22 = .ok (.if_icmp .ne 14, 3) := by decide +kernel
theorem dX0_sumOf_25 : decode cX0_sumOf 25 = .ok (.lload_n 2, 1) := by decide +kernel
theorem dX0_sumOf_26 : decode cX0_sumOf 26 = .ok (.aload_n 0, 1) := by decide +kernel
theorem dX0_sumOf_27 : decode cX0_sumOf 27 = .ok (.getfield 18, 3) := by decide +kernel
theorem dX0_sumOf_30 : decode cX0_sumOf 30 = .ok (.iload 4, 2) := by decide +kernel
theorem dX0_sumOf_32 : decode cX0_sumOf 32 = .ok (.iaload, 1) := by decide +kernel
theorem dX0_sumOf_33 : decode cX0_sumOf 33 = .ok (.i2l, 1) := by decide +kernel
theorem dX0_sumOf_34 : decode cX0_sumOf 34 = .ok (.ladd, 1) := by decide +kernel
theorem dX0_sumOf_35 : decode cX0_sumOf 35 = .ok (.lstore_n 2, 1) := by decide +kernel
theorem dX0_sumOf_36 : decode cX0_sumOf 36 = .ok (.iinc 4 1, 3) := by decide +kernel
theorem dX0_sumOf_39 : decode cX0_sumOf 39 = .ok (.goto (-34), 3) := by decide +kernel
theorem dX0_sumOf_42 : decode cX0_sumOf 42 = .ok (.lload_n 2, 1) := by decide +kernel
theorem dX0_sumOf_43 : decode cX0_sumOf 43 = .ok (.lreturn, 1) := by decide +kernel
theorem dX0_copy_0 : decode cX0_copy 0 = .ok (.iconst 0, 1) := by decide +kernel
theorem dX0_copy_1 : decode cX0_copy 1 = .ok (.istore_n 2, 1) := by decide +kernel
theorem dX0_copy_2 : decode cX0_copy 2 = .ok (.iload_n 2, 1) := by decide +kernel
theorem dX0_copy_3 : decode cX0_copy 3 = .ok (.aload_n 1, 1) := by decide +kernel
theorem dX0_copy_4 : decode cX0_copy 4 = .ok (.getfield 24, 3) := by decide +kernel
theorem dX0_copy_7 : decode cX0_copy 7 = .ok (.if_icmp .ge 57, 3) := by decide +kernel
theorem dX0_copy_10 : decode cX0_copy 10 = .ok (.aload_n 0, 1) := by decide +kernel
theorem dX0_copy_11 : decode cX0_copy 11 = .ok (.getfield 9, 3) := by decide +kernel
theorem dX0_copy_14 : decode cX0_copy 14 = .ok (.iload_n 2, 1) := by decide +kernel
theorem dX0_copy_15 : decode cX0_copy 15 = .ok (.aload_n 1, 1) := by decide +kernel
theorem dX0_copy_16 : decode cX0_copy 16 = .ok (.getfield 9, 3) := by decide +kernel
theorem dX0_copy_19 : decode cX0_copy 19 = .ok (.iload_n 2, 1) := by decide +kernel
theorem dX0_copy_20 : decode cX0_copy 20 = .ok (.iaload, 1) := by decide +kernel
theorem dX0_copy_21 : decode cX0_copy 21 = .ok (.iastore, 1) := by decide +kernel
theorem dX0_copy_22 : decode cX0_copy 22 = .ok (.aload_n 0, 1) := by decide +kernel
theorem dX0_copy_23 : decode cX0_copy 23 = .ok (.getfield 15, 3) := by decide +kernel
theorem dX0_copy_26 : decode cX0_copy 26 = .ok (.iload_n 2, 1) := by decide +kernel
theorem dX0_copy_27 : decode cX0_copy 27 = .ok (.aload_n 1, 1) := by decide +kernel
theorem dX0_copy_28 : decode cX0_copy 28 = .ok (.getfield 15, 3) := by decide +kernel
theorem dX0_copy_31 : decode cX0_copy 31 = .ok (.iload_n 2, 1) := by decide +kernel
theorem dX0_copy_32 : decode cX0_copy 32 = .ok (.iaload, 1) := by decide +kernel
theorem dX0_copy_33 : decode cX0_copy 33 = .ok (.iastore, 1) := by decide +kernel
theorem dX0_copy_34 : decode cX0_copy 34 = .ok (.aload_n 0, 1) := by decide +kernel
theorem dX0_copy_35 : decode cX0_copy 35 = .ok (.getfield 18, 3) := by decide +kernel
theorem dX0_copy_38 : decode cX0_copy 38 = .ok (.iload_n 2, 1) := by decide +kernel
theorem dX0_copy_39 : decode cX0_copy 39 = .ok (.aload_n 1, 1) := by decide +kernel
theorem dX0_copy_40 : decode cX0_copy 40 = .ok (.getfield 18, 3) := by decide +kernel
theorem dX0_copy_43 : decode cX0_copy 43 = .ok (.iload_n 2, 1) := by decide +kernel
theorem dX0_copy_44 : decode cX0_copy 44 = .ok (.iaload, 1) := by decide +kernel
theorem dX0_copy_45 : decode cX0_copy 45 = .ok (.iastore, 1) := by decide +kernel
theorem dX0_copy_46 : decode cX0_copy 46 = .ok (.aload_n 0, 1) := by decide +kernel
theorem dX0_copy_47 : decode cX0_copy 47 = .ok (.getfield 21, 3) := by decide +kernel
theorem dX0_copy_50 : decode cX0_copy 50 = .ok (.iload_n 2, 1) := by decide +kernel
theorem dX0_copy_51 : decode cX0_copy 51 = .ok (.aload_n 1, 1) := by decide +kernel
theorem dX0_copy_52 : decode cX0_copy 52 = .ok (.getfield 21, 3) := by decide +kernel
theorem dX0_copy_55 : decode cX0_copy 55 = .ok (.iload_n 2, 1) := by decide +kernel
theorem dX0_copy_56 : decode cX0_copy 56 = .ok (.iaload, 1) := by decide +kernel
theorem dX0_copy_57 : decode cX0_copy 57 = .ok (.iastore, 1) := by decide +kernel
theorem dX0_copy_58 : decode cX0_copy 58 = .ok (.iinc 2 1, 3) := by decide +kernel
theorem dX0_copy_61 : decode cX0_copy 61 = .ok (.goto (-59), 3) := by decide +kernel
theorem dX0_copy_64 : decode cX0_copy 64 = .ok (.aload_n 0, 1) := by decide +kernel
theorem dX0_copy_65 : decode cX0_copy 65 = .ok (.aload_n 1, 1) := by decide +kernel
theorem dX0_copy_66 : decode cX0_copy 66 = .ok (.getfield 24, 3) := by decide +kernel
theorem dX0_copy_69 : decode cX0_copy 69 = .ok (.putfield 24, 3) := by decide +kernel
theorem dX0_copy_72 : decode cX0_copy 72 = .ok (.return_, 1) := by decide +kernel
theorem dX1_init_0 : decode cX1_init 0 = .ok (.aload_n 0, 1) := by decide +kernel
theorem dX1_init_1 : decode cX1_init 1 = .ok (.invokespecial 3, 3) := by decide +kernel
theorem dX1_init_4 : decode cX1_init 4 = .ok (.aload_n 0, 1) := by decide +kernel
theorem dX1_init_5 : decode cX1_init 5 = .ok (.bipush 20, 2) := by decide +kernel
theorem dX1_init_7 : decode cX1_init 7 = .ok (.newarray .int, 2) := by decide +kernel
theorem dX1_init_9 : decode cX1_init 9 = .ok (.putfield 9, 3) := by decide +kernel
theorem dX1_init_12 : decode cX1_init 12 = .ok (.aload_n 0, 1) := by decide +kernel
theorem dX1_init_13 : decode cX1_init 13 = .ok (.bipush 20, 2) := by decide +kernel
theorem dX1_init_15 : decode cX1_init 15 = .ok (.newarray .int, 2) := by decide +kernel
theorem dX1_init_17 : decode cX1_init 17 = .ok (.putfield 15, 3) := by decide +kernel
theorem dX1_init_20 : decode cX1_init 20 = .ok (.aload_n 0, 1) := by decide +kernel
theorem dX1_init_21 : decode cX1_init 21 = .ok (.bipush 20, 2) := by decide +kernel
theorem dX1_init_23 : decode cX1_init 23 = .ok (.newarray .int, 2) := by decide +kernel
theorem dX1_init_25 : decode cX1_init 25 = .ok (.putfield 18, 3) := by decide +kernel
theorem dX1_init_28 : decode cX1_init 28 = .ok (.return_, 1) := by decide +kernel
set_option maxRecDepth 20000 in
theorem ggX1_insert_X1_isBehind : GoodIn wsX1_insert wsX1_isBehind := goodIn_ca (goodIn_r _ [9, 3, 2, 14, 15, 16, 17] (by decide +kernel) (by decide +kernel)) (goodIn_sub (fun _ h => List.mem_cons_of_mem _ (List.mem_append_right _ h)) (by decide +kernel))
set_option maxRecDepth 20000 in
theorem gX1_insert_X1_isBehind : GoodIn wsX1_insert (wsV RX1 25 RX1 yX1_isBehind wsX1_isBehind) := goodIn_app (goodIn_of _ (by decide +kernel)) ggX1_insert_X1_isBehind
set_option maxRecDepth 20000 in
theorem ggX1_insert_X1_set : GoodIn wsX1_insert wsX1_set := goodIn_ca (goodIn_r _ [13, 2, 3, 4, 14, 15, 16, 17] (by decide +kernel) (by decide +kernel)) (goodIn_sub (fun _ h => List.mem_cons_of_mem _ (List.mem_append_right _ h)) (by decide +kernel))
set_option maxRecDepth 20000 in
theorem gX1_insert_X1_set : GoodIn wsX1_insert (wsV RX1 29 RX1 yX1_set wsX1_set) := goodIn_app (goodIn_of _ (by decide +kernel)) ggX1_insert_X1_set
theorem dX1_insert_0 : decode cX1_insert 0 = .ok (.aload_n 0, 1) := by decide +kernel
theorem dX1_insert_1 : decode cX1_insert 1 = .ok (.getfield 21, 3) := by decide +kernel
theorem dX1_insert_4 : decode cX1_insert 4 = .ok (.bipush 20, 2) := by decide +kernel
theorem dX1_insert_6 : decode cX1_insert 6 = .ok (.if_icmp .lt 5, 3) := by decide +kernel
theorem dX1_insert_9 : decode cX1_insert 9 = .ok (.iconst 0, 1) := by decide +kernel
theorem dX1_insert_10 : decode cX1_insert 10 = .ok (.ireturn, 1) := by decide +kernel
theorem dX1_insert_11 : decode cX1_insert 11 = .ok (.aload_n 0, 1) := by decide +kernel
theorem dX1_insert_12 : decode cX1_insert 12 = .ok (.getfield 21, 3) := by decide +kernel
theorem dX1_insert_15 : decode cX1_insert 15 = .ok (.istore 4, 2) := by decide +kernel
theorem dX1_insert_17 : decode cX1_insert 17 = .ok (.iload 4, 2) := by decide +kernel
theorem dX1_insert_19 : decode cX1_insert 19 = .ok (.ifCond .le 55, 3) := by decide +kernel
theorem dX1_insert_22 : decode cX1_insert 22 = .ok (.aload_n 0, 1) := by decide +kernel
theorem dX1_insert_23 : decode cX1_insert 23 = .ok (.iload 4, 2) := by decide +kernel
theorem dX1_insert_25 : decode cX1_insert 25 = .ok (.iconst 1, 1) := by decide +kernel
theorem dX1_insert_26 : decode cX1_insert 26 = .ok (.isub, 1) := by decide +kernel
theorem dX1_insert_27 : decode cX1_insert 27 = .ok (.iload_n 1, 1) := by decide +kernel
theorem dX1_insert_28 : decode cX1_insert 28 = .ok (.iload_n 2, 1) := by decide +kernel
theorem dX1_insert_29 : decode cX1_insert 29 = .ok (.invokevirtual 25, 3) := by decide +kernel
theorem dX1_insert_32 : decode cX1_insert 32 = .ok (.ifCond .eq 42, 3) := by decide +kernel
theorem dX1_insert_35 : decode cX1_insert 35 = .ok (.aload_n 0, 1) := by decide +kernel
theorem dX1_insert_36 : decode cX1_insert 36 = .ok (.iload 4, 2) := by decide +kernel
theorem dX1_insert_38 : decode cX1_insert 38 = .ok (.aload_n 0, 1) := by decide +kernel
theorem dX1_insert_39 : decode cX1_insert 39 = .ok (.getfield 9, 3) := by decide +kernel
theorem dX1_insert_42 : decode cX1_insert 42 = .ok (.iload 4, 2) := by decide +kernel
theorem dX1_insert_44 : decode cX1_insert 44 = .ok (.iconst 1, 1) := by decide +kernel
theorem dX1_insert_45 : decode cX1_insert 45 = .ok (.isub, 1) := by decide +kernel
theorem dX1_insert_46 : decode cX1_insert 46 = .ok (.iaload, 1) := by decide +kernel
theorem dX1_insert_47 : decode cX1_insert 47 = .ok (.aload_n 0, 1) := by decide +kernel
theorem dX1_insert_48 : decode cX1_insert 48 = .ok (.getfield 15, 3) := by decide +kernel
theorem dX1_insert_51 : decode cX1_insert 51 = .ok (.iload 4, 2) := by decide +kernel
theorem dX1_insert_53 : decode cX1_insert 53 = .ok (.iconst 1, 1) := by decide +kernel
theorem dX1_insert_54 : decode cX1_insert 54 = .ok (.isub, 1) := by decide +kernel
theorem dX1_insert_55 : decode cX1_insert 55 = .ok (.iaload, 1) := by decide +kernel
theorem dX1_insert_56 : decode cX1_insert 56 = .ok (.aload_n 0, 1) := by decide +kernel
theorem dX1_insert_57 : decode cX1_insert 57 = .ok (.getfield 18, 3) := by decide +kernel
theorem dX1_insert_60 : decode cX1_insert 60 = .ok (.iload 4, 2) := by decide +kernel
theorem dX1_insert_62 : decode cX1_insert 62 = .ok (.iconst 1, 1) := by decide +kernel
theorem dX1_insert_63 : decode cX1_insert 63 = .ok (.isub, 1) := by decide +kernel
theorem dX1_insert_64 : decode cX1_insert 64 = .ok (.iaload, 1) := by decide +kernel
theorem dX1_insert_65 : decode cX1_insert 65 = .ok (.invokevirtual 29, 3) := by decide +kernel
theorem dX1_insert_68 : decode cX1_insert 68 = .ok (.iinc 4 (-1), 3) := by decide +kernel
theorem dX1_insert_71 : decode cX1_insert 71 = .ok (.goto (-54), 3) := by decide +kernel
theorem dX1_insert_74 : decode cX1_insert 74 = .ok (.aload_n 0, 1) := by decide +kernel
theorem dX1_insert_75 : decode cX1_insert 75 = .ok (.iload 4, 2) := by decide +kernel
theorem dX1_insert_77 : decode cX1_insert 77 = .ok (.iload_n 1, 1) := by decide +kernel
theorem dX1_insert_78 : decode cX1_insert 78 = .ok (.iload_n 2, 1) := by decide +kernel
theorem dX1_insert_79 : decode cX1_insert 79 = .ok (.iload_n 3, 1) := by decide +kernel
theorem dX1_insert_80 : decode cX1_insert 80 = .ok (.invokevirtual 29, 3) := by decide +kernel
theorem dX1_insert_83 : decode cX1_insert 83 = .ok (.aload_n 0, 1) := by decide +kernel
theorem dX1_insert_84 : decode cX1_insert 84 = .ok (.dup, 1) := by decide +kernel
theorem dX1_insert_85 : decode cX1_insert 85 = .ok (.getfield 21, 3) := by decide +kernel
theorem dX1_insert_88 : decode cX1_insert 88 = .ok (.iconst 1, 1) := by decide +kernel
theorem dX1_insert_89 : decode cX1_insert 89 = .ok (.iadd, 1) := by decide +kernel
theorem dX1_insert_90 : decode cX1_insert 90 = .ok (.putfield 21, 3) := by decide +kernel
theorem dX1_insert_93 : decode cX1_insert 93 = .ok (.iconst 1, 1) := by decide +kernel
theorem dX1_insert_94 : decode cX1_insert 94 = .ok (.ireturn, 1) := by decide +kernel
set_option maxRecDepth 20000 in
theorem ggX1_addLast_X1_set : GoodIn wsX1_addLast wsX1_set := goodIn_ca (goodIn_r _ [6, 7, 8, 9, 10, 11, 12, 13] (by decide +kernel) (by decide +kernel)) (goodIn_sub (fun _ h => List.mem_cons_of_mem _ (List.mem_append_right _ h)) (by decide +kernel))
set_option maxRecDepth 20000 in
theorem gX1_addLast_X1_set : GoodIn wsX1_addLast (wsV RX1 29 RX1 yX1_set wsX1_set) := goodIn_app (goodIn_of _ (by decide +kernel)) ggX1_addLast_X1_set
theorem dX1_addLast_0 : decode cX1_addLast 0 = .ok (.aload_n 0, 1) := by decide +kernel
theorem dX1_addLast_1 : decode cX1_addLast 1 = .ok (.getfield 21, 3) := by decide +kernel
theorem dX1_addLast_4 : decode cX1_addLast 4 = .ok (.bipush 20, 2) := by decide +kernel
theorem dX1_addLast_6 : decode cX1_addLast 6 = .ok (.if_icmp .lt 5, 3) := by decide +kernel
theorem dX1_addLast_9 : decode cX1_addLast 9 = .ok (.iconst 0, 1) := by decide +kernel
theorem dX1_addLast_10 : decode cX1_addLast 10 = .ok (.ireturn, 1) := by decide +kernel
theorem dX1_addLast_11 : decode cX1_addLast 11 = .ok (.aload_n 0, 1) := by decide +kernel
theorem dX1_addLast_12 : decode cX1_addLast 12 = .ok (.aload_n 0, 1) := by decide +kernel
theorem dX1_addLast_13 : decode cX1_addLast 13 = .ok (.getfield 21, 3) := by decide +kernel
theorem dX1_addLast_16 : decode cX1_addLast 16 = .ok (.iload_n 1, 1) := by decide +kernel
theorem dX1_addLast_17 : decode cX1_addLast 17 = .ok (.iload_n 2, 1) := by decide +kernel
theorem dX1_addLast_18 : decode cX1_addLast 18 = .ok (.iload_n 3, 1) := by decide +kernel
theorem dX1_addLast_19 : decode cX1_addLast 19 = .ok (.invokevirtual 29, 3) := by decide +kernel
theorem dX1_addLast_22 : decode cX1_addLast 22 = .ok (.aload_n 0, 1) := by decide +kernel
theorem dX1_addLast_23 : decode cX1_addLast 23 = .ok (.dup, 1) := by decide +kernel
theorem dX1_addLast_24 : decode cX1_addLast 24 = .ok (.getfield 21, 3) := by decide +kernel
theorem dX1_addLast_27 : decode cX1_addLast 27 = .ok (.iconst 1, 1) := by decide +kernel
theorem dX1_addLast_28 : decode cX1_addLast 28 = .ok (.iadd, 1) := by decide +kernel
theorem dX1_addLast_29 : decode cX1_addLast 29 = .ok (.putfield 21, 3) := by decide +kernel
theorem dX1_addLast_32 : decode cX1_addLast 32 = .ok (.iconst 1, 1) := by decide +kernel
theorem dX1_addLast_33 : decode cX1_addLast 33 = .ok (.ireturn, 1) := by decide +kernel
theorem dX1_isBehind_0 : decode cX1_isBehind 0 = .ok (.aload_n 0, 1) := by decide +kernel
theorem dX1_isBehind_1 : decode cX1_isBehind 1 = .ok (.getfield 15, 3) := by decide +kernel
theorem dX1_isBehind_4 : decode cX1_isBehind 4 = .ok (.iload_n 1, 1) := by decide +kernel
theorem dX1_isBehind_5 : decode cX1_isBehind 5 = .ok (.iaload, 1) := by decide +kernel
theorem dX1_isBehind_6 : decode cX1_isBehind 6 = .ok (.iload_n 3, 1) := by decide +kernel
theorem dX1_isBehind_7 : decode cX1_isBehind 7 = .ok (.if_icmp .gt 23, 3) := by decide +kernel
theorem dX1_isBehind_10 : decode cX1_isBehind 10 = .ok (.aload_n 0, 1) := by decide +kernel
theorem dX1_isBehind_11 : decode cX1_isBehind 11 = .ok (.getfield 15, 3) := by decide +kernel
theorem dX1_isBehind_14 : decode cX1_isBehind 14 = .ok (.iload_n 1, 1) := by decide +kernel
theorem dX1_isBehind_15 : decode cX1_isBehind 15 = .ok (.iaload, 1) := by decide +kernel
theorem dX1_isBehind_16 : decode cX1_isBehind 16 = .ok (.iload_n 3, 1) := by decide +kernel
theorem dX1_isBehind_17 : decode cX1_isBehind 17 = .ok (.if_icmp .ne 17, 3) := by decide +kernel
theorem dX1_isBehind_20 : decode cX1_isBehind 20 = .ok (.aload_n 0, 1) := by decide +kernel
theorem dX1_isBehind_21 : decode cX1_isBehind 21 = .ok (.getfield 9, 3) := by decide +kernel
theorem dX1_isBehind_24 : decode cX1_isBehind 24 = .ok (.iload_n 1, 1) := by decide +kernel
theorem dX1_isBehind_25 : decode cX1_isBehind 25 = .ok (.iaload, 1) := by decide +kernel
theorem dX1_isBehind_26 : decode cX1_isBehind 26 = .ok (.iload_n 2, 1) := by decide +kernel
theorem dX1_isBehind_27 : decode cX1_isBehind 27 = .ok (.if_icmp .le 7, 3) := by decide +kernel
theorem dX1_isBehind_30 : decode cX1_isBehind 30 = .ok (.iconst 1, 1) := by decide +kernel
theorem dX1_isBehind_31 : decode cX1_isBehind 31 = .ok (.goto 4, 3) := by decide +kernel
theorem dX1_isBehind_34 : decode cX1_isBehind 34 = .ok (.iconst 0, 1) := by decide +kernel
theorem dX1_isBehind_35 : decode cX1_isBehind 35 = .ok (.ireturn, 1) := by decide +kernel
theorem dX1_set_0 : decode cX1_set 0 = .ok (.aload_n 0, 1) := by decide +kernel
theorem dX1_set_1 : decode cX1_set 1 = .ok (.getfield 9, 3) := by decide +kernel
theorem dX1_set_4 : decode cX1_set 4 = .ok (.iload_n 1, 1) := by decide +kernel
theorem dX1_set_5 : decode cX1_set 5 = .ok (.iload_n 2, 1) := by decide +kernel
theorem dX1_set_6 : decode cX1_set 6 = .ok (.iastore, 1) := by decide +kernel
theorem dX1_set_7 : decode cX1_set 7 = .ok (.aload_n 0, 1) := by decide +kernel
theorem dX1_set_8 : decode cX1_set 8 = .ok (.getfield 15, 3) := by decide +kernel
theorem dX1_set_11 : decode cX1_set 11 = .ok (.iload_n 1, 1) := by decide +kernel
theorem dX1_set_12 : decode cX1_set 12 = .ok (.iload_n 3, 1) := by decide +kernel
theorem dX1_set_13 : decode cX1_set 13 = .ok (.iastore, 1) := by decide +kernel
theorem dX1_set_14 : decode cX1_set 14 = .ok (.aload_n 0, 1) := by decide +kernel
theorem dX1_set_15 : decode cX1_set 15 = .ok (.getfield 18, 3) := by decide +kernel
theorem dX1_set_18 : decode cX1_set 18 = .ok (.iload_n 1, 1) := by decide +kernel
theorem dX1_set_19 : decode cX1_set 19 = .ok (.iload 4, 2) := by decide +kernel
theorem dX1_set_21 : decode cX1_set 21 = .ok (.iastore, 1) := by decide +kernel
theorem dX1_set_22 : decode cX1_set 22 = .ok (.return_, 1) := by decide +kernel
set_option maxRecDepth 20000 in
theorem ggX1_dropFirst_X1_set : GoodIn wsX1_dropFirst wsX1_set := goodIn_ca (goodIn_r _ [9, 2, 3, 4, 10, 11, 12, 13] (by decide +kernel) (by decide +kernel)) (goodIn_sub (fun _ h => List.mem_cons_of_mem _ (List.mem_append_right _ h)) (by decide +kernel))
set_option maxRecDepth 20000 in
theorem gX1_dropFirst_X1_set : GoodIn wsX1_dropFirst (wsV RX1 29 RX1 yX1_set wsX1_set) := goodIn_app (goodIn_of _ (by decide +kernel)) ggX1_dropFirst_X1_set
theorem dX1_dropFirst_0 : decode cX1_dropFirst 0 = .ok (.iload_n 1, 1) := by decide +kernel
theorem dX1_dropFirst_1 : decode cX1_dropFirst 1 = .ok (.ifCond .lt 11, 3) := by decide +kernel
theorem dX1_dropFirst_4 : decode cX1_dropFirst 4 = .ok (.iload_n 1, 1) := by decide +kernel
theorem dX1_dropFirst_5 : decode cX1_dropFirst 5 = .ok (.aload_n 0, 1) := by decide +kernel
theorem dX1_dropFirst_6 : decode cX1_dropFirst 6 = .ok (.getfield 21, 3) := by decide +kernel
theorem dX1_dropFirst_9 : decode cX1_dropFirst 9 = .ok (.if_icmp .le 4, 3) := by decide +kernel
theorem dX1_dropFirst_12 : decode cX1_dropFirst 12 = .ok (.return_, 1) := by decide +kernel
theorem dX1_dropFirst_13 : decode cX1_dropFirst 13 = .ok (.iload_n 1, 1) := by decide +kernel
theorem dX1_dropFirst_14 : decode cX1_dropFirst 14 = .ok (.istore_n 2, 1) := by decide +kernel
theorem dX1_dropFirst_15 : decode cX1_dropFirst 15 = .ok (.iload_n 2, 1) := by decide +kernel
theorem dX1_dropFirst_16 : decode cX1_dropFirst 16 = .ok (.aload_n 0, 1) := by decide +kernel
theorem dX1_dropFirst_17 : decode cX1_dropFirst 17 = .ok (.getfield 21, 3) := by decide +kernel
theorem dX1_dropFirst_20 : decode cX1_dropFirst 20 = .ok (.if_icmp .ge 34, 3) := by decide +kernel
theorem dX1_dropFirst_23 : decode cX1_dropFirst 23 = .ok (.aload_n 0, 1) := by decide +kernel
theorem dX1_dropFirst_24 : decode cX1_dropFirst 24 = .ok (.iload_n 2, 1) := by decide +kernel
theorem dX1_dropFirst_25 : decode cX1_dropFirst 25 = .ok (.iload_n 1, 1) := by decide +kernel
theorem dX1_dropFirst_26 : decode cX1_dropFirst 26 = .ok (.isub, 1) := by decide +kernel
theorem dX1_dropFirst_27 : decode cX1_dropFirst 27 = .ok (.aload_n 0, 1) := by decide +kernel
theorem dX1_dropFirst_28 : decode cX1_dropFirst 28 = .ok (.getfield 9, 3) := by decide +kernel
theorem dX1_dropFirst_31 : decode cX1_dropFirst 31 = .ok (.iload_n 2, 1) := by decide +kernel
theorem dX1_dropFirst_32 : decode cX1_dropFirst 32 = .ok (.iaload, 1) := by decide +kernel
theorem dX1_dropFirst_33 : decode cX1_dropFirst 33 = .ok (.aload_n 0, 1) := by decide +kernel
theorem dX1_dropFirst_34 : decode cX1_dropFirst 34 = .ok (.getfield 15, 3) := by decide +kernel
theorem dX1_dropFirst_37 : decode cX1_dropFirst 37 = .ok (.iload_n 2, 1) := by decide +kernel
theorem dX1_dropFirst_38 : decode cX1_dropFirst 38 = .ok (.iaload, 1) := by decide +kernel
theorem dX1_dropFirst_39 : decode cX1_dropFirst 39 = .ok (.aload_n 0, 1) := by decide +kernel
theorem dX1_dropFirst_40 : decode cX1_dropFirst 40 = .ok (.getfield 18, 3) := by decide +kernel
theorem dX1_dropFirst_43 : decode cX1_dropFirst 43 = .ok (.iload_n 2, 1) := by decide +kernel
theorem dX1_dropFirst_44 : decode cX1_dropFirst 44 = .ok (.iaload, 1) := by decide +kernel
theorem dX1_dropFirst_45 : decode cX1_dropFirst 45 = .ok (.invokevirtual 29, 3) := by decide +kernel
theorem dX1_dropFirst_48 : decode cX1_dropFirst 48 = .ok (.iinc 2 1, 3) := by decide +kernel
theorem dX1_dropFirst_51 : decode cX1_dropFirst 51 = .ok (.goto (-36), 3) := by decide +kernel
theorem dX1_dropFirst_54 : decode cX1_dropFirst 54 = .ok (.aload_n 0, 1) := by decide +kernel
theorem dX1_dropFirst_55 : decode cX1_dropFirst 55 = .ok (.dup, 1) := by decide +kernel
theorem dX1_dropFirst_56 : decode cX1_dropFirst 56 = .ok (.getfield 21, 3) := by decide +kernel
theorem dX1_dropFirst_59 : decode cX1_dropFirst 59 = .ok (.iload_n 1, 1) := by decide +kernel
theorem dX1_dropFirst_60 : decode cX1_dropFirst 60 = .ok (.isub, 1) := by decide +kernel
theorem dX1_dropFirst_61 : decode cX1_dropFirst 61 = .ok (.putfield 21, 3) := by decide +kernel
theorem dX1_dropFirst_64 : decode cX1_dropFirst 64 = .ok (.return_, 1) := by decide +kernel
set_option maxRecDepth 20000 in
theorem ggX1_copy_X1_set : GoodIn wsX1_copy wsX1_set := goodIn_ca (goodIn_r _ [9, 2, 3, 4, 10, 11, 12, 13] (by decide +kernel) (by decide +kernel)) (goodIn_sub (fun _ h => List.mem_cons_of_mem _ (List.mem_append_right _ h)) (by decide +kernel))
set_option maxRecDepth 20000 in
theorem gX1_copy_X1_set : GoodIn wsX1_copy (wsV RX1 29 RX1 yX1_set wsX1_set) := goodIn_app (goodIn_of _ (by decide +kernel)) ggX1_copy_X1_set
theorem dX1_copy_0 : decode cX1_copy 0 = .ok (.iconst 0, 1) := by decide +kernel
theorem dX1_copy_1 : decode cX1_copy 1 = .ok (.istore_n 2, 1) := by decide +kernel
theorem dX1_copy_2 : decode cX1_copy 2 = .ok (.iload_n 2, 1) := by decide +kernel
theorem dX1_copy_3 : decode cX1_copy 3 = .ok (.aload_n 1, 1) := by decide +kernel
theorem dX1_copy_4 : decode cX1_copy 4 = .ok (.getfield 21, 3) := by decide +kernel
theorem dX1_copy_7 : decode cX1_copy 7 = .ok (.if_icmp .ge 32, 3) := by decide +kernel
theorem dX1_copy_10 : decode cX1_copy 10 = .ok (.aload_n 0, 1) := by decide +kernel
theorem dX1_copy_11 : decode cX1_copy 11 = .ok (.iload_n 2, 1) := by decide +kernel
theorem dX1_copy_12 : decode cX1_copy 12 = .ok (.aload_n 1, 1) := by decide +kernel
theorem dX1_copy_13 : decode cX1_copy 13 = .ok (.getfield 9, 3) := by decide +kernel
theorem dX1_copy_16 : decode cX1_copy 16 = .ok (.iload_n 2, 1) := by decide +kernel
theorem dX1_copy_17 : decode cX1_copy 17 = .ok (.iaload, 1) := by decide +kernel
theorem dX1_copy_18 : decode cX1_copy 18 = .ok (.aload_n 1, 1) := by decide +kernel
theorem dX1_copy_19 : decode cX1_copy 19 = .ok (.getfield 15, 3) := by decide +kernel
theorem dX1_copy_22 : decode cX1_copy 22 = .ok (.iload_n 2, 1) := by decide +kernel
theorem dX1_copy_23 : decode cX1_copy 23 = .ok (.iaload, 1) := by decide +kernel
theorem dX1_copy_24 : decode cX1_copy 24 = .ok (.aload_n 1, 1) := by decide +kernel
theorem dX1_copy_25 : decode cX1_copy 25 = .ok (.getfield 18, 3) := by decide +kernel
theorem dX1_copy_28 : decode cX1_copy 28 = .ok (.iload_n 2, 1) := by decide +kernel
theorem dX1_copy_29 : decode cX1_copy 29 = .ok (.iaload, 1) := by decide +kernel
theorem dX1_copy_30 : decode cX1_copy 30 = .ok (.invokevirtual 29, 3) := by decide +kernel
theorem dX1_copy_33 : decode cX1_copy 33 = .ok (.iinc 2 1, 3) := by decide +kernel
theorem dX1_copy_36 : decode cX1_copy 36 = .ok (.goto (-34), 3) := by decide +kernel
theorem dX1_copy_39 : decode cX1_copy 39 = .ok (.aload_n 0, 1) := by decide +kernel
theorem dX1_copy_40 : decode cX1_copy 40 = .ok (.aload_n 1, 1) := by decide +kernel
theorem dX1_copy_41 : decode cX1_copy 41 = .ok (.getfield 21, 3) := by decide +kernel
theorem dX1_copy_44 : decode cX1_copy 44 = .ok (.putfield 21, 3) := by decide +kernel
theorem dX1_copy_47 : decode cX1_copy 47 = .ok (.return_, 1) := by decide +kernel
set_option maxRecDepth 20000 in
theorem ggX2_init_X4_init : GoodIn wsX2_init wsX4_init := goodIn_r _ [17, 18, 2, 3, 19, 20, 21, 22, 23, 24, 25, 26, 40, 41, 42, 43, 44, 45, 46] (by decide +kernel) (by decide +kernel)
set_option maxRecDepth 20000 in
theorem gX2_init_X4_init_n9 : GoodIn wsX2_init (wsX4_init) := ggX2_init_X4_init
set_option maxRecDepth 20000 in
theorem ggX2_init_X0_init : GoodIn wsX2_init wsX0_init := goodIn_r _ [28, 29, 2, 3, 19, 30, 31, 32, 33, 50, 51, 52, 53, 54] (by decide +kernel) (by decide +kernel)
set_option maxRecDepth 20000 in
theorem gX2_init_X0_init_n18 : GoodIn wsX2_init (wsX0_init) := ggX2_init_X0_init
set_option maxRecDepth 20000 in
theorem ggX2_init_X1_init : GoodIn wsX2_init wsX1_init := goodIn_r _ [35, 36, 2, 3, 19, 37, 38, 39, 55, 56, 57, 58] (by decide +kernel) (by decide +kernel)
set_option maxRecDepth 20000 in
theorem gX2_init_X1_init_n25 : GoodIn wsX2_init (wsX1_init) := ggX2_init_X1_init
theorem dX2_init_0 : decode cX2_init 0 = .ok (.aload_n 0, 1) := by decide +kernel
theorem dX2_init_1 : decode cX2_init 1 = .ok (.invokespecial 1, 3) := by decide +kernel
theorem dX2_init_4 : decode cX2_init 4 = .ok (.aload_n 0, 1) := by decide +kernel
theorem dX2_init_5 : decode cX2_init 5 = .ok (.new 7, 3) := by decide +kernel
theorem dX2_init_8 : decode cX2_init 8 = .ok (.dup, 1) := by decide +kernel
theorem dX2_init_9 : decode cX2_init 9 = .ok (.invokespecial 9, 3) := by decide +kernel
theorem dX2_init_12 : decode cX2_init 12 = .ok (.putfield 10, 3) := by decide +kernel
theorem dX2_init_15 : decode cX2_init 15 = .ok (.aload_n 0, 1) := by decide +kernel
theorem dX2_init_16 : decode cX2_init 16 = .ok (.new 16, 3) := by decide +kernel
theorem dX2_init_19 : decode cX2_init 19 = .ok (.dup, 1) := by decide +kernel
theorem dX2_init_20 : decode cX2_init 20 = .ok (.invokespecial 18, 3) := by decide +kernel
theorem dX2_init_23 : decode cX2_init 23 = .ok (.putfield 19, 3) := by decide +kernel
theorem dX2_init_26 : decode cX2_init 26 = .ok (.aload_n 0, 1) := by decide +kernel
theorem dX2_init_27 : decode cX2_init 27 = .ok (.new 23, 3) := by decide +kernel
theorem dX2_init_30 : decode cX2_init 30 = .ok (.dup, 1) := by decide +kernel
theorem dX2_init_31 : decode cX2_init 31 = .ok (.invokespecial 25, 3) := by decide +kernel
theorem dX2_init_34 : decode cX2_init 34 = .ok (.putfield 26, 3) := by decide +kernel
theorem dX2_init_37 : decode cX2_init 37 = .ok (.return_, 1) := by decide +kernel
theorem dX2_empty_0 : decode cX2_empty 0 = .ok (.aload_n 0, 1) := by decide +kernel
theorem dX2_empty_1 : decode cX2_empty 1 = .ok (.getfield 10, 3) := by decide +kernel
theorem dX2_empty_4 : decode cX2_empty 4 = .ok (.iconst 0, 1) := by decide +kernel
theorem dX2_empty_5 : decode cX2_empty 5 = .ok (.putfield 30, 3) := by decide +kernel
theorem dX2_empty_8 : decode cX2_empty 8 = .ok (.aload_n 0, 1) := by decide +kernel
theorem dX2_empty_9 : decode cX2_empty 9 = .ok (.getfield 19, 3) := by decide +kernel
theorem dX2_empty_12 : decode cX2_empty 12 = .ok (.iconst 0, 1) := by decide +kernel
theorem dX2_empty_13 : decode cX2_empty 13 = .ok (.putfield 34, 3) := by decide +kernel
theorem dX2_empty_16 : decode cX2_empty 16 = .ok (.aload_n 0, 1) := by decide +kernel
theorem dX2_empty_17 : decode cX2_empty 17 = .ok (.getfield 26, 3) := by decide +kernel
theorem dX2_empty_20 : decode cX2_empty 20 = .ok (.iconst 0, 1) := by decide +kernel
theorem dX2_empty_21 : decode cX2_empty 21 = .ok (.putfield 37, 3) := by decide +kernel
theorem dX2_empty_24 : decode cX2_empty 24 = .ok (.return_, 1) := by decide +kernel
set_option maxRecDepth 20000 in
theorem ggX2_copy_X4_copy : GoodIn wsX2_copy wsX4_copy := goodIn_ca (goodIn_r _ [8, 9, 10, 11, 12, 13, 14, 15, 42, 43, 44, 45, 46, 47, 48] (by decide +kernel) (by decide +kernel)) (goodIn_sub (fun _ h => List.mem_cons_of_mem _ (List.mem_append_right _ h)) (by decide +kernel))
set_option maxRecDepth 20000 in
theorem gX2_copy_X4_copy : GoodIn wsX2_copy (wsV RX2 38 RX4 yX4_copy wsX4_copy) := goodIn_app (goodIn_of _ (by decide +kernel)) ggX2_copy_X4_copy
set_option maxRecDepth 20000 in
theorem ggX2_copy_X0_copy : GoodIn wsX2_copy wsX0_copy := goodIn_ca (goodIn_r _ [20, 21, 22, 23, 24, 25, 49, 50, 51, 52, 53] (by decide +kernel) (by decide +kernel)) (goodIn_sub (fun _ h => List.mem_cons_of_mem _ (List.mem_append_right _ h)) (by decide +kernel))
set_option maxRecDepth 20000 in
theorem gX2_copy_X0_copy : GoodIn wsX2_copy (wsV RX2 42 RX0 yX0_copy wsX0_copy) := goodIn_app (goodIn_of _ (by decide +kernel)) ggX2_copy_X0_copy
set_option maxRecDepth 20000 in
theorem ggX2_copy_X1_copy : GoodIn wsX2_copy wsX1_copy := goodIn_ca (goodIn_r _ [30, 31, 32, 33, 34, 35, 36, 37, 29, 38, 54, 55, 56, 57] (by decide +kernel) (by decide +kernel)) (goodIn_sub (fun _ h => List.mem_cons_of_mem _ (List.mem_append_right _ h)) (by decide +kernel))
set_option maxRecDepth 20000 in
theorem gX2_copy_X1_copy : GoodIn wsX2_copy (wsV RX2 45 RX1 yX1_copy wsX1_copy) := goodIn_app (goodIn_of _ (by decide +kernel)) ggX2_copy_X1_copy
theorem dX2_copy_0 : decode cX2_copy 0 = .ok (.aload_n 0, 1) := by decide +kernel
theorem dX2_copy_1 : decode cX2_copy 1 = .ok (.getfield 10, 3) := by decide +kernel
theorem dX2_copy_4 : decode cX2_copy 4 = .ok (.aload_n 1, 1) := by decide +kernel
theorem dX2_copy_5 : decode cX2_copy 5 = .ok (.getfield 10, 3) := by decide +kernel
theorem dX2_copy_8 : decode cX2_copy 8 = .ok (.invokevirtual 38, 3) := by decide +kernel
theorem dX2_copy_11 : decode cX2_copy 11 = .ok (.aload_n 0, 1) := by decide +kernel
theorem dX2_copy_12 : decode cX2_copy 12 = .ok (.getfield 19, 3) := by decide +kernel
theorem dX2_copy_15 : decode cX2_copy 15 = .ok (.aload_n 1, 1) := by decide +kernel
theorem dX2_copy_16 : decode cX2_copy 16 = .ok (.getfield 19, 3) := by decide +kernel
theorem dX2_copy_19 : decode cX2_copy 19 = .ok (.invokevirtual 42, 3) := by decide +kernel
theorem dX2_copy_22 : decode cX2_copy 22 = .ok (.aload_n 0, 1) := by decide +kernel
theorem dX2_copy_23 : decode cX2_copy 23 = .ok (.getfield 26, 3) := by decide +kernel
theorem dX2_copy_26 : decode cX2_copy 26 = .ok (.aload_n 1, 1) := by decide +kernel
theorem dX2_copy_27 : decode cX2_copy 27 = .ok (.getfield 26, 3) := by decide +kernel
theorem dX2_copy_30 : decode cX2_copy 30 = .ok (.invokevirtual 45, 3) := by decide +kernel
theorem dX2_copy_33 : decode cX2_copy 33 = .ok (.return_, 1) := by decide +kernel
theorem dX3_init_0 : decode cX3_init 0 = .ok (.aload_n 0, 1) := by decide +kernel
theorem dX3_init_1 : decode cX3_init 1 = .ok (.invokespecial 3, 3) := by decide +kernel
theorem dX3_init_4 : decode cX3_init 4 = .ok (.aload_n 0, 1) := by decide +kernel
theorem dX3_init_5 : decode cX3_init 5 = .ok (.bipush 30, 2) := by decide +kernel
theorem dX3_init_7 : decode cX3_init 7 = .ok (.newarray .char, 2) := by decide +kernel
theorem dX3_init_9 : decode cX3_init 9 = .ok (.putfield 9, 3) := by decide +kernel
theorem dX3_init_12 : decode cX3_init 12 = .ok (.return_, 1) := by decide +kernel
theorem dX3_add_0 : decode cX3_add 0 = .ok (.aload_n 0, 1) := by decide +kernel
theorem dX3_add_1 : decode cX3_add 1 = .ok (.getfield 15, 3) := by decide +kernel
theorem dX3_add_4 : decode cX3_add 4 = .ok (.bipush 30, 2) := by decide +kernel
theorem dX3_add_6 : decode cX3_add 6 = .ok (.if_icmp .lt 5, 3) := by decide +kernel
theorem dX3_add_9 : decode cX3_add 9 = .ok (.iconst 0, 1) := by decide +kernel
theorem dX3_add_10 : decode cX3_add 10 = .ok (.ireturn, 1) := by decide +kernel
theorem dX3_add_11 : decode cX3_add 11 = .ok (.aload_n 0, 1) := by decide +kernel
theorem dX3_add_12 : decode cX3_add 12 = .ok (.getfield 9, 3) := by decide +kernel
theorem dX3_add_15 : decode cX3_add 15 = .ok (.aload_n 0, 1) := by decide +kernel
theorem dX3_add_16 : decode cX3_add 16 = .ok (.getfield 15, 3) := by decide +kernel
theorem dX3_add_19 : decode cX3_add 19 = .ok (.iload_n 1, 1) := by decide +kernel
theorem dX3_add_20 : decode cX3_add 20 = .ok (.castore, 1) := by decide +kernel
theorem dX3_add_21 : decode cX3_add 21 = .ok (.aload_n 0, 1) := by decide +kernel
theorem dX3_add_22 : decode cX3_add 22 = .ok (.dup, 1) := by decide +kernel
theorem dX3_add_23 : decode cX3_add 23 = .ok (.getfield 15, 3) := by decide +kernel
theorem dX3_add_26 : decode cX3_add 26 = .ok (.iconst 1, 1) := by decide +kernel
theorem dX3_add_27 : decode cX3_add 27 = .ok (.iadd, 1) := by decide +kernel
theorem dX3_add_28 : decode cX3_add 28 = .ok (.putfield 15, 3) := by decide +kernel
theorem dX3_add_31 : decode cX3_add 31 = .ok (.iconst 1, 1) := by decide +kernel
theorem dX3_add_32 : decode cX3_add 32 = .ok (.ireturn, 1) := by decide +kernel
set_option maxRecDepth 20000 in
theorem ggX3_takeRows_X3_takeRow : GoodIn wsX3_takeRows wsX3_takeRow := goodIn_ca (goodIn_r _ [8, 9, 10, 11, 7, 12, 2, 3, 13, 14, 15, 16, 17, 18, 19, 20, 21, 22, 23, 24, 25, 26, 27, 28, 29, 30, 31, 32, 33, 34, 39, 40, 41, 35, 36, 37, 38] (by decide +kernel) (by decide +kernel)) (goodIn_sub (fun _ h => List.mem_cons_of_mem _ (List.mem_append_right _ h)) (by decide +kernel))
set_option maxRecDepth 20000 in
theorem gX3_takeRows_X3_takeRow : GoodIn wsX3_takeRows (wsV RX3 27 RX3 yX3_takeRow wsX3_takeRow) := goodIn_app (goodIn_of _ (by decide +kernel)) ggX3_takeRows_X3_takeRow
set_option maxRecDepth 20000 in
theorem ggX3_takeRows_X3_take : GoodIn wsX3_takeRows wsX3_take := goodIn_ca (goodIn_r _ [12, 2, 3, 13, 39, 40, 41] (by decide +kernel) (by decide +kernel)) (goodIn_sub (fun _ h => List.mem_cons_of_mem _ (List.mem_append_right _ h)) (by decide +kernel))
set_option maxRecDepth 20000 in
theorem gX3_takeRows_X3_take : GoodIn wsX3_takeRows (wsV RX3 31 RX3 yX3_take wsX3_take) := goodIn_app (goodIn_of _ (by decide +kernel)) ggX3_takeRows_X3_take
theorem dX3_takeRows_0 : decode cX3_takeRows 0 = .ok (.aload_n 1, 1) := by decide +kernel
theorem dX3_takeRows_1 : decode cX3_takeRows 1 = .ok (.iconst 0, 1) := by decide +kernel
theorem dX3_takeRows_2 : decode cX3_takeRows 2 = .ok (.putfield 19, 3) := by decide +kernel
theorem dX3_takeRows_5 : decode cX3_takeRows 5 = .ok (.aload_n 0, 1) := by decide +kernel
theorem dX3_takeRows_6 : decode cX3_takeRows 6 = .ok (.iconst 0, 1) := by decide +kernel
theorem dX3_takeRows_7 : decode cX3_takeRows 7 = .ok (.putfield 24, 3) := by decide +kernel
theorem dX3_takeRows_10 : decode cX3_takeRows 10 = .ok (.iconst 0, 1) := by decide +kernel
theorem dX3_takeRows_11 : decode cX3_takeRows 11 = .ok (.istore_n 2, 1) := by decide +kernel
theorem dX3_takeRows_12 : decode cX3_takeRows 12 = .ok (.iload_n 2, 1) := by decide +kernel
theorem dX3_takeRows_13 : decode cX3_takeRows 13 = .ok (.aload_n 0, 1) := by decide +kernel
theorem dX3_takeRows_14 : decode cX3_takeRows 14 = .ok (.getfield 15, 3) := by decide +kernel
theorem dX3_takeRows_17 : decode cX3_takeRows 17 = .ok (.if_icmp .gt 43, 3) := by decide +kernel
theorem dX3_takeRows_20 : decode cX3_takeRows 20 = .ok (.aload_n 0, 1) := by decide +kernel
theorem dX3_takeRows_21 : decode cX3_takeRows 21 = .ok (.aload_n 1, 1) := by decide +kernel
theorem dX3_takeRows_22 : decode cX3_takeRows 22 = .ok (.invokevirtual 27, 3) := by decide +kernel
theorem dX3_takeRows_25 : decode cX3_takeRows 25 = .ok (.ifCond .ne 5, 3) := by decide +kernel
theorem dX3_takeRows_28 : decode cX3_takeRows 28 = .ok (.iconst 0, 1) := by decide +kernel
theorem dX3_takeRows_29 : decode cX3_takeRows 29 = .ok (.ireturn, 1) := by decide +kernel
theorem dX3_takeRows_30 : decode cX3_takeRows 30 = .ok (.aload_n 0, 1) := by decide +kernel
theorem dX3_takeRows_31 : decode cX3_takeRows 31 = .ok (.getfield 24, 3) := by decide +kernel
theorem dX3_takeRows_34 : decode cX3_takeRows 34 = .ok (.aload_n 0, 1) := by decide +kernel
theorem dX3_takeRows_35 : decode cX3_takeRows 35 = .ok (.getfield 15, 3) := by decide +kernel
theorem dX3_takeRows_38 : decode cX3_takeRows 38 = .ok (.if_icmp .ne 5, 3) := by decide +kernel
theorem dX3_takeRows_41 : decode cX3_takeRows 41 = .ok (.iconst 1, 1) := by decide +kernel
theorem dX3_takeRows_42 : decode cX3_takeRows 42 = .ok (.ireturn, 1) := by decide +kernel
theorem dX3_takeRows_43 : decode cX3_takeRows 43 = .ok (.aload_n 0, 1) := by decide +kernel
theorem dX3_takeRows_44 : decode cX3_takeRows 44 = .ok (.bipush 44, 2) := by decide +kernel
theorem dX3_takeRows_46 : decode cX3_takeRows 46 = .ok (.invokevirtual 31, 3) := by decide +kernel
theorem dX3_takeRows_49 : decode cX3_takeRows 49 = .ok (.ifCond .ne 5, 3) := by decide +kernel
theorem dX3_takeRows_52 : decode cX3_takeRows 52 = .ok (.iconst 0, 1) := by decide +kernel
theorem dX3_takeRows_53 : decode cX3_takeRows 53 = .ok (.ireturn, 1) := by decide +kernel
theorem dX3_takeRows_54 : decode cX3_takeRows 54 = .ok (.iinc 2 1, 3) := by decide +kernel
theorem dX3_takeRows_57 : decode cX3_takeRows 57 = .ok (.goto (-45), 3) := by decide +kernel
theorem dX3_takeRows_60 : decode cX3_takeRows 60 = .ok (.iconst 0, 1) := by decide +kernel
theorem dX3_takeRows_61 : decode cX3_takeRows 61 = .ok (.ireturn, 1) := by decide +kernel
set_option maxRecDepth 20000 in
theorem ggX3_takeRow_X3_take : GoodIn wsX3_takeRow wsX3_take := goodIn_ca (goodIn_r _ [5, 6, 7, 8, 30, 31, 32] (by decide +kernel) (by decide +kernel)) (goodIn_sub (fun _ h => List.mem_cons_of_mem _ (List.mem_append_right _ h)) (by decide +kernel))
set_option maxRecDepth 20000 in
theorem gX3_takeRow_X3_take : GoodIn wsX3_takeRow (wsV RX3 31 RX3 yX3_take wsX3_take) := goodIn_app (goodIn_of _ (by decide +kernel)) ggX3_takeRow_X3_take
set_option maxRecDepth 20000 in
theorem ggX3_takeRow_X3_takeDigit : GoodIn wsX3_takeRow wsX3_takeDigit := goodIn_ca (goodIn_r _ [12, 6, 7, 8, 30, 31, 32] (by decide +kernel) (by decide +kernel)) (goodIn_sub (fun _ h => List.mem_cons_of_mem _ (List.mem_append_right _ h)) (by decide +kernel))
set_option maxRecDepth 20000 in
theorem gX3_takeRow_X3_takeDigit : GoodIn wsX3_takeRow (wsV RX3 35 RX3 yX3_takeDigit wsX3_takeDigit) := goodIn_app (goodIn_of _ (by decide +kernel)) ggX3_takeRow_X3_takeDigit
set_option maxRecDepth 20000 in
theorem ggX3_takeRow_X3_takeNumber : GoodIn wsX3_takeRow wsX3_takeNumber := goodIn_ca (goodIn_r _ [16, 9, 10, 11, 4, 12, 6, 7, 8, 30, 31, 32] (by decide +kernel) (by decide +kernel)) (goodIn_sub (fun _ h => List.mem_cons_of_mem _ (List.mem_append_right _ h)) (by decide +kernel))
set_option maxRecDepth 20000 in
theorem gX3_takeRow_X3_takeNumber : GoodIn wsX3_takeRow (wsV RX3 39 RX3 yX3_takeNumber wsX3_takeNumber) := goodIn_app (goodIn_of _ (by decide +kernel)) ggX3_takeRow_X3_takeNumber
set_option maxRecDepth 20000 in
theorem ggX3_takeRow_X1_addLast : GoodIn wsX3_takeRow wsX1_addLast := goodIn_ca (goodIn_r _ [21, 22, 23, 24, 25, 20, 26, 27, 28, 29, 33, 34, 35, 36] (by decide +kernel) (by decide +kernel)) (goodIn_sub (fun _ h => List.mem_cons_of_mem _ (List.mem_append_right _ h)) (by decide +kernel))
set_option maxRecDepth 20000 in
theorem gX3_takeRow_X1_addLast : GoodIn wsX3_takeRow (wsV RX3 43 RX1 yX1_addLast wsX1_addLast) := goodIn_app (goodIn_of _ (by decide +kernel)) ggX3_takeRow_X1_addLast
theorem dX3_takeRow_0 : decode cX3_takeRow 0 = .ok (.aload_n 0, 1) := by decide +kernel
theorem dX3_takeRow_1 : decode cX3_takeRow 1 = .ok (.bipush 107, 2) := by decide +kernel
theorem dX3_takeRow_3 : decode cX3_takeRow 3 = .ok (.invokevirtual 31, 3) := by decide +kernel
theorem dX3_takeRow_6 : decode cX3_takeRow 6 = .ok (.ifCond .ne 5, 3) := by decide +kernel
theorem dX3_takeRow_9 : decode cX3_takeRow 9 = .ok (.iconst 0, 1) := by decide +kernel
theorem dX3_takeRow_10 : decode cX3_takeRow 10 = .ok (.ireturn, 1) := by decide +kernel
theorem dX3_takeRow_11 : decode cX3_takeRow 11 = .ok (.aload_n 0, 1) := by decide +kernel
theorem dX3_takeRow_12 : decode cX3_takeRow 12 = .ok (.bipush 55, 2) := by decide +kernel
theorem dX3_takeRow_14 : decode cX3_takeRow 14 = .ok (.invokevirtual 35, 3) := by decide +kernel
theorem dX3_takeRow_17 : decode cX3_takeRow 17 = .ok (.istore_n 2, 1) := by decide +kernel
theorem dX3_takeRow_18 : decode cX3_takeRow 18 = .ok (.iload_n 2, 1) := by decide +kernel
theorem dX3_takeRow_19 : decode cX3_takeRow 19 = .ok (.iconst (-1), 1) := by decide +kernel
theorem dX3_takeRow_20 : decode cX3_takeRow 20 = .ok (.if_icmp .eq 12, 3) := by decide +kernel
theorem dX3_takeRow_23 : decode cX3_takeRow 23 = .ok (.aload_n 0, 1) := by decide +kernel
theorem dX3_takeRow_24 : decode cX3_takeRow 24 = .ok (.bipush 64, 2) := by decide +kernel
theorem dX3_takeRow_26 : decode cX3_takeRow 26 = .ok (.invokevirtual 31, 3) := by decide +kernel
theorem dX3_takeRow_29 : decode cX3_takeRow 29 = .ok (.ifCond .ne 5, 3) := by decide +kernel
theorem dX3_takeRow_32 : decode cX3_takeRow 32 = .ok (.iconst 0, 1) := by decide +kernel
theorem dX3_takeRow_33 : decode cX3_takeRow 33 = .ok (.ireturn, 1) := by decide +kernel
theorem dX3_takeRow_34 : decode cX3_takeRow 34 = .ok (.aload_n 0, 1) := by decide +kernel
theorem dX3_takeRow_35 : decode cX3_takeRow 35 = .ok (.invokevirtual 39, 3) := by decide +kernel
theorem dX3_takeRow_38 : decode cX3_takeRow 38 = .ok (.istore_n 3, 1) := by decide +kernel
theorem dX3_takeRow_39 : decode cX3_takeRow 39 = .ok (.iload_n 3, 1) := by decide +kernel
theorem dX3_takeRow_40 : decode cX3_takeRow 40 = .ok (.iconst (-1), 1) := by decide +kernel
theorem dX3_takeRow_41 : decode cX3_takeRow 41 = .ok (.if_icmp .eq 12, 3) := by decide +kernel
theorem dX3_takeRow_44 : decode cX3_takeRow 44 = .ok (.aload_n 0, 1) := by decide +kernel
theorem dX3_takeRow_45 : decode cX3_takeRow 45 = .ok (.bipush 61, 2) := by decide +kernel
theorem dX3_takeRow_47 : decode cX3_takeRow 47 = .ok (.invokevirtual 31, 3) := by decide +kernel
theorem dX3_takeRow_50 : decode cX3_takeRow 50 = .ok (.ifCond .ne 5, 3) := by decide +kernel
theorem dX3_takeRow_53 : decode cX3_takeRow 53 = .ok (.iconst 0, 1) := by decide +kernel
theorem dX3_takeRow_54 : decode cX3_takeRow 54 = .ok (.ireturn, 1) := by decide +kernel
theorem dX3_takeRow_55 : decode cX3_takeRow 55 = .ok (.aload_n 0, 1) := by decide +kernel
theorem dX3_takeRow_56 : decode cX3_takeRow 56 = .ok (.bipush 45, 2) := by decide +kernel
theorem dX3_takeRow_58 : decode cX3_takeRow 58 = .ok (.invokevirtual 31, 3) := by decide +kernel
theorem dX3_takeRow_61 : decode cX3_takeRow 61 = .ok (.istore 4, 2) := by decide +kernel
theorem dX3_takeRow_63 : decode cX3_takeRow 63 = .ok (.aload_n 0, 1) := by decide +kernel
theorem dX3_takeRow_64 : decode cX3_takeRow 64 = .ok (.invokevirtual 39, 3) := by decide +kernel
theorem dX3_takeRow_67 : decode cX3_takeRow 67 = .ok (.istore 5, 2) := by decide +kernel
theorem dX3_takeRow_69 : decode cX3_takeRow 69 = .ok (.iload 5, 2) := by decide +kernel
theorem dX3_takeRow_71 : decode cX3_takeRow 71 = .ok (.iconst (-1), 1) := by decide +kernel
theorem dX3_takeRow_72 : decode cX3_takeRow 72 = .ok (.if_icmp .ne 5, 3) := by decide +kernel
theorem dX3_takeRow_75 : decode cX3_takeRow 75 = .ok (.iconst 0, 1) := by decide +kernel
theorem dX3_takeRow_76 : decode cX3_takeRow 76 = .ok (.ireturn, 1) := by decide +kernel
theorem dX3_takeRow_77 : decode cX3_takeRow 77 = .ok (.aload_n 1, 1) := by decide +kernel
theorem dX3_takeRow_78 : decode cX3_takeRow 78 = .ok (.iload_n 2, 1) := by decide +kernel
theorem dX3_takeRow_79 : decode cX3_takeRow 79 = .ok (.iload_n 3, 1) := by decide +kernel
theorem dX3_takeRow_80 : decode cX3_takeRow 80 = .ok (.iload 4, 2) := by decide +kernel
theorem dX3_takeRow_82 : decode cX3_takeRow 82 = .ok (.ifCond .eq 9, 3) := by decide +kernel
theorem dX3_takeRow_85 : decode cX3_takeRow 85 = .ok (.iload 5, 2) := by decide +kernel
theorem dX3_takeRow_87 : decode cX3_takeRow 87 = .ok (.ineg, 1) := by decide +kernel
theorem dX3_takeRow_88 : decode cX3_takeRow 88 = .ok (.goto 5, 3) := by decide +kernel
theorem dX3_takeRow_91 : decode cX3_takeRow 91 = .ok (.iload 5, 2) := by decide +kernel
theorem dX3_takeRow_93 : decode cX3_takeRow 93 = .ok (.invokevirtual 43, 3) := by decide +kernel
theorem dX3_takeRow_96 : decode cX3_takeRow 96 = .ok (.ireturn, 1) := by decide +kernel
theorem dX3_take_0 : decode cX3_take 0 = .ok (.aload_n 0, 1) := by decide +kernel
theorem dX3_take_1 : decode cX3_take 1 = .ok (.getfield 24, 3) := by decide +kernel
theorem dX3_take_4 : decode cX3_take 4 = .ok (.aload_n 0, 1) := by decide +kernel
theorem dX3_take_5 : decode cX3_take 5 = .ok (.getfield 15, 3) := by decide +kernel
theorem dX3_take_8 : decode cX3_take 8 = .ok (.if_icmp .ge 28, 3) := by decide +kernel
theorem dX3_take_11 : decode cX3_take 11 = .ok (.aload_n 0, 1) := by decide +kernel
theorem dX3_take_12 : decode cX3_take 12 = .ok (.getfield 9, 3) := by decide +kernel
theorem dX3_take_15 : decode cX3_take 15 = .ok (.aload_n 0, 1) := by decide +kernel
theorem dX3_take_16 : decode cX3_take 16 = .ok (.getfield 24, 3) := by decide +kernel
theorem dX3_take_19 : decode cX3_take 19 = .ok (.caload, 1) := by decide +kernel
theorem dX3_take_20 : decode cX3_take 20 = .ok (.iload_n 1, 1) := by decide +kernel
theorem dX3_take_21 : decode cX3_take 21 = .ok (.if_icmp .ne 15, 3) := by decide +kernel
theorem dX3_take_24 : decode cX3_take 24 = .ok (.aload_n 0, 1) := by decide +kernel
theorem dX3_take_25 : decode cX3_take 25 = .ok (.dup, 1) := by decide +kernel
theorem dX3_take_26 : decode cX3_take 26 = .ok (.getfield 24, 3) := by decide +kernel
theorem dX3_take_29 : decode cX3_take 29 = .ok (.iconst 1, 1) := by decide +kernel
theorem dX3_take_30 : decode cX3_take 30 = .ok (.iadd, 1) := by decide +kernel
theorem dX3_take_31 : decode cX3_take 31 = .ok (.putfield 24, 3) := by decide +kernel
theorem dX3_take_34 : decode cX3_take 34 = .ok (.iconst 1, 1) := by decide +kernel
theorem dX3_take_35 : decode cX3_take 35 = .ok (.ireturn, 1) := by decide +kernel
theorem dX3_take_36 : decode cX3_take 36 = .ok (.iconst 0, 1) := by decide +kernel
theorem dX3_take_37 : decode cX3_take 37 = .ok (.ireturn, 1) := by decide +kernel
theorem dX3_takeDigit_0 : decode cX3_takeDigit 0 = .ok (.aload_n 0, 1) := by decide +kernel
theorem dX3_takeDigit_1 : decode cX3_takeDigit 1 = .ok (.getfield 24, 3) := by decide +kernel
theorem dX3_takeDigit_4 : decode cX3_takeDigit 4 = .ok (.aload_n 0, 1) := by decide +kernel
theorem dX3_takeDigit_5 : decode cX3_takeDigit 5 = .ok (.getfield 15, 3) := by decide +kernel
theorem dX3_takeDigit_8 : decode cX3_takeDigit 8 = .ok (.if_icmp .ge 30, 3) := by decide +kernel
theorem dX3_takeDigit_11 : decode cX3_takeDigit 11 = .ok (.aload_n 0, 1) := by decide +kernel
theorem dX3_takeDigit_12 : decode cX3_takeDigit 12 = .ok (.getfield 9, 3) := by decide +kernel
theorem dX3_takeDigit_15 : decode cX3_takeDigit 15 = .ok (.aload_n 0, 1) := by decide +kernel
theorem dX3_takeDigit_16 : decode cX3_takeDigit 16 = .ok (.getfield 24, 3) := by decide +kernel
theorem dX3_takeDigit_19 : decode cX3_takeDigit 19 = .ok (.caload, 1) := by decide +kernel
theorem dX3_takeDigit_20 : decode cX3_takeDigit 20 = .ok (.bipush 48, 2) := by decide +kernel
theorem dX3_takeDigit_22 : decode cX3_takeDigit 22 = .ok (.if_icmp .lt 16, 3) := by decide +kernel
theorem dX3_takeDigit_25 : decode cX3_takeDigit 25 = .ok (.aload_n 0, 1) := by decide +kernel
theorem dX3_takeDigit_26 : decode cX3_takeDigit 26 = .ok (.getfield 9, 3) := by decide +kernel
theorem dX3_takeDigit_29 : decode cX3_takeDigit 29 = .ok (.aload_n 0, 1) := by decide +kernel
theorem dX3_takeDigit_30 : decode cX3_takeDigit 30 = .ok (.getfield 24, 3) := by decide +kernel
theorem dX3_takeDigit_33 : decode cX3_takeDigit 33 = .ok (.caload, 1) := by decide +kernel
theorem dX3_takeDigit_34 : decode cX3_takeDigit 34 = .ok (.iload_n 1, 1) := by decide +kernel
theorem dX3_takeDigit_35 : decode cX3_takeDigit 35 = .ok (.if_icmp .le 5, 3) := by decide +kernel
theorem dX3_takeDigit_38 : decode cX3_takeDigit 38 = .ok (.iconst (-1), 1) := by decide +kernel
theorem dX3_takeDigit_39 : decode cX3_takeDigit 39 = .ok (.ireturn, 1) := by decide +kernel
theorem dX3_takeDigit_40 : decode cX3_takeDigit 40 = .ok (.aload_n 0, 1) := by decide +kernel
theorem dX3_takeDigit_41 : decode cX3_takeDigit 41 = .ok (.getfield 9, 3) := by decide +kernel
theorem dX3_takeDigit_44 : decode cX3_takeDigit 44 = .ok (.aload_n 0, 1) := by decide +kernel
theorem dX3_takeDigit_45 : decode cX3_takeDigit 45 = .ok (.getfield 24, 3) := by decide +kernel
theorem dX3_takeDigit_48 : decode cX3_takeDigit 48 = .ok (.caload, 1) := by decide +kernel
theorem dX3_takeDigit_49 : decode cX3_takeDigit 49 = .ok (.bipush 48, 2) := by decide +kernel
theorem dX3_takeDigit_51 : decode cX3_takeDigit 51 = .ok (.isub, 1) := by decide +kernel
theorem dX3_takeDigit_52 : decode cX3_takeDigit 52 = .ok (.istore_n 2, 1) := by decide +kernel
theorem dX3_takeDigit_53 : decode cX3_takeDigit 53 = .ok (.aload_n 0, 1) := by decide +kernel
theorem dX3_takeDigit_54 : decode cX3_takeDigit 54 = .ok (.dup, 1) := by decide +kernel
theorem dX3_takeDigit_55 : decode cX3_takeDigit 55 = .ok (.getfield 24, 3) := by decide +kernel
theorem dX3_takeDigit_58 : decode cX3_takeDigit 58 = .ok (.iconst 1, 1) := by decide +kernel
theorem dX3_takeDigit_59 : decode cX3_takeDigit 59 = .ok (.iadd, 1) := by decide +kernel
theorem dX3_takeDigit_60 : decode cX3_takeDigit 60 = .ok (.putfield 24, 3) := by decide +kernel
theorem dX3_takeDigit_63 : decode cX3_takeDigit 63 = .ok (.iload_n 2, 1) := by decide +kernel
theorem dX3_takeDigit_64 : decode cX3_takeDigit 64 = .ok (.ireturn, 1) := by decide +kernel
set_option maxRecDepth 20000 in
theorem ggX3_takeNumber_X3_takeDigit : GoodIn wsX3_takeNumber wsX3_takeDigit := goodIn_ca (goodIn_r _ [5, 6, 7, 8, 9, 10, 11] (by decide +kernel) (by decide +kernel)) (goodIn_sub (fun _ h => List.mem_cons_of_mem _ (List.mem_append_right _ h)) (by decide +kernel))
set_option maxRecDepth 20000 in
theorem gX3_takeNumber_X3_takeDigit : GoodIn wsX3_takeNumber (wsV RX3 35 RX3 yX3_takeDigit wsX3_takeDigit) := goodIn_app (goodIn_of _ (by decide +kernel)) ggX3_takeNumber_X3_takeDigit
theorem dX3_takeNumber_0 : decode cX3_takeNumber 0 = .ok (.aload_n 0, 1) := by decide +kernel
theorem dX3_takeNumber_1 : decode cX3_takeNumber 1 = .ok (.bipush 57, 2) := by decide +kernel
theorem dX3_takeNumber_3 : decode cX3_takeNumber 3 = .ok (.invokevirtual 35, 3) := by decide +kernel
theorem dX3_takeNumber_6 : decode cX3_takeNumber 6 = .ok (.istore_n 1, 1) := by decide +kernel
theorem dX3_takeNumber_7 : decode cX3_takeNumber 7 = .ok (.iload_n 1, 1) := by decide +kernel
theorem dX3_takeNumber_8 : decode cX3_takeNumber 8 = .ok (.iconst (-1), 1) := by decide +kernel
theorem dX3_takeNumber_9 : decode cX3_takeNumber 9 = .ok (.if_icmp .ne 5, 3) := by decide +kernel
theorem dX3_takeNumber_12 : decode cX3_takeNumber 12 = .ok (.iconst (-1), 1) := by decide +kernel
theorem dX3_takeNumber_13 : decode cX3_takeNumber 13 = .ok (.ireturn, 1) := by decide +kernel
theorem dX3_takeNumber_14 : decode cX3_takeNumber 14 = .ok (.iconst 1, 1) := by decide +kernel
theorem dX3_takeNumber_15 : decode cX3_takeNumber 15 = .ok (.istore_n 2, 1) := by decide +kernel
theorem dX3_takeNumber_16 : decode cX3_takeNumber 16 = .ok (.iload_n 2, 1) := by decide +kernel
theorem dX3_takeNumber_17 : decode cX3_takeNumber 17 = .ok (.iconst 3, 1) := by decide +kernel
theorem dX3_takeNumber_18 : decode cX3_takeNumber 18 = .ok (.if_icmp .ge 30, 3) := by decide +kernel
theorem dX3_takeNumber_21 : decode cX3_takeNumber 21 = .ok (.aload_n 0, 1) := by decide +kernel
theorem dX3_takeNumber_22 : decode cX3_takeNumber 22 = .ok (.bipush 57, 2) := by decide +kernel
theorem dX3_takeNumber_24 : decode cX3_takeNumber 24 = .ok (.invokevirtual 35, 3) := by decide +kernel
theorem dX3_takeNumber_27 : decode cX3_takeNumber 27 = .ok (.istore_n 3, 1) := by decide +kernel
theorem dX3_takeNumber_28 : decode cX3_takeNumber 28 = .ok (.iload_n 3, 1) := by decide +kernel
theorem dX3_takeNumber_29 : decode cX3_takeNumber 29 = .ok (.iconst (-1), 1) := by decide +kernel
theorem dX3_takeNumber_30 : decode cX3_takeNumber 30 = .ok (.if_icmp .ne 5, 3) := by decide +kernel
theorem dX3_takeNumber_33 : decode cX3_takeNumber 33 = .ok (.iload_n 1, 1) := by decide +kernel
theorem dX3_takeNumber_34 : decode cX3_takeNumber 34 = .ok (.ireturn, 1) := by decide +kernel
theorem dX3_takeNumber_35 : decode cX3_takeNumber 35 = .ok (.iload_n 1, 1) := by decide +kernel
theorem dX3_takeNumber_36 : decode cX3_takeNumber 36 = .ok (.bipush 10, 2) := by decide +kernel
theorem dX3_takeNumber_38 : decode cX3_takeNumber 38 = .ok (.imul, 1) := by decide +kernel
theorem dX3_takeNumber_39 : decode cX3_takeNumber 39 = .ok (.iload_n 3, 1) := by decide +kernel
theorem dX3_takeNumber_40 : decode cX3_takeNumber 40 = .ok (.iadd, 1) := by decide +kernel
theorem dX3_takeNumber_41 : decode cX3_takeNumber 41 = .ok (.istore_n 1, 1) := by decide +kernel
theorem dX3_takeNumber_42 : decode cX3_takeNumber 42 = .ok (.iinc 2 1, 3) := by decide +kernel
theorem dX3_takeNumber_45 : decode cX3_takeNumber 45 = .ok (.goto (-29), 3) := by decide +kernel
theorem dX3_takeNumber_48 : decode cX3_takeNumber 48 = .ok (.iload_n 1, 1) := by decide +kernel
theorem dX3_takeNumber_49 : decode cX3_takeNumber 49 = .ok (.ireturn, 1) := by decide +kernel
theorem dX4_init_0 : decode cX4_init 0 = .ok (.aload_n 0, 1) := by decide +kernel
theorem dX4_init_1 : decode cX4_init 1 = .ok (.invokespecial 3, 3) := by decide +kernel
theorem dX4_init_4 : decode cX4_init 4 = .ok (.aload_n 0, 1) := by decide +kernel
theorem dX4_init_5 : decode cX4_init 5 = .ok (.bipush 60, 2) := by decide +kernel
theorem dX4_init_7 : decode cX4_init 7 = .ok (.newarray .int, 2) := by decide +kernel
theorem dX4_init_9 : decode cX4_init 9 = .ok (.putfield 9, 3) := by decide +kernel
theorem dX4_init_12 : decode cX4_init 12 = .ok (.aload_n 0, 1) := by decide +kernel
theorem dX4_init_13 : decode cX4_init 13 = .ok (.bipush 60, 2) := by decide +kernel
theorem dX4_init_15 : decode cX4_init 15 = .ok (.newarray .int, 2) := by decide +kernel
theorem dX4_init_17 : decode cX4_init 17 = .ok (.putfield 15, 3) := by decide +kernel
theorem dX4_init_20 : decode cX4_init 20 = .ok (.aload_n 0, 1) := by decide +kernel
theorem dX4_init_21 : decode cX4_init 21 = .ok (.bipush 60, 2) := by decide +kernel
theorem dX4_init_23 : decode cX4_init 23 = .ok (.newarray .int, 2) := by decide +kernel
theorem dX4_init_25 : decode cX4_init 25 = .ok (.putfield 18, 3) := by decide +kernel
theorem dX4_init_28 : decode cX4_init 28 = .ok (.aload_n 0, 1) := by decide +kernel
theorem dX4_init_29 : decode cX4_init 29 = .ok (.bipush 60, 2) := by decide +kernel
theorem dX4_init_31 : decode cX4_init 31 = .ok (.newarray .int, 2) := by decide +kernel
theorem dX4_init_33 : decode cX4_init 33 = .ok (.putfield 21, 3) := by decide +kernel
theorem dX4_init_36 : decode cX4_init 36 = .ok (.aload_n 0, 1) := by decide +kernel
theorem dX4_init_37 : decode cX4_init 37 = .ok (.bipush 60, 2) := by decide +kernel
theorem dX4_init_39 : decode cX4_init 39 = .ok (.newarray .boolean, 2) := by decide +kernel
theorem dX4_init_41 : decode cX4_init 41 = .ok (.putfield 24, 3) := by decide +kernel
theorem dX4_init_44 : decode cX4_init 44 = .ok (.aload_n 0, 1) := by decide +kernel
theorem dX4_init_45 : decode cX4_init 45 = .ok (.bipush 60, 2) := by decide +kernel
theorem dX4_init_47 : decode cX4_init 47 = .ok (.newarray .boolean, 2) := by decide +kernel
theorem dX4_init_49 : decode cX4_init 49 = .ok (.putfield 28, 3) := by decide +kernel
theorem dX4_init_52 : decode cX4_init 52 = .ok (.return_, 1) := by decide +kernel
theorem dX4_has_0 : decode cX4_has 0 = .ok (.iload_n 1, 1) := by decide +kernel
theorem dX4_has_1 : decode cX4_has 1 = .ok (.ifCond .lt 24, 3) := by decide +kernel
theorem dX4_has_4 : decode cX4_has 4 = .ok (.iload_n 1, 1) := by decide +kernel
theorem dX4_has_5 : decode cX4_has 5 = .ok (.aload_n 0, 1) := by decide +kernel
theorem dX4_has_6 : decode cX4_has 6 = .ok (.getfield 31, 3) := by decide +kernel
theorem dX4_has_9 : decode cX4_has 9 = .ok (.if_icmp .ge 16, 3) := by decide +kernel
theorem dX4_has_12 : decode cX4_has 12 = .ok (.aload_n 0, 1) := by decide +kernel
theorem dX4_has_13 : decode cX4_has 13 = .ok (.getfield 28, 3) := by decide +kernel
theorem dX4_has_16 : decode cX4_has 16 = .ok (.iload_n 1, 1) := by decide +kernel
theorem dX4_has_17 : decode cX4_has 17 = .ok (.baload, 1) := by decide +kernel
theorem dX4_has_18 : decode cX4_has 18 = .ok (.ifCond .ne 7, 3) := by decide +kernel
theorem dX4_has_21 : decode cX4_has 21 = .ok (.iconst 1, 1) := by decide +kernel
theorem dX4_has_22 : decode cX4_has 22 = .ok (.goto 4, 3) := by decide +kernel
theorem dX4_has_25 : decode cX4_has 25 = .ok (.iconst 0, 1) := by decide +kernel
theorem dX4_has_26 : decode cX4_has 26 = .ok (.ireturn, 1) := by decide +kernel
set_option maxRecDepth 20000 in
theorem ggX4_isOf_X4_has : GoodIn wsX4_isOf wsX4_has := goodIn_ca (goodIn_r _ [6, 7, 8, 9, 10, 11, 12, 13, 14, 15] (by decide +kernel) (by decide +kernel)) (goodIn_sub (fun _ h => List.mem_cons_of_mem _ (List.mem_append_right _ h)) (by decide +kernel))
set_option maxRecDepth 20000 in
theorem gX4_isOf_X4_has : GoodIn wsX4_isOf (wsV RX4 35 RX4 yX4_has wsX4_has) := goodIn_app (goodIn_of _ (by decide +kernel)) ggX4_isOf_X4_has
theorem dX4_isOf_0 : decode cX4_isOf 0 = .ok (.aload_n 0, 1) := by decide +kernel
theorem dX4_isOf_1 : decode cX4_isOf 1 = .ok (.iload_n 1, 1) := by decide +kernel
theorem dX4_isOf_2 : decode cX4_isOf 2 = .ok (.invokevirtual 35, 3) := by decide +kernel
theorem dX4_isOf_5 : decode cX4_isOf 5 = .ok (.ifCond .eq 17, 3) := by decide +kernel
theorem dX4_isOf_8 : decode cX4_isOf 8 = .ok (.aload_n 0, 1) := by decide +kernel
theorem dX4_isOf_9 : decode cX4_isOf 9 = .ok (.getfield 9, 3) := by decide +kernel
theorem dX4_isOf_12 : decode cX4_isOf 12 = .ok (.iload_n 1, 1) := by decide +kernel
theorem dX4_isOf_13 : decode cX4_isOf 13 = .ok (.iaload, 1) := by decide +kernel
theorem dX4_isOf_14 : decode cX4_isOf 14 = .ok (.iload_n 2, 1) := by decide +kernel
theorem dX4_isOf_15 : decode cX4_isOf 15 = .ok (.if_icmp .ne 7, 3) := by decide +kernel
theorem dX4_isOf_18 : decode cX4_isOf 18 = .ok (.iconst 1, 1) := by decide +kernel
theorem dX4_isOf_19 : decode cX4_isOf 19 = .ok (.goto 4, 3) := by decide +kernel
theorem dX4_isOf_22 : decode cX4_isOf 22 = .ok (.iconst 0, 1) := by decide +kernel
theorem dX4_isOf_23 : decode cX4_isOf 23 = .ok (.ireturn, 1) := by decide +kernel
set_option maxRecDepth 20000 in
theorem ggX4_valueOf_X4_has : GoodIn wsX4_valueOf wsX4_has := goodIn_ca (goodIn_r _ [6, 7, 8, 9, 10, 11, 12, 13, 14, 15] (by decide +kernel) (by decide +kernel)) (goodIn_sub (fun _ h => List.mem_cons_of_mem _ (List.mem_append_right _ h)) (by decide +kernel))
set_option maxRecDepth 20000 in
theorem gX4_valueOf_X4_has : GoodIn wsX4_valueOf (wsV RX4 35 RX4 yX4_has wsX4_has) := goodIn_app (goodIn_of _ (by decide +kernel)) ggX4_valueOf_X4_has
theorem dX4_valueOf_0 : decode cX4_valueOf 0 = .ok (.aload_n 0, 1) := by decide +kernel
theorem dX4_valueOf_1 : decode cX4_valueOf 1 = .ok (.iload_n 1, 1) := by decide +kernel
theorem dX4_valueOf_2 : decode cX4_valueOf 2 = .ok (.invokevirtual 35, 3) := by decide +kernel
theorem dX4_valueOf_5 : decode cX4_valueOf 5 = .ok (.ifCond .eq 12, 3) := by decide +kernel
theorem dX4_valueOf_8 : decode cX4_valueOf 8 = .ok (.aload_n 0, 1) := by decide +kernel
theorem dX4_valueOf_9 : decode cX4_valueOf 9 = .ok (.getfield 21, 3) := by decide +kernel
theorem dX4_valueOf_12 : decode cX4_valueOf 12 = .ok (.iload_n 1, 1) := by decide +kernel
theorem dX4_valueOf_13 : decode cX4_valueOf 13 = .ok (.iaload, 1) := by decide +kernel
theorem dX4_valueOf_14 : decode cX4_valueOf 14 = .ok (.goto 4, 3) := by decide +kernel
theorem dX4_valueOf_17 : decode cX4_valueOf 17 = .ok (.iconst 0, 1) := by decide +kernel
theorem dX4_valueOf_18 : decode cX4_valueOf 18 = .ok (.ireturn, 1) := by decide +kernel
set_option maxRecDepth 20000 in
theorem ggX4_days_X4_has : GoodIn wsX4_days wsX4_has := goodIn_ca (goodIn_r _ [7, 8, 9, 10, 11, 12, 13, 14, 15, 16] (by decide +kernel) (by decide +kernel)) (goodIn_sub (fun _ h => List.mem_cons_of_mem _ (List.mem_append_right _ h)) (by decide +kernel))
set_option maxRecDepth 20000 in
theorem gX4_days_X4_has : GoodIn wsX4_days (wsV RX4 35 RX4 yX4_has wsX4_has) := goodIn_app (goodIn_of _ (by decide +kernel)) ggX4_days_X4_has
theorem dX4_days_0 : decode cX4_days 0 = .ok (.aload_n 0, 1) := by decide +kernel
theorem dX4_days_1 : decode cX4_days 1 = .ok (.iload_n 1, 1) := by decide +kernel
theorem dX4_days_2 : decode cX4_days 2 = .ok (.invokevirtual 35, 3) := by decide +kernel
theorem dX4_days_5 : decode cX4_days 5 = .ok (.ifCond .eq 19, 3) := by decide +kernel
theorem dX4_days_8 : decode cX4_days 8 = .ok (.aload_n 0, 1) := by decide +kernel
theorem dX4_days_9 : decode cX4_days 9 = .ok (.getfield 18, 3) := by decide +kernel
theorem dX4_days_12 : decode cX4_days 12 = .ok (.iload_n 1, 1) := by decide +kernel
theorem dX4_days_13 : decode cX4_days 13 = .ok (.iaload, 1) := by decide +kernel
theorem dX4_days_14 : decode cX4_days 14 = .ok (.aload_n 0, 1) := by decide +kernel
theorem dX4_days_15 : decode cX4_days 15 = .ok (.getfield 15, 3) := by decide +kernel
theorem dX4_days_18 : decode cX4_days 18 = .ok (.iload_n 1, 1) := by decide +kernel
theorem dX4_days_19 : decode cX4_days 19 = .ok (.iaload, 1) := by decide +kernel
theorem dX4_days_20 : decode cX4_days 20 = .ok (.isub, 1) := by decide +kernel
theorem dX4_days_21 : decode cX4_days 21 = .ok (.goto 4, 3) := by decide +kernel
theorem dX4_days_24 : decode cX4_days 24 = .ok (.iconst 0, 1) := by decide +kernel
theorem dX4_days_25 : decode cX4_days 25 = .ok (.ireturn, 1) := by decide +kernel
set_option maxRecDepth 20000 in
theorem ggX4_onDay_X4_isOf : GoodIn wsX4_onDay wsX4_isOf := goodIn_ca (goodIn_r _ [8, 9, 10, 11, 12, 7, 13, 1, 14, 15, 16, 17, 18, 19, 20, 21] (by decide +kernel) (by decide +kernel)) (goodIn_sub (fun _ h => List.mem_cons_of_mem _ (List.mem_append_right _ h)) (by decide +kernel))
set_option maxRecDepth 20000 in
theorem gX4_onDay_X4_isOf : GoodIn wsX4_onDay (wsV RX4 39 RX4 yX4_isOf wsX4_isOf) := goodIn_app (goodIn_of _ (by decide +kernel)) ggX4_onDay_X4_isOf
theorem dX4_onDay_0 : decode cX4_onDay 0 = .ok (.iconst 0, 1) := by decide +kernel
theorem dX4_onDay_1 : decode cX4_onDay 1 = .ok (.istore_n 3, 1) := by decide +kernel
theorem dX4_onDay_2 : decode cX4_onDay 2 = .ok (.iload_n 3, 1) := by decide +kernel
theorem dX4_onDay_3 : decode cX4_onDay 3 = .ok (.aload_n 0, 1) := by decide +kernel
theorem dX4_onDay_4 : decode cX4_onDay 4 = .ok (.getfield 31, 3) := by decide +kernel
theorem dX4_onDay_7 : decode cX4_onDay 7 = .ok (.if_icmp .ge 40, 3) := by decide +kernel
theorem dX4_onDay_10 : decode cX4_onDay 10 = .ok (.aload_n 0, 1) := by decide +kernel
theorem dX4_onDay_11 : decode cX4_onDay 11 = .ok (.iload_n 3, 1) := by decide +kernel
theorem dX4_onDay_12 : decode cX4_onDay 12 = .ok (.iload_n 1, 1) := by decide +kernel
theorem dX4_onDay_13 : decode cX4_onDay 13 = .ok (.invokevirtual 39, 3) := by decide +kernel
theorem dX4_onDay_16 : decode cX4_onDay 16 = .ok (.ifCond .eq 25, 3) := by decide +kernel
theorem dX4_onDay_19 : decode cX4_onDay 19 = .ok (.aload_n 0, 1) := by decide +kernel
theorem dX4_onDay_20 : decode cX4_onDay 20 = .ok (.getfield 15, 3) := by decide +kernel
theorem dX4_onDay_23 : decode cX4_onDay 23 = .ok (.iload_n 3, 1) := by decide +kernel
theorem dX4_onDay_24 : decode cX4_onDay 24 = .ok (.iaload, 1) := by decide +kernel
theorem dX4_onDay_25 : decode cX4_onDay 25 = .ok (.iload_n 2, 1) := by decide +kernel
theorem dX4_onDay_26 : decode cX4_onDay 26 = .ok (.if_icmp .gt 15, 3) := by decide +kernel
theorem dX4_onDay_29 : decode cX4_onDay 29 = .ok (.iload_n 2, 1) := by decide +kernel
theorem dX4_onDay_30 : decode cX4_onDay 30 = .ok (.aload_n 0, 1) := by decide +kernel
theorem dX4_onDay_31 : decode cX4_onDay 31 = .ok (.getfield 18, 3) := by decide +kernel
theorem dX4_onDay_34 : decode cX4_onDay 34 = .ok (.iload_n 3, 1) := by decide +kernel
theorem dX4_onDay_35 : decode cX4_onDay 35 = .ok (.iaload, 1) := by decide +kernel
theorem dX4_onDay_36 : decode cX4_onDay 36 = .ok (.if_icmp .ge 5, 3) := by decide +kernel
theorem dX4_onDay_39 : decode cX4_onDay 39 = .ok (.iload_n 3, 1) := by decide +kernel
theorem dX4_onDay_40 : decode cX4_onDay 40 = .ok (.ireturn, 1) := by decide +kernel
theorem dX4_onDay_41 : decode cX4_onDay 41 = .ok (.iinc 3 1, 3) := by decide +kernel
theorem dX4_onDay_44 : decode cX4_onDay 44 = .ok (.goto (-42), 3) := by decide +kernel
theorem dX4_onDay_47 : decode cX4_onDay 47 = .ok (.iconst (-1), 1) := by decide +kernel
theorem dX4_onDay_48 : decode cX4_onDay 48 = .ok (.ireturn, 1) := by decide +kernel
set_option maxRecDepth 20000 in
theorem ggX4_next_X4_isOf : GoodIn wsX4_next wsX4_isOf := goodIn_ca (goodIn_r _ [7, 8, 9, 10, 11, 6, 12, 1, 13, 14, 15, 16, 17, 18, 19, 20] (by decide +kernel) (by decide +kernel)) (goodIn_sub (fun _ h => List.mem_cons_of_mem _ (List.mem_append_right _ h)) (by decide +kernel))
set_option maxRecDepth 20000 in
theorem gX4_next_X4_isOf : GoodIn wsX4_next (wsV RX4 39 RX4 yX4_isOf wsX4_isOf) := goodIn_app (goodIn_of _ (by decide +kernel)) ggX4_next_X4_isOf
theorem dX4_next_0 : decode cX4_next 0 = .ok (.iconst (-1), 1) := by decide +kernel
theorem dX4_next_1 : decode cX4_next 1 = .ok (.istore_n 3, 1) := by decide +kernel
theorem dX4_next_2 : decode cX4_next 2 = .ok (.iconst 0, 1) := by decide +kernel
theorem dX4_next_3 : decode cX4_next 3 = .ok (.istore 4, 2) := by decide +kernel
theorem dX4_next_5 : decode cX4_next 5 = .ok (.iload 4, 2) := by decide +kernel
theorem dX4_next_7 : decode cX4_next 7 = .ok (.aload_n 0, 1) := by decide +kernel
theorem dX4_next_8 : decode cX4_next 8 = .ok (.getfield 31, 3) := by decide +kernel
theorem dX4_next_11 : decode cX4_next 11 = .ok (.if_icmp .ge 54, 3) := by decide +kernel
theorem dX4_next_14 : decode cX4_next 14 = .ok (.aload_n 0, 1) := by decide +kernel
theorem dX4_next_15 : decode cX4_next 15 = .ok (.iload 4, 2) := by decide +kernel
theorem dX4_next_17 : decode cX4_next 17 = .ok (.iload_n 1, 1) := by decide +kernel
theorem dX4_next_18 : decode cX4_next 18 = .ok (.invokevirtual 39, 3) := by decide +kernel
theorem dX4_next_21 : decode cX4_next 21 = .ok (.ifCond .eq 38, 3) := by decide +kernel
theorem dX4_next_24 : decode cX4_next 24 = .ok (.aload_n 0, 1) := by decide +kernel
theorem dX4_next_25 : decode cX4_next 25 = .ok (.getfield 15, 3) := by decide +kernel
theorem dX4_next_28 : decode cX4_next 28 = .ok (.iload 4, 2) := by decide +kernel
theorem dX4_next_30 : decode cX4_next 30 = .ok (.iaload, 1) := by decide +kernel
theorem dX4_next_31 : decode cX4_next 31 = .ok (.iload_n 2, 1) := by decide +kernel
theorem dX4_next_32 : decode cX4_next 32 = .ok (.if_icmp .le 27, 3) := by decide +kernel
theorem dX4_next_35 : decode cX4_next 35 = .ok (.iload_n 3, 1) := by decide +kernel
theorem dX4_next_36 : decode cX4_next 36 = .ok (.iconst (-1), 1) := by decide +kernel
theorem dX4_next_37 : decode cX4_next 37 = .ok (.if_icmp .eq 19, 3) := by decide +kernel
theorem dX4_next_40 : decode cX4_next 40 = .ok (.aload_n 0, 1) := by decide +kernel
theorem dX4_next_41 : decode cX4_next 41 = .ok (.getfield 15, 3) := by decide +kernel
theorem dX4_next_44 : decode cX4_next 44 = .ok (.iload 4, 2) := by decide +kernel
theorem dX4_next_46 : decode cX4_next 46 = .ok (.iaload, 1) := by decide +kernel
theorem dX4_next_47 : decode cX4_next 47 = .ok (.aload_n 0, 1) := by decide +kernel
theorem dX4_next_48 : decode cX4_next 48 = .ok (.getfield 15, 3) := by decide +kernel
theorem dX4_next_51 : decode cX4_next 51 = .ok (.iload_n 3, 1) := by decide +kernel
theorem dX4_next_52 : decode cX4_next 52 = .ok (.iaload, 1) := by decide +kernel
theorem dX4_next_53 : decode cX4_next 53 = .ok (.if_icmp .ge 6, 3) := by decide +kernel
theorem dX4_next_56 : decode cX4_next 56 = .ok (.iload 4, 2) := by decide +kernel
theorem dX4_next_58 : decode cX4_next 58 = .ok (.istore_n 3, 1) := by decide +kernel
theorem dX4_next_59 : decode cX4_next 59 = .ok (.iinc 4 1, 3) := by decide +kernel
theorem dX4_next_62 : decode cX4_next 62 = .ok (.goto (-57), 3) := by decide +kernel
theorem dX4_next_65 : decode cX4_next 65 = .ok (.iload_n 3, 1) := by decide +kernel
theorem dX4_next_66 : decode cX4_next 66 = .ok (.ireturn, 1) := by decide +kernel
set_option maxRecDepth 20000 in
theorem ggX4_nextFirst_X4_next : GoodIn wsX4_nextFirst wsX4_next := goodIn_ca (goodIn_r _ [6, 7, 1, 8, 9, 10, 5, 11, 12, 13, 14, 15, 16, 17, 18, 19, 20, 21, 22, 23, 24] (by decide +kernel) (by decide +kernel)) (goodIn_sub (fun _ h => List.mem_cons_of_mem _ (List.mem_append_right _ h)) (by decide +kernel))
set_option maxRecDepth 20000 in
theorem gX4_nextFirst_X4_next : GoodIn wsX4_nextFirst (wsV RX4 43 RX4 yX4_next wsX4_next) := goodIn_app (goodIn_of _ (by decide +kernel)) ggX4_nextFirst_X4_next
theorem dX4_nextFirst_0 : decode cX4_nextFirst 0 = .ok (.aload_n 0, 1) := by decide +kernel
theorem dX4_nextFirst_1 : decode cX4_nextFirst 1 = .ok (.iload_n 1, 1) := by decide +kernel
theorem dX4_nextFirst_2 : decode cX4_nextFirst 2 = .ok (.iload_n 2, 1) := by decide +kernel
theorem dX4_nextFirst_3 : decode cX4_nextFirst 3 = .ok (.invokevirtual 43, 3) := by decide +kernel
theorem dX4_nextFirst_6 : decode cX4_nextFirst 6 = .ok (.istore_n 3, 1) := by decide +kernel
theorem dX4_nextFirst_7 : decode cX4_nextFirst 7 = .ok (.iload_n 3, 1) := by decide +kernel
theorem dX4_nextFirst_8 : decode cX4_nextFirst 8 = .ok (.iconst (-1), 1) := by decide +kernel
theorem dX4_nextFirst_9 : decode cX4_nextFirst 9 = .ok (.if_icmp .ne 9, 3) := by decide +kernel
theorem dX4_nextFirst_12 : decode cX4_nextFirst 12 = .ok (.sipush 1000, 3) := by decide +kernel
theorem dX4_nextFirst_15 : decode cX4_nextFirst 15 = .ok (.goto 9, 3) := by decide +kernel
theorem dX4_nextFirst_18 : decode cX4_nextFirst 18 = .ok (.aload_n 0, 1) := by decide +kernel
theorem dX4_nextFirst_19 : decode cX4_nextFirst 19 = .ok (.getfield 15, 3) := by decide +kernel
theorem dX4_nextFirst_22 : decode cX4_nextFirst 22 = .ok (.iload_n 3, 1) := by decide +kernel
theorem dX4_nextFirst_23 : decode cX4_nextFirst 23 = .ok (.iaload, 1) := by decide +kernel
theorem dX4_nextFirst_24 : decode cX4_nextFirst 24 = .ok (.ireturn, 1) := by decide +kernel
set_option maxRecDepth 20000 in
theorem ggX4_put_X4_onDay : GoodIn wsX4_put wsX4_onDay := goodIn_ca (goodIn_r _ [8, 9, 1, 10, 11, 12, 13, 7, 14, 15, 16, 17, 18, 19, 20, 41, 42, 43, 44, 45, 46, 47] (by decide +kernel) (by decide +kernel)) (goodIn_sub (fun _ h => List.mem_cons_of_mem _ (List.mem_append_right _ h)) (by decide +kernel))
set_option maxRecDepth 20000 in
theorem gX4_put_X4_onDay : GoodIn wsX4_put (wsV RX4 47 RX4 yX4_onDay wsX4_onDay) := goodIn_app (goodIn_of _ (by decide +kernel)) ggX4_put_X4_onDay
set_option maxRecDepth 20000 in
theorem ggX4_put_X4_cover : GoodIn wsX4_put wsX4_cover := goodIn_ca (goodIn_r _ [24, 2, 1, 4, 5, 6, 7, 8, 9, 10, 11, 12, 13, 14, 15, 16, 17, 18, 19, 20, 25, 26, 27, 28, 29, 30, 31, 32, 3, 41, 42, 43, 44, 45, 46, 47] (by decide +kernel) (by decide +kernel)) (goodIn_sub (fun _ h => List.mem_cons_of_mem _ (List.mem_append_right _ h)) (by decide +kernel))
set_option maxRecDepth 20000 in
theorem gX4_put_X4_cover : GoodIn wsX4_put (wsV RX4 50 RX4 yX4_cover wsX4_cover) := goodIn_app (goodIn_of _ (by decide +kernel)) ggX4_put_X4_cover
set_option maxRecDepth 20000 in
theorem ggX4_put_X4_split : GoodIn wsX4_put wsX4_split := goodIn_ca (goodIn_r _ [36, 15, 10, 29, 30, 31, 7, 32, 9, 1, 3, 2, 20, 41, 42, 43, 44, 45, 46, 47] (by decide +kernel) (by decide +kernel)) (goodIn_sub (fun _ h => List.mem_cons_of_mem _ (List.mem_append_right _ h)) (by decide +kernel))
set_option maxRecDepth 20000 in
theorem gX4_put_X4_split : GoodIn wsX4_put (wsV RX4 53 RX4 yX4_split wsX4_split) := goodIn_app (goodIn_of _ (by decide +kernel)) ggX4_put_X4_split
set_option maxRecDepth 20000 in
theorem ggX4_put_X4_settle : GoodIn wsX4_put wsX4_settle := goodIn_ca (goodIn_r _ [40, 3, 2, 16, 17, 18, 7, 19, 9, 20, 41, 42, 43, 44, 45, 46, 47] (by decide +kernel) (by decide +kernel)) (goodIn_sub (fun _ h => List.mem_cons_of_mem _ (List.mem_append_right _ h)) (by decide +kernel))
set_option maxRecDepth 20000 in
theorem gX4_put_X4_settle : GoodIn wsX4_put (wsV RX4 56 RX4 yX4_settle wsX4_settle) := goodIn_app (goodIn_of _ (by decide +kernel)) ggX4_put_X4_settle
theorem dX4_put_0 : decode cX4_put 0 = .ok (.aload_n 0, 1) := by decide +kernel
theorem dX4_put_1 : decode cX4_put 1 = .ok (.iload_n 1, 1) := by decide +kernel
theorem dX4_put_2 : decode cX4_put 2 = .ok (.iload_n 2, 1) := by decide +kernel
theorem dX4_put_3 : decode cX4_put 3 = .ok (.invokevirtual 47, 3) := by decide +kernel
theorem dX4_put_6 : decode cX4_put 6 = .ok (.istore 4, 2) := by decide +kernel
theorem dX4_put_8 : decode cX4_put 8 = .ok (.iload 4, 2) := by decide +kernel
theorem dX4_put_10 : decode cX4_put 10 = .ok (.iconst (-1), 1) := by decide +kernel
theorem dX4_put_11 : decode cX4_put 11 = .ok (.if_icmp .ne 14, 3) := by decide +kernel
theorem dX4_put_14 : decode cX4_put 14 = .ok (.aload_n 0, 1) := by decide +kernel
theorem dX4_put_15 : decode cX4_put 15 = .ok (.iload_n 1, 1) := by decide +kernel
theorem dX4_put_16 : decode cX4_put 16 = .ok (.iload_n 2, 1) := by decide +kernel
theorem dX4_put_17 : decode cX4_put 17 = .ok (.invokevirtual 50, 3) := by decide +kernel
theorem dX4_put_20 : decode cX4_put 20 = .ok (.istore 4, 2) := by decide +kernel
theorem dX4_put_22 : decode cX4_put 22 = .ok (.goto 47, 3) := by decide +kernel
theorem dX4_put_25 : decode cX4_put 25 = .ok (.aload_n 0, 1) := by decide +kernel
theorem dX4_put_26 : decode cX4_put 26 = .ok (.getfield 15, 3) := by decide +kernel
theorem dX4_put_29 : decode cX4_put 29 = .ok (.iload 4, 2) := by decide +kernel
theorem dX4_put_31 : decode cX4_put 31 = .ok (.iaload, 1) := by decide +kernel
theorem dX4_put_32 : decode cX4_put 32 = .ok (.iload_n 2, 1) := by decide +kernel
theorem dX4_put_33 : decode cX4_put 33 = .ok (.if_icmp .ge 36, 3) := by decide +kernel
theorem dX4_put_36 : decode cX4_put 36 = .ok (.aload_n 0, 1) := by decide +kernel
theorem dX4_put_37 : decode cX4_put 37 = .ok (.getfield 24, 3) := by decide +kernel
theorem dX4_put_40 : decode cX4_put 40 = .ok (.iload 4, 2) := by decide +kernel
theorem dX4_put_42 : decode cX4_put 42 = .ok (.baload, 1) := by decide +kernel
theorem dX4_put_43 : decode cX4_put 43 = .ok (.ifCond .ne 17, 3) := by decide +kernel
theorem dX4_put_46 : decode cX4_put 46 = .ok (.aload_n 0, 1) := by decide +kernel
theorem dX4_put_47 : decode cX4_put 47 = .ok (.getfield 21, 3) := by decide +kernel
theorem dX4_put_50 : decode cX4_put 50 = .ok (.iload 4, 2) := by decide +kernel
theorem dX4_put_52 : decode cX4_put 52 = .ok (.iaload, 1) := by decide +kernel
theorem dX4_put_53 : decode cX4_put 53 = .ok (.iload_n 3, 1) := by decide +kernel
theorem dX4_put_54 : decode cX4_put 54 = .ok (.if_icmp .ne 6, 3) := by decide +kernel
theorem dX4_put_57 : decode cX4_put 57 = .ok (.iload 4, 2) := by decide +kernel
theorem dX4_put_59 : decode cX4_put 59 = .ok (.ireturn, 1) := by decide +kernel
theorem dX4_put_60 : decode cX4_put 60 = .ok (.aload_n 0, 1) := by decide +kernel
theorem dX4_put_61 : decode cX4_put 61 = .ok (.iload 4, 2) := by decide +kernel
theorem dX4_put_63 : decode cX4_put 63 = .ok (.iload_n 2, 1) := by decide +kernel
theorem dX4_put_64 : decode cX4_put 64 = .ok (.invokevirtual 53, 3) := by decide +kernel
theorem dX4_put_67 : decode cX4_put 67 = .ok (.istore 4, 2) := by decide +kernel
theorem dX4_put_69 : decode cX4_put 69 = .ok (.iload 4, 2) := by decide +kernel
theorem dX4_put_71 : decode cX4_put 71 = .ok (.iconst (-1), 1) := by decide +kernel
theorem dX4_put_72 : decode cX4_put 72 = .ok (.if_icmp .eq 10, 3) := by decide +kernel
theorem dX4_put_75 : decode cX4_put 75 = .ok (.aload_n 0, 1) := by decide +kernel
theorem dX4_put_76 : decode cX4_put 76 = .ok (.iload 4, 2) := by decide +kernel
theorem dX4_put_78 : decode cX4_put 78 = .ok (.iload_n 3, 1) := by decide +kernel
theorem dX4_put_79 : decode cX4_put 79 = .ok (.invokevirtual 56, 3) := by decide +kernel
theorem dX4_put_82 : decode cX4_put 82 = .ok (.iload 4, 2) := by decide +kernel
theorem dX4_put_84 : decode cX4_put 84 = .ok (.ireturn, 1) := by decide +kernel
set_option maxRecDepth 20000 in
theorem ggX4_cover_X4_onDay : GoodIn wsX4_cover wsX4_onDay := goodIn_ca (goodIn_r _ [7, 8, 2, 9, 10, 11, 12, 6, 13, 14, 15, 16, 17, 18, 19, 29, 30, 31, 32, 33, 34, 35] (by decide +kernel) (by decide +kernel)) (goodIn_sub (fun _ h => List.mem_cons_of_mem _ (List.mem_append_right _ h)) (by decide +kernel))
set_option maxRecDepth 20000 in
theorem gX4_cover_X4_onDay : GoodIn wsX4_cover (wsV RX4 47 RX4 yX4_onDay wsX4_onDay) := goodIn_app (goodIn_of _ (by decide +kernel)) ggX4_cover_X4_onDay
set_option maxRecDepth 20000 in
theorem ggX4_cover_X4_next : GoodIn wsX4_cover wsX4_next := goodIn_ca (goodIn_r _ [23, 8, 2, 10, 11, 12, 6, 13, 14, 15, 16, 17, 18, 19, 29, 30, 31, 32, 33, 34, 35] (by decide +kernel) (by decide +kernel)) (goodIn_sub (fun _ h => List.mem_cons_of_mem _ (List.mem_append_right _ h)) (by decide +kernel))
set_option maxRecDepth 20000 in
theorem gX4_cover_X4_next : GoodIn wsX4_cover (wsV RX4 43 RX4 yX4_next wsX4_next) := goodIn_app (goodIn_of _ (by decide +kernel)) ggX4_cover_X4_next
set_option maxRecDepth 20000 in
theorem ggX4_cover_X4_make : GoodIn wsX4_cover wsX4_make := goodIn_ca (goodIn_r _ [27, 8, 14, 2, 9, 28, 1, 19, 29, 30, 31, 32, 33, 34, 35] (by decide +kernel) (by decide +kernel)) (goodIn_sub (fun _ h => List.mem_cons_of_mem _ (List.mem_append_right _ h)) (by decide +kernel))
set_option maxRecDepth 20000 in
theorem gX4_cover_X4_make : GoodIn wsX4_cover (wsV RX4 60 RX4 yX4_make wsX4_make) := goodIn_app (goodIn_of _ (by decide +kernel)) ggX4_cover_X4_make
theorem dX4_cover_0 : decode cX4_cover 0 = .ok (.aload_n 0, 1) := by decide +kernel
theorem dX4_cover_1 : decode cX4_cover 1 = .ok (.iload_n 1, 1) := by decide +kernel
theorem dX4_cover_2 : decode cX4_cover 2 = .ok (.iload_n 2, 1) := by decide +kernel
theorem dX4_cover_3 : decode cX4_cover 3 = .ok (.invokevirtual 47, 3) := by decide +kernel
theorem dX4_cover_6 : decode cX4_cover 6 = .ok (.istore_n 3, 1) := by decide +kernel
theorem dX4_cover_7 : decode cX4_cover 7 = .ok (.iload_n 3, 1) := by decide +kernel
theorem dX4_cover_8 : decode cX4_cover 8 = .ok (.iconst (-1), 1) := by decide +kernel
theorem dX4_cover_9 : decode cX4_cover 9 = .ok (.if_icmp .eq 5, 3) := by decide +kernel
theorem dX4_cover_12 : decode cX4_cover 12 = .ok (.iload_n 3, 1) := by decide +kernel
theorem dX4_cover_13 : decode cX4_cover 13 = .ok (.ireturn, 1) := by decide +kernel
theorem dX4_cover_14 : decode cX4_cover 14 = .ok (.aload_n 0, 1) := by decide +kernel
theorem dX4_cover_15 : decode cX4_cover 15 = .ok (.iload_n 1, 1) := by decide +kernel
theorem dX4_cover_16 : decode cX4_cover 16 = .ok (.iload_n 2, 1) := by decide +kernel
theorem dX4_cover_17 : decode cX4_cover 17 = .ok (.invokevirtual 43, 3) := by decide +kernel
theorem dX4_cover_20 : decode cX4_cover 20 = .ok (.istore 4, 2) := by decide +kernel
theorem dX4_cover_22 : decode cX4_cover 22 = .ok (.iload 4, 2) := by decide +kernel
theorem dX4_cover_24 : decode cX4_cover 24 = .ok (.iconst (-1), 1) := by decide +kernel
theorem dX4_cover_25 : decode cX4_cover 25 = .ok (.if_icmp .eq 24, 3) := by decide +kernel
theorem dX4_cover_28 : decode cX4_cover 28 = .ok (.aload_n 0, 1) := by decide +kernel
theorem dX4_cover_29 : decode cX4_cover 29 = .ok (.getfield 24, 3) := by decide +kernel
theorem dX4_cover_32 : decode cX4_cover 32 = .ok (.iload 4, 2) := by decide +kernel
theorem dX4_cover_34 : decode cX4_cover 34 = .ok (.baload, 1) := by decide +kernel
theorem dX4_cover_35 : decode cX4_cover 35 = .ok (.ifCond .eq 14, 3) := by decide +kernel
theorem dX4_cover_38 : decode cX4_cover 38 = .ok (.aload_n 0, 1) := by decide +kernel
theorem dX4_cover_39 : decode cX4_cover 39 = .ok (.getfield 15, 3) := by decide +kernel
theorem dX4_cover_42 : decode cX4_cover 42 = .ok (.iload 4, 2) := by decide +kernel
theorem dX4_cover_44 : decode cX4_cover 44 = .ok (.iload_n 2, 1) := by decide +kernel
theorem dX4_cover_45 : decode cX4_cover 45 = .ok (.iastore, 1) := by decide +kernel
theorem dX4_cover_46 : decode cX4_cover 46 = .ok (.iload 4, 2) := by decide +kernel
theorem dX4_cover_48 : decode cX4_cover 48 = .ok (.ireturn, 1) := by decide +kernel
theorem dX4_cover_49 : decode cX4_cover 49 = .ok (.aload_n 0, 1) := by decide +kernel
theorem dX4_cover_50 : decode cX4_cover 50 = .ok (.iload_n 1, 1) := by decide +kernel
theorem dX4_cover_51 : decode cX4_cover 51 = .ok (.iload_n 2, 1) := by decide +kernel
theorem dX4_cover_52 : decode cX4_cover 52 = .ok (.iload 4, 2) := by decide +kernel
theorem dX4_cover_54 : decode cX4_cover 54 = .ok (.iconst (-1), 1) := by decide +kernel
theorem dX4_cover_55 : decode cX4_cover 55 = .ok (.if_icmp .ne 9, 3) := by decide +kernel
theorem dX4_cover_58 : decode cX4_cover 58 = .ok (.sipush 1000, 3) := by decide +kernel
theorem dX4_cover_61 : decode cX4_cover 61 = .ok (.goto 10, 3) := by decide +kernel
theorem dX4_cover_64 : decode cX4_cover 64 = .ok (.aload_n 0, 1) := by decide +kernel
theorem dX4_cover_65 : decode cX4_cover 65 = .ok (.getfield 15, 3) := by decide +kernel
theorem dX4_cover_68 : decode cX4_cover 68 = .ok (.iload 4, 2) := by decide +kernel
theorem dX4_cover_70 : decode cX4_cover 70 = .ok (.iaload, 1) := by decide +kernel
theorem dX4_cover_71 : decode cX4_cover 71 = .ok (.invokevirtual 60, 3) := by decide +kernel
theorem dX4_cover_74 : decode cX4_cover 74 = .ok (.ireturn, 1) := by decide +kernel
set_option maxRecDepth 20000 in
theorem ggX4_split_X4_make : GoodIn wsX4_split wsX4_make := goodIn_ca (goodIn_r _ [7, 8, 1, 9, 2, 10, 11, 12, 13, 14, 15, 16, 17, 18, 19] (by decide +kernel) (by decide +kernel)) (goodIn_sub (fun _ h => List.mem_cons_of_mem _ (List.mem_append_right _ h)) (by decide +kernel))
set_option maxRecDepth 20000 in
theorem gX4_split_X4_make : GoodIn wsX4_split (wsV RX4 60 RX4 yX4_make wsX4_make) := goodIn_app (goodIn_of _ (by decide +kernel)) ggX4_split_X4_make
theorem dX4_split_0 : decode cX4_split 0 = .ok (.aload_n 0, 1) := by decide +kernel
theorem dX4_split_1 : decode cX4_split 1 = .ok (.aload_n 0, 1) := by decide +kernel
theorem dX4_split_2 : decode cX4_split 2 = .ok (.getfield 9, 3) := by decide +kernel
theorem dX4_split_5 : decode cX4_split 5 = .ok (.iload_n 1, 1) := by decide +kernel
theorem dX4_split_6 : decode cX4_split 6 = .ok (.iaload, 1) := by decide +kernel
theorem dX4_split_7 : decode cX4_split 7 = .ok (.iload_n 2, 1) := by decide +kernel
theorem dX4_split_8 : decode cX4_split 8 = .ok (.aload_n 0, 1) := by decide +kernel
theorem dX4_split_9 : decode cX4_split 9 = .ok (.getfield 18, 3) := by decide +kernel
theorem dX4_split_12 : decode cX4_split 12 = .ok (.iload_n 1, 1) := by decide +kernel
theorem dX4_split_13 : decode cX4_split 13 = .ok (.iaload, 1) := by decide +kernel
theorem dX4_split_14 : decode cX4_split 14 = .ok (.invokevirtual 60, 3) := by decide +kernel
theorem dX4_split_17 : decode cX4_split 17 = .ok (.istore_n 3, 1) := by decide +kernel
theorem dX4_split_18 : decode cX4_split 18 = .ok (.iload_n 3, 1) := by decide +kernel
theorem dX4_split_19 : decode cX4_split 19 = .ok (.iconst (-1), 1) := by decide +kernel
theorem dX4_split_20 : decode cX4_split 20 = .ok (.if_icmp .eq 10, 3) := by decide +kernel
theorem dX4_split_23 : decode cX4_split 23 = .ok (.aload_n 0, 1) := by decide +kernel
theorem dX4_split_24 : decode cX4_split 24 = .ok (.getfield 18, 3) := by decide +kernel
theorem dX4_split_27 : decode cX4_split 27 = .ok (.iload_n 1, 1) := by decide +kernel
theorem dX4_split_28 : decode cX4_split 28 = .ok (.iload_n 2, 1) := by decide +kernel
theorem dX4_split_29 : decode cX4_split 29 = .ok (.iastore, 1) := by decide +kernel
theorem dX4_split_30 : decode cX4_split 30 = .ok (.iload_n 3, 1) := by decide +kernel
theorem dX4_split_31 : decode cX4_split 31 = .ok (.ireturn, 1) := by decide +kernel
theorem dX4_make_0 : decode cX4_make 0 = .ok (.aload_n 0, 1) := by decide +kernel
theorem dX4_make_1 : decode cX4_make 1 = .ok (.getfield 31, 3) := by decide +kernel
theorem dX4_make_4 : decode cX4_make 4 = .ok (.bipush 60, 2) := by decide +kernel
theorem dX4_make_6 : decode cX4_make 6 = .ok (.if_icmp .lt 5, 3) := by decide +kernel
theorem dX4_make_9 : decode cX4_make 9 = .ok (.iconst (-1), 1) := by decide +kernel
theorem dX4_make_10 : decode cX4_make 10 = .ok (.ireturn, 1) := by decide +kernel
theorem dX4_make_11 : decode cX4_make 11 = .ok (.aload_n 0, 1) := by decide +kernel
theorem dX4_make_12 : decode cX4_make 12 = .ok (.getfield 31, 3) := by decide +kernel
theorem dX4_make_15 : decode cX4_make 15 = .ok (.istore 4, 2) := by decide +kernel
theorem dX4_make_17 : decode cX4_make 17 = .ok (.aload_n 0, 1) := by decide +kernel
theorem dX4_make_18 : decode cX4_make 18 = .ok (.dup, 1) := by decide +kernel
theorem dX4_make_19 : decode cX4_make 19 = .ok (.getfield 31, 3) := by decide +kernel
theorem dX4_make_22 : decode cX4_make 22 = .ok (.iconst 1, 1) := by decide +kernel
theorem dX4_make_23 : decode cX4_make 23 = .ok (.iadd, 1) := by decide +kernel
theorem dX4_make_24 : decode cX4_make 24 = .ok (.putfield 31, 3) := by decide +kernel
theorem dX4_make_27 : decode cX4_make 27 = .ok (.aload_n 0, 1) := by decide +kernel
theorem dX4_make_28 : decode cX4_make 28 = .ok (.getfield 9, 3) := by decide +kernel
theorem dX4_make_31 : decode cX4_make 31 = .ok (.iload 4, 2) := by decide +kernel
theorem dX4_make_33 : decode cX4_make 33 = .ok (.iload_n 1, 1) := by decide +kernel
theorem dX4_make_34 : decode cX4_make 34 = .ok (.iastore, 1) := by decide +kernel
theorem dX4_make_35 : decode cX4_make 35 = .ok (.aload_n 0, 1) := by decide +kernel
theorem dX4_make_36 : decode cX4_make 36 = .ok (.getfield 15, 3) := by decide +kernel
theorem dX4_make_39 : decode cX4_make 39 = .ok (.iload 4, 2) := by decide +kernel
theorem dX4_make_41 : decode cX4_make 41 = .ok (.iload_n 2, 1) := by decide +kernel
theorem dX4_make_42 : decode cX4_make 42 = .ok (.iastore, 1) := by decide +kernel
theorem dX4_make_43 : decode cX4_make 43 = .ok (.aload_n 0, 1) := by decide +kernel
theorem dX4_make_44 : decode cX4_make 44 = .ok (.getfield 18, 3) := by decide +kernel
theorem dX4_make_47 : decode cX4_make 47 = .ok (.iload 4, 2) := by decide +kernel
theorem dX4_make_49 : decode cX4_make 49 = .ok (.iload_n 3, 1) := by decide +kernel
theorem dX4_make_50 : decode cX4_make 50 = .ok (.iastore, 1) := by decide +kernel
theorem dX4_make_51 : decode cX4_make 51 = .ok (.aload_n 0, 1) := by decide +kernel
theorem dX4_make_52 : decode cX4_make 52 = .ok (.getfield 21, 3) := by decide +kernel
theorem dX4_make_55 : decode cX4_make 55 = .ok (.iload 4, 2) := by decide +kernel
theorem dX4_make_57 : decode cX4_make 57 = .ok (.iconst 0, 1) := by decide +kernel
theorem dX4_make_58 : decode cX4_make 58 = .ok (.iastore, 1) := by decide +kernel
theorem dX4_make_59 : decode cX4_make 59 = .ok (.aload_n 0, 1) := by decide +kernel
theorem dX4_make_60 : decode cX4_make 60 = .ok (.getfield 24, 3) := by decide +kernel
theorem dX4_make_63 : decode cX4_make 63 = .ok (.iload 4, 2) := by decide +kernel
theorem dX4_make_65 : decode cX4_make 65 = .ok (.iconst 1, 1) := by decide +kernel
theorem dX4_make_66 : decode cX4_make 66 = .ok (.bastore, 1) := by decide +kernel
theorem dX4_make_67 : decode cX4_make 67 = .ok (.aload_n 0, 1) := by decide +kernel
theorem dX4_make_68 : decode cX4_make 68 = .ok (.getfield 28, 3) := by decide +kernel
theorem dX4_make_71 : decode cX4_make 71 = .ok (.iload 4, 2) := by decide +kernel
theorem dX4_make_73 : decode cX4_make 73 = .ok (.iconst 0, 1) := by decide +kernel
theorem dX4_make_74 : decode cX4_make 74 = .ok (.bastore, 1) := by decide +kernel
theorem dX4_make_75 : decode cX4_make 75 = .ok (.iload 4, 2) := by decide +kernel
theorem dX4_make_77 : decode cX4_make 77 = .ok (.ireturn, 1) := by decide +kernel
set_option maxRecDepth 20000 in
theorem ggX4_settle_X4_has : GoodIn wsX4_settle wsX4_has := goodIn_ca (goodIn_r _ [7, 8, 9, 10, 11, 12, 13, 14, 15, 16] (by decide +kernel) (by decide +kernel)) (goodIn_sub (fun _ h => List.mem_cons_of_mem _ (List.mem_append_right _ h)) (by decide +kernel))
set_option maxRecDepth 20000 in
theorem gX4_settle_X4_has : GoodIn wsX4_settle (wsV RX4 35 RX4 yX4_has wsX4_has) := goodIn_app (goodIn_of _ (by decide +kernel)) ggX4_settle_X4_has
theorem dX4_settle_0 : decode cX4_settle 0 = .ok (.aload_n 0, 1) := by decide +kernel
theorem dX4_settle_1 : decode cX4_settle 1 = .ok (.iload_n 1, 1) := by decide +kernel
theorem dX4_settle_2 : decode cX4_settle 2 = .ok (.invokevirtual 35, 3) := by decide +kernel
theorem dX4_settle_5 : decode cX4_settle 5 = .ok (.ifCond .eq 17, 3) := by decide +kernel
theorem dX4_settle_8 : decode cX4_settle 8 = .ok (.aload_n 0, 1) := by decide +kernel
theorem dX4_settle_9 : decode cX4_settle 9 = .ok (.getfield 21, 3) := by decide +kernel
theorem dX4_settle_12 : decode cX4_settle 12 = .ok (.iload_n 1, 1) := by decide +kernel
theorem dX4_settle_13 : decode cX4_settle 13 = .ok (.iload_n 2, 1) := by decide +kernel
theorem dX4_settle_14 : decode cX4_settle 14 = .ok (.iastore, 1) := by decide +kernel
theorem dX4_settle_15 : decode cX4_settle 15 = .ok (.aload_n 0, 1) := by decide +kernel
theorem dX4_settle_16 : decode cX4_settle 16 = .ok (.getfield 24, 3) := by decide +kernel
theorem dX4_settle_19 : decode cX4_settle 19 = .ok (.iload_n 1, 1) := by decide +kernel
theorem dX4_settle_20 : decode cX4_settle 20 = .ok (.iconst 0, 1) := by decide +kernel
theorem dX4_settle_21 : decode cX4_settle 21 = .ok (.bastore, 1) := by decide +kernel
theorem dX4_settle_22 : decode cX4_settle 22 = .ok (.return_, 1) := by decide +kernel
set_option maxRecDepth 20000 in
theorem ggX4_endingWhereBegins_X4_has : GoodIn wsX4_endingWhereBegins wsX4_has := goodIn_ca (goodIn_r _ [9, 1, 10, 15, 16, 17, 18, 19, 20, 21] (by decide +kernel) (by decide +kernel)) (goodIn_sub (fun _ h => List.mem_cons_of_mem _ (List.mem_append_right _ h)) (by decide +kernel))
set_option maxRecDepth 20000 in
theorem gX4_endingWhereBegins_X4_has : GoodIn wsX4_endingWhereBegins (wsV RX4 35 RX4 yX4_has wsX4_has) := goodIn_app (goodIn_of _ (by decide +kernel)) ggX4_endingWhereBegins_X4_has
set_option maxRecDepth 20000 in
theorem ggX4_endingWhereBegins_X4_isOf : GoodIn wsX4_endingWhereBegins wsX4_isOf := goodIn_ca (goodIn_r _ [14, 2, 5, 6, 7, 8, 9, 1, 10, 15, 16, 17, 18, 19, 20, 21] (by decide +kernel) (by decide +kernel)) (goodIn_sub (fun _ h => List.mem_cons_of_mem _ (List.mem_append_right _ h)) (by decide +kernel))
set_option maxRecDepth 20000 in
theorem gX4_endingWhereBegins_X4_isOf : GoodIn wsX4_endingWhereBegins (wsV RX4 39 RX4 yX4_isOf wsX4_isOf) := goodIn_app (goodIn_of _ (by decide +kernel)) ggX4_endingWhereBegins_X4_isOf
theorem dX4_endingWhereBegins_0 : decode cX4_endingWhereBegins 0 = .ok (.aload_n 0, 1) := by decide +kernel
theorem dX4_endingWhereBegins_1 : decode cX4_endingWhereBegins 1 = .ok (.iload_n 1, 1) := by decide +kernel
theorem dX4_endingWhereBegins_2 : decode cX4_endingWhereBegins 2 = .ok (.invokevirtual 35, 3) := by decide +kernel
theorem dX4_endingWhereBegins_5 : decode cX4_endingWhereBegins 5 = .ok (.ifCond .ne 5, 3) := by decide +kernel
theorem dX4_endingWhereBegins_8 : decode cX4_endingWhereBegins 8 = .ok (.iconst (-1), 1) := by decide +kernel
theorem dX4_endingWhereBegins_9 : decode cX4_endingWhereBegins 9 = .ok (.ireturn, 1) := by decide +kernel
theorem dX4_endingWhereBegins_10 : decode cX4_endingWhereBegins 10 = .ok (.iconst 0, 1) := by decide +kernel
theorem dX4_endingWhereBegins_11 : decode cX4_endingWhereBegins 11 = .ok (.istore_n 2, 1) := by decide +kernel
theorem dX4_endingWhereBegins_12 : decode cX4_endingWhereBegins 12 = .ok (.iload_n 2, 1) := by decide +kernel
theorem dX4_endingWhereBegins_13 : decode cX4_endingWhereBegins 13 = .ok (.aload_n 0, 1) := by decide +kernel
theorem dX4_endingWhereBegins_14 : decode cX4_endingWhereBegins 14 = .ok (.getfield 31, 3) := by decide +kernel
theorem dX4_endingWhereBegins_17 : decode cX4_endingWhereBegins 17 = .ok (.if_icmp .ge 40, 3) := by decide +kernel
theorem dX4_endingWhereBegins_20 : decode cX4_endingWhereBegins 20 = .ok (.aload_n 0, 1) := by decide +kernel
theorem dX4_endingWhereBegins_21 : decode cX4_endingWhereBegins 21 = .ok (.iload_n 2, 1) := by decide +kernel
theorem dX4_endingWhereBegins_22 : decode cX4_endingWhereBegins 22 = .ok (.aload_n 0, 1) := by decide +kernel
theorem dX4_endingWhereBegins_23 : decode cX4_endingWhereBegins 23 = .ok (.getfield 9, 3) := by decide +kernel
theorem dX4_endingWhereBegins_26 : decode cX4_endingWhereBegins 26 = .ok (.iload_n 1, 1) := by decide +kernel
theorem dX4_endingWhereBegins_27 : decode cX4_endingWhereBegins 27 = .ok (.iaload, 1) := by decide +kernel
theorem dX4_endingWhereBegins_28 : decode cX4_endingWhereBegins 28 = .ok (.invokevirtual 39, 3) := by decide +kernel
theorem dX4_endingWhereBegins_31 : decode cX4_endingWhereBegins 31 = .ok (.ifCond .eq 20, 3) := by decide +kernel
theorem dX4_endingWhereBegins_34 : decode cX4_endingWhereBegins 34 = .ok (.aload_n 0, 1) := by decide +kernel
theorem dX4_endingWhereBegins_35 : decode cX4_endingWhereBegins 35 = .ok (.getfield 18, 3) := by decide +kernel
theorem dX4_endingWhereBegins_38 : decode cX4_endingWhereBegins 38 = .ok (.iload_n 2, 1) := by decide +kernel
theorem dX4_endingWhereBegins_39 : decode cX4_endingWhereBegins 39 = .ok (.iaload, 1) := by decide +kernel
theorem dX4_endingWhereBegins_40 : decode cX4_endingWhereBegins 40 = .ok (.aload_n 0, 1) := by decide +kernel
theorem dX4_endingWhereBegins_41 : decode cX4_endingWhereBegins 41 = .ok (.getfield 15, 3) := by decide +kernel
theorem dX4_endingWhereBegins_44 : decode cX4_endingWhereBegins 44 = .ok (.iload_n 1, 1) := by decide +kernel
theorem dX4_endingWhereBegins_45 : decode cX4_endingWhereBegins 45 = .ok (.iaload, 1) := by decide +kernel
theorem dX4_endingWhereBegins_46 : decode cX4_endingWhereBegins 46 = .ok (.if_icmp .ne 5, 3) := by decide +kernel
theorem dX4_endingWhereBegins_49 : decode cX4_endingWhereBegins 49 = .ok (.iload_n 2, 1) := by decide +kernel
theorem dX4_endingWhereBegins_50 : decode cX4_endingWhereBegins 50 = .ok (.ireturn, 1) := by decide +kernel
theorem dX4_endingWhereBegins_51 : decode cX4_endingWhereBegins 51 = .ok (.iinc 2 1, 3) := by decide +kernel
theorem dX4_endingWhereBegins_54 : decode cX4_endingWhereBegins 54 = .ok (.goto (-42), 3) := by decide +kernel
theorem dX4_endingWhereBegins_57 : decode cX4_endingWhereBegins 57 = .ok (.iconst (-1), 1) := by decide +kernel
theorem dX4_endingWhereBegins_58 : decode cX4_endingWhereBegins 58 = .ok (.ireturn, 1) := by decide +kernel
set_option maxRecDepth 20000 in
theorem ggX4_drop_X4_has : GoodIn wsX4_drop wsX4_has := goodIn_ca (goodIn_r _ [6, 7, 1, 8, 9, 10, 11, 12, 13, 14] (by decide +kernel) (by decide +kernel)) (goodIn_sub (fun _ h => List.mem_cons_of_mem _ (List.mem_append_right _ h)) (by decide +kernel))
set_option maxRecDepth 20000 in
theorem gX4_drop_X4_has : GoodIn wsX4_drop (wsV RX4 35 RX4 yX4_has wsX4_has) := goodIn_app (goodIn_of _ (by decide +kernel)) ggX4_drop_X4_has
theorem dX4_drop_0 : decode cX4_drop 0 = .ok (.aload_n 0, 1) := by decide +kernel
theorem dX4_drop_1 : decode cX4_drop 1 = .ok (.iload_n 1, 1) := by decide +kernel
theorem dX4_drop_2 : decode cX4_drop 2 = .ok (.invokevirtual 35, 3) := by decide +kernel
theorem dX4_drop_5 : decode cX4_drop 5 = .ok (.ifCond .eq 10, 3) := by decide +kernel
theorem dX4_drop_8 : decode cX4_drop 8 = .ok (.aload_n 0, 1) := by decide +kernel
theorem dX4_drop_9 : decode cX4_drop 9 = .ok (.getfield 28, 3) := by decide +kernel
theorem dX4_drop_12 : decode cX4_drop 12 = .ok (.iload_n 1, 1) := by decide +kernel
theorem dX4_drop_13 : decode cX4_drop 13 = .ok (.iconst 1, 1) := by decide +kernel
theorem dX4_drop_14 : decode cX4_drop 14 = .ok (.bastore, 1) := by decide +kernel
theorem dX4_drop_15 : decode cX4_drop 15 = .ok (.return_, 1) := by decide +kernel
set_option maxRecDepth 20000 in
theorem ggX4_merge_X4_has : GoodIn wsX4_merge wsX4_has := goodIn_ca (goodIn_r _ [7, 8, 2, 9, 10, 11, 12, 13, 14, 15] (by decide +kernel) (by decide +kernel)) (goodIn_sub (fun _ h => List.mem_cons_of_mem _ (List.mem_append_right _ h)) (by decide +kernel))
set_option maxRecDepth 20000 in
theorem gX4_merge_X4_has : GoodIn wsX4_merge (wsV RX4 35 RX4 yX4_has wsX4_has) := goodIn_app (goodIn_of _ (by decide +kernel)) ggX4_merge_X4_has
theorem dX4_merge_0 : decode cX4_merge 0 = .ok (.aload_n 0, 1) := by decide +kernel
theorem dX4_merge_1 : decode cX4_merge 1 = .ok (.iload_n 1, 1) := by decide +kernel
theorem dX4_merge_2 : decode cX4_merge 2 = .ok (.invokevirtual 35, 3) := by decide +kernel
theorem dX4_merge_5 : decode cX4_merge 5 = .ok (.ifCond .eq 30, 3) := by decide +kernel
theorem dX4_merge_8 : decode cX4_merge 8 = .ok (.aload_n 0, 1) := by decide +kernel
theorem dX4_merge_9 : decode cX4_merge 9 = .ok (.iload_n 2, 1) := by decide +kernel
theorem dX4_merge_10 : decode cX4_merge 10 = .ok (.invokevirtual 35, 3) := by decide +kernel
theorem dX4_merge_13 : decode cX4_merge 13 = .ok (.ifCond .eq 22, 3) := by decide +kernel
theorem dX4_merge_16 : decode cX4_merge 16 = .ok (.aload_n 0, 1) := by decide +kernel
theorem dX4_merge_17 : decode cX4_merge 17 = .ok (.getfield 18, 3) := by decide +kernel
theorem dX4_merge_20 : decode cX4_merge 20 = .ok (.iload_n 1, 1) := by decide +kernel
theorem dX4_merge_21 : decode cX4_merge 21 = .ok (.aload_n 0, 1) := by decide +kernel
theorem dX4_merge_22 : decode cX4_merge 22 = .ok (.getfield 18, 3) := by decide +kernel
theorem dX4_merge_25 : decode cX4_merge 25 = .ok (.iload_n 2, 1) := by decide +kernel
theorem dX4_merge_26 : decode cX4_merge 26 = .ok (.iaload, 1) := by decide +kernel
theorem dX4_merge_27 : decode cX4_merge 27 = .ok (.iastore, 1) := by decide +kernel
theorem dX4_merge_28 : decode cX4_merge 28 = .ok (.aload_n 0, 1) := by decide +kernel
theorem dX4_merge_29 : decode cX4_merge 29 = .ok (.getfield 28, 3) := by decide +kernel
theorem dX4_merge_32 : decode cX4_merge 32 = .ok (.iload_n 2, 1) := by decide +kernel
theorem dX4_merge_33 : decode cX4_merge 33 = .ok (.iconst 1, 1) := by decide +kernel
theorem dX4_merge_34 : decode cX4_merge 34 = .ok (.bastore, 1) := by decide +kernel
theorem dX4_merge_35 : decode cX4_merge 35 = .ok (.return_, 1) := by decide +kernel
set_option maxRecDepth 20000 in
theorem ggX4_joinAlike_X4_next : GoodIn wsX4_joinAlike wsX4_next := goodIn_ca (goodIn_r _ [7, 1, 2, 8, 9, 10, 6, 11, 12, 13, 14, 15, 16, 17, 29, 30, 31, 32, 33, 34, 35] (by decide +kernel) (by decide +kernel)) (goodIn_sub (fun _ h => List.mem_cons_of_mem _ (List.mem_append_right _ h)) (by decide +kernel))
set_option maxRecDepth 20000 in
theorem gX4_joinAlike_X4_next : GoodIn wsX4_joinAlike (wsV RX4 43 RX4 yX4_next wsX4_next) := goodIn_app (goodIn_of _ (by decide +kernel)) ggX4_joinAlike_X4_next
set_option maxRecDepth 20000 in
theorem ggX4_joinAlike_X4_areAlike : GoodIn wsX4_joinAlike wsX4_areAlike := goodIn_ca (goodIn_r _ [21, 22, 2, 23, 24, 29, 30, 31, 32, 33, 34, 35] (by decide +kernel) (by decide +kernel)) (goodIn_sub (fun _ h => List.mem_cons_of_mem _ (List.mem_append_right _ h)) (by decide +kernel))
set_option maxRecDepth 20000 in
theorem gX4_joinAlike_X4_areAlike : GoodIn wsX4_joinAlike (wsV RX4 64 RX4 yX4_areAlike wsX4_areAlike) := goodIn_app (goodIn_of _ (by decide +kernel)) ggX4_joinAlike_X4_areAlike
set_option maxRecDepth 20000 in
theorem ggX4_joinAlike_X4_merge : GoodIn wsX4_joinAlike wsX4_merge := goodIn_ca (goodIn_r _ [28, 22, 17, 13, 14, 15, 6, 16, 1, 29, 30, 31, 32, 33, 34, 35] (by decide +kernel) (by decide +kernel)) (goodIn_sub (fun _ h => List.mem_cons_of_mem _ (List.mem_append_right _ h)) (by decide +kernel))
set_option maxRecDepth 20000 in
theorem gX4_joinAlike_X4_merge : GoodIn wsX4_joinAlike (wsV RX4 67 RX4 yX4_merge wsX4_merge) := goodIn_app (goodIn_of _ (by decide +kernel)) ggX4_joinAlike_X4_merge
theorem dX4_joinAlike_0 : decode cX4_joinAlike 0 = .ok (.iconst 0, 1) := by decide +kernel
theorem dX4_joinAlike_1 : decode cX4_joinAlike 1 = .ok (.istore_n 2, 1) := by decide +kernel
theorem dX4_joinAlike_2 : decode cX4_joinAlike 2 = .ok (.aload_n 0, 1) := by decide +kernel
theorem dX4_joinAlike_3 : decode cX4_joinAlike 3 = .ok (.iload_n 1, 1) := by decide +kernel
theorem dX4_joinAlike_4 : decode cX4_joinAlike 4 = .ok (.iconst (-1), 1) := by decide +kernel
theorem dX4_joinAlike_5 : decode cX4_joinAlike 5 = .ok (.invokevirtual 43, 3) := by decide +kernel
theorem dX4_joinAlike_8 : decode cX4_joinAlike 8 = .ok (.istore_n 3, 1) := by decide +kernel
theorem dX4_joinAlike_9 : decode cX4_joinAlike 9 = .ok (.iconst 0, 1) := by decide +kernel
theorem dX4_joinAlike_10 : decode cX4_joinAlike 10 = .ok (.istore 4, 2) := by decide +kernel
theorem dX4_joinAlike_12 : decode cX4_joinAlike 12 = .ok (.iload 4, 2) := by decide +kernel
theorem dX4_joinAlike_14 : decode cX4_joinAlike 14 = .ok (.aload_n 0, 1) := by decide +kernel
theorem dX4_joinAlike_15 : decode cX4_joinAlike 15 = .ok (.getfield 31, 3) := by decide +kernel
theorem dX4_joinAlike_18 : decode cX4_joinAlike 18 = .ok (.if_icmp .ge 59, 3) := by decide +kernel
theorem dX4_joinAlike_21 : decode cX4_joinAlike 21 = .ok (.iload_n 3, 1) := by decide +kernel
theorem dX4_joinAlike_22 : decode cX4_joinAlike 22 = .ok (.iconst (-1), 1) := by decide +kernel
theorem dX4_joinAlike_23 : decode cX4_joinAlike 23 = .ok (.if_icmp .eq 54, 3) := by decide +kernel
theorem dX4_joinAlike_26 : decode cX4_joinAlike 26 = .ok (.aload_n 0, 1) := by decide +kernel
theorem dX4_joinAlike_27 : decode cX4_joinAlike 27 = .ok (.iload_n 1, 1) := by decide +kernel
theorem dX4_joinAlike_28 : decode cX4_joinAlike 28 = .ok (.aload_n 0, 1) := by decide +kernel
theorem dX4_joinAlike_29 : decode cX4_joinAlike 29 = .ok (.getfield 15, 3) := by decide +kernel
theorem dX4_joinAlike_32 : decode cX4_joinAlike 32 = .ok (.iload_n 3, 1) := by decide +kernel
theorem dX4_joinAlike_33 : decode cX4_joinAlike 33 = .ok (.iaload, 1) := by decide +kernel
theorem dX4_joinAlike_34 : decode cX4_joinAlike 34 = .ok (.invokevirtual 43, 3) := by decide +kernel
theorem dX4_joinAlike_37 : decode cX4_joinAlike 37 = .ok (.istore 5, 2) := by decide +kernel
theorem dX4_joinAlike_39 : decode cX4_joinAlike 39 = .ok (.iload 5, 2) := by decide +kernel
theorem dX4_joinAlike_41 : decode cX4_joinAlike 41 = .ok (.iconst (-1), 1) := by decide +kernel
theorem dX4_joinAlike_42 : decode cX4_joinAlike 42 = .ok (.if_icmp .eq 26, 3) := by decide +kernel
theorem dX4_joinAlike_45 : decode cX4_joinAlike 45 = .ok (.aload_n 0, 1) := by decide +kernel
theorem dX4_joinAlike_46 : decode cX4_joinAlike 46 = .ok (.iload_n 3, 1) := by decide +kernel
theorem dX4_joinAlike_47 : decode cX4_joinAlike 47 = .ok (.iload 5, 2) := by decide +kernel
theorem dX4_joinAlike_49 : decode cX4_joinAlike 49 = .ok (.invokevirtual 64, 3) := by decide +kernel
theorem dX4_joinAlike_52 : decode cX4_joinAlike 52 = .ok (.ifCond .eq 16, 3) := by decide +kernel
theorem dX4_joinAlike_55 : decode cX4_joinAlike 55 = .ok (.aload_n 0, 1) := by decide +kernel
theorem dX4_joinAlike_56 : decode cX4_joinAlike 56 = .ok (.iload_n 3, 1) := by decide +kernel
theorem dX4_joinAlike_57 : decode cX4_joinAlike 57 = .ok (.iload 5, 2) := by decide +kernel
theorem dX4_joinAlike_59 : decode cX4_joinAlike 59 = .ok (.invokevirtual 67, 3) := by decide +kernel
theorem dX4_joinAlike_62 : decode cX4_joinAlike 62 = .ok (.iinc 2 1, 3) := by decide +kernel
theorem dX4_joinAlike_65 : decode cX4_joinAlike 65 = .ok (.goto 6, 3) := by decide +kernel
theorem dX4_joinAlike_68 : decode cX4_joinAlike 68 = .ok (.iload 5, 2) := by decide +kernel
theorem dX4_joinAlike_70 : decode cX4_joinAlike 70 = .ok (.istore_n 3, 1) := by decide +kernel
theorem dX4_joinAlike_71 : decode cX4_joinAlike 71 = .ok (.iinc 4 1, 3) := by decide +kernel
theorem dX4_joinAlike_74 : decode cX4_joinAlike 74 = .ok (.goto (-62), 3) := by decide +kernel
theorem dX4_joinAlike_77 : decode cX4_joinAlike 77 = .ok (.iload_n 2, 1) := by decide +kernel
theorem dX4_joinAlike_78 : decode cX4_joinAlike 78 = .ok (.ireturn, 1) := by decide +kernel
theorem dX4_areAlike_0 : decode cX4_areAlike 0 = .ok (.aload_n 0, 1) := by decide +kernel
theorem dX4_areAlike_1 : decode cX4_areAlike 1 = .ok (.getfield 18, 3) := by decide +kernel
theorem dX4_areAlike_4 : decode cX4_areAlike 4 = .ok (.iload_n 1, 1) := by decide +kernel
theorem dX4_areAlike_5 : decode cX4_areAlike 5 = .ok (.iaload, 1) := by decide +kernel
theorem dX4_areAlike_6 : decode cX4_areAlike 6 = .ok (.aload_n 0, 1) := by decide +kernel
theorem dX4_areAlike_7 : decode cX4_areAlike 7 = .ok (.getfield 15, 3) := by decide +kernel
theorem dX4_areAlike_10 : decode cX4_areAlike 10 = .ok (.iload_n 2, 1) := by decide +kernel
theorem dX4_areAlike_11 : decode cX4_areAlike 11 = .ok (.iaload, 1) := by decide +kernel
theorem dX4_areAlike_12 : decode cX4_areAlike 12 = .ok (.if_icmp .ne 40, 3) := by decide +kernel
theorem dX4_areAlike_15 : decode cX4_areAlike 15 = .ok (.aload_n 0, 1) := by decide +kernel
theorem dX4_areAlike_16 : decode cX4_areAlike 16 = .ok (.getfield 21, 3) := by decide +kernel
theorem dX4_areAlike_19 : decode cX4_areAlike 19 = .ok (.iload_n 1, 1) := by decide +kernel
theorem dX4_areAlike_20 : decode cX4_areAlike 20 = .ok (.iaload, 1) := by decide +kernel
theorem dX4_areAlike_21 : decode cX4_areAlike 21 = .ok (.aload_n 0, 1) := by decide +kernel
theorem dX4_areAlike_22 : decode cX4_areAlike 22 = .ok (.getfield 21, 3) := by decide +kernel
theorem dX4_areAlike_25 : decode cX4_areAlike 25 = .ok (.iload_n 2, 1) := by decide +kernel
theorem dX4_areAlike_26 : decode cX4_areAlike 26 = .ok (.iaload, 1) := by decide +kernel
theorem dX4_areAlike_27 : decode cX4_areAlike 27 = .ok (.if_icmp .ne 25, 3) := by decide +kernel
theorem dX4_areAlike_30 : decode cX4_areAlike 30 = .ok (.aload_n 0, 1) := by decide +kernel
theorem dX4_areAlike_31 : decode cX4_areAlike 31 = .ok (.getfield 24, 3) := by decide +kernel
theorem dX4_areAlike_34 : decode cX4_areAlike 34 = .ok (.iload_n 1, 1) := by decide +kernel
theorem dX4_areAlike_35 : decode cX4_areAlike 35 = .ok (.baload, 1) := by decide +kernel
theorem dX4_areAlike_36 : decode cX4_areAlike 36 = .ok (.ifCond .ne 16, 3) := by decide +kernel
theorem dX4_areAlike_39 : decode cX4_areAlike 39 = .ok (.aload_n 0, 1) := by decide +kernel
theorem dX4_areAlike_40 : decode cX4_areAlike 40 = .ok (.getfield 24, 3) := by decide +kernel
theorem dX4_areAlike_43 : decode cX4_areAlike 43 = .ok (.iload_n 2, 1) := by decide +kernel
theorem dX4_areAlike_44 : decode cX4_areAlike 44 = .ok (.baload, 1) := by decide +kernel
theorem dX4_areAlike_45 : decode cX4_areAlike 45 = .ok (.ifCond .ne 7, 3) := by decide +kernel
theorem dX4_areAlike_48 : decode cX4_areAlike 48 = .ok (.iconst 1, 1) := by decide +kernel
theorem dX4_areAlike_49 : decode cX4_areAlike 49 = .ok (.goto 4, 3) := by decide +kernel
theorem dX4_areAlike_52 : decode cX4_areAlike 52 = .ok (.iconst 0, 1) := by decide +kernel
theorem dX4_areAlike_53 : decode cX4_areAlike 53 = .ok (.ireturn, 1) := by decide +kernel
set_option maxRecDepth 20000 in
theorem ggX4_count_X4_has : GoodIn wsX4_count wsX4_has := goodIn_ca (goodIn_r _ [6, 1, 7, 8, 9, 10, 11, 12, 13, 14] (by decide +kernel) (by decide +kernel)) (goodIn_sub (fun _ h => List.mem_cons_of_mem _ (List.mem_append_right _ h)) (by decide +kernel))
set_option maxRecDepth 20000 in
theorem gX4_count_X4_has : GoodIn wsX4_count (wsV RX4 35 RX4 yX4_has wsX4_has) := goodIn_app (goodIn_of _ (by decide +kernel)) ggX4_count_X4_has
theorem dX4_count_0 : decode cX4_count 0 = .ok (.iconst 0, 1) := by decide +kernel
theorem dX4_count_1 : decode cX4_count 1 = .ok (.istore_n 1, 1) := by decide +kernel
theorem dX4_count_2 : decode cX4_count 2 = .ok (.iconst 0, 1) := by decide +kernel
theorem dX4_count_3 : decode cX4_count 3 = .ok (.istore_n 2, 1) := by decide +kernel
theorem dX4_count_4 : decode cX4_count 4 = .ok (.iload_n 2, 1) := by decide +kernel
theorem dX4_count_5 : decode cX4_count 5 = .ok (.aload_n 0, 1) := by decide +kernel
theorem dX4_count_6 : decode cX4_count 6 = .ok (.getfield 31, 3) := by decide +kernel
theorem dX4_count_9 : decode cX4_count 9 = .ok (.if_icmp .ge 20, 3) := by decide +kernel
theorem dX4_count_12 : decode cX4_count 12 = .ok (.aload_n 0, 1) := by decide +kernel
theorem dX4_count_13 : decode cX4_count 13 = .ok (.iload_n 2, 1) := by decide +kernel
theorem dX4_count_14 : decode cX4_count 14 = .ok (.invokevirtual 35, 3) := by decide +kernel
theorem dX4_count_17 : decode cX4_count 17 = .ok (.ifCond .eq 6, 3) := by decide +kernel
theorem dX4_count_20 : decode cX4_count 20 = .ok (.iinc 1 1, 3) := by decide +kernel
theorem dX4_count_23 : decode cX4_count 23 = .ok (.iinc 2 1, 3) := by decide +kernel
theorem dX4_count_26 : decode cX4_count 26 = .ok (.goto (-22), 3) := by decide +kernel
theorem dX4_count_29 : decode cX4_count 29 = .ok (.iload_n 1, 1) := by decide +kernel
theorem dX4_count_30 : decode cX4_count 30 = .ok (.ireturn, 1) := by decide +kernel
set_option maxRecDepth 20000 in
theorem ggX4_countOf_X4_isOf : GoodIn wsX4_countOf wsX4_isOf := goodIn_ca (goodIn_r _ [6, 7, 8, 9, 10, 5, 11, 1, 12, 13, 14, 15, 16, 17, 18, 19] (by decide +kernel) (by decide +kernel)) (goodIn_sub (fun _ h => List.mem_cons_of_mem _ (List.mem_append_right _ h)) (by decide +kernel))
set_option maxRecDepth 20000 in
theorem gX4_countOf_X4_isOf : GoodIn wsX4_countOf (wsV RX4 39 RX4 yX4_isOf wsX4_isOf) := goodIn_app (goodIn_of _ (by decide +kernel)) ggX4_countOf_X4_isOf
theorem dX4_countOf_0 : decode cX4_countOf 0 = .ok (.iconst 0, 1) := by decide +kernel
theorem dX4_countOf_1 : decode cX4_countOf 1 = .ok (.istore_n 2, 1) := by decide +kernel
theorem dX4_countOf_2 : decode cX4_countOf 2 = .ok (.iconst 0, 1) := by decide +kernel
theorem dX4_countOf_3 : decode cX4_countOf 3 = .ok (.istore_n 3, 1) := by decide +kernel
theorem dX4_countOf_4 : decode cX4_countOf 4 = .ok (.iload_n 3, 1) := by decide +kernel
theorem dX4_countOf_5 : decode cX4_countOf 5 = .ok (.aload_n 0, 1) := by decide +kernel
theorem dX4_countOf_6 : decode cX4_countOf 6 = .ok (.getfield 31, 3) := by decide +kernel
theorem dX4_countOf_9 : decode cX4_countOf 9 = .ok (.if_icmp .ge 21, 3) := by decide +kernel
theorem dX4_countOf_12 : decode cX4_countOf 12 = .ok (.aload_n 0, 1) := by decide +kernel
theorem dX4_countOf_13 : decode cX4_countOf 13 = .ok (.iload_n 3, 1) := by decide +kernel
theorem dX4_countOf_14 : decode cX4_countOf 14 = .ok (.iload_n 1, 1) := by decide +kernel
theorem dX4_countOf_15 : decode cX4_countOf 15 = .ok (.invokevirtual 39, 3) := by decide +kernel
theorem dX4_countOf_18 : decode cX4_countOf 18 = .ok (.ifCond .eq 6, 3) := by decide +kernel
theorem dX4_countOf_21 : decode cX4_countOf 21 = .ok (.iinc 2 1, 3) := by decide +kernel
theorem dX4_countOf_24 : decode cX4_countOf 24 = .ok (.iinc 3 1, 3) := by decide +kernel
theorem dX4_countOf_27 : decode cX4_countOf 27 = .ok (.goto (-23), 3) := by decide +kernel
theorem dX4_countOf_30 : decode cX4_countOf 30 = .ok (.iload_n 2, 1) := by decide +kernel
theorem dX4_countOf_31 : decode cX4_countOf 31 = .ok (.ireturn, 1) := by decide +kernel
set_option maxRecDepth 20000 in
theorem ggX4_countInferred_X4_has : GoodIn wsX4_countInferred wsX4_has := goodIn_ca (goodIn_r _ [7, 1, 8, 9, 10, 11, 12, 13, 14, 15] (by decide +kernel) (by decide +kernel)) (goodIn_sub (fun _ h => List.mem_cons_of_mem _ (List.mem_append_right _ h)) (by decide +kernel))
set_option maxRecDepth 20000 in
theorem gX4_countInferred_X4_has : GoodIn wsX4_countInferred (wsV RX4 35 RX4 yX4_has wsX4_has) := goodIn_app (goodIn_of _ (by decide +kernel)) ggX4_countInferred_X4_has
theorem dX4_countInferred_0 : decode cX4_countInferred 0 = .ok (.iconst 0, 1) := by decide +kernel
theorem dX4_countInferred_1 : decode cX4_countInferred 1 = .ok (.istore_n 1, 1) := by decide +kernel
theorem dX4_countInferred_2 : decode cX4_countInferred 2 = .ok (.iconst 0, 1) := by decide +kernel
theorem dX4_countInferred_3 : decode cX4_countInferred 3 = .ok (.istore_n 2, 1) := by decide +kernel
theorem dX4_countInferred_4 : decode cX4_countInferred 4 = .ok (.iload_n 2, 1) := by decide +kernel
theorem dX4_countInferred_5 : decode cX4_countInferred 5 = .ok (.aload_n 0, 1) := by decide +kernel
theorem dX4_countInferred_6 : decode cX4_countInferred 6 = .ok (.getfield 31, 3) := by decide +kernel
theorem dX4_countInferred_9 : decode cX4_countInferred 9 = .ok (.if_icmp .ge 29, 3) := by decide +kernel
theorem dX4_countInferred_12 : decode cX4_countInferred 12 = .ok (.aload_n 0, 1) := by decide +kernel
theorem dX4_countInferred_13 : decode cX4_countInferred 13 = .ok (.iload_n 2, 1) := by decide +kernel
theorem dX4_countInferred_14 : decode cX4_countInferred 14 = .ok (.invokevirtual 35, 3) := by decide +kernel
theorem dX4_countInferred_17 : decode cX4_countInferred 17 = .ok (.ifCond .eq 15, 3) := by decide +kernel
theorem dX4_countInferred_20 : decode cX4_countInferred 20 = .ok (.aload_n 0, 1) := by decide +kernel
theorem dX4_countInferred_21 : decode cX4_countInferred 21 = .ok (.getfield 24, 3) := by decide +kernel
theorem dX4_countInferred_24 : decode cX4_countInferred 24 = .ok (.iload_n 2, 1) := by decide +kernel
theorem dX4_countInferred_25 : decode cX4_countInferred 25 = .ok (.baload, 1) := by decide +kernel
theorem dX4_countInferred_26 : decode cX4_countInferred 26 = .ok (.ifCond .eq 6, 3) := by decide +kernel
theorem dX4_countInferred_29 : decode cX4_countInferred 29 = .ok (.iinc 1 1, 3) := by decide +kernel
theorem dX4_countInferred_32 : decode cX4_countInferred 32 = .ok (.iinc 2 1, 3) := by decide +kernel
theorem dX4_countInferred_35 : decode cX4_countInferred 35 = .ok (.goto (-31), 3) := by decide +kernel
theorem dX4_countInferred_38 : decode cX4_countInferred 38 = .ok (.iload_n 1, 1) := by decide +kernel
theorem dX4_countInferred_39 : decode cX4_countInferred 39 = .ok (.ireturn, 1) := by decide +kernel
set_option maxRecDepth 20000 in
theorem ggX4_atPlace_X4_next : GoodIn wsX4_atPlace wsX4_next := goodIn_ca (goodIn_r _ [7, 1, 2, 8, 9, 10, 6, 11, 12, 13, 14, 15, 16, 17, 18, 19, 20, 21, 22, 23, 24] (by decide +kernel) (by decide +kernel)) (goodIn_sub (fun _ h => List.mem_cons_of_mem _ (List.mem_append_right _ h)) (by decide +kernel))
set_option maxRecDepth 20000 in
theorem gX4_atPlace_X4_next : GoodIn wsX4_atPlace (wsV RX4 43 RX4 yX4_next wsX4_next) := goodIn_app (goodIn_of _ (by decide +kernel)) ggX4_atPlace_X4_next
theorem dX4_atPlace_0 : decode cX4_atPlace 0 = .ok (.iload_n 2, 1) := by decide +kernel
theorem dX4_atPlace_1 : decode cX4_atPlace 1 = .ok (.ifCond .lt 11, 3) := by decide +kernel
theorem dX4_atPlace_4 : decode cX4_atPlace 4 = .ok (.iload_n 2, 1) := by decide +kernel
theorem dX4_atPlace_5 : decode cX4_atPlace 5 = .ok (.aload_n 0, 1) := by decide +kernel
theorem dX4_atPlace_6 : decode cX4_atPlace 6 = .ok (.getfield 31, 3) := by decide +kernel
theorem dX4_atPlace_9 : decode cX4_atPlace 9 = .ok (.if_icmp .lt 5, 3) := by decide +kernel
theorem dX4_atPlace_12 : decode cX4_atPlace 12 = .ok (.iconst (-1), 1) := by decide +kernel
theorem dX4_atPlace_13 : decode cX4_atPlace 13 = .ok (.ireturn, 1) := by decide +kernel
theorem dX4_atPlace_14 : decode cX4_atPlace 14 = .ok (.aload_n 0, 1) := by decide +kernel
theorem dX4_atPlace_15 : decode cX4_atPlace 15 = .ok (.iload_n 1, 1) := by decide +kernel
theorem dX4_atPlace_16 : decode cX4_atPlace 16 = .ok (.iconst (-1), 1) := by decide +kernel
theorem dX4_atPlace_17 : decode cX4_atPlace 17 = .ok (.invokevirtual 43, 3) := by decide +kernel
theorem dX4_atPlace_20 : decode cX4_atPlace 20 = .ok (.istore_n 3, 1) := by decide +kernel
theorem dX4_atPlace_21 : decode cX4_atPlace 21 = .ok (.iconst 0, 1) := by decide +kernel
theorem dX4_atPlace_22 : decode cX4_atPlace 22 = .ok (.istore 4, 2) := by decide +kernel
theorem dX4_atPlace_24 : decode cX4_atPlace 24 = .ok (.iload 4, 2) := by decide +kernel
theorem dX4_atPlace_26 : decode cX4_atPlace 26 = .ok (.iload_n 2, 1) := by decide +kernel
theorem dX4_atPlace_27 : decode cX4_atPlace 27 = .ok (.if_icmp .ge 26, 3) := by decide +kernel
theorem dX4_atPlace_30 : decode cX4_atPlace 30 = .ok (.iload_n 3, 1) := by decide +kernel
theorem dX4_atPlace_31 : decode cX4_atPlace 31 = .ok (.iconst (-1), 1) := by decide +kernel
theorem dX4_atPlace_32 : decode cX4_atPlace 32 = .ok (.if_icmp .eq 21, 3) := by decide +kernel
theorem dX4_atPlace_35 : decode cX4_atPlace 35 = .ok (.aload_n 0, 1) := by decide +kernel
theorem dX4_atPlace_36 : decode cX4_atPlace 36 = .ok (.iload_n 1, 1) := by decide +kernel
theorem dX4_atPlace_37 : decode cX4_atPlace 37 = .ok (.aload_n 0, 1) := by decide +kernel
theorem dX4_atPlace_38 : decode cX4_atPlace 38 = .ok (.getfield 15, 3) := by decide +kernel
theorem dX4_atPlace_41 : decode cX4_atPlace 41 = .ok (.iload_n 3, 1) := by decide +kernel
theorem dX4_atPlace_42 : decode cX4_atPlace 42 = .ok (.iaload, 1) := by decide +kernel
theorem dX4_atPlace_43 : decode cX4_atPlace 43 = .ok (.invokevirtual 43, 3) := by decide +kernel
theorem dX4_atPlace_46 : decode cX4_atPlace 46 = .ok (.istore_n 3, 1) := by decide +kernel
theorem dX4_atPlace_47 : decode cX4_atPlace 47 = .ok (.iinc 4 1, 3) := by decide +kernel
theorem dX4_atPlace_50 : decode cX4_atPlace 50 = .ok (.goto (-26), 3) := by decide +kernel
theorem dX4_atPlace_53 : decode cX4_atPlace 53 = .ok (.iload_n 3, 1) := by decide +kernel
theorem dX4_atPlace_54 : decode cX4_atPlace 54 = .ok (.ireturn, 1) := by decide +kernel
set_option maxRecDepth 20000 in
theorem ggX4_earliestInferred_X4_has : GoodIn wsX4_earliestInferred wsX4_has := goodIn_ca (goodIn_r _ [7, 1, 8, 15, 16, 17, 18, 19, 20, 21] (by decide +kernel) (by decide +kernel)) (goodIn_sub (fun _ h => List.mem_cons_of_mem _ (List.mem_append_right _ h)) (by decide +kernel))
set_option maxRecDepth 20000 in
theorem gX4_earliestInferred_X4_has : GoodIn wsX4_earliestInferred (wsV RX4 35 RX4 yX4_has wsX4_has) := goodIn_app (goodIn_of _ (by decide +kernel)) ggX4_earliestInferred_X4_has
set_option maxRecDepth 20000 in
theorem ggX4_earliestInferred_X4_isEarlier : GoodIn wsX4_earliestInferred wsX4_isEarlier := goodIn_ca (goodIn_r _ [12, 13, 14, 15, 16, 17, 18, 19, 20, 21] (by decide +kernel) (by decide +kernel)) (goodIn_sub (fun _ h => List.mem_cons_of_mem _ (List.mem_append_right _ h)) (by decide +kernel))
set_option maxRecDepth 20000 in
theorem gX4_earliestInferred_X4_isEarlier : GoodIn wsX4_earliestInferred (wsV RX4 70 RX4 yX4_isEarlier wsX4_isEarlier) := goodIn_app (goodIn_of _ (by decide +kernel)) ggX4_earliestInferred_X4_isEarlier
theorem dX4_earliestInferred_0 : decode cX4_earliestInferred 0 = .ok (.iconst (-1), 1) := by decide +kernel
theorem dX4_earliestInferred_1 : decode cX4_earliestInferred 1 = .ok (.istore_n 1, 1) := by decide +kernel
theorem dX4_earliestInferred_2 : decode cX4_earliestInferred 2 = .ok (.iconst 0, 1) := by decide +kernel
theorem dX4_earliestInferred_3 : decode cX4_earliestInferred 3 = .ok (.istore_n 2, 1) := by decide +kernel
theorem dX4_earliestInferred_4 : decode cX4_earliestInferred 4 = .ok (.iload_n 2, 1) := by decide +kernel
theorem dX4_earliestInferred_5 : decode cX4_earliestInferred 5 = .ok (.aload_n 0, 1) := by decide +kernel
theorem dX4_earliestInferred_6 : decode cX4_earliestInferred 6 = .ok (.getfield 31, 3) := by decide +kernel
theorem dX4_earliestInferred_9 : decode cX4_earliestInferred 9 = .ok (.if_icmp .ge 42, 3) := by decide +kernel
theorem dX4_earliestInferred_12 : decode cX4_earliestInferred 12 = .ok (.aload_n 0, 1) := by decide +kernel
theorem dX4_earliestInferred_13 : decode cX4_earliestInferred 13 = .ok (.iload_n 2, 1) := by decide +kernel
theorem dX4_earliestInferred_14 : decode cX4_earliestInferred 14 = .ok (.invokevirtual 35, 3) := by decide +kernel
theorem dX4_earliestInferred_17 : decode cX4_earliestInferred 17 = .ok (.ifCond .eq 28, 3) := by decide +kernel
theorem dX4_earliestInferred_20 : decode cX4_earliestInferred 20 = .ok (.aload_n 0, 1) := by decide +kernel
theorem dX4_earliestInferred_21 : decode cX4_earliestInferred 21 = .ok (.getfield 24, 3) := by decide +kernel
theorem dX4_earliestInferred_24 : decode cX4_earliestInferred 24 = .ok (.iload_n 2, 1) := by decide +kernel
theorem dX4_earliestInferred_25 : decode cX4_earliestInferred 25 = .ok (.baload, 1) := by decide +kernel
theorem dX4_earliestInferred_26 : decode cX4_earliestInferred 26 = .ok (.ifCond .eq 19, 3) := by decide +kernel
theorem dX4_earliestInferred_29 : decode cX4_earliestInferred 29 = .ok (.iload_n 1, 1) := by decide +kernel
theorem dX4_earliestInferred_30 : decode cX4_earliestInferred 30 = .ok (.iconst (-1), 1) := by decide +kernel
theorem dX4_earliestInferred_31 : decode cX4_earliestInferred 31 = .ok (.if_icmp .eq 12, 3) := by decide +kernel
theorem dX4_earliestInferred_34 : decode cX4_earliestInferred 34 = .ok (.aload_n 0, 1) := by decide +kernel
theorem dX4_earliestInferred_35 : decode cX4_earliestInferred 35 = .ok (.iload_n 2, 1) := by decide +kernel
theorem dX4_earliestInferred_36 : decode cX4_earliestInferred 36 = .ok (.iload_n 1, 1) := by decide +kernel
theorem dX4_earliestInferred_37 : decode cX4_earliestInferred 37 = .ok (.invokevirtual 70, 3) := by decide +kernel
theorem dX4_earliestInferred_40 : decode cX4_earliestInferred 40 = .ok (.ifCond .eq 5, 3) := by decide +kernel
theorem dX4_earliestInferred_43 : decode cX4_earliestInferred 43 = .ok (.iload_n 2, 1) := by decide +kernel
theorem dX4_earliestInferred_44 : decode cX4_earliestInferred 44 = .ok (.istore_n 1, 1) := by decide +kernel
theorem dX4_earliestInferred_45 : decode cX4_earliestInferred 45 = .ok (.iinc 2 1, 3) := by decide +kernel
theorem dX4_earliestInferred_48 : decode cX4_earliestInferred 48 = .ok (.goto (-44), 3) := by decide +kernel
theorem dX4_earliestInferred_51 : decode cX4_earliestInferred 51 = .ok (.iload_n 1, 1) := by decide +kernel
theorem dX4_earliestInferred_52 : decode cX4_earliestInferred 52 = .ok (.ireturn, 1) := by decide +kernel
theorem dX4_isEarlier_0 : decode cX4_isEarlier 0 = .ok (.aload_n 0, 1) := by decide +kernel
theorem dX4_isEarlier_1 : decode cX4_isEarlier 1 = .ok (.getfield 15, 3) := by decide +kernel
theorem dX4_isEarlier_4 : decode cX4_isEarlier 4 = .ok (.iload_n 1, 1) := by decide +kernel
theorem dX4_isEarlier_5 : decode cX4_isEarlier 5 = .ok (.iaload, 1) := by decide +kernel
theorem dX4_isEarlier_6 : decode cX4_isEarlier 6 = .ok (.aload_n 0, 1) := by decide +kernel
theorem dX4_isEarlier_7 : decode cX4_isEarlier 7 = .ok (.getfield 15, 3) := by decide +kernel
theorem dX4_isEarlier_10 : decode cX4_isEarlier 10 = .ok (.iload_n 2, 1) := by decide +kernel
theorem dX4_isEarlier_11 : decode cX4_isEarlier 11 = .ok (.iaload, 1) := by decide +kernel
theorem dX4_isEarlier_12 : decode cX4_isEarlier 12 = .ok (.if_icmp .lt 33, 3) := by decide +kernel
theorem dX4_isEarlier_15 : decode cX4_isEarlier 15 = .ok (.aload_n 0, 1) := by decide +kernel
theorem dX4_isEarlier_16 : decode cX4_isEarlier 16 = .ok (.getfield 15, 3) := by decide +kernel
theorem dX4_isEarlier_19 : decode cX4_isEarlier 19 = .ok (.iload_n 1, 1) := by decide +kernel
theorem dX4_isEarlier_20 : decode cX4_isEarlier 20 = .ok (.iaload, 1) := by decide +kernel
theorem dX4_isEarlier_21 : decode cX4_isEarlier 21 = .ok (.aload_n 0, 1) := by decide +kernel
theorem dX4_isEarlier_22 : decode cX4_isEarlier 22 = .ok (.getfield 15, 3) := by decide +kernel
theorem dX4_isEarlier_25 : decode cX4_isEarlier 25 = .ok (.iload_n 2, 1) := by decide +kernel
theorem dX4_isEarlier_26 : decode cX4_isEarlier 26 = .ok (.iaload, 1) := by decide +kernel
theorem dX4_isEarlier_27 : decode cX4_isEarlier 27 = .ok (.if_icmp .ne 22, 3) := by decide +kernel
theorem dX4_isEarlier_30 : decode cX4_isEarlier 30 = .ok (.aload_n 0, 1) := by decide +kernel
theorem dX4_isEarlier_31 : decode cX4_isEarlier 31 = .ok (.getfield 9, 3) := by decide +kernel
theorem dX4_isEarlier_34 : decode cX4_isEarlier 34 = .ok (.iload_n 1, 1) := by decide +kernel
theorem dX4_isEarlier_35 : decode cX4_isEarlier 35 = .ok (.iaload, 1) := by decide +kernel
theorem dX4_isEarlier_36 : decode cX4_isEarlier 36 = .ok (.aload_n 0, 1) := by decide +kernel
theorem dX4_isEarlier_37 : decode cX4_isEarlier 37 = .ok (.getfield 9, 3) := by decide +kernel
theorem dX4_isEarlier_40 : decode cX4_isEarlier 40 = .ok (.iload_n 2, 1) := by decide +kernel
theorem dX4_isEarlier_41 : decode cX4_isEarlier 41 = .ok (.iaload, 1) := by decide +kernel
theorem dX4_isEarlier_42 : decode cX4_isEarlier 42 = .ok (.if_icmp .ge 7, 3) := by decide +kernel
theorem dX4_isEarlier_45 : decode cX4_isEarlier 45 = .ok (.iconst 1, 1) := by decide +kernel
theorem dX4_isEarlier_46 : decode cX4_isEarlier 46 = .ok (.goto 4, 3) := by decide +kernel
theorem dX4_isEarlier_49 : decode cX4_isEarlier 49 = .ok (.iconst 0, 1) := by decide +kernel
theorem dX4_isEarlier_50 : decode cX4_isEarlier 50 = .ok (.ireturn, 1) := by decide +kernel
set_option maxRecDepth 20000 in
theorem ggX4_gapBehind_X4_has : GoodIn wsX4_gapBehind wsX4_has := goodIn_ca (goodIn_r _ [8, 9, 10, 23, 24, 25, 26, 27, 28, 29] (by decide +kernel) (by decide +kernel)) (goodIn_sub (fun _ h => List.mem_cons_of_mem _ (List.mem_append_right _ h)) (by decide +kernel))
set_option maxRecDepth 20000 in
theorem gX4_gapBehind_X4_has : GoodIn wsX4_gapBehind (wsV RX4 35 RX4 yX4_has wsX4_has) := goodIn_app (goodIn_of _ (by decide +kernel)) ggX4_gapBehind_X4_has
set_option maxRecDepth 20000 in
theorem ggX4_gapBehind_X4_nextFirst : GoodIn wsX4_gapBehind wsX4_nextFirst := goodIn_ca (goodIn_r _ [14, 2, 15, 16, 17, 7, 18, 9, 19, 20, 21, 22, 1, 4, 5, 6, 8, 10, 23, 24, 25, 26, 27, 28, 29] (by decide +kernel) (by decide +kernel)) (goodIn_sub (fun _ h => List.mem_cons_of_mem _ (List.mem_append_right _ h)) (by decide +kernel))
set_option maxRecDepth 20000 in
theorem gX4_gapBehind_X4_nextFirst : GoodIn wsX4_gapBehind (wsV RX4 73 RX4 yX4_nextFirst wsX4_nextFirst) := goodIn_app (goodIn_of _ (by decide +kernel)) ggX4_gapBehind_X4_nextFirst
theorem dX4_gapBehind_0 : decode cX4_gapBehind 0 = .ok (.aload_n 0, 1) := by decide +kernel
theorem dX4_gapBehind_1 : decode cX4_gapBehind 1 = .ok (.iload_n 1, 1) := by decide +kernel
theorem dX4_gapBehind_2 : decode cX4_gapBehind 2 = .ok (.invokevirtual 35, 3) := by decide +kernel
theorem dX4_gapBehind_5 : decode cX4_gapBehind 5 = .ok (.ifCond .eq 29, 3) := by decide +kernel
theorem dX4_gapBehind_8 : decode cX4_gapBehind 8 = .ok (.aload_n 0, 1) := by decide +kernel
theorem dX4_gapBehind_9 : decode cX4_gapBehind 9 = .ok (.aload_n 0, 1) := by decide +kernel
theorem dX4_gapBehind_10 : decode cX4_gapBehind 10 = .ok (.getfield 9, 3) := by decide +kernel
theorem dX4_gapBehind_13 : decode cX4_gapBehind 13 = .ok (.iload_n 1, 1) := by decide +kernel
theorem dX4_gapBehind_14 : decode cX4_gapBehind 14 = .ok (.iaload, 1) := by decide +kernel
theorem dX4_gapBehind_15 : decode cX4_gapBehind 15 = .ok (.aload_n 0, 1) := by decide +kernel
theorem dX4_gapBehind_16 : decode cX4_gapBehind 16 = .ok (.getfield 15, 3) := by decide +kernel
theorem dX4_gapBehind_19 : decode cX4_gapBehind 19 = .ok (.iload_n 1, 1) := by decide +kernel
theorem dX4_gapBehind_20 : decode cX4_gapBehind 20 = .ok (.iaload, 1) := by decide +kernel
theorem dX4_gapBehind_21 : decode cX4_gapBehind 21 = .ok (.invokevirtual 73, 3) := by decide +kernel
theorem dX4_gapBehind_24 : decode cX4_gapBehind 24 = .ok (.aload_n 0, 1) := by decide +kernel
theorem dX4_gapBehind_25 : decode cX4_gapBehind 25 = .ok (.getfield 18, 3) := by decide +kernel
theorem dX4_gapBehind_28 : decode cX4_gapBehind 28 = .ok (.iload_n 1, 1) := by decide +kernel
theorem dX4_gapBehind_29 : decode cX4_gapBehind 29 = .ok (.iaload, 1) := by decide +kernel
theorem dX4_gapBehind_30 : decode cX4_gapBehind 30 = .ok (.isub, 1) := by decide +kernel
theorem dX4_gapBehind_31 : decode cX4_gapBehind 31 = .ok (.goto 4, 3) := by decide +kernel
theorem dX4_gapBehind_34 : decode cX4_gapBehind 34 = .ok (.iconst 0, 1) := by decide +kernel
theorem dX4_gapBehind_35 : decode cX4_gapBehind 35 = .ok (.ireturn, 1) := by decide +kernel
set_option maxRecDepth 20000 in
theorem ggX4_countGaps_X4_isOf : GoodIn wsX4_countGaps wsX4_isOf := goodIn_ca (goodIn_r _ [6, 7, 8, 9, 10, 5, 11, 1, 12, 27, 28, 29, 30, 31, 32, 33] (by decide +kernel) (by decide +kernel)) (goodIn_sub (fun _ h => List.mem_cons_of_mem _ (List.mem_append_right _ h)) (by decide +kernel))
set_option maxRecDepth 20000 in
theorem gX4_countGaps_X4_isOf : GoodIn wsX4_countGaps (wsV RX4 39 RX4 yX4_isOf wsX4_isOf) := goodIn_app (goodIn_of _ (by decide +kernel)) ggX4_countGaps_X4_isOf
set_option maxRecDepth 20000 in
theorem ggX4_countGaps_X4_gapBehind : GoodIn wsX4_countGaps wsX4_gapBehind := goodIn_ca (goodIn_r _ [16, 7, 17, 18, 8, 9, 10, 5, 11, 1, 12, 19, 20, 21, 22, 23, 24, 25, 26, 2, 3, 4, 6, 27, 28, 29, 30, 31, 32, 33] (by decide +kernel) (by decide +kernel)) (goodIn_sub (fun _ h => List.mem_cons_of_mem _ (List.mem_append_right _ h)) (by decide +kernel))
set_option maxRecDepth 20000 in
theorem gX4_countGaps_X4_gapBehind : GoodIn wsX4_countGaps (wsV RX4 76 RX4 yX4_gapBehind wsX4_gapBehind) := goodIn_app (goodIn_of _ (by decide +kernel)) ggX4_countGaps_X4_gapBehind
theorem dX4_countGaps_0 : decode cX4_countGaps 0 = .ok (.iconst 0, 1) := by decide +kernel
theorem dX4_countGaps_1 : decode cX4_countGaps 1 = .ok (.istore_n 2, 1) := by decide +kernel
theorem dX4_countGaps_2 : decode cX4_countGaps 2 = .ok (.iconst 0, 1) := by decide +kernel
theorem dX4_countGaps_3 : decode cX4_countGaps 3 = .ok (.istore_n 3, 1) := by decide +kernel
theorem dX4_countGaps_4 : decode cX4_countGaps 4 = .ok (.iload_n 3, 1) := by decide +kernel
theorem dX4_countGaps_5 : decode cX4_countGaps 5 = .ok (.aload_n 0, 1) := by decide +kernel
theorem dX4_countGaps_6 : decode cX4_countGaps 6 = .ok (.getfield 31, 3) := by decide +kernel
theorem dX4_countGaps_9 : decode cX4_countGaps 9 = .ok (.if_icmp .ge 29, 3) := by decide +kernel
theorem dX4_countGaps_12 : decode cX4_countGaps 12 = .ok (.aload_n 0, 1) := by decide +kernel
theorem dX4_countGaps_13 : decode cX4_countGaps 13 = .ok (.iload_n 3, 1) := by decide +kernel
theorem dX4_countGaps_14 : decode cX4_countGaps 14 = .ok (.iload_n 1, 1) := by decide +kernel
theorem dX4_countGaps_15 : decode cX4_countGaps 15 = .ok (.invokevirtual 39, 3) := by decide +kernel
theorem dX4_countGaps_18 : decode cX4_countGaps 18 = .ok (.ifCond .eq 14, 3) := by decide +kernel
theorem dX4_countGaps_21 : decode cX4_countGaps 21 = .ok (.aload_n 0, 1) := by decide +kernel
theorem dX4_countGaps_22 : decode cX4_countGaps 22 = .ok (.iload_n 3, 1) := by decide +kernel
theorem dX4_countGaps_23 : decode cX4_countGaps 23 = .ok (.invokevirtual 76, 3) := by decide +kernel
theorem dX4_countGaps_26 : decode cX4_countGaps 26 = .ok (.ifCond .le 6, 3) := by decide +kernel
theorem dX4_countGaps_29 : decode cX4_countGaps 29 = .ok (.iinc 2 1, 3) := by decide +kernel
theorem dX4_countGaps_32 : decode cX4_countGaps 32 = .ok (.iinc 3 1, 3) := by decide +kernel
theorem dX4_countGaps_35 : decode cX4_countGaps 35 = .ok (.goto (-31), 3) := by decide +kernel
theorem dX4_countGaps_38 : decode cX4_countGaps 38 = .ok (.iload_n 2, 1) := by decide +kernel
theorem dX4_countGaps_39 : decode cX4_countGaps 39 = .ok (.ireturn, 1) := by decide +kernel
set_option maxRecDepth 20000 in
theorem ggX4_sumGaps_X4_gapBehind : GoodIn wsX4_sumGaps wsX4_gapBehind := goodIn_ca (goodIn_r _ [6, 7, 8, 9, 10, 11, 12, 5, 13, 1, 14, 15, 16, 17, 18, 19, 20, 21, 22, 23, 24, 25, 26, 27, 28, 29, 30, 31, 32, 33] (by decide +kernel) (by decide +kernel)) (goodIn_sub (fun _ h => List.mem_cons_of_mem _ (List.mem_append_right _ h)) (by decide +kernel))
set_option maxRecDepth 20000 in
theorem gX4_sumGaps_X4_gapBehind : GoodIn wsX4_sumGaps (wsV RX4 76 RX4 yX4_gapBehind wsX4_gapBehind) := goodIn_app (goodIn_of _ (by decide +kernel)) ggX4_sumGaps_X4_gapBehind
theorem dX4_sumGaps_0 : decode cX4_sumGaps 0 = .ok (.iconst 0, 1) := by decide +kernel
theorem dX4_sumGaps_1 : decode cX4_sumGaps 1 = .ok (.istore_n 1, 1) := by decide +kernel
theorem dX4_sumGaps_2 : decode cX4_sumGaps 2 = .ok (.iconst 0, 1) := by decide +kernel
theorem dX4_sumGaps_3 : decode cX4_sumGaps 3 = .ok (.istore_n 2, 1) := by decide +kernel
theorem dX4_sumGaps_4 : decode cX4_sumGaps 4 = .ok (.iload_n 2, 1) := by decide +kernel
theorem dX4_sumGaps_5 : decode cX4_sumGaps 5 = .ok (.aload_n 0, 1) := by decide +kernel
theorem dX4_sumGaps_6 : decode cX4_sumGaps 6 = .ok (.getfield 31, 3) := by decide +kernel
theorem dX4_sumGaps_9 : decode cX4_sumGaps 9 = .ok (.if_icmp .ge 17, 3) := by decide +kernel
theorem dX4_sumGaps_12 : decode cX4_sumGaps 12 = .ok (.iload_n 1, 1) := by decide +kernel
theorem dX4_sumGaps_13 : decode cX4_sumGaps 13 = .ok (.aload_n 0, 1) := by decide +kernel
theorem dX4_sumGaps_14 : decode cX4_sumGaps 14 = .ok (.iload_n 2, 1) := by decide +kernel
theorem dX4_sumGaps_15 : decode cX4_sumGaps 15 = .ok (.invokevirtual 76, 3) := by decide +kernel
theorem dX4_sumGaps_18 : decode cX4_sumGaps 18 = .ok (.iadd, 1) := by decide +kernel
theorem dX4_sumGaps_19 : decode cX4_sumGaps 19 = .ok (.istore_n 1, 1) := by decide +kernel
theorem dX4_sumGaps_20 : decode cX4_sumGaps 20 = .ok (.iinc 2 1, 3) := by decide +kernel
theorem dX4_sumGaps_23 : decode cX4_sumGaps 23 = .ok (.goto (-19), 3) := by decide +kernel
theorem dX4_sumGaps_26 : decode cX4_sumGaps 26 = .ok (.iload_n 1, 1) := by decide +kernel
theorem dX4_sumGaps_27 : decode cX4_sumGaps 27 = .ok (.ireturn, 1) := by decide +kernel
set_option maxRecDepth 20000 in
theorem ggX4_aheadOfGap_X4_next : GoodIn wsX4_aheadOfGap wsX4_next := goodIn_ca (goodIn_r _ [7, 1, 2, 8, 9, 10, 6, 11, 12, 13, 14, 15, 16, 17, 27, 28, 29, 30, 31, 32, 33] (by decide +kernel) (by decide +kernel)) (goodIn_sub (fun _ h => List.mem_cons_of_mem _ (List.mem_append_right _ h)) (by decide +kernel))
set_option maxRecDepth 20000 in
theorem gX4_aheadOfGap_X4_next : GoodIn wsX4_aheadOfGap (wsV RX4 43 RX4 yX4_next wsX4_next) := goodIn_app (goodIn_of _ (by decide +kernel)) ggX4_aheadOfGap_X4_next
set_option maxRecDepth 20000 in
theorem ggX4_aheadOfGap_X4_gapBehind : GoodIn wsX4_aheadOfGap wsX4_gapBehind := goodIn_ca (goodIn_r _ [21, 12, 2, 22, 13, 14, 15, 6, 16, 1, 17, 23, 24, 25, 26, 3, 4, 5, 7, 8, 9, 10, 11, 27, 28, 29, 30, 31, 32, 33] (by decide +kernel) (by decide +kernel)) (goodIn_sub (fun _ h => List.mem_cons_of_mem _ (List.mem_append_right _ h)) (by decide +kernel))
set_option maxRecDepth 20000 in
theorem gX4_aheadOfGap_X4_gapBehind : GoodIn wsX4_aheadOfGap (wsV RX4 76 RX4 yX4_gapBehind wsX4_gapBehind) := goodIn_app (goodIn_of _ (by decide +kernel)) ggX4_aheadOfGap_X4_gapBehind
theorem dX4_aheadOfGap_0 : decode cX4_aheadOfGap 0 = .ok (.iconst 0, 1) := by decide +kernel
theorem dX4_aheadOfGap_1 : decode cX4_aheadOfGap 1 = .ok (.istore_n 3, 1) := by decide +kernel
theorem dX4_aheadOfGap_2 : decode cX4_aheadOfGap 2 = .ok (.aload_n 0, 1) := by decide +kernel
theorem dX4_aheadOfGap_3 : decode cX4_aheadOfGap 3 = .ok (.iload_n 1, 1) := by decide +kernel
theorem dX4_aheadOfGap_4 : decode cX4_aheadOfGap 4 = .ok (.iconst (-1), 1) := by decide +kernel
theorem dX4_aheadOfGap_5 : decode cX4_aheadOfGap 5 = .ok (.invokevirtual 43, 3) := by decide +kernel
theorem dX4_aheadOfGap_8 : decode cX4_aheadOfGap 8 = .ok (.istore 4, 2) := by decide +kernel
theorem dX4_aheadOfGap_10 : decode cX4_aheadOfGap 10 = .ok (.iconst 0, 1) := by decide +kernel
theorem dX4_aheadOfGap_11 : decode cX4_aheadOfGap 11 = .ok (.istore 5, 2) := by decide +kernel
theorem dX4_aheadOfGap_13 : decode cX4_aheadOfGap 13 = .ok (.iload 5, 2) := by decide +kernel
theorem dX4_aheadOfGap_15 : decode cX4_aheadOfGap 15 = .ok (.aload_n 0, 1) := by decide +kernel
theorem dX4_aheadOfGap_16 : decode cX4_aheadOfGap 16 = .ok (.getfield 31, 3) := by decide +kernel
theorem dX4_aheadOfGap_19 : decode cX4_aheadOfGap 19 = .ok (.if_icmp .ge 49, 3) := by decide +kernel
theorem dX4_aheadOfGap_22 : decode cX4_aheadOfGap 22 = .ok (.iload 4, 2) := by decide +kernel
theorem dX4_aheadOfGap_24 : decode cX4_aheadOfGap 24 = .ok (.iconst (-1), 1) := by decide +kernel
theorem dX4_aheadOfGap_25 : decode cX4_aheadOfGap 25 = .ok (.if_icmp .eq 43, 3) := by decide +kernel
theorem dX4_aheadOfGap_28 : decode cX4_aheadOfGap 28 = .ok (.aload_n 0, 1) := by decide +kernel
theorem dX4_aheadOfGap_29 : decode cX4_aheadOfGap 29 = .ok (.iload 4, 2) := by decide +kernel
theorem dX4_aheadOfGap_31 : decode cX4_aheadOfGap 31 = .ok (.invokevirtual 76, 3) := by decide +kernel
theorem dX4_aheadOfGap_34 : decode cX4_aheadOfGap 34 = .ok (.ifCond .le 14, 3) := by decide +kernel
theorem dX4_aheadOfGap_37 : decode cX4_aheadOfGap 37 = .ok (.iload_n 3, 1) := by decide +kernel
theorem dX4_aheadOfGap_38 : decode cX4_aheadOfGap 38 = .ok (.iload_n 2, 1) := by decide +kernel
theorem dX4_aheadOfGap_39 : decode cX4_aheadOfGap 39 = .ok (.if_icmp .ne 6, 3) := by decide +kernel
theorem dX4_aheadOfGap_42 : decode cX4_aheadOfGap 42 = .ok (.iload 4, 2) := by decide +kernel
theorem dX4_aheadOfGap_44 : decode cX4_aheadOfGap 44 = .ok (.ireturn, 1) := by decide +kernel
theorem dX4_aheadOfGap_45 : decode cX4_aheadOfGap 45 = .ok (.iinc 3 1, 3) := by decide +kernel
theorem dX4_aheadOfGap_48 : decode cX4_aheadOfGap 48 = .ok (.aload_n 0, 1) := by decide +kernel
theorem dX4_aheadOfGap_49 : decode cX4_aheadOfGap 49 = .ok (.iload_n 1, 1) := by decide +kernel
theorem dX4_aheadOfGap_50 : decode cX4_aheadOfGap 50 = .ok (.aload_n 0, 1) := by decide +kernel
theorem dX4_aheadOfGap_51 : decode cX4_aheadOfGap 51 = .ok (.getfield 15, 3) := by decide +kernel
theorem dX4_aheadOfGap_54 : decode cX4_aheadOfGap 54 = .ok (.iload 4, 2) := by decide +kernel
theorem dX4_aheadOfGap_56 : decode cX4_aheadOfGap 56 = .ok (.iaload, 1) := by decide +kernel
theorem dX4_aheadOfGap_57 : decode cX4_aheadOfGap 57 = .ok (.invokevirtual 43, 3) := by decide +kernel
theorem dX4_aheadOfGap_60 : decode cX4_aheadOfGap 60 = .ok (.istore 4, 2) := by decide +kernel
theorem dX4_aheadOfGap_62 : decode cX4_aheadOfGap 62 = .ok (.iinc 5 1, 3) := by decide +kernel
theorem dX4_aheadOfGap_65 : decode cX4_aheadOfGap 65 = .ok (.goto (-52), 3) := by decide +kernel
theorem dX4_aheadOfGap_68 : decode cX4_aheadOfGap 68 = .ok (.iconst (-1), 1) := by decide +kernel
theorem dX4_aheadOfGap_69 : decode cX4_aheadOfGap 69 = .ok (.ireturn, 1) := by decide +kernel
set_option maxRecDepth 20000 in
theorem ggX4_sumDays_X4_isOf : GoodIn wsX4_sumDays wsX4_isOf := goodIn_ca (goodIn_r _ [6, 7, 8, 9, 10, 5, 11, 1, 12, 19, 20, 21, 22, 23, 24, 25] (by decide +kernel) (by decide +kernel)) (goodIn_sub (fun _ h => List.mem_cons_of_mem _ (List.mem_append_right _ h)) (by decide +kernel))
set_option maxRecDepth 20000 in
theorem gX4_sumDays_X4_isOf : GoodIn wsX4_sumDays (wsV RX4 39 RX4 yX4_isOf wsX4_isOf) := goodIn_app (goodIn_of _ (by decide +kernel)) ggX4_sumDays_X4_isOf
set_option maxRecDepth 20000 in
theorem ggX4_sumDays_X4_days : GoodIn wsX4_sumDays wsX4_days := goodIn_ca (goodIn_r _ [16, 17, 18, 8, 9, 10, 5, 11, 1, 12, 19, 20, 21, 22, 23, 24, 25] (by decide +kernel) (by decide +kernel)) (goodIn_sub (fun _ h => List.mem_cons_of_mem _ (List.mem_append_right _ h)) (by decide +kernel))
set_option maxRecDepth 20000 in
theorem gX4_sumDays_X4_days : GoodIn wsX4_sumDays (wsV RX4 80 RX4 yX4_days wsX4_days) := goodIn_app (goodIn_of _ (by decide +kernel)) ggX4_sumDays_X4_days
theorem dX4_sumDays_0 : decode cX4_sumDays 0 = .ok (.iconst 0, 1) := by decide +kernel
theorem dX4_sumDays_1 : decode cX4_sumDays 1 = .ok (.istore_n 2, 1) := by decide +kernel
theorem dX4_sumDays_2 : decode cX4_sumDays 2 = .ok (.iconst 0, 1) := by decide +kernel
theorem dX4_sumDays_3 : decode cX4_sumDays 3 = .ok (.istore_n 3, 1) := by decide +kernel
theorem dX4_sumDays_4 : decode cX4_sumDays 4 = .ok (.iload_n 3, 1) := by decide +kernel
theorem dX4_sumDays_5 : decode cX4_sumDays 5 = .ok (.aload_n 0, 1) := by decide +kernel
theorem dX4_sumDays_6 : decode cX4_sumDays 6 = .ok (.getfield 31, 3) := by decide +kernel
theorem dX4_sumDays_9 : decode cX4_sumDays 9 = .ok (.if_icmp .ge 26, 3) := by decide +kernel
theorem dX4_sumDays_12 : decode cX4_sumDays 12 = .ok (.aload_n 0, 1) := by decide +kernel
theorem dX4_sumDays_13 : decode cX4_sumDays 13 = .ok (.iload_n 3, 1) := by decide +kernel
theorem dX4_sumDays_14 : decode cX4_sumDays 14 = .ok (.iload_n 1, 1) := by decide +kernel
theorem dX4_sumDays_15 : decode cX4_sumDays 15 = .ok (.invokevirtual 39, 3) := by decide +kernel
theorem dX4_sumDays_18 : decode cX4_sumDays 18 = .ok (.ifCond .eq 11, 3) := by decide +kernel
theorem dX4_sumDays_21 : decode cX4_sumDays 21 = .ok (.iload_n 2, 1) := by decide +kernel
theorem dX4_sumDays_22 : decode cX4_sumDays 22 = .ok (.aload_n 0, 1) := by decide +kernel
theorem dX4_sumDays_23 : decode cX4_sumDays 23 = .ok (.iload_n 3, 1) := by decide +kernel
theorem dX4_sumDays_24 : decode cX4_sumDays 24 = .ok (.invokevirtual 80, 3) := by decide +kernel
theorem dX4_sumDays_27 : decode cX4_sumDays 27 = .ok (.iadd, 1) := by decide +kernel
theorem dX4_sumDays_28 : decode cX4_sumDays 28 = .ok (.istore_n 2, 1) := by decide +kernel
theorem dX4_sumDays_29 : decode cX4_sumDays 29 = .ok (.iinc 3 1, 3) := by decide +kernel
theorem dX4_sumDays_32 : decode cX4_sumDays 32 = .ok (.goto (-28), 3) := by decide +kernel
theorem dX4_sumDays_35 : decode cX4_sumDays 35 = .ok (.iload_n 2, 1) := by decide +kernel
theorem dX4_sumDays_36 : decode cX4_sumDays 36 = .ok (.ireturn, 1) := by decide +kernel
set_option maxRecDepth 20000 in
theorem ggX4_fill_X4_onDay : GoodIn wsX4_fill wsX4_onDay := goodIn_ca (goodIn_r _ [7, 1, 8, 2, 9, 10, 11, 6, 12, 13, 14, 15, 16, 17, 18, 19, 20, 21, 22, 23, 24, 25] (by decide +kernel) (by decide +kernel)) (goodIn_sub (fun _ h => List.mem_cons_of_mem _ (List.mem_append_right _ h)) (by decide +kernel))
set_option maxRecDepth 20000 in
theorem gX4_fill_X4_onDay : GoodIn wsX4_fill (wsV RX4 47 RX4 yX4_onDay wsX4_onDay) := goodIn_app (goodIn_of _ (by decide +kernel)) ggX4_fill_X4_onDay
theorem dX4_fill_0 : decode cX4_fill 0 = .ok (.iload_n 2, 1) := by decide +kernel
theorem dX4_fill_1 : decode cX4_fill 1 = .ok (.istore 4, 2) := by decide +kernel
theorem dX4_fill_3 : decode cX4_fill 3 = .ok (.iconst 0, 1) := by decide +kernel
theorem dX4_fill_4 : decode cX4_fill 4 = .ok (.istore 5, 2) := by decide +kernel
theorem dX4_fill_6 : decode cX4_fill 6 = .ok (.iload 5, 2) := by decide +kernel
theorem dX4_fill_8 : decode cX4_fill 8 = .ok (.aload_n 0, 1) := by decide +kernel
theorem dX4_fill_9 : decode cX4_fill 9 = .ok (.getfield 31, 3) := by decide +kernel
theorem dX4_fill_12 : decode cX4_fill 12 = .ok (.if_icmp .ge 41, 3) := by decide +kernel
theorem dX4_fill_15 : decode cX4_fill 15 = .ok (.iload 4, 2) := by decide +kernel
theorem dX4_fill_17 : decode cX4_fill 17 = .ok (.iload_n 3, 1) := by decide +kernel
theorem dX4_fill_18 : decode cX4_fill 18 = .ok (.if_icmp .gt 35, 3) := by decide +kernel
theorem dX4_fill_21 : decode cX4_fill 21 = .ok (.aload_n 0, 1) := by decide +kernel
theorem dX4_fill_22 : decode cX4_fill 22 = .ok (.iload_n 1, 1) := by decide +kernel
theorem dX4_fill_23 : decode cX4_fill 23 = .ok (.iload 4, 2) := by decide +kernel
theorem dX4_fill_25 : decode cX4_fill 25 = .ok (.invokevirtual 47, 3) := by decide +kernel
theorem dX4_fill_28 : decode cX4_fill 28 = .ok (.istore 6, 2) := by decide +kernel
theorem dX4_fill_30 : decode cX4_fill 30 = .ok (.iload 6, 2) := by decide +kernel
theorem dX4_fill_32 : decode cX4_fill 32 = .ok (.iconst (-1), 1) := by decide +kernel
theorem dX4_fill_33 : decode cX4_fill 33 = .ok (.if_icmp .ne 5, 3) := by decide +kernel
theorem dX4_fill_36 : decode cX4_fill 36 = .ok (.iconst 0, 1) := by decide +kernel
theorem dX4_fill_37 : decode cX4_fill 37 = .ok (.ireturn, 1) := by decide +kernel
theorem dX4_fill_38 : decode cX4_fill 38 = .ok (.aload_n 0, 1) := by decide +kernel
theorem dX4_fill_39 : decode cX4_fill 39 = .ok (.getfield 18, 3) := by decide +kernel
theorem dX4_fill_42 : decode cX4_fill 42 = .ok (.iload 6, 2) := by decide +kernel
theorem dX4_fill_44 : decode cX4_fill 44 = .ok (.iaload, 1) := by decide +kernel
theorem dX4_fill_45 : decode cX4_fill 45 = .ok (.istore 4, 2) := by decide +kernel
theorem dX4_fill_47 : decode cX4_fill 47 = .ok (.iinc 5 1, 3) := by decide +kernel
theorem dX4_fill_50 : decode cX4_fill 50 = .ok (.goto (-44), 3) := by decide +kernel
theorem dX4_fill_53 : decode cX4_fill 53 = .ok (.iload 4, 2) := by decide +kernel
theorem dX4_fill_55 : decode cX4_fill 55 = .ok (.iload_n 3, 1) := by decide +kernel
theorem dX4_fill_56 : decode cX4_fill 56 = .ok (.if_icmp .le 7, 3) := by decide +kernel
theorem dX4_fill_59 : decode cX4_fill 59 = .ok (.iconst 1, 1) := by decide +kernel
theorem dX4_fill_60 : decode cX4_fill 60 = .ok (.goto 4, 3) := by decide +kernel
theorem dX4_fill_63 : decode cX4_fill 63 = .ok (.iconst 0, 1) := by decide +kernel
theorem dX4_fill_64 : decode cX4_fill 64 = .ok (.ireturn, 1) := by decide +kernel
theorem dX4_copy_0 : decode cX4_copy 0 = .ok (.iconst 0, 1) := by decide +kernel
theorem dX4_copy_1 : decode cX4_copy 1 = .ok (.istore_n 2, 1) := by decide +kernel
theorem dX4_copy_2 : decode cX4_copy 2 = .ok (.iload_n 2, 1) := by decide +kernel
theorem dX4_copy_3 : decode cX4_copy 3 = .ok (.aload_n 1, 1) := by decide +kernel
theorem dX4_copy_4 : decode cX4_copy 4 = .ok (.getfield 31, 3) := by decide +kernel
theorem dX4_copy_7 : decode cX4_copy 7 = .ok (.if_icmp .ge 81, 3) := by decide +kernel
theorem dX4_copy_10 : decode cX4_copy 10 = .ok (.aload_n 0, 1) := by decide +kernel
theorem dX4_copy_11 : decode cX4_copy 11 = .ok (.getfield 9, 3) := by decide +kernel
theorem dX4_copy_14 : decode cX4_copy 14 = .ok (.iload_n 2, 1) := by decide +kernel
theorem dX4_copy_15 : decode cX4_copy 15 = .ok (.aload_n 1, 1) := by decide +kernel
theorem dX4_copy_16 : decode cX4_copy 16 = .ok (.getfield 9, 3) := by decide +kernel
theorem dX4_copy_19 : decode cX4_copy 19 = .ok (.iload_n 2, 1) := by decide +kernel
theorem dX4_copy_20 : decode cX4_copy 20 = .ok (.iaload, 1) := by decide +kernel
theorem dX4_copy_21 : decode cX4_copy 21 = .ok (.iastore, 1) := by decide +kernel
theorem dX4_copy_22 : decode cX4_copy 22 = .ok (.aload_n 0, 1) := by decide +kernel
theorem dX4_copy_23 : decode cX4_copy 23 = .ok (.getfield 15, 3) := by decide +kernel
theorem dX4_copy_26 : decode cX4_copy 26 = .ok (.iload_n 2, 1) := by decide +kernel
theorem dX4_copy_27 : decode cX4_copy 27 = .ok (.aload_n 1, 1) := by decide +kernel
theorem dX4_copy_28 : decode cX4_copy 28 = .ok (.getfield 15, 3) := by decide +kernel
theorem dX4_copy_31 : decode cX4_copy 31 = .ok (.iload_n 2, 1) := by decide +kernel
theorem dX4_copy_32 : decode cX4_copy 32 = .ok (.iaload, 1) := by decide +kernel
theorem dX4_copy_33 : decode cX4_copy 33 = .ok (.iastore, 1) := by decide +kernel
theorem dX4_copy_34 : decode cX4_copy 34 = .ok (.aload_n 0, 1) := by decide +kernel
theorem dX4_copy_35 : decode cX4_copy 35 = .ok (.getfield 18, 3) := by decide +kernel
theorem dX4_copy_38 : decode cX4_copy 38 = .ok (.iload_n 2, 1) := by decide +kernel
theorem dX4_copy_39 : decode cX4_copy 39 = .ok (.aload_n 1, 1) := by decide +kernel
theorem dX4_copy_40 : decode cX4_copy 40 = .ok (.getfield 18, 3) := by decide +kernel
theorem dX4_copy_43 : decode cX4_copy 43 = .ok (.iload_n 2, 1) := by decide +kernel
theorem dX4_copy_44 : decode cX4_copy 44 = .ok (.iaload, 1) := by decide +kernel
theorem dX4_copy_45 : decode cX4_copy 45 = .ok (.iastore, 1) := by decide +kernel
theorem dX4_copy_46 : decode cX4_copy 46 = .ok (.aload_n 0, 1) := by decide +kernel
theorem dX4_copy_47 : decode cX4_copy 47 = .ok (.getfield 21, 3) := by decide +kernel
theorem dX4_copy_50 : decode cX4_copy 50 = .ok (.iload_n 2, 1) := by decide +kernel
theorem dX4_copy_51 : decode cX4_copy 51 = .ok (.aload_n 1, 1) := by decide +kernel
theorem dX4_copy_52 : decode cX4_copy 52 = .ok (.getfield 21, 3) := by decide +kernel
theorem dX4_copy_55 : decode cX4_copy 55 = .ok (.iload_n 2, 1) := by decide +kernel
theorem dX4_copy_56 : decode cX4_copy 56 = .ok (.iaload, 1) := by decide +kernel
theorem dX4_copy_57 : decode cX4_copy 57 = .ok (.iastore, 1) := by decide +kernel
theorem dX4_copy_58 : decode cX4_copy 58 = .ok (.aload_n 0, 1) := by decide +kernel
theorem dX4_copy_59 : decode cX4_copy 59 = .ok (.getfield 24, 3) := by decide +kernel
theorem dX4_copy_62 : decode cX4_copy 62 = .ok (.iload_n 2, 1) := by decide +kernel
theorem dX4_copy_63 : decode cX4_copy 63 = .ok (.aload_n 1, 1) := by decide +kernel
theorem dX4_copy_64 : decode cX4_copy 64 = .ok (.getfield 24, 3) := by decide +kernel
theorem dX4_copy_67 : decode cX4_copy 67 = .ok (.iload_n 2, 1) := by decide +kernel
theorem dX4_copy_68 : decode cX4_copy 68 = .ok (.baload, 1) := by decide +kernel
theorem dX4_copy_69 : decode cX4_copy 69 = .ok (.bastore, 1) := by decide +kernel
theorem dX4_copy_70 : decode cX4_copy 70 = .ok (.aload_n 0, 1) := by decide +kernel
theorem dX4_copy_71 : decode cX4_copy 71 = .ok (.getfield 28, 3) := by decide +kernel
theorem dX4_copy_74 : decode cX4_copy 74 = .ok (.iload_n 2, 1) := by decide +kernel
theorem dX4_copy_75 : decode cX4_copy 75 = .ok (.aload_n 1, 1) := by decide +kernel
theorem dX4_copy_76 : decode cX4_copy 76 = .ok (.getfield 28, 3) := by decide +kernel
theorem dX4_copy_79 : decode cX4_copy 79 = .ok (.iload_n 2, 1) := by decide +kernel
theorem dX4_copy_80 : decode cX4_copy 80 = .ok (.baload, 1) := by decide +kernel
theorem dX4_copy_81 : decode cX4_copy 81 = .ok (.bastore, 1) := by decide +kernel
theorem dX4_copy_82 : decode cX4_copy 82 = .ok (.iinc 2 1, 3) := by decide +kernel
theorem dX4_copy_85 : decode cX4_copy 85 = .ok (.goto (-83), 3) := by decide +kernel
theorem dX4_copy_88 : decode cX4_copy 88 = .ok (.aload_n 0, 1) := by decide +kernel
theorem dX4_copy_89 : decode cX4_copy 89 = .ok (.aload_n 1, 1) := by decide +kernel
theorem dX4_copy_90 : decode cX4_copy 90 = .ok (.getfield 31, 3) := by decide +kernel
theorem dX4_copy_93 : decode cX4_copy 93 = .ok (.putfield 31, 3) := by decide +kernel
theorem dX4_copy_96 : decode cX4_copy 96 = .ok (.return_, 1) := by decide +kernel
set_option maxRecDepth 20000 in
theorem ggX5_init_X2_init : GoodIn wsX5_init wsX2_init := goodIn_r _ [23, 24, 2, 3, 25, 10, 11, 26, 27, 28, 29, 30, 31, 14, 15, 32, 33, 34, 35, 36, 37, 38, 39, 40, 41, 42, 43, 44, 45, 46, 47, 48, 49, 50, 51, 52, 53, 54, 55, 56, 73, 74, 75, 76, 77, 78, 79, 62, 63, 64, 87, 88, 89, 90, 91, 80, 81, 82, 83] (by decide +kernel) (by decide +kernel)
set_option maxRecDepth 20000 in
theorem gX5_init_X2_init_n9 : GoodIn wsX5_init (wsX2_init) := ggX5_init_X2_init
set_option maxRecDepth 20000 in
theorem ggX5_init_X4_init : GoodIn wsX5_init wsX4_init := goodIn_r _ [34, 35, 2, 3, 36, 37, 38, 39, 40, 41, 42, 43, 73, 74, 75, 76, 77, 78, 79] (by decide +kernel) (by decide +kernel)
set_option maxRecDepth 20000 in
theorem gX5_init_X4_init_n21 : GoodIn wsX5_init (wsX4_init) := ggX5_init_X4_init
set_option maxRecDepth 20000 in
theorem ggX5_init_X1_init : GoodIn wsX5_init wsX1_init := goodIn_r _ [52, 53, 2, 3, 36, 54, 55, 56, 80, 81, 82, 83] (by decide +kernel) (by decide +kernel)
set_option maxRecDepth 20000 in
theorem gX5_init_X1_init_n28 : GoodIn wsX5_init (wsX1_init) := ggX5_init_X1_init
set_option maxRecDepth 20000 in
theorem ggX5_init_X3_init : GoodIn wsX5_init wsX3_init := goodIn_r _ [58, 59, 2, 3, 60, 61, 84, 85, 86] (by decide +kernel) (by decide +kernel)
set_option maxRecDepth 20000 in
theorem gX5_init_X3_init_n35 : GoodIn wsX5_init (wsX3_init) := ggX5_init_X3_init
theorem dX5_init_0 : decode cX5_init 0 = .ok (.aload_n 0, 1) := by decide +kernel
theorem dX5_init_1 : decode cX5_init 1 = .ok (.invokespecial 1, 3) := by decide +kernel
theorem dX5_init_4 : decode cX5_init 4 = .ok (.aload_n 0, 1) := by decide +kernel
theorem dX5_init_5 : decode cX5_init 5 = .ok (.new 7, 3) := by decide +kernel
theorem dX5_init_8 : decode cX5_init 8 = .ok (.dup, 1) := by decide +kernel
theorem dX5_init_9 : decode cX5_init 9 = .ok (.invokespecial 9, 3) := by decide +kernel
theorem dX5_init_12 : decode cX5_init 12 = .ok (.putfield 10, 3) := by decide +kernel
theorem dX5_init_15 : decode cX5_init 15 = .ok (.aload_n 0, 1) := by decide +kernel
theorem dX5_init_16 : decode cX5_init 16 = .ok (.new 7, 3) := by decide +kernel
theorem dX5_init_19 : decode cX5_init 19 = .ok (.dup, 1) := by decide +kernel
theorem dX5_init_20 : decode cX5_init 20 = .ok (.invokespecial 9, 3) := by decide +kernel
theorem dX5_init_23 : decode cX5_init 23 = .ok (.putfield 16, 3) := by decide +kernel
theorem dX5_init_26 : decode cX5_init 26 = .ok (.aload_n 0, 1) := by decide +kernel
theorem dX5_init_27 : decode cX5_init 27 = .ok (.new 19, 3) := by decide +kernel
theorem dX5_init_30 : decode cX5_init 30 = .ok (.dup, 1) := by decide +kernel
theorem dX5_init_31 : decode cX5_init 31 = .ok (.invokespecial 21, 3) := by decide +kernel
theorem dX5_init_34 : decode cX5_init 34 = .ok (.putfield 22, 3) := by decide +kernel
theorem dX5_init_37 : decode cX5_init 37 = .ok (.aload_n 0, 1) := by decide +kernel
theorem dX5_init_38 : decode cX5_init 38 = .ok (.new 26, 3) := by decide +kernel
theorem dX5_init_41 : decode cX5_init 41 = .ok (.dup, 1) := by decide +kernel
theorem dX5_init_42 : decode cX5_init 42 = .ok (.invokespecial 28, 3) := by decide +kernel
theorem dX5_init_45 : decode cX5_init 45 = .ok (.putfield 29, 3) := by decide +kernel
theorem dX5_init_48 : decode cX5_init 48 = .ok (.aload_n 0, 1) := by decide +kernel
theorem dX5_init_49 : decode cX5_init 49 = .ok (.new 33, 3) := by decide +kernel
theorem dX5_init_52 : decode cX5_init 52 = .ok (.dup, 1) := by decide +kernel
theorem dX5_init_53 : decode cX5_init 53 = .ok (.invokespecial 35, 3) := by decide +kernel
theorem dX5_init_56 : decode cX5_init 56 = .ok (.putfield 36, 3) := by decide +kernel
theorem dX5_init_59 : decode cX5_init 59 = .ok (.aload_n 0, 1) := by decide +kernel
theorem dX5_init_60 : decode cX5_init 60 = .ok (.iconst (-1), 1) := by decide +kernel
theorem dX5_init_61 : decode cX5_init 61 = .ok (.putfield 40, 3) := by decide +kernel
theorem dX5_init_64 : decode cX5_init 64 = .ok (.return_, 1) := by decide +kernel
set_option maxRecDepth 20000 in
theorem ggX5_change_X5_checkKey : GoodIn wsX5_change wsX5_checkKey := goodIn_ca (goodIn_r _ [8, 9, 10] (by decide +kernel) (by decide +kernel)) (goodIn_sub (fun _ h => List.mem_cons_of_mem _ (List.mem_append_left _ (List.mem_append_left _ (List.mem_append_right _ h)))) (by decide +kernel))
set_option maxRecDepth 20000 in
theorem gX5_change_X5_checkKey : GoodIn wsX5_change (va_wsS RX5 44 yX5_checkKey wsX5_checkKey) := goodIn_app (goodIn_of _ (by decide +kernel)) ggX5_change_X5_checkKey
set_option maxRecDepth 20000 in
theorem ggX5_change_X5_checkDay : GoodIn wsX5_change wsX5_checkDay := goodIn_ca (goodIn_r _ [13, 14, 15] (by decide +kernel) (by decide +kernel)) (goodIn_sub (fun _ h => List.mem_cons_of_mem _ (List.mem_append_left _ (List.mem_append_right _ h))) (by decide +kernel))
set_option maxRecDepth 20000 in
theorem gX5_change_X5_checkDay : GoodIn wsX5_change (va_wsS RX5 48 yX5_checkDay wsX5_checkDay) := goodIn_app (goodIn_of _ (by decide +kernel)) ggX5_change_X5_checkDay
set_option maxRecDepth 20000 in
theorem ggX5_change_X4_put : GoodIn wsX5_change wsX4_put := goodIn_ca (goodIn_r _ [20, 21, 22, 23, 24, 25, 26, 19, 27, 28, 29, 30, 31, 32, 33, 34, 35, 36, 37, 38, 39, 40, 41, 42, 43, 44, 45, 46, 47, 48, 49, 50, 51, 52, 53, 54, 55, 56, 57, 58, 59, 87, 88, 89, 90, 91, 92, 93] (by decide +kernel) (by decide +kernel)) (goodIn_sub (fun _ h => List.mem_cons_of_mem _ (List.mem_append_right _ h)) (by decide +kernel))
set_option maxRecDepth 20000 in
theorem gX5_change_X4_put : GoodIn wsX5_change (wsV RX5 54 RX4 yX4_put wsX4_put) := goodIn_app (goodIn_of _ (by decide +kernel)) ggX5_change_X4_put
set_option maxRecDepth 20000 in
theorem ggX5_change_X5_pointFacts : GoodIn wsX5_change wsX5_pointFacts := goodIn_ca (goodIn_r _ [63, 3, 64, 4, 65, 66, 67, 68, 69, 70, 71, 72, 73, 74, 75, 25, 26, 19, 27, 28, 21, 29, 30, 31, 32, 33, 34, 35, 36, 37, 38, 39, 76, 77, 78, 79, 80, 81, 82, 83, 84, 85, 86, 94, 95, 96, 97, 98, 87, 88, 89, 90, 91, 92, 93] (by decide +kernel) (by decide +kernel)) (goodIn_sub (fun _ h => List.mem_cons_of_mem _ (List.mem_append_right _ h)) (by decide +kernel))
set_option maxRecDepth 20000 in
theorem gX5_change_X5_pointFacts : GoodIn wsX5_change (wsV RX5 61 RX5 yX5_pointFacts wsX5_pointFacts) := goodIn_app (goodIn_of _ (by decide +kernel)) ggX5_change_X5_pointFacts
theorem dX5_change_0 : decode cX5_change 0 = .ok (.iload_n 1, 1) := by decide +kernel
theorem dX5_change_1 : decode cX5_change 1 = .ok (.invokestatic 44, 3) := by decide +kernel
theorem dX5_change_4 : decode cX5_change 4 = .ok (.iload_n 2, 1) := by decide +kernel
theorem dX5_change_5 : decode cX5_change 5 = .ok (.invokestatic 48, 3) := by decide +kernel
theorem dX5_change_8 : decode cX5_change 8 = .ok (.aload_n 0, 1) := by decide +kernel
theorem dX5_change_9 : decode cX5_change 9 = .ok (.getfield 10, 3) := by decide +kernel
theorem dX5_change_12 : decode cX5_change 12 = .ok (.getfield 51, 3) := by decide +kernel
theorem dX5_change_15 : decode cX5_change 15 = .ok (.iload_n 1, 1) := by decide +kernel
theorem dX5_change_16 : decode cX5_change 16 = .ok (.iload_n 2, 1) := by decide +kernel
theorem dX5_change_17 : decode cX5_change 17 = .ok (.iload_n 3, 1) := by decide +kernel
theorem dX5_change_18 : decode cX5_change 18 = .ok (.invokevirtual 54, 3) := by decide +kernel
theorem dX5_change_21 : decode cX5_change 21 = .ok (.istore 4, 2) := by decide +kernel
theorem dX5_change_23 : decode cX5_change 23 = .ok (.iload 4, 2) := by decide +kernel
theorem dX5_change_25 : decode cX5_change 25 = .ok (.iconst (-1), 1) := by decide +kernel
theorem dX5_change_26 : decode cX5_change 26 = .ok (.if_icmp .ne 11, 3) := by decide +kernel
theorem dX5_change_29 : decode cX5_change 29 = .ok (.new 58, 3) := by decide +kernel
theorem dX5_change_32 : decode cX5_change 32 = .ok (.dup, 1) := by decide +kernel
theorem dX5_change_33 : decode cX5_change 33 = .ok (.invokespecial 60, 3) := by decide +kernel
theorem dX5_change_36 : decode cX5_change 36 = .ok (.athrow, 1) := by decide +kernel
theorem dX5_change_37 : decode cX5_change 37 = .ok (.aload_n 0, 1) := by decide +kernel
theorem dX5_change_38 : decode cX5_change 38 = .ok (.invokevirtual 61, 3) := by decide +kernel
theorem dX5_change_41 : decode cX5_change 41 = .ok (.iload 4, 2) := by decide +kernel
theorem dX5_change_43 : decode cX5_change 43 = .ok (.ireturn, 1) := by decide +kernel
set_option maxRecDepth 20000 in
theorem ggX5_addFact_X5_checkKey : GoodIn wsX5_addFact wsX5_checkKey := goodIn_ca (goodIn_r _ [9, 10, 11] (by decide +kernel) (by decide +kernel)) (goodIn_sub (fun _ h => List.mem_cons_of_mem _ (List.mem_append_left _ (List.mem_append_left _ (List.mem_append_right _ h)))) (by decide +kernel))
set_option maxRecDepth 20000 in
theorem gX5_addFact_X5_checkKey : GoodIn wsX5_addFact (va_wsS RX5 44 yX5_checkKey wsX5_checkKey) := goodIn_app (goodIn_of _ (by decide +kernel)) ggX5_addFact_X5_checkKey
set_option maxRecDepth 20000 in
theorem ggX5_addFact_X5_checkDay : GoodIn wsX5_addFact wsX5_checkDay := goodIn_ca (goodIn_r _ [14, 15, 16] (by decide +kernel) (by decide +kernel)) (goodIn_sub (fun _ h => List.mem_cons_of_mem _ (List.mem_append_left _ (List.mem_append_right _ h))) (by decide +kernel))
set_option maxRecDepth 20000 in
theorem gX5_addFact_X5_checkDay : GoodIn wsX5_addFact (va_wsS RX5 48 yX5_checkDay wsX5_checkDay) := goodIn_app (goodIn_of _ (by decide +kernel)) ggX5_addFact_X5_checkDay
set_option maxRecDepth 20000 in
theorem ggX5_addFact_X0_isFull : GoodIn wsX5_addFact wsX0_isFull := goodIn_r _ [21, 22, 85, 86, 87, 88, 89] (by decide +kernel) (by decide +kernel)
set_option maxRecDepth 20000 in
theorem gX5_addFact_X0_isFull : GoodIn wsX5_addFact (wsV RX5 68 RX0 yX0_isFull wsX0_isFull) := goodIn_app (goodIn_of _ (by decide +kernel)) ggX5_addFact_X0_isFull
set_option maxRecDepth 20000 in
theorem ggX5_addFact_X4_cover : GoodIn wsX5_addFact wsX4_cover := goodIn_ca (goodIn_r _ [27, 28, 29, 30, 31, 32, 26, 33, 34, 35, 36, 37, 38, 39, 40, 41, 42, 43, 44, 45, 46, 47, 48, 49, 50, 51, 52, 53, 54, 90, 91, 92, 93, 94, 95, 96] (by decide +kernel) (by decide +kernel)) (goodIn_sub (fun _ h => List.mem_cons_of_mem _ (List.mem_append_right _ h)) (by decide +kernel))
set_option maxRecDepth 20000 in
theorem gX5_addFact_X4_cover : GoodIn wsX5_addFact (wsV RX5 74 RX4 yX4_cover wsX4_cover) := goodIn_app (goodIn_of _ (by decide +kernel)) ggX5_addFact_X4_cover
set_option maxRecDepth 20000 in
theorem ggX5_addFact_X5_pointFacts : GoodIn wsX5_addFact wsX5_pointFacts := goodIn_ca (goodIn_r _ [58, 3, 4, 5, 59, 60, 61, 62, 20, 63, 22, 64, 65, 66, 67, 31, 32, 26, 33, 34, 29, 35, 36, 37, 38, 39, 40, 41, 42, 43, 44, 45, 74, 75, 76, 77, 78, 79, 80, 81, 82, 83, 84, 85, 86, 87, 88, 89, 90, 91, 92, 93, 94, 95, 96] (by decide +kernel) (by decide +kernel)) (goodIn_sub (fun _ h => List.mem_cons_of_mem _ (List.mem_append_right _ h)) (by decide +kernel))
set_option maxRecDepth 20000 in
theorem gX5_addFact_X5_pointFacts : GoodIn wsX5_addFact (wsV RX5 61 RX5 yX5_pointFacts wsX5_pointFacts) := goodIn_app (goodIn_of _ (by decide +kernel)) ggX5_addFact_X5_pointFacts
set_option maxRecDepth 20000 in
theorem ggX5_addFact_X0_add : GoodIn wsX5_addFact wsX0_add := goodIn_ca (goodIn_r _ [71, 64, 22, 65, 72, 66, 73, 18, 19, 20, 21, 85, 86, 87, 88, 89] (by decide +kernel) (by decide +kernel)) (goodIn_sub (fun _ h => List.mem_cons_of_mem _ (List.mem_append_right _ h)) (by decide +kernel))
set_option maxRecDepth 20000 in
theorem gX5_addFact_X0_add : GoodIn wsX5_addFact (wsV RX5 78 RX0 yX0_add wsX0_add) := goodIn_app (goodIn_of _ (by decide +kernel)) ggX5_addFact_X0_add
theorem dX5_addFact_0 : decode cX5_addFact 0 = .ok (.iload_n 1, 1) := by decide +kernel
theorem dX5_addFact_1 : decode cX5_addFact 1 = .ok (.invokestatic 44, 3) := by decide +kernel
theorem dX5_addFact_4 : decode cX5_addFact 4 = .ok (.iload_n 2, 1) := by decide +kernel
theorem dX5_addFact_5 : decode cX5_addFact 5 = .ok (.invokestatic 48, 3) := by decide +kernel
theorem dX5_addFact_8 : decode cX5_addFact 8 = .ok (.aload_n 0, 1) := by decide +kernel
theorem dX5_addFact_9 : decode cX5_addFact 9 = .ok (.getfield 10, 3) := by decide +kernel
theorem dX5_addFact_12 : decode cX5_addFact 12 = .ok (.getfield 64, 3) := by decide +kernel
theorem dX5_addFact_15 : decode cX5_addFact 15 = .ok (.invokevirtual 68, 3) := by decide +kernel
theorem dX5_addFact_18 : decode cX5_addFact 18 = .ok (.ifCond .eq 11, 3) := by decide +kernel
theorem dX5_addFact_21 : decode cX5_addFact 21 = .ok (.new 58, 3) := by decide +kernel
theorem dX5_addFact_24 : decode cX5_addFact 24 = .ok (.dup, 1) := by decide +kernel
theorem dX5_addFact_25 : decode cX5_addFact 25 = .ok (.invokespecial 60, 3) := by decide +kernel
theorem dX5_addFact_28 : decode cX5_addFact 28 = .ok (.athrow, 1) := by decide +kernel
theorem dX5_addFact_29 : decode cX5_addFact 29 = .ok (.aload_n 0, 1) := by decide +kernel
theorem dX5_addFact_30 : decode cX5_addFact 30 = .ok (.getfield 10, 3) := by decide +kernel
theorem dX5_addFact_33 : decode cX5_addFact 33 = .ok (.getfield 51, 3) := by decide +kernel
theorem dX5_addFact_36 : decode cX5_addFact 36 = .ok (.iload_n 1, 1) := by decide +kernel
theorem dX5_addFact_37 : decode cX5_addFact 37 = .ok (.iload_n 2, 1) := by decide +kernel
theorem dX5_addFact_38 : decode cX5_addFact 38 = .ok (.invokevirtual 74, 3) := by decide +kernel
theorem dX5_addFact_41 : decode cX5_addFact 41 = .ok (.istore 4, 2) := by decide +kernel
theorem dX5_addFact_43 : decode cX5_addFact 43 = .ok (.iload 4, 2) := by decide +kernel
theorem dX5_addFact_45 : decode cX5_addFact 45 = .ok (.iconst (-1), 1) := by decide +kernel
theorem dX5_addFact_46 : decode cX5_addFact 46 = .ok (.if_icmp .ne 11, 3) := by decide +kernel
theorem dX5_addFact_49 : decode cX5_addFact 49 = .ok (.new 58, 3) := by decide +kernel
theorem dX5_addFact_52 : decode cX5_addFact 52 = .ok (.dup, 1) := by decide +kernel
theorem dX5_addFact_53 : decode cX5_addFact 53 = .ok (.invokespecial 60, 3) := by decide +kernel
theorem dX5_addFact_56 : decode cX5_addFact 56 = .ok (.athrow, 1) := by decide +kernel
theorem dX5_addFact_57 : decode cX5_addFact 57 = .ok (.aload_n 0, 1) := by decide +kernel
theorem dX5_addFact_58 : decode cX5_addFact 58 = .ok (.invokevirtual 61, 3) := by decide +kernel
theorem dX5_addFact_61 : decode cX5_addFact 61 = .ok (.aload_n 0, 1) := by decide +kernel
theorem dX5_addFact_62 : decode cX5_addFact 62 = .ok (.getfield 10, 3) := by decide +kernel
theorem dX5_addFact_65 : decode cX5_addFact 65 = .ok (.getfield 64, 3) := by decide +kernel
theorem dX5_addFact_68 : decode cX5_addFact 68 = .ok (.iload_n 1, 1) := by decide +kernel
theorem dX5_addFact_69 : decode cX5_addFact 69 = .ok (.iload_n 2, 1) := by decide +kernel
theorem dX5_addFact_70 : decode cX5_addFact 70 = .ok (.iload_n 3, 1) := by decide +kernel
theorem dX5_addFact_71 : decode cX5_addFact 71 = .ok (.iload 4, 2) := by decide +kernel
theorem dX5_addFact_73 : decode cX5_addFact 73 = .ok (.invokevirtual 78, 3) := by decide +kernel
theorem dX5_addFact_76 : decode cX5_addFact 76 = .ok (.iload 4, 2) := by decide +kernel
theorem dX5_addFact_78 : decode cX5_addFact 78 = .ok (.ireturn, 1) := by decide +kernel
set_option maxRecDepth 20000 in
theorem ggX5_close_X5_checkKey : GoodIn wsX5_close wsX5_checkKey := goodIn_ca (goodIn_r _ [13, 14, 15] (by decide +kernel) (by decide +kernel)) (goodIn_sub (fun _ h => List.mem_cons_of_mem _ (List.mem_append_left _ (List.mem_append_right _ h))) (by decide +kernel))
set_option maxRecDepth 20000 in
theorem gX5_close_X5_checkKey : GoodIn wsX5_close (va_wsS RX5 44 yX5_checkKey wsX5_checkKey) := goodIn_app (goodIn_of _ (by decide +kernel)) ggX5_close_X5_checkKey
set_option maxRecDepth 20000 in
theorem ggX5_close_X5_checkDay : GoodIn wsX5_close wsX5_checkDay := goodIn_ca (goodIn_r _ [18, 19, 20] (by decide +kernel) (by decide +kernel)) (goodIn_sub (fun _ h => List.mem_cons_of_mem _ (List.mem_append_right _ h)) (by decide +kernel))
set_option maxRecDepth 20000 in
theorem gX5_close_X5_checkDay : GoodIn wsX5_close (va_wsS RX5 48 yX5_checkDay wsX5_checkDay) := goodIn_app (goodIn_of _ (by decide +kernel)) ggX5_close_X5_checkDay
set_option maxRecDepth 20000 in
theorem ggX5_close_X4_onDay : GoodIn wsX5_close wsX4_onDay := goodIn_ca (goodIn_r _ [25, 26, 27, 28, 29, 30, 31, 24, 32, 33, 34, 35, 36, 37, 38, 69, 70, 71, 72, 73, 74, 75] (by decide +kernel) (by decide +kernel)) (goodIn_sub (fun _ h => List.mem_cons_of_mem _ (List.mem_append_left _ (List.mem_append_left _ (List.mem_append_left _ (List.mem_append_right _ h))))) (by decide +kernel))
set_option maxRecDepth 20000 in
theorem gX5_close_X4_onDay : GoodIn wsX5_close (wsV RX5 82 RX4 yX4_onDay wsX4_onDay) := goodIn_app (goodIn_of _ (by decide +kernel)) ggX5_close_X4_onDay
set_option maxRecDepth 20000 in
theorem ggX5_close_X0_pointFrom : GoodIn wsX5_close wsX0_pointFrom := goodIn_ca (goodIn_r _ [43, 44, 45, 46, 76, 77, 78, 79, 80] (by decide +kernel) (by decide +kernel)) (goodIn_sub (fun _ h => List.mem_cons_of_mem _ (List.mem_append_left _ (List.mem_append_left _ (List.mem_append_left _ (List.mem_append_right _ h))))) (by decide +kernel))
set_option maxRecDepth 20000 in
theorem gX5_close_X0_pointFrom : GoodIn wsX5_close (wsV RX5 92 RX0 yX0_pointFrom wsX0_pointFrom) := goodIn_app (goodIn_of _ (by decide +kernel)) ggX5_close_X0_pointFrom
set_option maxRecDepth 20000 in
theorem ggX5_close_X5_pointFacts : GoodIn wsX5_close wsX5_pointFacts := goodIn_ca (goodIn_r _ [50, 5, 8, 6, 51, 52, 53, 54, 42, 55, 44, 56, 46, 45, 57, 22, 23, 24, 25, 26, 27, 28, 29, 30, 31, 32, 33, 34, 35, 36, 37, 38, 58, 59, 60, 61, 62, 63, 64, 65, 66, 67, 68, 76, 77, 78, 79, 80, 69, 70, 71, 72, 73, 74, 75] (by decide +kernel) (by decide +kernel)) (goodIn_sub (fun _ h => List.mem_cons_of_mem _ (List.mem_append_left _ (List.mem_append_left _ (List.mem_append_left _ (List.mem_append_right _ h))))) (by decide +kernel))
set_option maxRecDepth 20000 in
theorem gX5_close_X5_pointFacts : GoodIn wsX5_close (wsV RX5 61 RX5 yX5_pointFacts wsX5_pointFacts) := goodIn_app (goodIn_of _ (by decide +kernel)) ggX5_close_X5_pointFacts
theorem dX5_close_0 : decode cX5_close 0 = .ok (.iload_n 1, 1) := by decide +kernel
theorem dX5_close_1 : decode cX5_close 1 = .ok (.invokestatic 44, 3) := by decide +kernel
theorem dX5_close_4 : decode cX5_close 4 = .ok (.iload_n 2, 1) := by decide +kernel
theorem dX5_close_5 : decode cX5_close 5 = .ok (.invokestatic 48, 3) := by decide +kernel
theorem dX5_close_8 : decode cX5_close 8 = .ok (.aload_n 0, 1) := by decide +kernel
theorem dX5_close_9 : decode cX5_close 9 = .ok (.getfield 10, 3) := by decide +kernel
theorem dX5_close_12 : decode cX5_close 12 = .ok (.getfield 51, 3) := by decide +kernel
theorem dX5_close_15 : decode cX5_close 15 = .ok (.astore_n 3, 1) := by decide +kernel
theorem dX5_close_16 : decode cX5_close 16 = .ok (.aload_n 3, 1) := by decide +kernel
theorem dX5_close_17 : decode cX5_close 17 = .ok (.iload_n 1, 1) := by decide +kernel
theorem dX5_close_18 : decode cX5_close 18 = .ok (.iload_n 2, 1) := by decide +kernel
theorem dX5_close_19 : decode cX5_close 19 = .ok (.invokevirtual 82, 3) := by decide +kernel
theorem dX5_close_22 : decode cX5_close 22 = .ok (.istore 4, 2) := by decide +kernel
theorem dX5_close_24 : decode cX5_close 24 = .ok (.iload 4, 2) := by decide +kernel
theorem dX5_close_26 : decode cX5_close 26 = .ok (.iconst (-1), 1) := by decide +kernel
theorem dX5_close_27 : decode cX5_close 27 = .ok (.if_icmp .ne 11, 3) := by decide +kernel
theorem dX5_close_30 : decode cX5_close 30 = .ok (.new 85, 3) := by decide +kernel
theorem dX5_close_33 : decode cX5_close 33 = .ok (.dup, 1) := by decide +kernel
theorem dX5_close_34 : decode cX5_close 34 = .ok (.invokespecial 87, 3) := by decide +kernel
theorem dX5_close_37 : decode cX5_close 37 = .ok (.athrow, 1) := by decide +kernel
theorem dX5_close_38 : decode cX5_close 38 = .ok (.aload_n 3, 1) := by decide +kernel
theorem dX5_close_39 : decode cX5_close 39 = .ok (.getfield 88, 3) := by decide +kernel
theorem dX5_close_42 : decode cX5_close 42 = .ok (.iload 4, 2) := by decide +kernel
theorem dX5_close_44 : decode cX5_close 44 = .ok (.iaload, 1) := by decide +kernel
theorem dX5_close_45 : decode cX5_close 45 = .ok (.iload_n 2, 1) := by decide +kernel
theorem dX5_close_46 : decode cX5_close 46 = .ok (.if_icmp .eq 19, 3) := by decide +kernel
theorem dX5_close_49 : decode cX5_close 49 = .ok (.aload_n 0, 1) := by decide +kernel
theorem dX5_close_50 : decode cX5_close 50 = .ok (.getfield 10, 3) := by decide +kernel
theorem dX5_close_53 : decode cX5_close 53 = .ok (.getfield 64, 3) := by decide +kernel
theorem dX5_close_56 : decode cX5_close 56 = .ok (.iload_n 2, 1) := by decide +kernel
theorem dX5_close_57 : decode cX5_close 57 = .ok (.iload 4, 2) := by decide +kernel
theorem dX5_close_59 : decode cX5_close 59 = .ok (.invokevirtual 92, 3) := by decide +kernel
theorem dX5_close_62 : decode cX5_close 62 = .ok (.ifCond .eq 11, 3) := by decide +kernel
theorem dX5_close_65 : decode cX5_close 65 = .ok (.new 58, 3) := by decide +kernel
theorem dX5_close_68 : decode cX5_close 68 = .ok (.dup, 1) := by decide +kernel
theorem dX5_close_69 : decode cX5_close 69 = .ok (.invokespecial 60, 3) := by decide +kernel
theorem dX5_close_72 : decode cX5_close 72 = .ok (.athrow, 1) := by decide +kernel
theorem dX5_close_73 : decode cX5_close 73 = .ok (.aload_n 3, 1) := by decide +kernel
theorem dX5_close_74 : decode cX5_close 74 = .ok (.getfield 96, 3) := by decide +kernel
theorem dX5_close_77 : decode cX5_close 77 = .ok (.iload 4, 2) := by decide +kernel
theorem dX5_close_79 : decode cX5_close 79 = .ok (.iaload, 1) := by decide +kernel
theorem dX5_close_80 : decode cX5_close 80 = .ok (.istore 5, 2) := by decide +kernel
theorem dX5_close_82 : decode cX5_close 82 = .ok (.aload_n 3, 1) := by decide +kernel
theorem dX5_close_83 : decode cX5_close 83 = .ok (.getfield 96, 3) := by decide +kernel
theorem dX5_close_86 : decode cX5_close 86 = .ok (.iload 4, 2) := by decide +kernel
theorem dX5_close_88 : decode cX5_close 88 = .ok (.iload_n 2, 1) := by decide +kernel
theorem dX5_close_89 : decode cX5_close 89 = .ok (.iastore, 1) := by decide +kernel
theorem dX5_close_90 : decode cX5_close 90 = .ok (.aload_n 0, 1) := by decide +kernel
theorem dX5_close_91 : decode cX5_close 91 = .ok (.invokevirtual 61, 3) := by decide +kernel
theorem dX5_close_94 : decode cX5_close 94 = .ok (.iload 5, 2) := by decide +kernel
theorem dX5_close_96 : decode cX5_close 96 = .ok (.ireturn, 1) := by decide +kernel
set_option maxRecDepth 20000 in
theorem ggX5_correct_X5_checkVersion : GoodIn wsX5_correct wsX5_checkVersion := goodIn_ca (goodIn_ca (goodIn_r _ [8, 9, 10, 1, 2, 11, 12, 13, 14, 15, 16, 17, 25, 26, 27, 28, 29, 30, 31, 32, 33, 34, 35, 36, 37, 38, 39, 40, 41, 42] (by decide +kernel) (by decide +kernel)) (goodIn_sub (fun _ h => List.mem_cons_of_mem _ (List.mem_append_right _ h)) (by decide +kernel))) (goodIn_sub (fun _ h => List.mem_cons_of_mem _ (List.mem_append_left _ (List.mem_append_right _ h))) (by decide +kernel))
set_option maxRecDepth 20000 in
theorem gX5_correct_X5_checkVersion : GoodIn wsX5_correct (wsV RX5 99 RX5 yX5_checkVersion wsX5_checkVersion) := goodIn_app (goodIn_of _ (by decide +kernel)) ggX5_correct_X5_checkVersion
set_option maxRecDepth 20000 in
theorem ggX5_correct_X4_settle : GoodIn wsX5_correct wsX4_settle := goodIn_ca (goodIn_r _ [21, 22, 23, 24, 12, 13, 14, 15, 16, 17, 36, 37, 38, 39, 40, 41, 42] (by decide +kernel) (by decide +kernel)) (goodIn_sub (fun _ h => List.mem_cons_of_mem _ (List.mem_append_left _ (List.mem_append_right _ h))) (by decide +kernel))
set_option maxRecDepth 20000 in
theorem gX5_correct_X4_settle : GoodIn wsX5_correct (wsV RX5 105 RX4 yX4_settle wsX4_settle) := goodIn_app (goodIn_of _ (by decide +kernel)) ggX5_correct_X4_settle
theorem dX5_correct_0 : decode cX5_correct 0 = .ok (.aload_n 0, 1) := by decide +kernel
theorem dX5_correct_1 : decode cX5_correct 1 = .ok (.iload_n 1, 1) := by decide +kernel
theorem dX5_correct_2 : decode cX5_correct 2 = .ok (.invokevirtual 99, 3) := by decide +kernel
theorem dX5_correct_5 : decode cX5_correct 5 = .ok (.aload_n 0, 1) := by decide +kernel
theorem dX5_correct_6 : decode cX5_correct 6 = .ok (.getfield 10, 3) := by decide +kernel
theorem dX5_correct_9 : decode cX5_correct 9 = .ok (.getfield 51, 3) := by decide +kernel
theorem dX5_correct_12 : decode cX5_correct 12 = .ok (.getfield 102, 3) := by decide +kernel
theorem dX5_correct_15 : decode cX5_correct 15 = .ok (.iload_n 1, 1) := by decide +kernel
theorem dX5_correct_16 : decode cX5_correct 16 = .ok (.iaload, 1) := by decide +kernel
theorem dX5_correct_17 : decode cX5_correct 17 = .ok (.istore_n 3, 1) := by decide +kernel
theorem dX5_correct_18 : decode cX5_correct 18 = .ok (.aload_n 0, 1) := by decide +kernel
theorem dX5_correct_19 : decode cX5_correct 19 = .ok (.getfield 10, 3) := by decide +kernel
theorem dX5_correct_22 : decode cX5_correct 22 = .ok (.getfield 51, 3) := by decide +kernel
theorem dX5_correct_25 : decode cX5_correct 25 = .ok (.iload_n 1, 1) := by decide +kernel
theorem dX5_correct_26 : decode cX5_correct 26 = .ok (.iload_n 2, 1) := by decide +kernel
theorem dX5_correct_27 : decode cX5_correct 27 = .ok (.invokevirtual 105, 3) := by decide +kernel
theorem dX5_correct_30 : decode cX5_correct 30 = .ok (.iload_n 3, 1) := by decide +kernel
theorem dX5_correct_31 : decode cX5_correct 31 = .ok (.ireturn, 1) := by decide +kernel
set_option maxRecDepth 20000 in
theorem ggX5_remove_X5_checkVersion : GoodIn wsX5_remove wsX5_checkVersion := goodIn_ca (goodIn_ca (goodIn_r _ [10, 11, 12, 3, 5, 13, 14, 15, 16, 17, 18, 19, 62, 63, 64, 65, 66, 67, 68, 69, 70, 71, 72, 73, 74, 75, 76, 77, 78, 79] (by decide +kernel) (by decide +kernel)) (goodIn_sub (fun _ h => List.mem_cons_of_mem _ (List.mem_append_left _ (List.mem_append_right _ h))) (by decide +kernel))) (goodIn_sub (fun _ h => List.mem_cons_of_mem _ (List.mem_append_right _ h)) (by decide +kernel))
set_option maxRecDepth 20000 in
theorem gX5_remove_X5_checkVersion : GoodIn wsX5_remove (wsV RX5 99 RX5 yX5_checkVersion wsX5_checkVersion) := goodIn_app (goodIn_of _ (by decide +kernel)) ggX5_remove_X5_checkVersion
set_option maxRecDepth 20000 in
theorem ggX5_remove_X0_countOf : GoodIn wsX5_remove wsX0_countOf := goodIn_ca (goodIn_r _ [24, 25, 26, 80, 81, 82, 83, 84] (by decide +kernel) (by decide +kernel)) (goodIn_sub (fun _ h => List.mem_cons_of_mem _ (List.mem_append_right _ h)) (by decide +kernel))
set_option maxRecDepth 20000 in
theorem gX5_remove_X0_countOf : GoodIn wsX5_remove (wsV RX5 109 RX0 yX0_countOf wsX0_countOf) := goodIn_app (goodIn_of _ (by decide +kernel)) ggX5_remove_X0_countOf
set_option maxRecDepth 20000 in
theorem ggX5_remove_X4_endingWhereBegins : GoodIn wsX5_remove wsX4_endingWhereBegins := goodIn_ca (goodIn_r _ [30, 18, 31, 32, 33, 34, 14, 15, 16, 17, 19, 35, 36, 37, 38, 73, 74, 75, 76, 77, 78, 79] (by decide +kernel) (by decide +kernel)) (goodIn_sub (fun _ h => List.mem_cons_of_mem _ (List.mem_append_right _ h)) (by decide +kernel))
set_option maxRecDepth 20000 in
theorem gX5_remove_X4_endingWhereBegins : GoodIn wsX5_remove (wsV RX5 113 RX4 yX4_endingWhereBegins wsX4_endingWhereBegins) := goodIn_app (goodIn_of _ (by decide +kernel)) ggX5_remove_X4_endingWhereBegins
set_option maxRecDepth 20000 in
theorem ggX5_remove_X4_drop : GoodIn wsX5_remove wsX4_drop := goodIn_ca (goodIn_r _ [42, 19, 34, 14, 15, 16, 17, 18, 73, 74, 75, 76, 77, 78, 79] (by decide +kernel) (by decide +kernel)) (goodIn_sub (fun _ h => List.mem_cons_of_mem _ (List.mem_append_right _ h)) (by decide +kernel))
set_option maxRecDepth 20000 in
theorem gX5_remove_X4_drop : GoodIn wsX5_remove (wsV RX5 116 RX4 yX4_drop wsX4_drop) := goodIn_app (goodIn_of _ (by decide +kernel)) ggX5_remove_X4_drop
set_option maxRecDepth 20000 in
theorem ggX5_remove_X4_merge : GoodIn wsX5_remove wsX4_merge := goodIn_ca (goodIn_r _ [46, 32, 19, 34, 14, 15, 16, 17, 18, 73, 74, 75, 76, 77, 78, 79] (by decide +kernel) (by decide +kernel)) (goodIn_sub (fun _ h => List.mem_cons_of_mem _ (List.mem_append_right _ h)) (by decide +kernel))
set_option maxRecDepth 20000 in
theorem gX5_remove_X4_merge : GoodIn wsX5_remove (wsV RX5 119 RX4 yX4_merge wsX4_merge) := goodIn_app (goodIn_of _ (by decide +kernel)) ggX5_remove_X4_merge
set_option maxRecDepth 20000 in
theorem ggX5_remove_X5_pointFacts : GoodIn wsX5_remove wsX5_pointFacts := goodIn_ca (goodIn_r _ [50, 3, 4, 5, 51, 52, 53, 54, 23, 55, 25, 56, 57, 26, 58, 59, 60, 16, 61, 18, 33, 32, 35, 36, 37, 38, 31, 34, 14, 15, 17, 19, 62, 63, 64, 65, 66, 67, 68, 69, 70, 71, 72, 80, 81, 82, 83, 84, 73, 74, 75, 76, 77, 78, 79] (by decide +kernel) (by decide +kernel)) (goodIn_sub (fun _ h => List.mem_cons_of_mem _ (List.mem_append_right _ h)) (by decide +kernel))
set_option maxRecDepth 20000 in
theorem gX5_remove_X5_pointFacts : GoodIn wsX5_remove (wsV RX5 61 RX5 yX5_pointFacts wsX5_pointFacts) := goodIn_app (goodIn_of _ (by decide +kernel)) ggX5_remove_X5_pointFacts
theorem dX5_remove_0 : decode cX5_remove 0 = .ok (.aload_n 0, 1) := by decide +kernel
theorem dX5_remove_1 : decode cX5_remove 1 = .ok (.iload_n 1, 1) := by decide +kernel
theorem dX5_remove_2 : decode cX5_remove 2 = .ok (.invokevirtual 99, 3) := by decide +kernel
theorem dX5_remove_5 : decode cX5_remove 5 = .ok (.aload_n 0, 1) := by decide +kernel
theorem dX5_remove_6 : decode cX5_remove 6 = .ok (.getfield 10, 3) := by decide +kernel
theorem dX5_remove_9 : decode cX5_remove 9 = .ok (.getfield 64, 3) := by decide +kernel
theorem dX5_remove_12 : decode cX5_remove 12 = .ok (.iload_n 1, 1) := by decide +kernel
theorem dX5_remove_13 : decode cX5_remove 13 = .ok (.invokevirtual 109, 3) := by decide +kernel
theorem dX5_remove_16 : decode cX5_remove 16 = .ok (.istore_n 2, 1) := by decide +kernel
theorem dX5_remove_17 : decode cX5_remove 17 = .ok (.aload_n 0, 1) := by decide +kernel
theorem dX5_remove_18 : decode cX5_remove 18 = .ok (.getfield 10, 3) := by decide +kernel
theorem dX5_remove_21 : decode cX5_remove 21 = .ok (.getfield 51, 3) := by decide +kernel
theorem dX5_remove_24 : decode cX5_remove 24 = .ok (.iload_n 1, 1) := by decide +kernel
theorem dX5_remove_25 : decode cX5_remove 25 = .ok (.invokevirtual 113, 3) := by decide +kernel
theorem dX5_remove_28 : decode cX5_remove 28 = .ok (.istore_n 3, 1) := by decide +kernel
theorem dX5_remove_29 : decode cX5_remove 29 = .ok (.iload_n 2, 1) := by decide +kernel
theorem dX5_remove_30 : decode cX5_remove 30 = .ok (.ifCond .le 16, 3) := by decide +kernel
theorem dX5_remove_33 : decode cX5_remove 33 = .ok (.iload_n 3, 1) := by decide +kernel
theorem dX5_remove_34 : decode cX5_remove 34 = .ok (.iconst (-1), 1) := by decide +kernel
theorem dX5_remove_35 : decode cX5_remove 35 = .ok (.if_icmp .ne 11, 3) := by decide +kernel
theorem dX5_remove_38 : decode cX5_remove 38 = .ok (.new 58, 3) := by decide +kernel
theorem dX5_remove_41 : decode cX5_remove 41 = .ok (.dup, 1) := by decide +kernel
theorem dX5_remove_42 : decode cX5_remove 42 = .ok (.invokespecial 60, 3) := by decide +kernel
theorem dX5_remove_45 : decode cX5_remove 45 = .ok (.athrow, 1) := by decide +kernel
theorem dX5_remove_46 : decode cX5_remove 46 = .ok (.iload_n 3, 1) := by decide +kernel
theorem dX5_remove_47 : decode cX5_remove 47 = .ok (.iconst (-1), 1) := by decide +kernel
theorem dX5_remove_48 : decode cX5_remove 48 = .ok (.if_icmp .ne 17, 3) := by decide +kernel
theorem dX5_remove_51 : decode cX5_remove 51 = .ok (.aload_n 0, 1) := by decide +kernel
theorem dX5_remove_52 : decode cX5_remove 52 = .ok (.getfield 10, 3) := by decide +kernel
theorem dX5_remove_55 : decode cX5_remove 55 = .ok (.getfield 51, 3) := by decide +kernel
theorem dX5_remove_58 : decode cX5_remove 58 = .ok (.iload_n 1, 1) := by decide +kernel
theorem dX5_remove_59 : decode cX5_remove 59 = .ok (.invokevirtual 116, 3) := by decide +kernel
theorem dX5_remove_62 : decode cX5_remove 62 = .ok (.goto 15, 3) := by decide +kernel
theorem dX5_remove_65 : decode cX5_remove 65 = .ok (.aload_n 0, 1) := by decide +kernel
theorem dX5_remove_66 : decode cX5_remove 66 = .ok (.getfield 10, 3) := by decide +kernel
theorem dX5_remove_69 : decode cX5_remove 69 = .ok (.getfield 51, 3) := by decide +kernel
theorem dX5_remove_72 : decode cX5_remove 72 = .ok (.iload_n 3, 1) := by decide +kernel
theorem dX5_remove_73 : decode cX5_remove 73 = .ok (.iload_n 1, 1) := by decide +kernel
theorem dX5_remove_74 : decode cX5_remove 74 = .ok (.invokevirtual 119, 3) := by decide +kernel
theorem dX5_remove_77 : decode cX5_remove 77 = .ok (.aload_n 0, 1) := by decide +kernel
theorem dX5_remove_78 : decode cX5_remove 78 = .ok (.invokevirtual 61, 3) := by decide +kernel
theorem dX5_remove_81 : decode cX5_remove 81 = .ok (.iload_n 2, 1) := by decide +kernel
theorem dX5_remove_82 : decode cX5_remove 82 = .ok (.ireturn, 1) := by decide +kernel
set_option maxRecDepth 20000 in
theorem ggX5_join_X5_checkKey : GoodIn wsX5_join wsX5_checkKey := goodIn_ca (goodIn_r _ [6, 7, 8] (by decide +kernel) (by decide +kernel)) (goodIn_sub (fun _ h => List.mem_cons_of_mem _ (List.mem_append_left _ (List.mem_append_right _ h))) (by decide +kernel))
set_option maxRecDepth 20000 in
theorem gX5_join_X5_checkKey : GoodIn wsX5_join (va_wsS RX5 44 yX5_checkKey wsX5_checkKey) := goodIn_app (goodIn_of _ (by decide +kernel)) ggX5_join_X5_checkKey
set_option maxRecDepth 20000 in
theorem ggX5_join_X4_joinAlike : GoodIn wsX5_join wsX4_joinAlike := goodIn_ca (goodIn_r _ [13, 14, 15, 16, 17, 18, 12, 19, 20, 21, 22, 23, 24, 25, 26, 27, 28, 29, 30, 31, 32, 33, 34, 35, 36, 37, 38, 39, 40, 71, 72, 73, 74, 75, 76, 77] (by decide +kernel) (by decide +kernel)) (goodIn_sub (fun _ h => List.mem_cons_of_mem _ (List.mem_append_right _ h)) (by decide +kernel))
set_option maxRecDepth 20000 in
theorem gX5_join_X4_joinAlike : GoodIn wsX5_join (wsV RX5 122 RX4 yX4_joinAlike wsX4_joinAlike) := goodIn_app (goodIn_of _ (by decide +kernel)) ggX5_join_X4_joinAlike
set_option maxRecDepth 20000 in
theorem ggX5_join_X5_pointFacts : GoodIn wsX5_join wsX5_pointFacts := goodIn_ca (goodIn_r _ [44, 1, 45, 2, 46, 47, 48, 49, 50, 51, 52, 53, 54, 55, 56, 57, 58, 12, 59, 14, 15, 34, 20, 21, 22, 23, 24, 25, 26, 27, 28, 29, 60, 61, 62, 63, 64, 65, 66, 67, 68, 69, 70, 78, 79, 80, 81, 82, 71, 72, 73, 74, 75, 76, 77] (by decide +kernel) (by decide +kernel)) (goodIn_sub (fun _ h => List.mem_cons_of_mem _ (List.mem_append_right _ h)) (by decide +kernel))
set_option maxRecDepth 20000 in
theorem gX5_join_X5_pointFacts : GoodIn wsX5_join (wsV RX5 61 RX5 yX5_pointFacts wsX5_pointFacts) := goodIn_app (goodIn_of _ (by decide +kernel)) ggX5_join_X5_pointFacts
theorem dX5_join_0 : decode cX5_join 0 = .ok (.iload_n 1, 1) := by decide +kernel
theorem dX5_join_1 : decode cX5_join 1 = .ok (.invokestatic 44, 3) := by decide +kernel
theorem dX5_join_4 : decode cX5_join 4 = .ok (.aload_n 0, 1) := by decide +kernel
theorem dX5_join_5 : decode cX5_join 5 = .ok (.getfield 10, 3) := by decide +kernel
theorem dX5_join_8 : decode cX5_join 8 = .ok (.getfield 51, 3) := by decide +kernel
theorem dX5_join_11 : decode cX5_join 11 = .ok (.iload_n 1, 1) := by decide +kernel
theorem dX5_join_12 : decode cX5_join 12 = .ok (.invokevirtual 122, 3) := by decide +kernel
theorem dX5_join_15 : decode cX5_join 15 = .ok (.istore_n 2, 1) := by decide +kernel
theorem dX5_join_16 : decode cX5_join 16 = .ok (.aload_n 0, 1) := by decide +kernel
theorem dX5_join_17 : decode cX5_join 17 = .ok (.invokevirtual 61, 3) := by decide +kernel
theorem dX5_join_20 : decode cX5_join 20 = .ok (.iload_n 2, 1) := by decide +kernel
theorem dX5_join_21 : decode cX5_join 21 = .ok (.ireturn, 1) := by decide +kernel
set_option maxRecDepth 20000 in
theorem ggX5_clear_X4_count : GoodIn wsX5_clear wsX4_count := goodIn_ca (goodIn_r _ [8, 9, 10, 11, 12, 7, 13, 14, 37, 38, 39, 40, 41, 42, 43] (by decide +kernel) (by decide +kernel)) (goodIn_sub (fun _ h => List.mem_cons_of_mem _ (List.mem_append_right _ h)) (by decide +kernel))
set_option maxRecDepth 20000 in
theorem gX5_clear_X4_count : GoodIn wsX5_clear (wsV RX5 125 RX4 yX4_count wsX4_count) := goodIn_app (goodIn_of _ (by decide +kernel)) ggX5_clear_X4_count
set_option maxRecDepth 20000 in
theorem ggX5_clear_X2_empty : GoodIn wsX5_clear wsX2_empty := goodIn_r _ [19, 20, 21, 22, 23, 24, 25, 34, 35, 36, 37, 38, 39, 40, 41, 42, 43, 44, 45, 46, 47, 48, 49, 50, 51, 52] (by decide +kernel) (by decide +kernel)
set_option maxRecDepth 20000 in
theorem gX5_clear_X2_empty : GoodIn wsX5_clear (wsV RX5 129 RX2 yX2_empty wsX2_empty) := goodIn_app (goodIn_of _ (by decide +kernel)) ggX5_clear_X2_empty
theorem dX5_clear_0 : decode cX5_clear 0 = .ok (.aload_n 0, 1) := by decide +kernel
theorem dX5_clear_1 : decode cX5_clear 1 = .ok (.getfield 10, 3) := by decide +kernel
theorem dX5_clear_4 : decode cX5_clear 4 = .ok (.getfield 51, 3) := by decide +kernel
theorem dX5_clear_7 : decode cX5_clear 7 = .ok (.invokevirtual 125, 3) := by decide +kernel
theorem dX5_clear_10 : decode cX5_clear 10 = .ok (.istore_n 1, 1) := by decide +kernel
theorem dX5_clear_11 : decode cX5_clear 11 = .ok (.aload_n 0, 1) := by decide +kernel
theorem dX5_clear_12 : decode cX5_clear 12 = .ok (.getfield 10, 3) := by decide +kernel
theorem dX5_clear_15 : decode cX5_clear 15 = .ok (.invokevirtual 129, 3) := by decide +kernel
theorem dX5_clear_18 : decode cX5_clear 18 = .ok (.aload_n 0, 1) := by decide +kernel
theorem dX5_clear_19 : decode cX5_clear 19 = .ok (.iconst 0, 1) := by decide +kernel
theorem dX5_clear_20 : decode cX5_clear 20 = .ok (.putfield 132, 3) := by decide +kernel
theorem dX5_clear_23 : decode cX5_clear 23 = .ok (.iload_n 1, 1) := by decide +kernel
theorem dX5_clear_24 : decode cX5_clear 24 = .ok (.ireturn, 1) := by decide +kernel
set_option maxRecDepth 20000 in
theorem ggX5_versionCount_X4_count : GoodIn wsX5_versionCount wsX4_count := goodIn_ca (goodIn_r _ [7, 8, 9, 10, 11, 6, 12, 13, 25, 26, 27, 28, 29, 30, 31] (by decide +kernel) (by decide +kernel)) (goodIn_sub (fun _ h => List.mem_cons_of_mem _ (List.mem_append_right _ h)) (by decide +kernel))
set_option maxRecDepth 20000 in
theorem gX5_versionCount_X4_count : GoodIn wsX5_versionCount (wsV RX5 125 RX4 yX4_count wsX4_count) := goodIn_app (goodIn_of _ (by decide +kernel)) ggX5_versionCount_X4_count
theorem dX5_versionCount_0 : decode cX5_versionCount 0 = .ok (.aload_n 0, 1) := by decide +kernel
theorem dX5_versionCount_1 : decode cX5_versionCount 1 = .ok (.getfield 10, 3) := by decide +kernel
theorem dX5_versionCount_4 : decode cX5_versionCount 4 = .ok (.getfield 51, 3) := by decide +kernel
theorem dX5_versionCount_7 : decode cX5_versionCount 7 = .ok (.invokevirtual 125, 3) := by decide +kernel
theorem dX5_versionCount_10 : decode cX5_versionCount 10 = .ok (.ireturn, 1) := by decide +kernel
set_option maxRecDepth 20000 in
theorem ggX5_versionsOf_X5_checkKey : GoodIn wsX5_versionsOf wsX5_checkKey := goodIn_ca (goodIn_r _ [6, 7, 8] (by decide +kernel) (by decide +kernel)) (goodIn_sub (fun _ h => List.mem_cons_of_mem _ (List.mem_append_left _ (List.mem_append_right _ h))) (by decide +kernel))
set_option maxRecDepth 20000 in
theorem gX5_versionsOf_X5_checkKey : GoodIn wsX5_versionsOf (va_wsS RX5 44 yX5_checkKey wsX5_checkKey) := goodIn_app (goodIn_of _ (by decide +kernel)) ggX5_versionsOf_X5_checkKey
set_option maxRecDepth 20000 in
theorem ggX5_versionsOf_X4_countOf : GoodIn wsX5_versionsOf wsX4_countOf := goodIn_ca (goodIn_r _ [13, 14, 15, 16, 17, 12, 18, 19, 20, 21, 22, 23, 24, 36, 37, 38, 39, 40, 41, 42] (by decide +kernel) (by decide +kernel)) (goodIn_sub (fun _ h => List.mem_cons_of_mem _ (List.mem_append_right _ h)) (by decide +kernel))
set_option maxRecDepth 20000 in
theorem gX5_versionsOf_X4_countOf : GoodIn wsX5_versionsOf (wsV RX5 135 RX4 yX4_countOf wsX4_countOf) := goodIn_app (goodIn_of _ (by decide +kernel)) ggX5_versionsOf_X4_countOf
theorem dX5_versionsOf_0 : decode cX5_versionsOf 0 = .ok (.iload_n 1, 1) := by decide +kernel
theorem dX5_versionsOf_1 : decode cX5_versionsOf 1 = .ok (.invokestatic 44, 3) := by decide +kernel
theorem dX5_versionsOf_4 : decode cX5_versionsOf 4 = .ok (.aload_n 0, 1) := by decide +kernel
theorem dX5_versionsOf_5 : decode cX5_versionsOf 5 = .ok (.getfield 10, 3) := by decide +kernel
theorem dX5_versionsOf_8 : decode cX5_versionsOf 8 = .ok (.getfield 51, 3) := by decide +kernel
theorem dX5_versionsOf_11 : decode cX5_versionsOf 11 = .ok (.iload_n 1, 1) := by decide +kernel
theorem dX5_versionsOf_12 : decode cX5_versionsOf 12 = .ok (.invokevirtual 135, 3) := by decide +kernel
theorem dX5_versionsOf_15 : decode cX5_versionsOf 15 = .ok (.ireturn, 1) := by decide +kernel
set_option maxRecDepth 20000 in
theorem ggX5_versionAt_X5_checkKey : GoodIn wsX5_versionAt wsX5_checkKey := goodIn_ca (goodIn_r _ [6, 7, 8] (by decide +kernel) (by decide +kernel)) (goodIn_sub (fun _ h => List.mem_cons_of_mem _ (List.mem_append_left _ (List.mem_append_left _ (List.mem_append_right _ h)))) (by decide +kernel))
set_option maxRecDepth 20000 in
theorem gX5_versionAt_X5_checkKey : GoodIn wsX5_versionAt (va_wsS RX5 44 yX5_checkKey wsX5_checkKey) := goodIn_app (goodIn_of _ (by decide +kernel)) ggX5_versionAt_X5_checkKey
set_option maxRecDepth 20000 in
theorem ggX5_versionAt_X4_atPlace : GoodIn wsX5_versionAt wsX4_atPlace := goodIn_ca (goodIn_r _ [13, 14, 15, 16, 17, 18, 12, 19, 20, 21, 22, 23, 24, 25, 26, 27, 28, 29, 46, 47, 48, 49, 50, 51, 52] (by decide +kernel) (by decide +kernel)) (goodIn_sub (fun _ h => List.mem_cons_of_mem _ (List.mem_append_left _ (List.mem_append_right _ h))) (by decide +kernel))
set_option maxRecDepth 20000 in
theorem gX5_versionAt_X4_atPlace : GoodIn wsX5_versionAt (wsV RX5 136 RX4 yX4_atPlace wsX4_atPlace) := goodIn_app (goodIn_of _ (by decide +kernel)) ggX5_versionAt_X4_atPlace
set_option maxRecDepth 20000 in
theorem ggX5_versionAt_X5_found : GoodIn wsX5_versionAt wsX5_found := goodIn_ca (goodIn_r _ [32, 33, 34] (by decide +kernel) (by decide +kernel)) (goodIn_sub (fun _ h => List.mem_cons_of_mem _ (List.mem_append_right _ h)) (by decide +kernel))
set_option maxRecDepth 20000 in
theorem gX5_versionAt_X5_found : GoodIn wsX5_versionAt (va_wsS RX5 139 yX5_found wsX5_found) := goodIn_app (goodIn_of _ (by decide +kernel)) ggX5_versionAt_X5_found
theorem dX5_versionAt_0 : decode cX5_versionAt 0 = .ok (.iload_n 1, 1) := by decide +kernel
theorem dX5_versionAt_1 : decode cX5_versionAt 1 = .ok (.invokestatic 44, 3) := by decide +kernel
theorem dX5_versionAt_4 : decode cX5_versionAt 4 = .ok (.aload_n 0, 1) := by decide +kernel
theorem dX5_versionAt_5 : decode cX5_versionAt 5 = .ok (.getfield 10, 3) := by decide +kernel
theorem dX5_versionAt_8 : decode cX5_versionAt 8 = .ok (.getfield 51, 3) := by decide +kernel
theorem dX5_versionAt_11 : decode cX5_versionAt 11 = .ok (.iload_n 1, 1) := by decide +kernel
theorem dX5_versionAt_12 : decode cX5_versionAt 12 = .ok (.iload_n 2, 1) := by decide +kernel
theorem dX5_versionAt_13 : decode cX5_versionAt 13 = .ok (.invokevirtual 136, 3) := by decide +kernel
theorem dX5_versionAt_16 : decode cX5_versionAt 16 = .ok (.invokestatic 139, 3) := by decide +kernel
theorem dX5_versionAt_19 : decode cX5_versionAt 19 = .ok (.ireturn, 1) := by decide +kernel
set_option maxRecDepth 20000 in
theorem ggX5_validOn_X5_checkKey : GoodIn wsX5_validOn wsX5_checkKey := goodIn_ca (goodIn_r _ [6, 7, 8] (by decide +kernel) (by decide +kernel)) (goodIn_sub (fun _ h => List.mem_cons_of_mem _ (List.mem_append_left _ (List.mem_append_left _ (List.mem_append_left _ (List.mem_append_right _ h))))) (by decide +kernel))
set_option maxRecDepth 20000 in
theorem gX5_validOn_X5_checkKey : GoodIn wsX5_validOn (va_wsS RX5 44 yX5_checkKey wsX5_checkKey) := goodIn_app (goodIn_of _ (by decide +kernel)) ggX5_validOn_X5_checkKey
set_option maxRecDepth 20000 in
theorem ggX5_validOn_X5_checkDay : GoodIn wsX5_validOn wsX5_checkDay := goodIn_ca (goodIn_r _ [11, 12, 13] (by decide +kernel) (by decide +kernel)) (goodIn_sub (fun _ h => List.mem_cons_of_mem _ (List.mem_append_left _ (List.mem_append_left _ (List.mem_append_right _ h)))) (by decide +kernel))
set_option maxRecDepth 20000 in
theorem gX5_validOn_X5_checkDay : GoodIn wsX5_validOn (va_wsS RX5 48 yX5_checkDay wsX5_checkDay) := goodIn_app (goodIn_of _ (by decide +kernel)) ggX5_validOn_X5_checkDay
set_option maxRecDepth 20000 in
theorem ggX5_validOn_X4_onDay : GoodIn wsX5_validOn wsX4_onDay := goodIn_ca (goodIn_r _ [18, 19, 20, 21, 22, 23, 24, 17, 25, 26, 27, 28, 29, 30, 31, 48, 49, 50, 51, 52, 53, 54] (by decide +kernel) (by decide +kernel)) (goodIn_sub (fun _ h => List.mem_cons_of_mem _ (List.mem_append_left _ (List.mem_append_right _ h))) (by decide +kernel))
set_option maxRecDepth 20000 in
theorem gX5_validOn_X4_onDay : GoodIn wsX5_validOn (wsV RX5 82 RX4 yX4_onDay wsX4_onDay) := goodIn_app (goodIn_of _ (by decide +kernel)) ggX5_validOn_X4_onDay
set_option maxRecDepth 20000 in
theorem ggX5_validOn_X5_found : GoodIn wsX5_validOn wsX5_found := goodIn_ca (goodIn_r _ [34, 35, 36] (by decide +kernel) (by decide +kernel)) (goodIn_sub (fun _ h => List.mem_cons_of_mem _ (List.mem_append_right _ h)) (by decide +kernel))
set_option maxRecDepth 20000 in
theorem gX5_validOn_X5_found : GoodIn wsX5_validOn (va_wsS RX5 139 yX5_found wsX5_found) := goodIn_app (goodIn_of _ (by decide +kernel)) ggX5_validOn_X5_found
theorem dX5_validOn_0 : decode cX5_validOn 0 = .ok (.iload_n 1, 1) := by decide +kernel
theorem dX5_validOn_1 : decode cX5_validOn 1 = .ok (.invokestatic 44, 3) := by decide +kernel
theorem dX5_validOn_4 : decode cX5_validOn 4 = .ok (.iload_n 2, 1) := by decide +kernel
theorem dX5_validOn_5 : decode cX5_validOn 5 = .ok (.invokestatic 48, 3) := by decide +kernel
theorem dX5_validOn_8 : decode cX5_validOn 8 = .ok (.aload_n 0, 1) := by decide +kernel
theorem dX5_validOn_9 : decode cX5_validOn 9 = .ok (.getfield 10, 3) := by decide +kernel
theorem dX5_validOn_12 : decode cX5_validOn 12 = .ok (.getfield 51, 3) := by decide +kernel
theorem dX5_validOn_15 : decode cX5_validOn 15 = .ok (.iload_n 1, 1) := by decide +kernel
theorem dX5_validOn_16 : decode cX5_validOn 16 = .ok (.iload_n 2, 1) := by decide +kernel
theorem dX5_validOn_17 : decode cX5_validOn 17 = .ok (.invokevirtual 82, 3) := by decide +kernel
theorem dX5_validOn_20 : decode cX5_validOn 20 = .ok (.invokestatic 139, 3) := by decide +kernel
theorem dX5_validOn_23 : decode cX5_validOn 23 = .ok (.ireturn, 1) := by decide +kernel
set_option maxRecDepth 20000 in
theorem ggX5_nextAfter_X5_checkKey : GoodIn wsX5_nextAfter wsX5_checkKey := goodIn_ca (goodIn_r _ [6, 7, 8] (by decide +kernel) (by decide +kernel)) (goodIn_sub (fun _ h => List.mem_cons_of_mem _ (List.mem_append_left _ (List.mem_append_left _ (List.mem_append_left _ (List.mem_append_right _ h))))) (by decide +kernel))
set_option maxRecDepth 20000 in
theorem gX5_nextAfter_X5_checkKey : GoodIn wsX5_nextAfter (va_wsS RX5 44 yX5_checkKey wsX5_checkKey) := goodIn_app (goodIn_of _ (by decide +kernel)) ggX5_nextAfter_X5_checkKey
set_option maxRecDepth 20000 in
theorem ggX5_nextAfter_X5_checkDay : GoodIn wsX5_nextAfter wsX5_checkDay := goodIn_ca (goodIn_r _ [11, 12, 13] (by decide +kernel) (by decide +kernel)) (goodIn_sub (fun _ h => List.mem_cons_of_mem _ (List.mem_append_left _ (List.mem_append_left _ (List.mem_append_right _ h)))) (by decide +kernel))
set_option maxRecDepth 20000 in
theorem gX5_nextAfter_X5_checkDay : GoodIn wsX5_nextAfter (va_wsS RX5 48 yX5_checkDay wsX5_checkDay) := goodIn_app (goodIn_of _ (by decide +kernel)) ggX5_nextAfter_X5_checkDay
set_option maxRecDepth 20000 in
theorem ggX5_nextAfter_X4_next : GoodIn wsX5_nextAfter wsX4_next := goodIn_ca (goodIn_r _ [18, 19, 20, 21, 22, 23, 17, 24, 25, 26, 27, 28, 29, 30, 47, 48, 49, 50, 51, 52, 53] (by decide +kernel) (by decide +kernel)) (goodIn_sub (fun _ h => List.mem_cons_of_mem _ (List.mem_append_left _ (List.mem_append_right _ h))) (by decide +kernel))
set_option maxRecDepth 20000 in
theorem gX5_nextAfter_X4_next : GoodIn wsX5_nextAfter (wsV RX5 142 RX4 yX4_next wsX4_next) := goodIn_app (goodIn_of _ (by decide +kernel)) ggX5_nextAfter_X4_next
set_option maxRecDepth 20000 in
theorem ggX5_nextAfter_X5_found : GoodIn wsX5_nextAfter wsX5_found := goodIn_ca (goodIn_r _ [33, 34, 35] (by decide +kernel) (by decide +kernel)) (goodIn_sub (fun _ h => List.mem_cons_of_mem _ (List.mem_append_right _ h)) (by decide +kernel))
set_option maxRecDepth 20000 in
theorem gX5_nextAfter_X5_found : GoodIn wsX5_nextAfter (va_wsS RX5 139 yX5_found wsX5_found) := goodIn_app (goodIn_of _ (by decide +kernel)) ggX5_nextAfter_X5_found
theorem dX5_nextAfter_0 : decode cX5_nextAfter 0 = .ok (.iload_n 1, 1) := by decide +kernel
theorem dX5_nextAfter_1 : decode cX5_nextAfter 1 = .ok (.invokestatic 44, 3) := by decide +kernel
theorem dX5_nextAfter_4 : decode cX5_nextAfter 4 = .ok (.iload_n 2, 1) := by decide +kernel
theorem dX5_nextAfter_5 : decode cX5_nextAfter 5 = .ok (.invokestatic 48, 3) := by decide +kernel
theorem dX5_nextAfter_8 : decode cX5_nextAfter 8 = .ok (.aload_n 0, 1) := by decide +kernel
theorem dX5_nextAfter_9 : decode cX5_nextAfter 9 = .ok (.getfield 10, 3) := by decide +kernel
theorem dX5_nextAfter_12 : decode cX5_nextAfter 12 = .ok (.getfield 51, 3) := by decide +kernel
theorem dX5_nextAfter_15 : decode cX5_nextAfter 15 = .ok (.iload_n 1, 1) := by decide +kernel
theorem dX5_nextAfter_16 : decode cX5_nextAfter 16 = .ok (.iload_n 2, 1) := by decide +kernel
theorem dX5_nextAfter_17 : decode cX5_nextAfter 17 = .ok (.invokevirtual 142, 3) := by decide +kernel
theorem dX5_nextAfter_20 : decode cX5_nextAfter 20 = .ok (.invokestatic 139, 3) := by decide +kernel
theorem dX5_nextAfter_23 : decode cX5_nextAfter 23 = .ok (.ireturn, 1) := by decide +kernel
set_option maxRecDepth 20000 in
theorem ggX5_version_X5_checkVersion : GoodIn wsX5_version wsX5_checkVersion := goodIn_ca (goodIn_ca (goodIn_r _ [14, 15, 16, 3, 4, 17, 18, 19, 20, 21, 22, 23, 38, 39, 40, 41, 42, 43, 44, 45, 46, 47, 48, 49, 50, 51, 52, 53, 54, 55] (by decide +kernel) (by decide +kernel)) (goodIn_sub (fun _ h => List.mem_cons_of_mem _ (List.mem_append_right _ h)) (by decide +kernel))) (goodIn_sub (fun _ h => List.mem_cons_of_mem _ (List.mem_append_left _ (List.mem_append_left _ (List.mem_append_right _ h)))) (by decide +kernel))
set_option maxRecDepth 20000 in
theorem gX5_version_X5_checkVersion : GoodIn wsX5_version (wsV RX5 99 RX5 yX5_checkVersion wsX5_checkVersion) := goodIn_app (goodIn_of _ (by decide +kernel)) ggX5_version_X5_checkVersion
set_option maxRecDepth 20000 in
theorem ggX5_version_X0_countOf : GoodIn wsX5_version wsX0_countOf := goodIn_ca (goodIn_r _ [28, 29, 30, 56, 57, 58, 59, 60] (by decide +kernel) (by decide +kernel)) (goodIn_sub (fun _ h => List.mem_cons_of_mem _ (List.mem_append_left _ (List.mem_append_left _ (List.mem_append_right _ h)))) (by decide +kernel))
set_option maxRecDepth 20000 in
theorem gX5_version_X0_countOf : GoodIn wsX5_version (wsV RX5 109 RX0 yX0_countOf wsX0_countOf) := goodIn_app (goodIn_of _ (by decide +kernel)) ggX5_version_X0_countOf
set_option maxRecDepth 20000 in
theorem ggX5_version_X4_days : GoodIn wsX5_version wsX4_days := goodIn_ca (goodIn_r _ [34, 35, 36, 37, 18, 19, 20, 21, 22, 23, 49, 50, 51, 52, 53, 54, 55] (by decide +kernel) (by decide +kernel)) (goodIn_sub (fun _ h => List.mem_cons_of_mem _ (List.mem_append_left _ (List.mem_append_left _ (List.mem_append_right _ h)))) (by decide +kernel))
set_option maxRecDepth 20000 in
theorem gX5_version_X4_days : GoodIn wsX5_version (wsV RX5 148 RX4 yX4_days wsX4_days) := goodIn_app (goodIn_of _ (by decide +kernel)) ggX5_version_X4_days
theorem dX5_version_0 : decode cX5_version 0 = .ok (.aload_n 0, 1) := by decide +kernel
theorem dX5_version_1 : decode cX5_version 1 = .ok (.iload_n 1, 1) := by decide +kernel
theorem dX5_version_2 : decode cX5_version 2 = .ok (.invokevirtual 99, 3) := by decide +kernel
theorem dX5_version_5 : decode cX5_version 5 = .ok (.iload_n 2, 1) := by decide +kernel
theorem dX5_version_6 : decode cX5_version 6 = .ok (.tableswitch 114 0 5 #[38, 51, 64, 77, 90, 102], 38) := by decide +kernel
theorem dX5_version_44 : decode cX5_version 44 = .ok (.aload_n 0, 1) := by decide +kernel
theorem dX5_version_45 : decode cX5_version 45 = .ok (.getfield 10, 3) := by decide +kernel
theorem dX5_version_48 : decode cX5_version 48 = .ok (.getfield 51, 3) := by decide +kernel
theorem dX5_version_51 : decode cX5_version 51 = .ok (.getfield 145, 3) := by decide +kernel
theorem dX5_version_54 : decode cX5_version 54 = .ok (.iload_n 1, 1) := by decide +kernel
theorem dX5_version_55 : decode cX5_version 55 = .ok (.iaload, 1) := by decide +kernel
theorem dX5_version_56 : decode cX5_version 56 = .ok (.ireturn, 1) := by decide +kernel
theorem dX5_version_57 : decode cX5_version 57 = .ok (.aload_n 0, 1) := by decide +kernel
theorem dX5_version_58 : decode cX5_version 58 = .ok (.getfield 10, 3) := by decide +kernel
theorem dX5_version_61 : decode cX5_version 61 = .ok (.getfield 51, 3) := by decide +kernel
theorem dX5_version_64 : decode cX5_version 64 = .ok (.getfield 88, 3) := by decide +kernel
theorem dX5_version_67 : decode cX5_version 67 = .ok (.iload_n 1, 1) := by decide +kernel
theorem dX5_version_68 : decode cX5_version 68 = .ok (.iaload, 1) := by decide +kernel
theorem dX5_version_69 : decode cX5_version 69 = .ok (.ireturn, 1) := by decide +kernel
theorem dX5_version_70 : decode cX5_version 70 = .ok (.aload_n 0, 1) := by decide +kernel
theorem dX5_version_71 : decode cX5_version 71 = .ok (.getfield 10, 3) := by decide +kernel
theorem dX5_version_74 : decode cX5_version 74 = .ok (.getfield 51, 3) := by decide +kernel
theorem dX5_version_77 : decode cX5_version 77 = .ok (.getfield 96, 3) := by decide +kernel
theorem dX5_version_80 : decode cX5_version 80 = .ok (.iload_n 1, 1) := by decide +kernel
theorem dX5_version_81 : decode cX5_version 81 = .ok (.iaload, 1) := by decide +kernel
theorem dX5_version_82 : decode cX5_version 82 = .ok (.ireturn, 1) := by decide +kernel
theorem dX5_version_83 : decode cX5_version 83 = .ok (.aload_n 0, 1) := by decide +kernel
theorem dX5_version_84 : decode cX5_version 84 = .ok (.getfield 10, 3) := by decide +kernel
theorem dX5_version_87 : decode cX5_version 87 = .ok (.getfield 51, 3) := by decide +kernel
theorem dX5_version_90 : decode cX5_version 90 = .ok (.getfield 102, 3) := by decide +kernel
theorem dX5_version_93 : decode cX5_version 93 = .ok (.iload_n 1, 1) := by decide +kernel
theorem dX5_version_94 : decode cX5_version 94 = .ok (.iaload, 1) := by decide +kernel
theorem dX5_version_95 : decode cX5_version 95 = .ok (.ireturn, 1) := by decide +kernel
theorem dX5_version_96 : decode cX5_version 96 = .ok (.aload_n 0, 1) := by decide +kernel
theorem dX5_version_97 : decode cX5_version 97 = .ok (.getfield 10, 3) := by decide +kernel
theorem dX5_version_100 : decode cX5_version 100 = .ok (.getfield 64, 3) := by decide +kernel
theorem dX5_version_103 : decode cX5_version 103 = .ok (.iload_n 1, 1) := by decide +kernel
theorem dX5_version_104 : decode cX5_version 104 = .ok (.invokevirtual 109, 3) := by decide +kernel
theorem dX5_version_107 : decode cX5_version 107 = .ok (.ireturn, 1) := by decide +kernel
theorem dX5_version_108 : decode cX5_version 108 = .ok (.aload_n 0, 1) := by decide +kernel
theorem dX5_version_109 : decode cX5_version 109 = .ok (.getfield 10, 3) := by decide +kernel
theorem dX5_version_112 : decode cX5_version 112 = .ok (.getfield 51, 3) := by decide +kernel
theorem dX5_version_115 : decode cX5_version 115 = .ok (.iload_n 1, 1) := by decide +kernel
theorem dX5_version_116 : decode cX5_version 116 = .ok (.invokevirtual 148, 3) := by decide +kernel
theorem dX5_version_119 : decode cX5_version 119 = .ok (.ireturn, 1) := by decide +kernel
theorem dX5_version_120 : decode cX5_version 120 = .ok (.new 151, 3) := by decide +kernel
theorem dX5_version_123 : decode cX5_version 123 = .ok (.dup, 1) := by decide +kernel
theorem dX5_version_124 : decode cX5_version 124 = .ok (.invokespecial 153, 3) := by decide +kernel
theorem dX5_version_127 : decode cX5_version 127 = .ok (.athrow, 1) := by decide +kernel
set_option maxRecDepth 20000 in
theorem ggX5_isInferred_X5_checkVersion : GoodIn wsX5_isInferred wsX5_checkVersion := goodIn_ca (goodIn_ca (goodIn_r _ [8, 9, 10, 1, 2, 11, 12, 13, 14, 15, 16, 17, 18, 19, 20, 21, 22, 23, 24, 25, 26, 27, 28, 29, 30, 31, 32, 33, 34, 35] (by decide +kernel) (by decide +kernel)) (goodIn_sub (fun _ h => List.mem_cons_of_mem _ (List.mem_append_right _ h)) (by decide +kernel))) (goodIn_sub (fun _ h => List.mem_cons_of_mem _ (List.mem_append_left _ (List.mem_append_right _ h))) (by decide +kernel))
set_option maxRecDepth 20000 in
theorem gX5_isInferred_X5_checkVersion : GoodIn wsX5_isInferred (wsV RX5 99 RX5 yX5_checkVersion wsX5_checkVersion) := goodIn_app (goodIn_of _ (by decide +kernel)) ggX5_isInferred_X5_checkVersion
theorem dX5_isInferred_0 : decode cX5_isInferred 0 = .ok (.aload_n 0, 1) := by decide +kernel
theorem dX5_isInferred_1 : decode cX5_isInferred 1 = .ok (.iload_n 1, 1) := by decide +kernel
theorem dX5_isInferred_2 : decode cX5_isInferred 2 = .ok (.invokevirtual 99, 3) := by decide +kernel
theorem dX5_isInferred_5 : decode cX5_isInferred 5 = .ok (.aload_n 0, 1) := by decide +kernel
theorem dX5_isInferred_6 : decode cX5_isInferred 6 = .ok (.getfield 10, 3) := by decide +kernel
theorem dX5_isInferred_9 : decode cX5_isInferred 9 = .ok (.getfield 51, 3) := by decide +kernel
theorem dX5_isInferred_12 : decode cX5_isInferred 12 = .ok (.getfield 154, 3) := by decide +kernel
theorem dX5_isInferred_15 : decode cX5_isInferred 15 = .ok (.iload_n 1, 1) := by decide +kernel
theorem dX5_isInferred_16 : decode cX5_isInferred 16 = .ok (.baload, 1) := by decide +kernel
theorem dX5_isInferred_17 : decode cX5_isInferred 17 = .ok (.ireturn, 1) := by decide +kernel
set_option maxRecDepth 20000 in
theorem ggX5_firstInferred_X4_earliestInferred : GoodIn wsX5_firstInferred wsX4_earliestInferred := goodIn_ca (goodIn_r _ [7, 8, 9, 10, 11, 12, 6, 13, 14, 15, 16, 17, 18, 19, 20, 38, 39, 40, 41, 42, 43, 44] (by decide +kernel) (by decide +kernel)) (goodIn_sub (fun _ h => List.mem_cons_of_mem _ (List.mem_append_left _ (List.mem_append_right _ h))) (by decide +kernel))
set_option maxRecDepth 20000 in
theorem gX5_firstInferred_X4_earliestInferred : GoodIn wsX5_firstInferred (wsV RX5 158 RX4 yX4_earliestInferred wsX4_earliestInferred) := goodIn_app (goodIn_of _ (by decide +kernel)) ggX5_firstInferred_X4_earliestInferred
set_option maxRecDepth 20000 in
theorem ggX5_firstInferred_X5_found : GoodIn wsX5_firstInferred wsX5_found := goodIn_ca (goodIn_r _ [24, 25, 26] (by decide +kernel) (by decide +kernel)) (goodIn_sub (fun _ h => List.mem_cons_of_mem _ (List.mem_append_right _ h)) (by decide +kernel))
set_option maxRecDepth 20000 in
theorem gX5_firstInferred_X5_found : GoodIn wsX5_firstInferred (va_wsS RX5 139 yX5_found wsX5_found) := goodIn_app (goodIn_of _ (by decide +kernel)) ggX5_firstInferred_X5_found
theorem dX5_firstInferred_0 : decode cX5_firstInferred 0 = .ok (.aload_n 0, 1) := by decide +kernel
theorem dX5_firstInferred_1 : decode cX5_firstInferred 1 = .ok (.getfield 10, 3) := by decide +kernel
theorem dX5_firstInferred_4 : decode cX5_firstInferred 4 = .ok (.getfield 51, 3) := by decide +kernel
theorem dX5_firstInferred_7 : decode cX5_firstInferred 7 = .ok (.invokevirtual 158, 3) := by decide +kernel
theorem dX5_firstInferred_10 : decode cX5_firstInferred 10 = .ok (.invokestatic 139, 3) := by decide +kernel
theorem dX5_firstInferred_13 : decode cX5_firstInferred 13 = .ok (.ireturn, 1) := by decide +kernel
set_option maxRecDepth 20000 in
theorem ggX5_inferredCount_X4_countInferred : GoodIn wsX5_inferredCount wsX4_countInferred := goodIn_ca (goodIn_r _ [7, 8, 9, 10, 11, 12, 6, 13, 14, 26, 27, 28, 29, 30, 31, 32] (by decide +kernel) (by decide +kernel)) (goodIn_sub (fun _ h => List.mem_cons_of_mem _ (List.mem_append_right _ h)) (by decide +kernel))
set_option maxRecDepth 20000 in
theorem gX5_inferredCount_X4_countInferred : GoodIn wsX5_inferredCount (wsV RX5 161 RX4 yX4_countInferred wsX4_countInferred) := goodIn_app (goodIn_of _ (by decide +kernel)) ggX5_inferredCount_X4_countInferred
theorem dX5_inferredCount_0 : decode cX5_inferredCount 0 = .ok (.aload_n 0, 1) := by decide +kernel
theorem dX5_inferredCount_1 : decode cX5_inferredCount 1 = .ok (.getfield 10, 3) := by decide +kernel
theorem dX5_inferredCount_4 : decode cX5_inferredCount 4 = .ok (.getfield 51, 3) := by decide +kernel
theorem dX5_inferredCount_7 : decode cX5_inferredCount 7 = .ok (.invokevirtual 161, 3) := by decide +kernel
theorem dX5_inferredCount_10 : decode cX5_inferredCount 10 = .ok (.ireturn, 1) := by decide +kernel
set_option maxRecDepth 20000 in
theorem ggX5_removedCount_X4_count : GoodIn wsX5_removedCount wsX4_count := goodIn_ca (goodIn_r _ [8, 9, 10, 11, 12, 7, 13, 14, 26, 27, 28, 29, 30, 31, 32] (by decide +kernel) (by decide +kernel)) (goodIn_sub (fun _ h => List.mem_cons_of_mem _ (List.mem_append_right _ h)) (by decide +kernel))
set_option maxRecDepth 20000 in
theorem gX5_removedCount_X4_count : GoodIn wsX5_removedCount (wsV RX5 125 RX4 yX4_count wsX4_count) := goodIn_app (goodIn_of _ (by decide +kernel)) ggX5_removedCount_X4_count
theorem dX5_removedCount_0 : decode cX5_removedCount 0 = .ok (.aload_n 0, 1) := by decide +kernel
theorem dX5_removedCount_1 : decode cX5_removedCount 1 = .ok (.getfield 10, 3) := by decide +kernel
theorem dX5_removedCount_4 : decode cX5_removedCount 4 = .ok (.getfield 51, 3) := by decide +kernel
theorem dX5_removedCount_7 : decode cX5_removedCount 7 = .ok (.getfield 164, 3) := by decide +kernel
theorem dX5_removedCount_10 : decode cX5_removedCount 10 = .ok (.aload_n 0, 1) := by decide +kernel
theorem dX5_removedCount_11 : decode cX5_removedCount 11 = .ok (.getfield 10, 3) := by decide +kernel
theorem dX5_removedCount_14 : decode cX5_removedCount 14 = .ok (.getfield 51, 3) := by decide +kernel
theorem dX5_removedCount_17 : decode cX5_removedCount 17 = .ok (.invokevirtual 125, 3) := by decide +kernel
theorem dX5_removedCount_20 : decode cX5_removedCount 20 = .ok (.isub, 1) := by decide +kernel
theorem dX5_removedCount_21 : decode cX5_removedCount 21 = .ok (.ireturn, 1) := by decide +kernel
theorem dX5_factCount_0 : decode cX5_factCount 0 = .ok (.aload_n 0, 1) := by decide +kernel
theorem dX5_factCount_1 : decode cX5_factCount 1 = .ok (.getfield 10, 3) := by decide +kernel
theorem dX5_factCount_4 : decode cX5_factCount 4 = .ok (.getfield 64, 3) := by decide +kernel
theorem dX5_factCount_7 : decode cX5_factCount 7 = .ok (.getfield 167, 3) := by decide +kernel
theorem dX5_factCount_10 : decode cX5_factCount 10 = .ok (.ireturn, 1) := by decide +kernel
set_option maxRecDepth 20000 in
theorem ggX5_fact_X4_valueOf : GoodIn wsX5_fact wsX4_valueOf := goodIn_ca (goodIn_r _ [17, 18, 19, 20, 21, 16, 22, 23, 24, 41, 42, 43, 44, 45, 46, 47] (by decide +kernel) (by decide +kernel)) (goodIn_sub (fun _ h => List.mem_cons_of_mem _ (List.mem_append_left _ (List.mem_append_right _ h))) (by decide +kernel))
set_option maxRecDepth 20000 in
theorem gX5_fact_X4_valueOf : GoodIn wsX5_fact (wsV RX5 180 RX4 yX4_valueOf wsX4_valueOf) := goodIn_app (goodIn_of _ (by decide +kernel)) ggX5_fact_X4_valueOf
theorem dX5_fact_0 : decode cX5_fact 0 = .ok (.iload_n 1, 1) := by decide +kernel
theorem dX5_fact_1 : decode cX5_fact 1 = .ok (.ifCond .lt 17, 3) := by decide +kernel
theorem dX5_fact_4 : decode cX5_fact 4 = .ok (.iload_n 1, 1) := by decide +kernel
theorem dX5_fact_5 : decode cX5_fact 5 = .ok (.aload_n 0, 1) := by decide +kernel
theorem dX5_fact_6 : decode cX5_fact 6 = .ok (.getfield 10, 3) := by decide +kernel
theorem dX5_fact_9 : decode cX5_fact 9 = .ok (.getfield 64, 3) := by decide +kernel
theorem dX5_fact_12 : decode cX5_fact 12 = .ok (.getfield 167, 3) := by decide +kernel
theorem dX5_fact_15 : decode cX5_fact 15 = .ok (.if_icmp .lt 11, 3) := by decide +kernel
theorem dX5_fact_18 : decode cX5_fact 18 = .ok (.new 169, 3) := by decide +kernel
theorem dX5_fact_21 : decode cX5_fact 21 = .ok (.dup, 1) := by decide +kernel
theorem dX5_fact_22 : decode cX5_fact 22 = .ok (.invokespecial 171, 3) := by decide +kernel
theorem dX5_fact_25 : decode cX5_fact 25 = .ok (.athrow, 1) := by decide +kernel
theorem dX5_fact_26 : decode cX5_fact 26 = .ok (.iload_n 2, 1) := by decide +kernel
theorem dX5_fact_27 : decode cX5_fact 27 = .ok (.tableswitch 108 0 4 #[33, 46, 59, 72, 85], 33) := by decide +kernel
theorem dX5_fact_60 : decode cX5_fact 60 = .ok (.aload_n 0, 1) := by decide +kernel
theorem dX5_fact_61 : decode cX5_fact 61 = .ok (.getfield 10, 3) := by decide +kernel
theorem dX5_fact_64 : decode cX5_fact 64 = .ok (.getfield 64, 3) := by decide +kernel
theorem dX5_fact_67 : decode cX5_fact 67 = .ok (.getfield 172, 3) := by decide +kernel
theorem dX5_fact_70 : decode cX5_fact 70 = .ok (.iload_n 1, 1) := by decide +kernel
theorem dX5_fact_71 : decode cX5_fact 71 = .ok (.iaload, 1) := by decide +kernel
theorem dX5_fact_72 : decode cX5_fact 72 = .ok (.ireturn, 1) := by decide +kernel
theorem dX5_fact_73 : decode cX5_fact 73 = .ok (.aload_n 0, 1) := by decide +kernel
theorem dX5_fact_74 : decode cX5_fact 74 = .ok (.getfield 10, 3) := by decide +kernel
theorem dX5_fact_77 : decode cX5_fact 77 = .ok (.getfield 64, 3) := by decide +kernel
theorem dX5_fact_80 : decode cX5_fact 80 = .ok (.getfield 173, 3) := by decide +kernel
theorem dX5_fact_83 : decode cX5_fact 83 = .ok (.iload_n 1, 1) := by decide +kernel
theorem dX5_fact_84 : decode cX5_fact 84 = .ok (.iaload, 1) := by decide +kernel
theorem dX5_fact_85 : decode cX5_fact 85 = .ok (.ireturn, 1) := by decide +kernel
theorem dX5_fact_86 : decode cX5_fact 86 = .ok (.aload_n 0, 1) := by decide +kernel
theorem dX5_fact_87 : decode cX5_fact 87 = .ok (.getfield 10, 3) := by decide +kernel
theorem dX5_fact_90 : decode cX5_fact 90 = .ok (.getfield 64, 3) := by decide +kernel
theorem dX5_fact_93 : decode cX5_fact 93 = .ok (.getfield 175, 3) := by decide +kernel
theorem dX5_fact_96 : decode cX5_fact 96 = .ok (.iload_n 1, 1) := by decide +kernel
theorem dX5_fact_97 : decode cX5_fact 97 = .ok (.iaload, 1) := by decide +kernel
theorem dX5_fact_98 : decode cX5_fact 98 = .ok (.ireturn, 1) := by decide +kernel
theorem dX5_fact_99 : decode cX5_fact 99 = .ok (.aload_n 0, 1) := by decide +kernel
theorem dX5_fact_100 : decode cX5_fact 100 = .ok (.getfield 10, 3) := by decide +kernel
theorem dX5_fact_103 : decode cX5_fact 103 = .ok (.getfield 64, 3) := by decide +kernel
theorem dX5_fact_106 : decode cX5_fact 106 = .ok (.getfield 178, 3) := by decide +kernel
theorem dX5_fact_109 : decode cX5_fact 109 = .ok (.iload_n 1, 1) := by decide +kernel
theorem dX5_fact_110 : decode cX5_fact 110 = .ok (.iaload, 1) := by decide +kernel
theorem dX5_fact_111 : decode cX5_fact 111 = .ok (.ireturn, 1) := by decide +kernel
theorem dX5_fact_112 : decode cX5_fact 112 = .ok (.aload_n 0, 1) := by decide +kernel
theorem dX5_fact_113 : decode cX5_fact 113 = .ok (.getfield 10, 3) := by decide +kernel
theorem dX5_fact_116 : decode cX5_fact 116 = .ok (.getfield 51, 3) := by decide +kernel
theorem dX5_fact_119 : decode cX5_fact 119 = .ok (.aload_n 0, 1) := by decide +kernel
theorem dX5_fact_120 : decode cX5_fact 120 = .ok (.getfield 10, 3) := by decide +kernel
theorem dX5_fact_123 : decode cX5_fact 123 = .ok (.getfield 64, 3) := by decide +kernel
theorem dX5_fact_126 : decode cX5_fact 126 = .ok (.getfield 178, 3) := by decide +kernel
theorem dX5_fact_129 : decode cX5_fact 129 = .ok (.iload_n 1, 1) := by decide +kernel
theorem dX5_fact_130 : decode cX5_fact 130 = .ok (.iaload, 1) := by decide +kernel
theorem dX5_fact_131 : decode cX5_fact 131 = .ok (.invokevirtual 180, 3) := by decide +kernel
theorem dX5_fact_134 : decode cX5_fact 134 = .ok (.ireturn, 1) := by decide +kernel
theorem dX5_fact_135 : decode cX5_fact 135 = .ok (.new 151, 3) := by decide +kernel
theorem dX5_fact_138 : decode cX5_fact 138 = .ok (.dup, 1) := by decide +kernel
theorem dX5_fact_139 : decode cX5_fact 139 = .ok (.invokespecial 153, 3) := by decide +kernel
theorem dX5_fact_142 : decode cX5_fact 142 = .ok (.athrow, 1) := by decide +kernel
set_option maxRecDepth 20000 in
theorem ggX5_amountOf_X5_checkVersion : GoodIn wsX5_amountOf wsX5_checkVersion := goodIn_ca (goodIn_ca (goodIn_r _ [7, 8, 9, 1, 10, 11, 12, 13, 14, 15, 16, 17, 26, 27, 28, 29, 30, 31, 32, 33, 34, 35, 36, 37, 38, 39, 40, 41, 42, 43] (by decide +kernel) (by decide +kernel)) (goodIn_sub (fun _ h => List.mem_cons_of_mem _ (List.mem_append_left _ (List.mem_append_right _ h))) (by decide +kernel))) (goodIn_sub (fun _ h => List.mem_cons_of_mem _ (List.mem_append_right _ h)) (by decide +kernel))
set_option maxRecDepth 20000 in
theorem gX5_amountOf_X5_checkVersion : GoodIn wsX5_amountOf (wsV RX5 99 RX5 yX5_checkVersion wsX5_checkVersion) := goodIn_app (goodIn_of _ (by decide +kernel)) ggX5_amountOf_X5_checkVersion
set_option maxRecDepth 20000 in
theorem ggX5_amountOf_X0_sumOf : GoodIn wsX5_amountOf wsX0_sumOf := goodIn_ca (goodIn_r _ [22, 23, 24, 25, 44, 45, 46, 47, 48] (by decide +kernel) (by decide +kernel)) (goodIn_sub (fun _ h => List.mem_cons_of_mem _ (List.mem_append_right _ h)) (by decide +kernel))
set_option maxRecDepth 20000 in
theorem gX5_amountOf_X0_sumOf : GoodIn wsX5_amountOf (wsV RX5 183 RX0 yX0_sumOf wsX0_sumOf) := goodIn_app (goodIn_of _ (by decide +kernel)) ggX5_amountOf_X0_sumOf
theorem dX5_amountOf_0 : decode cX5_amountOf 0 = .ok (.aload_n 0, 1) := by decide +kernel
theorem dX5_amountOf_1 : decode cX5_amountOf 1 = .ok (.iload_n 1, 1) := by decide +kernel
theorem dX5_amountOf_2 : decode cX5_amountOf 2 = .ok (.invokevirtual 99, 3) := by decide +kernel
theorem dX5_amountOf_5 : decode cX5_amountOf 5 = .ok (.aload_n 0, 1) := by decide +kernel
theorem dX5_amountOf_6 : decode cX5_amountOf 6 = .ok (.getfield 10, 3) := by decide +kernel
theorem dX5_amountOf_9 : decode cX5_amountOf 9 = .ok (.getfield 64, 3) := by decide +kernel
theorem dX5_amountOf_12 : decode cX5_amountOf 12 = .ok (.iload_n 1, 1) := by decide +kernel
theorem dX5_amountOf_13 : decode cX5_amountOf 13 = .ok (.invokevirtual 183, 3) := by decide +kernel
theorem dX5_amountOf_16 : decode cX5_amountOf 16 = .ok (.lreturn, 1) := by decide +kernel
set_option maxRecDepth 20000 in
theorem ggX5_amountFor_X5_checkKey : GoodIn wsX5_amountFor wsX5_checkKey := goodIn_ca (goodIn_r _ [9, 10, 11] (by decide +kernel) (by decide +kernel)) (goodIn_sub (fun _ h => List.mem_cons_of_mem _ (List.mem_append_right _ h)) (by decide +kernel))
set_option maxRecDepth 20000 in
theorem gX5_amountFor_X5_checkKey : GoodIn wsX5_amountFor (va_wsS RX5 44 yX5_checkKey wsX5_checkKey) := goodIn_app (goodIn_of _ (by decide +kernel)) ggX5_amountFor_X5_checkKey
set_option maxRecDepth 20000 in
theorem ggX5_amountFor_X4_isOf : GoodIn wsX5_amountFor wsX4_isOf := goodIn_ca (goodIn_r _ [16, 17, 18, 19, 20, 15, 21, 22, 23, 43, 44, 45, 46, 47, 48, 49] (by decide +kernel) (by decide +kernel)) (goodIn_sub (fun _ h => List.mem_cons_of_mem _ (List.mem_append_left _ (List.mem_append_right _ h))) (by decide +kernel))
set_option maxRecDepth 20000 in
theorem gX5_amountFor_X4_isOf : GoodIn wsX5_amountFor (wsV RX5 187 RX4 yX4_isOf wsX4_isOf) := goodIn_app (goodIn_of _ (by decide +kernel)) ggX5_amountFor_X4_isOf
set_option maxRecDepth 20000 in
theorem ggX5_amountFor_X0_sumOf : GoodIn wsX5_amountFor wsX0_sumOf := goodIn_ca (goodIn_r _ [28, 29, 30, 31, 50, 51, 52, 53, 54] (by decide +kernel) (by decide +kernel)) (goodIn_sub (fun _ h => List.mem_cons_of_mem _ (List.mem_append_left _ (List.mem_append_right _ h))) (by decide +kernel))
set_option maxRecDepth 20000 in
theorem gX5_amountFor_X0_sumOf : GoodIn wsX5_amountFor (wsV RX5 183 RX0 yX0_sumOf wsX0_sumOf) := goodIn_app (goodIn_of _ (by decide +kernel)) ggX5_amountFor_X0_sumOf
theorem dX5_amountFor_0 : decode cX5_amountFor 0 = .ok (.iload_n 1, 1) := by decide +kernel
theorem dX5_amountFor_1 : decode cX5_amountFor 1 = .ok (.invokestatic 44, 3) := by decide +kernel
theorem dX5_amountFor_4 : decode cX5_amountFor 4 = .ok (.aload_n 0, 1) := by decide +kernel
theorem dX5_amountFor_5 : decode cX5_amountFor 5 = .ok (.getfield 10, 3) := by decide +kernel
theorem dX5_amountFor_8 : decode cX5_amountFor 8 = .ok (.getfield 51, 3) := by decide +kernel
theorem dX5_amountFor_11 : decode cX5_amountFor 11 = .ok (.astore_n 3, 1) := by decide +kernel
theorem dX5_amountFor_12 : decode cX5_amountFor 12 = .ok (.lconst 0, 1) := by decide +kernel
theorem dX5_amountFor_13 : decode cX5_amountFor 13 = .ok (.lstore 4, 2) := by decide +kernel
theorem dX5_amountFor_15 : decode cX5_amountFor 15 = .ok (.iconst 0, 1) := by decide +kernel
theorem dX5_amountFor_16 : decode cX5_amountFor 16 = .ok (.istore 6, 2) := by decide +kernel
theorem dX5_amountFor_18 : decode cX5_amountFor 18 = .ok (.iload 6, 2) := by decide +kernel
theorem dX5_amountFor_20 : decode cX5_amountFor 20 = .ok (.aload_n 3, 1) := by decide +kernel
theorem dX5_amountFor_21 : decode cX5_amountFor 21 = .ok (.getfield 164, 3) := by decide +kernel
theorem dX5_amountFor_24 : decode cX5_amountFor 24 = .ok (.if_icmp .ge 47, 3) := by decide +kernel
theorem dX5_amountFor_27 : decode cX5_amountFor 27 = .ok (.aload_n 3, 1) := by decide +kernel
theorem dX5_amountFor_28 : decode cX5_amountFor 28 = .ok (.iload 6, 2) := by decide +kernel
theorem dX5_amountFor_30 : decode cX5_amountFor 30 = .ok (.iload_n 1, 1) := by decide +kernel
theorem dX5_amountFor_31 : decode cX5_amountFor 31 = .ok (.invokevirtual 187, 3) := by decide +kernel
theorem dX5_amountFor_34 : decode cX5_amountFor 34 = .ok (.ifCond .eq 31, 3) := by decide +kernel
theorem dX5_amountFor_37 : decode cX5_amountFor 37 = .ok (.aload_n 3, 1) := by decide +kernel
theorem dX5_amountFor_38 : decode cX5_amountFor 38 = .ok (.getfield 102, 3) := by decide +kernel
theorem dX5_amountFor_41 : decode cX5_amountFor 41 = .ok (.iload 6, 2) := by decide +kernel
theorem dX5_amountFor_43 : decode cX5_amountFor 43 = .ok (.iaload, 1) := by decide +kernel
theorem dX5_amountFor_44 : decode cX5_amountFor 44 = .ok (.iload_n 2, 1) := by decide +kernel
theorem dX5_amountFor_45 : decode cX5_amountFor 45 = .ok (.if_icmp .ne 20, 3) := by decide +kernel
theorem dX5_amountFor_48 : decode cX5_amountFor 48 = .ok (.lload 4, 2) := by decide +kernel
theorem dX5_amountFor_50 : decode cX5_amountFor 50 = .ok (.aload_n 0, 1) := by decide +kernel
theorem dX5_amountFor_51 : decode cX5_amountFor 51 = .ok (.getfield 10, 3) := by decide +kernel
theorem dX5_amountFor_54 : decode cX5_amountFor 54 = .ok (.getfield 64, 3) := by decide +kernel
theorem dX5_amountFor_57 : decode cX5_amountFor 57 = .ok (.iload 6, 2) := by decide +kernel
theorem dX5_amountFor_59 : decode cX5_amountFor 59 = .ok (.invokevirtual 183, 3) := by decide +kernel
theorem dX5_amountFor_62 : decode cX5_amountFor 62 = .ok (.ladd, 1) := by decide +kernel
theorem dX5_amountFor_63 : decode cX5_amountFor 63 = .ok (.lstore 4, 2) := by decide +kernel
theorem dX5_amountFor_65 : decode cX5_amountFor 65 = .ok (.iinc 6 1, 3) := by decide +kernel
theorem dX5_amountFor_68 : decode cX5_amountFor 68 = .ok (.goto (-50), 3) := by decide +kernel
theorem dX5_amountFor_71 : decode cX5_amountFor 71 = .ok (.lload 4, 2) := by decide +kernel
theorem dX5_amountFor_73 : decode cX5_amountFor 73 = .ok (.lreturn, 1) := by decide +kernel
theorem dX5_pointedAnew_0 : decode cX5_pointedAnew 0 = .ok (.aload_n 0, 1) := by decide +kernel
theorem dX5_pointedAnew_1 : decode cX5_pointedAnew 1 = .ok (.getfield 132, 3) := by decide +kernel
theorem dX5_pointedAnew_4 : decode cX5_pointedAnew 4 = .ok (.ireturn, 1) := by decide +kernel
set_option maxRecDepth 20000 in
theorem ggX5_gaps_X5_checkKey : GoodIn wsX5_gaps wsX5_checkKey := goodIn_ca (goodIn_r _ [6, 7, 8] (by decide +kernel) (by decide +kernel)) (goodIn_sub (fun _ h => List.mem_cons_of_mem _ (List.mem_append_left _ (List.mem_append_right _ h))) (by decide +kernel))
set_option maxRecDepth 20000 in
theorem gX5_gaps_X5_checkKey : GoodIn wsX5_gaps (va_wsS RX5 44 yX5_checkKey wsX5_checkKey) := goodIn_app (goodIn_of _ (by decide +kernel)) ggX5_gaps_X5_checkKey
set_option maxRecDepth 20000 in
theorem ggX5_gaps_X4_countGaps : GoodIn wsX5_gaps wsX4_countGaps := goodIn_ca (goodIn_r _ [13, 14, 15, 16, 17, 12, 18, 19, 20, 21, 22, 23, 24, 25, 26, 27, 28, 29, 30, 31, 32, 33, 34, 35, 36, 37, 38, 50, 51, 52, 53, 54, 55, 56] (by decide +kernel) (by decide +kernel)) (goodIn_sub (fun _ h => List.mem_cons_of_mem _ (List.mem_append_right _ h)) (by decide +kernel))
set_option maxRecDepth 20000 in
theorem gX5_gaps_X4_countGaps : GoodIn wsX5_gaps (wsV RX5 190 RX4 yX4_countGaps wsX4_countGaps) := goodIn_app (goodIn_of _ (by decide +kernel)) ggX5_gaps_X4_countGaps
theorem dX5_gaps_0 : decode cX5_gaps 0 = .ok (.iload_n 1, 1) := by decide +kernel
theorem dX5_gaps_1 : decode cX5_gaps 1 = .ok (.invokestatic 44, 3) := by decide +kernel
theorem dX5_gaps_4 : decode cX5_gaps 4 = .ok (.aload_n 0, 1) := by decide +kernel
theorem dX5_gaps_5 : decode cX5_gaps 5 = .ok (.getfield 10, 3) := by decide +kernel
theorem dX5_gaps_8 : decode cX5_gaps 8 = .ok (.getfield 51, 3) := by decide +kernel
theorem dX5_gaps_11 : decode cX5_gaps 11 = .ok (.iload_n 1, 1) := by decide +kernel
theorem dX5_gaps_12 : decode cX5_gaps 12 = .ok (.invokevirtual 190, 3) := by decide +kernel
theorem dX5_gaps_15 : decode cX5_gaps 15 = .ok (.ireturn, 1) := by decide +kernel
set_option maxRecDepth 20000 in
theorem ggX5_gapDay_X5_checkKey : GoodIn wsX5_gapDay wsX5_checkKey := goodIn_ca (goodIn_r _ [8, 9, 10] (by decide +kernel) (by decide +kernel)) (goodIn_sub (fun _ h => List.mem_cons_of_mem _ (List.mem_append_left _ (List.mem_append_right _ h))) (by decide +kernel))
set_option maxRecDepth 20000 in
theorem gX5_gapDay_X5_checkKey : GoodIn wsX5_gapDay (va_wsS RX5 44 yX5_checkKey wsX5_checkKey) := goodIn_app (goodIn_of _ (by decide +kernel)) ggX5_gapDay_X5_checkKey
set_option maxRecDepth 20000 in
theorem ggX5_gapDay_X4_aheadOfGap : GoodIn wsX5_gapDay wsX4_aheadOfGap := goodIn_ca (goodIn_r _ [15, 16, 17, 18, 19, 20, 14, 21, 22, 23, 24, 25, 26, 27, 28, 29, 30, 31, 32, 33, 34, 35, 36, 37, 38, 39, 40, 58, 59, 60, 61, 62, 63, 64] (by decide +kernel) (by decide +kernel)) (goodIn_sub (fun _ h => List.mem_cons_of_mem _ (List.mem_append_left _ (List.mem_append_left _ (List.mem_append_right _ h)))) (by decide +kernel))
set_option maxRecDepth 20000 in
theorem gX5_gapDay_X4_aheadOfGap : GoodIn wsX5_gapDay (wsV RX5 193 RX4 yX4_aheadOfGap wsX4_aheadOfGap) := goodIn_app (goodIn_of _ (by decide +kernel)) ggX5_gapDay_X4_aheadOfGap
set_option maxRecDepth 20000 in
theorem ggX5_gapDay_X5_found : GoodIn wsX5_gapDay wsX5_found := goodIn_ca (goodIn_r _ [43, 44, 45] (by decide +kernel) (by decide +kernel)) (goodIn_sub (fun _ h => List.mem_cons_of_mem _ (List.mem_append_right _ h)) (by decide +kernel))
set_option maxRecDepth 20000 in
theorem gX5_gapDay_X5_found : GoodIn wsX5_gapDay (va_wsS RX5 139 yX5_found wsX5_found) := goodIn_app (goodIn_of _ (by decide +kernel)) ggX5_gapDay_X5_found
set_option maxRecDepth 20000 in
theorem ggX5_gapDay_X4_nextFirst : GoodIn wsX5_gapDay wsX4_nextFirst := goodIn_ca (goodIn_r _ [40, 17, 18, 19, 20, 14, 21, 16, 22, 23, 24, 25, 26, 27, 28, 29, 30, 31, 58, 59, 60, 61, 62, 63, 64] (by decide +kernel) (by decide +kernel)) (goodIn_sub (fun _ h => List.mem_cons_of_mem _ (List.mem_append_left _ (List.mem_append_left _ (List.mem_append_right _ h)))) (by decide +kernel))
set_option maxRecDepth 20000 in
theorem gX5_gapDay_X4_nextFirst : GoodIn wsX5_gapDay (wsV RX5 196 RX4 yX4_nextFirst wsX4_nextFirst) := goodIn_app (goodIn_of _ (by decide +kernel)) ggX5_gapDay_X4_nextFirst
theorem dX5_gapDay_0 : decode cX5_gapDay 0 = .ok (.iload_n 1, 1) := by decide +kernel
theorem dX5_gapDay_1 : decode cX5_gapDay 1 = .ok (.invokestatic 44, 3) := by decide +kernel
theorem dX5_gapDay_4 : decode cX5_gapDay 4 = .ok (.aload_n 0, 1) := by decide +kernel
theorem dX5_gapDay_5 : decode cX5_gapDay 5 = .ok (.getfield 10, 3) := by decide +kernel
theorem dX5_gapDay_8 : decode cX5_gapDay 8 = .ok (.getfield 51, 3) := by decide +kernel
theorem dX5_gapDay_11 : decode cX5_gapDay 11 = .ok (.astore 4, 2) := by decide +kernel
theorem dX5_gapDay_13 : decode cX5_gapDay 13 = .ok (.aload 4, 2) := by decide +kernel
theorem dX5_gapDay_15 : decode cX5_gapDay 15 = .ok (.iload_n 1, 1) := by decide +kernel
theorem dX5_gapDay_16 : decode cX5_gapDay 16 = .ok (.iload_n 2, 1) := by decide +kernel
theorem dX5_gapDay_17 : decode cX5_gapDay 17 = .ok (.invokevirtual 193, 3) := by decide +kernel
theorem dX5_gapDay_20 : decode cX5_gapDay 20 = .ok (.invokestatic 139, 3) := by decide +kernel
theorem dX5_gapDay_23 : decode cX5_gapDay 23 = .ok (.istore 5, 2) := by decide +kernel
theorem dX5_gapDay_25 : decode cX5_gapDay 25 = .ok (.iload_n 3, 1) := by decide +kernel
theorem dX5_gapDay_26 : decode cX5_gapDay 26 = .ok (.ifCond .eq 22, 3) := by decide +kernel
theorem dX5_gapDay_29 : decode cX5_gapDay 29 = .ok (.aload 4, 2) := by decide +kernel
theorem dX5_gapDay_31 : decode cX5_gapDay 31 = .ok (.iload_n 1, 1) := by decide +kernel
theorem dX5_gapDay_32 : decode cX5_gapDay 32 = .ok (.aload 4, 2) := by decide +kernel
theorem dX5_gapDay_34 : decode cX5_gapDay 34 = .ok (.getfield 88, 3) := by decide +kernel
theorem dX5_gapDay_37 : decode cX5_gapDay 37 = .ok (.iload 5, 2) := by decide +kernel
theorem dX5_gapDay_39 : decode cX5_gapDay 39 = .ok (.iaload, 1) := by decide +kernel
theorem dX5_gapDay_40 : decode cX5_gapDay 40 = .ok (.invokevirtual 196, 3) := by decide +kernel
theorem dX5_gapDay_43 : decode cX5_gapDay 43 = .ok (.iconst 1, 1) := by decide +kernel
theorem dX5_gapDay_44 : decode cX5_gapDay 44 = .ok (.isub, 1) := by decide +kernel
theorem dX5_gapDay_45 : decode cX5_gapDay 45 = .ok (.goto 11, 3) := by decide +kernel
theorem dX5_gapDay_48 : decode cX5_gapDay 48 = .ok (.aload 4, 2) := by decide +kernel
theorem dX5_gapDay_50 : decode cX5_gapDay 50 = .ok (.getfield 96, 3) := by decide +kernel
theorem dX5_gapDay_53 : decode cX5_gapDay 53 = .ok (.iload 5, 2) := by decide +kernel
theorem dX5_gapDay_55 : decode cX5_gapDay 55 = .ok (.iaload, 1) := by decide +kernel
theorem dX5_gapDay_56 : decode cX5_gapDay 56 = .ok (.ireturn, 1) := by decide +kernel
set_option maxRecDepth 20000 in
theorem ggX5_gapDays_X4_sumGaps : GoodIn wsX5_gapDays wsX4_sumGaps := goodIn_ca (goodIn_r _ [7, 8, 9, 10, 11, 6, 12, 13, 14, 15, 16, 17, 18, 19, 20, 21, 22, 23, 24, 25, 26, 27, 28, 29, 30, 31, 32, 44, 45, 46, 47, 48, 49, 50] (by decide +kernel) (by decide +kernel)) (goodIn_sub (fun _ h => List.mem_cons_of_mem _ (List.mem_append_right _ h)) (by decide +kernel))
set_option maxRecDepth 20000 in
theorem gX5_gapDays_X4_sumGaps : GoodIn wsX5_gapDays (wsV RX5 199 RX4 yX4_sumGaps wsX4_sumGaps) := goodIn_app (goodIn_of _ (by decide +kernel)) ggX5_gapDays_X4_sumGaps
theorem dX5_gapDays_0 : decode cX5_gapDays 0 = .ok (.aload_n 0, 1) := by decide +kernel
theorem dX5_gapDays_1 : decode cX5_gapDays 1 = .ok (.getfield 10, 3) := by decide +kernel
theorem dX5_gapDays_4 : decode cX5_gapDays 4 = .ok (.getfield 51, 3) := by decide +kernel
theorem dX5_gapDays_7 : decode cX5_gapDays 7 = .ok (.invokevirtual 199, 3) := by decide +kernel
theorem dX5_gapDays_10 : decode cX5_gapDays 10 = .ok (.ireturn, 1) := by decide +kernel
set_option maxRecDepth 20000 in
theorem ggX5_coverage_X5_checkKey : GoodIn wsX5_coverage wsX5_checkKey := goodIn_ca (goodIn_r _ [8, 9, 10] (by decide +kernel) (by decide +kernel)) (goodIn_sub (fun _ h => List.mem_cons_of_mem _ (List.mem_append_left _ (List.mem_append_right _ h))) (by decide +kernel))
set_option maxRecDepth 20000 in
theorem gX5_coverage_X5_checkKey : GoodIn wsX5_coverage (va_wsS RX5 44 yX5_checkKey wsX5_checkKey) := goodIn_app (goodIn_of _ (by decide +kernel)) ggX5_coverage_X5_checkKey
set_option maxRecDepth 20000 in
theorem ggX5_coverage_X4_countOf : GoodIn wsX5_coverage wsX4_countOf := goodIn_ca (goodIn_r _ [15, 16, 17, 18, 19, 14, 20, 21, 22, 23, 24, 25, 26, 56, 57, 58, 59, 60, 61, 62] (by decide +kernel) (by decide +kernel)) (goodIn_sub (fun _ h => List.mem_cons_of_mem _ (List.mem_append_right _ h)) (by decide +kernel))
set_option maxRecDepth 20000 in
theorem gX5_coverage_X4_countOf : GoodIn wsX5_coverage (wsV RX5 135 RX4 yX4_countOf wsX4_countOf) := goodIn_app (goodIn_of _ (by decide +kernel)) ggX5_coverage_X4_countOf
set_option maxRecDepth 20000 in
theorem ggX5_coverage_X4_sumDays : GoodIn wsX5_coverage wsX4_sumDays := goodIn_ca (goodIn_r _ [30, 16, 17, 18, 19, 14, 20, 21, 22, 23, 24, 25, 26, 31, 32, 33, 34, 35, 36, 56, 57, 58, 59, 60, 61, 62] (by decide +kernel) (by decide +kernel)) (goodIn_sub (fun _ h => List.mem_cons_of_mem _ (List.mem_append_right _ h)) (by decide +kernel))
set_option maxRecDepth 20000 in
theorem gX5_coverage_X4_sumDays : GoodIn wsX5_coverage (wsV RX5 205 RX4 yX4_sumDays wsX4_sumDays) := goodIn_app (goodIn_of _ (by decide +kernel)) ggX5_coverage_X4_sumDays
set_option maxRecDepth 20000 in
theorem ggX5_coverage_X4_nextFirst : GoodIn wsX5_coverage wsX4_nextFirst := goodIn_ca (goodIn_r _ [40, 36, 41, 42, 43, 14, 44, 16, 17, 18, 19, 20, 21, 22, 23, 24, 25, 26, 56, 57, 58, 59, 60, 61, 62] (by decide +kernel) (by decide +kernel)) (goodIn_sub (fun _ h => List.mem_cons_of_mem _ (List.mem_append_right _ h)) (by decide +kernel))
set_option maxRecDepth 20000 in
theorem gX5_coverage_X4_nextFirst : GoodIn wsX5_coverage (wsV RX5 196 RX4 yX4_nextFirst wsX4_nextFirst) := goodIn_app (goodIn_of _ (by decide +kernel)) ggX5_coverage_X4_nextFirst
theorem dX5_coverage_0 : decode cX5_coverage 0 = .ok (.iload_n 1, 1) := by decide +kernel
theorem dX5_coverage_1 : decode cX5_coverage 1 = .ok (.invokestatic 44, 3) := by decide +kernel
theorem dX5_coverage_4 : decode cX5_coverage 4 = .ok (.aload_n 0, 1) := by decide +kernel
theorem dX5_coverage_5 : decode cX5_coverage 5 = .ok (.getfield 10, 3) := by decide +kernel
theorem dX5_coverage_8 : decode cX5_coverage 8 = .ok (.getfield 51, 3) := by decide +kernel
theorem dX5_coverage_11 : decode cX5_coverage 11 = .ok (.iload_n 1, 1) := by decide +kernel
theorem dX5_coverage_12 : decode cX5_coverage 12 = .ok (.invokevirtual 135, 3) := by decide +kernel
theorem dX5_coverage_15 : decode cX5_coverage 15 = .ok (.ifCond .ne 11, 3) := by decide +kernel
theorem dX5_coverage_18 : decode cX5_coverage 18 = .ok (.new 202, 3) := by decide +kernel
theorem dX5_coverage_21 : decode cX5_coverage 21 = .ok (.dup, 1) := by decide +kernel
theorem dX5_coverage_22 : decode cX5_coverage 22 = .ok (.invokespecial 204, 3) := by decide +kernel
theorem dX5_coverage_25 : decode cX5_coverage 25 = .ok (.athrow, 1) := by decide +kernel
theorem dX5_coverage_26 : decode cX5_coverage 26 = .ok (.aload_n 0, 1) := by decide +kernel
theorem dX5_coverage_27 : decode cX5_coverage 27 = .ok (.getfield 10, 3) := by decide +kernel
theorem dX5_coverage_30 : decode cX5_coverage 30 = .ok (.getfield 51, 3) := by decide +kernel
theorem dX5_coverage_33 : decode cX5_coverage 33 = .ok (.iload_n 1, 1) := by decide +kernel
theorem dX5_coverage_34 : decode cX5_coverage 34 = .ok (.invokevirtual 205, 3) := by decide +kernel
theorem dX5_coverage_37 : decode cX5_coverage 37 = .ok (.i2d, 1) := by decide +kernel
theorem dX5_coverage_38 : decode cX5_coverage 38 = .ok (.sipush 1000, 3) := by decide +kernel
theorem dX5_coverage_41 : decode cX5_coverage 41 = .ok (.aload_n 0, 1) := by decide +kernel
theorem dX5_coverage_42 : decode cX5_coverage 42 = .ok (.getfield 10, 3) := by decide +kernel
theorem dX5_coverage_45 : decode cX5_coverage 45 = .ok (.getfield 51, 3) := by decide +kernel
theorem dX5_coverage_48 : decode cX5_coverage 48 = .ok (.iload_n 1, 1) := by decide +kernel
theorem dX5_coverage_49 : decode cX5_coverage 49 = .ok (.iconst (-1), 1) := by decide +kernel
theorem dX5_coverage_50 : decode cX5_coverage 50 = .ok (.invokevirtual 196, 3) := by decide +kernel
theorem dX5_coverage_53 : decode cX5_coverage 53 = .ok (.isub, 1) := by decide +kernel
theorem dX5_coverage_54 : decode cX5_coverage 54 = .ok (.i2d, 1) := by decide +kernel
theorem dX5_coverage_55 : decode cX5_coverage 55 = .ok (.ddiv, 1) := by decide +kernel
theorem dX5_coverage_56 : decode cX5_coverage 56 = .ok (.dreturn, 1) := by decide +kernel
set_option maxRecDepth 20000 in
theorem ggX5_isCovered_X5_checkKey : GoodIn wsX5_isCovered wsX5_checkKey := goodIn_ca (goodIn_r _ [6, 7, 8] (by decide +kernel) (by decide +kernel)) (goodIn_sub (fun _ h => List.mem_cons_of_mem _ (List.mem_append_left _ (List.mem_append_left _ (List.mem_append_right _ h)))) (by decide +kernel))
set_option maxRecDepth 20000 in
theorem gX5_isCovered_X5_checkKey : GoodIn wsX5_isCovered (va_wsS RX5 44 yX5_checkKey wsX5_checkKey) := goodIn_app (goodIn_of _ (by decide +kernel)) ggX5_isCovered_X5_checkKey
set_option maxRecDepth 20000 in
theorem ggX5_isCovered_X5_checkDay : GoodIn wsX5_isCovered wsX5_checkDay := goodIn_ca (goodIn_r _ [11, 12, 13] (by decide +kernel) (by decide +kernel)) (goodIn_sub (fun _ h => List.mem_cons_of_mem _ (List.mem_append_left _ (List.mem_append_right _ h))) (by decide +kernel))
set_option maxRecDepth 20000 in
theorem gX5_isCovered_X5_checkDay : GoodIn wsX5_isCovered (va_wsS RX5 48 yX5_checkDay wsX5_checkDay) := goodIn_app (goodIn_of _ (by decide +kernel)) ggX5_isCovered_X5_checkDay
set_option maxRecDepth 20000 in
theorem ggX5_isCovered_X4_fill : GoodIn wsX5_isCovered wsX4_fill := goodIn_ca (goodIn_r _ [18, 19, 20, 21, 22, 23, 17, 24, 25, 26, 27, 28, 29, 30, 31, 32, 33, 34, 35, 47, 48, 49, 50, 51, 52, 53] (by decide +kernel) (by decide +kernel)) (goodIn_sub (fun _ h => List.mem_cons_of_mem _ (List.mem_append_right _ h)) (by decide +kernel))
set_option maxRecDepth 20000 in
theorem gX5_isCovered_X4_fill : GoodIn wsX5_isCovered (wsV RX5 208 RX4 yX4_fill wsX4_fill) := goodIn_app (goodIn_of _ (by decide +kernel)) ggX5_isCovered_X4_fill
theorem dX5_isCovered_0 : decode cX5_isCovered 0 = .ok (.iload_n 1, 1) := by decide +kernel
theorem dX5_isCovered_1 : decode cX5_isCovered 1 = .ok (.invokestatic 44, 3) := by decide +kernel
theorem dX5_isCovered_4 : decode cX5_isCovered 4 = .ok (.iload_n 2, 1) := by decide +kernel
theorem dX5_isCovered_5 : decode cX5_isCovered 5 = .ok (.invokestatic 48, 3) := by decide +kernel
theorem dX5_isCovered_8 : decode cX5_isCovered 8 = .ok (.iload_n 3, 1) := by decide +kernel
theorem dX5_isCovered_9 : decode cX5_isCovered 9 = .ok (.invokestatic 48, 3) := by decide +kernel
theorem dX5_isCovered_12 : decode cX5_isCovered 12 = .ok (.aload_n 0, 1) := by decide +kernel
theorem dX5_isCovered_13 : decode cX5_isCovered 13 = .ok (.getfield 10, 3) := by decide +kernel
theorem dX5_isCovered_16 : decode cX5_isCovered 16 = .ok (.getfield 51, 3) := by decide +kernel
theorem dX5_isCovered_19 : decode cX5_isCovered 19 = .ok (.iload_n 1, 1) := by decide +kernel
theorem dX5_isCovered_20 : decode cX5_isCovered 20 = .ok (.iload_n 2, 1) := by decide +kernel
theorem dX5_isCovered_21 : decode cX5_isCovered 21 = .ok (.iload_n 3, 1) := by decide +kernel
theorem dX5_isCovered_22 : decode cX5_isCovered 22 = .ok (.invokevirtual 208, 3) := by decide +kernel
theorem dX5_isCovered_25 : decode cX5_isCovered 25 = .ok (.ireturn, 1) := by decide +kernel
set_option maxRecDepth 20000 in
theorem ggX5_stage_X5_checkKey : GoodIn wsX5_stage wsX5_checkKey := goodIn_ca (goodIn_r _ [9, 10, 11] (by decide +kernel) (by decide +kernel)) (goodIn_sub (fun _ h => List.mem_cons_of_mem _ (List.mem_append_left _ (List.mem_append_left _ (List.mem_append_right _ h)))) (by decide +kernel))
set_option maxRecDepth 20000 in
theorem gX5_stage_X5_checkKey : GoodIn wsX5_stage (va_wsS RX5 44 yX5_checkKey wsX5_checkKey) := goodIn_app (goodIn_of _ (by decide +kernel)) ggX5_stage_X5_checkKey
set_option maxRecDepth 20000 in
theorem ggX5_stage_X5_checkDay : GoodIn wsX5_stage wsX5_checkDay := goodIn_ca (goodIn_r _ [14, 15, 16] (by decide +kernel) (by decide +kernel)) (goodIn_sub (fun _ h => List.mem_cons_of_mem _ (List.mem_append_left _ (List.mem_append_right _ h))) (by decide +kernel))
set_option maxRecDepth 20000 in
theorem gX5_stage_X5_checkDay : GoodIn wsX5_stage (va_wsS RX5 48 yX5_checkDay wsX5_checkDay) := goodIn_app (goodIn_of _ (by decide +kernel)) ggX5_stage_X5_checkDay
set_option maxRecDepth 20000 in
theorem ggX5_stage_X1_insert : GoodIn wsX5_stage wsX1_insert := goodIn_ca (goodIn_r _ [21, 22, 23, 24, 25, 26, 27, 28, 20, 29, 30, 31, 32, 33, 45, 46, 47, 48] (by decide +kernel) (by decide +kernel)) (goodIn_sub (fun _ h => List.mem_cons_of_mem _ (List.mem_append_right _ h)) (by decide +kernel))
set_option maxRecDepth 20000 in
theorem gX5_stage_X1_insert : GoodIn wsX5_stage (wsV RX5 215 RX1 yX1_insert wsX1_insert) := goodIn_app (goodIn_of _ (by decide +kernel)) ggX5_stage_X1_insert
theorem dX5_stage_0 : decode cX5_stage 0 = .ok (.iload_n 1, 1) := by decide +kernel
theorem dX5_stage_1 : decode cX5_stage 1 = .ok (.invokestatic 44, 3) := by decide +kernel
theorem dX5_stage_4 : decode cX5_stage 4 = .ok (.iload_n 2, 1) := by decide +kernel
theorem dX5_stage_5 : decode cX5_stage 5 = .ok (.invokestatic 48, 3) := by decide +kernel
theorem dX5_stage_8 : decode cX5_stage 8 = .ok (.aload_n 0, 1) := by decide +kernel
theorem dX5_stage_9 : decode cX5_stage 9 = .ok (.getfield 10, 3) := by decide +kernel
theorem dX5_stage_12 : decode cX5_stage 12 = .ok (.getfield 212, 3) := by decide +kernel
theorem dX5_stage_15 : decode cX5_stage 15 = .ok (.iload_n 1, 1) := by decide +kernel
theorem dX5_stage_16 : decode cX5_stage 16 = .ok (.iload_n 2, 1) := by decide +kernel
theorem dX5_stage_17 : decode cX5_stage 17 = .ok (.iload_n 3, 1) := by decide +kernel
theorem dX5_stage_18 : decode cX5_stage 18 = .ok (.invokevirtual 215, 3) := by decide +kernel
theorem dX5_stage_21 : decode cX5_stage 21 = .ok (.ifCond .ne 11, 3) := by decide +kernel
theorem dX5_stage_24 : decode cX5_stage 24 = .ok (.new 58, 3) := by decide +kernel
theorem dX5_stage_27 : decode cX5_stage 27 = .ok (.dup, 1) := by decide +kernel
theorem dX5_stage_28 : decode cX5_stage 28 = .ok (.invokespecial 60, 3) := by decide +kernel
theorem dX5_stage_31 : decode cX5_stage 31 = .ok (.athrow, 1) := by decide +kernel
theorem dX5_stage_32 : decode cX5_stage 32 = .ok (.aload_n 0, 1) := by decide +kernel
theorem dX5_stage_33 : decode cX5_stage 33 = .ok (.getfield 10, 3) := by decide +kernel
theorem dX5_stage_36 : decode cX5_stage 36 = .ok (.getfield 212, 3) := by decide +kernel
theorem dX5_stage_39 : decode cX5_stage 39 = .ok (.getfield 218, 3) := by decide +kernel
theorem dX5_stage_42 : decode cX5_stage 42 = .ok (.ireturn, 1) := by decide +kernel
theorem dX5_staged_0 : decode cX5_staged 0 = .ok (.aload_n 0, 1) := by decide +kernel
theorem dX5_staged_1 : decode cX5_staged 1 = .ok (.getfield 10, 3) := by decide +kernel
theorem dX5_staged_4 : decode cX5_staged 4 = .ok (.getfield 212, 3) := by decide +kernel
theorem dX5_staged_7 : decode cX5_staged 7 = .ok (.getfield 218, 3) := by decide +kernel
theorem dX5_staged_10 : decode cX5_staged 10 = .ok (.ireturn, 1) := by decide +kernel
theorem dX5_nextRow_0 : decode cX5_nextRow 0 = .ok (.iload_n 1, 1) := by decide +kernel
theorem dX5_nextRow_1 : decode cX5_nextRow 1 = .ok (.ifCond .lt 8, 3) := by decide +kernel
theorem dX5_nextRow_4 : decode cX5_nextRow 4 = .ok (.iload_n 1, 1) := by decide +kernel
theorem dX5_nextRow_5 : decode cX5_nextRow 5 = .ok (.iconst 2, 1) := by decide +kernel
theorem dX5_nextRow_6 : decode cX5_nextRow 6 = .ok (.if_icmp .le 11, 3) := by decide +kernel
theorem dX5_nextRow_9 : decode cX5_nextRow 9 = .ok (.new 151, 3) := by decide +kernel
theorem dX5_nextRow_12 : decode cX5_nextRow 12 = .ok (.dup, 1) := by decide +kernel
theorem dX5_nextRow_13 : decode cX5_nextRow 13 = .ok (.invokespecial 153, 3) := by decide +kernel
theorem dX5_nextRow_16 : decode cX5_nextRow 16 = .ok (.athrow, 1) := by decide +kernel
theorem dX5_nextRow_17 : decode cX5_nextRow 17 = .ok (.aload_n 0, 1) := by decide +kernel
theorem dX5_nextRow_18 : decode cX5_nextRow 18 = .ok (.getfield 10, 3) := by decide +kernel
theorem dX5_nextRow_21 : decode cX5_nextRow 21 = .ok (.getfield 212, 3) := by decide +kernel
theorem dX5_nextRow_24 : decode cX5_nextRow 24 = .ok (.getfield 218, 3) := by decide +kernel
theorem dX5_nextRow_27 : decode cX5_nextRow 27 = .ok (.ifCond .ne 11, 3) := by decide +kernel
theorem dX5_nextRow_30 : decode cX5_nextRow 30 = .ok (.new 85, 3) := by decide +kernel
theorem dX5_nextRow_33 : decode cX5_nextRow 33 = .ok (.dup, 1) := by decide +kernel
theorem dX5_nextRow_34 : decode cX5_nextRow 34 = .ok (.invokespecial 87, 3) := by decide +kernel
theorem dX5_nextRow_37 : decode cX5_nextRow 37 = .ok (.athrow, 1) := by decide +kernel
theorem dX5_nextRow_38 : decode cX5_nextRow 38 = .ok (.iload_n 1, 1) := by decide +kernel
theorem dX5_nextRow_39 : decode cX5_nextRow 39 = .ok (.ifCond .ne 16, 3) := by decide +kernel
theorem dX5_nextRow_42 : decode cX5_nextRow 42 = .ok (.aload_n 0, 1) := by decide +kernel
theorem dX5_nextRow_43 : decode cX5_nextRow 43 = .ok (.getfield 10, 3) := by decide +kernel
theorem dX5_nextRow_46 : decode cX5_nextRow 46 = .ok (.getfield 212, 3) := by decide +kernel
theorem dX5_nextRow_49 : decode cX5_nextRow 49 = .ok (.getfield 219, 3) := by decide +kernel
theorem dX5_nextRow_52 : decode cX5_nextRow 52 = .ok (.iconst 0, 1) := by decide +kernel
theorem dX5_nextRow_53 : decode cX5_nextRow 53 = .ok (.iaload, 1) := by decide +kernel
theorem dX5_nextRow_54 : decode cX5_nextRow 54 = .ok (.ireturn, 1) := by decide +kernel
theorem dX5_nextRow_55 : decode cX5_nextRow 55 = .ok (.iload_n 1, 1) := by decide +kernel
theorem dX5_nextRow_56 : decode cX5_nextRow 56 = .ok (.iconst 1, 1) := by decide +kernel
theorem dX5_nextRow_57 : decode cX5_nextRow 57 = .ok (.if_icmp .ne 18, 3) := by decide +kernel
theorem dX5_nextRow_60 : decode cX5_nextRow 60 = .ok (.aload_n 0, 1) := by decide +kernel
theorem dX5_nextRow_61 : decode cX5_nextRow 61 = .ok (.getfield 10, 3) := by decide +kernel
theorem dX5_nextRow_64 : decode cX5_nextRow 64 = .ok (.getfield 212, 3) := by decide +kernel
theorem dX5_nextRow_67 : decode cX5_nextRow 67 = .ok (.getfield 220, 3) := by decide +kernel
theorem dX5_nextRow_70 : decode cX5_nextRow 70 = .ok (.iconst 0, 1) := by decide +kernel
theorem dX5_nextRow_71 : decode cX5_nextRow 71 = .ok (.iaload, 1) := by decide +kernel
theorem dX5_nextRow_72 : decode cX5_nextRow 72 = .ok (.goto 15, 3) := by decide +kernel
theorem dX5_nextRow_75 : decode cX5_nextRow 75 = .ok (.aload_n 0, 1) := by decide +kernel
theorem dX5_nextRow_76 : decode cX5_nextRow 76 = .ok (.getfield 10, 3) := by decide +kernel
theorem dX5_nextRow_79 : decode cX5_nextRow 79 = .ok (.getfield 212, 3) := by decide +kernel
theorem dX5_nextRow_82 : decode cX5_nextRow 82 = .ok (.getfield 221, 3) := by decide +kernel
theorem dX5_nextRow_85 : decode cX5_nextRow 85 = .ok (.iconst 0, 1) := by decide +kernel
theorem dX5_nextRow_86 : decode cX5_nextRow 86 = .ok (.iaload, 1) := by decide +kernel
theorem dX5_nextRow_87 : decode cX5_nextRow 87 = .ok (.ireturn, 1) := by decide +kernel
set_option maxRecDepth 20000 in
theorem ggX5_loadRows_X5_makeChanges : GoodIn wsX5_loadRows wsX5_makeChanges := goodIn_ca (goodIn_r _ [16, 17, 5, 18, 7, 19, 20, 21, 22, 23, 24, 25, 26, 27, 28, 29, 30, 31, 32, 33, 34, 35, 36, 37, 38, 39, 40, 41, 42, 43, 44, 45, 46, 47, 48, 49, 50, 51, 52, 53, 54, 55, 56, 57, 58, 59, 60, 61, 62, 63, 64, 65, 66, 67, 68, 69, 70, 71, 72, 15, 73, 74, 75, 76, 77, 78, 79, 80, 81, 82, 83, 84, 85, 99, 100, 101, 102, 103, 104, 105, 106, 107, 108, 109, 110, 111, 112, 113, 114, 115, 116, 117, 118, 119, 120, 121, 122, 123, 124, 125] (by decide +kernel) (by decide +kernel)) (goodIn_sub (fun _ h => List.mem_cons_of_mem _ (List.mem_append_right _ h)) (by decide +kernel))
set_option maxRecDepth 20000 in
theorem gX5_loadRows_X5_makeChanges : GoodIn wsX5_loadRows (wsV RX5 227 RX5 yX5_makeChanges wsX5_makeChanges) := goodIn_app (goodIn_of _ (by decide +kernel)) ggX5_loadRows_X5_makeChanges
set_option maxRecDepth 20000 in
theorem ggX5_loadRows_X1_dropFirst : GoodIn wsX5_loadRows wsX1_dropFirst := goodIn_ca (goodIn_r _ [90, 91, 92, 93, 94, 95, 96, 97, 89, 98, 110, 111, 112, 113] (by decide +kernel) (by decide +kernel)) (goodIn_sub (fun _ h => List.mem_cons_of_mem _ (List.mem_append_right _ h)) (by decide +kernel))
set_option maxRecDepth 20000 in
theorem gX5_loadRows_X1_dropFirst : GoodIn wsX5_loadRows (wsV RX5 231 RX1 yX1_dropFirst wsX1_dropFirst) := goodIn_app (goodIn_of _ (by decide +kernel)) ggX5_loadRows_X1_dropFirst
theorem dX5_loadRows_0 : decode cX5_loadRows 0 = .ok (.iload_n 1, 1) := by decide +kernel
theorem dX5_loadRows_1 : decode cX5_loadRows 1 = .ok (.iconst 1, 1) := by decide +kernel
theorem dX5_loadRows_2 : decode cX5_loadRows 2 = .ok (.if_icmp .lt 9, 3) := by decide +kernel
theorem dX5_loadRows_5 : decode cX5_loadRows 5 = .ok (.iload_n 1, 1) := by decide +kernel
theorem dX5_loadRows_6 : decode cX5_loadRows 6 = .ok (.bipush 20, 2) := by decide +kernel
theorem dX5_loadRows_8 : decode cX5_loadRows 8 = .ok (.if_icmp .le 11, 3) := by decide +kernel
theorem dX5_loadRows_11 : decode cX5_loadRows 11 = .ok (.new 151, 3) := by decide +kernel
theorem dX5_loadRows_14 : decode cX5_loadRows 14 = .ok (.dup, 1) := by decide +kernel
theorem dX5_loadRows_15 : decode cX5_loadRows 15 = .ok (.invokespecial 153, 3) := by decide +kernel
theorem dX5_loadRows_18 : decode cX5_loadRows 18 = .ok (.athrow, 1) := by decide +kernel
theorem dX5_loadRows_19 : decode cX5_loadRows 19 = .ok (.iload_n 1, 1) := by decide +kernel
theorem dX5_loadRows_20 : decode cX5_loadRows 20 = .ok (.aload_n 0, 1) := by decide +kernel
theorem dX5_loadRows_21 : decode cX5_loadRows 21 = .ok (.getfield 10, 3) := by decide +kernel
theorem dX5_loadRows_24 : decode cX5_loadRows 24 = .ok (.getfield 212, 3) := by decide +kernel
theorem dX5_loadRows_27 : decode cX5_loadRows 27 = .ok (.getfield 218, 3) := by decide +kernel
theorem dX5_loadRows_30 : decode cX5_loadRows 30 = .ok (.invokestatic 222, 3) := by decide +kernel
theorem dX5_loadRows_33 : decode cX5_loadRows 33 = .ok (.istore_n 2, 1) := by decide +kernel
theorem dX5_loadRows_34 : decode cX5_loadRows 34 = .ok (.aload_n 0, 1) := by decide +kernel
theorem dX5_loadRows_35 : decode cX5_loadRows 35 = .ok (.aload_n 0, 1) := by decide +kernel
theorem dX5_loadRows_36 : decode cX5_loadRows 36 = .ok (.getfield 10, 3) := by decide +kernel
theorem dX5_loadRows_39 : decode cX5_loadRows 39 = .ok (.getfield 212, 3) := by decide +kernel
theorem dX5_loadRows_42 : decode cX5_loadRows 42 = .ok (.iload_n 2, 1) := by decide +kernel
theorem dX5_loadRows_43 : decode cX5_loadRows 43 = .ok (.invokevirtual 227, 3) := by decide +kernel
theorem dX5_loadRows_46 : decode cX5_loadRows 46 = .ok (.ifCond .ne 11, 3) := by decide +kernel
theorem dX5_loadRows_49 : decode cX5_loadRows 49 = .ok (.new 58, 3) := by decide +kernel
theorem dX5_loadRows_52 : decode cX5_loadRows 52 = .ok (.dup, 1) := by decide +kernel
theorem dX5_loadRows_53 : decode cX5_loadRows 53 = .ok (.invokespecial 60, 3) := by decide +kernel
theorem dX5_loadRows_56 : decode cX5_loadRows 56 = .ok (.athrow, 1) := by decide +kernel
theorem dX5_loadRows_57 : decode cX5_loadRows 57 = .ok (.aload_n 0, 1) := by decide +kernel
theorem dX5_loadRows_58 : decode cX5_loadRows 58 = .ok (.getfield 10, 3) := by decide +kernel
theorem dX5_loadRows_61 : decode cX5_loadRows 61 = .ok (.getfield 212, 3) := by decide +kernel
theorem dX5_loadRows_64 : decode cX5_loadRows 64 = .ok (.iload_n 2, 1) := by decide +kernel
theorem dX5_loadRows_65 : decode cX5_loadRows 65 = .ok (.invokevirtual 231, 3) := by decide +kernel
theorem dX5_loadRows_68 : decode cX5_loadRows 68 = .ok (.iload_n 2, 1) := by decide +kernel
theorem dX5_loadRows_69 : decode cX5_loadRows 69 = .ok (.ireturn, 1) := by decide +kernel
set_option maxRecDepth 20000 in
theorem ggX5_append_X3_add : GoodIn wsX5_append wsX3_add := goodIn_ca (goodIn_r _ [11, 12, 13, 22, 23, 24] (by decide +kernel) (by decide +kernel)) (goodIn_sub (fun _ h => List.mem_cons_of_mem _ (List.mem_append_right _ h)) (by decide +kernel))
set_option maxRecDepth 20000 in
theorem gX5_append_X3_add : GoodIn wsX5_append (wsV RX5 234 RX3 yX3_add wsX3_add) := goodIn_app (goodIn_of _ (by decide +kernel)) ggX5_append_X3_add
theorem dX5_append_0 : decode cX5_append 0 = .ok (.iload_n 1, 1) := by decide +kernel
theorem dX5_append_1 : decode cX5_append 1 = .ok (.bipush 32, 2) := by decide +kernel
theorem dX5_append_3 : decode cX5_append 3 = .ok (.if_icmp .lt 9, 3) := by decide +kernel
theorem dX5_append_6 : decode cX5_append 6 = .ok (.iload_n 1, 1) := by decide +kernel
theorem dX5_append_7 : decode cX5_append 7 = .ok (.bipush 126, 2) := by decide +kernel
theorem dX5_append_9 : decode cX5_append 9 = .ok (.if_icmp .le 11, 3) := by decide +kernel
theorem dX5_append_12 : decode cX5_append 12 = .ok (.new 151, 3) := by decide +kernel
theorem dX5_append_15 : decode cX5_append 15 = .ok (.dup, 1) := by decide +kernel
theorem dX5_append_16 : decode cX5_append 16 = .ok (.invokespecial 153, 3) := by decide +kernel
theorem dX5_append_19 : decode cX5_append 19 = .ok (.athrow, 1) := by decide +kernel
theorem dX5_append_20 : decode cX5_append 20 = .ok (.aload_n 0, 1) := by decide +kernel
theorem dX5_append_21 : decode cX5_append 21 = .ok (.getfield 36, 3) := by decide +kernel
theorem dX5_append_24 : decode cX5_append 24 = .ok (.iload_n 1, 1) := by decide +kernel
theorem dX5_append_25 : decode cX5_append 25 = .ok (.invokevirtual 234, 3) := by decide +kernel
theorem dX5_append_28 : decode cX5_append 28 = .ok (.ifCond .ne 11, 3) := by decide +kernel
theorem dX5_append_31 : decode cX5_append 31 = .ok (.new 58, 3) := by decide +kernel
theorem dX5_append_34 : decode cX5_append 34 = .ok (.dup, 1) := by decide +kernel
theorem dX5_append_35 : decode cX5_append 35 = .ok (.invokespecial 60, 3) := by decide +kernel
theorem dX5_append_38 : decode cX5_append 38 = .ok (.athrow, 1) := by decide +kernel
theorem dX5_append_39 : decode cX5_append 39 = .ok (.aload_n 0, 1) := by decide +kernel
theorem dX5_append_40 : decode cX5_append 40 = .ok (.getfield 36, 3) := by decide +kernel
theorem dX5_append_43 : decode cX5_append 43 = .ok (.getfield 237, 3) := by decide +kernel
theorem dX5_append_46 : decode cX5_append 46 = .ok (.ireturn, 1) := by decide +kernel
set_option maxRecDepth 20000 in
theorem ggX5_read_X3_takeRows : GoodIn wsX5_read wsX3_takeRows := goodIn_ca (goodIn_r _ [15, 16, 17, 18, 19, 20, 21, 14, 22, 23, 24, 25, 26, 27, 28, 29, 30, 31, 32, 33, 34, 35, 36, 37, 38, 39, 40, 41, 42, 43, 44, 45, 46, 47, 48, 135, 136, 137, 138, 132, 133, 134] (by decide +kernel) (by decide +kernel)) (goodIn_sub (fun _ h => List.mem_cons_of_mem _ (List.mem_append_right _ h)) (by decide +kernel))
set_option maxRecDepth 20000 in
theorem gX5_read_X3_takeRows : GoodIn wsX5_read (wsV RX5 240 RX3 yX3_takeRows wsX3_takeRows) := goodIn_app (goodIn_of _ (by decide +kernel)) ggX5_read_X3_takeRows
set_option maxRecDepth 20000 in
theorem ggX5_read_X5_makeChanges : GoodIn wsX5_read wsX5_makeChanges := goodIn_ca (goodIn_r _ [53, 54, 55, 56, 10, 57, 58, 59, 60, 61, 62, 63, 64, 65, 66, 67, 68, 69, 70, 71, 72, 73, 74, 75, 76, 77, 78, 79, 80, 81, 82, 83, 84, 85, 86, 87, 88, 89, 90, 91, 92, 93, 94, 95, 96, 97, 98, 99, 100, 101, 102, 103, 104, 105, 106, 107, 108, 109, 110, 52, 111, 112, 113, 114, 115, 116, 117, 118, 119, 120, 121, 122, 123, 124, 125, 126, 127, 128, 129, 130, 131, 139, 140, 141, 135, 136, 137, 138, 142, 143, 144, 145, 146, 147, 148, 149, 150, 151, 152, 153] (by decide +kernel) (by decide +kernel)) (goodIn_sub (fun _ h => List.mem_cons_of_mem _ (List.mem_append_right _ h)) (by decide +kernel))
set_option maxRecDepth 20000 in
theorem gX5_read_X5_makeChanges : GoodIn wsX5_read (wsV RX5 227 RX5 yX5_makeChanges wsX5_makeChanges) := goodIn_app (goodIn_of _ (by decide +kernel)) ggX5_read_X5_makeChanges
theorem dX5_read_0 : decode cX5_read 0 = .ok (.aload_n 0, 1) := by decide +kernel
theorem dX5_read_1 : decode cX5_read 1 = .ok (.getfield 36, 3) := by decide +kernel
theorem dX5_read_4 : decode cX5_read 4 = .ok (.aload_n 0, 1) := by decide +kernel
theorem dX5_read_5 : decode cX5_read 5 = .ok (.getfield 29, 3) := by decide +kernel
theorem dX5_read_8 : decode cX5_read 8 = .ok (.invokevirtual 240, 3) := by decide +kernel
theorem dX5_read_11 : decode cX5_read 11 = .ok (.istore_n 1, 1) := by decide +kernel
theorem dX5_read_12 : decode cX5_read 12 = .ok (.aload_n 0, 1) := by decide +kernel
theorem dX5_read_13 : decode cX5_read 13 = .ok (.getfield 36, 3) := by decide +kernel
theorem dX5_read_16 : decode cX5_read 16 = .ok (.iconst 0, 1) := by decide +kernel
theorem dX5_read_17 : decode cX5_read 17 = .ok (.putfield 237, 3) := by decide +kernel
theorem dX5_read_20 : decode cX5_read 20 = .ok (.iload_n 1, 1) := by decide +kernel
theorem dX5_read_21 : decode cX5_read 21 = .ok (.ifCond .ne 22, 3) := by decide +kernel
theorem dX5_read_24 : decode cX5_read 24 = .ok (.aload_n 0, 1) := by decide +kernel
theorem dX5_read_25 : decode cX5_read 25 = .ok (.aload_n 0, 1) := by decide +kernel
theorem dX5_read_26 : decode cX5_read 26 = .ok (.getfield 36, 3) := by decide +kernel
theorem dX5_read_29 : decode cX5_read 29 = .ok (.getfield 244, 3) := by decide +kernel
theorem dX5_read_32 : decode cX5_read 32 = .ok (.putfield 40, 3) := by decide +kernel
theorem dX5_read_35 : decode cX5_read 35 = .ok (.new 151, 3) := by decide +kernel
theorem dX5_read_38 : decode cX5_read 38 = .ok (.dup, 1) := by decide +kernel
theorem dX5_read_39 : decode cX5_read 39 = .ok (.invokespecial 153, 3) := by decide +kernel
theorem dX5_read_42 : decode cX5_read 42 = .ok (.athrow, 1) := by decide +kernel
theorem dX5_read_43 : decode cX5_read 43 = .ok (.aload_n 0, 1) := by decide +kernel
theorem dX5_read_44 : decode cX5_read 44 = .ok (.aload_n 0, 1) := by decide +kernel
theorem dX5_read_45 : decode cX5_read 45 = .ok (.getfield 29, 3) := by decide +kernel
theorem dX5_read_48 : decode cX5_read 48 = .ok (.aload_n 0, 1) := by decide +kernel
theorem dX5_read_49 : decode cX5_read 49 = .ok (.getfield 29, 3) := by decide +kernel
theorem dX5_read_52 : decode cX5_read 52 = .ok (.getfield 218, 3) := by decide +kernel
theorem dX5_read_55 : decode cX5_read 55 = .ok (.invokevirtual 227, 3) := by decide +kernel
theorem dX5_read_58 : decode cX5_read 58 = .ok (.ifCond .ne 11, 3) := by decide +kernel
theorem dX5_read_61 : decode cX5_read 61 = .ok (.new 58, 3) := by decide +kernel
theorem dX5_read_64 : decode cX5_read 64 = .ok (.dup, 1) := by decide +kernel
theorem dX5_read_65 : decode cX5_read 65 = .ok (.invokespecial 60, 3) := by decide +kernel
theorem dX5_read_68 : decode cX5_read 68 = .ok (.athrow, 1) := by decide +kernel
theorem dX5_read_69 : decode cX5_read 69 = .ok (.aload_n 0, 1) := by decide +kernel
theorem dX5_read_70 : decode cX5_read 70 = .ok (.getfield 29, 3) := by decide +kernel
theorem dX5_read_73 : decode cX5_read 73 = .ok (.getfield 218, 3) := by decide +kernel
theorem dX5_read_76 : decode cX5_read 76 = .ok (.ireturn, 1) := by decide +kernel
set_option maxRecDepth 20000 in
theorem ggX5_errorPosition_X5_found : GoodIn wsX5_errorPosition wsX5_found := goodIn_ca (goodIn_r _ [5, 6, 7] (by decide +kernel) (by decide +kernel)) (goodIn_sub (fun _ h => List.mem_cons_of_mem _ (List.mem_append_right _ h)) (by decide +kernel))
set_option maxRecDepth 20000 in
theorem gX5_errorPosition_X5_found : GoodIn wsX5_errorPosition (va_wsS RX5 139 yX5_found wsX5_found) := goodIn_app (goodIn_of _ (by decide +kernel)) ggX5_errorPosition_X5_found
theorem dX5_errorPosition_0 : decode cX5_errorPosition 0 = .ok (.aload_n 0, 1) := by decide +kernel
theorem dX5_errorPosition_1 : decode cX5_errorPosition 1 = .ok (.getfield 40, 3) := by decide +kernel
theorem dX5_errorPosition_4 : decode cX5_errorPosition 4 = .ok (.invokestatic 139, 3) := by decide +kernel
theorem dX5_errorPosition_7 : decode cX5_errorPosition 7 = .ok (.ireturn, 1) := by decide +kernel
set_option maxRecDepth 20000 in
theorem ggX5_save_X2_copy : GoodIn wsX5_save wsX2_copy := goodIn_ca (goodIn_r _ [9, 10, 11, 12, 13, 14, 15, 16, 17, 18, 19, 20, 21, 22, 23, 24, 25, 26, 27, 28, 29, 30, 31, 32, 33, 34, 35, 36, 37, 38, 39, 40, 41, 42, 43, 44, 45, 46, 47, 64, 65, 66, 67, 68, 69, 70, 71, 72, 73, 74, 75, 76, 77, 78, 79, 80, 81, 82] (by decide +kernel) (by decide +kernel)) (goodIn_sub (fun _ h => List.mem_cons_of_mem _ (List.mem_append_right _ h)) (by decide +kernel))
set_option maxRecDepth 20000 in
theorem gX5_save_X2_copy : GoodIn wsX5_save (wsV RX5 247 RX2 yX2_copy wsX2_copy) := goodIn_app (goodIn_of _ (by decide +kernel)) ggX5_save_X2_copy
set_option maxRecDepth 20000 in
theorem ggX5_save_X4_count : GoodIn wsX5_save wsX4_count := goodIn_ca (goodIn_r _ [51, 18, 52, 53, 54, 16, 55, 24, 67, 68, 69, 70, 71, 72, 73] (by decide +kernel) (by decide +kernel)) (goodIn_sub (fun _ h => List.mem_cons_of_mem _ (List.mem_append_right _ h)) (by decide +kernel))
set_option maxRecDepth 20000 in
theorem gX5_save_X4_count : GoodIn wsX5_save (wsV RX5 125 RX4 yX4_count wsX4_count) := goodIn_app (goodIn_of _ (by decide +kernel)) ggX5_save_X4_count
theorem dX5_save_0 : decode cX5_save 0 = .ok (.aload_n 0, 1) := by decide +kernel
theorem dX5_save_1 : decode cX5_save 1 = .ok (.getfield 16, 3) := by decide +kernel
theorem dX5_save_4 : decode cX5_save 4 = .ok (.aload_n 0, 1) := by decide +kernel
theorem dX5_save_5 : decode cX5_save 5 = .ok (.getfield 10, 3) := by decide +kernel
theorem dX5_save_8 : decode cX5_save 8 = .ok (.invokevirtual 247, 3) := by decide +kernel
theorem dX5_save_11 : decode cX5_save 11 = .ok (.aload_n 0, 1) := by decide +kernel
theorem dX5_save_12 : decode cX5_save 12 = .ok (.iconst 1, 1) := by decide +kernel
theorem dX5_save_13 : decode cX5_save 13 = .ok (.putfield 251, 3) := by decide +kernel
theorem dX5_save_16 : decode cX5_save 16 = .ok (.aload_n 0, 1) := by decide +kernel
theorem dX5_save_17 : decode cX5_save 17 = .ok (.getfield 10, 3) := by decide +kernel
theorem dX5_save_20 : decode cX5_save 20 = .ok (.getfield 51, 3) := by decide +kernel
theorem dX5_save_23 : decode cX5_save 23 = .ok (.invokevirtual 125, 3) := by decide +kernel
theorem dX5_save_26 : decode cX5_save 26 = .ok (.ireturn, 1) := by decide +kernel
set_option maxRecDepth 20000 in
theorem ggX5_restore_X2_copy : GoodIn wsX5_restore wsX2_copy := goodIn_ca (goodIn_r _ [12, 13, 14, 15, 16, 17, 18, 19, 20, 21, 22, 23, 24, 25, 26, 27, 28, 29, 30, 31, 32, 33, 34, 35, 36, 37, 38, 39, 40, 41, 42, 43, 44, 45, 46, 47, 48, 49, 50, 67, 68, 69, 70, 71, 72, 73, 74, 75, 76, 77, 78, 79, 80, 81, 82, 83, 84, 85] (by decide +kernel) (by decide +kernel)) (goodIn_sub (fun _ h => List.mem_cons_of_mem _ (List.mem_append_right _ h)) (by decide +kernel))
set_option maxRecDepth 20000 in
theorem gX5_restore_X2_copy : GoodIn wsX5_restore (wsV RX5 247 RX2 yX2_copy wsX2_copy) := goodIn_app (goodIn_of _ (by decide +kernel)) ggX5_restore_X2_copy
set_option maxRecDepth 20000 in
theorem ggX5_restore_X4_count : GoodIn wsX5_restore wsX4_count := goodIn_ca (goodIn_r _ [54, 21, 55, 56, 57, 19, 58, 27, 70, 71, 72, 73, 74, 75, 76] (by decide +kernel) (by decide +kernel)) (goodIn_sub (fun _ h => List.mem_cons_of_mem _ (List.mem_append_right _ h)) (by decide +kernel))
set_option maxRecDepth 20000 in
theorem gX5_restore_X4_count : GoodIn wsX5_restore (wsV RX5 125 RX4 yX4_count wsX4_count) := goodIn_app (goodIn_of _ (by decide +kernel)) ggX5_restore_X4_count
theorem dX5_restore_0 : decode cX5_restore 0 = .ok (.aload_n 0, 1) := by decide +kernel
theorem dX5_restore_1 : decode cX5_restore 1 = .ok (.getfield 251, 3) := by decide +kernel
theorem dX5_restore_4 : decode cX5_restore 4 = .ok (.ifCond .ne 11, 3) := by decide +kernel
theorem dX5_restore_7 : decode cX5_restore 7 = .ok (.new 58, 3) := by decide +kernel
theorem dX5_restore_10 : decode cX5_restore 10 = .ok (.dup, 1) := by decide +kernel
theorem dX5_restore_11 : decode cX5_restore 11 = .ok (.invokespecial 60, 3) := by decide +kernel
theorem dX5_restore_14 : decode cX5_restore 14 = .ok (.athrow, 1) := by decide +kernel
theorem dX5_restore_15 : decode cX5_restore 15 = .ok (.aload_n 0, 1) := by decide +kernel
theorem dX5_restore_16 : decode cX5_restore 16 = .ok (.getfield 10, 3) := by decide +kernel
theorem dX5_restore_19 : decode cX5_restore 19 = .ok (.aload_n 0, 1) := by decide +kernel
theorem dX5_restore_20 : decode cX5_restore 20 = .ok (.getfield 16, 3) := by decide +kernel
theorem dX5_restore_23 : decode cX5_restore 23 = .ok (.invokevirtual 247, 3) := by decide +kernel
theorem dX5_restore_26 : decode cX5_restore 26 = .ok (.aload_n 0, 1) := by decide +kernel
theorem dX5_restore_27 : decode cX5_restore 27 = .ok (.iconst 0, 1) := by decide +kernel
theorem dX5_restore_28 : decode cX5_restore 28 = .ok (.putfield 132, 3) := by decide +kernel
theorem dX5_restore_31 : decode cX5_restore 31 = .ok (.aload_n 0, 1) := by decide +kernel
theorem dX5_restore_32 : decode cX5_restore 32 = .ok (.getfield 10, 3) := by decide +kernel
theorem dX5_restore_35 : decode cX5_restore 35 = .ok (.getfield 51, 3) := by decide +kernel
theorem dX5_restore_38 : decode cX5_restore 38 = .ok (.invokevirtual 125, 3) := by decide +kernel
theorem dX5_restore_41 : decode cX5_restore 41 = .ok (.ireturn, 1) := by decide +kernel
theorem dX5_checkKey_0 : decode cX5_checkKey 0 = .ok (.iload_n 0, 1) := by decide +kernel
theorem dX5_checkKey_1 : decode cX5_checkKey 1 = .ok (.ifCond .lt 9, 3) := by decide +kernel
theorem dX5_checkKey_4 : decode cX5_checkKey 4 = .ok (.iload_n 0, 1) := by decide +kernel
theorem dX5_checkKey_5 : decode cX5_checkKey 5 = .ok (.bipush 8, 2) := by decide +kernel
theorem dX5_checkKey_7 : decode cX5_checkKey 7 = .ok (.if_icmp .lt 11, 3) := by decide +kernel
theorem dX5_checkKey_10 : decode cX5_checkKey 10 = .ok (.new 169, 3) := by decide +kernel
theorem dX5_checkKey_13 : decode cX5_checkKey 13 = .ok (.dup, 1) := by decide +kernel
theorem dX5_checkKey_14 : decode cX5_checkKey 14 = .ok (.invokespecial 171, 3) := by decide +kernel
theorem dX5_checkKey_17 : decode cX5_checkKey 17 = .ok (.athrow, 1) := by decide +kernel
theorem dX5_checkKey_18 : decode cX5_checkKey 18 = .ok (.return_, 1) := by decide +kernel
theorem dX5_checkDay_0 : decode cX5_checkDay 0 = .ok (.iload_n 0, 1) := by decide +kernel
theorem dX5_checkDay_1 : decode cX5_checkDay 1 = .ok (.ifCond .lt 10, 3) := by decide +kernel
theorem dX5_checkDay_4 : decode cX5_checkDay 4 = .ok (.iload_n 0, 1) := by decide +kernel
theorem dX5_checkDay_5 : decode cX5_checkDay 5 = .ok (.sipush 1000, 3) := by decide +kernel
theorem dX5_checkDay_8 : decode cX5_checkDay 8 = .ok (.if_icmp .lt 11, 3) := by decide +kernel
theorem dX5_checkDay_11 : decode cX5_checkDay 11 = .ok (.new 151, 3) := by decide +kernel
theorem dX5_checkDay_14 : decode cX5_checkDay 14 = .ok (.dup, 1) := by decide +kernel
theorem dX5_checkDay_15 : decode cX5_checkDay 15 = .ok (.invokespecial 153, 3) := by decide +kernel
theorem dX5_checkDay_18 : decode cX5_checkDay 18 = .ok (.athrow, 1) := by decide +kernel
theorem dX5_checkDay_19 : decode cX5_checkDay 19 = .ok (.return_, 1) := by decide +kernel
set_option maxRecDepth 20000 in
theorem ggX5_checkVersion_X4_has : GoodIn wsX5_checkVersion wsX4_has := goodIn_ca (goodIn_r _ [9, 10, 11, 23, 24, 25, 26, 27, 28, 29] (by decide +kernel) (by decide +kernel)) (goodIn_sub (fun _ h => List.mem_cons_of_mem _ (List.mem_append_right _ h)) (by decide +kernel))
set_option maxRecDepth 20000 in
theorem gX5_checkVersion_X4_has : GoodIn wsX5_checkVersion (wsV RX5 255 RX4 yX4_has wsX4_has) := goodIn_app (goodIn_of _ (by decide +kernel)) ggX5_checkVersion_X4_has
theorem dX5_checkVersion_0 : decode cX5_checkVersion 0 = .ok (.aload_n 0, 1) := by decide +kernel
theorem dX5_checkVersion_1 : decode cX5_checkVersion 1 = .ok (.getfield 10, 3) := by decide +kernel
theorem dX5_checkVersion_4 : decode cX5_checkVersion 4 = .ok (.getfield 51, 3) := by decide +kernel
theorem dX5_checkVersion_7 : decode cX5_checkVersion 7 = .ok (.iload_n 1, 1) := by decide +kernel
theorem dX5_checkVersion_8 : decode cX5_checkVersion 8 = .ok (.invokevirtual 255, 3) := by decide +kernel
theorem dX5_checkVersion_11 : decode cX5_checkVersion 11 = .ok (.ifCond .ne 11, 3) := by decide +kernel
theorem dX5_checkVersion_14 : decode cX5_checkVersion 14 = .ok (.new 169, 3) := by decide +kernel
theorem dX5_checkVersion_17 : decode cX5_checkVersion 17 = .ok (.dup, 1) := by decide +kernel
theorem dX5_checkVersion_18 : decode cX5_checkVersion 18 = .ok (.invokespecial 171, 3) := by decide +kernel
theorem dX5_checkVersion_21 : decode cX5_checkVersion 21 = .ok (.athrow, 1) := by decide +kernel
theorem dX5_checkVersion_22 : decode cX5_checkVersion 22 = .ok (.return_, 1) := by decide +kernel
theorem dX5_found_0 : decode cX5_found 0 = .ok (.iload_n 0, 1) := by decide +kernel
theorem dX5_found_1 : decode cX5_found 1 = .ok (.iconst (-1), 1) := by decide +kernel
theorem dX5_found_2 : decode cX5_found 2 = .ok (.if_icmp .ne 11, 3) := by decide +kernel
theorem dX5_found_5 : decode cX5_found 5 = .ok (.new 85, 3) := by decide +kernel
theorem dX5_found_8 : decode cX5_found 8 = .ok (.dup, 1) := by decide +kernel
theorem dX5_found_9 : decode cX5_found 9 = .ok (.invokespecial 87, 3) := by decide +kernel
theorem dX5_found_12 : decode cX5_found 12 = .ok (.athrow, 1) := by decide +kernel
theorem dX5_found_13 : decode cX5_found 13 = .ok (.iload_n 0, 1) := by decide +kernel
theorem dX5_found_14 : decode cX5_found 14 = .ok (.ireturn, 1) := by decide +kernel
set_option maxRecDepth 20000 in
theorem ggX5_pointFacts_X0_pointTo : GoodIn wsX5_pointFacts wsX0_pointTo := goodIn_ca (goodIn_r _ [9, 10, 11, 12, 13, 14, 15, 16, 17, 18, 19, 20, 21, 22, 23, 24, 25, 26, 27, 28, 29, 30, 31, 43, 44, 45, 46, 47, 48, 49, 50, 51, 52, 53, 54] (by decide +kernel) (by decide +kernel)) (goodIn_sub (fun _ h => List.mem_cons_of_mem _ (List.mem_append_right _ h)) (by decide +kernel))
set_option maxRecDepth 20000 in
theorem gX5_pointFacts_X0_pointTo : GoodIn wsX5_pointFacts (wsV RX5 259 RX0 yX0_pointTo wsX0_pointTo) := goodIn_app (goodIn_of _ (by decide +kernel)) ggX5_pointFacts_X0_pointTo
theorem dX5_pointFacts_0 : decode cX5_pointFacts 0 = .ok (.aload_n 0, 1) := by decide +kernel
theorem dX5_pointFacts_1 : decode cX5_pointFacts 1 = .ok (.aload_n 0, 1) := by decide +kernel
theorem dX5_pointFacts_2 : decode cX5_pointFacts 2 = .ok (.getfield 10, 3) := by decide +kernel
theorem dX5_pointFacts_5 : decode cX5_pointFacts 5 = .ok (.getfield 64, 3) := by decide +kernel
theorem dX5_pointFacts_8 : decode cX5_pointFacts 8 = .ok (.aload_n 0, 1) := by decide +kernel
theorem dX5_pointFacts_9 : decode cX5_pointFacts 9 = .ok (.getfield 10, 3) := by decide +kernel
theorem dX5_pointFacts_12 : decode cX5_pointFacts 12 = .ok (.getfield 51, 3) := by decide +kernel
theorem dX5_pointFacts_15 : decode cX5_pointFacts 15 = .ok (.invokevirtual 259, 3) := by decide +kernel
theorem dX5_pointFacts_18 : decode cX5_pointFacts 18 = .ok (.putfield 132, 3) := by decide +kernel
theorem dX5_pointFacts_21 : decode cX5_pointFacts 21 = .ok (.return_, 1) := by decide +kernel
set_option maxRecDepth 20000 in
theorem ggX5_makeChanges_X4_copy : GoodIn wsX5_makeChanges wsX4_copy := goodIn_ca (goodIn_r _ [12, 13, 14, 15, 16, 17, 18, 19, 88, 89, 90, 91, 92, 93, 94] (by decide +kernel) (by decide +kernel)) (goodIn_sub (fun _ h => List.mem_cons_of_mem _ (List.mem_append_right _ h)) (by decide +kernel))
set_option maxRecDepth 20000 in
theorem gX5_makeChanges_X4_copy : GoodIn wsX5_makeChanges (wsV RX5 263 RX4 yX4_copy wsX4_copy) := goodIn_app (goodIn_of _ (by decide +kernel)) ggX5_makeChanges_X4_copy
set_option maxRecDepth 20000 in
theorem ggX5_makeChanges_X4_put : GoodIn wsX5_makeChanges wsX4_put := goodIn_ca (goodIn_r _ [23, 15, 18, 17, 24, 25, 26, 11, 27, 13, 16, 28, 29, 30, 31, 14, 32, 33, 34, 35, 19, 36, 37, 38, 39, 40, 41, 42, 43, 44, 45, 46, 47, 48, 49, 50, 51, 52, 53, 54, 55, 88, 89, 90, 91, 92, 93, 94] (by decide +kernel) (by decide +kernel)) (goodIn_sub (fun _ h => List.mem_cons_of_mem _ (List.mem_append_right _ h)) (by decide +kernel))
set_option maxRecDepth 20000 in
theorem gX5_makeChanges_X4_put : GoodIn wsX5_makeChanges (wsV RX5 54 RX4 yX4_put wsX4_put) := goodIn_app (goodIn_of _ (by decide +kernel)) ggX5_makeChanges_X4_put
set_option maxRecDepth 20000 in
theorem ggX5_makeChanges_X5_pointFacts : GoodIn wsX5_makeChanges wsX5_pointFacts := goodIn_ca (goodIn_r _ [60, 2, 61, 3, 62, 63, 64, 65, 66, 67, 68, 69, 70, 71, 72, 25, 26, 11, 27, 13, 15, 16, 28, 29, 30, 31, 14, 32, 33, 34, 35, 19, 73, 74, 75, 76, 77, 78, 79, 80, 81, 82, 83, 95, 96, 97, 98, 99, 88, 89, 90, 91, 92, 93, 94] (by decide +kernel) (by decide +kernel)) (goodIn_sub (fun _ h => List.mem_cons_of_mem _ (List.mem_append_right _ h)) (by decide +kernel))
set_option maxRecDepth 20000 in
theorem gX5_makeChanges_X5_pointFacts : GoodIn wsX5_makeChanges (wsV RX5 61 RX5 yX5_pointFacts wsX5_pointFacts) := goodIn_app (goodIn_of _ (by decide +kernel)) ggX5_makeChanges_X5_pointFacts
theorem dX5_makeChanges_0 : decode cX5_makeChanges 0 = .ok (.aload_n 0, 1) := by decide +kernel
theorem dX5_makeChanges_1 : decode cX5_makeChanges 1 = .ok (.getfield 22, 3) := by decide +kernel
theorem dX5_makeChanges_4 : decode cX5_makeChanges 4 = .ok (.aload_n 0, 1) := by decide +kernel
theorem dX5_makeChanges_5 : decode cX5_makeChanges 5 = .ok (.getfield 10, 3) := by decide +kernel
theorem dX5_makeChanges_8 : decode cX5_makeChanges 8 = .ok (.getfield 51, 3) := by decide +kernel
theorem dX5_makeChanges_11 : decode cX5_makeChanges 11 = .ok (.invokevirtual 263, 3) := by decide +kernel
theorem dX5_makeChanges_14 : decode cX5_makeChanges 14 = .ok (.iconst 0, 1) := by decide +kernel
theorem dX5_makeChanges_15 : decode cX5_makeChanges 15 = .ok (.istore_n 3, 1) := by decide +kernel
theorem dX5_makeChanges_16 : decode cX5_makeChanges 16 = .ok (.iload_n 3, 1) := by decide +kernel
theorem dX5_makeChanges_17 : decode cX5_makeChanges 17 = .ok (.iload_n 2, 1) := by decide +kernel
theorem dX5_makeChanges_18 : decode cX5_makeChanges 18 = .ok (.if_icmp .ge 65, 3) := by decide +kernel
theorem dX5_makeChanges_21 : decode cX5_makeChanges 21 = .ok (.iload_n 3, 1) := by decide +kernel
theorem dX5_makeChanges_22 : decode cX5_makeChanges 22 = .ok (.aload_n 1, 1) := by decide +kernel
theorem dX5_makeChanges_23 : decode cX5_makeChanges 23 = .ok (.getfield 218, 3) := by decide +kernel
theorem dX5_makeChanges_26 : decode cX5_makeChanges 26 = .ok (.if_icmp .ge 57, 3) := by decide +kernel
theorem dX5_makeChanges_29 : decode cX5_makeChanges 29 = .ok (.aload_n 0, 1) := by decide +kernel
theorem dX5_makeChanges_30 : decode cX5_makeChanges 30 = .ok (.getfield 10, 3) := by decide +kernel
theorem dX5_makeChanges_33 : decode cX5_makeChanges 33 = .ok (.getfield 51, 3) := by decide +kernel
theorem dX5_makeChanges_36 : decode cX5_makeChanges 36 = .ok (.aload_n 1, 1) := by decide +kernel
theorem dX5_makeChanges_37 : decode cX5_makeChanges 37 = .ok (.getfield 219, 3) := by decide +kernel
theorem dX5_makeChanges_40 : decode cX5_makeChanges 40 = .ok (.iload_n 3, 1) := by decide +kernel
theorem dX5_makeChanges_41 : decode cX5_makeChanges 41 = .ok (.iaload, 1) := by decide +kernel
theorem dX5_makeChanges_42 : decode cX5_makeChanges 42 = .ok (.aload_n 1, 1) := by decide +kernel
theorem dX5_makeChanges_43 : decode cX5_makeChanges 43 = .ok (.getfield 220, 3) := by decide +kernel
theorem dX5_makeChanges_46 : decode cX5_makeChanges 46 = .ok (.iload_n 3, 1) := by decide +kernel
theorem dX5_makeChanges_47 : decode cX5_makeChanges 47 = .ok (.iaload, 1) := by decide +kernel
theorem dX5_makeChanges_48 : decode cX5_makeChanges 48 = .ok (.aload_n 1, 1) := by decide +kernel
theorem dX5_makeChanges_49 : decode cX5_makeChanges 49 = .ok (.getfield 221, 3) := by decide +kernel
theorem dX5_makeChanges_52 : decode cX5_makeChanges 52 = .ok (.iload_n 3, 1) := by decide +kernel
theorem dX5_makeChanges_53 : decode cX5_makeChanges 53 = .ok (.iaload, 1) := by decide +kernel
theorem dX5_makeChanges_54 : decode cX5_makeChanges 54 = .ok (.invokevirtual 54, 3) := by decide +kernel
theorem dX5_makeChanges_57 : decode cX5_makeChanges 57 = .ok (.iconst (-1), 1) := by decide +kernel
theorem dX5_makeChanges_58 : decode cX5_makeChanges 58 = .ok (.if_icmp .ne 19, 3) := by decide +kernel
theorem dX5_makeChanges_61 : decode cX5_makeChanges 61 = .ok (.aload_n 0, 1) := by decide +kernel
theorem dX5_makeChanges_62 : decode cX5_makeChanges 62 = .ok (.getfield 10, 3) := by decide +kernel
theorem dX5_makeChanges_65 : decode cX5_makeChanges 65 = .ok (.getfield 51, 3) := by decide +kernel
theorem dX5_makeChanges_68 : decode cX5_makeChanges 68 = .ok (.aload_n 0, 1) := by decide +kernel
theorem dX5_makeChanges_69 : decode cX5_makeChanges 69 = .ok (.getfield 22, 3) := by decide +kernel
theorem dX5_makeChanges_72 : decode cX5_makeChanges 72 = .ok (.invokevirtual 263, 3) := by decide +kernel
theorem dX5_makeChanges_75 : decode cX5_makeChanges 75 = .ok (.iconst 0, 1) := by decide +kernel
theorem dX5_makeChanges_76 : decode cX5_makeChanges 76 = .ok (.ireturn, 1) := by decide +kernel
theorem dX5_makeChanges_77 : decode cX5_makeChanges 77 = .ok (.iinc 3 1, 3) := by decide +kernel
theorem dX5_makeChanges_80 : decode cX5_makeChanges 80 = .ok (.goto (-64), 3) := by decide +kernel
theorem dX5_makeChanges_83 : decode cX5_makeChanges 83 = .ok (.aload_n 0, 1) := by decide +kernel
theorem dX5_makeChanges_84 : decode cX5_makeChanges 84 = .ok (.invokevirtual 61, 3) := by decide +kernel
theorem dX5_makeChanges_87 : decode cX5_makeChanges 87 = .ok (.iconst 1, 1) := by decide +kernel
theorem dX5_makeChanges_88 : decode cX5_makeChanges 88 = .ok (.ireturn, 1) := by decide +kernel
