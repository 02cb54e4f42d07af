set_option maxRecDepth 20000 in
theorem gL_change_X5_change : GoodIn wsL_change (wsV RL 7 RX5 yX5_change wsX5_change) := goodIn_app (goodIn_of _ (by decide +kernel)) ggL_change_X5_change
theorem dL_change_0 : decode cL_change 0 = .ok (.aload 4, 2) := by decide +kernel
theorem dL_change_2 : decode cL_change 2 = .ok (.iconst 0, 1) := by decide +kernel
theorem dL_change_3 : decode cL_change 3 = .ok (.aload_n 0, 1) := by decide +kernel
theorem dL_change_4 : decode cL_change 4 = .ok (.iload_n 1, 1) := by decide +kernel
theorem dL_change_5 : decode cL_change 5 = .ok (.iload_n 2, 1) := by decide +kernel
theorem dL_change_6 : decode cL_change 6 = .ok (.iload_n 3, 1) := by decide +kernel
theorem dL_change_7 : decode cL_change 7 = .ok (.invokevirtual 7, 3) := by decide +kernel
theorem dL_change_10 : decode cL_change 10 = .ok (.i2l, 1) := by decide +kernel
theorem dL_change_11 : decode cL_change 11 = .ok (.lastore, 1) := by decide +kernel
theorem dL_change_12 : decode cL_change 12 = .ok (.goto 15, 3) := by decide +kernel
theorem dL_change_15 : decode cL_change 15 = .ok (.astore 5, 2) := by decide +kernel
theorem dL_change_17 : decode cL_change 17 = .ok (.iconst 1, 1) := by decide +kernel
theorem dL_change_18 : decode cL_change 18 = .ok (.ireturn, 1) := by decide +kernel
theorem dL_change_19 : decode cL_change 19 = .ok (.astore 5, 2) := by decide +kernel
theorem dL_change_21 : decode cL_change 21 = .ok (.iconst 2, 1) := by decide +kernel
theorem dL_change_22 : decode cL_change 22 = .ok (.ireturn, 1) := by decide +kernel
theorem dL_change_23 : decode cL_change 23 = .ok (.astore 5, 2) := by decide +kernel
theorem dL_change_25 : decode cL_change 25 = .ok (.iconst 3, 1) := by decide +kernel
theorem dL_change_26 : decode cL_change 26 = .ok (.ireturn, 1) := by decide +kernel
theorem dL_change_27 : decode cL_change 27 = .ok (.iconst 0, 1) := by decide +kernel
theorem dL_change_28 : decode cL_change 28 = .ok (.ireturn, 1) := by decide +kernel
set_option maxRecDepth 20000 in
theorem ggL_addFact_X5_addFact : GoodIn wsL_addFact wsX5_addFact := goodIn_ca (goodIn_ca (goodIn_ca (goodIn_ca (goodIn_r _ [8, 9, 10, 11, 12, 13, 14, 15, 7, 16, 17, 18, 19, 20, 21, 22, 23, 24, 25, 26, 27, 28, 29, 30, 31, 32, 33, 34, 35, 36, 37, 38, 39, 40, 41, 42, 43, 44, 45, 46, 47, 48, 49, 50, 51, 52, 53, 54, 55, 56, 57, 58, 59, 60, 61, 62, 63, 64, 65, 66, 67, 68, 69, 70, 71, 72, 73, 74, 75, 76, 77, 78, 79, 80, 81, 82, 83, 84, 85, 86, 87, 88, 89, 90, 91, 92, 93, 94, 95, 96, 97, 98, 99, 100, 101, 102, 103] (by decide +kernel) (by decide +kernel)) (goodIn_sub (fun _ h => List.mem_cons_of_mem _ (List.mem_append_left _ (List.mem_append_left _ (List.mem_append_right _ h)))) (by decide +kernel))) (goodIn_sub (fun _ h => List.mem_cons_of_mem _ (List.mem_append_left _ (List.mem_append_right _ h))) (by decide +kernel))) (goodIn_sub (fun _ h => List.mem_cons_of_mem _ (List.mem_append_right _ h)) (by decide +kernel))) (goodIn_sub (fun _ h => List.mem_cons_of_mem _ (List.mem_append_left _ (List.mem_append_left _ (List.mem_append_left _ (List.mem_append_right _ h))))) (by decide +kernel))
set_option maxRecDepth 20000 in
theorem gL_addFact_X5_addFact : GoodIn wsL_addFact (wsV RL 19 RX5 yX5_addFact wsX5_addFact) := goodIn_app (goodIn_of _ (by decide +kernel)) ggL_addFact_X5_addFact
theorem dL_addFact_0 : decode cL_addFact 0 = .ok (.aload 4, 2) := by decide +kernel
theorem dL_addFact_2 : decode cL_addFact 2 = .ok (.iconst 0, 1) := by decide +kernel
theorem dL_addFact_3 : decode cL_addFact 3 = .ok (.aload_n 0, 1) := by decide +kernel
theorem dL_addFact_4 : decode cL_addFact 4 = .ok (.iload_n 1, 1) := by decide +kernel
theorem dL_addFact_5 : decode cL_addFact 5 = .ok (.iload_n 2, 1) := by decide +kernel
theorem dL_addFact_6 : decode cL_addFact 6 = .ok (.iload_n 3, 1) := by decide +kernel
theorem dL_addFact_7 : decode cL_addFact 7 = .ok (.invokevirtual 19, 3) := by decide +kernel
theorem dL_addFact_10 : decode cL_addFact 10 = .ok (.i2l, 1) := by decide +kernel
theorem dL_addFact_11 : decode cL_addFact 11 = .ok (.lastore, 1) := by decide +kernel
theorem dL_addFact_12 : decode cL_addFact 12 = .ok (.goto 15, 3) := by decide +kernel
theorem dL_addFact_15 : decode cL_addFact 15 = .ok (.astore 5, 2) := by decide +kernel
theorem dL_addFact_17 : decode cL_addFact 17 = .ok (.iconst 1, 1) := by decide +kernel
theorem dL_addFact_18 : decode cL_addFact 18 = .ok (.ireturn, 1) := by decide +kernel
theorem dL_addFact_19 : decode cL_addFact 19 = .ok (.astore 5, 2) := by decide +kernel
theorem dL_addFact_21 : decode cL_addFact 21 = .ok (.iconst 2, 1) := by decide +kernel
theorem dL_addFact_22 : decode cL_addFact 22 = .ok (.ireturn, 1) := by decide +kernel
theorem dL_addFact_23 : decode cL_addFact 23 = .ok (.astore 5, 2) := by decide +kernel
theorem dL_addFact_25 : decode cL_addFact 25 = .ok (.iconst 3, 1) := by decide +kernel
theorem dL_addFact_26 : decode cL_addFact 26 = .ok (.ireturn, 1) := by decide +kernel
theorem dL_addFact_27 : decode cL_addFact 27 = .ok (.iconst 0, 1) := by decide +kernel
theorem dL_addFact_28 : decode cL_addFact 28 = .ok (.ireturn, 1) := by decide +kernel
set_option maxRecDepth 20000 in
theorem ggL_close_X5_close : GoodIn wsL_close wsX5_close := goodIn_ca (goodIn_ca (goodIn_ca (goodIn_ca (goodIn_ca (goodIn_r _ [9, 10, 11, 12, 13, 14, 15, 16, 17, 18, 19, 20, 8, 21, 22, 23, 24, 25, 26, 27, 28, 29, 30, 31, 32, 33, 34, 35, 36, 37, 38, 39, 40, 41, 42, 43, 44, 45, 46, 47, 48, 49, 50, 51, 52, 53, 54, 55, 56, 57, 58, 59, 60, 61, 62, 63, 64, 65, 66, 67, 68, 69, 70, 71, 72, 73, 74, 75, 76, 77, 78, 79, 80, 81, 82, 83, 84, 85, 86, 87, 88] (by decide +kernel) (by decide +kernel)) (goodIn_sub (fun _ h => List.mem_cons_of_mem _ (List.mem_append_left _ (List.mem_append_left _ (List.mem_append_left _ (List.mem_append_right _ h))))) (by decide +kernel))) (goodIn_sub (fun _ h => List.mem_cons_of_mem _ (List.mem_append_left _ (List.mem_append_left _ (List.mem_append_left _ (List.mem_append_left _ (List.mem_append_right _ h)))))) (by decide +kernel))) (goodIn_sub (fun _ h => List.mem_cons_of_mem _ (List.mem_append_left _ (List.mem_append_left _ (List.mem_append_right _ h)))) (by decide +kernel))) (goodIn_sub (fun _ h => List.mem_cons_of_mem _ (List.mem_append_left _ (List.mem_append_right _ h))) (by decide +kernel))) (goodIn_sub (fun _ h => List.mem_cons_of_mem _ (List.mem_append_right _ h)) (by decide +kernel))
set_option maxRecDepth 20000 in
theorem gL_close_X5_close : GoodIn wsL_close (wsV RL 22 RX5 yX5_close wsX5_close) := goodIn_app (goodIn_of _ (by decide +kernel)) ggL_close_X5_close
theorem dL_close_0 : decode cL_close 0 = .ok (.aload_n 3, 1) := by decide +kernel
theorem dL_close_1 : decode cL_close 1 = .ok (.iconst 0, 1) := by decide +kernel
theorem dL_close_2 : decode cL_close 2 = .ok (.aload_n 0, 1) := by decide +kernel
theorem dL_close_3 : decode cL_close 3 = .ok (.iload_n 1, 1) := by decide +kernel
theorem dL_close_4 : decode cL_close 4 = .ok (.iload_n 2, 1) := by decide +kernel
theorem dL_close_5 : decode cL_close 5 = .ok (.invokevirtual 22, 3) := by decide +kernel
theorem dL_close_8 : decode cL_close 8 = .ok (.i2l, 1) := by decide +kernel
theorem dL_close_9 : decode cL_close 9 = .ok (.lastore, 1) := by decide +kernel
theorem dL_close_10 : decode cL_close 10 = .ok (.goto 19, 3) := by decide +kernel
theorem dL_close_13 : decode cL_close 13 = .ok (.astore 4, 2) := by decide +kernel
theorem dL_close_15 : decode cL_close 15 = .ok (.iconst 1, 1) := by decide +kernel
theorem dL_close_16 : decode cL_close 16 = .ok (.ireturn, 1) := by decide +kernel
theorem dL_close_17 : decode cL_close 17 = .ok (.astore 4, 2) := by decide +kernel
theorem dL_close_19 : decode cL_close 19 = .ok (.iconst 2, 1) := by decide +kernel
theorem dL_close_20 : decode cL_close 20 = .ok (.ireturn, 1) := by decide +kernel
theorem dL_close_21 : decode cL_close 21 = .ok (.astore 4, 2) := by decide +kernel
theorem dL_close_23 : decode cL_close 23 = .ok (.iconst 3, 1) := by decide +kernel
theorem dL_close_24 : decode cL_close 24 = .ok (.ireturn, 1) := by decide +kernel
theorem dL_close_25 : decode cL_close 25 = .ok (.astore 4, 2) := by decide +kernel
theorem dL_close_27 : decode cL_close 27 = .ok (.iconst 4, 1) := by decide +kernel
theorem dL_close_28 : decode cL_close 28 = .ok (.ireturn, 1) := by decide +kernel
theorem dL_close_29 : decode cL_close 29 = .ok (.iconst 0, 1) := by decide +kernel
theorem dL_close_30 : decode cL_close 30 = .ok (.ireturn, 1) := by decide +kernel
set_option maxRecDepth 20000 in
theorem ggL_correct_X5_correct : GoodIn wsL_correct wsX5_correct := goodIn_ca (goodIn_ca (goodIn_r _ [6, 7, 8, 9, 10, 11, 12, 5, 13, 14, 15, 16, 17, 18, 19, 20, 21, 22, 23, 24, 25, 26, 27, 28, 29, 30, 31, 32, 33, 34, 35, 36, 37, 38, 39, 40, 41, 42, 43, 44, 45, 46, 47] (by decide +kernel) (by decide +kernel)) (goodIn_sub (fun _ h => List.mem_cons_of_mem _ (List.mem_append_left _ (List.mem_append_right _ h))) (by decide +kernel))) (goodIn_sub (fun _ h => List.mem_cons_of_mem _ (List.mem_append_right _ h)) (by decide +kernel))
set_option maxRecDepth 20000 in
theorem gL_correct_X5_correct : GoodIn wsL_correct (wsV RL 28 RX5 yX5_correct wsX5_correct) := goodIn_app (goodIn_of _ (by decide +kernel)) ggL_correct_X5_correct
theorem dL_correct_0 : decode cL_correct 0 = .ok (.aload_n 3, 1) := by decide +kernel
theorem dL_correct_1 : decode cL_correct 1 = .ok (.iconst 0, 1) := by decide +kernel
theorem dL_correct_2 : decode cL_correct 2 = .ok (.aload_n 0, 1) := by decide +kernel
theorem dL_correct_3 : decode cL_correct 3 = .ok (.iload_n 1, 1) := by decide +kernel
theorem dL_correct_4 : decode cL_correct 4 = .ok (.iload_n 2, 1) := by decide +kernel
theorem dL_correct_5 : decode cL_correct 5 = .ok (.invokevirtual 28, 3) := by decide +kernel
theorem dL_correct_8 : decode cL_correct 8 = .ok (.i2l, 1) := by decide +kernel
theorem dL_correct_9 : decode cL_correct 9 = .ok (.lastore, 1) := by decide +kernel
theorem dL_correct_10 : decode cL_correct 10 = .ok (.goto 7, 3) := by decide +kernel
theorem dL_correct_13 : decode cL_correct 13 = .ok (.astore 4, 2) := by decide +kernel
theorem dL_correct_15 : decode cL_correct 15 = .ok (.iconst 1, 1) := by decide +kernel
theorem dL_correct_16 : decode cL_correct 16 = .ok (.ireturn, 1) := by decide +kernel
theorem dL_correct_17 : decode cL_correct 17 = .ok (.iconst 0, 1) := by decide +kernel
theorem dL_correct_18 : decode cL_correct 18 = .ok (.ireturn, 1) := by decide +kernel
set_option maxRecDepth 20000 in
theorem ggL_remove_X5_remove : GoodIn wsL_remove wsX5_remove := goodIn_ca (goodIn_ca (goodIn_ca (goodIn_r _ [7, 8, 9, 10, 11, 12, 13, 14, 15, 6, 16, 17, 18, 19, 20, 21, 22, 23, 24, 25, 26, 27, 28, 29, 30, 31, 32, 33, 34, 35, 36, 37, 38, 39, 40, 41, 42, 43, 44, 45, 46, 47, 48, 49, 50, 51, 52, 53, 54, 55, 56, 57, 58, 59, 60, 61, 62, 63, 64, 65, 66, 67, 68, 69, 70, 71, 72, 73, 74, 75, 76, 77, 78, 79, 80, 81, 82, 83, 84, 85, 86, 87, 88, 89, 90] (by decide +kernel) (by decide +kernel)) (goodIn_sub (fun _ h => List.mem_cons_of_mem _ (List.mem_append_left _ (List.mem_append_right _ h))) (by decide +kernel))) (goodIn_sub (fun _ h => List.mem_cons_of_mem _ (List.mem_append_right _ h)) (by decide +kernel))) (goodIn_sub (fun _ h => List.mem_cons_of_mem _ (List.mem_append_left _ (List.mem_append_left _ (List.mem_append_right _ h)))) (by decide +kernel))
set_option maxRecDepth 20000 in
theorem gL_remove_X5_remove : GoodIn wsL_remove (wsV RL 31 RX5 yX5_remove wsX5_remove) := goodIn_app (goodIn_of _ (by decide +kernel)) ggL_remove_X5_remove
theorem dL_remove_0 : decode cL_remove 0 = .ok (.aload_n 2, 1) := by decide +kernel
theorem dL_remove_1 : decode cL_remove 1 = .ok (.iconst 0, 1) := by decide +kernel
theorem dL_remove_2 : decode cL_remove 2 = .ok (.aload_n 0, 1) := by decide +kernel
theorem dL_remove_3 : decode cL_remove 3 = .ok (.iload_n 1, 1) := by decide +kernel
theorem dL_remove_4 : decode cL_remove 4 = .ok (.invokevirtual 31, 3) := by decide +kernel
theorem dL_remove_7 : decode cL_remove 7 = .ok (.i2l, 1) := by decide +kernel
theorem dL_remove_8 : decode cL_remove 8 = .ok (.lastore, 1) := by decide +kernel
theorem dL_remove_9 : decode cL_remove 9 = .ok (.goto 9, 3) := by decide +kernel
theorem dL_remove_12 : decode cL_remove 12 = .ok (.astore_n 3, 1) := by decide +kernel
theorem dL_remove_13 : decode cL_remove 13 = .ok (.iconst 1, 1) := by decide +kernel
theorem dL_remove_14 : decode cL_remove 14 = .ok (.ireturn, 1) := by decide +kernel
theorem dL_remove_15 : decode cL_remove 15 = .ok (.astore_n 3, 1) := by decide +kernel
theorem dL_remove_16 : decode cL_remove 16 = .ok (.iconst 2, 1) := by decide +kernel
theorem dL_remove_17 : decode cL_remove 17 = .ok (.ireturn, 1) := by decide +kernel
theorem dL_remove_18 : decode cL_remove 18 = .ok (.iconst 0, 1) := by decide +kernel
theorem dL_remove_19 : decode cL_remove 19 = .ok (.ireturn, 1) := by decide +kernel
set_option maxRecDepth 20000 in
theorem ggL_join_X5_join : GoodIn wsL_join wsX5_join := goodIn_ca (goodIn_ca (goodIn_r _ [6, 7, 8, 9, 10, 5, 11, 12, 13, 14, 15, 16, 17, 18, 19, 20, 21, 22, 23, 24, 25, 26, 27, 28, 29, 30, 31, 32, 33, 34, 35, 36, 37, 38, 39, 40, 41, 42, 43, 44, 45, 46, 47, 48, 49, 50, 51, 52, 53, 54, 55, 56, 57, 58, 59, 60, 61, 62, 63, 64, 65, 66, 67, 68, 69, 70, 71, 72, 73, 74, 75, 76, 77, 78, 79, 80, 81, 82, 83, 84, 85, 86, 87] (by decide +kernel) (by decide +kernel)) (goodIn_sub (fun _ h => List.mem_cons_of_mem _ (List.mem_append_right _ h)) (by decide +kernel))) (goodIn_sub (fun _ h => List.mem_cons_of_mem _ (List.mem_append_left _ (List.mem_append_right _ h))) (by decide +kernel))
set_option maxRecDepth 20000 in
theorem gL_join_X5_join : GoodIn wsL_join (wsV RL 35 RX5 yX5_join wsX5_join) := goodIn_app (goodIn_of _ (by decide +kernel)) ggL_join_X5_join
theorem dL_join_0 : decode cL_join 0 = .ok (.aload_n 2, 1) := by decide +kernel
theorem dL_join_1 : decode cL_join 1 = .ok (.iconst 0, 1) := by decide +kernel
theorem dL_join_2 : decode cL_join 2 = .ok (.aload_n 0, 1) := by decide +kernel
theorem dL_join_3 : decode cL_join 3 = .ok (.iload_n 1, 1) := by decide +kernel
theorem dL_join_4 : decode cL_join 4 = .ok (.invokevirtual 35, 3) := by decide +kernel
theorem dL_join_7 : decode cL_join 7 = .ok (.i2l, 1) := by decide +kernel
theorem dL_join_8 : decode cL_join 8 = .ok (.lastore, 1) := by decide +kernel
theorem dL_join_9 : decode cL_join 9 = .ok (.goto 6, 3) := by decide +kernel
theorem dL_join_12 : decode cL_join 12 = .ok (.astore_n 3, 1) := by decide +kernel
theorem dL_join_13 : decode cL_join 13 = .ok (.iconst 1, 1) := by decide +kernel
theorem dL_join_14 : decode cL_join 14 = .ok (.ireturn, 1) := by decide +kernel
theorem dL_join_15 : decode cL_join 15 = .ok (.iconst 0, 1) := by decide +kernel
theorem dL_join_16 : decode cL_join 16 = .ok (.ireturn, 1) := by decide +kernel
set_option maxRecDepth 20000 in
theorem ggL_versionsOf_X5_versionsOf : GoodIn wsL_versionsOf wsX5_versionsOf := goodIn_ca (goodIn_ca (goodIn_r _ [6, 7, 8, 9, 10, 5, 11, 12, 13, 14, 15, 16, 17, 18, 19, 20, 21, 22, 23, 24, 25, 26, 27, 28, 29, 30, 31, 32, 33, 34, 35, 36, 37, 38, 39, 40, 41, 42, 43, 44, 45, 46, 47] (by decide +kernel) (by decide +kernel)) (goodIn_sub (fun _ h => List.mem_cons_of_mem _ (List.mem_append_right _ h)) (by decide +kernel))) (goodIn_sub (fun _ h => List.mem_cons_of_mem _ (List.mem_append_left _ (List.mem_append_right _ h))) (by decide +kernel))
set_option maxRecDepth 20000 in
theorem gL_versionsOf_X5_versionsOf : GoodIn wsL_versionsOf (wsV RL 38 RX5 yX5_versionsOf wsX5_versionsOf) := goodIn_app (goodIn_of _ (by decide +kernel)) ggL_versionsOf_X5_versionsOf
theorem dL_versionsOf_0 : decode cL_versionsOf 0 = .ok (.aload_n 2, 1) := by decide +kernel
theorem dL_versionsOf_1 : decode cL_versionsOf 1 = .ok (.iconst 0, 1) := by decide +kernel
theorem dL_versionsOf_2 : decode cL_versionsOf 2 = .ok (.aload_n 0, 1) := by decide +kernel
theorem dL_versionsOf_3 : decode cL_versionsOf 3 = .ok (.iload_n 1, 1) := by decide +kernel
theorem dL_versionsOf_4 : decode cL_versionsOf 4 = .ok (.invokevirtual 38, 3) := by decide +kernel
theorem dL_versionsOf_7 : decode cL_versionsOf 7 = .ok (.i2l, 1) := by decide +kernel
theorem dL_versionsOf_8 : decode cL_versionsOf 8 = .ok (.lastore, 1) := by decide +kernel
theorem dL_versionsOf_9 : decode cL_versionsOf 9 = .ok (.goto 6, 3) := by decide +kernel
theorem dL_versionsOf_12 : decode cL_versionsOf 12 = .ok (.astore_n 3, 1) := by decide +kernel
theorem dL_versionsOf_13 : decode cL_versionsOf 13 = .ok (.iconst 1, 1) := by decide +kernel
theorem dL_versionsOf_14 : decode cL_versionsOf 14 = .ok (.ireturn, 1) := by decide +kernel
theorem dL_versionsOf_15 : decode cL_versionsOf 15 = .ok (.iconst 0, 1) := by decide +kernel
theorem dL_versionsOf_16 : decode cL_versionsOf 16 = .ok (.ireturn, 1) := by decide +kernel
set_option maxRecDepth 20000 in
theorem ggL_versionAt_X5_versionAt : GoodIn wsL_versionAt wsX5_versionAt := goodIn_ca (goodIn_ca (goodIn_ca (goodIn_r _ [7, 8, 9, 10, 11, 6, 12, 13, 14, 15, 16, 17, 18, 19, 20, 21, 22, 23, 24, 25, 26, 27, 28, 29, 30, 31, 32, 33, 34, 35, 36, 37, 38, 39, 40, 41, 42, 43, 44, 45, 46, 47, 48, 49, 50, 51, 52, 53, 54, 55, 56, 57, 58] (by decide +kernel) (by decide +kernel)) (goodIn_sub (fun _ h => List.mem_cons_of_mem _ (List.mem_append_left _ (List.mem_append_right _ h))) (by decide +kernel))) (goodIn_sub (fun _ h => List.mem_cons_of_mem _ (List.mem_append_left _ (List.mem_append_left _ (List.mem_append_right _ h)))) (by decide +kernel))) (goodIn_sub (fun _ h => List.mem_cons_of_mem _ (List.mem_append_right _ h)) (by decide +kernel))
set_option maxRecDepth 20000 in
theorem gL_versionAt_X5_versionAt : GoodIn wsL_versionAt (wsV RL 41 RX5 yX5_versionAt wsX5_versionAt) := goodIn_app (goodIn_of _ (by decide +kernel)) ggL_versionAt_X5_versionAt
theorem dL_versionAt_0 : decode cL_versionAt 0 = .ok (.aload_n 3, 1) := by decide +kernel
theorem dL_versionAt_1 : decode cL_versionAt 1 = .ok (.iconst 0, 1) := by decide +kernel
theorem dL_versionAt_2 : decode cL_versionAt 2 = .ok (.aload_n 0, 1) := by decide +kernel
theorem dL_versionAt_3 : decode cL_versionAt 3 = .ok (.iload_n 1, 1) := by decide +kernel
theorem dL_versionAt_4 : decode cL_versionAt 4 = .ok (.iload_n 2, 1) := by decide +kernel
theorem dL_versionAt_5 : decode cL_versionAt 5 = .ok (.invokevirtual 41, 3) := by decide +kernel
theorem dL_versionAt_8 : decode cL_versionAt 8 = .ok (.i2l, 1) := by decide +kernel
theorem dL_versionAt_9 : decode cL_versionAt 9 = .ok (.lastore, 1) := by decide +kernel
theorem dL_versionAt_10 : decode cL_versionAt 10 = .ok (.goto 11, 3) := by decide +kernel
theorem dL_versionAt_13 : decode cL_versionAt 13 = .ok (.astore 4, 2) := by decide +kernel
theorem dL_versionAt_15 : decode cL_versionAt 15 = .ok (.iconst 1, 1) := by decide +kernel
theorem dL_versionAt_16 : decode cL_versionAt 16 = .ok (.ireturn, 1) := by decide +kernel
theorem dL_versionAt_17 : decode cL_versionAt 17 = .ok (.astore 4, 2) := by decide +kernel
theorem dL_versionAt_19 : decode cL_versionAt 19 = .ok (.iconst 2, 1) := by decide +kernel
theorem dL_versionAt_20 : decode cL_versionAt 20 = .ok (.ireturn, 1) := by decide +kernel
theorem dL_versionAt_21 : decode cL_versionAt 21 = .ok (.iconst 0, 1) := by decide +kernel
theorem dL_versionAt_22 : decode cL_versionAt 22 = .ok (.ireturn, 1) := by decide +kernel
set_option maxRecDepth 20000 in
theorem ggL_validOn_X5_validOn : GoodIn wsL_validOn wsX5_validOn := goodIn_ca (goodIn_ca (goodIn_ca (goodIn_ca (goodIn_r _ [8, 9, 10, 11, 12, 7, 13, 14, 15, 16, 17, 18, 19, 20, 21, 22, 23, 24, 25, 26, 27, 28, 29, 30, 31, 32, 33, 34, 35, 36, 37, 38, 39, 40, 41, 42, 43, 44, 45, 46, 47, 48, 49, 50, 51, 52, 53, 54, 55, 56, 57, 58, 59, 60, 61] (by decide +kernel) (by decide +kernel)) (goodIn_sub (fun _ h => List.mem_cons_of_mem _ (List.mem_append_left _ (List.mem_append_left _ (List.mem_append_right _ h)))) (by decide +kernel))) (goodIn_sub (fun _ h => List.mem_cons_of_mem _ (List.mem_append_left _ (List.mem_append_right _ h))) (by decide +kernel))) (goodIn_sub (fun _ h => List.mem_cons_of_mem _ (List.mem_append_left _ (List.mem_append_left _ (List.mem_append_left _ (List.mem_append_right _ h))))) (by decide +kernel))) (goodIn_sub (fun _ h => List.mem_cons_of_mem _ (List.mem_append_right _ h)) (by decide +kernel))
set_option maxRecDepth 20000 in
theorem gL_validOn_X5_validOn : GoodIn wsL_validOn (wsV RL 44 RX5 yX5_validOn wsX5_validOn) := goodIn_app (goodIn_of _ (by decide +kernel)) ggL_validOn_X5_validOn
theorem dL_validOn_0 : decode cL_validOn 0 = .ok (.aload_n 3, 1) := by decide +kernel
theorem dL_validOn_1 : decode cL_validOn 1 = .ok (.iconst 0, 1) := by decide +kernel
theorem dL_validOn_2 : decode cL_validOn 2 = .ok (.aload_n 0, 1) := by decide +kernel
theorem dL_validOn_3 : decode cL_validOn 3 = .ok (.iload_n 1, 1) := by decide +kernel
theorem dL_validOn_4 : decode cL_validOn 4 = .ok (.iload_n 2, 1) := by decide +kernel
theorem dL_validOn_5 : decode cL_validOn 5 = .ok (.invokevirtual 44, 3) := by decide +kernel
theorem dL_validOn_8 : decode cL_validOn 8 = .ok (.i2l, 1) := by decide +kernel
theorem dL_validOn_9 : decode cL_validOn 9 = .ok (.lastore, 1) := by decide +kernel
theorem dL_validOn_10 : decode cL_validOn 10 = .ok (.goto 15, 3) := by decide +kernel
theorem dL_validOn_13 : decode cL_validOn 13 = .ok (.astore 4, 2) := by decide +kernel
theorem dL_validOn_15 : decode cL_validOn 15 = .ok (.iconst 1, 1) := by decide +kernel
theorem dL_validOn_16 : decode cL_validOn 16 = .ok (.ireturn, 1) := by decide +kernel
theorem dL_validOn_17 : decode cL_validOn 17 = .ok (.astore 4, 2) := by decide +kernel
theorem dL_validOn_19 : decode cL_validOn 19 = .ok (.iconst 2, 1) := by decide +kernel
theorem dL_validOn_20 : decode cL_validOn 20 = .ok (.ireturn, 1) := by decide +kernel
theorem dL_validOn_21 : decode cL_validOn 21 = .ok (.astore 4, 2) := by decide +kernel
theorem dL_validOn_23 : decode cL_validOn 23 = .ok (.iconst 3, 1) := by decide +kernel
theorem dL_validOn_24 : decode cL_validOn 24 = .ok (.ireturn, 1) := by decide +kernel
theorem dL_validOn_25 : decode cL_validOn 25 = .ok (.iconst 0, 1) := by decide +kernel
theorem dL_validOn_26 : decode cL_validOn 26 = .ok (.ireturn, 1) := by decide +kernel
set_option maxRecDepth 20000 in
theorem ggL_nextAfter_X5_nextAfter : GoodIn wsL_nextAfter wsX5_nextAfter := goodIn_ca (goodIn_ca (goodIn_ca (goodIn_ca (goodIn_r _ [8, 9, 10, 11, 12, 7, 13, 14, 15, 16, 17, 18, 19, 20, 21, 22, 23, 24, 25, 26, 27, 28, 29, 30, 31, 32, 33, 34, 35, 36, 37, 38, 39, 40, 41, 42, 43, 44, 45, 46, 47, 48, 49, 50, 51, 52, 53, 54, 55, 56, 57, 58, 59, 60] (by decide +kernel) (by decide +kernel)) (goodIn_sub (fun _ h => List.mem_cons_of_mem _ (List.mem_append_left _ (List.mem_append_left _ (List.mem_append_right _ h)))) (by decide +kernel))) (goodIn_sub (fun _ h => List.mem_cons_of_mem _ (List.mem_append_left _ (List.mem_append_right _ h))) (by decide +kernel))) (goodIn_sub (fun _ h => List.mem_cons_of_mem _ (List.mem_append_left _ (List.mem_append_left _ (List.mem_append_left _ (List.mem_append_right _ h))))) (by decide +kernel))) (goodIn_sub (fun _ h => List.mem_cons_of_mem _ (List.mem_append_right _ h)) (by decide +kernel))
set_option maxRecDepth 20000 in
theorem gL_nextAfter_X5_nextAfter : GoodIn wsL_nextAfter (wsV RL 47 RX5 yX5_nextAfter wsX5_nextAfter) := goodIn_app (goodIn_of _ (by decide +kernel)) ggL_nextAfter_X5_nextAfter
theorem dL_nextAfter_0 : decode cL_nextAfter 0 = .ok (.aload_n 3, 1) := by decide +kernel
theorem dL_nextAfter_1 : decode cL_nextAfter 1 = .ok (.iconst 0, 1) := by decide +kernel
theorem dL_nextAfter_2 : decode cL_nextAfter 2 = .ok (.aload_n 0, 1) := by decide +kernel
theorem dL_nextAfter_3 : decode cL_nextAfter 3 = .ok (.iload_n 1, 1) := by decide +kernel
theorem dL_nextAfter_4 : decode cL_nextAfter 4 = .ok (.iload_n 2, 1) := by decide +kernel
theorem dL_nextAfter_5 : decode cL_nextAfter 5 = .ok (.invokevirtual 47, 3) := by decide +kernel
theorem dL_nextAfter_8 : decode cL_nextAfter 8 = .ok (.i2l, 1) := by decide +kernel
theorem dL_nextAfter_9 : decode cL_nextAfter 9 = .ok (.lastore, 1) := by decide +kernel
theorem dL_nextAfter_10 : decode cL_nextAfter 10 = .ok (.goto 15, 3) := by decide +kernel
theorem dL_nextAfter_13 : decode cL_nextAfter 13 = .ok (.astore 4, 2) := by decide +kernel
theorem dL_nextAfter_15 : decode cL_nextAfter 15 = .ok (.iconst 1, 1) := by decide +kernel
theorem dL_nextAfter_16 : decode cL_nextAfter 16 = .ok (.ireturn, 1) := by decide +kernel
theorem dL_nextAfter_17 : decode cL_nextAfter 17 = .ok (.astore 4, 2) := by decide +kernel
theorem dL_nextAfter_19 : decode cL_nextAfter 19 = .ok (.iconst 2, 1) := by decide +kernel
theorem dL_nextAfter_20 : decode cL_nextAfter 20 = .ok (.ireturn, 1) := by decide +kernel
theorem dL_nextAfter_21 : decode cL_nextAfter 21 = .ok (.astore 4, 2) := by decide +kernel
theorem dL_nextAfter_23 : decode cL_nextAfter 23 = .ok (.iconst 3, 1) := by decide +kernel
theorem dL_nextAfter_24 : decode cL_nextAfter 24 = .ok (.ireturn, 1) := by decide +kernel
theorem dL_nextAfter_25 : decode cL_nextAfter 25 = .ok (.iconst 0, 1) := by decide +kernel
theorem dL_nextAfter_26 : decode cL_nextAfter 26 = .ok (.ireturn, 1) := by decide +kernel
set_option maxRecDepth 20000 in
theorem ggL_version_X5_version : GoodIn wsL_version wsX5_version := goodIn_ca (goodIn_ca (goodIn_ca (goodIn_r _ [7, 8, 9, 10, 11, 12, 13, 14, 15, 16, 17, 18, 19, 6, 20, 21, 22, 23, 24, 25, 26, 27, 28, 29, 30, 31, 32, 33, 34, 35, 36, 37, 38, 39, 40, 41, 42, 43, 44, 45, 46, 47, 48, 49, 50, 51, 52, 53, 54, 55, 56, 57, 58, 59, 60, 61, 62, 63, 64, 65, 66] (by decide +kernel) (by decide +kernel)) (goodIn_sub (fun _ h => List.mem_cons_of_mem _ (List.mem_append_left _ (List.mem_append_left _ (List.mem_append_right _ h)))) (by decide +kernel))) (goodIn_sub (fun _ h => List.mem_cons_of_mem _ (List.mem_append_left _ (List.mem_append_right _ h))) (by decide +kernel))) (goodIn_sub (fun _ h => List.mem_cons_of_mem _ (List.mem_append_right _ h)) (by decide +kernel))
set_option maxRecDepth 20000 in
theorem gL_version_X5_version : GoodIn wsL_version (wsV RL 50 RX5 yX5_version wsX5_version) := goodIn_app (goodIn_of _ (by decide +kernel)) ggL_version_X5_version
theorem dL_version_0 : decode cL_version 0 = .ok (.aload_n 3, 1) := by decide +kernel
theorem dL_version_1 : decode cL_version 1 = .ok (.iconst 0, 1) := by decide +kernel
theorem dL_version_2 : decode cL_version 2 = .ok (.aload_n 0, 1) := by decide +kernel
theorem dL_version_3 : decode cL_version 3 = .ok (.iload_n 1, 1) := by decide +kernel
theorem dL_version_4 : decode cL_version 4 = .ok (.iload_n 2, 1) := by decide +kernel
theorem dL_version_5 : decode cL_version 5 = .ok (.invokevirtual 50, 3) := by decide +kernel
theorem dL_version_8 : decode cL_version 8 = .ok (.i2l, 1) := by decide +kernel
theorem dL_version_9 : decode cL_version 9 = .ok (.lastore, 1) := by decide +kernel
theorem dL_version_10 : decode cL_version 10 = .ok (.goto 11, 3) := by decide +kernel
theorem dL_version_13 : decode cL_version 13 = .ok (.astore 4, 2) := by decide +kernel
theorem dL_version_15 : decode cL_version 15 = .ok (.iconst 1, 1) := by decide +kernel
theorem dL_version_16 : decode cL_version 16 = .ok (.ireturn, 1) := by decide +kernel
theorem dL_version_17 : decode cL_version 17 = .ok (.astore 4, 2) := by decide +kernel
theorem dL_version_19 : decode cL_version 19 = .ok (.iconst 2, 1) := by decide +kernel
theorem dL_version_20 : decode cL_version 20 = .ok (.ireturn, 1) := by decide +kernel
theorem dL_version_21 : decode cL_version 21 = .ok (.iconst 0, 1) := by decide +kernel
theorem dL_version_22 : decode cL_version 22 = .ok (.ireturn, 1) := by decide +kernel
set_option maxRecDepth 20000 in
theorem ggL_isInferred_X5_isInferred : GoodIn wsL_isInferred wsX5_isInferred := goodIn_ca (goodIn_ca (goodIn_r _ [6, 7, 8, 9, 10, 11, 12, 5, 13, 14, 15, 16, 17, 18, 19, 20, 21, 22, 23, 24, 25, 26, 27, 28, 29, 30, 31, 32, 33, 34, 35, 36, 37, 38, 39, 40] (by decide +kernel) (by decide +kernel)) (goodIn_sub (fun _ h => List.mem_cons_of_mem _ (List.mem_append_left _ (List.mem_append_right _ h))) (by decide +kernel))) (goodIn_sub (fun _ h => List.mem_cons_of_mem _ (List.mem_append_right _ h)) (by decide +kernel))
set_option maxRecDepth 20000 in
theorem gL_isInferred_X5_isInferred : GoodIn wsL_isInferred (wsV RL 53 RX5 yX5_isInferred wsX5_isInferred) := goodIn_app (goodIn_of _ (by decide +kernel)) ggL_isInferred_X5_isInferred
theorem dL_isInferred_0 : decode cL_isInferred 0 = .ok (.aload_n 2, 1) := by decide +kernel
theorem dL_isInferred_1 : decode cL_isInferred 1 = .ok (.iconst 0, 1) := by decide +kernel
theorem dL_isInferred_2 : decode cL_isInferred 2 = .ok (.aload_n 0, 1) := by decide +kernel
theorem dL_isInferred_3 : decode cL_isInferred 3 = .ok (.iload_n 1, 1) := by decide +kernel
theorem dL_isInferred_4 : decode cL_isInferred 4 = .ok (.invokevirtual 53, 3) := by decide +kernel
theorem dL_isInferred_7 : decode cL_isInferred 7 = .ok (.ifCond .eq 7, 3) := by decide +kernel
theorem dL_isInferred_10 : decode cL_isInferred 10 = .ok (.lconst 1, 1) := by decide +kernel
theorem dL_isInferred_11 : decode cL_isInferred 11 = .ok (.goto 4, 3) := by decide +kernel
theorem dL_isInferred_14 : decode cL_isInferred 14 = .ok (.lconst 0, 1) := by decide +kernel
theorem dL_isInferred_15 : decode cL_isInferred 15 = .ok (.lastore, 1) := by decide +kernel
theorem dL_isInferred_16 : decode cL_isInferred 16 = .ok (.goto 6, 3) := by decide +kernel
theorem dL_isInferred_19 : decode cL_isInferred 19 = .ok (.astore_n 3, 1) := by decide +kernel
theorem dL_isInferred_20 : decode cL_isInferred 20 = .ok (.iconst 1, 1) := by decide +kernel
theorem dL_isInferred_21 : decode cL_isInferred 21 = .ok (.ireturn, 1) := by decide +kernel
theorem dL_isInferred_22 : decode cL_isInferred 22 = .ok (.iconst 0, 1) := by decide +kernel
theorem dL_isInferred_23 : decode cL_isInferred 23 = .ok (.ireturn, 1) := by decide +kernel
set_option maxRecDepth 20000 in
theorem ggL_firstInferred_X5_firstInferred : GoodIn wsL_firstInferred wsX5_firstInferred := goodIn_ca (goodIn_ca (goodIn_r _ [6, 7, 8, 9, 10, 11, 12, 13, 14, 15, 16, 17, 18, 19, 20, 21, 22, 23, 24, 25, 26, 27, 28, 5, 29, 30, 31, 32, 33, 34, 35, 36, 37, 38, 39, 40, 41, 42, 43, 44, 45, 46, 47, 48, 49] (by decide +kernel) (by decide +kernel)) (goodIn_sub (fun _ h => List.mem_cons_of_mem _ (List.mem_append_left _ (List.mem_append_right _ h))) (by decide +kernel))) (goodIn_sub (fun _ h => List.mem_cons_of_mem _ (List.mem_append_right _ h)) (by decide +kernel))
set_option maxRecDepth 20000 in
theorem gL_firstInferred_X5_firstInferred : GoodIn wsL_firstInferred (wsV RL 57 RX5 yX5_firstInferred wsX5_firstInferred) := goodIn_app (goodIn_of _ (by decide +kernel)) ggL_firstInferred_X5_firstInferred
theorem dL_firstInferred_0 : decode cL_firstInferred 0 = .ok (.aload_n 1, 1) := by decide +kernel
theorem dL_firstInferred_1 : decode cL_firstInferred 1 = .ok (.iconst 0, 1) := by decide +kernel
theorem dL_firstInferred_2 : decode cL_firstInferred 2 = .ok (.aload_n 0, 1) := by decide +kernel
theorem dL_firstInferred_3 : decode cL_firstInferred 3 = .ok (.invokevirtual 57, 3) := by decide +kernel
theorem dL_firstInferred_6 : decode cL_firstInferred 6 = .ok (.i2l, 1) := by decide +kernel
theorem dL_firstInferred_7 : decode cL_firstInferred 7 = .ok (.lastore, 1) := by decide +kernel
theorem dL_firstInferred_8 : decode cL_firstInferred 8 = .ok (.goto 6, 3) := by decide +kernel
theorem dL_firstInferred_11 : decode cL_firstInferred 11 = .ok (.astore_n 2, 1) := by decide +kernel
theorem dL_firstInferred_12 : decode cL_firstInferred 12 = .ok (.iconst 1, 1) := by decide +kernel
theorem dL_firstInferred_13 : decode cL_firstInferred 13 = .ok (.ireturn, 1) := by decide +kernel
theorem dL_firstInferred_14 : decode cL_firstInferred 14 = .ok (.iconst 0, 1) := by decide +kernel
theorem dL_firstInferred_15 : decode cL_firstInferred 15 = .ok (.ireturn, 1) := by decide +kernel
set_option maxRecDepth 20000 in
theorem ggL_fact_X5_fact : GoodIn wsL_fact wsX5_fact := goodIn_ca (goodIn_ca (goodIn_ca (goodIn_r _ [7, 8, 9, 10, 11, 12, 13, 14, 15, 16, 17, 18, 19, 20, 21, 22, 23, 24, 25, 26, 27, 28, 29, 30, 31, 32, 33, 34, 35, 36, 37, 38, 39, 40, 41, 42, 43, 44, 45, 46, 47, 48, 49, 50, 51, 52, 53, 54] (by decide +kernel) (by decide +kernel)) (goodIn_sub (fun _ h => List.mem_cons_of_mem _ (List.mem_append_left _ (List.mem_append_right _ h))) (by decide +kernel))) (goodIn_sub (fun _ h => List.mem_cons_of_mem _ (List.mem_append_left _ (List.mem_append_left _ (List.mem_append_right _ h)))) (by decide +kernel))) (goodIn_sub (fun _ h => List.mem_cons_of_mem _ (List.mem_append_right _ h)) (by decide +kernel))
set_option maxRecDepth 20000 in
theorem gL_fact_X5_fact : GoodIn wsL_fact (wsV RL 61 RX5 yX5_fact wsX5_fact) := goodIn_app (goodIn_of _ (by decide +kernel)) ggL_fact_X5_fact
theorem dL_fact_0 : decode cL_fact 0 = .ok (.aload_n 3, 1) := by decide +kernel
theorem dL_fact_1 : decode cL_fact 1 = .ok (.iconst 0, 1) := by decide +kernel
theorem dL_fact_2 : decode cL_fact 2 = .ok (.aload_n 0, 1) := by decide +kernel
theorem dL_fact_3 : decode cL_fact 3 = .ok (.iload_n 1, 1) := by decide +kernel
theorem dL_fact_4 : decode cL_fact 4 = .ok (.iload_n 2, 1) := by decide +kernel
theorem dL_fact_5 : decode cL_fact 5 = .ok (.invokevirtual 61, 3) := by decide +kernel
theorem dL_fact_8 : decode cL_fact 8 = .ok (.i2l, 1) := by decide +kernel
theorem dL_fact_9 : decode cL_fact 9 = .ok (.lastore, 1) := by decide +kernel
theorem dL_fact_10 : decode cL_fact 10 = .ok (.goto 11, 3) := by decide +kernel
theorem dL_fact_13 : decode cL_fact 13 = .ok (.astore 4, 2) := by decide +kernel
theorem dL_fact_15 : decode cL_fact 15 = .ok (.iconst 1, 1) := by decide +kernel
theorem dL_fact_16 : decode cL_fact 16 = .ok (.ireturn, 1) := by decide +kernel
theorem dL_fact_17 : decode cL_fact 17 = .ok (.astore 4, 2) := by decide +kernel
theorem dL_fact_19 : decode cL_fact 19 = .ok (.iconst 2, 1) := by decide +kernel
theorem dL_fact_20 : decode cL_fact 20 = .ok (.ireturn, 1) := by decide +kernel
theorem dL_fact_21 : decode cL_fact 21 = .ok (.iconst 0, 1) := by decide +kernel
theorem dL_fact_22 : decode cL_fact 22 = .ok (.ireturn, 1) := by decide +kernel
set_option maxRecDepth 20000 in
theorem ggL_amountOf_X5_amountOf : GoodIn wsL_amountOf wsX5_amountOf := goodIn_ca (goodIn_ca (goodIn_r _ [6, 7, 8, 9, 10, 11, 5, 12, 13, 14, 15, 16, 17, 18, 19, 20, 21, 22, 23, 24, 25, 26, 27, 28, 29, 30, 31, 32, 33, 34, 35, 36, 37, 38, 39, 40, 41, 42, 43, 44, 45, 46, 47, 48, 49, 50, 51, 52, 53] (by decide +kernel) (by decide +kernel)) (goodIn_sub (fun _ h => List.mem_cons_of_mem _ (List.mem_append_right _ h)) (by decide +kernel))) (goodIn_sub (fun _ h => List.mem_cons_of_mem _ (List.mem_append_left _ (List.mem_append_right _ h))) (by decide +kernel))
set_option maxRecDepth 20000 in
theorem gL_amountOf_X5_amountOf : GoodIn wsL_amountOf (wsV RL 64 RX5 yX5_amountOf wsX5_amountOf) := goodIn_app (goodIn_of _ (by decide +kernel)) ggL_amountOf_X5_amountOf
theorem dL_amountOf_0 : decode cL_amountOf 0 = .ok (.aload_n 2, 1) := by decide +kernel
theorem dL_amountOf_1 : decode cL_amountOf 1 = .ok (.iconst 0, 1) := by decide +kernel
theorem dL_amountOf_2 : decode cL_amountOf 2 = .ok (.aload_n 0, 1) := by decide +kernel
theorem dL_amountOf_3 : decode cL_amountOf 3 = .ok (.iload_n 1, 1) := by decide +kernel
theorem dL_amountOf_4 : decode cL_amountOf 4 = .ok (.invokevirtual 64, 3) := by decide +kernel
theorem dL_amountOf_7 : decode cL_amountOf 7 = .ok (.lastore, 1) := by decide +kernel
theorem dL_amountOf_8 : decode cL_amountOf 8 = .ok (.goto 6, 3) := by decide +kernel
theorem dL_amountOf_11 : decode cL_amountOf 11 = .ok (.astore_n 3, 1) := by decide +kernel
theorem dL_amountOf_12 : decode cL_amountOf 12 = .ok (.iconst 1, 1) := by decide +kernel
theorem dL_amountOf_13 : decode cL_amountOf 13 = .ok (.ireturn, 1) := by decide +kernel
theorem dL_amountOf_14 : decode cL_amountOf 14 = .ok (.iconst 0, 1) := by decide +kernel
theorem dL_amountOf_15 : decode cL_amountOf 15 = .ok (.ireturn, 1) := by decide +kernel
set_option maxRecDepth 20000 in
theorem ggL_amountFor_X5_amountFor : GoodIn wsL_amountFor wsX5_amountFor := goodIn_ca (goodIn_ca (goodIn_r _ [6, 7, 8, 9, 10, 11, 12, 13, 5, 14, 15, 16, 17, 18, 19, 20, 21, 22, 23, 24, 25, 26, 27, 28, 29, 30, 31, 32, 33, 34, 35, 36, 37, 38, 39, 40, 41, 42, 43, 44, 45, 46, 47, 48, 49, 50, 51, 52, 53, 54, 55, 56, 57, 58, 59] (by decide +kernel) (by decide +kernel)) (goodIn_sub (fun _ h => List.mem_cons_of_mem _ (List.mem_append_left _ (List.mem_append_right _ h))) (by decide +kernel))) (goodIn_sub (fun _ h => List.mem_cons_of_mem _ (List.mem_append_right _ h)) (by decide +kernel))
set_option maxRecDepth 20000 in
theorem gL_amountFor_X5_amountFor : GoodIn wsL_amountFor (wsV RL 68 RX5 yX5_amountFor wsX5_amountFor) := goodIn_app (goodIn_of _ (by decide +kernel)) ggL_amountFor_X5_amountFor
theorem dL_amountFor_0 : decode cL_amountFor 0 = .ok (.aload_n 3, 1) := by decide +kernel
theorem dL_amountFor_1 : decode cL_amountFor 1 = .ok (.iconst 0, 1) := by decide +kernel
theorem dL_amountFor_2 : decode cL_amountFor 2 = .ok (.aload_n 0, 1) := by decide +kernel
theorem dL_amountFor_3 : decode cL_amountFor 3 = .ok (.iload_n 1, 1) := by decide +kernel
theorem dL_amountFor_4 : decode cL_amountFor 4 = .ok (.iload_n 2, 1) := by decide +kernel
theorem dL_amountFor_5 : decode cL_amountFor 5 = .ok (.invokevirtual 68, 3) := by decide +kernel
theorem dL_amountFor_8 : decode cL_amountFor 8 = .ok (.lastore, 1) := by decide +kernel
theorem dL_amountFor_9 : decode cL_amountFor 9 = .ok (.goto 7, 3) := by decide +kernel
theorem dL_amountFor_12 : decode cL_amountFor 12 = .ok (.astore 4, 2) := by decide +kernel
theorem dL_amountFor_14 : decode cL_amountFor 14 = .ok (.iconst 1, 1) := by decide +kernel
theorem dL_amountFor_15 : decode cL_amountFor 15 = .ok (.ireturn, 1) := by decide +kernel
theorem dL_amountFor_16 : decode cL_amountFor 16 = .ok (.iconst 0, 1) := by decide +kernel
theorem dL_amountFor_17 : decode cL_amountFor 17 = .ok (.ireturn, 1) := by decide +kernel
set_option maxRecDepth 20000 in
theorem ggL_gaps_X5_gaps : GoodIn wsL_gaps wsX5_gaps := goodIn_ca (goodIn_ca (goodIn_r _ [6, 7, 8, 9, 10, 5, 11, 12, 13, 14, 15, 16, 17, 18, 19, 20, 21, 22, 23, 24, 25, 26, 27, 28, 29, 30, 31, 32, 33, 34, 35, 36, 37, 38, 39, 40, 41, 42, 43, 44, 45, 46, 47, 48, 49, 50, 51, 52, 53, 54, 55, 56, 57, 58, 59, 60, 61] (by decide +kernel) (by decide +kernel)) (goodIn_sub (fun _ h => List.mem_cons_of_mem _ (List.mem_append_right _ h)) (by decide +kernel))) (goodIn_sub (fun _ h => List.mem_cons_of_mem _ (List.mem_append_left _ (List.mem_append_right _ h))) (by decide +kernel))
set_option maxRecDepth 20000 in
theorem gL_gaps_X5_gaps : GoodIn wsL_gaps (wsV RL 72 RX5 yX5_gaps wsX5_gaps) := goodIn_app (goodIn_of _ (by decide +kernel)) ggL_gaps_X5_gaps
theorem dL_gaps_0 : decode cL_gaps 0 = .ok (.aload_n 2, 1) := by decide +kernel
theorem dL_gaps_1 : decode cL_gaps 1 = .ok (.iconst 0, 1) := by decide +kernel
theorem dL_gaps_2 : decode cL_gaps 2 = .ok (.aload_n 0, 1) := by decide +kernel
theorem dL_gaps_3 : decode cL_gaps 3 = .ok (.iload_n 1, 1) := by decide +kernel
theorem dL_gaps_4 : decode cL_gaps 4 = .ok (.invokevirtual 72, 3) := by decide +kernel
theorem dL_gaps_7 : decode cL_gaps 7 = .ok (.i2l, 1) := by decide +kernel
theorem dL_gaps_8 : decode cL_gaps 8 = .ok (.lastore, 1) := by decide +kernel
theorem dL_gaps_9 : decode cL_gaps 9 = .ok (.goto 6, 3) := by decide +kernel
theorem dL_gaps_12 : decode cL_gaps 12 = .ok (.astore_n 3, 1) := by decide +kernel
theorem dL_gaps_13 : decode cL_gaps 13 = .ok (.iconst 1, 1) := by decide +kernel
theorem dL_gaps_14 : decode cL_gaps 14 = .ok (.ireturn, 1) := by decide +kernel
theorem dL_gaps_15 : decode cL_gaps 15 = .ok (.iconst 0, 1) := by decide +kernel
theorem dL_gaps_16 : decode cL_gaps 16 = .ok (.ireturn, 1) := by decide +kernel
set_option maxRecDepth 20000 in
theorem ggL_gapDay_X5_gapDay : GoodIn wsL_gapDay wsX5_gapDay := goodIn_ca (goodIn_ca (goodIn_ca (goodIn_r _ [7, 8, 9, 10, 11, 12, 13, 6, 14, 15, 16, 17, 18, 19, 20, 21, 22, 23, 24, 25, 26, 27, 28, 29, 30, 31, 32, 33, 34, 35, 36, 37, 38, 39, 40, 41, 42, 43, 44, 45, 46, 47, 48, 49, 50, 51, 52, 53, 54, 55, 56, 57, 58, 59, 60, 61, 62, 63, 64, 65, 66, 67, 68, 69, 70] (by decide +kernel) (by decide +kernel)) (goodIn_sub (fun _ h => List.mem_cons_of_mem _ (List.mem_append_left _ (List.mem_append_left _ (List.mem_append_right _ h)))) (by decide +kernel))) (goodIn_sub (fun _ h => List.mem_cons_of_mem _ (List.mem_append_left _ (List.mem_append_right _ h))) (by decide +kernel))) (goodIn_sub (fun _ h => List.mem_cons_of_mem _ (List.mem_append_right _ h)) (by decide +kernel))
set_option maxRecDepth 20000 in
theorem gL_gapDay_X5_gapDay : GoodIn wsL_gapDay (wsV RL 75 RX5 yX5_gapDay wsX5_gapDay) := goodIn_app (goodIn_of _ (by decide +kernel)) ggL_gapDay_X5_gapDay
theorem dL_gapDay_0 : decode cL_gapDay 0 = .ok (.aload 4, 2) := by decide +kernel
theorem dL_gapDay_2 : decode cL_gapDay 2 = .ok (.iconst 0, 1) := by decide +kernel
theorem dL_gapDay_3 : decode cL_gapDay 3 = .ok (.aload_n 0, 1) := by decide +kernel
theorem dL_gapDay_4 : decode cL_gapDay 4 = .ok (.iload_n 1, 1) := by decide +kernel
theorem dL_gapDay_5 : decode cL_gapDay 5 = .ok (.iload_n 2, 1) := by decide +kernel
theorem dL_gapDay_6 : decode cL_gapDay 6 = .ok (.iload_n 3, 1) := by decide +kernel
theorem dL_gapDay_7 : decode cL_gapDay 7 = .ok (.invokevirtual 75, 3) := by decide +kernel
theorem dL_gapDay_10 : decode cL_gapDay 10 = .ok (.i2l, 1) := by decide +kernel
theorem dL_gapDay_11 : decode cL_gapDay 11 = .ok (.lastore, 1) := by decide +kernel
theorem dL_gapDay_12 : decode cL_gapDay 12 = .ok (.goto 11, 3) := by decide +kernel
theorem dL_gapDay_15 : decode cL_gapDay 15 = .ok (.astore 5, 2) := by decide +kernel
theorem dL_gapDay_17 : decode cL_gapDay 17 = .ok (.iconst 1, 1) := by decide +kernel
theorem dL_gapDay_18 : decode cL_gapDay 18 = .ok (.ireturn, 1) := by decide +kernel
theorem dL_gapDay_19 : decode cL_gapDay 19 = .ok (.astore 5, 2) := by decide +kernel
theorem dL_gapDay_21 : decode cL_gapDay 21 = .ok (.iconst 2, 1) := by decide +kernel
theorem dL_gapDay_22 : decode cL_gapDay 22 = .ok (.ireturn, 1) := by decide +kernel
theorem dL_gapDay_23 : decode cL_gapDay 23 = .ok (.iconst 0, 1) := by decide +kernel
theorem dL_gapDay_24 : decode cL_gapDay 24 = .ok (.ireturn, 1) := by decide +kernel
set_option maxRecDepth 20000 in
theorem ggL_coverage_X5_coverage : GoodIn wsL_coverage wsX5_coverage := goodIn_ca (goodIn_ca (goodIn_ca (goodIn_r _ [7, 8, 9, 10, 11, 12, 13, 6, 14, 15, 16, 17, 18, 19, 20, 21, 22, 23, 24, 25, 26, 27, 28, 29, 30, 31, 32, 33, 34, 35, 36, 37, 38, 39, 40, 41, 42, 43, 44, 45, 46, 47, 48, 49, 50, 51, 52, 53, 54, 55, 56, 57, 58, 59, 60, 61, 62, 63, 64, 65, 66, 67, 68] (by decide +kernel) (by decide +kernel)) (goodIn_sub (fun _ h => List.mem_cons_of_mem _ (List.mem_append_left _ (List.mem_append_right _ h))) (by decide +kernel))) (goodIn_sub (fun _ h => List.mem_cons_of_mem _ (List.mem_append_right _ h)) (by decide +kernel))) (goodIn_sub (fun _ h => List.mem_cons_of_mem _ (List.mem_append_left _ (List.mem_append_left _ (List.mem_append_right _ h)))) (by decide +kernel))
set_option maxRecDepth 20000 in
theorem gL_coverage_X5_coverage : GoodIn wsL_coverage (wsV RL 79 RX5 yX5_coverage wsX5_coverage) := goodIn_app (goodIn_of _ (by decide +kernel)) ggL_coverage_X5_coverage
theorem dL_coverage_0 : decode cL_coverage 0 = .ok (.aload_n 2, 1) := by decide +kernel
theorem dL_coverage_1 : decode cL_coverage 1 = .ok (.iconst 0, 1) := by decide +kernel
theorem dL_coverage_2 : decode cL_coverage 2 = .ok (.aload_n 0, 1) := by decide +kernel
theorem dL_coverage_3 : decode cL_coverage 3 = .ok (.iload_n 1, 1) := by decide +kernel
theorem dL_coverage_4 : decode cL_coverage 4 = .ok (.invokevirtual 79, 3) := by decide +kernel
theorem dL_coverage_7 : decode cL_coverage 7 = .ok (.dastore, 1) := by decide +kernel
theorem dL_coverage_8 : decode cL_coverage 8 = .ok (.goto 9, 3) := by decide +kernel
theorem dL_coverage_11 : decode cL_coverage 11 = .ok (.astore_n 3, 1) := by decide +kernel
theorem dL_coverage_12 : decode cL_coverage 12 = .ok (.iconst 1, 1) := by decide +kernel
theorem dL_coverage_13 : decode cL_coverage 13 = .ok (.ireturn, 1) := by decide +kernel
theorem dL_coverage_14 : decode cL_coverage 14 = .ok (.astore_n 3, 1) := by decide +kernel
theorem dL_coverage_15 : decode cL_coverage 15 = .ok (.iconst 2, 1) := by decide +kernel
theorem dL_coverage_16 : decode cL_coverage 16 = .ok (.ireturn, 1) := by decide +kernel
theorem dL_coverage_17 : decode cL_coverage 17 = .ok (.iconst 0, 1) := by decide +kernel
theorem dL_coverage_18 : decode cL_coverage 18 = .ok (.ireturn, 1) := by decide +kernel
set_option maxRecDepth 20000 in
theorem ggL_isCovered_X5_isCovered : GoodIn wsL_isCovered wsX5_isCovered := goodIn_ca (goodIn_ca (goodIn_ca (goodIn_r _ [7, 8, 9, 10, 11, 6, 12, 13, 14, 15, 16, 17, 18, 19, 20, 21, 22, 23, 24, 25, 26, 27, 28, 29, 30, 31, 32, 33, 34, 35, 36, 37, 38, 39, 40, 41, 42, 43, 44, 45, 46, 47, 48, 49, 50, 51, 52, 53, 54, 55, 56, 57, 58, 59] (by decide +kernel) (by decide +kernel)) (goodIn_sub (fun _ h => List.mem_cons_of_mem _ (List.mem_append_left _ (List.mem_append_right _ h))) (by decide +kernel))) (goodIn_sub (fun _ h => List.mem_cons_of_mem _ (List.mem_append_right _ h)) (by decide +kernel))) (goodIn_sub (fun _ h => List.mem_cons_of_mem _ (List.mem_append_left _ (List.mem_append_left _ (List.mem_append_right _ h)))) (by decide +kernel))
set_option maxRecDepth 20000 in
theorem gL_isCovered_X5_isCovered : GoodIn wsL_isCovered (wsV RL 85 RX5 yX5_isCovered wsX5_isCovered) := goodIn_app (goodIn_of _ (by decide +kernel)) ggL_isCovered_X5_isCovered
theorem dL_isCovered_0 : decode cL_isCovered 0 = .ok (.aload 4, 2) := by decide +kernel
theorem dL_isCovered_2 : decode cL_isCovered 2 = .ok (.iconst 0, 1) := by decide +kernel
theorem dL_isCovered_3 : decode cL_isCovered 3 = .ok (.aload_n 0, 1) := by decide +kernel
theorem dL_isCovered_4 : decode cL_isCovered 4 = .ok (.iload_n 1, 1) := by decide +kernel
theorem dL_isCovered_5 : decode cL_isCovered 5 = .ok (.iload_n 2, 1) := by decide +kernel
theorem dL_isCovered_6 : decode cL_isCovered 6 = .ok (.iload_n 3, 1) := by decide +kernel
theorem dL_isCovered_7 : decode cL_isCovered 7 = .ok (.invokevirtual 85, 3) := by decide +kernel
theorem dL_isCovered_10 : decode cL_isCovered 10 = .ok (.ifCond .eq 7, 3) := by decide +kernel
theorem dL_isCovered_13 : decode cL_isCovered 13 = .ok (.lconst 1, 1) := by decide +kernel
theorem dL_isCovered_14 : decode cL_isCovered 14 = .ok (.goto 4, 3) := by decide +kernel
theorem dL_isCovered_17 : decode cL_isCovered 17 = .ok (.lconst 0, 1) := by decide +kernel
theorem dL_isCovered_18 : decode cL_isCovered 18 = .ok (.lastore, 1) := by decide +kernel
theorem dL_isCovered_19 : decode cL_isCovered 19 = .ok (.goto 11, 3) := by decide +kernel
theorem dL_isCovered_22 : decode cL_isCovered 22 = .ok (.astore 5, 2) := by decide +kernel
theorem dL_isCovered_24 : decode cL_isCovered 24 = .ok (.iconst 1, 1) := by decide +kernel
theorem dL_isCovered_25 : decode cL_isCovered 25 = .ok (.ireturn, 1) := by decide +kernel
theorem dL_isCovered_26 : decode cL_isCovered 26 = .ok (.astore 5, 2) := by decide +kernel
theorem dL_isCovered_28 : decode cL_isCovered 28 = .ok (.iconst 2, 1) := by decide +kernel
theorem dL_isCovered_29 : decode cL_isCovered 29 = .ok (.ireturn, 1) := by decide +kernel
theorem dL_isCovered_30 : decode cL_isCovered 30 = .ok (.iconst 0, 1) := by decide +kernel
theorem dL_isCovered_31 : decode cL_isCovered 31 = .ok (.ireturn, 1) := by decide +kernel
set_option maxRecDepth 20000 in
theorem ggL_stage_X5_stage : GoodIn wsL_stage wsX5_stage := goodIn_ca (goodIn_ca (goodIn_ca (goodIn_ca (goodIn_r _ [8, 9, 10, 11, 12, 13, 14, 15, 7, 16, 17, 18, 19, 20, 21, 22, 23, 24, 25, 26, 27, 28, 29, 30, 31, 32, 33, 34, 35, 36, 37, 38, 39, 40, 41, 42, 43, 44, 45, 46, 47, 48, 49, 50, 51, 52, 53, 54, 55] (by decide +kernel) (by decide +kernel)) (goodIn_sub (fun _ h => List.mem_cons_of_mem _ (List.mem_append_left _ (List.mem_append_left _ (List.mem_append_right _ h)))) (by decide +kernel))) (goodIn_sub (fun _ h => List.mem_cons_of_mem _ (List.mem_append_left _ (List.mem_append_right _ h))) (by decide +kernel))) (goodIn_sub (fun _ h => List.mem_cons_of_mem _ (List.mem_append_right _ h)) (by decide +kernel))) (goodIn_sub (fun _ h => List.mem_cons_of_mem _ (List.mem_append_left _ (List.mem_append_left _ (List.mem_append_left _ (List.mem_append_right _ h))))) (by decide +kernel))
set_option maxRecDepth 20000 in
theorem gL_stage_X5_stage : GoodIn wsL_stage (wsV RL 89 RX5 yX5_stage wsX5_stage) := goodIn_app (goodIn_of _ (by decide +kernel)) ggL_stage_X5_stage
theorem dL_stage_0 : decode cL_stage 0 = .ok (.aload 4, 2) := by decide +kernel
theorem dL_stage_2 : decode cL_stage 2 = .ok (.iconst 0, 1) := by decide +kernel
theorem dL_stage_3 : decode cL_stage 3 = .ok (.aload_n 0, 1) := by decide +kernel
theorem dL_stage_4 : decode cL_stage 4 = .ok (.iload_n 1, 1) := by decide +kernel
theorem dL_stage_5 : decode cL_stage 5 = .ok (.iload_n 2, 1) := by decide +kernel
theorem dL_stage_6 : decode cL_stage 6 = .ok (.iload_n 3, 1) := by decide +kernel
theorem dL_stage_7 : decode cL_stage 7 = .ok (.invokevirtual 89, 3) := by decide +kernel
theorem dL_stage_10 : decode cL_stage 10 = .ok (.i2l, 1) := by decide +kernel
theorem dL_stage_11 : decode cL_stage 11 = .ok (.lastore, 1) := by decide +kernel
theorem dL_stage_12 : decode cL_stage 12 = .ok (.goto 15, 3) := by decide +kernel
theorem dL_stage_15 : decode cL_stage 15 = .ok (.astore 5, 2) := by decide +kernel
theorem dL_stage_17 : decode cL_stage 17 = .ok (.iconst 1, 1) := by decide +kernel
theorem dL_stage_18 : decode cL_stage 18 = .ok (.ireturn, 1) := by decide +kernel
theorem dL_stage_19 : decode cL_stage 19 = .ok (.astore 5, 2) := by decide +kernel
theorem dL_stage_21 : decode cL_stage 21 = .ok (.iconst 2, 1) := by decide +kernel
theorem dL_stage_22 : decode cL_stage 22 = .ok (.ireturn, 1) := by decide +kernel
theorem dL_stage_23 : decode cL_stage 23 = .ok (.astore 5, 2) := by decide +kernel
theorem dL_stage_25 : decode cL_stage 25 = .ok (.iconst 3, 1) := by decide +kernel
theorem dL_stage_26 : decode cL_stage 26 = .ok (.ireturn, 1) := by decide +kernel
theorem dL_stage_27 : decode cL_stage 27 = .ok (.iconst 0, 1) := by decide +kernel
theorem dL_stage_28 : decode cL_stage 28 = .ok (.ireturn, 1) := by decide +kernel
set_option maxRecDepth 20000 in
theorem ggL_nextRow_X5_nextRow : GoodIn wsL_nextRow wsX5_nextRow := goodIn_ca (goodIn_ca (goodIn_ca (goodIn_r _ [7, 8, 9, 10, 11, 12, 13, 14, 15, 16, 17, 18, 19, 20, 21, 22, 23, 24, 25, 26, 27, 28, 29, 30, 31, 32] (by decide +kernel) (by decide +kernel)) (goodIn_sub (fun _ h => List.mem_cons_of_mem _ (List.mem_append_left _ (List.mem_append_right _ h))) (by decide +kernel))) (goodIn_sub (fun _ h => List.mem_cons_of_mem _ (List.mem_append_right _ h)) (by decide +kernel))) (goodIn_sub (fun _ h => List.mem_cons_of_mem _ (List.mem_append_left _ (List.mem_append_left _ (List.mem_append_right _ h)))) (by decide +kernel))
set_option maxRecDepth 20000 in
theorem gL_nextRow_X5_nextRow : GoodIn wsL_nextRow (wsV RL 92 RX5 yX5_nextRow wsX5_nextRow) := goodIn_app (goodIn_of _ (by decide +kernel)) ggL_nextRow_X5_nextRow
theorem dL_nextRow_0 : decode cL_nextRow 0 = .ok (.aload_n 2, 1) := by decide +kernel
theorem dL_nextRow_1 : decode cL_nextRow 1 = .ok (.iconst 0, 1) := by decide +kernel
theorem dL_nextRow_2 : decode cL_nextRow 2 = .ok (.aload_n 0, 1) := by decide +kernel
theorem dL_nextRow_3 : decode cL_nextRow 3 = .ok (.iload_n 1, 1) := by decide +kernel
theorem dL_nextRow_4 : decode cL_nextRow 4 = .ok (.invokevirtual 92, 3) := by decide +kernel
theorem dL_nextRow_7 : decode cL_nextRow 7 = .ok (.i2l, 1) := by decide +kernel
theorem dL_nextRow_8 : decode cL_nextRow 8 = .ok (.lastore, 1) := by decide +kernel
theorem dL_nextRow_9 : decode cL_nextRow 9 = .ok (.goto 9, 3) := by decide +kernel
theorem dL_nextRow_12 : decode cL_nextRow 12 = .ok (.astore_n 3, 1) := by decide +kernel
theorem dL_nextRow_13 : decode cL_nextRow 13 = .ok (.iconst 1, 1) := by decide +kernel
theorem dL_nextRow_14 : decode cL_nextRow 14 = .ok (.ireturn, 1) := by decide +kernel
theorem dL_nextRow_15 : decode cL_nextRow 15 = .ok (.astore_n 3, 1) := by decide +kernel
theorem dL_nextRow_16 : decode cL_nextRow 16 = .ok (.iconst 2, 1) := by decide +kernel
theorem dL_nextRow_17 : decode cL_nextRow 17 = .ok (.ireturn, 1) := by decide +kernel
theorem dL_nextRow_18 : decode cL_nextRow 18 = .ok (.iconst 0, 1) := by decide +kernel
theorem dL_nextRow_19 : decode cL_nextRow 19 = .ok (.ireturn, 1) := by decide +kernel
set_option maxRecDepth 20000 in
theorem ggL_loadRows_X5_loadRows : GoodIn wsL_loadRows wsX5_loadRows := goodIn_ca (goodIn_ca (goodIn_ca (goodIn_r _ [7, 8, 9, 10, 11, 12, 13, 14, 15, 16, 17, 18, 19, 20, 21, 6, 22, 23, 24, 25, 26, 27, 28, 29, 30, 31, 32, 33, 34, 35, 36, 37, 38, 39, 40, 41, 42, 43, 44, 45, 46, 47, 48, 49, 50, 51, 52, 53, 54, 55, 56, 57, 58, 59, 60, 61, 62, 63, 64, 65, 66, 67, 68, 69, 70, 71, 72, 73, 74, 75, 76, 77, 78, 79, 80, 81, 82, 83, 84, 85, 86, 87, 88, 89, 90, 91, 92, 93, 94, 95, 96, 97, 98, 99, 100, 101, 102, 103, 104, 105, 106, 107, 108, 109, 110, 111, 112, 113, 114, 115, 116, 117, 118, 119, 120, 121, 122, 123, 124, 125, 126, 127, 128, 129, 130, 131] (by decide +kernel) (by decide +kernel)) (goodIn_sub (fun _ h => List.mem_cons_of_mem _ (List.mem_append_left _ (List.mem_append_right _ h))) (by decide +kernel))) (goodIn_sub (fun _ h => List.mem_cons_of_mem _ (List.mem_append_right _ h)) (by decide +kernel))) (goodIn_sub (fun _ h => List.mem_cons_of_mem _ (List.mem_append_left _ (List.mem_append_left _ (List.mem_append_right _ h)))) (by decide +kernel))
set_option maxRecDepth 20000 in
theorem gL_loadRows_X5_loadRows : GoodIn wsL_loadRows (wsV RL 95 RX5 yX5_loadRows wsX5_loadRows) := goodIn_app (goodIn_of _ (by decide +kernel)) ggL_loadRows_X5_loadRows
theorem dL_loadRows_0 : decode cL_loadRows 0 = .ok (.aload_n 2, 1) := by decide +kernel
theorem dL_loadRows_1 : decode cL_loadRows 1 = .ok (.iconst 0, 1) := by decide +kernel
theorem dL_loadRows_2 : decode cL_loadRows 2 = .ok (.aload_n 0, 1) := by decide +kernel
theorem dL_loadRows_3 : decode cL_loadRows 3 = .ok (.iload_n 1, 1) := by decide +kernel
theorem dL_loadRows_4 : decode cL_loadRows 4 = .ok (.invokevirtual 95, 3) := by decide +kernel
theorem dL_loadRows_7 : decode cL_loadRows 7 = .ok (.i2l, 1) := by decide +kernel
theorem dL_loadRows_8 : decode cL_loadRows 8 = .ok (.lastore, 1) := by decide +kernel
theorem dL_loadRows_9 : decode cL_loadRows 9 = .ok (.goto 9, 3) := by decide +kernel
theorem dL_loadRows_12 : decode cL_loadRows 12 = .ok (.astore_n 3, 1) := by decide +kernel
theorem dL_loadRows_13 : decode cL_loadRows 13 = .ok (.iconst 1, 1) := by decide +kernel
theorem dL_loadRows_14 : decode cL_loadRows 14 = .ok (.ireturn, 1) := by decide +kernel
theorem dL_loadRows_15 : decode cL_loadRows 15 = .ok (.astore_n 3, 1) := by decide +kernel
theorem dL_loadRows_16 : decode cL_loadRows 16 = .ok (.iconst 2, 1) := by decide +kernel
theorem dL_loadRows_17 : decode cL_loadRows 17 = .ok (.ireturn, 1) := by decide +kernel
theorem dL_loadRows_18 : decode cL_loadRows 18 = .ok (.iconst 0, 1) := by decide +kernel
theorem dL_loadRows_19 : decode cL_loadRows 19 = .ok (.ireturn, 1) := by decide +kernel
set_option maxRecDepth 20000 in
theorem ggL_append_X5_append : GoodIn wsL_append wsX5_append := goodIn_ca (goodIn_ca (goodIn_ca (goodIn_r _ [7, 8, 9, 10, 11, 12, 13, 14, 15, 16, 17, 18, 19, 20, 21, 22, 23, 24, 25, 26, 27, 28, 29, 30, 31] (by decide +kernel) (by decide +kernel)) (goodIn_sub (fun _ h => List.mem_cons_of_mem _ (List.mem_append_left _ (List.mem_append_right _ h))) (by decide +kernel))) (goodIn_sub (fun _ h => List.mem_cons_of_mem _ (List.mem_append_right _ h)) (by decide +kernel))) (goodIn_sub (fun _ h => List.mem_cons_of_mem _ (List.mem_append_left _ (List.mem_append_left _ (List.mem_append_right _ h)))) (by decide +kernel))
set_option maxRecDepth 20000 in
theorem gL_append_X5_append : GoodIn wsL_append (wsV RL 98 RX5 yX5_append wsX5_append) := goodIn_app (goodIn_of _ (by decide +kernel)) ggL_append_X5_append
theorem dL_append_0 : decode cL_append 0 = .ok (.aload_n 2, 1) := by decide +kernel
theorem dL_append_1 : decode cL_append 1 = .ok (.iconst 0, 1) := by decide +kernel
theorem dL_append_2 : decode cL_append 2 = .ok (.aload_n 0, 1) := by decide +kernel
theorem dL_append_3 : decode cL_append 3 = .ok (.iload_n 1, 1) := by decide +kernel
theorem dL_append_4 : decode cL_append 4 = .ok (.invokevirtual 98, 3) := by decide +kernel
theorem dL_append_7 : decode cL_append 7 = .ok (.i2l, 1) := by decide +kernel
theorem dL_append_8 : decode cL_append 8 = .ok (.lastore, 1) := by decide +kernel
theorem dL_append_9 : decode cL_append 9 = .ok (.goto 9, 3) := by decide +kernel
theorem dL_append_12 : decode cL_append 12 = .ok (.astore_n 3, 1) := by decide +kernel
theorem dL_append_13 : decode cL_append 13 = .ok (.iconst 1, 1) := by decide +kernel
theorem dL_append_14 : decode cL_append 14 = .ok (.ireturn, 1) := by decide +kernel
theorem dL_append_15 : decode cL_append 15 = .ok (.astore_n 3, 1) := by decide +kernel
theorem dL_append_16 : decode cL_append 16 = .ok (.iconst 2, 1) := by decide +kernel
theorem dL_append_17 : decode cL_append 17 = .ok (.ireturn, 1) := by decide +kernel
theorem dL_append_18 : decode cL_append 18 = .ok (.iconst 0, 1) := by decide +kernel
theorem dL_append_19 : decode cL_append 19 = .ok (.ireturn, 1) := by decide +kernel
set_option maxRecDepth 20000 in
theorem ggL_read_X5_read : GoodIn wsL_read wsX5_read := goodIn_ca (goodIn_ca (goodIn_ca (goodIn_r _ [7, 8, 9, 10, 11, 12, 13, 14, 15, 16, 17, 18, 19, 20, 21, 22, 23, 24, 25, 26, 27, 28, 29, 30, 31, 32, 33, 34, 35, 36, 37, 38, 39, 40, 41, 42, 43, 44, 45, 46, 47, 48, 49, 50, 51, 52, 53, 54, 55, 56, 57, 58, 6, 59, 60, 61, 62, 63, 64, 65, 66, 67, 68, 69, 70, 71, 72, 73, 74, 75, 76, 77, 78, 79, 80, 81, 82, 83, 84, 85, 86, 87, 88, 89, 90, 91, 92, 93, 94, 95, 96, 97, 98, 99, 100, 101, 102, 103, 104, 105, 106, 107, 108, 109, 110, 111, 112, 113, 114, 115, 116, 117, 118, 119, 120, 121, 122, 123, 124, 125, 126, 127, 128, 129, 130, 131, 132, 133, 134, 135, 136, 137, 138, 139, 140, 141, 142, 143, 144, 145, 146, 147, 148, 149, 150, 151, 152, 153, 154, 155, 156, 157, 158, 159] (by decide +kernel) (by decide +kernel)) (goodIn_sub (fun _ h => List.mem_cons_of_mem _ (List.mem_append_left _ (List.mem_append_right _ h))) (by decide +kernel))) (goodIn_sub (fun _ h => List.mem_cons_of_mem _ (List.mem_append_right _ h)) (by decide +kernel))) (goodIn_sub (fun _ h => List.mem_cons_of_mem _ (List.mem_append_left _ (List.mem_append_left _ (List.mem_append_right _ h)))) (by decide +kernel))
set_option maxRecDepth 20000 in
theorem gL_read_X5_read : GoodIn wsL_read (wsV RL 102 RX5 yX5_read wsX5_read) := goodIn_app (goodIn_of _ (by decide +kernel)) ggL_read_X5_read
theorem dL_read_0 : decode cL_read 0 = .ok (.aload_n 1, 1) := by decide +kernel
