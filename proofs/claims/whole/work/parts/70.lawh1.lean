theorem dL_nightsUntilFit_3 : decode cL_nightsUntilFit 3 = .ok (.iload_n 1, 1) := by decide +kernel
theorem dL_nightsUntilFit_4 : decode cL_nightsUntilFit 4 = .ok (.invokevirtual 58, 3) := by decide +kernel
theorem dL_nightsUntilFit_7 : decode cL_nightsUntilFit 7 = .ok (.i2l, 1) := by decide +kernel
theorem dL_nightsUntilFit_8 : decode cL_nightsUntilFit 8 = .ok (.lastore, 1) := by decide +kernel
theorem dL_nightsUntilFit_9 : decode cL_nightsUntilFit 9 = .ok (.goto 6, 3) := by decide +kernel
theorem dL_nightsUntilFit_12 : decode cL_nightsUntilFit 12 = .ok (.astore_n 3, 1) := by decide +kernel
theorem dL_nightsUntilFit_13 : decode cL_nightsUntilFit 13 = .ok (.iconst 1, 1) := by decide +kernel
theorem dL_nightsUntilFit_14 : decode cL_nightsUntilFit 14 = .ok (.ireturn, 1) := by decide +kernel
theorem dL_nightsUntilFit_15 : decode cL_nightsUntilFit 15 = .ok (.iconst 0, 1) := by decide +kernel
theorem dL_nightsUntilFit_16 : decode cL_nightsUntilFit 16 = .ok (.ireturn, 1) := by decide +kernel
set_option maxRecDepth 20000 in
theorem ggL_canStand_X10_canStand : GoodIn wsL_canStand wsX10_canStand := goodIn_ca (goodIn_ca (goodIn_r _ [6, 7, 8, 9, 10, 11, 5, 12, 13, 14, 15, 16, 17, 18, 19, 20, 21, 22, 23, 24, 25, 26, 27, 28, 29, 30, 31, 32, 33, 34, 35, 36, 37, 38, 39, 40, 41, 42, 43, 44, 45, 46, 47, 48, 49, 50, 51, 52, 53, 54, 55, 56, 57, 58, 59] (by decide +kernel) (by decide +kernel)) (goodIn_sub (fun _ h => List.mem_cons_of_mem _ (List.mem_append_right _ h)) (by decide +kernel))) (goodIn_sub (fun _ h => List.mem_cons_of_mem _ (List.mem_append_left _ (List.mem_append_right _ h))) (by decide +kernel))
set_option maxRecDepth 20000 in
theorem gL_canStand_X10_canStand : GoodIn wsL_canStand (wsV RL 61 RX10 yX10_canStand wsX10_canStand) := goodIn_app (goodIn_of _ (by decide +kernel)) ggL_canStand_X10_canStand
theorem dL_canStand_0 : decode cL_canStand 0 = .ok (.aload_n 2, 1) := by decide +kernel
theorem dL_canStand_1 : decode cL_canStand 1 = .ok (.iconst 0, 1) := by decide +kernel
theorem dL_canStand_2 : decode cL_canStand 2 = .ok (.aload_n 0, 1) := by decide +kernel
theorem dL_canStand_3 : decode cL_canStand 3 = .ok (.iload_n 1, 1) := by decide +kernel
theorem dL_canStand_4 : decode cL_canStand 4 = .ok (.invokevirtual 61, 3) := by decide +kernel
theorem dL_canStand_7 : decode cL_canStand 7 = .ok (.ifCond .eq 7, 3) := by decide +kernel
theorem dL_canStand_10 : decode cL_canStand 10 = .ok (.lconst 1, 1) := by decide +kernel
theorem dL_canStand_11 : decode cL_canStand 11 = .ok (.goto 4, 3) := by decide +kernel
theorem dL_canStand_14 : decode cL_canStand 14 = .ok (.lconst 0, 1) := by decide +kernel
theorem dL_canStand_15 : decode cL_canStand 15 = .ok (.lastore, 1) := by decide +kernel
theorem dL_canStand_16 : decode cL_canStand 16 = .ok (.goto 6, 3) := by decide +kernel
theorem dL_canStand_19 : decode cL_canStand 19 = .ok (.astore_n 3, 1) := by decide +kernel
theorem dL_canStand_20 : decode cL_canStand 20 = .ok (.iconst 1, 1) := by decide +kernel
theorem dL_canStand_21 : decode cL_canStand 21 = .ok (.ireturn, 1) := by decide +kernel
theorem dL_canStand_22 : decode cL_canStand 22 = .ok (.iconst 0, 1) := by decide +kernel
theorem dL_canStand_23 : decode cL_canStand 23 = .ok (.ireturn, 1) := by decide +kernel
set_option maxRecDepth 20000 in
theorem ggL_acrobatAt_X10_acrobatAt : GoodIn wsL_acrobatAt_n wsX10_acrobatAt_n := goodIn_ca (goodIn_ca (goodIn_ca (goodIn_r _ [6, 7, 8, 9, 10, 11, 5, 12, 13, 14, 15, 16, 17, 18, 19, 20, 21, 22, 23, 24, 25, 26, 27, 28, 29, 30, 31, 32, 33, 34, 35, 36, 37, 38, 39, 40, 41, 42, 43, 44, 45, 46, 47, 48, 49, 50, 51, 52, 53, 54, 55, 56, 57, 58, 59, 60, 61, 62, 63, 64] (by decide +kernel) (by decide +kernel)) (goodIn_sub (fun _ h => List.mem_cons_of_mem _ (List.mem_append_left _ (List.mem_append_right _ h))) (by decide +kernel))) (goodIn_sub (fun _ h => List.mem_cons_of_mem _ (List.mem_append_left _ (List.mem_append_left _ (List.mem_append_right _ h)))) (by decide +kernel))) (goodIn_sub (fun _ h => List.mem_cons_of_mem _ (List.mem_append_right _ h)) (by decide +kernel))
set_option maxRecDepth 20000 in
theorem gL_acrobatAt_X10_acrobatAt : GoodIn wsL_acrobatAt_n (wsV RL 64 RX10 yX10_acrobatAt wsX10_acrobatAt_n) := goodIn_app (goodIn_of _ (by decide +kernel)) ggL_acrobatAt_X10_acrobatAt
theorem dL_acrobatAt_0 : decode cL_acrobatAt 0 = .ok (.aload_n 3, 1) := by decide +kernel
theorem dL_acrobatAt_1 : decode cL_acrobatAt 1 = .ok (.iconst 0, 1) := by decide +kernel
theorem dL_acrobatAt_2 : decode cL_acrobatAt 2 = .ok (.aload_n 0, 1) := by decide +kernel
theorem dL_acrobatAt_3 : decode cL_acrobatAt 3 = .ok (.iload_n 1, 1) := by decide +kernel
theorem dL_acrobatAt_4 : decode cL_acrobatAt 4 = .ok (.iload_n 2, 1) := by decide +kernel
theorem dL_acrobatAt_5 : decode cL_acrobatAt 5 = .ok (.invokevirtual 64, 3) := by decide +kernel
theorem dL_acrobatAt_8 : decode cL_acrobatAt 8 = .ok (.i2l, 1) := by decide +kernel
theorem dL_acrobatAt_9 : decode cL_acrobatAt 9 = .ok (.lastore, 1) := by decide +kernel
theorem dL_acrobatAt_10 : decode cL_acrobatAt 10 = .ok (.goto 11, 3) := by decide +kernel
theorem dL_acrobatAt_13 : decode cL_acrobatAt 13 = .ok (.astore 4, 2) := by decide +kernel
theorem dL_acrobatAt_15 : decode cL_acrobatAt 15 = .ok (.iconst 1, 1) := by decide +kernel
theorem dL_acrobatAt_16 : decode cL_acrobatAt 16 = .ok (.ireturn, 1) := by decide +kernel
theorem dL_acrobatAt_17 : decode cL_acrobatAt 17 = .ok (.astore 4, 2) := by decide +kernel
theorem dL_acrobatAt_19 : decode cL_acrobatAt 19 = .ok (.iconst 2, 1) := by decide +kernel
theorem dL_acrobatAt_20 : decode cL_acrobatAt 20 = .ok (.ireturn, 1) := by decide +kernel
theorem dL_acrobatAt_21 : decode cL_acrobatAt 21 = .ok (.iconst 0, 1) := by decide +kernel
theorem dL_acrobatAt_22 : decode cL_acrobatAt 22 = .ok (.ireturn, 1) := by decide +kernel
set_option maxRecDepth 20000 in
theorem ggL_loadOn_X10_loadOn : GoodIn wsL_loadOn_n wsX10_loadOn_n := goodIn_ca (goodIn_ca (goodIn_ca (goodIn_r _ [6, 7, 8, 9, 10, 11, 12, 13, 5, 14, 15, 16, 17, 18, 19, 20, 21, 22, 23, 24, 25, 26, 27, 28, 29, 30, 31, 32, 33, 34, 35, 36, 37, 38, 39, 40, 41, 42, 43, 44, 45, 46, 47, 48, 49, 50, 51, 52, 53, 54, 55, 56, 57, 58] (by decide +kernel) (by decide +kernel)) (goodIn_sub (fun _ h => List.mem_cons_of_mem _ (List.mem_append_left _ (List.mem_append_right _ h))) (by decide +kernel))) (goodIn_sub (fun _ h => List.mem_cons_of_mem _ (List.mem_append_right _ h)) (by decide +kernel))) (goodIn_sub (fun _ h => List.mem_cons_of_mem _ (List.mem_append_left _ (List.mem_append_left _ (List.mem_append_right _ h)))) (by decide +kernel))
set_option maxRecDepth 20000 in
theorem gL_loadOn_X10_loadOn : GoodIn wsL_loadOn_n (wsV RL 69 RX10 yX10_loadOn wsX10_loadOn_n) := goodIn_app (goodIn_of _ (by decide +kernel)) ggL_loadOn_X10_loadOn
theorem dL_loadOn_0 : decode cL_loadOn 0 = .ok (.aload_n 3, 1) := by decide +kernel
theorem dL_loadOn_1 : decode cL_loadOn 1 = .ok (.iconst 0, 1) := by decide +kernel
theorem dL_loadOn_2 : decode cL_loadOn 2 = .ok (.aload_n 0, 1) := by decide +kernel
theorem dL_loadOn_3 : decode cL_loadOn 3 = .ok (.iload_n 1, 1) := by decide +kernel
theorem dL_loadOn_4 : decode cL_loadOn 4 = .ok (.iload_n 2, 1) := by decide +kernel
theorem dL_loadOn_5 : decode cL_loadOn 5 = .ok (.invokevirtual 69, 3) := by decide +kernel
theorem dL_loadOn_8 : decode cL_loadOn 8 = .ok (.i2l, 1) := by decide +kernel
theorem dL_loadOn_9 : decode cL_loadOn 9 = .ok (.lastore, 1) := by decide +kernel
theorem dL_loadOn_10 : decode cL_loadOn 10 = .ok (.goto 11, 3) := by decide +kernel
theorem dL_loadOn_13 : decode cL_loadOn 13 = .ok (.astore 4, 2) := by decide +kernel
theorem dL_loadOn_15 : decode cL_loadOn 15 = .ok (.iconst 1, 1) := by decide +kernel
theorem dL_loadOn_16 : decode cL_loadOn 16 = .ok (.ireturn, 1) := by decide +kernel
theorem dL_loadOn_17 : decode cL_loadOn 17 = .ok (.astore 4, 2) := by decide +kernel
theorem dL_loadOn_19 : decode cL_loadOn 19 = .ok (.iconst 2, 1) := by decide +kernel
theorem dL_loadOn_20 : decode cL_loadOn 20 = .ok (.ireturn, 1) := by decide +kernel
theorem dL_loadOn_21 : decode cL_loadOn 21 = .ok (.iconst 0, 1) := by decide +kernel
theorem dL_loadOn_22 : decode cL_loadOn 22 = .ok (.ireturn, 1) := by decide +kernel
set_option maxRecDepth 20000 in
theorem ggL_columnHeight_X10_columnHeight : GoodIn wsL_columnHeight wsX10_columnHeight := goodIn_ca (goodIn_ca (goodIn_r _ [6, 7, 8, 9, 10, 11, 5, 12, 13, 14, 15, 16, 17, 18, 19, 20, 21, 22, 23, 24, 25, 26, 27, 28, 29, 30, 31, 32, 33, 34, 35, 36, 37, 38, 39, 40, 41, 42, 43, 44, 45, 46, 47, 48, 49, 50] (by decide +kernel) (by decide +kernel)) (goodIn_sub (fun _ h => List.mem_cons_of_mem _ (List.mem_append_right _ h)) (by decide +kernel))) (goodIn_sub (fun _ h => List.mem_cons_of_mem _ (List.mem_append_left _ (List.mem_append_right _ h))) (by decide +kernel))
set_option maxRecDepth 20000 in
theorem gL_columnHeight_X10_columnHeight : GoodIn wsL_columnHeight (wsV RL 72 RX10 yX10_columnHeight wsX10_columnHeight) := goodIn_app (goodIn_of _ (by decide +kernel)) ggL_columnHeight_X10_columnHeight
theorem dL_columnHeight_0 : decode cL_columnHeight 0 = .ok (.aload_n 2, 1) := by decide +kernel
theorem dL_columnHeight_1 : decode cL_columnHeight 1 = .ok (.iconst 0, 1) := by decide +kernel
theorem dL_columnHeight_2 : decode cL_columnHeight 2 = .ok (.aload_n 0, 1) := by decide +kernel
theorem dL_columnHeight_3 : decode cL_columnHeight 3 = .ok (.iload_n 1, 1) := by decide +kernel
theorem dL_columnHeight_4 : decode cL_columnHeight 4 = .ok (.invokevirtual 72, 3) := by decide +kernel
theorem dL_columnHeight_7 : decode cL_columnHeight 7 = .ok (.i2l, 1) := by decide +kernel
theorem dL_columnHeight_8 : decode cL_columnHeight 8 = .ok (.lastore, 1) := by decide +kernel
theorem dL_columnHeight_9 : decode cL_columnHeight 9 = .ok (.goto 6, 3) := by decide +kernel
theorem dL_columnHeight_12 : decode cL_columnHeight 12 = .ok (.astore_n 3, 1) := by decide +kernel
theorem dL_columnHeight_13 : decode cL_columnHeight 13 = .ok (.iconst 1, 1) := by decide +kernel
theorem dL_columnHeight_14 : decode cL_columnHeight 14 = .ok (.ireturn, 1) := by decide +kernel
theorem dL_columnHeight_15 : decode cL_columnHeight 15 = .ok (.iconst 0, 1) := by decide +kernel
theorem dL_columnHeight_16 : decode cL_columnHeight 16 = .ok (.ireturn, 1) := by decide +kernel
set_option maxRecDepth 20000 in
theorem ggL_overloaded_X10_overloaded : GoodIn wsL_overloaded_n wsX10_overloaded_n := goodIn_ca (goodIn_ca (goodIn_ca (goodIn_r _ [6, 7, 8, 9, 10, 11, 5, 12, 13, 14, 15, 16, 17, 18, 19, 20, 21, 22, 23, 24, 25, 26, 27, 28, 29, 30, 31, 32, 33, 34, 35, 36, 37, 38, 39, 40, 41, 42, 43, 44, 45, 46, 47, 48, 49, 50, 51, 52, 53, 54, 55, 56, 57, 58, 59, 60, 61, 62, 63, 64] (by decide +kernel) (by decide +kernel)) (goodIn_sub (fun _ h => List.mem_cons_of_mem _ (List.mem_append_left _ (List.mem_append_right _ h))) (by decide +kernel))) (goodIn_sub (fun _ h => List.mem_cons_of_mem _ (List.mem_append_left _ (List.mem_append_left _ (List.mem_append_right _ h)))) (by decide +kernel))) (goodIn_sub (fun _ h => List.mem_cons_of_mem _ (List.mem_append_right _ h)) (by decide +kernel))
set_option maxRecDepth 20000 in
theorem gL_overloaded_X10_overloaded : GoodIn wsL_overloaded_n (wsV RL 75 RX10 yX10_overloaded wsX10_overloaded_n) := goodIn_app (goodIn_of _ (by decide +kernel)) ggL_overloaded_X10_overloaded
theorem dL_overloaded_0 : decode cL_overloaded 0 = .ok (.aload_n 2, 1) := by decide +kernel
theorem dL_overloaded_1 : decode cL_overloaded 1 = .ok (.iconst 0, 1) := by decide +kernel
theorem dL_overloaded_2 : decode cL_overloaded 2 = .ok (.aload_n 0, 1) := by decide +kernel
theorem dL_overloaded_3 : decode cL_overloaded 3 = .ok (.iload_n 1, 1) := by decide +kernel
theorem dL_overloaded_4 : decode cL_overloaded 4 = .ok (.invokevirtual 75, 3) := by decide +kernel
theorem dL_overloaded_7 : decode cL_overloaded 7 = .ok (.i2l, 1) := by decide +kernel
theorem dL_overloaded_8 : decode cL_overloaded 8 = .ok (.lastore, 1) := by decide +kernel
theorem dL_overloaded_9 : decode cL_overloaded 9 = .ok (.goto 9, 3) := by decide +kernel
theorem dL_overloaded_12 : decode cL_overloaded 12 = .ok (.astore_n 3, 1) := by decide +kernel
theorem dL_overloaded_13 : decode cL_overloaded 13 = .ok (.iconst 1, 1) := by decide +kernel
theorem dL_overloaded_14 : decode cL_overloaded 14 = .ok (.ireturn, 1) := by decide +kernel
theorem dL_overloaded_15 : decode cL_overloaded 15 = .ok (.astore_n 3, 1) := by decide +kernel
theorem dL_overloaded_16 : decode cL_overloaded 16 = .ok (.iconst 2, 1) := by decide +kernel
theorem dL_overloaded_17 : decode cL_overloaded 17 = .ok (.ireturn, 1) := by decide +kernel
theorem dL_overloaded_18 : decode cL_overloaded 18 = .ok (.iconst 0, 1) := by decide +kernel
theorem dL_overloaded_19 : decode cL_overloaded 19 = .ok (.ireturn, 1) := by decide +kernel
set_option maxRecDepth 20000 in
theorem ggL_damages_X10_damages : GoodIn wsL_damages wsX10_damages := goodIn_ca (goodIn_ca (goodIn_r _ [6, 7, 8, 9, 10, 11, 5, 12, 13, 14, 15, 16, 17, 18, 19, 20, 21, 22, 23, 24, 25, 26, 27, 28, 29, 30, 31, 32, 33, 34, 35, 36, 37, 38, 39, 40, 41, 42, 43, 44, 45, 46, 47, 48, 49, 50, 51, 52, 53, 54, 55, 56, 57, 58, 59, 60, 61, 62, 63, 64, 65, 66, 67, 68, 69, 70, 71, 72, 73, 74, 75, 76, 77, 78] (by decide +kernel) (by decide +kernel)) (goodIn_sub (fun _ h => List.mem_cons_of_mem _ (List.mem_append_right _ h)) (by decide +kernel))) (goodIn_sub (fun _ h => List.mem_cons_of_mem _ (List.mem_append_left _ (List.mem_append_right _ h))) (by decide +kernel))
set_option maxRecDepth 20000 in
theorem gL_damages_X10_damages : GoodIn wsL_damages (wsV RL 78 RX10 yX10_damages wsX10_damages) := goodIn_app (goodIn_of _ (by decide +kernel)) ggL_damages_X10_damages
theorem dL_damages_0 : decode cL_damages 0 = .ok (.aload_n 2, 1) := by decide +kernel
theorem dL_damages_1 : decode cL_damages 1 = .ok (.iconst 0, 1) := by decide +kernel
theorem dL_damages_2 : decode cL_damages 2 = .ok (.aload_n 0, 1) := by decide +kernel
theorem dL_damages_3 : decode cL_damages 3 = .ok (.iload_n 1, 1) := by decide +kernel
theorem dL_damages_4 : decode cL_damages 4 = .ok (.invokevirtual 78, 3) := by decide +kernel
theorem dL_damages_7 : decode cL_damages 7 = .ok (.i2l, 1) := by decide +kernel
theorem dL_damages_8 : decode cL_damages 8 = .ok (.lastore, 1) := by decide +kernel
theorem dL_damages_9 : decode cL_damages 9 = .ok (.goto 6, 3) := by decide +kernel
theorem dL_damages_12 : decode cL_damages 12 = .ok (.astore_n 3, 1) := by decide +kernel
theorem dL_damages_13 : decode cL_damages 13 = .ok (.iconst 1, 1) := by decide +kernel
theorem dL_damages_14 : decode cL_damages 14 = .ok (.ireturn, 1) := by decide +kernel
theorem dL_damages_15 : decode cL_damages 15 = .ok (.iconst 0, 1) := by decide +kernel
theorem dL_damages_16 : decode cL_damages 16 = .ok (.ireturn, 1) := by decide +kernel
set_option maxRecDepth 20000 in
theorem ggL_isCovered_X10_isCovered : GoodIn wsL_isCovered wsX10_isCovered := goodIn_ca (goodIn_ca (goodIn_r _ [6, 7, 8, 9, 10, 11, 12, 13, 5, 14, 15, 16, 17, 18, 19, 20, 21, 22, 23, 24, 25, 26, 27, 28, 29, 30, 31, 32, 33, 34, 35, 36, 37, 38, 39, 40, 41, 42, 43, 44, 45, 46, 47, 48, 49, 50, 51, 52, 53, 54, 55, 56, 57, 58, 59, 60, 61, 62, 63, 64, 65, 66, 67, 68, 69, 70, 71, 72, 73, 74, 75, 76, 77, 78, 79, 80, 81, 82, 83, 84, 85, 86, 87] (by decide +kernel) (by decide +kernel)) (goodIn_sub (fun _ h => List.mem_cons_of_mem _ (List.mem_append_left _ (List.mem_append_right _ h))) (by decide +kernel))) (goodIn_sub (fun _ h => List.mem_cons_of_mem _ (List.mem_append_right _ h)) (by decide +kernel))
set_option maxRecDepth 20000 in
theorem gL_isCovered_X10_isCovered : GoodIn wsL_isCovered (wsV RL 81 RX10 yX10_isCovered wsX10_isCovered) := goodIn_app (goodIn_of _ (by decide +kernel)) ggL_isCovered_X10_isCovered
theorem dL_isCovered_0 : decode cL_isCovered 0 = .ok (.aload_n 2, 1) := by decide +kernel
theorem dL_isCovered_1 : decode cL_isCovered 1 = .ok (.iconst 0, 1) := by decide +kernel
theorem dL_isCovered_2 : decode cL_isCovered 2 = .ok (.aload_n 0, 1) := by decide +kernel
theorem dL_isCovered_3 : decode cL_isCovered 3 = .ok (.iload_n 1, 1) := by decide +kernel
theorem dL_isCovered_4 : decode cL_isCovered 4 = .ok (.invokevirtual 81, 3) := by decide +kernel
theorem dL_isCovered_7 : decode cL_isCovered 7 = .ok (.ifCond .eq 7, 3) := by decide +kernel
theorem dL_isCovered_10 : decode cL_isCovered 10 = .ok (.lconst 1, 1) := by decide +kernel
theorem dL_isCovered_11 : decode cL_isCovered 11 = .ok (.goto 4, 3) := by decide +kernel
theorem dL_isCovered_14 : decode cL_isCovered 14 = .ok (.lconst 0, 1) := by decide +kernel
theorem dL_isCovered_15 : decode cL_isCovered 15 = .ok (.lastore, 1) := by decide +kernel
theorem dL_isCovered_16 : decode cL_isCovered 16 = .ok (.goto 6, 3) := by decide +kernel
theorem dL_isCovered_19 : decode cL_isCovered 19 = .ok (.astore_n 3, 1) := by decide +kernel
theorem dL_isCovered_20 : decode cL_isCovered 20 = .ok (.iconst 1, 1) := by decide +kernel
theorem dL_isCovered_21 : decode cL_isCovered 21 = .ok (.ireturn, 1) := by decide +kernel
theorem dL_isCovered_22 : decode cL_isCovered 22 = .ok (.iconst 0, 1) := by decide +kernel
theorem dL_isCovered_23 : decode cL_isCovered 23 = .ok (.ireturn, 1) := by decide +kernel
set_option maxRecDepth 20000 in
theorem ggL_safety_X10_safety : GoodIn wsL_safety wsX10_safety := goodIn_ca (goodIn_ca (goodIn_ca (goodIn_r _ [6, 7, 8, 9, 10, 11, 5, 12, 13, 14, 15, 16, 17, 18, 19, 20, 21, 22, 23, 24, 25, 26, 27, 28, 29, 30, 31, 32, 33, 34, 35, 36, 37, 38, 39, 40, 41, 42, 43, 44, 45, 46, 47, 48, 49, 50, 51, 52, 53, 54, 55, 56, 57, 58, 59, 60, 61, 62, 63, 64, 65, 66, 67, 68, 69, 70, 71] (by decide +kernel) (by decide +kernel)) (goodIn_sub (fun _ h => List.mem_cons_of_mem _ (List.mem_append_left _ (List.mem_append_right _ h))) (by decide +kernel))) (goodIn_sub (fun _ h => List.mem_cons_of_mem _ (List.mem_append_right _ h)) (by decide +kernel))) (goodIn_sub (fun _ h => List.mem_cons_of_mem _ (List.mem_append_left _ (List.mem_append_left _ (List.mem_append_right _ h)))) (by decide +kernel))
set_option maxRecDepth 20000 in
theorem gL_safety_X10_safety : GoodIn wsL_safety (wsV RL 84 RX10 yX10_safety wsX10_safety) := goodIn_app (goodIn_of _ (by decide +kernel)) ggL_safety_X10_safety
theorem dL_safety_0 : decode cL_safety 0 = .ok (.aload_n 2, 1) := by decide +kernel
theorem dL_safety_1 : decode cL_safety 1 = .ok (.iconst 0, 1) := by decide +kernel
theorem dL_safety_2 : decode cL_safety 2 = .ok (.aload_n 0, 1) := by decide +kernel
theorem dL_safety_3 : decode cL_safety 3 = .ok (.iload_n 1, 1) := by decide +kernel
theorem dL_safety_4 : decode cL_safety 4 = .ok (.invokevirtual 84, 3) := by decide +kernel
theorem dL_safety_7 : decode cL_safety 7 = .ok (.f2d, 1) := by decide +kernel
theorem dL_safety_8 : decode cL_safety 8 = .ok (.dastore, 1) := by decide +kernel
theorem dL_safety_9 : decode cL_safety 9 = .ok (.goto 9, 3) := by decide +kernel
theorem dL_safety_12 : decode cL_safety 12 = .ok (.astore_n 3, 1) := by decide +kernel
theorem dL_safety_13 : decode cL_safety 13 = .ok (.iconst 1, 1) := by decide +kernel
theorem dL_safety_14 : decode cL_safety 14 = .ok (.ireturn, 1) := by decide +kernel
theorem dL_safety_15 : decode cL_safety 15 = .ok (.astore_n 3, 1) := by decide +kernel
theorem dL_safety_16 : decode cL_safety 16 = .ok (.iconst 2, 1) := by decide +kernel
theorem dL_safety_17 : decode cL_safety 17 = .ok (.ireturn, 1) := by decide +kernel
theorem dL_safety_18 : decode cL_safety 18 = .ok (.iconst 0, 1) := by decide +kernel
theorem dL_safety_19 : decode cL_safety 19 = .ok (.ireturn, 1) := by decide +kernel
set_option maxRecDepth 20000 in
theorem ggL_safetyBits_X10_safetyBits : GoodIn wsL_safetyBits wsX10_safetyBits := goodIn_ca (goodIn_ca (goodIn_ca (goodIn_r _ [6, 7, 8, 9, 10, 11, 5, 12, 13, 14, 15, 16, 17, 18, 19, 20, 21, 22, 23, 24, 25, 26, 27, 28, 29, 30, 31, 32, 33, 34, 35, 36, 37, 38, 39, 40, 41, 42, 43, 44, 45, 46, 47, 48, 49, 50, 51, 52, 53, 54, 55, 56, 57, 58, 59, 60, 61, 62, 63, 64, 65, 66, 67, 68, 69, 70, 71, 72, 73, 74, 75, 76] (by decide +kernel) (by decide +kernel)) (goodIn_sub (fun _ h => List.mem_cons_of_mem _ (List.mem_append_left _ (List.mem_append_right _ h))) (by decide +kernel))) (goodIn_sub (fun _ h => List.mem_cons_of_mem _ (List.mem_append_right _ h)) (by decide +kernel))) (goodIn_sub (fun _ h => List.mem_cons_of_mem _ (List.mem_append_left _ (List.mem_append_left _ (List.mem_append_right _ h)))) (by decide +kernel))
set_option maxRecDepth 20000 in
theorem gL_safetyBits_X10_safetyBits : GoodIn wsL_safetyBits (wsV RL 90 RX10 yX10_safetyBits wsX10_safetyBits) := goodIn_app (goodIn_of _ (by decide +kernel)) ggL_safetyBits_X10_safetyBits
theorem dL_safetyBits_0 : decode cL_safetyBits 0 = .ok (.aload_n 2, 1) := by decide +kernel
theorem dL_safetyBits_1 : decode cL_safetyBits 1 = .ok (.iconst 0, 1) := by decide +kernel
theorem dL_safetyBits_2 : decode cL_safetyBits 2 = .ok (.aload_n 0, 1) := by decide +kernel
theorem dL_safetyBits_3 : decode cL_safetyBits 3 = .ok (.iload_n 1, 1) := by decide +kernel
theorem dL_safetyBits_4 : decode cL_safetyBits 4 = .ok (.invokevirtual 90, 3) := by decide +kernel
theorem dL_safetyBits_7 : decode cL_safetyBits 7 = .ok (.i2l, 1) := by decide +kernel
theorem dL_safetyBits_8 : decode cL_safetyBits 8 = .ok (.lastore, 1) := by decide +kernel
theorem dL_safetyBits_9 : decode cL_safetyBits 9 = .ok (.goto 9, 3) := by decide +kernel
theorem dL_safetyBits_12 : decode cL_safetyBits 12 = .ok (.astore_n 3, 1) := by decide +kernel
theorem dL_safetyBits_13 : decode cL_safetyBits 13 = .ok (.iconst 1, 1) := by decide +kernel
theorem dL_safetyBits_14 : decode cL_safetyBits 14 = .ok (.ireturn, 1) := by decide +kernel
theorem dL_safetyBits_15 : decode cL_safetyBits 15 = .ok (.astore_n 3, 1) := by decide +kernel
theorem dL_safetyBits_16 : decode cL_safetyBits 16 = .ok (.iconst 2, 1) := by decide +kernel
theorem dL_safetyBits_17 : decode cL_safetyBits 17 = .ok (.ireturn, 1) := by decide +kernel
theorem dL_safetyBits_18 : decode cL_safetyBits 18 = .ok (.iconst 0, 1) := by decide +kernel
theorem dL_safetyBits_19 : decode cL_safetyBits 19 = .ok (.ireturn, 1) := by decide +kernel
set_option maxRecDepth 20000 in
theorem ggL_balance_X10_balance : GoodIn wsL_balance wsX10_balance := goodIn_ca (goodIn_ca (goodIn_r _ [6, 7, 8, 9, 10, 11, 12, 5, 13, 14, 15, 16, 17, 18, 19, 20, 21, 22, 23, 24, 25, 26, 27, 28, 29, 30, 31, 32, 33, 34, 35, 36, 37, 38, 39, 40, 41, 42, 43] (by decide +kernel) (by decide +kernel)) (goodIn_sub (fun _ h => List.mem_cons_of_mem _ (List.mem_append_left _ (List.mem_append_right _ h))) (by decide +kernel))) (goodIn_sub (fun _ h => List.mem_cons_of_mem _ (List.mem_append_right _ h)) (by decide +kernel))
set_option maxRecDepth 20000 in
theorem gL_balance_X10_balance : GoodIn wsL_balance (wsV RL 93 RX10 yX10_balance wsX10_balance) := goodIn_app (goodIn_of _ (by decide +kernel)) ggL_balance_X10_balance
theorem dL_balance_0 : decode cL_balance 0 = .ok (.aload_n 2, 1) := by decide +kernel
theorem dL_balance_1 : decode cL_balance 1 = .ok (.iconst 0, 1) := by decide +kernel
theorem dL_balance_2 : decode cL_balance 2 = .ok (.aload_n 0, 1) := by decide +kernel
theorem dL_balance_3 : decode cL_balance 3 = .ok (.iload_n 1, 1) := by decide +kernel
theorem dL_balance_4 : decode cL_balance 4 = .ok (.invokevirtual 93, 3) := by decide +kernel
theorem dL_balance_7 : decode cL_balance 7 = .ok (.i2l, 1) := by decide +kernel
theorem dL_balance_8 : decode cL_balance 8 = .ok (.lastore, 1) := by decide +kernel
theorem dL_balance_9 : decode cL_balance 9 = .ok (.goto 6, 3) := by decide +kernel
theorem dL_balance_12 : decode cL_balance 12 = .ok (.astore_n 3, 1) := by decide +kernel
theorem dL_balance_13 : decode cL_balance 13 = .ok (.iconst 1, 1) := by decide +kernel
theorem dL_balance_14 : decode cL_balance 14 = .ok (.ireturn, 1) := by decide +kernel
theorem dL_balance_15 : decode cL_balance 15 = .ok (.iconst 0, 1) := by decide +kernel
theorem dL_balance_16 : decode cL_balance 16 = .ok (.ireturn, 1) := by decide +kernel
set_option maxRecDepth 20000 in
theorem ggL_balanceByJournal_X10_balanceByJournal : GoodIn wsL_balanceByJournal wsX10_balanceByJournal := goodIn_ca (goodIn_ca (goodIn_r _ [6, 7, 8, 9, 10, 11, 5, 12, 13, 14, 15, 16, 17, 18, 19, 20, 21, 22, 23, 24, 25, 26, 27, 28, 29, 30, 31, 32, 33, 34, 35, 36, 37, 38, 39, 40, 41, 42, 43, 44, 45, 46, 47, 48, 49, 50, 51, 52, 53, 54, 55, 56, 57, 58, 59, 60, 61, 62, 63] (by decide +kernel) (by decide +kernel)) (goodIn_sub (fun _ h => List.mem_cons_of_mem _ (List.mem_append_right _ h)) (by decide +kernel))) (goodIn_sub (fun _ h => List.mem_cons_of_mem _ (List.mem_append_left _ (List.mem_append_right _ h))) (by decide +kernel))
set_option maxRecDepth 20000 in
theorem gL_balanceByJournal_X10_balanceByJournal : GoodIn wsL_balanceByJournal (wsV RL 96 RX10 yX10_balanceByJournal wsX10_balanceByJournal) := goodIn_app (goodIn_of _ (by decide +kernel)) ggL_balanceByJournal_X10_balanceByJournal
theorem dL_balanceByJournal_0 : decode cL_balanceByJournal 0 = .ok (.aload_n 2, 1) := by decide +kernel
theorem dL_balanceByJournal_1 : decode cL_balanceByJournal 1 = .ok (.iconst 0, 1) := by decide +kernel
theorem dL_balanceByJournal_2 : decode cL_balanceByJournal 2 = .ok (.aload_n 0, 1) := by decide +kernel
theorem dL_balanceByJournal_3 : decode cL_balanceByJournal 3 = .ok (.iload_n 1, 1) := by decide +kernel
theorem dL_balanceByJournal_4 : decode cL_balanceByJournal 4 = .ok (.invokevirtual 96, 3) := by decide +kernel
theorem dL_balanceByJournal_7 : decode cL_balanceByJournal 7 = .ok (.i2l, 1) := by decide +kernel
theorem dL_balanceByJournal_8 : decode cL_balanceByJournal 8 = .ok (.lastore, 1) := by decide +kernel
theorem dL_balanceByJournal_9 : decode cL_balanceByJournal 9 = .ok (.goto 6, 3) := by decide +kernel
theorem dL_balanceByJournal_12 : decode cL_balanceByJournal 12 = .ok (.astore_n 3, 1) := by decide +kernel
theorem dL_balanceByJournal_13 : decode cL_balanceByJournal 13 = .ok (.iconst 1, 1) := by decide +kernel
theorem dL_balanceByJournal_14 : decode cL_balanceByJournal 14 = .ok (.ireturn, 1) := by decide +kernel
theorem dL_balanceByJournal_15 : decode cL_balanceByJournal 15 = .ok (.iconst 0, 1) := by decide +kernel
theorem dL_balanceByJournal_16 : decode cL_balanceByJournal 16 = .ok (.ireturn, 1) := by decide +kernel
set_option maxRecDepth 20000 in
theorem ggL_debits_X10_debits : GoodIn wsL_debits wsX10_debits := goodIn_ca (goodIn_ca (goodIn_r _ [6, 7, 8, 9, 10, 11, 5, 12, 13, 14, 15, 16, 17, 18, 19, 20, 21, 22, 23, 24, 25, 26, 27, 28, 29, 30, 31, 32, 33, 34, 35, 36, 37, 38, 39, 40, 41, 42, 43, 44, 45, 46, 47, 48, 49, 50, 51, 52, 53] (by decide +kernel) (by decide +kernel)) (goodIn_sub (fun _ h => List.mem_cons_of_mem _ (List.mem_append_right _ h)) (by decide +kernel))) (goodIn_sub (fun _ h => List.mem_cons_of_mem _ (List.mem_append_left _ (List.mem_append_right _ h))) (by decide +kernel))
set_option maxRecDepth 20000 in
theorem gL_debits_X10_debits : GoodIn wsL_debits (wsV RL 99 RX10 yX10_debits wsX10_debits) := goodIn_app (goodIn_of _ (by decide +kernel)) ggL_debits_X10_debits
theorem dL_debits_0 : decode cL_debits 0 = .ok (.aload_n 2, 1) := by decide +kernel
theorem dL_debits_1 : decode cL_debits 1 = .ok (.iconst 0, 1) := by decide +kernel
theorem dL_debits_2 : decode cL_debits 2 = .ok (.aload_n 0, 1) := by decide +kernel
theorem dL_debits_3 : decode cL_debits 3 = .ok (.iload_n 1, 1) := by decide +kernel
theorem dL_debits_4 : decode cL_debits 4 = .ok (.invokevirtual 99, 3) := by decide +kernel
theorem dL_debits_7 : decode cL_debits 7 = .ok (.i2l, 1) := by decide +kernel
theorem dL_debits_8 : decode cL_debits 8 = .ok (.lastore, 1) := by decide +kernel
theorem dL_debits_9 : decode cL_debits 9 = .ok (.goto 6, 3) := by decide +kernel
theorem dL_debits_12 : decode cL_debits 12 = .ok (.astore_n 3, 1) := by decide +kernel
theorem dL_debits_13 : decode cL_debits 13 = .ok (.iconst 1, 1) := by decide +kernel
theorem dL_debits_14 : decode cL_debits 14 = .ok (.ireturn, 1) := by decide +kernel
theorem dL_debits_15 : decode cL_debits 15 = .ok (.iconst 0, 1) := by decide +kernel
theorem dL_debits_16 : decode cL_debits 16 = .ok (.ireturn, 1) := by decide +kernel
set_option maxRecDepth 20000 in
theorem ggL_credits_X10_credits : GoodIn wsL_credits wsX10_credits := goodIn_ca (goodIn_ca (goodIn_r _ [6, 7, 8, 9, 10, 11, 5, 12, 13, 14, 15, 16, 17, 18, 19, 20, 21, 22, 23, 24, 25, 26, 27, 28, 29, 30, 31, 32, 33, 34, 35, 36, 37, 38, 39, 40, 41, 42, 43, 44, 45, 46, 47, 48, 49, 50, 51, 52, 53] (by decide +kernel) (by decide +kernel)) (goodIn_sub (fun _ h => List.mem_cons_of_mem _ (List.mem_append_right _ h)) (by decide +kernel))) (goodIn_sub (fun _ h => List.mem_cons_of_mem _ (List.mem_append_left _ (List.mem_append_right _ h))) (by decide +kernel))
set_option maxRecDepth 20000 in
theorem gL_credits_X10_credits : GoodIn wsL_credits (wsV RL 102 RX10 yX10_credits wsX10_credits) := goodIn_app (goodIn_of _ (by decide +kernel)) ggL_credits_X10_credits
theorem dL_credits_0 : decode cL_credits 0 = .ok (.aload_n 2, 1) := by decide +kernel
theorem dL_credits_1 : decode cL_credits 1 = .ok (.iconst 0, 1) := by decide +kernel
theorem dL_credits_2 : decode cL_credits 2 = .ok (.aload_n 0, 1) := by decide +kernel
theorem dL_credits_3 : decode cL_credits 3 = .ok (.iload_n 1, 1) := by decide +kernel
theorem dL_credits_4 : decode cL_credits 4 = .ok (.invokevirtual 102, 3) := by decide +kernel
theorem dL_credits_7 : decode cL_credits 7 = .ok (.i2l, 1) := by decide +kernel
theorem dL_credits_8 : decode cL_credits 8 = .ok (.lastore, 1) := by decide +kernel
theorem dL_credits_9 : decode cL_credits 9 = .ok (.goto 6, 3) := by decide +kernel
theorem dL_credits_12 : decode cL_credits 12 = .ok (.astore_n 3, 1) := by decide +kernel
theorem dL_credits_13 : decode cL_credits 13 = .ok (.iconst 1, 1) := by decide +kernel
