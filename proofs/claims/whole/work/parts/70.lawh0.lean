set_option maxRecDepth 20000 in
theorem ggL_addAcrobat_X10_addAcrobat : GoodIn wsL_addAcrobat wsX10_addAcrobat := goodIn_ca (goodIn_ca (goodIn_ca (goodIn_ca (goodIn_ca (goodIn_r _ [6, 7, 8, 9, 10, 11, 12, 13, 14, 15, 16, 17, 18, 19, 20, 21, 22, 23, 5, 24, 25, 26, 27, 28, 29, 30, 31, 32, 33, 34, 35, 36, 37, 38, 39, 40, 41, 42, 43, 44, 45, 46, 47, 48, 49, 50, 51, 52, 53, 54, 55, 56, 57, 58, 59, 60, 61, 62, 63, 64, 65, 66, 67, 68, 69, 70, 71, 72, 73, 74, 75, 76, 77, 78, 79, 80, 81, 82, 83, 84, 85, 86, 87, 88, 89, 90, 91, 92, 93, 94, 95, 96, 97, 98, 99, 100, 101, 102, 103, 104, 105, 106, 107, 108, 109, 110, 111, 112, 113, 114, 115, 116, 117, 118, 119, 120, 121, 122, 123, 124, 125, 126, 127, 128, 129, 130, 131, 132, 133, 134, 135, 136] (by decide +kernel) (by decide +kernel)) (goodIn_sub (fun _ h => List.mem_cons_of_mem _ (List.mem_append_left _ (List.mem_append_left _ (List.mem_append_left _ (List.mem_append_right _ h))))) (by decide +kernel))) (goodIn_sub (fun _ h => List.mem_cons_of_mem _ (List.mem_append_left _ (List.mem_append_left _ (List.mem_append_right _ h)))) (by decide +kernel))) (goodIn_sub (fun _ h => List.mem_cons_of_mem _ (List.mem_append_left _ (List.mem_append_right _ h))) (by decide +kernel))) (goodIn_sub (fun _ h => List.mem_cons_of_mem _ (List.mem_append_right _ h)) (by decide +kernel))) (goodIn_sub (fun _ h => List.mem_cons_of_mem _ (List.mem_append_left _ (List.mem_append_left _ (List.mem_append_left _ (List.mem_append_left _ (List.mem_append_right _ h)))))) (by decide +kernel))
set_option maxRecDepth 20000 in
theorem gL_addAcrobat_X10_addAcrobat : GoodIn wsL_addAcrobat (wsV RL 7 RX10 yX10_addAcrobat wsX10_addAcrobat) := goodIn_app (goodIn_of _ (by decide +kernel)) ggL_addAcrobat_X10_addAcrobat
theorem dL_addAcrobat_0 : decode cL_addAcrobat 0 = .ok (.aload 5, 2) := by decide +kernel
theorem dL_addAcrobat_2 : decode cL_addAcrobat 2 = .ok (.iconst 0, 1) := by decide +kernel
theorem dL_addAcrobat_3 : decode cL_addAcrobat 3 = .ok (.aload_n 0, 1) := by decide +kernel
theorem dL_addAcrobat_4 : decode cL_addAcrobat 4 = .ok (.iload_n 1, 1) := by decide +kernel
theorem dL_addAcrobat_5 : decode cL_addAcrobat 5 = .ok (.iload_n 2, 1) := by decide +kernel
theorem dL_addAcrobat_6 : decode cL_addAcrobat 6 = .ok (.iload_n 3, 1) := by decide +kernel
theorem dL_addAcrobat_7 : decode cL_addAcrobat 7 = .ok (.iload 4, 2) := by decide +kernel
theorem dL_addAcrobat_9 : decode cL_addAcrobat 9 = .ok (.invokevirtual 7, 3) := by decide +kernel
theorem dL_addAcrobat_12 : decode cL_addAcrobat 12 = .ok (.i2l, 1) := by decide +kernel
theorem dL_addAcrobat_13 : decode cL_addAcrobat 13 = .ok (.lastore, 1) := by decide +kernel
theorem dL_addAcrobat_14 : decode cL_addAcrobat 14 = .ok (.goto 11, 3) := by decide +kernel
theorem dL_addAcrobat_17 : decode cL_addAcrobat 17 = .ok (.astore 6, 2) := by decide +kernel
theorem dL_addAcrobat_19 : decode cL_addAcrobat 19 = .ok (.iconst 1, 1) := by decide +kernel
theorem dL_addAcrobat_20 : decode cL_addAcrobat 20 = .ok (.ireturn, 1) := by decide +kernel
theorem dL_addAcrobat_21 : decode cL_addAcrobat 21 = .ok (.astore 6, 2) := by decide +kernel
theorem dL_addAcrobat_23 : decode cL_addAcrobat 23 = .ok (.iconst 2, 1) := by decide +kernel
theorem dL_addAcrobat_24 : decode cL_addAcrobat 24 = .ok (.ireturn, 1) := by decide +kernel
theorem dL_addAcrobat_25 : decode cL_addAcrobat 25 = .ok (.iconst 0, 1) := by decide +kernel
theorem dL_addAcrobat_26 : decode cL_addAcrobat 26 = .ok (.ireturn, 1) := by decide +kernel
set_option maxRecDepth 20000 in
theorem ggL_post_X10_post : GoodIn wsL_post wsX10_post := goodIn_ca (goodIn_ca (goodIn_ca (goodIn_ca (goodIn_ca (goodIn_r _ [6, 7, 8, 9, 10, 11, 12, 13, 14, 15, 16, 17, 18, 19, 20, 21, 22, 23, 24, 25, 26, 27, 28, 29, 30, 31, 32, 33, 34, 35, 36, 37, 38, 39, 40, 41, 5, 42, 43, 44, 45, 46, 47, 48, 49, 50, 51, 52, 53, 54, 55, 56, 57, 58, 59, 60, 61, 62, 63, 64, 65, 66, 67, 68, 69, 70, 71, 72, 73, 74, 75, 76, 77, 78, 79, 80, 81, 82, 83, 84, 85, 86, 87, 88, 89, 90, 91, 92, 93, 94, 95, 96, 97, 98, 99, 100, 101, 102, 103, 104, 105, 106, 107, 108, 109, 110, 111, 112, 113, 114, 115, 116, 117, 118, 119, 120, 121, 122, 123, 124, 125, 126, 127, 128, 129, 130, 131, 132, 133, 134, 135, 136, 137, 138, 139, 140, 141, 142] (by decide +kernel) (by decide +kernel)) (goodIn_sub (fun _ h => List.mem_cons_of_mem _ (List.mem_append_left _ (List.mem_append_left _ (List.mem_append_left _ (List.mem_append_left _ (List.mem_append_right _ h)))))) (by decide +kernel))) (goodIn_sub (fun _ h => List.mem_cons_of_mem _ (List.mem_append_left _ (List.mem_append_left _ (List.mem_append_left _ (List.mem_append_right _ h))))) (by decide +kernel))) (goodIn_sub (fun _ h => List.mem_cons_of_mem _ (List.mem_append_left _ (List.mem_append_left _ (List.mem_append_right _ h)))) (by decide +kernel))) (goodIn_sub (fun _ h => List.mem_cons_of_mem _ (List.mem_append_left _ (List.mem_append_right _ h))) (by decide +kernel))) (goodIn_sub (fun _ h => List.mem_cons_of_mem _ (List.mem_append_right _ h)) (by decide +kernel))
set_option maxRecDepth 20000 in
theorem gL_post_X10_post : GoodIn wsL_post (wsV RL 17 RX10 yX10_post wsX10_post) := goodIn_app (goodIn_of _ (by decide +kernel)) ggL_post_X10_post
theorem dL_post_0 : decode cL_post 0 = .ok (.aload 4, 2) := by decide +kernel
theorem dL_post_2 : decode cL_post 2 = .ok (.iconst 0, 1) := by decide +kernel
theorem dL_post_3 : decode cL_post 3 = .ok (.aload_n 0, 1) := by decide +kernel
theorem dL_post_4 : decode cL_post 4 = .ok (.iload_n 1, 1) := by decide +kernel
theorem dL_post_5 : decode cL_post 5 = .ok (.iload_n 2, 1) := by decide +kernel
theorem dL_post_6 : decode cL_post 6 = .ok (.iload_n 3, 1) := by decide +kernel
theorem dL_post_7 : decode cL_post 7 = .ok (.invokevirtual 17, 3) := by decide +kernel
theorem dL_post_10 : decode cL_post 10 = .ok (.i2l, 1) := by decide +kernel
theorem dL_post_11 : decode cL_post 11 = .ok (.lastore, 1) := by decide +kernel
theorem dL_post_12 : decode cL_post 12 = .ok (.goto 19, 3) := by decide +kernel
theorem dL_post_15 : decode cL_post 15 = .ok (.astore 5, 2) := by decide +kernel
theorem dL_post_17 : decode cL_post 17 = .ok (.iconst 1, 1) := by decide +kernel
theorem dL_post_18 : decode cL_post 18 = .ok (.ireturn, 1) := by decide +kernel
theorem dL_post_19 : decode cL_post 19 = .ok (.astore 5, 2) := by decide +kernel
theorem dL_post_21 : decode cL_post 21 = .ok (.iconst 2, 1) := by decide +kernel
theorem dL_post_22 : decode cL_post 22 = .ok (.ireturn, 1) := by decide +kernel
theorem dL_post_23 : decode cL_post 23 = .ok (.astore 5, 2) := by decide +kernel
theorem dL_post_25 : decode cL_post 25 = .ok (.iconst 3, 1) := by decide +kernel
theorem dL_post_26 : decode cL_post 26 = .ok (.ireturn, 1) := by decide +kernel
theorem dL_post_27 : decode cL_post 27 = .ok (.astore 5, 2) := by decide +kernel
theorem dL_post_29 : decode cL_post 29 = .ok (.iconst 4, 1) := by decide +kernel
theorem dL_post_30 : decode cL_post 30 = .ok (.ireturn, 1) := by decide +kernel
theorem dL_post_31 : decode cL_post 31 = .ok (.iconst 0, 1) := by decide +kernel
theorem dL_post_32 : decode cL_post 32 = .ok (.ireturn, 1) := by decide +kernel
set_option maxRecDepth 20000 in
theorem ggL_payOut_X10_payOut : GoodIn wsL_payOut wsX10_payOut := goodIn_ca (goodIn_ca (goodIn_ca (goodIn_ca (goodIn_ca (goodIn_r _ [6, 7, 8, 9, 10, 11, 12, 13, 14, 15, 16, 17, 18, 19, 20, 21, 22, 23, 24, 25, 26, 27, 28, 29, 30, 31, 32, 33, 34, 35, 36, 37, 38, 39, 40, 41, 42, 43, 44, 45, 46, 47, 48, 49, 50, 51, 5, 52, 53, 54, 55, 56, 57, 58, 59, 60, 61, 62, 63, 64, 65, 66, 67, 68, 69, 70, 71, 72, 73, 74, 75, 76, 77, 78, 79, 80, 81, 82, 83, 84, 85, 86, 87, 88, 89, 90, 91, 92, 93, 94, 95, 96, 97, 98, 99, 100, 101, 102, 103, 104, 105, 106, 107, 108, 109, 110, 111, 112, 113, 114, 115, 116, 117, 118, 119, 120, 121, 122, 123, 124, 125, 126, 127, 128, 129, 130, 131, 132, 133, 134, 135, 136, 137, 138, 139, 140, 141, 142, 143, 144, 145, 146, 147, 148, 149, 150, 151, 152, 153, 154] (by decide +kernel) (by decide +kernel)) (goodIn_sub (fun _ h => List.mem_cons_of_mem _ (List.mem_append_left _ (List.mem_append_left _ (List.mem_append_left _ (List.mem_append_left _ (List.mem_append_right _ h)))))) (by decide +kernel))) (goodIn_sub (fun _ h => List.mem_cons_of_mem _ (List.mem_append_left _ (List.mem_append_left _ (List.mem_append_left _ (List.mem_append_right _ h))))) (by decide +kernel))) (goodIn_sub (fun _ h => List.mem_cons_of_mem _ (List.mem_append_left _ (List.mem_append_left _ (List.mem_append_right _ h)))) (by decide +kernel))) (goodIn_sub (fun _ h => List.mem_cons_of_mem _ (List.mem_append_left _ (List.mem_append_right _ h))) (by decide +kernel))) (goodIn_sub (fun _ h => List.mem_cons_of_mem _ (List.mem_append_right _ h)) (by decide +kernel))
set_option maxRecDepth 20000 in
theorem gL_payOut_X10_payOut : GoodIn wsL_payOut (wsV RL 25 RX10 yX10_payOut wsX10_payOut) := goodIn_app (goodIn_of _ (by decide +kernel)) ggL_payOut_X10_payOut
theorem dL_payOut_0 : decode cL_payOut 0 = .ok (.aload_n 3, 1) := by decide +kernel
theorem dL_payOut_1 : decode cL_payOut 1 = .ok (.iconst 0, 1) := by decide +kernel
theorem dL_payOut_2 : decode cL_payOut 2 = .ok (.aload_n 0, 1) := by decide +kernel
theorem dL_payOut_3 : decode cL_payOut 3 = .ok (.iload_n 1, 1) := by decide +kernel
theorem dL_payOut_4 : decode cL_payOut 4 = .ok (.iload_n 2, 1) := by decide +kernel
theorem dL_payOut_5 : decode cL_payOut 5 = .ok (.invokevirtual 25, 3) := by decide +kernel
theorem dL_payOut_8 : decode cL_payOut 8 = .ok (.i2l, 1) := by decide +kernel
theorem dL_payOut_9 : decode cL_payOut 9 = .ok (.lastore, 1) := by decide +kernel
theorem dL_payOut_10 : decode cL_payOut 10 = .ok (.goto 19, 3) := by decide +kernel
theorem dL_payOut_13 : decode cL_payOut 13 = .ok (.astore 4, 2) := by decide +kernel
theorem dL_payOut_15 : decode cL_payOut 15 = .ok (.iconst 1, 1) := by decide +kernel
theorem dL_payOut_16 : decode cL_payOut 16 = .ok (.ireturn, 1) := by decide +kernel
theorem dL_payOut_17 : decode cL_payOut 17 = .ok (.astore 4, 2) := by decide +kernel
theorem dL_payOut_19 : decode cL_payOut 19 = .ok (.iconst 2, 1) := by decide +kernel
theorem dL_payOut_20 : decode cL_payOut 20 = .ok (.ireturn, 1) := by decide +kernel
theorem dL_payOut_21 : decode cL_payOut 21 = .ok (.astore 4, 2) := by decide +kernel
theorem dL_payOut_23 : decode cL_payOut 23 = .ok (.iconst 3, 1) := by decide +kernel
theorem dL_payOut_24 : decode cL_payOut 24 = .ok (.ireturn, 1) := by decide +kernel
theorem dL_payOut_25 : decode cL_payOut 25 = .ok (.astore 4, 2) := by decide +kernel
theorem dL_payOut_27 : decode cL_payOut 27 = .ok (.iconst 4, 1) := by decide +kernel
theorem dL_payOut_28 : decode cL_payOut 28 = .ok (.ireturn, 1) := by decide +kernel
theorem dL_payOut_29 : decode cL_payOut 29 = .ok (.iconst 0, 1) := by decide +kernel
theorem dL_payOut_30 : decode cL_payOut 30 = .ok (.ireturn, 1) := by decide +kernel
set_option maxRecDepth 20000 in
theorem ggL_show_X10_show : GoodIn wsL_show wsX10_show := goodIn_ca (goodIn_ca (goodIn_ca (goodIn_ca (goodIn_ca (goodIn_r _ [6, 7, 8, 9, 10, 11, 12, 13, 14, 15, 16, 17, 18, 19, 20, 21, 22, 23, 24, 25, 26, 27, 28, 29, 30, 31, 32, 33, 34, 35, 36, 37, 38, 39, 40, 41, 42, 43, 44, 45, 46, 47, 48, 49, 50, 51, 52, 53, 54, 55, 56, 57, 58, 59, 60, 61, 62, 63, 64, 65, 66, 67, 68, 69, 70, 71, 72, 73, 74, 75, 76, 77, 78, 79, 80, 81, 82, 83, 84, 85, 86, 87, 88, 89, 90, 91, 92, 93, 5, 94, 95, 96, 97, 98, 99, 100, 101, 102, 103, 104, 105, 106, 107, 108, 109, 110, 111, 112, 113, 114, 115, 116, 117, 118, 119, 120, 121, 122, 123, 124, 125, 126, 127, 128, 129, 130, 131, 132, 133, 134, 135, 136, 137, 138, 139, 140, 141, 142, 143, 144, 145, 146, 147, 148, 149, 150, 151, 152, 153, 154, 155, 156, 157, 158, 159, 160, 161, 162, 163, 164, 165, 166, 167, 168, 169, 170, 171, 172, 173, 174, 175, 176, 177, 178, 179, 180, 181, 182, 183, 184, 185, 186, 187, 188, 189, 190, 191, 192, 193, 194, 195, 196, 197, 198, 199, 200, 201, 202, 203, 204, 205, 206, 207, 208, 209, 210, 211, 212, 213, 214, 215, 216, 217, 218, 219, 220, 221, 222, 223] (by decide +kernel) (by decide +kernel)) (goodIn_sub (fun _ h => List.mem_cons_of_mem _ (List.mem_append_left _ (List.mem_append_left _ (List.mem_append_left _ (List.mem_append_left _ (List.mem_append_right _ h)))))) (by decide +kernel))) (goodIn_sub (fun _ h => List.mem_cons_of_mem _ (List.mem_append_left _ (List.mem_append_left _ (List.mem_append_left _ (List.mem_append_right _ h))))) (by decide +kernel))) (goodIn_sub (fun _ h => List.mem_cons_of_mem _ (List.mem_append_left _ (List.mem_append_left _ (List.mem_append_right _ h)))) (by decide +kernel))) (goodIn_sub (fun _ h => List.mem_cons_of_mem _ (List.mem_append_left _ (List.mem_append_right _ h))) (by decide +kernel))) (goodIn_sub (fun _ h => List.mem_cons_of_mem _ (List.mem_append_right _ h)) (by decide +kernel))
set_option maxRecDepth 20000 in
theorem gL_show_X10_show : GoodIn wsL_show (wsV RL 29 RX10 yX10_show wsX10_show) := goodIn_app (goodIn_of _ (by decide +kernel)) ggL_show_X10_show
theorem dL_show_0 : decode cL_show 0 = .ok (.aload_n 2, 1) := by decide +kernel
theorem dL_show_1 : decode cL_show 1 = .ok (.iconst 0, 1) := by decide +kernel
theorem dL_show_2 : decode cL_show 2 = .ok (.aload_n 0, 1) := by decide +kernel
theorem dL_show_3 : decode cL_show 3 = .ok (.iload_n 1, 1) := by decide +kernel
theorem dL_show_4 : decode cL_show 4 = .ok (.invokevirtual 29, 3) := by decide +kernel
theorem dL_show_7 : decode cL_show 7 = .ok (.i2l, 1) := by decide +kernel
theorem dL_show_8 : decode cL_show 8 = .ok (.lastore, 1) := by decide +kernel
theorem dL_show_9 : decode cL_show 9 = .ok (.goto 12, 3) := by decide +kernel
theorem dL_show_12 : decode cL_show 12 = .ok (.astore_n 3, 1) := by decide +kernel
theorem dL_show_13 : decode cL_show 13 = .ok (.iconst 1, 1) := by decide +kernel
theorem dL_show_14 : decode cL_show 14 = .ok (.ireturn, 1) := by decide +kernel
theorem dL_show_15 : decode cL_show 15 = .ok (.astore_n 3, 1) := by decide +kernel
theorem dL_show_16 : decode cL_show 16 = .ok (.iconst 2, 1) := by decide +kernel
theorem dL_show_17 : decode cL_show 17 = .ok (.ireturn, 1) := by decide +kernel
theorem dL_show_18 : decode cL_show 18 = .ok (.astore_n 3, 1) := by decide +kernel
theorem dL_show_19 : decode cL_show 19 = .ok (.iconst 3, 1) := by decide +kernel
theorem dL_show_20 : decode cL_show 20 = .ok (.ireturn, 1) := by decide +kernel
theorem dL_show_21 : decode cL_show 21 = .ok (.iconst 0, 1) := by decide +kernel
theorem dL_show_22 : decode cL_show 22 = .ok (.ireturn, 1) := by decide +kernel
set_option maxRecDepth 20000 in
theorem ggL_setNet_X10_setNet : GoodIn wsL_setNet wsX10_setNet := goodIn_ca (goodIn_ca (goodIn_ca (goodIn_ca (goodIn_r _ [6, 7, 8, 9, 10, 11, 12, 13, 14, 15, 16, 17, 18, 19, 20, 5, 21, 22, 23, 24, 25, 26, 27, 28, 29, 30, 31, 32, 33, 34, 35, 36, 37, 38, 39, 40, 41, 42, 43, 44, 45, 46, 47, 48, 49, 50, 51, 52, 53, 54, 55, 56, 57, 58, 59, 60, 61, 62, 63, 64, 65, 66, 67, 68, 69, 70, 71, 72, 73, 74, 75, 76, 77, 78, 79, 80, 81, 82, 83, 84, 85, 86, 87, 88, 89, 90, 91, 92, 93, 94, 95, 96, 97, 98, 99, 100, 101, 102, 103, 104, 105, 106, 107, 108, 109, 110, 111, 112, 113, 114, 115, 116, 117, 118, 119, 120, 121, 122, 123, 124, 125, 126] (by decide +kernel) (by decide +kernel)) (goodIn_sub (fun _ h => List.mem_cons_of_mem _ (List.mem_append_left _ (List.mem_append_left _ (List.mem_append_left _ (List.mem_append_right _ h))))) (by decide +kernel))) (goodIn_sub (fun _ h => List.mem_cons_of_mem _ (List.mem_append_left _ (List.mem_append_left _ (List.mem_append_right _ h)))) (by decide +kernel))) (goodIn_sub (fun _ h => List.mem_cons_of_mem _ (List.mem_append_left _ (List.mem_append_right _ h))) (by decide +kernel))) (goodIn_sub (fun _ h => List.mem_cons_of_mem _ (List.mem_append_right _ h)) (by decide +kernel))
set_option maxRecDepth 20000 in
theorem gL_setNet_X10_setNet : GoodIn wsL_setNet (wsV RL 33 RX10 yX10_setNet wsX10_setNet) := goodIn_app (goodIn_of _ (by decide +kernel)) ggL_setNet_X10_setNet
theorem dL_setNet_0 : decode cL_setNet 0 = .ok (.aload_n 2, 1) := by decide +kernel
theorem dL_setNet_1 : decode cL_setNet 1 = .ok (.iconst 0, 1) := by decide +kernel
theorem dL_setNet_2 : decode cL_setNet 2 = .ok (.aload_n 0, 1) := by decide +kernel
theorem dL_setNet_3 : decode cL_setNet 3 = .ok (.iload_n 1, 1) := by decide +kernel
theorem dL_setNet_4 : decode cL_setNet 4 = .ok (.invokevirtual 33, 3) := by decide +kernel
theorem dL_setNet_7 : decode cL_setNet 7 = .ok (.i2l, 1) := by decide +kernel
theorem dL_setNet_8 : decode cL_setNet 8 = .ok (.lastore, 1) := by decide +kernel
theorem dL_setNet_9 : decode cL_setNet 9 = .ok (.goto 6, 3) := by decide +kernel
theorem dL_setNet_12 : decode cL_setNet 12 = .ok (.astore_n 3, 1) := by decide +kernel
theorem dL_setNet_13 : decode cL_setNet 13 = .ok (.iconst 1, 1) := by decide +kernel
theorem dL_setNet_14 : decode cL_setNet 14 = .ok (.ireturn, 1) := by decide +kernel
theorem dL_setNet_15 : decode cL_setNet 15 = .ok (.iconst 0, 1) := by decide +kernel
theorem dL_setNet_16 : decode cL_setNet 16 = .ok (.ireturn, 1) := by decide +kernel
set_option maxRecDepth 20000 in
theorem ggL_passNights_X10_passNights : GoodIn wsL_passNights wsX10_passNights := goodIn_ca (goodIn_ca (goodIn_ca (goodIn_ca (goodIn_ca (goodIn_r _ [6, 7, 8, 9, 10, 11, 12, 13, 14, 15, 16, 17, 18, 19, 20, 5, 21, 22, 23, 24, 25, 26, 27, 28, 29, 30, 31, 32, 33, 34, 35, 36, 37, 38, 39, 40, 41, 42, 43, 44, 45, 46, 47, 48, 49, 50, 51, 52, 53, 54, 55, 56, 57, 58, 59, 60, 61, 62, 63, 64, 65, 66, 67, 68, 69, 70, 71, 72, 73, 74, 75, 76, 77, 78, 79, 80, 81, 82, 83, 84, 85, 86, 87, 88, 89, 90, 91, 92, 93, 94, 95, 96, 97, 98, 99, 100, 101, 102, 103, 104, 105, 106, 107, 108, 109, 110, 111, 112, 113, 114, 115, 116, 117, 118, 119, 120, 121, 122, 123, 124, 125, 126, 127, 128, 129, 130, 131, 132, 133] (by decide +kernel) (by decide +kernel)) (goodIn_sub (fun _ h => List.mem_cons_of_mem _ (List.mem_append_left _ (List.mem_append_left _ (List.mem_append_left _ (List.mem_append_right _ h))))) (by decide +kernel))) (goodIn_sub (fun _ h => List.mem_cons_of_mem _ (List.mem_append_left _ (List.mem_append_left _ (List.mem_append_right _ h)))) (by decide +kernel))) (goodIn_sub (fun _ h => List.mem_cons_of_mem _ (List.mem_append_left _ (List.mem_append_right _ h))) (by decide +kernel))) (goodIn_sub (fun _ h => List.mem_cons_of_mem _ (List.mem_append_right _ h)) (by decide +kernel))) (goodIn_sub (fun _ h => List.mem_cons_of_mem _ (List.mem_append_left _ (List.mem_append_left _ (List.mem_append_left _ (List.mem_append_left _ (List.mem_append_right _ h)))))) (by decide +kernel))
set_option maxRecDepth 20000 in
theorem gL_passNights_X10_passNights : GoodIn wsL_passNights (wsV RL 36 RX10 yX10_passNights wsX10_passNights) := goodIn_app (goodIn_of _ (by decide +kernel)) ggL_passNights_X10_passNights
theorem dL_passNights_0 : decode cL_passNights 0 = .ok (.aload_n 2, 1) := by decide +kernel
theorem dL_passNights_1 : decode cL_passNights 1 = .ok (.iconst 0, 1) := by decide +kernel
theorem dL_passNights_2 : decode cL_passNights 2 = .ok (.aload_n 0, 1) := by decide +kernel
theorem dL_passNights_3 : decode cL_passNights 3 = .ok (.iload_n 1, 1) := by decide +kernel
theorem dL_passNights_4 : decode cL_passNights 4 = .ok (.invokevirtual 36, 3) := by decide +kernel
theorem dL_passNights_7 : decode cL_passNights 7 = .ok (.i2l, 1) := by decide +kernel
theorem dL_passNights_8 : decode cL_passNights 8 = .ok (.lastore, 1) := by decide +kernel
theorem dL_passNights_9 : decode cL_passNights 9 = .ok (.goto 6, 3) := by decide +kernel
theorem dL_passNights_12 : decode cL_passNights 12 = .ok (.astore_n 3, 1) := by decide +kernel
theorem dL_passNights_13 : decode cL_passNights 13 = .ok (.iconst 1, 1) := by decide +kernel
theorem dL_passNights_14 : decode cL_passNights 14 = .ok (.ireturn, 1) := by decide +kernel
theorem dL_passNights_15 : decode cL_passNights 15 = .ok (.iconst 0, 1) := by decide +kernel
theorem dL_passNights_16 : decode cL_passNights 16 = .ok (.ireturn, 1) := by decide +kernel
set_option maxRecDepth 20000 in
theorem ggL_cancel_X10_cancel : GoodIn wsL_cancel wsX10_cancel := goodIn_ca (goodIn_ca (goodIn_ca (goodIn_ca (goodIn_ca (goodIn_r _ [6, 7, 8, 9, 10, 11, 12, 13, 14, 15, 16, 17, 18, 19, 20, 21, 22, 23, 24, 25, 26, 27, 28, 29, 30, 31, 32, 33, 34, 35, 36, 37, 38, 39, 40, 41, 42, 43, 5, 44, 45, 46, 47, 48, 49, 50, 51, 52, 53, 54, 55, 56, 57, 58, 59, 60, 61, 62, 63, 64, 65, 66, 67, 68, 69, 70, 71, 72, 73, 74, 75, 76, 77, 78, 79, 80, 81, 82, 83, 84, 85, 86, 87, 88, 89, 90, 91, 92, 93, 94, 95, 96, 97, 98, 99, 100, 101, 102, 103, 104, 105, 106, 107, 108, 109, 110, 111, 112, 113, 114, 115, 116, 117, 118, 119, 120, 121, 122, 123, 124, 125, 126, 127, 128, 129, 130, 131, 132, 133, 134, 135, 136, 137, 138, 139, 140, 141, 142, 143, 144, 145] (by decide +kernel) (by decide +kernel)) (goodIn_sub (fun _ h => List.mem_cons_of_mem _ (List.mem_append_left _ (List.mem_append_left _ (List.mem_append_left _ (List.mem_append_left _ (List.mem_append_right _ h)))))) (by decide +kernel))) (goodIn_sub (fun _ h => List.mem_cons_of_mem _ (List.mem_append_left _ (List.mem_append_left _ (List.mem_append_left _ (List.mem_append_right _ h))))) (by decide +kernel))) (goodIn_sub (fun _ h => List.mem_cons_of_mem _ (List.mem_append_left _ (List.mem_append_left _ (List.mem_append_right _ h)))) (by decide +kernel))) (goodIn_sub (fun _ h => List.mem_cons_of_mem _ (List.mem_append_left _ (List.mem_append_right _ h))) (by decide +kernel))) (goodIn_sub (fun _ h => List.mem_cons_of_mem _ (List.mem_append_right _ h)) (by decide +kernel))
set_option maxRecDepth 20000 in
theorem gL_cancel_X10_cancel : GoodIn wsL_cancel (wsV RL 39 RX10 yX10_cancel wsX10_cancel) := goodIn_app (goodIn_of _ (by decide +kernel)) ggL_cancel_X10_cancel
theorem dL_cancel_0 : decode cL_cancel 0 = .ok (.aload_n 3, 1) := by decide +kernel
theorem dL_cancel_1 : decode cL_cancel 1 = .ok (.iconst 0, 1) := by decide +kernel
theorem dL_cancel_2 : decode cL_cancel 2 = .ok (.aload_n 0, 1) := by decide +kernel
theorem dL_cancel_3 : decode cL_cancel 3 = .ok (.iload_n 1, 1) := by decide +kernel
theorem dL_cancel_4 : decode cL_cancel 4 = .ok (.iload_n 2, 1) := by decide +kernel
theorem dL_cancel_5 : decode cL_cancel 5 = .ok (.invokevirtual 39, 3) := by decide +kernel
theorem dL_cancel_8 : decode cL_cancel 8 = .ok (.i2l, 1) := by decide +kernel
theorem dL_cancel_9 : decode cL_cancel 9 = .ok (.lastore, 1) := by decide +kernel
theorem dL_cancel_10 : decode cL_cancel 10 = .ok (.goto 11, 3) := by decide +kernel
theorem dL_cancel_13 : decode cL_cancel 13 = .ok (.astore 4, 2) := by decide +kernel
theorem dL_cancel_15 : decode cL_cancel 15 = .ok (.iconst 1, 1) := by decide +kernel
theorem dL_cancel_16 : decode cL_cancel 16 = .ok (.ireturn, 1) := by decide +kernel
theorem dL_cancel_17 : decode cL_cancel 17 = .ok (.astore 4, 2) := by decide +kernel
theorem dL_cancel_19 : decode cL_cancel 19 = .ok (.iconst 2, 1) := by decide +kernel
theorem dL_cancel_20 : decode cL_cancel 20 = .ok (.ireturn, 1) := by decide +kernel
theorem dL_cancel_21 : decode cL_cancel 21 = .ok (.iconst 0, 1) := by decide +kernel
theorem dL_cancel_22 : decode cL_cancel 22 = .ok (.ireturn, 1) := by decide +kernel
set_option maxRecDepth 20000 in
theorem ggL_weight_X10_weight : GoodIn wsL_weight wsX10_weight := goodIn_ca (goodIn_ca (goodIn_r _ [6, 7, 8, 9, 10, 11, 12, 5, 13, 14, 15, 16, 17, 18, 19, 20, 21, 22, 23, 24, 25, 26, 27, 28, 29, 30, 31, 32, 33, 34, 35, 36, 37, 38, 39, 40, 41, 42] (by decide +kernel) (by decide +kernel)) (goodIn_sub (fun _ h => List.mem_cons_of_mem _ (List.mem_append_left _ (List.mem_append_right _ h))) (by decide +kernel))) (goodIn_sub (fun _ h => List.mem_cons_of_mem _ (List.mem_append_right _ h)) (by decide +kernel))
set_option maxRecDepth 20000 in
theorem gL_weight_X10_weight : GoodIn wsL_weight (wsV RL 42 RX10 yX10_weight wsX10_weight) := goodIn_app (goodIn_of _ (by decide +kernel)) ggL_weight_X10_weight
theorem dL_weight_0 : decode cL_weight 0 = .ok (.aload_n 2, 1) := by decide +kernel
theorem dL_weight_1 : decode cL_weight 1 = .ok (.iconst 0, 1) := by decide +kernel
theorem dL_weight_2 : decode cL_weight 2 = .ok (.aload_n 0, 1) := by decide +kernel
theorem dL_weight_3 : decode cL_weight 3 = .ok (.iload_n 1, 1) := by decide +kernel
theorem dL_weight_4 : decode cL_weight 4 = .ok (.invokevirtual 42, 3) := by decide +kernel
theorem dL_weight_7 : decode cL_weight 7 = .ok (.i2l, 1) := by decide +kernel
theorem dL_weight_8 : decode cL_weight 8 = .ok (.lastore, 1) := by decide +kernel
theorem dL_weight_9 : decode cL_weight 9 = .ok (.goto 6, 3) := by decide +kernel
theorem dL_weight_12 : decode cL_weight 12 = .ok (.astore_n 3, 1) := by decide +kernel
theorem dL_weight_13 : decode cL_weight 13 = .ok (.iconst 1, 1) := by decide +kernel
theorem dL_weight_14 : decode cL_weight 14 = .ok (.ireturn, 1) := by decide +kernel
theorem dL_weight_15 : decode cL_weight 15 = .ok (.iconst 0, 1) := by decide +kernel
theorem dL_weight_16 : decode cL_weight 16 = .ok (.ireturn, 1) := by decide +kernel
set_option maxRecDepth 20000 in
theorem ggL_strength_X10_strength : GoodIn wsL_strength wsX10_strength := goodIn_ca (goodIn_ca (goodIn_r _ [6, 7, 8, 9, 10, 11, 12, 5, 13, 14, 15, 16, 17, 18, 19, 20, 21, 22, 23, 24, 25, 26, 27, 28, 29, 30, 31, 32, 33, 34, 35, 36, 37, 38, 39, 40, 41, 42] (by decide +kernel) (by decide +kernel)) (goodIn_sub (fun _ h => List.mem_cons_of_mem _ (List.mem_append_left _ (List.mem_append_right _ h))) (by decide +kernel))) (goodIn_sub (fun _ h => List.mem_cons_of_mem _ (List.mem_append_right _ h)) (by decide +kernel))
set_option maxRecDepth 20000 in
theorem gL_strength_X10_strength : GoodIn wsL_strength (wsV RL 45 RX10 yX10_strength wsX10_strength) := goodIn_app (goodIn_of _ (by decide +kernel)) ggL_strength_X10_strength
theorem dL_strength_0 : decode cL_strength 0 = .ok (.aload_n 2, 1) := by decide +kernel
theorem dL_strength_1 : decode cL_strength 1 = .ok (.iconst 0, 1) := by decide +kernel
theorem dL_strength_2 : decode cL_strength 2 = .ok (.aload_n 0, 1) := by decide +kernel
theorem dL_strength_3 : decode cL_strength 3 = .ok (.iload_n 1, 1) := by decide +kernel
theorem dL_strength_4 : decode cL_strength 4 = .ok (.invokevirtual 45, 3) := by decide +kernel
theorem dL_strength_7 : decode cL_strength 7 = .ok (.i2l, 1) := by decide +kernel
theorem dL_strength_8 : decode cL_strength 8 = .ok (.lastore, 1) := by decide +kernel
theorem dL_strength_9 : decode cL_strength 9 = .ok (.goto 6, 3) := by decide +kernel
theorem dL_strength_12 : decode cL_strength 12 = .ok (.astore_n 3, 1) := by decide +kernel
theorem dL_strength_13 : decode cL_strength 13 = .ok (.iconst 1, 1) := by decide +kernel
theorem dL_strength_14 : decode cL_strength 14 = .ok (.ireturn, 1) := by decide +kernel
theorem dL_strength_15 : decode cL_strength 15 = .ok (.iconst 0, 1) := by decide +kernel
theorem dL_strength_16 : decode cL_strength 16 = .ok (.ireturn, 1) := by decide +kernel
set_option maxRecDepth 20000 in
theorem ggL_height_X10_height : GoodIn wsL_height wsX10_height := goodIn_ca (goodIn_ca (goodIn_r _ [6, 7, 8, 9, 10, 11, 12, 5, 13, 14, 15, 16, 17, 18, 19, 20, 21, 22, 23, 24, 25, 26, 27, 28, 29, 30, 31, 32, 33, 34, 35, 36, 37, 38, 39, 40, 41, 42] (by decide +kernel) (by decide +kernel)) (goodIn_sub (fun _ h => List.mem_cons_of_mem _ (List.mem_append_left _ (List.mem_append_right _ h))) (by decide +kernel))) (goodIn_sub (fun _ h => List.mem_cons_of_mem _ (List.mem_append_right _ h)) (by decide +kernel))
set_option maxRecDepth 20000 in
theorem gL_height_X10_height : GoodIn wsL_height (wsV RL 48 RX10 yX10_height wsX10_height) := goodIn_app (goodIn_of _ (by decide +kernel)) ggL_height_X10_height
theorem dL_height_0 : decode cL_height 0 = .ok (.aload_n 2, 1) := by decide +kernel
theorem dL_height_1 : decode cL_height 1 = .ok (.iconst 0, 1) := by decide +kernel
theorem dL_height_2 : decode cL_height 2 = .ok (.aload_n 0, 1) := by decide +kernel
theorem dL_height_3 : decode cL_height 3 = .ok (.iload_n 1, 1) := by decide +kernel
theorem dL_height_4 : decode cL_height 4 = .ok (.invokevirtual 48, 3) := by decide +kernel
theorem dL_height_7 : decode cL_height 7 = .ok (.i2l, 1) := by decide +kernel
theorem dL_height_8 : decode cL_height 8 = .ok (.lastore, 1) := by decide +kernel
theorem dL_height_9 : decode cL_height 9 = .ok (.goto 6, 3) := by decide +kernel
theorem dL_height_12 : decode cL_height 12 = .ok (.astore_n 3, 1) := by decide +kernel
theorem dL_height_13 : decode cL_height 13 = .ok (.iconst 1, 1) := by decide +kernel
theorem dL_height_14 : decode cL_height 14 = .ok (.ireturn, 1) := by decide +kernel
theorem dL_height_15 : decode cL_height 15 = .ok (.iconst 0, 1) := by decide +kernel
theorem dL_height_16 : decode cL_height 16 = .ok (.ireturn, 1) := by decide +kernel
set_option maxRecDepth 20000 in
theorem ggL_wage_X10_wage : GoodIn wsL_wage wsX10_wage := goodIn_ca (goodIn_ca (goodIn_r _ [6, 7, 8, 9, 10, 11, 12, 5, 13, 14, 15, 16, 17, 18, 19, 20, 21, 22, 23, 24, 25, 26, 27, 28, 29, 30, 31, 32, 33, 34, 35, 36, 37, 38, 39, 40, 41, 42] (by decide +kernel) (by decide +kernel)) (goodIn_sub (fun _ h => List.mem_cons_of_mem _ (List.mem_append_left _ (List.mem_append_right _ h))) (by decide +kernel))) (goodIn_sub (fun _ h => List.mem_cons_of_mem _ (List.mem_append_right _ h)) (by decide +kernel))
set_option maxRecDepth 20000 in
theorem gL_wage_X10_wage : GoodIn wsL_wage (wsV RL 51 RX10 yX10_wage wsX10_wage) := goodIn_app (goodIn_of _ (by decide +kernel)) ggL_wage_X10_wage
theorem dL_wage_0 : decode cL_wage 0 = .ok (.aload_n 2, 1) := by decide +kernel
theorem dL_wage_1 : decode cL_wage 1 = .ok (.iconst 0, 1) := by decide +kernel
theorem dL_wage_2 : decode cL_wage 2 = .ok (.aload_n 0, 1) := by decide +kernel
theorem dL_wage_3 : decode cL_wage 3 = .ok (.iload_n 1, 1) := by decide +kernel
theorem dL_wage_4 : decode cL_wage 4 = .ok (.invokevirtual 51, 3) := by decide +kernel
theorem dL_wage_7 : decode cL_wage 7 = .ok (.i2l, 1) := by decide +kernel
theorem dL_wage_8 : decode cL_wage 8 = .ok (.lastore, 1) := by decide +kernel
theorem dL_wage_9 : decode cL_wage 9 = .ok (.goto 6, 3) := by decide +kernel
theorem dL_wage_12 : decode cL_wage 12 = .ok (.astore_n 3, 1) := by decide +kernel
theorem dL_wage_13 : decode cL_wage 13 = .ok (.iconst 1, 1) := by decide +kernel
theorem dL_wage_14 : decode cL_wage 14 = .ok (.ireturn, 1) := by decide +kernel
theorem dL_wage_15 : decode cL_wage 15 = .ok (.iconst 0, 1) := by decide +kernel
theorem dL_wage_16 : decode cL_wage 16 = .ok (.ireturn, 1) := by decide +kernel
set_option maxRecDepth 20000 in
theorem ggL_isInjured_X10_isInjured : GoodIn wsL_isInjured wsX10_isInjured := goodIn_ca (goodIn_ca (goodIn_r _ [6, 7, 8, 9, 10, 11, 12, 5, 13, 14, 15, 16, 17, 18, 19, 20, 21, 22, 23, 24, 25, 26, 27, 28, 29, 30, 31, 32, 33, 34, 35, 36, 37, 38, 39, 40, 41, 42] (by decide +kernel) (by decide +kernel)) (goodIn_sub (fun _ h => List.mem_cons_of_mem _ (List.mem_append_left _ (List.mem_append_right _ h))) (by decide +kernel))) (goodIn_sub (fun _ h => List.mem_cons_of_mem _ (List.mem_append_right _ h)) (by decide +kernel))
set_option maxRecDepth 20000 in
theorem gL_isInjured_X10_isInjured : GoodIn wsL_isInjured (wsV RL 54 RX10 yX10_isInjured wsX10_isInjured) := goodIn_app (goodIn_of _ (by decide +kernel)) ggL_isInjured_X10_isInjured
theorem dL_isInjured_0 : decode cL_isInjured 0 = .ok (.aload_n 2, 1) := by decide +kernel
theorem dL_isInjured_1 : decode cL_isInjured 1 = .ok (.iconst 0, 1) := by decide +kernel
theorem dL_isInjured_2 : decode cL_isInjured 2 = .ok (.aload_n 0, 1) := by decide +kernel
theorem dL_isInjured_3 : decode cL_isInjured 3 = .ok (.iload_n 1, 1) := by decide +kernel
theorem dL_isInjured_4 : decode cL_isInjured 4 = .ok (.invokevirtual 54, 3) := by decide +kernel
theorem dL_isInjured_7 : decode cL_isInjured 7 = .ok (.ifCond .eq 7, 3) := by decide +kernel
theorem dL_isInjured_10 : decode cL_isInjured 10 = .ok (.lconst 1, 1) := by decide +kernel
theorem dL_isInjured_11 : decode cL_isInjured 11 = .ok (.goto 4, 3) := by decide +kernel
theorem dL_isInjured_14 : decode cL_isInjured 14 = .ok (.lconst 0, 1) := by decide +kernel
theorem dL_isInjured_15 : decode cL_isInjured 15 = .ok (.lastore, 1) := by decide +kernel
theorem dL_isInjured_16 : decode cL_isInjured 16 = .ok (.goto 6, 3) := by decide +kernel
theorem dL_isInjured_19 : decode cL_isInjured 19 = .ok (.astore_n 3, 1) := by decide +kernel
theorem dL_isInjured_20 : decode cL_isInjured 20 = .ok (.iconst 1, 1) := by decide +kernel
theorem dL_isInjured_21 : decode cL_isInjured 21 = .ok (.ireturn, 1) := by decide +kernel
theorem dL_isInjured_22 : decode cL_isInjured 22 = .ok (.iconst 0, 1) := by decide +kernel
theorem dL_isInjured_23 : decode cL_isInjured 23 = .ok (.ireturn, 1) := by decide +kernel
set_option maxRecDepth 20000 in
theorem ggL_nightsUntilFit_X10_nightsUntilFit : GoodIn wsL_nightsUntilFit wsX10_nightsUntilFit := goodIn_ca (goodIn_ca (goodIn_r _ [6, 7, 8, 9, 10, 11, 12, 5, 13, 14, 15, 16, 17, 18, 19, 20, 21, 22, 23, 24, 25, 26, 27, 28, 29, 30, 31, 32, 33, 34, 35, 36, 37, 38, 39, 40, 41, 42] (by decide +kernel) (by decide +kernel)) (goodIn_sub (fun _ h => List.mem_cons_of_mem _ (List.mem_append_left _ (List.mem_append_right _ h))) (by decide +kernel))) (goodIn_sub (fun _ h => List.mem_cons_of_mem _ (List.mem_append_right _ h)) (by decide +kernel))
set_option maxRecDepth 20000 in
theorem gL_nightsUntilFit_X10_nightsUntilFit : GoodIn wsL_nightsUntilFit (wsV RL 58 RX10 yX10_nightsUntilFit wsX10_nightsUntilFit) := goodIn_app (goodIn_of _ (by decide +kernel)) ggL_nightsUntilFit_X10_nightsUntilFit
theorem dL_nightsUntilFit_0 : decode cL_nightsUntilFit 0 = .ok (.aload_n 2, 1) := by decide +kernel
theorem dL_nightsUntilFit_1 : decode cL_nightsUntilFit 1 = .ok (.iconst 0, 1) := by decide +kernel
theorem dL_nightsUntilFit_2 : decode cL_nightsUntilFit 2 = .ok (.aload_n 0, 1) := by decide +kernel
