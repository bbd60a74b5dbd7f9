set_option maxRecDepth 20000 in
theorem ggX10_init_X3_init : GoodIn wsX10_init wsX3_init := goodIn_r _ [28, 29, 2, 3, 30, 31, 32, 33, 34, 35, 36, 37, 38, 39, 40, 41, 42, 43, 44, 45, 46, 47, 48, 49, 50, 51, 52, 53, 54, 55, 131, 132, 133, 134, 135, 136, 98, 99, 100, 101, 102, 103, 137, 138, 139, 140, 141, 142, 143] (by decide +kernel) (by decide +kernel)
set_option maxRecDepth 20000 in
theorem gX10_init_X3_init_n11 : GoodIn wsX10_init (wsX3_init) := ggX10_init_X3_init
set_option maxRecDepth 20000 in
theorem ggX10_init_X5_init : GoodIn wsX10_init wsX5_init := goodIn_r _ [58, 59, 2, 3, 60, 61, 5, 6, 27, 28, 29, 30, 31, 32, 33, 34, 35, 36, 37, 38, 39, 40, 41, 42, 43, 44, 45, 46, 47, 48, 49, 50, 51, 52, 53, 54, 55, 113, 114, 115, 98, 99, 100, 101, 102, 103, 131, 132, 133, 134, 135, 136, 137, 138, 139, 140, 141, 142, 143] (by decide +kernel) (by decide +kernel)
set_option maxRecDepth 20000 in
theorem gX10_init_X5_init : GoodIn wsX10_init (wsX5_init) := ggX10_init_X5_init
set_option maxRecDepth 20000 in
theorem ggX10_init_X8_init : GoodIn wsX10_init wsX8_init := goodIn_r _ [63, 64, 2, 3, 41, 65, 66, 67, 68, 116, 117, 118, 119, 120] (by decide +kernel) (by decide +kernel)
set_option maxRecDepth 20000 in
theorem gX10_init_X8_init_n28 : GoodIn wsX10_init (wsX8_init) := ggX10_init_X8_init
set_option maxRecDepth 20000 in
theorem ggX10_init_X7_init : GoodIn wsX10_init wsX7_init := goodIn_r _ [70, 71, 2, 3, 72, 24, 25, 73, 74, 75, 41, 76, 77, 78, 79, 80, 81, 82, 83, 84, 85, 86, 87, 88, 89, 90, 91, 92, 93, 94, 95, 96, 127, 128, 129, 130, 121, 122, 123, 124, 125, 126] (by decide +kernel) (by decide +kernel)
set_option maxRecDepth 20000 in
theorem gX10_init_X7_init_n35 : GoodIn wsX10_init (wsX7_init) := ggX10_init_X7_init
set_option maxRecDepth 20000 in
theorem ggX10_init_J4_init_da8c8 : GoodIn wsX10_init wsJ4_init_da8c8 := goodIn_r _ [79, 80, 81, 82, 83, 84, 2, 3, 85, 86, 87, 88, 89, 90, 91, 92, 93, 94, 95, 96, 127, 128, 129, 130] (by decide +kernel) (by decide +kernel)
set_option maxRecDepth 20000 in
theorem gX10_init_J4_init_da8c8 : GoodIn wsX10_init (wsJ4_init_da8c8) := ggX10_init_J4_init_da8c8
theorem dX10_init_0 : decode cX10_init 0 = .ok (.aload_n 0, 1) := by decide +kernel
theorem dX10_init_1 : decode cX10_init 1 = .ok (.invokespecial 3, 3) := by decide +kernel
theorem dX10_init_4 : decode cX10_init 4 = .ok (.aload_n 0, 1) := by decide +kernel
theorem dX10_init_5 : decode cX10_init 5 = .ok (.new 9, 3) := by decide +kernel
theorem dX10_init_8 : decode cX10_init 8 = .ok (.dup, 1) := by decide +kernel
theorem dX10_init_9 : decode cX10_init 9 = .ok (.invokespecial 11, 3) := by decide +kernel
theorem dX10_init_12 : decode cX10_init 12 = .ok (.putfield 12, 3) := by decide +kernel
theorem dX10_init_15 : decode cX10_init 15 = .ok (.aload_n 0, 1) := by decide +kernel
theorem dX10_init_16 : decode cX10_init 16 = .ok (.new 16, 3) := by decide +kernel
theorem dX10_init_19 : decode cX10_init 19 = .ok (.dup, 1) := by decide +kernel
theorem dX10_init_20 : decode cX10_init 20 = .ok (.invokespecial 18, 3) := by decide +kernel
theorem dX10_init_23 : decode cX10_init 23 = .ok (.putfield 19, 3) := by decide +kernel
theorem dX10_init_26 : decode cX10_init 26 = .ok (.aload_n 0, 1) := by decide +kernel
theorem dX10_init_27 : decode cX10_init 27 = .ok (.new 9, 3) := by decide +kernel
theorem dX10_init_30 : decode cX10_init 30 = .ok (.dup, 1) := by decide +kernel
theorem dX10_init_31 : decode cX10_init 31 = .ok (.invokespecial 11, 3) := by decide +kernel
theorem dX10_init_34 : decode cX10_init 34 = .ok (.putfield 23, 3) := by decide +kernel
theorem dX10_init_37 : decode cX10_init 37 = .ok (.aload_n 0, 1) := by decide +kernel
theorem dX10_init_38 : decode cX10_init 38 = .ok (.new 26, 3) := by decide +kernel
theorem dX10_init_41 : decode cX10_init 41 = .ok (.dup, 1) := by decide +kernel
theorem dX10_init_42 : decode cX10_init 42 = .ok (.invokespecial 28, 3) := by decide +kernel
theorem dX10_init_45 : decode cX10_init 45 = .ok (.putfield 29, 3) := by decide +kernel
theorem dX10_init_48 : decode cX10_init 48 = .ok (.aload_n 0, 1) := by decide +kernel
theorem dX10_init_49 : decode cX10_init 49 = .ok (.new 33, 3) := by decide +kernel
theorem dX10_init_52 : decode cX10_init 52 = .ok (.dup, 1) := by decide +kernel
theorem dX10_init_53 : decode cX10_init 53 = .ok (.invokespecial 35, 3) := by decide +kernel
theorem dX10_init_56 : decode cX10_init 56 = .ok (.putfield 36, 3) := by decide +kernel
theorem dX10_init_59 : decode cX10_init 59 = .ok (.aload_n 0, 1) := by decide +kernel
theorem dX10_init_60 : decode cX10_init 60 = .ok (.iconst (-1), 1) := by decide +kernel
theorem dX10_init_61 : decode cX10_init 61 = .ok (.putfield 40, 3) := by decide +kernel
theorem dX10_init_64 : decode cX10_init 64 = .ok (.aload_n 0, 1) := by decide +kernel
theorem dX10_init_65 : decode cX10_init 65 = .ok (.iconst (-1), 1) := by decide +kernel
theorem dX10_init_66 : decode cX10_init 66 = .ok (.putfield 44, 3) := by decide +kernel
theorem dX10_init_69 : decode cX10_init 69 = .ok (.aload_n 0, 1) := by decide +kernel
theorem dX10_init_70 : decode cX10_init 70 = .ok (.new 47, 3) := by decide +kernel
theorem dX10_init_73 : decode cX10_init 73 = .ok (.dup, 1) := by decide +kernel
theorem dX10_init_74 : decode cX10_init 74 = .ok (.invokespecial 49, 3) := by decide +kernel
theorem dX10_init_77 : decode cX10_init 77 = .ok (.putfield 50, 3) := by decide +kernel
theorem dX10_init_80 : decode cX10_init 80 = .ok (.return_, 1) := by decide +kernel
set_option maxRecDepth 20000 in
theorem ggX10_addAcrobat_X3_refusalToHire : GoodIn wsX10_addAcrobat wsX3_refusalToHire := goodIn_r _ [7, 8, 9, 10, 11, 12, 13, 14, 6, 15, 110, 111, 112, 113, 114, 115, 116, 117, 118, 119, 120, 121] (by decide +kernel) (by decide +kernel)
set_option maxRecDepth 20000 in
theorem gX10_addAcrobat_X3_refusalToHire : GoodIn wsX10_addAcrobat (wsV RX10 54 RX3 yX3_refusalToHire wsX3_refusalToHire) := goodIn_app (goodIn_of _ (by decide +kernel)) ggX10_addAcrobat_X3_refusalToHire
set_option maxRecDepth 20000 in
theorem ggX10_addAcrobat_X10_throwFor : GoodIn wsX10_addAcrobat wsX10_throwFor := goodIn_ca (goodIn_ca (goodIn_ca (goodIn_ca (goodIn_r _ [19, 20, 21, 22, 23, 24, 25, 26, 27, 28, 29, 30, 31] (by decide +kernel) (by decide +kernel)) (goodIn_sub (fun _ h => List.mem_cons_of_mem _ (List.mem_append_left _ (List.mem_append_left _ (List.mem_append_left _ (List.mem_append_left _ (List.mem_append_right _ h)))))) (by decide +kernel))) (goodIn_sub (fun _ h => List.mem_cons_of_mem _ (List.mem_append_left _ (List.mem_append_left _ (List.mem_append_left _ (List.mem_append_right _ h))))) (by decide +kernel))) (goodIn_sub (fun _ h => List.mem_cons_of_mem _ (List.mem_append_left _ (List.mem_append_left _ (List.mem_append_right _ h)))) (by decide +kernel))) (goodIn_sub (fun _ h => List.mem_cons_of_mem _ (List.mem_append_left _ (List.mem_append_right _ h))) (by decide +kernel))
set_option maxRecDepth 20000 in
theorem gX10_addAcrobat_X10_throwFor : GoodIn wsX10_addAcrobat (va_wsS RX10 58 yX10_throwFor wsX10_throwFor) := goodIn_app (goodIn_of _ (by decide +kernel)) ggX10_addAcrobat_X10_throwFor
set_option maxRecDepth 20000 in
theorem ggX10_addAcrobat_X5_remember : GoodIn wsX10_addAcrobat wsX5_remember := goodIn_r _ [36, 37, 38, 39, 35, 40, 41, 42, 43, 44, 45, 6, 46, 9, 47, 48, 49, 50, 51, 52, 53, 54, 55, 56, 57, 58, 59, 60, 61, 62, 63, 64, 65, 66, 67, 68, 69, 70, 71, 72, 73, 74, 75, 76, 77, 78, 79, 80, 81, 82, 83, 84, 85, 86, 87, 88, 122, 123, 124, 110, 111, 112, 113, 114, 115, 116, 117, 118, 119, 120, 121, 125, 126, 127, 128, 129, 130, 131] (by decide +kernel) (by decide +kernel)
set_option maxRecDepth 20000 in
theorem gX10_addAcrobat_X5_remember : GoodIn wsX10_addAcrobat (wsV RX10 62 RX5 yX5_remember wsX5_remember) := goodIn_app (goodIn_of _ (by decide +kernel)) ggX10_addAcrobat_X5_remember
set_option maxRecDepth 20000 in
theorem ggX10_addAcrobat_X3_hire : GoodIn wsX10_addAcrobat wsX3_hire := goodIn_ca (goodIn_r _ [92, 47, 9, 93, 94, 95, 70, 96, 72, 97, 98, 99, 55, 100, 57, 58, 63, 64, 65, 110, 111, 112, 113, 114, 115, 125, 126, 127, 128, 129, 130, 131, 116, 117, 118, 119, 120, 121] (by decide +kernel) (by decide +kernel)) (goodIn_sub (fun _ h => List.mem_cons_of_mem _ (List.mem_append_right _ h)) (by decide +kernel))
set_option maxRecDepth 20000 in
theorem gX10_addAcrobat_X3_hire : GoodIn wsX10_addAcrobat (wsV RX10 66 RX3 yX3_hire wsX3_hire) := goodIn_app (goodIn_of _ (by decide +kernel)) ggX10_addAcrobat_X3_hire
theorem dX10_addAcrobat_0 : decode cX10_addAcrobat 0 = .ok (.aload_n 0, 1) := by decide +kernel
theorem dX10_addAcrobat_1 : decode cX10_addAcrobat 1 = .ok (.getfield 12, 3) := by decide +kernel
theorem dX10_addAcrobat_4 : decode cX10_addAcrobat 4 = .ok (.iload_n 1, 1) := by decide +kernel
theorem dX10_addAcrobat_5 : decode cX10_addAcrobat 5 = .ok (.iload_n 2, 1) := by decide +kernel
theorem dX10_addAcrobat_6 : decode cX10_addAcrobat 6 = .ok (.iload_n 3, 1) := by decide +kernel
theorem dX10_addAcrobat_7 : decode cX10_addAcrobat 7 = .ok (.iload 4, 2) := by decide +kernel
theorem dX10_addAcrobat_9 : decode cX10_addAcrobat 9 = .ok (.invokevirtual 54, 3) := by decide +kernel
theorem dX10_addAcrobat_12 : decode cX10_addAcrobat 12 = .ok (.invokestatic 58, 3) := by decide +kernel
theorem dX10_addAcrobat_15 : decode cX10_addAcrobat 15 = .ok (.aload_n 0, 1) := by decide +kernel
theorem dX10_addAcrobat_16 : decode cX10_addAcrobat 16 = .ok (.getfield 19, 3) := by decide +kernel
theorem dX10_addAcrobat_19 : decode cX10_addAcrobat 19 = .ok (.aload_n 0, 1) := by decide +kernel
theorem dX10_addAcrobat_20 : decode cX10_addAcrobat 20 = .ok (.getfield 12, 3) := by decide +kernel
theorem dX10_addAcrobat_23 : decode cX10_addAcrobat 23 = .ok (.invokevirtual 62, 3) := by decide +kernel
theorem dX10_addAcrobat_26 : decode cX10_addAcrobat 26 = .ok (.aload_n 0, 1) := by decide +kernel
theorem dX10_addAcrobat_27 : decode cX10_addAcrobat 27 = .ok (.getfield 12, 3) := by decide +kernel
theorem dX10_addAcrobat_30 : decode cX10_addAcrobat 30 = .ok (.iload_n 1, 1) := by decide +kernel
theorem dX10_addAcrobat_31 : decode cX10_addAcrobat 31 = .ok (.iload_n 2, 1) := by decide +kernel
theorem dX10_addAcrobat_32 : decode cX10_addAcrobat 32 = .ok (.iload_n 3, 1) := by decide +kernel
theorem dX10_addAcrobat_33 : decode cX10_addAcrobat 33 = .ok (.iload 4, 2) := by decide +kernel
theorem dX10_addAcrobat_35 : decode cX10_addAcrobat 35 = .ok (.invokevirtual 66, 3) := by decide +kernel
theorem dX10_addAcrobat_38 : decode cX10_addAcrobat 38 = .ok (.ireturn, 1) := by decide +kernel
set_option maxRecDepth 20000 in
theorem ggX10_post_X3_refusalToBook : GoodIn wsX10_post wsX3_refusalToBook := goodIn_ca (goodIn_r _ [8, 9, 10, 11, 12, 13, 14, 15, 16, 17, 18, 19, 20, 21, 22, 7, 23, 24, 25, 26, 27, 28, 29, 30, 31, 32, 33, 116, 117, 118, 119, 120, 121, 122, 123, 124, 125, 126, 127, 128] (by decide +kernel) (by decide +kernel)) (goodIn_sub (fun _ h => List.mem_cons_of_mem _ (List.mem_append_left _ (List.mem_append_left _ (List.mem_append_left _ (List.mem_append_left _ (List.mem_append_right _ h)))))) (by decide +kernel))
set_option maxRecDepth 20000 in
theorem gX10_post_X3_refusalToBook : GoodIn wsX10_post (wsV RX10 70 RX3 yX3_refusalToBook wsX3_refusalToBook) := goodIn_app (goodIn_of _ (by decide +kernel)) ggX10_post_X3_refusalToBook
set_option maxRecDepth 20000 in
theorem ggX10_post_X10_throwFor : GoodIn wsX10_post wsX10_throwFor := goodIn_ca (goodIn_ca (goodIn_ca (goodIn_ca (goodIn_r _ [37, 38, 39, 40, 41, 42, 43, 44, 45, 46, 47, 48, 49] (by decide +kernel) (by decide +kernel)) (goodIn_sub (fun _ h => List.mem_cons_of_mem _ (List.mem_append_left _ (List.mem_append_left _ (List.mem_append_left _ (List.mem_append_right _ h))))) (by decide +kernel))) (goodIn_sub (fun _ h => List.mem_cons_of_mem _ (List.mem_append_left _ (List.mem_append_left _ (List.mem_append_right _ h)))) (by decide +kernel))) (goodIn_sub (fun _ h => List.mem_cons_of_mem _ (List.mem_append_left _ (List.mem_append_right _ h))) (by decide +kernel))) (goodIn_sub (fun _ h => List.mem_cons_of_mem _ (List.mem_append_right _ h)) (by decide +kernel))
set_option maxRecDepth 20000 in
theorem gX10_post_X10_throwFor : GoodIn wsX10_post (va_wsS RX10 58 yX10_throwFor wsX10_throwFor) := goodIn_app (goodIn_of _ (by decide +kernel)) ggX10_post_X10_throwFor
set_option maxRecDepth 20000 in
theorem ggX10_post_X5_remember : GoodIn wsX10_post wsX5_remember := goodIn_r _ [54, 55, 56, 57, 53, 58, 59, 60, 61, 62, 63, 7, 64, 65, 9, 66, 67, 68, 69, 70, 71, 72, 73, 74, 75, 76, 77, 78, 79, 80, 81, 82, 83, 84, 85, 86, 87, 18, 88, 20, 33, 89, 90, 28, 91, 92, 93, 94, 95, 96, 97, 98, 99, 100, 101, 102, 129, 130, 131, 116, 117, 118, 119, 120, 121, 132, 133, 134, 135, 136, 137, 122, 123, 124, 125, 126, 127, 128] (by decide +kernel) (by decide +kernel)
set_option maxRecDepth 20000 in
theorem gX10_post_X5_remember : GoodIn wsX10_post (wsV RX10 62 RX5 yX5_remember wsX5_remember) := goodIn_app (goodIn_of _ (by decide +kernel)) ggX10_post_X5_remember
set_option maxRecDepth 20000 in
theorem ggX10_post_X2_book : GoodIn wsX10_post wsX2_book := goodIn_ca (goodIn_r _ [106, 28, 91, 92, 93, 33, 122, 123, 124, 125, 126, 127, 128] (by decide +kernel) (by decide +kernel)) (goodIn_sub (fun _ h => List.mem_cons_of_mem _ (List.mem_append_left _ (List.mem_append_left _ (List.mem_append_left _ (List.mem_append_left _ (List.mem_append_right _ h)))))) (by decide +kernel))
set_option maxRecDepth 20000 in
theorem gX10_post_X2_book : GoodIn wsX10_post (wsV RX10 78 RX2 yX2_book wsX2_book) := goodIn_app (goodIn_of _ (by decide +kernel)) ggX10_post_X2_book
theorem dX10_post_0 : decode cX10_post 0 = .ok (.aload_n 0, 1) := by decide +kernel
theorem dX10_post_1 : decode cX10_post 1 = .ok (.getfield 12, 3) := by decide +kernel
theorem dX10_post_4 : decode cX10_post 4 = .ok (.iload_n 1, 1) := by decide +kernel
theorem dX10_post_5 : decode cX10_post 5 = .ok (.iload_n 2, 1) := by decide +kernel
theorem dX10_post_6 : decode cX10_post 6 = .ok (.iload_n 3, 1) := by decide +kernel
theorem dX10_post_7 : decode cX10_post 7 = .ok (.invokevirtual 70, 3) := by decide +kernel
theorem dX10_post_10 : decode cX10_post 10 = .ok (.invokestatic 58, 3) := by decide +kernel
theorem dX10_post_13 : decode cX10_post 13 = .ok (.aload_n 0, 1) := by decide +kernel
theorem dX10_post_14 : decode cX10_post 14 = .ok (.getfield 19, 3) := by decide +kernel
theorem dX10_post_17 : decode cX10_post 17 = .ok (.aload_n 0, 1) := by decide +kernel
theorem dX10_post_18 : decode cX10_post 18 = .ok (.getfield 12, 3) := by decide +kernel
theorem dX10_post_21 : decode cX10_post 21 = .ok (.invokevirtual 62, 3) := by decide +kernel
theorem dX10_post_24 : decode cX10_post 24 = .ok (.aload_n 0, 1) := by decide +kernel
theorem dX10_post_25 : decode cX10_post 25 = .ok (.getfield 12, 3) := by decide +kernel
theorem dX10_post_28 : decode cX10_post 28 = .ok (.getfield 74, 3) := by decide +kernel
theorem dX10_post_31 : decode cX10_post 31 = .ok (.iload_n 1, 1) := by decide +kernel
theorem dX10_post_32 : decode cX10_post 32 = .ok (.iload_n 2, 1) := by decide +kernel
theorem dX10_post_33 : decode cX10_post 33 = .ok (.iload_n 3, 1) := by decide +kernel
theorem dX10_post_34 : decode cX10_post 34 = .ok (.invokevirtual 78, 3) := by decide +kernel
theorem dX10_post_37 : decode cX10_post 37 = .ok (.ireturn, 1) := by decide +kernel
set_option maxRecDepth 20000 in
theorem ggX10_payOut_X3_refusalToPay : GoodIn wsX10_payOut wsX3_refusalToPay := goodIn_ca (goodIn_r _ [7, 8, 9, 10, 11, 12, 13, 14, 15, 16, 17, 18, 6, 19, 20, 21, 22, 23, 24, 25, 26, 27, 28, 29, 30, 31, 32, 33, 34, 35, 36, 37, 38, 39, 40, 41, 42, 43, 128, 129, 130, 131, 132, 133, 134, 135, 136, 137, 138, 139, 140, 141, 142, 143, 144, 145, 146] (by decide +kernel) (by decide +kernel)) (goodIn_sub (fun _ h => List.mem_cons_of_mem _ (List.mem_append_left _ (List.mem_append_left _ (List.mem_append_left _ (List.mem_append_left _ (List.mem_append_right _ h)))))) (by decide +kernel))
set_option maxRecDepth 20000 in
theorem gX10_payOut_X3_refusalToPay : GoodIn wsX10_payOut (wsV RX10 84 RX3 yX3_refusalToPay wsX3_refusalToPay) := goodIn_app (goodIn_of _ (by decide +kernel)) ggX10_payOut_X3_refusalToPay
set_option maxRecDepth 20000 in
theorem ggX10_payOut_X10_throwFor : GoodIn wsX10_payOut wsX10_throwFor := goodIn_ca (goodIn_ca (goodIn_ca (goodIn_ca (goodIn_r _ [47, 48, 49, 50, 51, 52, 53, 54, 55, 56, 57, 58, 59] (by decide +kernel) (by decide +kernel)) (goodIn_sub (fun _ h => List.mem_cons_of_mem _ (List.mem_append_left _ (List.mem_append_left _ (List.mem_append_left _ (List.mem_append_right _ h))))) (by decide +kernel))) (goodIn_sub (fun _ h => List.mem_cons_of_mem _ (List.mem_append_left _ (List.mem_append_left _ (List.mem_append_right _ h)))) (by decide +kernel))) (goodIn_sub (fun _ h => List.mem_cons_of_mem _ (List.mem_append_left _ (List.mem_append_right _ h))) (by decide +kernel))) (goodIn_sub (fun _ h => List.mem_cons_of_mem _ (List.mem_append_right _ h)) (by decide +kernel))
set_option maxRecDepth 20000 in
theorem gX10_payOut_X10_throwFor : GoodIn wsX10_payOut (va_wsS RX10 58 yX10_throwFor wsX10_throwFor) := goodIn_app (goodIn_of _ (by decide +kernel)) ggX10_payOut_X10_throwFor
set_option maxRecDepth 20000 in
theorem ggX10_payOut_X5_remember : GoodIn wsX10_payOut wsX5_remember := goodIn_r _ [64, 65, 66, 67, 63, 68, 69, 70, 71, 72, 73, 6, 74, 8, 20, 75, 76, 77, 78, 79, 80, 81, 13, 82, 15, 83, 84, 85, 86, 87, 88, 89, 90, 91, 92, 93, 94, 28, 95, 30, 43, 96, 97, 38, 98, 99, 100, 101, 102, 103, 104, 105, 106, 107, 108, 109, 147, 148, 149, 128, 129, 130, 131, 132, 133, 134, 135, 136, 137, 138, 139, 140, 141, 142, 143, 144, 145, 146] (by decide +kernel) (by decide +kernel)
set_option maxRecDepth 20000 in
theorem gX10_payOut_X5_remember : GoodIn wsX10_payOut (wsV RX10 62 RX5 yX5_remember wsX5_remember) := goodIn_app (goodIn_of _ (by decide +kernel)) ggX10_payOut_X5_remember
set_option maxRecDepth 20000 in
theorem ggX10_payOut_X3_pay : GoodIn wsX10_payOut wsX3_pay := goodIn_ca (goodIn_r _ [113, 20, 114, 115, 116, 117, 28, 118, 38, 98, 99, 100, 43, 128, 129, 130, 131, 132, 133, 140, 141, 142, 143, 144, 145, 146] (by decide +kernel) (by decide +kernel)) (goodIn_sub (fun _ h => List.mem_cons_of_mem _ (List.mem_append_left _ (List.mem_append_left _ (List.mem_append_left _ (List.mem_append_left _ (List.mem_append_right _ h)))))) (by decide +kernel))
set_option maxRecDepth 20000 in
theorem gX10_payOut_X3_pay : GoodIn wsX10_payOut (wsV RX10 88 RX3 yX3_pay wsX3_pay) := goodIn_app (goodIn_of _ (by decide +kernel)) ggX10_payOut_X3_pay
theorem dX10_payOut_0 : decode cX10_payOut 0 = .ok (.aload_n 0, 1) := by decide +kernel
theorem dX10_payOut_1 : decode cX10_payOut 1 = .ok (.getfield 12, 3) := by decide +kernel
theorem dX10_payOut_4 : decode cX10_payOut 4 = .ok (.iload_n 1, 1) := by decide +kernel
theorem dX10_payOut_5 : decode cX10_payOut 5 = .ok (.iload_n 2, 1) := by decide +kernel
theorem dX10_payOut_6 : decode cX10_payOut 6 = .ok (.invokevirtual 84, 3) := by decide +kernel
theorem dX10_payOut_9 : decode cX10_payOut 9 = .ok (.invokestatic 58, 3) := by decide +kernel
theorem dX10_payOut_12 : decode cX10_payOut 12 = .ok (.aload_n 0, 1) := by decide +kernel
theorem dX10_payOut_13 : decode cX10_payOut 13 = .ok (.getfield 19, 3) := by decide +kernel
theorem dX10_payOut_16 : decode cX10_payOut 16 = .ok (.aload_n 0, 1) := by decide +kernel
theorem dX10_payOut_17 : decode cX10_payOut 17 = .ok (.getfield 12, 3) := by decide +kernel
theorem dX10_payOut_20 : decode cX10_payOut 20 = .ok (.invokevirtual 62, 3) := by decide +kernel
theorem dX10_payOut_23 : decode cX10_payOut 23 = .ok (.aload_n 0, 1) := by decide +kernel
theorem dX10_payOut_24 : decode cX10_payOut 24 = .ok (.getfield 12, 3) := by decide +kernel
theorem dX10_payOut_27 : decode cX10_payOut 27 = .ok (.iload_n 1, 1) := by decide +kernel
theorem dX10_payOut_28 : decode cX10_payOut 28 = .ok (.iload_n 2, 1) := by decide +kernel
theorem dX10_payOut_29 : decode cX10_payOut 29 = .ok (.invokevirtual 88, 3) := by decide +kernel
theorem dX10_payOut_32 : decode cX10_payOut 32 = .ok (.ireturn, 1) := by decide +kernel
set_option maxRecDepth 20000 in
theorem ggX10_show_X3_refusalToShow : GoodIn wsX10_show wsX3_refusalToShow := goodIn_ca (goodIn_r _ [7, 8, 9, 10, 11, 12, 13, 14, 15, 16, 17, 18, 19, 20, 21, 22, 23, 24, 25, 26, 27, 28, 29, 30, 31, 32, 33, 34, 35, 36, 37, 38, 39, 40, 41, 42, 43, 44, 45, 46, 47, 48, 49, 50, 51, 52, 53, 54, 55, 56, 57, 58, 59, 60, 61, 62, 63, 64, 6, 65, 66, 67, 68, 69, 70, 71, 72, 73, 74, 75, 76, 77, 78, 79, 80, 81, 82, 83, 84, 85, 197, 198, 199, 200, 201, 202, 203, 204, 205, 206, 207, 208, 209, 210, 211, 212, 213, 214, 215] (by decide +kernel) (by decide +kernel)) (goodIn_sub (fun _ h => List.mem_cons_of_mem _ (List.mem_append_left _ (List.mem_append_left _ (List.mem_append_left _ (List.mem_append_left _ (List.mem_append_right _ h)))))) (by decide +kernel))
set_option maxRecDepth 20000 in
theorem gX10_show_X3_refusalToShow : GoodIn wsX10_show (wsV RX10 92 RX3 yX3_refusalToShow wsX3_refusalToShow) := goodIn_app (goodIn_of _ (by decide +kernel)) ggX10_show_X3_refusalToShow
set_option maxRecDepth 20000 in
theorem ggX10_show_X10_throwFor : GoodIn wsX10_show wsX10_throwFor := goodIn_ca (goodIn_ca (goodIn_ca (goodIn_ca (goodIn_r _ [89, 90, 91, 92, 93, 94, 95, 96, 97, 98, 99, 100, 101] (by decide +kernel) (by decide +kernel)) (goodIn_sub (fun _ h => List.mem_cons_of_mem _ (List.mem_append_left _ (List.mem_append_left _ (List.mem_append_left _ (List.mem_append_right _ h))))) (by decide +kernel))) (goodIn_sub (fun _ h => List.mem_cons_of_mem _ (List.mem_append_left _ (List.mem_append_left _ (List.mem_append_right _ h)))) (by decide +kernel))) (goodIn_sub (fun _ h => List.mem_cons_of_mem _ (List.mem_append_left _ (List.mem_append_right _ h))) (by decide +kernel))) (goodIn_sub (fun _ h => List.mem_cons_of_mem _ (List.mem_append_right _ h)) (by decide +kernel))
set_option maxRecDepth 20000 in
theorem gX10_show_X10_throwFor : GoodIn wsX10_show (va_wsS RX10 58 yX10_throwFor wsX10_throwFor) := goodIn_app (goodIn_of _ (by decide +kernel)) ggX10_show_X10_throwFor
set_option maxRecDepth 20000 in
theorem ggX10_show_X5_remember : GoodIn wsX10_show wsX5_remember := goodIn_r _ [106, 107, 108, 109, 105, 110, 111, 112, 113, 114, 115, 6, 116, 8, 11, 117, 118, 119, 120, 121, 122, 123, 17, 124, 19, 42, 125, 126, 127, 128, 33, 129, 130, 24, 131, 132, 133, 83, 134, 135, 136, 137, 138, 85, 139, 140, 141, 142, 143, 144, 145, 146, 147, 73, 74, 75, 216, 217, 218, 197, 198, 199, 200, 201, 202, 203, 204, 205, 206, 207, 208, 209, 210, 211, 212, 213, 214, 215] (by decide +kernel) (by decide +kernel)
set_option maxRecDepth 20000 in
theorem gX10_show_X5_remember : GoodIn wsX10_show (wsV RX10 62 RX5 yX5_remember wsX5_remember) := goodIn_app (goodIn_of _ (by decide +kernel)) ggX10_show_X5_remember
set_option maxRecDepth 20000 in
theorem ggX10_show_X3_giveShow : GoodIn wsX10_show wsX3_giveShow := goodIn_ca (goodIn_r _ [151, 119, 8, 152, 30, 31, 17, 32, 19, 33, 34, 35, 36, 37, 38, 39, 40, 41, 42, 43, 44, 45, 46, 153, 154, 155, 6, 156, 11, 157, 158, 159, 160, 161, 162, 129, 163, 164, 165, 83, 166, 85, 139, 140, 141, 136, 167, 168, 169, 170, 171, 120, 118, 172, 48, 49, 50, 51, 52, 53, 54, 55, 56, 57, 58, 59, 60, 61, 67, 68, 69, 70, 71, 72, 73, 74, 75, 76, 77, 78, 79, 173, 174, 175, 176, 24, 177, 178, 179, 180, 117, 181, 182, 183, 184, 185, 186, 187, 197, 198, 199, 200, 201, 202, 203, 204, 205, 206, 207, 208, 209, 210, 211, 212, 213, 214, 215] (by decide +kernel) (by decide +kernel)) (goodIn_sub (fun _ h => List.mem_cons_of_mem _ (List.mem_append_left _ (List.mem_append_left _ (List.mem_append_left _ (List.mem_append_left _ (List.mem_append_right _ h)))))) (by decide +kernel))
set_option maxRecDepth 20000 in
theorem gX10_show_X3_giveShow : GoodIn wsX10_show (wsV RX10 96 RX3 yX3_giveShow wsX3_giveShow) := goodIn_app (goodIn_of _ (by decide +kernel)) ggX10_show_X3_giveShow
theorem dX10_show_0 : decode cX10_show 0 = .ok (.aload_n 0, 1) := by decide +kernel
theorem dX10_show_1 : decode cX10_show 1 = .ok (.getfield 12, 3) := by decide +kernel
theorem dX10_show_4 : decode cX10_show 4 = .ok (.iload_n 1, 1) := by decide +kernel
theorem dX10_show_5 : decode cX10_show 5 = .ok (.invokevirtual 92, 3) := by decide +kernel
theorem dX10_show_8 : decode cX10_show 8 = .ok (.invokestatic 58, 3) := by decide +kernel
theorem dX10_show_11 : decode cX10_show 11 = .ok (.aload_n 0, 1) := by decide +kernel
theorem dX10_show_12 : decode cX10_show 12 = .ok (.getfield 19, 3) := by decide +kernel
theorem dX10_show_15 : decode cX10_show 15 = .ok (.aload_n 0, 1) := by decide +kernel
theorem dX10_show_16 : decode cX10_show 16 = .ok (.getfield 12, 3) := by decide +kernel
theorem dX10_show_19 : decode cX10_show 19 = .ok (.invokevirtual 62, 3) := by decide +kernel
theorem dX10_show_22 : decode cX10_show 22 = .ok (.aload_n 0, 1) := by decide +kernel
theorem dX10_show_23 : decode cX10_show 23 = .ok (.getfield 12, 3) := by decide +kernel
theorem dX10_show_26 : decode cX10_show 26 = .ok (.iload_n 1, 1) := by decide +kernel
theorem dX10_show_27 : decode cX10_show 27 = .ok (.invokevirtual 96, 3) := by decide +kernel
theorem dX10_show_30 : decode cX10_show 30 = .ok (.ireturn, 1) := by decide +kernel
set_option maxRecDepth 20000 in
theorem ggX10_setNet_X3_refusalToSpan : GoodIn wsX10_setNet wsX3_refusalToSpan := goodIn_r _ [7, 8, 9, 10, 11, 6, 12] (by decide +kernel) (by decide +kernel)
set_option maxRecDepth 20000 in
theorem gX10_setNet_X3_refusalToSpan : GoodIn wsX10_setNet (wsV RX10 100 RX3 yX3_refusalToSpan wsX3_refusalToSpan) := goodIn_app (goodIn_of _ (by decide +kernel)) ggX10_setNet_X3_refusalToSpan
set_option maxRecDepth 20000 in
theorem ggX10_setNet_X10_throwFor : GoodIn wsX10_setNet wsX10_throwFor := goodIn_ca (goodIn_ca (goodIn_ca (goodIn_ca (goodIn_r _ [16, 17, 18, 19, 20, 21, 22, 23, 24, 25, 26, 27, 28] (by decide +kernel) (by decide +kernel)) (goodIn_sub (fun _ h => List.mem_cons_of_mem _ (List.mem_append_left _ (List.mem_append_left _ (List.mem_append_left _ (List.mem_append_right _ h))))) (by decide +kernel))) (goodIn_sub (fun _ h => List.mem_cons_of_mem _ (List.mem_append_left _ (List.mem_append_left _ (List.mem_append_right _ h)))) (by decide +kernel))) (goodIn_sub (fun _ h => List.mem_cons_of_mem _ (List.mem_append_left _ (List.mem_append_right _ h))) (by decide +kernel))) (goodIn_sub (fun _ h => List.mem_cons_of_mem _ (List.mem_append_right _ h)) (by decide +kernel))
set_option maxRecDepth 20000 in
theorem gX10_setNet_X10_throwFor : GoodIn wsX10_setNet (va_wsS RX10 58 yX10_throwFor wsX10_throwFor) := goodIn_app (goodIn_of _ (by decide +kernel)) ggX10_setNet_X10_throwFor
set_option maxRecDepth 20000 in
theorem ggX10_setNet_X5_remember : GoodIn wsX10_setNet wsX5_remember := goodIn_r _ [33, 34, 35, 36, 32, 37, 38, 39, 40, 41, 42, 6, 43, 44, 45, 46, 47, 48, 49, 50, 51, 52, 53, 54, 55, 56, 57, 58, 59, 60, 61, 62, 63, 64, 65, 66, 67, 68, 69, 70, 71, 72, 73, 74, 75, 76, 77, 78, 79, 80, 81, 82, 83, 84, 85, 86, 100, 101, 102, 103, 104, 105, 106, 107, 108, 109, 110, 111, 112, 113, 114, 115, 116, 117, 118, 119, 120, 121] (by decide +kernel) (by decide +kernel)
set_option maxRecDepth 20000 in
theorem gX10_setNet_X5_remember : GoodIn wsX10_setNet (wsV RX10 62 RX5 yX5_remember wsX5_remember) := goodIn_app (goodIn_of _ (by decide +kernel)) ggX10_setNet_X5_remember
set_option maxRecDepth 20000 in
theorem ggX10_setNet_X3_spanNet : GoodIn wsX10_setNet wsX3_spanNet := goodIn_r _ [90, 47, 103, 104, 105, 106, 107, 108] (by decide +kernel) (by decide +kernel)
set_option maxRecDepth 20000 in
theorem gX10_setNet_X3_spanNet : GoodIn wsX10_setNet (wsV RX10 103 RX3 yX3_spanNet wsX3_spanNet) := goodIn_app (goodIn_of _ (by decide +kernel)) ggX10_setNet_X3_spanNet
theorem dX10_setNet_0 : decode cX10_setNet 0 = .ok (.aload_n 0, 1) := by decide +kernel
theorem dX10_setNet_1 : decode cX10_setNet 1 = .ok (.getfield 12, 3) := by decide +kernel
theorem dX10_setNet_4 : decode cX10_setNet 4 = .ok (.iload_n 1, 1) := by decide +kernel
theorem dX10_setNet_5 : decode cX10_setNet 5 = .ok (.invokevirtual 100, 3) := by decide +kernel
theorem dX10_setNet_8 : decode cX10_setNet 8 = .ok (.invokestatic 58, 3) := by decide +kernel
theorem dX10_setNet_11 : decode cX10_setNet 11 = .ok (.aload_n 0, 1) := by decide +kernel
theorem dX10_setNet_12 : decode cX10_setNet 12 = .ok (.getfield 19, 3) := by decide +kernel
theorem dX10_setNet_15 : decode cX10_setNet 15 = .ok (.aload_n 0, 1) := by decide +kernel
theorem dX10_setNet_16 : decode cX10_setNet 16 = .ok (.getfield 12, 3) := by decide +kernel
theorem dX10_setNet_19 : decode cX10_setNet 19 = .ok (.invokevirtual 62, 3) := by decide +kernel
theorem dX10_setNet_22 : decode cX10_setNet 22 = .ok (.aload_n 0, 1) := by decide +kernel
theorem dX10_setNet_23 : decode cX10_setNet 23 = .ok (.getfield 12, 3) := by decide +kernel
theorem dX10_setNet_26 : decode cX10_setNet 26 = .ok (.iload_n 1, 1) := by decide +kernel
theorem dX10_setNet_27 : decode cX10_setNet 27 = .ok (.invokevirtual 103, 3) := by decide +kernel
theorem dX10_setNet_30 : decode cX10_setNet 30 = .ok (.ireturn, 1) := by decide +kernel
set_option maxRecDepth 20000 in
theorem ggX10_passNights_X3_refusalToWait : GoodIn wsX10_passNights wsX3_refusalToWait := goodIn_r _ [7, 8, 9, 10, 11, 6, 12] (by decide +kernel) (by decide +kernel)
set_option maxRecDepth 20000 in
theorem gX10_passNights_X3_refusalToWait : GoodIn wsX10_passNights (wsV RX10 106 RX3 yX3_refusalToWait wsX3_refusalToWait) := goodIn_app (goodIn_of _ (by decide +kernel)) ggX10_passNights_X3_refusalToWait
set_option maxRecDepth 20000 in
theorem ggX10_passNights_X10_throwFor : GoodIn wsX10_passNights wsX10_throwFor := goodIn_ca (goodIn_ca (goodIn_ca (goodIn_ca (goodIn_r _ [16, 17, 18, 19, 20, 21, 22, 23, 24, 25, 26, 27, 28] (by decide +kernel) (by decide +kernel)) (goodIn_sub (fun _ h => List.mem_cons_of_mem _ (List.mem_append_left _ (List.mem_append_left _ (List.mem_append_left _ (List.mem_append_left _ (List.mem_append_right _ h)))))) (by decide +kernel))) (goodIn_sub (fun _ h => List.mem_cons_of_mem _ (List.mem_append_left _ (List.mem_append_left _ (List.mem_append_left _ (List.mem_append_right _ h))))) (by decide +kernel))) (goodIn_sub (fun _ h => List.mem_cons_of_mem _ (List.mem_append_left _ (List.mem_append_left _ (List.mem_append_right _ h)))) (by decide +kernel))) (goodIn_sub (fun _ h => List.mem_cons_of_mem _ (List.mem_append_left _ (List.mem_append_right _ h))) (by decide +kernel))
set_option maxRecDepth 20000 in
theorem gX10_passNights_X10_throwFor : GoodIn wsX10_passNights (va_wsS RX10 58 yX10_throwFor wsX10_throwFor) := goodIn_app (goodIn_of _ (by decide +kernel)) ggX10_passNights_X10_throwFor
set_option maxRecDepth 20000 in
theorem ggX10_passNights_X5_remember : GoodIn wsX10_passNights wsX5_remember := goodIn_r _ [33, 34, 35, 36, 32, 37, 38, 39, 40, 41, 42, 6, 43, 44, 45, 46, 47, 48, 49, 50, 51, 52, 53, 54, 55, 56, 57, 58, 59, 60, 61, 62, 63, 64, 65, 66, 67, 68, 69, 70, 71, 72, 73, 74, 75, 76, 77, 78, 79, 80, 81, 82, 83, 84, 85, 86, 107, 108, 109, 110, 111, 112, 113, 114, 115, 116, 117, 118, 119, 120, 121, 122, 123, 124, 125, 126, 127, 128] (by decide +kernel) (by decide +kernel)
set_option maxRecDepth 20000 in
theorem gX10_passNights_X5_remember : GoodIn wsX10_passNights (wsV RX10 62 RX5 yX5_remember wsX5_remember) := goodIn_app (goodIn_of _ (by decide +kernel)) ggX10_passNights_X5_remember
set_option maxRecDepth 20000 in
theorem ggX10_passNights_X3_waitNights : GoodIn wsX10_passNights wsX3_waitNights := goodIn_ca (goodIn_r _ [90, 46, 44, 91, 92, 93, 53, 94, 55, 64, 95, 96, 85, 97, 110, 111, 112, 113, 114, 115, 116, 117, 118, 119, 120, 121] (by decide +kernel) (by decide +kernel)) (goodIn_sub (fun _ h => List.mem_cons_of_mem _ (List.mem_append_right _ h)) (by decide +kernel))
set_option maxRecDepth 20000 in
theorem gX10_passNights_X3_waitNights : GoodIn wsX10_passNights (wsV RX10 109 RX3 yX3_waitNights wsX3_waitNights) := goodIn_app (goodIn_of _ (by decide +kernel)) ggX10_passNights_X3_waitNights
theorem dX10_passNights_0 : decode cX10_passNights 0 = .ok (.aload_n 0, 1) := by decide +kernel
theorem dX10_passNights_1 : decode cX10_passNights 1 = .ok (.getfield 12, 3) := by decide +kernel
theorem dX10_passNights_4 : decode cX10_passNights 4 = .ok (.iload_n 1, 1) := by decide +kernel
theorem dX10_passNights_5 : decode cX10_passNights 5 = .ok (.invokevirtual 106, 3) := by decide +kernel
theorem dX10_passNights_8 : decode cX10_passNights 8 = .ok (.invokestatic 58, 3) := by decide +kernel
theorem dX10_passNights_11 : decode cX10_passNights 11 = .ok (.aload_n 0, 1) := by decide +kernel
theorem dX10_passNights_12 : decode cX10_passNights 12 = .ok (.getfield 19, 3) := by decide +kernel
theorem dX10_passNights_15 : decode cX10_passNights 15 = .ok (.aload_n 0, 1) := by decide +kernel
theorem dX10_passNights_16 : decode cX10_passNights 16 = .ok (.getfield 12, 3) := by decide +kernel
theorem dX10_passNights_19 : decode cX10_passNights 19 = .ok (.invokevirtual 62, 3) := by decide +kernel
theorem dX10_passNights_22 : decode cX10_passNights 22 = .ok (.aload_n 0, 1) := by decide +kernel
theorem dX10_passNights_23 : decode cX10_passNights 23 = .ok (.getfield 12, 3) := by decide +kernel
theorem dX10_passNights_26 : decode cX10_passNights 26 = .ok (.iload_n 1, 1) := by decide +kernel
theorem dX10_passNights_27 : decode cX10_passNights 27 = .ok (.invokevirtual 109, 3) := by decide +kernel
theorem dX10_passNights_30 : decode cX10_passNights 30 = .ok (.ireturn, 1) := by decide +kernel
set_option maxRecDepth 20000 in
theorem ggX10_closeBooks_X5_remember : GoodIn wsX10_closeBooks wsX5_remember := goodIn_r _ [8, 9, 10, 11, 7, 12, 13, 14, 15, 16, 17, 18, 19, 20, 21, 22, 23, 24, 25, 26, 27, 28, 29, 30, 31, 32, 33, 34, 35, 36, 37, 38, 39, 40, 41, 42, 43, 44, 45, 46, 47, 48, 49, 50, 51, 52, 53, 54, 55, 56, 57, 58, 59, 60, 61, 62, 82, 83, 84, 76, 77, 78, 79, 80, 81, 85, 86, 87, 88, 89, 90, 91, 92, 93, 94, 95, 96, 97] (by decide +kernel) (by decide +kernel)
set_option maxRecDepth 20000 in
theorem gX10_closeBooks_X5_remember : GoodIn wsX10_closeBooks (wsV RX10 62 RX5 yX5_remember wsX5_remember) := goodIn_app (goodIn_of _ (by decide +kernel)) ggX10_closeBooks_X5_remember
set_option maxRecDepth 20000 in
theorem ggX10_closeBooks_X2_close : GoodIn wsX10_closeBooks wsX2_close := goodIn_r _ [66, 50, 47, 49, 48, 34, 35, 36, 91, 92, 93, 94, 95, 96, 97] (by decide +kernel) (by decide +kernel)
set_option maxRecDepth 20000 in
theorem gX10_closeBooks_X2_close : GoodIn wsX10_closeBooks (wsV RX10 112 RX2 yX2_close wsX2_close) := goodIn_app (goodIn_of _ (by decide +kernel)) ggX10_closeBooks_X2_close
theorem dX10_closeBooks_0 : decode cX10_closeBooks 0 = .ok (.aload_n 0, 1) := by decide +kernel
theorem dX10_closeBooks_1 : decode cX10_closeBooks 1 = .ok (.getfield 19, 3) := by decide +kernel
theorem dX10_closeBooks_4 : decode cX10_closeBooks 4 = .ok (.aload_n 0, 1) := by decide +kernel
theorem dX10_closeBooks_5 : decode cX10_closeBooks 5 = .ok (.getfield 12, 3) := by decide +kernel
theorem dX10_closeBooks_8 : decode cX10_closeBooks 8 = .ok (.invokevirtual 62, 3) := by decide +kernel
theorem dX10_closeBooks_11 : decode cX10_closeBooks 11 = .ok (.aload_n 0, 1) := by decide +kernel
theorem dX10_closeBooks_12 : decode cX10_closeBooks 12 = .ok (.getfield 12, 3) := by decide +kernel
theorem dX10_closeBooks_15 : decode cX10_closeBooks 15 = .ok (.getfield 74, 3) := by decide +kernel
theorem dX10_closeBooks_18 : decode cX10_closeBooks 18 = .ok (.invokevirtual 112, 3) := by decide +kernel
theorem dX10_closeBooks_21 : decode cX10_closeBooks 21 = .ok (.ireturn, 1) := by decide +kernel
set_option maxRecDepth 20000 in
theorem ggX10_cancel_X3_refusalToOffset : GoodIn wsX10_cancel wsX3_refusalToOffset := goodIn_ca (goodIn_r _ [8, 9, 10, 11, 12, 13, 14, 15, 16, 17, 18, 19, 20, 21, 22, 23, 24, 25, 26, 27, 28, 29, 30, 31, 32, 33, 34, 35, 119, 120, 121, 122, 123, 124, 125, 126, 127, 128, 129, 130, 131] (by decide +kernel) (by decide +kernel)) (goodIn_sub (fun _ h => List.mem_cons_of_mem _ (List.mem_append_left _ (List.mem_append_left _ (List.mem_append_left _ (List.mem_append_left _ (List.mem_append_right _ h)))))) (by decide +kernel))
set_option maxRecDepth 20000 in
theorem gX10_cancel_X3_refusalToOffset : GoodIn wsX10_cancel (wsV RX10 116 RX3 yX3_refusalToOffset wsX3_refusalToOffset) := goodIn_app (goodIn_of _ (by decide +kernel)) ggX10_cancel_X3_refusalToOffset
set_option maxRecDepth 20000 in
theorem ggX10_cancel_X10_throwFor : GoodIn wsX10_cancel wsX10_throwFor := goodIn_ca (goodIn_ca (goodIn_ca (goodIn_ca (goodIn_r _ [39, 40, 41, 42, 43, 44, 45, 46, 47, 48, 49, 50, 51] (by decide +kernel) (by decide +kernel)) (goodIn_sub (fun _ h => List.mem_cons_of_mem _ (List.mem_append_left _ (List.mem_append_left _ (List.mem_append_left _ (List.mem_append_right _ h))))) (by decide +kernel))) (goodIn_sub (fun _ h => List.mem_cons_of_mem _ (List.mem_append_left _ (List.mem_append_left _ (List.mem_append_right _ h)))) (by decide +kernel))) (goodIn_sub (fun _ h => List.mem_cons_of_mem _ (List.mem_append_left _ (List.mem_append_right _ h))) (by decide +kernel))) (goodIn_sub (fun _ h => List.mem_cons_of_mem _ (List.mem_append_right _ h)) (by decide +kernel))
set_option maxRecDepth 20000 in
theorem gX10_cancel_X10_throwFor : GoodIn wsX10_cancel (va_wsS RX10 58 yX10_throwFor wsX10_throwFor) := goodIn_app (goodIn_of _ (by decide +kernel)) ggX10_cancel_X10_throwFor
set_option maxRecDepth 20000 in
theorem ggX10_cancel_X5_remember : GoodIn wsX10_cancel wsX5_remember := goodIn_r _ [56, 57, 58, 59, 55, 60, 61, 62, 63, 64, 65, 7, 66, 67, 9, 68, 69, 70, 71, 72, 73, 74, 75, 76, 77, 78, 79, 80, 81, 82, 83, 84, 85, 86, 87, 88, 89, 16, 90, 18, 23, 91, 92, 35, 93, 94, 95, 96, 97, 98, 99, 100, 101, 25, 26, 27, 132, 133, 134, 119, 120, 121, 122, 123, 124, 135, 136, 137, 138, 139, 140, 125, 126, 127, 128, 129, 130, 131] (by decide +kernel) (by decide +kernel)
set_option maxRecDepth 20000 in
theorem gX10_cancel_X5_remember : GoodIn wsX10_cancel (wsV RX10 62 RX5 yX5_remember wsX5_remember) := goodIn_app (goodIn_of _ (by decide +kernel)) ggX10_cancel_X5_remember
set_option maxRecDepth 20000 in
theorem ggX10_cancel_X2_offset : GoodIn wsX10_cancel wsX2_offset := goodIn_ca (goodIn_r _ [105, 23, 24, 25, 26, 27, 106, 107, 108, 16, 109, 35, 93, 94, 95, 125, 126, 127, 128, 129, 130, 131] (by decide +kernel) (by decide +kernel)) (goodIn_sub (fun _ h => List.mem_cons_of_mem _ (List.mem_append_left _ (List.mem_append_left _ (List.mem_append_left _ (List.mem_append_left _ (List.mem_append_right _ h)))))) (by decide +kernel))
set_option maxRecDepth 20000 in
theorem gX10_cancel_X2_offset : GoodIn wsX10_cancel (wsV RX10 119 RX2 yX2_offset wsX2_offset) := goodIn_app (goodIn_of _ (by decide +kernel)) ggX10_cancel_X2_offset
theorem dX10_cancel_0 : decode cX10_cancel 0 = .ok (.aload_n 0, 1) := by decide +kernel
theorem dX10_cancel_1 : decode cX10_cancel 1 = .ok (.getfield 12, 3) := by decide +kernel
theorem dX10_cancel_4 : decode cX10_cancel 4 = .ok (.iload_n 1, 1) := by decide +kernel
theorem dX10_cancel_5 : decode cX10_cancel 5 = .ok (.iload_n 2, 1) := by decide +kernel
theorem dX10_cancel_6 : decode cX10_cancel 6 = .ok (.invokevirtual 116, 3) := by decide +kernel
theorem dX10_cancel_9 : decode cX10_cancel 9 = .ok (.invokestatic 58, 3) := by decide +kernel
theorem dX10_cancel_12 : decode cX10_cancel 12 = .ok (.aload_n 0, 1) := by decide +kernel
theorem dX10_cancel_13 : decode cX10_cancel 13 = .ok (.getfield 19, 3) := by decide +kernel
theorem dX10_cancel_16 : decode cX10_cancel 16 = .ok (.aload_n 0, 1) := by decide +kernel
theorem dX10_cancel_17 : decode cX10_cancel 17 = .ok (.getfield 12, 3) := by decide +kernel
theorem dX10_cancel_20 : decode cX10_cancel 20 = .ok (.invokevirtual 62, 3) := by decide +kernel
theorem dX10_cancel_23 : decode cX10_cancel 23 = .ok (.aload_n 0, 1) := by decide +kernel
theorem dX10_cancel_24 : decode cX10_cancel 24 = .ok (.getfield 12, 3) := by decide +kernel
theorem dX10_cancel_27 : decode cX10_cancel 27 = .ok (.getfield 74, 3) := by decide +kernel
theorem dX10_cancel_30 : decode cX10_cancel 30 = .ok (.iload_n 1, 1) := by decide +kernel
theorem dX10_cancel_31 : decode cX10_cancel 31 = .ok (.iload_n 2, 1) := by decide +kernel
theorem dX10_cancel_32 : decode cX10_cancel 32 = .ok (.invokevirtual 119, 3) := by decide +kernel
theorem dX10_cancel_35 : decode cX10_cancel 35 = .ok (.ireturn, 1) := by decide +kernel
theorem dX10_acrobatCount_0 : decode cX10_acrobatCount 0 = .ok (.aload_n 0, 1) := by decide +kernel
theorem dX10_acrobatCount_1 : decode cX10_acrobatCount 1 = .ok (.getfield 12, 3) := by decide +kernel
theorem dX10_acrobatCount_4 : decode cX10_acrobatCount 4 = .ok (.getfield 122, 3) := by decide +kernel
theorem dX10_acrobatCount_7 : decode cX10_acrobatCount 7 = .ok (.getfield 126, 3) := by decide +kernel
theorem dX10_acrobatCount_10 : decode cX10_acrobatCount 10 = .ok (.ireturn, 1) := by decide +kernel
set_option maxRecDepth 20000 in
theorem ggX10_weight_X10_requireAcrobat : GoodIn wsX10_weight wsX10_requireAcrobat := goodIn_ca (goodIn_r _ [8, 9, 10, 1, 2, 11, 12, 13, 14, 15, 16, 17, 18, 19, 20, 21, 22, 23, 24, 25, 26, 27, 28, 29, 30, 31, 32, 33, 34, 35, 36, 37] (by decide +kernel) (by decide +kernel)) (goodIn_sub (fun _ h => List.mem_cons_of_mem _ (List.mem_append_right _ h)) (by decide +kernel))
set_option maxRecDepth 20000 in
theorem gX10_weight_X10_requireAcrobat : GoodIn wsX10_weight (wsV RX10 131 RX10 yX10_requireAcrobat wsX10_requireAcrobat) := goodIn_app (goodIn_of _ (by decide +kernel)) ggX10_weight_X10_requireAcrobat
theorem dX10_weight_0 : decode cX10_weight 0 = .ok (.aload_n 0, 1) := by decide +kernel
theorem dX10_weight_1 : decode cX10_weight 1 = .ok (.iload_n 1, 1) := by decide +kernel
theorem dX10_weight_2 : decode cX10_weight 2 = .ok (.invokevirtual 131, 3) := by decide +kernel
theorem dX10_weight_5 : decode cX10_weight 5 = .ok (.aload_n 0, 1) := by decide +kernel
theorem dX10_weight_6 : decode cX10_weight 6 = .ok (.getfield 12, 3) := by decide +kernel
theorem dX10_weight_9 : decode cX10_weight 9 = .ok (.getfield 122, 3) := by decide +kernel
theorem dX10_weight_12 : decode cX10_weight 12 = .ok (.getfield 135, 3) := by decide +kernel
theorem dX10_weight_15 : decode cX10_weight 15 = .ok (.iload_n 1, 1) := by decide +kernel
theorem dX10_weight_16 : decode cX10_weight 16 = .ok (.iaload, 1) := by decide +kernel
theorem dX10_weight_17 : decode cX10_weight 17 = .ok (.ireturn, 1) := by decide +kernel
set_option maxRecDepth 20000 in
theorem ggX10_strength_X10_requireAcrobat : GoodIn wsX10_strength wsX10_requireAcrobat := goodIn_ca (goodIn_r _ [8, 9, 10, 1, 2, 11, 12, 13, 14, 15, 16, 17, 18, 19, 20, 21, 22, 23, 24, 25, 26, 27, 28, 29, 30, 31, 32, 33, 34, 35, 36, 37] (by decide +kernel) (by decide +kernel)) (goodIn_sub (fun _ h => List.mem_cons_of_mem _ (List.mem_append_right _ h)) (by decide +kernel))
set_option maxRecDepth 20000 in
theorem gX10_strength_X10_requireAcrobat : GoodIn wsX10_strength (wsV RX10 131 RX10 yX10_requireAcrobat wsX10_requireAcrobat) := goodIn_app (goodIn_of _ (by decide +kernel)) ggX10_strength_X10_requireAcrobat
theorem dX10_strength_0 : decode cX10_strength 0 = .ok (.aload_n 0, 1) := by decide +kernel
theorem dX10_strength_1 : decode cX10_strength 1 = .ok (.iload_n 1, 1) := by decide +kernel
theorem dX10_strength_2 : decode cX10_strength 2 = .ok (.invokevirtual 131, 3) := by decide +kernel
theorem dX10_strength_5 : decode cX10_strength 5 = .ok (.aload_n 0, 1) := by decide +kernel
theorem dX10_strength_6 : decode cX10_strength 6 = .ok (.getfield 12, 3) := by decide +kernel
theorem dX10_strength_9 : decode cX10_strength 9 = .ok (.getfield 122, 3) := by decide +kernel
theorem dX10_strength_12 : decode cX10_strength 12 = .ok (.getfield 139, 3) := by decide +kernel
theorem dX10_strength_15 : decode cX10_strength 15 = .ok (.iload_n 1, 1) := by decide +kernel
theorem dX10_strength_16 : decode cX10_strength 16 = .ok (.iaload, 1) := by decide +kernel
theorem dX10_strength_17 : decode cX10_strength 17 = .ok (.ireturn, 1) := by decide +kernel
set_option maxRecDepth 20000 in
theorem ggX10_height_X10_requireAcrobat : GoodIn wsX10_height wsX10_requireAcrobat := goodIn_ca (goodIn_r _ [8, 9, 10, 1, 2, 11, 12, 13, 14, 15, 16, 17, 18, 19, 20, 21, 22, 23, 24, 25, 26, 27, 28, 29, 30, 31, 32, 33, 34, 35, 36, 37] (by decide +kernel) (by decide +kernel)) (goodIn_sub (fun _ h => List.mem_cons_of_mem _ (List.mem_append_right _ h)) (by decide +kernel))
set_option maxRecDepth 20000 in
theorem gX10_height_X10_requireAcrobat : GoodIn wsX10_height (wsV RX10 131 RX10 yX10_requireAcrobat wsX10_requireAcrobat) := goodIn_app (goodIn_of _ (by decide +kernel)) ggX10_height_X10_requireAcrobat
theorem dX10_height_0 : decode cX10_height 0 = .ok (.aload_n 0, 1) := by decide +kernel
theorem dX10_height_1 : decode cX10_height 1 = .ok (.iload_n 1, 1) := by decide +kernel
theorem dX10_height_2 : decode cX10_height 2 = .ok (.invokevirtual 131, 3) := by decide +kernel
theorem dX10_height_5 : decode cX10_height 5 = .ok (.aload_n 0, 1) := by decide +kernel
theorem dX10_height_6 : decode cX10_height 6 = .ok (.getfield 12, 3) := by decide +kernel
theorem dX10_height_9 : decode cX10_height 9 = .ok (.getfield 122, 3) := by decide +kernel
theorem dX10_height_12 : decode cX10_height 12 = .ok (.getfield 142, 3) := by decide +kernel
theorem dX10_height_15 : decode cX10_height 15 = .ok (.iload_n 1, 1) := by decide +kernel
theorem dX10_height_16 : decode cX10_height 16 = .ok (.iaload, 1) := by decide +kernel
theorem dX10_height_17 : decode cX10_height 17 = .ok (.ireturn, 1) := by decide +kernel
set_option maxRecDepth 20000 in
theorem ggX10_wage_X10_requireAcrobat : GoodIn wsX10_wage wsX10_requireAcrobat := goodIn_ca (goodIn_r _ [8, 9, 10, 1, 2, 11, 12, 13, 14, 15, 16, 17, 18, 19, 20, 21, 22, 23, 24, 25, 26, 27, 28, 29, 30, 31, 32, 33, 34, 35, 36, 37] (by decide +kernel) (by decide +kernel)) (goodIn_sub (fun _ h => List.mem_cons_of_mem _ (List.mem_append_right _ h)) (by decide +kernel))
set_option maxRecDepth 20000 in
theorem gX10_wage_X10_requireAcrobat : GoodIn wsX10_wage (wsV RX10 131 RX10 yX10_requireAcrobat wsX10_requireAcrobat) := goodIn_app (goodIn_of _ (by decide +kernel)) ggX10_wage_X10_requireAcrobat
theorem dX10_wage_0 : decode cX10_wage 0 = .ok (.aload_n 0, 1) := by decide +kernel
theorem dX10_wage_1 : decode cX10_wage 1 = .ok (.iload_n 1, 1) := by decide +kernel
theorem dX10_wage_2 : decode cX10_wage 2 = .ok (.invokevirtual 131, 3) := by decide +kernel
theorem dX10_wage_5 : decode cX10_wage 5 = .ok (.aload_n 0, 1) := by decide +kernel
theorem dX10_wage_6 : decode cX10_wage 6 = .ok (.getfield 12, 3) := by decide +kernel
theorem dX10_wage_9 : decode cX10_wage 9 = .ok (.getfield 122, 3) := by decide +kernel
theorem dX10_wage_12 : decode cX10_wage 12 = .ok (.getfield 145, 3) := by decide +kernel
theorem dX10_wage_15 : decode cX10_wage 15 = .ok (.iload_n 1, 1) := by decide +kernel
theorem dX10_wage_16 : decode cX10_wage 16 = .ok (.iaload, 1) := by decide +kernel
theorem dX10_wage_17 : decode cX10_wage 17 = .ok (.ireturn, 1) := by decide +kernel
set_option maxRecDepth 20000 in
theorem ggX10_isInjured_X10_requireAcrobat : GoodIn wsX10_isInjured wsX10_requireAcrobat := goodIn_ca (goodIn_r _ [8, 9, 10, 1, 2, 11, 12, 13, 14, 15, 16, 17, 18, 19, 20, 21, 22, 23, 24, 25, 26, 27, 28, 29, 30, 31, 32, 33, 34, 35, 36, 37] (by decide +kernel) (by decide +kernel)) (goodIn_sub (fun _ h => List.mem_cons_of_mem _ (List.mem_append_right _ h)) (by decide +kernel))
set_option maxRecDepth 20000 in
theorem gX10_isInjured_X10_requireAcrobat : GoodIn wsX10_isInjured (wsV RX10 131 RX10 yX10_requireAcrobat wsX10_requireAcrobat) := goodIn_app (goodIn_of _ (by decide +kernel)) ggX10_isInjured_X10_requireAcrobat
theorem dX10_isInjured_0 : decode cX10_isInjured 0 = .ok (.aload_n 0, 1) := by decide +kernel
theorem dX10_isInjured_1 : decode cX10_isInjured 1 = .ok (.iload_n 1, 1) := by decide +kernel
theorem dX10_isInjured_2 : decode cX10_isInjured 2 = .ok (.invokevirtual 131, 3) := by decide +kernel
theorem dX10_isInjured_5 : decode cX10_isInjured 5 = .ok (.aload_n 0, 1) := by decide +kernel
theorem dX10_isInjured_6 : decode cX10_isInjured 6 = .ok (.getfield 12, 3) := by decide +kernel
theorem dX10_isInjured_9 : decode cX10_isInjured 9 = .ok (.getfield 122, 3) := by decide +kernel
theorem dX10_isInjured_12 : decode cX10_isInjured 12 = .ok (.getfield 148, 3) := by decide +kernel
theorem dX10_isInjured_15 : decode cX10_isInjured 15 = .ok (.iload_n 1, 1) := by decide +kernel
theorem dX10_isInjured_16 : decode cX10_isInjured 16 = .ok (.iaload, 1) := by decide +kernel
theorem dX10_isInjured_17 : decode cX10_isInjured 17 = .ok (.ifCond .le 7, 3) := by decide +kernel
theorem dX10_isInjured_20 : decode cX10_isInjured 20 = .ok (.iconst 1, 1) := by decide +kernel
theorem dX10_isInjured_21 : decode cX10_isInjured 21 = .ok (.goto 4, 3) := by decide +kernel
theorem dX10_isInjured_24 : decode cX10_isInjured 24 = .ok (.iconst 0, 1) := by decide +kernel
theorem dX10_isInjured_25 : decode cX10_isInjured 25 = .ok (.ireturn, 1) := by decide +kernel
set_option maxRecDepth 20000 in
theorem ggX10_nightsUntilFit_X10_requireAcrobat : GoodIn wsX10_nightsUntilFit wsX10_requireAcrobat := goodIn_ca (goodIn_r _ [8, 9, 10, 1, 2, 11, 12, 13, 14, 15, 16, 17, 18, 19, 20, 21, 22, 23, 24, 25, 26, 27, 28, 29, 30, 31, 32, 33, 34, 35, 36, 37] (by decide +kernel) (by decide +kernel)) (goodIn_sub (fun _ h => List.mem_cons_of_mem _ (List.mem_append_right _ h)) (by decide +kernel))
set_option maxRecDepth 20000 in
theorem gX10_nightsUntilFit_X10_requireAcrobat : GoodIn wsX10_nightsUntilFit (wsV RX10 131 RX10 yX10_requireAcrobat wsX10_requireAcrobat) := goodIn_app (goodIn_of _ (by decide +kernel)) ggX10_nightsUntilFit_X10_requireAcrobat
theorem dX10_nightsUntilFit_0 : decode cX10_nightsUntilFit 0 = .ok (.aload_n 0, 1) := by decide +kernel
theorem dX10_nightsUntilFit_1 : decode cX10_nightsUntilFit 1 = .ok (.iload_n 1, 1) := by decide +kernel
theorem dX10_nightsUntilFit_2 : decode cX10_nightsUntilFit 2 = .ok (.invokevirtual 131, 3) := by decide +kernel
theorem dX10_nightsUntilFit_5 : decode cX10_nightsUntilFit 5 = .ok (.aload_n 0, 1) := by decide +kernel
theorem dX10_nightsUntilFit_6 : decode cX10_nightsUntilFit 6 = .ok (.getfield 12, 3) := by decide +kernel
theorem dX10_nightsUntilFit_9 : decode cX10_nightsUntilFit 9 = .ok (.getfield 122, 3) := by decide +kernel
theorem dX10_nightsUntilFit_12 : decode cX10_nightsUntilFit 12 = .ok (.getfield 148, 3) := by decide +kernel
theorem dX10_nightsUntilFit_15 : decode cX10_nightsUntilFit 15 = .ok (.iload_n 1, 1) := by decide +kernel
theorem dX10_nightsUntilFit_16 : decode cX10_nightsUntilFit 16 = .ok (.iaload, 1) := by decide +kernel
theorem dX10_nightsUntilFit_17 : decode cX10_nightsUntilFit 17 = .ok (.ireturn, 1) := by decide +kernel
set_option maxRecDepth 20000 in
theorem ggX10_canStand_X10_requireSet : GoodIn wsX10_canStand wsX10_requireSet := goodIn_ca (goodIn_r _ [7, 8, 9, 1, 2, 10, 11, 12, 13, 14, 15, 34, 35, 36, 37, 38, 39, 40, 41, 42, 43, 44, 45, 46, 47, 48, 49, 50, 51, 52, 53, 54] (by decide +kernel) (by decide +kernel)) (goodIn_sub (fun _ h => List.mem_cons_of_mem _ (List.mem_append_left _ (List.mem_append_right _ h))) (by decide +kernel))
set_option maxRecDepth 20000 in
theorem gX10_canStand_X10_requireSet : GoodIn wsX10_canStand (wsV RX10 151 RX10 yX10_requireSet wsX10_requireSet) := goodIn_app (goodIn_of _ (by decide +kernel)) ggX10_canStand_X10_requireSet
set_option maxRecDepth 20000 in
theorem ggX10_canStand_X9_overloadedOf : GoodIn wsX10_canStand wsX9_overloadedOf := goodIn_ca (goodIn_r _ [19, 15, 20, 21, 22, 23, 13, 24, 25, 26, 27, 28, 29, 30, 31, 32, 33, 49, 50, 51, 52, 53, 54] (by decide +kernel) (by decide +kernel)) (goodIn_sub (fun _ h => List.mem_cons_of_mem _ (List.mem_append_right _ h)) (by decide +kernel))
set_option maxRecDepth 20000 in
theorem gX10_canStand_X9_overloadedOf : GoodIn wsX10_canStand (wsV RX10 154 RX9 yX9_overloadedOf wsX9_overloadedOf) := goodIn_app (goodIn_of _ (by decide +kernel)) ggX10_canStand_X9_overloadedOf
theorem dX10_canStand_0 : decode cX10_canStand 0 = .ok (.aload_n 0, 1) := by decide +kernel
theorem dX10_canStand_1 : decode cX10_canStand 1 = .ok (.iload_n 1, 1) := by decide +kernel
theorem dX10_canStand_2 : decode cX10_canStand 2 = .ok (.invokevirtual 151, 3) := by decide +kernel
theorem dX10_canStand_5 : decode cX10_canStand 5 = .ok (.aload_n 0, 1) := by decide +kernel
theorem dX10_canStand_6 : decode cX10_canStand 6 = .ok (.getfield 12, 3) := by decide +kernel
theorem dX10_canStand_9 : decode cX10_canStand 9 = .ok (.getfield 122, 3) := by decide +kernel
theorem dX10_canStand_12 : decode cX10_canStand 12 = .ok (.iload_n 1, 1) := by decide +kernel
theorem dX10_canStand_13 : decode cX10_canStand 13 = .ok (.invokevirtual 154, 3) := by decide +kernel
theorem dX10_canStand_16 : decode cX10_canStand 16 = .ok (.iconst (-1), 1) := by decide +kernel
theorem dX10_canStand_17 : decode cX10_canStand 17 = .ok (.if_icmp .ne 7, 3) := by decide +kernel
theorem dX10_canStand_20 : decode cX10_canStand 20 = .ok (.iconst 1, 1) := by decide +kernel
theorem dX10_canStand_21 : decode cX10_canStand 21 = .ok (.goto 4, 3) := by decide +kernel
theorem dX10_canStand_24 : decode cX10_canStand 24 = .ok (.iconst 0, 1) := by decide +kernel
theorem dX10_canStand_25 : decode cX10_canStand 25 = .ok (.ireturn, 1) := by decide +kernel
set_option maxRecDepth 20000 in
theorem ggX10_acrobatAt_X10_requireSet : GoodIn wsX10_acrobatAt wsX10_requireSet := goodIn_ca (goodIn_r _ [7, 8, 9, 1, 2, 10, 11, 12, 13, 14, 15, 39, 40, 41, 42, 43, 44, 45, 46, 47, 48, 49, 50, 51, 52, 53, 54, 55, 56, 57, 58, 59] (by decide +kernel) (by decide +kernel)) (goodIn_sub (fun _ h => List.mem_cons_of_mem _ (List.mem_append_left _ (List.mem_append_left _ (List.mem_append_right _ h)))) (by decide +kernel))
set_option maxRecDepth 20000 in
theorem gX10_acrobatAt_X10_requireSet : GoodIn wsX10_acrobatAt (wsV RX10 151 RX10 yX10_requireSet wsX10_requireSet) := goodIn_app (goodIn_of _ (by decide +kernel)) ggX10_acrobatAt_X10_requireSet
set_option maxRecDepth 20000 in
theorem ggX10_acrobatAt_X9_memberAt : GoodIn wsX10_acrobatAt wsX9_memberAt := goodIn_ca (goodIn_r _ [19, 15, 20, 21, 22, 13, 23, 24, 25, 26, 27, 28, 29, 30, 31, 32, 33, 54, 55, 56, 57, 58, 59] (by decide +kernel) (by decide +kernel)) (goodIn_sub (fun _ h => List.mem_cons_of_mem _ (List.mem_append_left _ (List.mem_append_right _ h))) (by decide +kernel))
set_option maxRecDepth 20000 in
theorem gX10_acrobatAt_X9_memberAt : GoodIn wsX10_acrobatAt (wsV RX10 157 RX9 yX9_memberAt wsX9_memberAt) := goodIn_app (goodIn_of _ (by decide +kernel)) ggX10_acrobatAt_X9_memberAt
set_option maxRecDepth 20000 in
theorem ggX10_acrobatAt_X10_requireFound : GoodIn wsX10_acrobatAt wsX10_requireFound := goodIn_ca (goodIn_r _ [36, 37, 38] (by decide +kernel) (by decide +kernel)) (goodIn_sub (fun _ h => List.mem_cons_of_mem _ (List.mem_append_right _ h)) (by decide +kernel))
set_option maxRecDepth 20000 in
theorem gX10_acrobatAt_X10_requireFound : GoodIn wsX10_acrobatAt (va_wsS RX10 160 yX10_requireFound wsX10_requireFound) := goodIn_app (goodIn_of _ (by decide +kernel)) ggX10_acrobatAt_X10_requireFound
theorem dX10_acrobatAt_0 : decode cX10_acrobatAt 0 = .ok (.aload_n 0, 1) := by decide +kernel
theorem dX10_acrobatAt_1 : decode cX10_acrobatAt 1 = .ok (.iload_n 1, 1) := by decide +kernel
theorem dX10_acrobatAt_2 : decode cX10_acrobatAt 2 = .ok (.invokevirtual 151, 3) := by decide +kernel
theorem dX10_acrobatAt_5 : decode cX10_acrobatAt 5 = .ok (.aload_n 0, 1) := by decide +kernel
theorem dX10_acrobatAt_6 : decode cX10_acrobatAt 6 = .ok (.getfield 12, 3) := by decide +kernel
theorem dX10_acrobatAt_9 : decode cX10_acrobatAt 9 = .ok (.getfield 122, 3) := by decide +kernel
theorem dX10_acrobatAt_12 : decode cX10_acrobatAt 12 = .ok (.iload_n 1, 1) := by decide +kernel
theorem dX10_acrobatAt_13 : decode cX10_acrobatAt 13 = .ok (.iload_n 2, 1) := by decide +kernel
theorem dX10_acrobatAt_14 : decode cX10_acrobatAt 14 = .ok (.invokevirtual 157, 3) := by decide +kernel
theorem dX10_acrobatAt_17 : decode cX10_acrobatAt 17 = .ok (.invokestatic 160, 3) := by decide +kernel
theorem dX10_acrobatAt_20 : decode cX10_acrobatAt 20 = .ok (.ireturn, 1) := by decide +kernel
set_option maxRecDepth 20000 in
theorem ggX10_loadOn_X10_requireSet : GoodIn wsX10_loadOn wsX10_requireSet := goodIn_ca (goodIn_r _ [9, 10, 11, 3, 4, 12, 13, 14, 15, 16, 17, 33, 34, 35, 36, 37, 38, 39, 40, 41, 42, 43, 44, 45, 46, 47, 48, 49, 50, 51, 52, 53] (by decide +kernel) (by decide +kernel)) (goodIn_sub (fun _ h => List.mem_cons_of_mem _ (List.mem_append_left _ (List.mem_append_right _ h))) (by decide +kernel))
set_option maxRecDepth 20000 in
theorem gX10_loadOn_X10_requireSet : GoodIn wsX10_loadOn (wsV RX10 151 RX10 yX10_requireSet wsX10_requireSet) := goodIn_app (goodIn_of _ (by decide +kernel)) ggX10_loadOn_X10_requireSet
set_option maxRecDepth 20000 in
theorem ggX10_loadOn_X9_isMember : GoodIn wsX10_loadOn wsX9_isMember := goodIn_r _ [21, 17, 48, 49, 50, 51, 52, 53] (by decide +kernel) (by decide +kernel)
set_option maxRecDepth 20000 in
theorem gX10_loadOn_X9_isMember : GoodIn wsX10_loadOn (wsV RX10 163 RX9 yX9_isMember wsX9_isMember) := goodIn_app (goodIn_of _ (by decide +kernel)) ggX10_loadOn_X9_isMember
set_option maxRecDepth 20000 in
theorem ggX10_loadOn_X9_loadOf : GoodIn wsX10_loadOn wsX9_loadOf := goodIn_ca (goodIn_r _ [25, 17, 26, 27, 19, 20, 15, 21, 28, 29, 30, 31, 32, 48, 49, 50, 51, 52, 53] (by decide +kernel) (by decide +kernel)) (goodIn_sub (fun _ h => List.mem_cons_of_mem _ (List.mem_append_right _ h)) (by decide +kernel))
set_option maxRecDepth 20000 in
theorem gX10_loadOn_X9_loadOf : GoodIn wsX10_loadOn (wsV RX10 174 RX9 yX9_loadOf wsX9_loadOf) := goodIn_app (goodIn_of _ (by decide +kernel)) ggX10_loadOn_X9_loadOf
theorem dX10_loadOn_0 : decode cX10_loadOn 0 = .ok (.aload_n 0, 1) := by decide +kernel
theorem dX10_loadOn_1 : decode cX10_loadOn 1 = .ok (.iload_n 1, 1) := by decide +kernel
theorem dX10_loadOn_2 : decode cX10_loadOn 2 = .ok (.invokevirtual 151, 3) := by decide +kernel
theorem dX10_loadOn_5 : decode cX10_loadOn 5 = .ok (.aload_n 0, 1) := by decide +kernel
theorem dX10_loadOn_6 : decode cX10_loadOn 6 = .ok (.getfield 12, 3) := by decide +kernel
theorem dX10_loadOn_9 : decode cX10_loadOn 9 = .ok (.getfield 122, 3) := by decide +kernel
theorem dX10_loadOn_12 : decode cX10_loadOn 12 = .ok (.iload_n 1, 1) := by decide +kernel
theorem dX10_loadOn_13 : decode cX10_loadOn 13 = .ok (.iload_n 2, 1) := by decide +kernel
theorem dX10_loadOn_14 : decode cX10_loadOn 14 = .ok (.invokevirtual 163, 3) := by decide +kernel
theorem dX10_loadOn_17 : decode cX10_loadOn 17 = .ok (.ifCond .ne 13, 3) := by decide +kernel
theorem dX10_loadOn_20 : decode cX10_loadOn 20 = .ok (.new 167, 3) := by decide +kernel
theorem dX10_loadOn_23 : decode cX10_loadOn 23 = .ok (.dup, 1) := by decide +kernel
theorem dX10_loadOn_24 : decode cX10_loadOn 24 = .ok (.ldc 169, 2) := by decide +kernel
theorem dX10_loadOn_26 : decode cX10_loadOn 26 = .ok (.invokespecial 171, 3) := by decide +kernel
theorem dX10_loadOn_29 : decode cX10_loadOn 29 = .ok (.athrow, 1) := by decide +kernel
theorem dX10_loadOn_30 : decode cX10_loadOn 30 = .ok (.aload_n 0, 1) := by decide +kernel
theorem dX10_loadOn_31 : decode cX10_loadOn 31 = .ok (.getfield 12, 3) := by decide +kernel
theorem dX10_loadOn_34 : decode cX10_loadOn 34 = .ok (.getfield 122, 3) := by decide +kernel
theorem dX10_loadOn_37 : decode cX10_loadOn 37 = .ok (.iload_n 1, 1) := by decide +kernel
theorem dX10_loadOn_38 : decode cX10_loadOn 38 = .ok (.iload_n 2, 1) := by decide +kernel
theorem dX10_loadOn_39 : decode cX10_loadOn 39 = .ok (.invokevirtual 174, 3) := by decide +kernel
theorem dX10_loadOn_42 : decode cX10_loadOn 42 = .ok (.ireturn, 1) := by decide +kernel
set_option maxRecDepth 20000 in
theorem ggX10_columnHeight_X10_requireSet : GoodIn wsX10_columnHeight wsX10_requireSet := goodIn_ca (goodIn_r _ [7, 8, 9, 1, 2, 10, 11, 12, 13, 14, 15, 25, 26, 27, 28, 29, 30, 31, 32, 33, 34, 35, 36, 37, 38, 39, 40, 41, 42, 43, 44, 45] (by decide +kernel) (by decide +kernel)) (goodIn_sub (fun _ h => List.mem_cons_of_mem _ (List.mem_append_left _ (List.mem_append_right _ h))) (by decide +kernel))
set_option maxRecDepth 20000 in
theorem gX10_columnHeight_X10_requireSet : GoodIn wsX10_columnHeight (wsV RX10 151 RX10 yX10_requireSet wsX10_requireSet) := goodIn_app (goodIn_of _ (by decide +kernel)) ggX10_columnHeight_X10_requireSet
set_option maxRecDepth 20000 in
theorem ggX10_columnHeight_X9_heightOf : GoodIn wsX10_columnHeight wsX9_heightOf := goodIn_ca (goodIn_r _ [19, 15, 20, 21, 22, 23, 13, 24, 40, 41, 42, 43, 44, 45] (by decide +kernel) (by decide +kernel)) (goodIn_sub (fun _ h => List.mem_cons_of_mem _ (List.mem_append_right _ h)) (by decide +kernel))
set_option maxRecDepth 20000 in
theorem gX10_columnHeight_X9_heightOf : GoodIn wsX10_columnHeight (wsV RX10 177 RX9 yX9_heightOf wsX9_heightOf) := goodIn_app (goodIn_of _ (by decide +kernel)) ggX10_columnHeight_X9_heightOf
theorem dX10_columnHeight_0 : decode cX10_columnHeight 0 = .ok (.aload_n 0, 1) := by decide +kernel
theorem dX10_columnHeight_1 : decode cX10_columnHeight 1 = .ok (.iload_n 1, 1) := by decide +kernel
theorem dX10_columnHeight_2 : decode cX10_columnHeight 2 = .ok (.invokevirtual 151, 3) := by decide +kernel
theorem dX10_columnHeight_5 : decode cX10_columnHeight 5 = .ok (.aload_n 0, 1) := by decide +kernel
theorem dX10_columnHeight_6 : decode cX10_columnHeight 6 = .ok (.getfield 12, 3) := by decide +kernel
theorem dX10_columnHeight_9 : decode cX10_columnHeight 9 = .ok (.getfield 122, 3) := by decide +kernel
theorem dX10_columnHeight_12 : decode cX10_columnHeight 12 = .ok (.iload_n 1, 1) := by decide +kernel
theorem dX10_columnHeight_13 : decode cX10_columnHeight 13 = .ok (.invokevirtual 177, 3) := by decide +kernel
theorem dX10_columnHeight_16 : decode cX10_columnHeight 16 = .ok (.ireturn, 1) := by decide +kernel
set_option maxRecDepth 20000 in
theorem ggX10_overloaded_X10_requireSet : GoodIn wsX10_overloaded wsX10_requireSet := goodIn_ca (goodIn_r _ [7, 8, 9, 1, 2, 10, 11, 12, 13, 14, 15, 39, 40, 41, 42, 43, 44, 45, 46, 47, 48, 49, 50, 51, 52, 53, 54, 55, 56, 57, 58, 59] (by decide +kernel) (by decide +kernel)) (goodIn_sub (fun _ h => List.mem_cons_of_mem _ (List.mem_append_left _ (List.mem_append_left _ (List.mem_append_right _ h)))) (by decide +kernel))
set_option maxRecDepth 20000 in
theorem gX10_overloaded_X10_requireSet : GoodIn wsX10_overloaded (wsV RX10 151 RX10 yX10_requireSet wsX10_requireSet) := goodIn_app (goodIn_of _ (by decide +kernel)) ggX10_overloaded_X10_requireSet
set_option maxRecDepth 20000 in
theorem ggX10_overloaded_X9_overloadedOf : GoodIn wsX10_overloaded wsX9_overloadedOf := goodIn_ca (goodIn_r _ [19, 15, 20, 21, 22, 23, 13, 24, 25, 26, 27, 28, 29, 30, 31, 32, 33, 54, 55, 56, 57, 58, 59] (by decide +kernel) (by decide +kernel)) (goodIn_sub (fun _ h => List.mem_cons_of_mem _ (List.mem_append_left _ (List.mem_append_right _ h))) (by decide +kernel))
set_option maxRecDepth 20000 in
theorem gX10_overloaded_X9_overloadedOf : GoodIn wsX10_overloaded (wsV RX10 154 RX9 yX9_overloadedOf wsX9_overloadedOf) := goodIn_app (goodIn_of _ (by decide +kernel)) ggX10_overloaded_X9_overloadedOf
set_option maxRecDepth 20000 in
theorem ggX10_overloaded_X10_requireFound : GoodIn wsX10_overloaded wsX10_requireFound := goodIn_ca (goodIn_r _ [36, 37, 38] (by decide +kernel) (by decide +kernel)) (goodIn_sub (fun _ h => List.mem_cons_of_mem _ (List.mem_append_right _ h)) (by decide +kernel))
set_option maxRecDepth 20000 in
theorem gX10_overloaded_X10_requireFound : GoodIn wsX10_overloaded (va_wsS RX10 160 yX10_requireFound wsX10_requireFound) := goodIn_app (goodIn_of _ (by decide +kernel)) ggX10_overloaded_X10_requireFound
theorem dX10_overloaded_0 : decode cX10_overloaded 0 = .ok (.aload_n 0, 1) := by decide +kernel
theorem dX10_overloaded_1 : decode cX10_overloaded 1 = .ok (.iload_n 1, 1) := by decide +kernel
theorem dX10_overloaded_2 : decode cX10_overloaded 2 = .ok (.invokevirtual 151, 3) := by decide +kernel
theorem dX10_overloaded_5 : decode cX10_overloaded 5 = .ok (.aload_n 0, 1) := by decide +kernel
theorem dX10_overloaded_6 : decode cX10_overloaded 6 = .ok (.getfield 12, 3) := by decide +kernel
theorem dX10_overloaded_9 : decode cX10_overloaded 9 = .ok (.getfield 122, 3) := by decide +kernel
theorem dX10_overloaded_12 : decode cX10_overloaded 12 = .ok (.iload_n 1, 1) := by decide +kernel
theorem dX10_overloaded_13 : decode cX10_overloaded 13 = .ok (.invokevirtual 154, 3) := by decide +kernel
theorem dX10_overloaded_16 : decode cX10_overloaded 16 = .ok (.invokestatic 160, 3) := by decide +kernel
theorem dX10_overloaded_19 : decode cX10_overloaded 19 = .ok (.ireturn, 1) := by decide +kernel
set_option maxRecDepth 20000 in
theorem ggX10_damages_X10_requireSet : GoodIn wsX10_damages wsX10_requireSet := goodIn_ca (goodIn_r _ [7, 8, 9, 1, 2, 10, 11, 12, 13, 14, 15, 53, 54, 55, 56, 57, 58, 59, 60, 61, 62, 63, 64, 65, 66, 67, 68, 69, 70, 71, 72, 73] (by decide +kernel) (by decide +kernel)) (goodIn_sub (fun _ h => List.mem_cons_of_mem _ (List.mem_append_left _ (List.mem_append_right _ h))) (by decide +kernel))
set_option maxRecDepth 20000 in
theorem gX10_damages_X10_requireSet : GoodIn wsX10_damages (wsV RX10 151 RX10 yX10_requireSet wsX10_requireSet) := goodIn_app (goodIn_of _ (by decide +kernel)) ggX10_damages_X10_requireSet
set_option maxRecDepth 20000 in
theorem ggX10_damages_X9_damagesOf : GoodIn wsX10_damages wsX9_damagesOf := goodIn_ca (goodIn_r _ [19, 20, 21, 22, 13, 23, 15, 24, 25, 26, 27, 28, 29, 30, 31, 32, 33, 34, 35, 36, 37, 38, 39, 40, 41, 42, 43, 44, 45, 46, 47, 48, 49, 50, 51, 52, 68, 69, 70, 71, 72, 73] (by decide +kernel) (by decide +kernel)) (goodIn_sub (fun _ h => List.mem_cons_of_mem _ (List.mem_append_right _ h)) (by decide +kernel))
set_option maxRecDepth 20000 in
theorem gX10_damages_X9_damagesOf : GoodIn wsX10_damages (wsV RX10 180 RX9 yX9_damagesOf wsX9_damagesOf) := goodIn_app (goodIn_of _ (by decide +kernel)) ggX10_damages_X9_damagesOf
theorem dX10_damages_0 : decode cX10_damages 0 = .ok (.aload_n 0, 1) := by decide +kernel
theorem dX10_damages_1 : decode cX10_damages 1 = .ok (.iload_n 1, 1) := by decide +kernel
theorem dX10_damages_2 : decode cX10_damages 2 = .ok (.invokevirtual 151, 3) := by decide +kernel
theorem dX10_damages_5 : decode cX10_damages 5 = .ok (.aload_n 0, 1) := by decide +kernel
theorem dX10_damages_6 : decode cX10_damages 6 = .ok (.getfield 12, 3) := by decide +kernel
theorem dX10_damages_9 : decode cX10_damages 9 = .ok (.getfield 122, 3) := by decide +kernel
theorem dX10_damages_12 : decode cX10_damages 12 = .ok (.iload_n 1, 1) := by decide +kernel
theorem dX10_damages_13 : decode cX10_damages 13 = .ok (.invokevirtual 180, 3) := by decide +kernel
theorem dX10_damages_16 : decode cX10_damages 16 = .ok (.ireturn, 1) := by decide +kernel
set_option maxRecDepth 20000 in
theorem ggX10_isCovered_X10_requireSet : GoodIn wsX10_isCovered wsX10_requireSet := goodIn_ca (goodIn_r _ [9, 10, 11, 1, 4, 12, 13, 14, 15, 16, 17, 55, 56, 57, 58, 59, 60, 61, 62, 63, 64, 65, 66, 67, 68, 69, 77, 78, 79, 80, 81, 82] (by decide +kernel) (by decide +kernel)) (goodIn_sub (fun _ h => List.mem_cons_of_mem _ (List.mem_append_right _ h)) (by decide +kernel))
set_option maxRecDepth 20000 in
theorem gX10_isCovered_X10_requireSet : GoodIn wsX10_isCovered (wsV RX10 151 RX10 yX10_requireSet wsX10_requireSet) := goodIn_app (goodIn_of _ (by decide +kernel)) ggX10_isCovered_X10_requireSet
set_option maxRecDepth 20000 in
theorem ggX10_isCovered_X9_damagesOf : GoodIn wsX10_isCovered wsX9_damagesOf := goodIn_ca (goodIn_r _ [21, 22, 23, 24, 15, 25, 17, 26, 27, 28, 29, 30, 31, 32, 33, 34, 35, 36, 37, 38, 39, 40, 41, 42, 43, 44, 45, 46, 47, 48, 49, 50, 51, 52, 53, 54, 77, 78, 79, 80, 81, 82] (by decide +kernel) (by decide +kernel)) (goodIn_sub (fun _ h => List.mem_cons_of_mem _ (List.mem_append_left _ (List.mem_append_right _ h))) (by decide +kernel))
set_option maxRecDepth 20000 in
theorem gX10_isCovered_X9_damagesOf : GoodIn wsX10_isCovered (wsV RX10 180 RX9 yX9_damagesOf wsX9_damagesOf) := goodIn_app (goodIn_of _ (by decide +kernel)) ggX10_isCovered_X9_damagesOf
theorem dX10_isCovered_0 : decode cX10_isCovered 0 = .ok (.aload_n 0, 1) := by decide +kernel
theorem dX10_isCovered_1 : decode cX10_isCovered 1 = .ok (.iload_n 1, 1) := by decide +kernel
theorem dX10_isCovered_2 : decode cX10_isCovered 2 = .ok (.invokevirtual 151, 3) := by decide +kernel
theorem dX10_isCovered_5 : decode cX10_isCovered 5 = .ok (.aload_n 0, 1) := by decide +kernel
theorem dX10_isCovered_6 : decode cX10_isCovered 6 = .ok (.getfield 12, 3) := by decide +kernel
theorem dX10_isCovered_9 : decode cX10_isCovered 9 = .ok (.getfield 74, 3) := by decide +kernel
theorem dX10_isCovered_12 : decode cX10_isCovered 12 = .ok (.getfield 183, 3) := by decide +kernel
theorem dX10_isCovered_15 : decode cX10_isCovered 15 = .ok (.iconst 1, 1) := by decide +kernel
theorem dX10_isCovered_16 : decode cX10_isCovered 16 = .ok (.iaload, 1) := by decide +kernel
theorem dX10_isCovered_17 : decode cX10_isCovered 17 = .ok (.aload_n 0, 1) := by decide +kernel
theorem dX10_isCovered_18 : decode cX10_isCovered 18 = .ok (.getfield 12, 3) := by decide +kernel
theorem dX10_isCovered_21 : decode cX10_isCovered 21 = .ok (.getfield 122, 3) := by decide +kernel
theorem dX10_isCovered_24 : decode cX10_isCovered 24 = .ok (.iload_n 1, 1) := by decide +kernel
theorem dX10_isCovered_25 : decode cX10_isCovered 25 = .ok (.invokevirtual 180, 3) := by decide +kernel
theorem dX10_isCovered_28 : decode cX10_isCovered 28 = .ok (.if_icmp .lt 7, 3) := by decide +kernel
theorem dX10_isCovered_31 : decode cX10_isCovered 31 = .ok (.iconst 1, 1) := by decide +kernel
theorem dX10_isCovered_32 : decode cX10_isCovered 32 = .ok (.goto 4, 3) := by decide +kernel
theorem dX10_isCovered_35 : decode cX10_isCovered 35 = .ok (.iconst 0, 1) := by decide +kernel
theorem dX10_isCovered_36 : decode cX10_isCovered 36 = .ok (.ireturn, 1) := by decide +kernel
set_option maxRecDepth 20000 in
theorem ggX10_bestHeight_X9_highestSet : GoodIn wsX10_bestHeight wsX9_highestSet := goodIn_ca (goodIn_r _ [7, 8, 9, 10, 11, 6, 12, 13, 14, 15, 16, 17, 18, 19, 20, 21, 22, 23, 24, 25, 26, 27, 28, 29, 30, 31, 32, 33, 34, 35, 36, 53, 54, 55, 56, 57, 58] (by decide +kernel) (by decide +kernel)) (goodIn_sub (fun _ h => List.mem_cons_of_mem _ (List.mem_append_right _ h)) (by decide +kernel))
set_option maxRecDepth 20000 in
theorem gX10_bestHeight_X9_highestSet : GoodIn wsX10_bestHeight (wsV RX10 186 RX9 yX9_highestSet wsX9_highestSet) := goodIn_app (goodIn_of _ (by decide +kernel)) ggX10_bestHeight_X9_highestSet
set_option maxRecDepth 20000 in
theorem ggX10_bestHeight_X9_heightOf : GoodIn wsX10_bestHeight wsX9_heightOf := goodIn_ca (goodIn_r _ [17, 8, 18, 19, 20, 21, 6, 22, 53, 54, 55, 56, 57, 58] (by decide +kernel) (by decide +kernel)) (goodIn_sub (fun _ h => List.mem_cons_of_mem _ (List.mem_append_right _ h)) (by decide +kernel))
set_option maxRecDepth 20000 in
theorem gX10_bestHeight_X9_heightOf : GoodIn wsX10_bestHeight (wsV RX10 177 RX9 yX9_heightOf wsX9_heightOf) := goodIn_app (goodIn_of _ (by decide +kernel)) ggX10_bestHeight_X9_heightOf
theorem dX10_bestHeight_0 : decode cX10_bestHeight 0 = .ok (.aload_n 0, 1) := by decide +kernel
theorem dX10_bestHeight_1 : decode cX10_bestHeight 1 = .ok (.getfield 12, 3) := by decide +kernel
theorem dX10_bestHeight_4 : decode cX10_bestHeight 4 = .ok (.getfield 122, 3) := by decide +kernel
theorem dX10_bestHeight_7 : decode cX10_bestHeight 7 = .ok (.aload_n 0, 1) := by decide +kernel
theorem dX10_bestHeight_8 : decode cX10_bestHeight 8 = .ok (.getfield 12, 3) := by decide +kernel
theorem dX10_bestHeight_11 : decode cX10_bestHeight 11 = .ok (.getfield 122, 3) := by decide +kernel
theorem dX10_bestHeight_14 : decode cX10_bestHeight 14 = .ok (.invokevirtual 186, 3) := by decide +kernel
theorem dX10_bestHeight_17 : decode cX10_bestHeight 17 = .ok (.invokevirtual 177, 3) := by decide +kernel
theorem dX10_bestHeight_20 : decode cX10_bestHeight 20 = .ok (.ireturn, 1) := by decide +kernel
set_option maxRecDepth 20000 in
theorem ggX10_bestHeightBySearch_X9_highestBySearch : GoodIn wsX10_bestHeightBySearch wsX9_highestBySearch := goodIn_ca (goodIn_r _ [7, 8, 9, 10, 6, 11, 12, 13, 14, 15, 16, 17, 18, 19, 20, 21, 22, 23, 24, 25, 26, 27, 43, 44, 45, 46, 47, 48] (by decide +kernel) (by decide +kernel)) (goodIn_sub (fun _ h => List.mem_cons_of_mem _ (List.mem_append_right _ h)) (by decide +kernel))
set_option maxRecDepth 20000 in
theorem gX10_bestHeightBySearch_X9_highestBySearch : GoodIn wsX10_bestHeightBySearch (wsV RX10 189 RX9 yX9_highestBySearch wsX9_highestBySearch) := goodIn_app (goodIn_of _ (by decide +kernel)) ggX10_bestHeightBySearch_X9_highestBySearch
theorem dX10_bestHeightBySearch_0 : decode cX10_bestHeightBySearch 0 = .ok (.aload_n 0, 1) := by decide +kernel
theorem dX10_bestHeightBySearch_1 : decode cX10_bestHeightBySearch 1 = .ok (.getfield 12, 3) := by decide +kernel
theorem dX10_bestHeightBySearch_4 : decode cX10_bestHeightBySearch 4 = .ok (.getfield 122, 3) := by decide +kernel
theorem dX10_bestHeightBySearch_7 : decode cX10_bestHeightBySearch 7 = .ok (.invokevirtual 189, 3) := by decide +kernel
theorem dX10_bestHeightBySearch_10 : decode cX10_bestHeightBySearch 10 = .ok (.ireturn, 1) := by decide +kernel
set_option maxRecDepth 20000 in
theorem ggX10_bestColumn_X9_highestSet : GoodIn wsX10_bestColumn wsX9_highestSet := goodIn_ca (goodIn_r _ [7, 8, 9, 10, 11, 6, 12, 13, 14, 15, 16, 17, 18, 19, 20, 21, 22, 23, 24, 25, 26, 27, 28, 29, 30, 31, 32, 33, 34, 35, 36, 52, 53, 54, 55, 56, 57] (by decide +kernel) (by decide +kernel)) (goodIn_sub (fun _ h => List.mem_cons_of_mem _ (List.mem_append_right _ h)) (by decide +kernel))
set_option maxRecDepth 20000 in
theorem gX10_bestColumn_X9_highestSet : GoodIn wsX10_bestColumn (wsV RX10 186 RX9 yX9_highestSet wsX9_highestSet) := goodIn_app (goodIn_of _ (by decide +kernel)) ggX10_bestColumn_X9_highestSet
theorem dX10_bestColumn_0 : decode cX10_bestColumn 0 = .ok (.aload_n 0, 1) := by decide +kernel
theorem dX10_bestColumn_1 : decode cX10_bestColumn 1 = .ok (.getfield 12, 3) := by decide +kernel
theorem dX10_bestColumn_4 : decode cX10_bestColumn 4 = .ok (.getfield 122, 3) := by decide +kernel
theorem dX10_bestColumn_7 : decode cX10_bestColumn 7 = .ok (.invokevirtual 186, 3) := by decide +kernel
theorem dX10_bestColumn_10 : decode cX10_bestColumn 10 = .ok (.ireturn, 1) := by decide +kernel
set_option maxRecDepth 20000 in
theorem ggX10_safety_X10_requireSet : GoodIn wsX10_safety wsX10_requireSet := goodIn_ca (goodIn_r _ [7, 8, 9, 1, 2, 10, 11, 12, 13, 14, 15, 46, 47, 48, 49, 50, 51, 52, 53, 54, 55, 56, 57, 58, 59, 60, 61, 62, 63, 64, 65, 66] (by decide +kernel) (by decide +kernel)) (goodIn_sub (fun _ h => List.mem_cons_of_mem _ (List.mem_append_left _ (List.mem_append_left _ (List.mem_append_right _ h)))) (by decide +kernel))
set_option maxRecDepth 20000 in
theorem gX10_safety_X10_requireSet : GoodIn wsX10_safety (wsV RX10 151 RX10 yX10_requireSet wsX10_requireSet) := goodIn_app (goodIn_of _ (by decide +kernel)) ggX10_safety_X10_requireSet
set_option maxRecDepth 20000 in
theorem ggX10_safety_X10_requireSeveral : GoodIn wsX10_safety wsX10_requireSeveral := goodIn_ca (goodIn_r _ [18, 19, 20, 21, 22, 23, 24, 25, 26, 27] (by decide +kernel) (by decide +kernel)) (goodIn_sub (fun _ h => List.mem_cons_of_mem _ (List.mem_append_left _ (List.mem_append_right _ h))) (by decide +kernel))
set_option maxRecDepth 20000 in
theorem gX10_safety_X10_requireSeveral : GoodIn wsX10_safety (va_wsS RX10 192 yX10_requireSeveral wsX10_requireSeveral) := goodIn_app (goodIn_of _ (by decide +kernel)) ggX10_safety_X10_requireSeveral
set_option maxRecDepth 20000 in
theorem ggX10_safety_X9_safetyOf : GoodIn wsX10_safety wsX9_safetyOf := goodIn_ca (goodIn_r _ [31, 15, 32, 33, 34, 35, 13, 36, 37, 38, 39, 40, 41, 42, 43, 44, 45, 61, 62, 63, 64, 65, 66] (by decide +kernel) (by decide +kernel)) (goodIn_sub (fun _ h => List.mem_cons_of_mem _ (List.mem_append_right _ h)) (by decide +kernel))
set_option maxRecDepth 20000 in
theorem gX10_safety_X9_safetyOf : GoodIn wsX10_safety (wsV RX10 195 RX9 yX9_safetyOf wsX9_safetyOf) := goodIn_app (goodIn_of _ (by decide +kernel)) ggX10_safety_X9_safetyOf
theorem dX10_safety_0 : decode cX10_safety 0 = .ok (.aload_n 0, 1) := by decide +kernel
theorem dX10_safety_1 : decode cX10_safety 1 = .ok (.iload_n 1, 1) := by decide +kernel
theorem dX10_safety_2 : decode cX10_safety 2 = .ok (.invokevirtual 151, 3) := by decide +kernel
theorem dX10_safety_5 : decode cX10_safety 5 = .ok (.iload_n 1, 1) := by decide +kernel
theorem dX10_safety_6 : decode cX10_safety 6 = .ok (.invokestatic 192, 3) := by decide +kernel
theorem dX10_safety_9 : decode cX10_safety 9 = .ok (.aload_n 0, 1) := by decide +kernel
theorem dX10_safety_10 : decode cX10_safety 10 = .ok (.getfield 12, 3) := by decide +kernel
theorem dX10_safety_13 : decode cX10_safety 13 = .ok (.getfield 122, 3) := by decide +kernel
theorem dX10_safety_16 : decode cX10_safety 16 = .ok (.iload_n 1, 1) := by decide +kernel
theorem dX10_safety_17 : decode cX10_safety 17 = .ok (.invokevirtual 195, 3) := by decide +kernel
theorem dX10_safety_20 : decode cX10_safety 20 = .ok (.freturn, 1) := by decide +kernel
set_option maxRecDepth 20000 in
theorem ggX10_safetyBits_X10_requireSet : GoodIn wsX10_safetyBits wsX10_requireSet := goodIn_ca (goodIn_r _ [7, 8, 9, 1, 2, 10, 11, 12, 13, 14, 15, 51, 52, 53, 54, 55, 56, 57, 58, 59, 60, 61, 62, 63, 64, 65, 66, 67, 68, 69, 70, 71] (by decide +kernel) (by decide +kernel)) (goodIn_sub (fun _ h => List.mem_cons_of_mem _ (List.mem_append_left _ (List.mem_append_left _ (List.mem_append_right _ h)))) (by decide +kernel))
set_option maxRecDepth 20000 in
theorem gX10_safetyBits_X10_requireSet : GoodIn wsX10_safetyBits (wsV RX10 151 RX10 yX10_requireSet wsX10_requireSet) := goodIn_app (goodIn_of _ (by decide +kernel)) ggX10_safetyBits_X10_requireSet
set_option maxRecDepth 20000 in
theorem ggX10_safetyBits_X10_requireSeveral : GoodIn wsX10_safetyBits wsX10_requireSeveral := goodIn_ca (goodIn_r _ [18, 19, 20, 21, 22, 23, 24, 25, 26, 27] (by decide +kernel) (by decide +kernel)) (goodIn_sub (fun _ h => List.mem_cons_of_mem _ (List.mem_append_left _ (List.mem_append_right _ h))) (by decide +kernel))
set_option maxRecDepth 20000 in
theorem gX10_safetyBits_X10_requireSeveral : GoodIn wsX10_safetyBits (va_wsS RX10 192 yX10_requireSeveral wsX10_requireSeveral) := goodIn_app (goodIn_of _ (by decide +kernel)) ggX10_safetyBits_X10_requireSeveral
set_option maxRecDepth 20000 in
theorem ggX10_safetyBits_X9_safetyOf : GoodIn wsX10_safetyBits wsX9_safetyOf := goodIn_ca (goodIn_r _ [31, 15, 32, 33, 34, 35, 13, 36, 37, 38, 39, 40, 41, 42, 43, 44, 45, 66, 67, 68, 69, 70, 71] (by decide +kernel) (by decide +kernel)) (goodIn_sub (fun _ h => List.mem_cons_of_mem _ (List.mem_append_right _ h)) (by decide +kernel))
set_option maxRecDepth 20000 in
theorem gX10_safetyBits_X9_safetyOf : GoodIn wsX10_safetyBits (wsV RX10 195 RX9 yX9_safetyOf wsX9_safetyOf) := goodIn_app (goodIn_of _ (by decide +kernel)) ggX10_safetyBits_X9_safetyOf
set_option maxRecDepth 20000 in
theorem ggX10_safetyBits_X1_of : GoodIn wsX10_safetyBits wsX1_of := goodIn_r _ [49, 50] (by decide +kernel) (by decide +kernel)
set_option maxRecDepth 20000 in
theorem gX10_safetyBits_X1_of : GoodIn wsX10_safetyBits (va_wsS RX10 201 yX1_of wsX1_of) := goodIn_app (goodIn_of _ (by decide +kernel)) ggX10_safetyBits_X1_of
theorem dX10_safetyBits_0 : decode cX10_safetyBits 0 = .ok (.aload_n 0, 1) := by decide +kernel
theorem dX10_safetyBits_1 : decode cX10_safetyBits 1 = .ok (.iload_n 1, 1) := by decide +kernel
theorem dX10_safetyBits_2 : decode cX10_safetyBits 2 = .ok (.invokevirtual 151, 3) := by decide +kernel
theorem dX10_safetyBits_5 : decode cX10_safetyBits 5 = .ok (.iload_n 1, 1) := by decide +kernel
theorem dX10_safetyBits_6 : decode cX10_safetyBits 6 = .ok (.invokestatic 192, 3) := by decide +kernel
theorem dX10_safetyBits_9 : decode cX10_safetyBits 9 = .ok (.aload_n 0, 1) := by decide +kernel
theorem dX10_safetyBits_10 : decode cX10_safetyBits 10 = .ok (.getfield 12, 3) := by decide +kernel
theorem dX10_safetyBits_13 : decode cX10_safetyBits 13 = .ok (.getfield 122, 3) := by decide +kernel
theorem dX10_safetyBits_16 : decode cX10_safetyBits 16 = .ok (.iload_n 1, 1) := by decide +kernel
theorem dX10_safetyBits_17 : decode cX10_safetyBits 17 = .ok (.invokevirtual 195, 3) := by decide +kernel
theorem dX10_safetyBits_20 : decode cX10_safetyBits 20 = .ok (.f2d, 1) := by decide +kernel
theorem dX10_safetyBits_21 : decode cX10_safetyBits 21 = .ok (.bipush 127, 2) := by decide +kernel
theorem dX10_safetyBits_23 : decode cX10_safetyBits 23 = .ok (.bipush 23, 2) := by decide +kernel
theorem dX10_safetyBits_25 : decode cX10_safetyBits 25 = .ok (.invokestatic 201, 3) := by decide +kernel
theorem dX10_safetyBits_28 : decode cX10_safetyBits 28 = .ok (.l2i, 1) := by decide +kernel
theorem dX10_safetyBits_29 : decode cX10_safetyBits 29 = .ok (.ireturn, 1) := by decide +kernel
theorem dX10_accountCount_0 : decode cX10_accountCount 0 = .ok (.aload_n 0, 1) := by decide +kernel
theorem dX10_accountCount_1 : decode cX10_accountCount 1 = .ok (.getfield 12, 3) := by decide +kernel
theorem dX10_accountCount_4 : decode cX10_accountCount 4 = .ok (.getfield 74, 3) := by decide +kernel
theorem dX10_accountCount_7 : decode cX10_accountCount 7 = .ok (.getfield 205, 3) := by decide +kernel
theorem dX10_accountCount_10 : decode cX10_accountCount 10 = .ok (.ireturn, 1) := by decide +kernel
set_option maxRecDepth 20000 in
theorem ggX10_balance_X10_requireAccount : GoodIn wsX10_balance wsX10_requireAccount := goodIn_ca (goodIn_r _ [8, 9, 10, 1, 2, 11, 12, 13, 14, 15, 16, 17, 18, 19, 20, 21, 22, 23, 24, 25, 26, 27, 28, 29, 30, 31, 32, 33, 34, 35, 36, 37, 38] (by decide +kernel) (by decide +kernel)) (goodIn_sub (fun _ h => List.mem_cons_of_mem _ (List.mem_append_right _ h)) (by decide +kernel))
set_option maxRecDepth 20000 in
theorem gX10_balance_X10_requireAccount : GoodIn wsX10_balance (wsV RX10 208 RX10 yX10_requireAccount wsX10_requireAccount) := goodIn_app (goodIn_of _ (by decide +kernel)) ggX10_balance_X10_requireAccount
theorem dX10_balance_0 : decode cX10_balance 0 = .ok (.aload_n 0, 1) := by decide +kernel
theorem dX10_balance_1 : decode cX10_balance 1 = .ok (.iload_n 1, 1) := by decide +kernel
theorem dX10_balance_2 : decode cX10_balance 2 = .ok (.invokevirtual 208, 3) := by decide +kernel
theorem dX10_balance_5 : decode cX10_balance 5 = .ok (.aload_n 0, 1) := by decide +kernel
theorem dX10_balance_6 : decode cX10_balance 6 = .ok (.getfield 12, 3) := by decide +kernel
theorem dX10_balance_9 : decode cX10_balance 9 = .ok (.getfield 74, 3) := by decide +kernel
theorem dX10_balance_12 : decode cX10_balance 12 = .ok (.getfield 183, 3) := by decide +kernel
theorem dX10_balance_15 : decode cX10_balance 15 = .ok (.iload_n 1, 1) := by decide +kernel
theorem dX10_balance_16 : decode cX10_balance 16 = .ok (.iaload, 1) := by decide +kernel
theorem dX10_balance_17 : decode cX10_balance 17 = .ok (.ireturn, 1) := by decide +kernel
set_option maxRecDepth 20000 in
theorem ggX10_balanceByJournal_X10_requireAccount : GoodIn wsX10_balanceByJournal wsX10_requireAccount := goodIn_ca (goodIn_r _ [7, 8, 9, 1, 2, 10, 11, 12, 13, 14, 15, 37, 38, 39, 40, 41, 42, 43, 44, 45, 46, 47, 48, 49, 50, 51, 52, 53, 54, 55, 56, 57, 58] (by decide +kernel) (by decide +kernel)) (goodIn_sub (fun _ h => List.mem_cons_of_mem _ (List.mem_append_left _ (List.mem_append_right _ h))) (by decide +kernel))
set_option maxRecDepth 20000 in
theorem gX10_balanceByJournal_X10_requireAccount : GoodIn wsX10_balanceByJournal (wsV RX10 208 RX10 yX10_requireAccount wsX10_requireAccount) := goodIn_app (goodIn_of _ (by decide +kernel)) ggX10_balanceByJournal_X10_requireAccount
set_option maxRecDepth 20000 in
theorem ggX10_balanceByJournal_X2_balanceFromJournal : GoodIn wsX10_balanceByJournal wsX2_balanceFromJournal := goodIn_ca (goodIn_r _ [19, 20, 21, 22, 23, 13, 24, 25, 26, 27, 28, 29, 30, 31, 32, 33, 34, 35, 36, 52, 53, 54, 55, 56, 57, 58] (by decide +kernel) (by decide +kernel)) (goodIn_sub (fun _ h => List.mem_cons_of_mem _ (List.mem_append_right _ h)) (by decide +kernel))
set_option maxRecDepth 20000 in
theorem gX10_balanceByJournal_X2_balanceFromJournal : GoodIn wsX10_balanceByJournal (wsV RX10 211 RX2 yX2_balanceFromJournal wsX2_balanceFromJournal) := goodIn_app (goodIn_of _ (by decide +kernel)) ggX10_balanceByJournal_X2_balanceFromJournal
theorem dX10_balanceByJournal_0 : decode cX10_balanceByJournal 0 = .ok (.aload_n 0, 1) := by decide +kernel
theorem dX10_balanceByJournal_1 : decode cX10_balanceByJournal 1 = .ok (.iload_n 1, 1) := by decide +kernel
theorem dX10_balanceByJournal_2 : decode cX10_balanceByJournal 2 = .ok (.invokevirtual 208, 3) := by decide +kernel
theorem dX10_balanceByJournal_5 : decode cX10_balanceByJournal 5 = .ok (.aload_n 0, 1) := by decide +kernel
theorem dX10_balanceByJournal_6 : decode cX10_balanceByJournal 6 = .ok (.getfield 12, 3) := by decide +kernel
theorem dX10_balanceByJournal_9 : decode cX10_balanceByJournal 9 = .ok (.getfield 74, 3) := by decide +kernel
theorem dX10_balanceByJournal_12 : decode cX10_balanceByJournal 12 = .ok (.iload_n 1, 1) := by decide +kernel
theorem dX10_balanceByJournal_13 : decode cX10_balanceByJournal 13 = .ok (.invokevirtual 211, 3) := by decide +kernel
theorem dX10_balanceByJournal_16 : decode cX10_balanceByJournal 16 = .ok (.ireturn, 1) := by decide +kernel
set_option maxRecDepth 20000 in
theorem ggX10_debits_X10_requireAccount : GoodIn wsX10_debits wsX10_requireAccount := goodIn_ca (goodIn_r _ [7, 8, 9, 1, 2, 10, 11, 12, 13, 14, 15, 27, 28, 29, 30, 31, 32, 33, 34, 35, 36, 37, 38, 39, 40, 41, 42, 43, 44, 45, 46, 47, 48] (by decide +kernel) (by decide +kernel)) (goodIn_sub (fun _ h => List.mem_cons_of_mem _ (List.mem_append_left _ (List.mem_append_right _ h))) (by decide +kernel))
set_option maxRecDepth 20000 in
theorem gX10_debits_X10_requireAccount : GoodIn wsX10_debits (wsV RX10 208 RX10 yX10_requireAccount wsX10_requireAccount) := goodIn_app (goodIn_of _ (by decide +kernel)) ggX10_debits_X10_requireAccount
set_option maxRecDepth 20000 in
theorem ggX10_debits_X2_debitSum : GoodIn wsX10_debits wsX2_debitSum := goodIn_ca (goodIn_r _ [19, 20, 21, 22, 23, 13, 24, 25, 26, 42, 43, 44, 45, 46, 47, 48] (by decide +kernel) (by decide +kernel)) (goodIn_sub (fun _ h => List.mem_cons_of_mem _ (List.mem_append_right _ h)) (by decide +kernel))
set_option maxRecDepth 20000 in
theorem gX10_debits_X2_debitSum : GoodIn wsX10_debits (wsV RX10 214 RX2 yX2_debitSum wsX2_debitSum) := goodIn_app (goodIn_of _ (by decide +kernel)) ggX10_debits_X2_debitSum
theorem dX10_debits_0 : decode cX10_debits 0 = .ok (.aload_n 0, 1) := by decide +kernel
theorem dX10_debits_1 : decode cX10_debits 1 = .ok (.iload_n 1, 1) := by decide +kernel
theorem dX10_debits_2 : decode cX10_debits 2 = .ok (.invokevirtual 208, 3) := by decide +kernel
theorem dX10_debits_5 : decode cX10_debits 5 = .ok (.aload_n 0, 1) := by decide +kernel
theorem dX10_debits_6 : decode cX10_debits 6 = .ok (.getfield 12, 3) := by decide +kernel
theorem dX10_debits_9 : decode cX10_debits 9 = .ok (.getfield 74, 3) := by decide +kernel
theorem dX10_debits_12 : decode cX10_debits 12 = .ok (.iload_n 1, 1) := by decide +kernel
theorem dX10_debits_13 : decode cX10_debits 13 = .ok (.invokevirtual 214, 3) := by decide +kernel
theorem dX10_debits_16 : decode cX10_debits 16 = .ok (.ireturn, 1) := by decide +kernel
set_option maxRecDepth 20000 in
theorem ggX10_credits_X10_requireAccount : GoodIn wsX10_credits wsX10_requireAccount := goodIn_ca (goodIn_r _ [7, 8, 9, 1, 2, 10, 11, 12, 13, 14, 15, 27, 28, 29, 30, 31, 32, 33, 34, 35, 36, 37, 38, 39, 40, 41, 42, 43, 44, 45, 46, 47, 48] (by decide +kernel) (by decide +kernel)) (goodIn_sub (fun _ h => List.mem_cons_of_mem _ (List.mem_append_left _ (List.mem_append_right _ h))) (by decide +kernel))
set_option maxRecDepth 20000 in
theorem gX10_credits_X10_requireAccount : GoodIn wsX10_credits (wsV RX10 208 RX10 yX10_requireAccount wsX10_requireAccount) := goodIn_app (goodIn_of _ (by decide +kernel)) ggX10_credits_X10_requireAccount
set_option maxRecDepth 20000 in
theorem ggX10_credits_X2_creditSum : GoodIn wsX10_credits wsX2_creditSum := goodIn_ca (goodIn_r _ [19, 20, 21, 22, 23, 13, 24, 25, 26, 42, 43, 44, 45, 46, 47, 48] (by decide +kernel) (by decide +kernel)) (goodIn_sub (fun _ h => List.mem_cons_of_mem _ (List.mem_append_right _ h)) (by decide +kernel))
set_option maxRecDepth 20000 in
theorem gX10_credits_X2_creditSum : GoodIn wsX10_credits (wsV RX10 217 RX2 yX2_creditSum wsX2_creditSum) := goodIn_app (goodIn_of _ (by decide +kernel)) ggX10_credits_X2_creditSum
theorem dX10_credits_0 : decode cX10_credits 0 = .ok (.aload_n 0, 1) := by decide +kernel
theorem dX10_credits_1 : decode cX10_credits 1 = .ok (.iload_n 1, 1) := by decide +kernel
theorem dX10_credits_2 : decode cX10_credits 2 = .ok (.invokevirtual 208, 3) := by decide +kernel
theorem dX10_credits_5 : decode cX10_credits 5 = .ok (.aload_n 0, 1) := by decide +kernel
theorem dX10_credits_6 : decode cX10_credits 6 = .ok (.getfield 12, 3) := by decide +kernel
theorem dX10_credits_9 : decode cX10_credits 9 = .ok (.getfield 74, 3) := by decide +kernel
theorem dX10_credits_12 : decode cX10_credits 12 = .ok (.iload_n 1, 1) := by decide +kernel
theorem dX10_credits_13 : decode cX10_credits 13 = .ok (.invokevirtual 217, 3) := by decide +kernel
theorem dX10_credits_16 : decode cX10_credits 16 = .ok (.ireturn, 1) := by decide +kernel
theorem dX10_entryCount_0 : decode cX10_entryCount 0 = .ok (.aload_n 0, 1) := by decide +kernel
theorem dX10_entryCount_1 : decode cX10_entryCount 1 = .ok (.getfield 12, 3) := by decide +kernel
theorem dX10_entryCount_4 : decode cX10_entryCount 4 = .ok (.getfield 74, 3) := by decide +kernel
theorem dX10_entryCount_7 : decode cX10_entryCount 7 = .ok (.getfield 220, 3) := by decide +kernel
theorem dX10_entryCount_10 : decode cX10_entryCount 10 = .ok (.ireturn, 1) := by decide +kernel
set_option maxRecDepth 20000 in
theorem ggX10_debitOf_X10_requireEntry : GoodIn wsX10_debitOf wsX10_requireEntry := goodIn_ca (goodIn_r _ [8, 9, 10, 1, 2, 11, 12, 13, 14, 15, 16, 17, 18, 19, 20, 21, 22, 23, 24, 25, 26, 27, 28, 29, 30, 31, 32, 33] (by decide +kernel) (by decide +kernel)) (goodIn_sub (fun _ h => List.mem_cons_of_mem _ (List.mem_append_right _ h)) (by decide +kernel))
set_option maxRecDepth 20000 in
theorem gX10_debitOf_X10_requireEntry : GoodIn wsX10_debitOf (wsV RX10 223 RX10 yX10_requireEntry wsX10_requireEntry) := goodIn_app (goodIn_of _ (by decide +kernel)) ggX10_debitOf_X10_requireEntry
theorem dX10_debitOf_0 : decode cX10_debitOf 0 = .ok (.aload_n 0, 1) := by decide +kernel
theorem dX10_debitOf_1 : decode cX10_debitOf 1 = .ok (.iload_n 1, 1) := by decide +kernel
theorem dX10_debitOf_2 : decode cX10_debitOf 2 = .ok (.invokevirtual 223, 3) := by decide +kernel
theorem dX10_debitOf_5 : decode cX10_debitOf 5 = .ok (.aload_n 0, 1) := by decide +kernel
theorem dX10_debitOf_6 : decode cX10_debitOf 6 = .ok (.getfield 12, 3) := by decide +kernel
theorem dX10_debitOf_9 : decode cX10_debitOf 9 = .ok (.getfield 74, 3) := by decide +kernel
theorem dX10_debitOf_12 : decode cX10_debitOf 12 = .ok (.getfield 226, 3) := by decide +kernel
theorem dX10_debitOf_15 : decode cX10_debitOf 15 = .ok (.iload_n 1, 1) := by decide +kernel
theorem dX10_debitOf_16 : decode cX10_debitOf 16 = .ok (.iaload, 1) := by decide +kernel
theorem dX10_debitOf_17 : decode cX10_debitOf 17 = .ok (.ireturn, 1) := by decide +kernel
set_option maxRecDepth 20000 in
theorem ggX10_creditOf_X10_requireEntry : GoodIn wsX10_creditOf wsX10_requireEntry := goodIn_ca (goodIn_r _ [8, 9, 10, 1, 2, 11, 12, 13, 14, 15, 16, 17, 18, 19, 20, 21, 22, 23, 24, 25, 26, 27, 28, 29, 30, 31, 32, 33] (by decide +kernel) (by decide +kernel)) (goodIn_sub (fun _ h => List.mem_cons_of_mem _ (List.mem_append_right _ h)) (by decide +kernel))
set_option maxRecDepth 20000 in
theorem gX10_creditOf_X10_requireEntry : GoodIn wsX10_creditOf (wsV RX10 223 RX10 yX10_requireEntry wsX10_requireEntry) := goodIn_app (goodIn_of _ (by decide +kernel)) ggX10_creditOf_X10_requireEntry
theorem dX10_creditOf_0 : decode cX10_creditOf 0 = .ok (.aload_n 0, 1) := by decide +kernel
theorem dX10_creditOf_1 : decode cX10_creditOf 1 = .ok (.iload_n 1, 1) := by decide +kernel
theorem dX10_creditOf_2 : decode cX10_creditOf 2 = .ok (.invokevirtual 223, 3) := by decide +kernel
theorem dX10_creditOf_5 : decode cX10_creditOf 5 = .ok (.aload_n 0, 1) := by decide +kernel
theorem dX10_creditOf_6 : decode cX10_creditOf 6 = .ok (.getfield 12, 3) := by decide +kernel
theorem dX10_creditOf_9 : decode cX10_creditOf 9 = .ok (.getfield 74, 3) := by decide +kernel
theorem dX10_creditOf_12 : decode cX10_creditOf 12 = .ok (.getfield 229, 3) := by decide +kernel
theorem dX10_creditOf_15 : decode cX10_creditOf 15 = .ok (.iload_n 1, 1) := by decide +kernel
theorem dX10_creditOf_16 : decode cX10_creditOf 16 = .ok (.iaload, 1) := by decide +kernel
theorem dX10_creditOf_17 : decode cX10_creditOf 17 = .ok (.ireturn, 1) := by decide +kernel
set_option maxRecDepth 20000 in
theorem ggX10_amountOf_X10_requireEntry : GoodIn wsX10_amountOf wsX10_requireEntry := goodIn_ca (goodIn_r _ [8, 9, 10, 1, 2, 11, 12, 13, 14, 15, 16, 17, 18, 19, 20, 21, 22, 23, 24, 25, 26, 27, 28, 29, 30, 31, 32, 33] (by decide +kernel) (by decide +kernel)) (goodIn_sub (fun _ h => List.mem_cons_of_mem _ (List.mem_append_right _ h)) (by decide +kernel))
set_option maxRecDepth 20000 in
theorem gX10_amountOf_X10_requireEntry : GoodIn wsX10_amountOf (wsV RX10 223 RX10 yX10_requireEntry wsX10_requireEntry) := goodIn_app (goodIn_of _ (by decide +kernel)) ggX10_amountOf_X10_requireEntry
theorem dX10_amountOf_0 : decode cX10_amountOf 0 = .ok (.aload_n 0, 1) := by decide +kernel
theorem dX10_amountOf_1 : decode cX10_amountOf 1 = .ok (.iload_n 1, 1) := by decide +kernel
theorem dX10_amountOf_2 : decode cX10_amountOf 2 = .ok (.invokevirtual 223, 3) := by decide +kernel
theorem dX10_amountOf_5 : decode cX10_amountOf 5 = .ok (.aload_n 0, 1) := by decide +kernel
theorem dX10_amountOf_6 : decode cX10_amountOf 6 = .ok (.getfield 12, 3) := by decide +kernel
theorem dX10_amountOf_9 : decode cX10_amountOf 9 = .ok (.getfield 74, 3) := by decide +kernel
theorem dX10_amountOf_12 : decode cX10_amountOf 12 = .ok (.getfield 232, 3) := by decide +kernel
theorem dX10_amountOf_15 : decode cX10_amountOf 15 = .ok (.iload_n 1, 1) := by decide +kernel
theorem dX10_amountOf_16 : decode cX10_amountOf 16 = .ok (.iaload, 1) := by decide +kernel
theorem dX10_amountOf_17 : decode cX10_amountOf 17 = .ok (.ireturn, 1) := by decide +kernel
set_option maxRecDepth 20000 in
theorem ggX10_accountByBalance_X2_accountAtRank : GoodIn wsX10_accountByBalance wsX2_accountAtRank := goodIn_ca (goodIn_r _ [7, 8, 9, 10, 11, 6, 12, 13, 35, 36, 37, 38, 39, 40, 41] (by decide +kernel) (by decide +kernel)) (goodIn_sub (fun _ h => List.mem_cons_of_mem _ (List.mem_append_left _ (List.mem_append_right _ h))) (by decide +kernel))
set_option maxRecDepth 20000 in
theorem gX10_accountByBalance_X2_accountAtRank : GoodIn wsX10_accountByBalance (wsV RX10 235 RX2 yX2_accountAtRank wsX2_accountAtRank) := goodIn_app (goodIn_of _ (by decide +kernel)) ggX10_accountByBalance_X2_accountAtRank
set_option maxRecDepth 20000 in
theorem ggX10_accountByBalance_X10_requireFound : GoodIn wsX10_accountByBalance wsX10_requireFound := goodIn_ca (goodIn_r _ [17, 18, 19] (by decide +kernel) (by decide +kernel)) (goodIn_sub (fun _ h => List.mem_cons_of_mem _ (List.mem_append_right _ h)) (by decide +kernel))
set_option maxRecDepth 20000 in
theorem gX10_accountByBalance_X10_requireFound : GoodIn wsX10_accountByBalance (va_wsS RX10 160 yX10_requireFound wsX10_requireFound) := goodIn_app (goodIn_of _ (by decide +kernel)) ggX10_accountByBalance_X10_requireFound
theorem dX10_accountByBalance_0 : decode cX10_accountByBalance 0 = .ok (.aload_n 0, 1) := by decide +kernel
theorem dX10_accountByBalance_1 : decode cX10_accountByBalance 1 = .ok (.getfield 12, 3) := by decide +kernel
theorem dX10_accountByBalance_4 : decode cX10_accountByBalance 4 = .ok (.getfield 74, 3) := by decide +kernel
theorem dX10_accountByBalance_7 : decode cX10_accountByBalance 7 = .ok (.iload_n 1, 1) := by decide +kernel
theorem dX10_accountByBalance_8 : decode cX10_accountByBalance 8 = .ok (.invokevirtual 235, 3) := by decide +kernel
theorem dX10_accountByBalance_11 : decode cX10_accountByBalance 11 = .ok (.invokestatic 160, 3) := by decide +kernel
theorem dX10_accountByBalance_14 : decode cX10_accountByBalance 14 = .ok (.ireturn, 1) := by decide +kernel
set_option maxRecDepth 20000 in
theorem ggX10_fewestTransfers_X8_fewestBySets : GoodIn wsX10_fewestTransfers wsX8_fewestBySets := goodIn_ca (goodIn_r _ [8, 9, 10, 11, 12, 13, 14, 7, 15, 16, 17, 18, 19, 20, 21, 22, 23, 24, 25, 26, 42, 43, 44, 45, 46, 47, 48, 49, 50, 51, 52, 53] (by decide +kernel) (by decide +kernel)) (goodIn_sub (fun _ h => List.mem_cons_of_mem _ (List.mem_append_right _ h)) (by decide +kernel))
set_option maxRecDepth 20000 in
theorem gX10_fewestTransfers_X8_fewestBySets : GoodIn wsX10_fewestTransfers (wsV RX10 238 RX8 yX8_fewestBySets wsX8_fewestBySets) := goodIn_app (goodIn_of _ (by decide +kernel)) ggX10_fewestTransfers_X8_fewestBySets
theorem dX10_fewestTransfers_0 : decode cX10_fewestTransfers 0 = .ok (.aload_n 0, 1) := by decide +kernel
theorem dX10_fewestTransfers_1 : decode cX10_fewestTransfers 1 = .ok (.getfield 29, 3) := by decide +kernel
theorem dX10_fewestTransfers_4 : decode cX10_fewestTransfers 4 = .ok (.aload_n 0, 1) := by decide +kernel
theorem dX10_fewestTransfers_5 : decode cX10_fewestTransfers 5 = .ok (.getfield 12, 3) := by decide +kernel
theorem dX10_fewestTransfers_8 : decode cX10_fewestTransfers 8 = .ok (.getfield 74, 3) := by decide +kernel
theorem dX10_fewestTransfers_11 : decode cX10_fewestTransfers 11 = .ok (.invokevirtual 238, 3) := by decide +kernel
theorem dX10_fewestTransfers_14 : decode cX10_fewestTransfers 14 = .ok (.ireturn, 1) := by decide +kernel
set_option maxRecDepth 20000 in
theorem ggX10_fewestTransfersBySearch_X8_fewestBySearch : GoodIn wsX10_fewestTransfersBySearch wsX8_fewestBySearch := goodIn_ca (goodIn_r _ [8, 9, 10, 11, 12, 13, 7, 14, 15, 16, 17, 18, 19, 20, 21, 22, 23, 24, 25, 26, 27, 28, 29, 30, 31, 32, 48, 49, 50, 51, 52, 53, 54, 55, 56, 57, 58, 59] (by decide +kernel) (by decide +kernel)) (goodIn_sub (fun _ h => List.mem_cons_of_mem _ (List.mem_append_right _ h)) (by decide +kernel))
set_option maxRecDepth 20000 in
theorem gX10_fewestTransfersBySearch_X8_fewestBySearch : GoodIn wsX10_fewestTransfersBySearch (wsV RX10 242 RX8 yX8_fewestBySearch wsX8_fewestBySearch) := goodIn_app (goodIn_of _ (by decide +kernel)) ggX10_fewestTransfersBySearch_X8_fewestBySearch
theorem dX10_fewestTransfersBySearch_0 : decode cX10_fewestTransfersBySearch 0 = .ok (.aload_n 0, 1) := by decide +kernel
theorem dX10_fewestTransfersBySearch_1 : decode cX10_fewestTransfersBySearch 1 = .ok (.getfield 29, 3) := by decide +kernel
theorem dX10_fewestTransfersBySearch_4 : decode cX10_fewestTransfersBySearch 4 = .ok (.aload_n 0, 1) := by decide +kernel
theorem dX10_fewestTransfersBySearch_5 : decode cX10_fewestTransfersBySearch 5 = .ok (.getfield 12, 3) := by decide +kernel
theorem dX10_fewestTransfersBySearch_8 : decode cX10_fewestTransfersBySearch 8 = .ok (.getfield 74, 3) := by decide +kernel
theorem dX10_fewestTransfersBySearch_11 : decode cX10_fewestTransfersBySearch 11 = .ok (.invokevirtual 242, 3) := by decide +kernel
theorem dX10_fewestTransfersBySearch_14 : decode cX10_fewestTransfersBySearch 14 = .ok (.ireturn, 1) := by decide +kernel
theorem dX10_night_0 : decode cX10_night 0 = .ok (.aload_n 0, 1) := by decide +kernel
theorem dX10_night_1 : decode cX10_night 1 = .ok (.getfield 12, 3) := by decide +kernel
theorem dX10_night_4 : decode cX10_night 4 = .ok (.getfield 245, 3) := by decide +kernel
theorem dX10_night_7 : decode cX10_night 7 = .ok (.ireturn, 1) := by decide +kernel
theorem dX10_net_0 : decode cX10_net 0 = .ok (.aload_n 0, 1) := by decide +kernel
theorem dX10_net_1 : decode cX10_net 1 = .ok (.getfield 12, 3) := by decide +kernel
theorem dX10_net_4 : decode cX10_net 4 = .ok (.getfield 248, 3) := by decide +kernel
theorem dX10_net_7 : decode cX10_net 7 = .ok (.ireturn, 1) := by decide +kernel
theorem dX10_showTotal_0 : decode cX10_showTotal 0 = .ok (.aload_n 0, 1) := by decide +kernel
theorem dX10_showTotal_1 : decode cX10_showTotal 1 = .ok (.getfield 12, 3) := by decide +kernel
theorem dX10_showTotal_4 : decode cX10_showTotal 4 = .ok (.getfield 251, 3) := by decide +kernel
theorem dX10_showTotal_7 : decode cX10_showTotal 7 = .ok (.ireturn, 1) := by decide +kernel
theorem dX10_fallenTotal_0 : decode cX10_fallenTotal 0 = .ok (.aload_n 0, 1) := by decide +kernel
theorem dX10_fallenTotal_1 : decode cX10_fallenTotal 1 = .ok (.getfield 12, 3) := by decide +kernel
theorem dX10_fallenTotal_4 : decode cX10_fallenTotal 4 = .ok (.getfield 254, 3) := by decide +kernel
theorem dX10_fallenTotal_7 : decode cX10_fallenTotal 7 = .ok (.ireturn, 1) := by decide +kernel
set_option maxRecDepth 20000 in
theorem ggX10_meanPositive_X10_requirePositiveBalance : GoodIn wsX10_meanPositive wsX10_requirePositiveBalance := goodIn_ca (goodIn_ca (goodIn_r _ [7, 8, 9, 1, 2, 10, 11, 12, 13, 14, 15, 16, 26, 27, 28, 29, 30, 31, 32, 33, 34, 35, 36, 37, 38, 39, 40, 41, 42, 43, 44, 45, 46, 47] (by decide +kernel) (by decide +kernel)) (goodIn_sub (fun _ h => List.mem_cons_of_mem _ (List.mem_append_left _ (List.mem_append_right _ h))) (by decide +kernel))) (goodIn_sub (fun _ h => List.mem_cons_of_mem _ (List.mem_append_right _ h)) (by decide +kernel))
set_option maxRecDepth 20000 in
theorem gX10_meanPositive_X10_requirePositiveBalance : GoodIn wsX10_meanPositive (wsV RX10 257 RX10 yX10_requirePositiveBalance wsX10_requirePositiveBalance) := goodIn_app (goodIn_of _ (by decide +kernel)) ggX10_meanPositive_X10_requirePositiveBalance
set_option maxRecDepth 20000 in
theorem ggX10_meanPositive_X2_meanOfPositive : GoodIn wsX10_meanPositive wsX2_meanOfPositive := goodIn_ca (goodIn_r _ [20, 15, 16, 21, 22, 23, 24, 25, 11, 12, 13, 14, 41, 42, 43, 44, 45, 46, 47] (by decide +kernel) (by decide +kernel)) (goodIn_sub (fun _ h => List.mem_cons_of_mem _ (List.mem_append_right _ h)) (by decide +kernel))
set_option maxRecDepth 20000 in
theorem gX10_meanPositive_X2_meanOfPositive : GoodIn wsX10_meanPositive (wsV RX10 260 RX2 yX2_meanOfPositive wsX2_meanOfPositive) := goodIn_app (goodIn_of _ (by decide +kernel)) ggX10_meanPositive_X2_meanOfPositive
theorem dX10_meanPositive_0 : decode cX10_meanPositive 0 = .ok (.aload_n 0, 1) := by decide +kernel
theorem dX10_meanPositive_1 : decode cX10_meanPositive 1 = .ok (.invokevirtual 257, 3) := by decide +kernel
theorem dX10_meanPositive_4 : decode cX10_meanPositive 4 = .ok (.aload_n 0, 1) := by decide +kernel
theorem dX10_meanPositive_5 : decode cX10_meanPositive 5 = .ok (.getfield 12, 3) := by decide +kernel
theorem dX10_meanPositive_8 : decode cX10_meanPositive 8 = .ok (.getfield 74, 3) := by decide +kernel
theorem dX10_meanPositive_11 : decode cX10_meanPositive 11 = .ok (.invokevirtual 260, 3) := by decide +kernel
theorem dX10_meanPositive_14 : decode cX10_meanPositive 14 = .ok (.dreturn, 1) := by decide +kernel
set_option maxRecDepth 20000 in
theorem ggX10_meanPositiveBits_X10_requirePositiveBalance : GoodIn wsX10_meanPositiveBits wsX10_requirePositiveBalance := goodIn_ca (goodIn_ca (goodIn_r _ [7, 8, 9, 1, 2, 10, 11, 12, 13, 14, 15, 16, 31, 32, 33, 34, 35, 36, 37, 38, 39, 40, 41, 42, 43, 44, 45, 46, 47, 48, 49, 50, 51, 52] (by decide +kernel) (by decide +kernel)) (goodIn_sub (fun _ h => List.mem_cons_of_mem _ (List.mem_append_left _ (List.mem_append_right _ h))) (by decide +kernel))) (goodIn_sub (fun _ h => List.mem_cons_of_mem _ (List.mem_append_right _ h)) (by decide +kernel))
set_option maxRecDepth 20000 in
theorem gX10_meanPositiveBits_X10_requirePositiveBalance : GoodIn wsX10_meanPositiveBits (wsV RX10 257 RX10 yX10_requirePositiveBalance wsX10_requirePositiveBalance) := goodIn_app (goodIn_of _ (by decide +kernel)) ggX10_meanPositiveBits_X10_requirePositiveBalance
set_option maxRecDepth 20000 in
theorem ggX10_meanPositiveBits_X2_meanOfPositive : GoodIn wsX10_meanPositiveBits wsX2_meanOfPositive := goodIn_ca (goodIn_r _ [20, 15, 16, 21, 22, 23, 24, 25, 11, 12, 13, 14, 46, 47, 48, 49, 50, 51, 52] (by decide +kernel) (by decide +kernel)) (goodIn_sub (fun _ h => List.mem_cons_of_mem _ (List.mem_append_right _ h)) (by decide +kernel))
set_option maxRecDepth 20000 in
theorem gX10_meanPositiveBits_X2_meanOfPositive : GoodIn wsX10_meanPositiveBits (wsV RX10 260 RX2 yX2_meanOfPositive wsX2_meanOfPositive) := goodIn_app (goodIn_of _ (by decide +kernel)) ggX10_meanPositiveBits_X2_meanOfPositive
set_option maxRecDepth 20000 in
theorem ggX10_meanPositiveBits_X1_of : GoodIn wsX10_meanPositiveBits wsX1_of := goodIn_r _ [29, 30] (by decide +kernel) (by decide +kernel)
set_option maxRecDepth 20000 in
theorem gX10_meanPositiveBits_X1_of : GoodIn wsX10_meanPositiveBits (va_wsS RX10 201 yX1_of wsX1_of) := goodIn_app (goodIn_of _ (by decide +kernel)) ggX10_meanPositiveBits_X1_of
theorem dX10_meanPositiveBits_0 : decode cX10_meanPositiveBits 0 = .ok (.aload_n 0, 1) := by decide +kernel
theorem dX10_meanPositiveBits_1 : decode cX10_meanPositiveBits 1 = .ok (.invokevirtual 257, 3) := by decide +kernel
theorem dX10_meanPositiveBits_4 : decode cX10_meanPositiveBits 4 = .ok (.aload_n 0, 1) := by decide +kernel
theorem dX10_meanPositiveBits_5 : decode cX10_meanPositiveBits 5 = .ok (.getfield 12, 3) := by decide +kernel
theorem dX10_meanPositiveBits_8 : decode cX10_meanPositiveBits 8 = .ok (.getfield 74, 3) := by decide +kernel
theorem dX10_meanPositiveBits_11 : decode cX10_meanPositiveBits 11 = .ok (.invokevirtual 260, 3) := by decide +kernel
theorem dX10_meanPositiveBits_14 : decode cX10_meanPositiveBits 14 = .ok (.sipush 1023, 3) := by decide +kernel
theorem dX10_meanPositiveBits_17 : decode cX10_meanPositiveBits 17 = .ok (.bipush 52, 2) := by decide +kernel
theorem dX10_meanPositiveBits_19 : decode cX10_meanPositiveBits 19 = .ok (.invokestatic 201, 3) := by decide +kernel
theorem dX10_meanPositiveBits_22 : decode cX10_meanPositiveBits 22 = .ok (.lreturn, 1) := by decide +kernel
set_option maxRecDepth 20000 in
theorem ggX10_isConsistent_X9_highestSet : GoodIn wsX10_isConsistent wsX9_highestSet := goodIn_ca (goodIn_r _ [9, 10, 11, 12, 13, 8, 14, 15, 16, 17, 18, 19, 20, 21, 22, 23, 24, 25, 26, 27, 28, 29, 30, 31, 32, 33, 34, 35, 36, 37, 38, 136, 137, 138, 139, 140, 141] (by decide +kernel) (by decide +kernel)) (goodIn_sub (fun _ h => List.mem_cons_of_mem _ (List.mem_append_right _ h)) (by decide +kernel))
set_option maxRecDepth 20000 in
theorem gX10_isConsistent_X9_highestSet : GoodIn wsX10_isConsistent (wsV RX10 186 RX9 yX9_highestSet wsX9_highestSet) := goodIn_app (goodIn_of _ (by decide +kernel)) ggX10_isConsistent_X9_highestSet
set_option maxRecDepth 20000 in
theorem ggX10_isConsistent_X9_heightOf : GoodIn wsX10_isConsistent wsX9_heightOf := goodIn_ca (goodIn_r _ [19, 10, 20, 21, 22, 23, 8, 24, 136, 137, 138, 139, 140, 141] (by decide +kernel) (by decide +kernel)) (goodIn_sub (fun _ h => List.mem_cons_of_mem _ (List.mem_append_right _ h)) (by decide +kernel))
set_option maxRecDepth 20000 in
theorem gX10_isConsistent_X9_heightOf : GoodIn wsX10_isConsistent (wsV RX10 177 RX9 yX9_heightOf wsX9_heightOf) := goodIn_app (goodIn_of _ (by decide +kernel)) ggX10_isConsistent_X9_heightOf
set_option maxRecDepth 20000 in
theorem ggX10_isConsistent_X9_highestBySearch : GoodIn wsX10_isConsistent wsX9_highestBySearch := goodIn_ca (goodIn_r _ [43, 11, 12, 13, 8, 14, 10, 15, 44, 45, 46, 29, 34, 20, 47, 48, 49, 50, 21, 22, 23, 24, 136, 137, 138, 139, 140, 141] (by decide +kernel) (by decide +kernel)) (goodIn_sub (fun _ h => List.mem_cons_of_mem _ (List.mem_append_right _ h)) (by decide +kernel))
set_option maxRecDepth 20000 in
theorem gX10_isConsistent_X9_highestBySearch : GoodIn wsX10_isConsistent (wsV RX10 189 RX9 yX9_highestBySearch wsX9_highestBySearch) := goodIn_app (goodIn_of _ (by decide +kernel)) ggX10_isConsistent_X9_highestBySearch
set_option maxRecDepth 20000 in
theorem ggX10_isConsistent_X8_fewestBySets : GoodIn wsX10_isConsistent wsX8_fewestBySets := goodIn_ca (goodIn_r _ [55, 56, 57, 58, 59, 60, 61, 54, 62, 63, 64, 65, 66, 67, 68, 69, 70, 48, 49, 50, 142, 143, 144, 145, 146, 147, 148, 149, 150, 151, 152, 153] (by decide +kernel) (by decide +kernel)) (goodIn_sub (fun _ h => List.mem_cons_of_mem _ (List.mem_append_right _ h)) (by decide +kernel))
set_option maxRecDepth 20000 in
theorem gX10_isConsistent_X8_fewestBySets : GoodIn wsX10_isConsistent (wsV RX10 238 RX8 yX8_fewestBySets wsX8_fewestBySets) := goodIn_app (goodIn_of _ (by decide +kernel)) ggX10_isConsistent_X8_fewestBySets
set_option maxRecDepth 20000 in
theorem ggX10_isConsistent_X8_fewestBySearch : GoodIn wsX10_isConsistent wsX8_fewestBySearch := goodIn_ca (goodIn_r _ [74, 75, 56, 59, 60, 61, 54, 62, 63, 64, 65, 58, 76, 77, 78, 79, 80, 81, 82, 83, 84, 85, 86, 87, 49, 88, 142, 143, 144, 145, 146, 147, 148, 149, 150, 151, 152, 153] (by decide +kernel) (by decide +kernel)) (goodIn_sub (fun _ h => List.mem_cons_of_mem _ (List.mem_append_right _ h)) (by decide +kernel))
set_option maxRecDepth 20000 in
theorem gX10_isConsistent_X8_fewestBySearch : GoodIn wsX10_isConsistent (wsV RX10 242 RX8 yX8_fewestBySearch wsX8_fewestBySearch) := goodIn_app (goodIn_of _ (by decide +kernel)) ggX10_isConsistent_X8_fewestBySearch
set_option maxRecDepth 20000 in
theorem ggX10_isConsistent_X2_agreeWithJournal : GoodIn wsX10_isConsistent wsX2_agreeWithJournal := goodIn_ca (goodIn_r _ [93, 94, 95, 96, 97, 98, 92, 99, 100, 101, 102, 103, 104, 105, 106, 107, 108, 109, 110, 111, 112, 113, 114, 115, 116, 147, 148, 149, 150, 151, 152, 153] (by decide +kernel) (by decide +kernel)) (goodIn_sub (fun _ h => List.mem_cons_of_mem _ (List.mem_append_right _ h)) (by decide +kernel))
set_option maxRecDepth 20000 in
theorem gX10_isConsistent_X2_agreeWithJournal : GoodIn wsX10_isConsistent (wsV RX10 264 RX2 yX2_agreeWithJournal wsX2_agreeWithJournal) := goodIn_app (goodIn_of _ (by decide +kernel)) ggX10_isConsistent_X2_agreeWithJournal
set_option maxRecDepth 20000 in
theorem ggX10_isConsistent_X2_sumOfBalances : GoodIn wsX10_isConsistent wsX2_sumOfBalances := goodIn_ca (goodIn_r _ [120, 94, 95, 147, 148, 149, 150, 151, 152, 153] (by decide +kernel) (by decide +kernel)) (goodIn_sub (fun _ h => List.mem_cons_of_mem _ (List.mem_append_right _ h)) (by decide +kernel))
set_option maxRecDepth 20000 in
theorem gX10_isConsistent_X2_sumOfBalances : GoodIn wsX10_isConsistent (wsV RX10 268 RX2 yX2_sumOfBalances wsX2_sumOfBalances) := goodIn_app (goodIn_of _ (by decide +kernel)) ggX10_isConsistent_X2_sumOfBalances
theorem dX10_isConsistent_0 : decode cX10_isConsistent 0 = .ok (.aload_n 0, 1) := by decide +kernel
theorem dX10_isConsistent_1 : decode cX10_isConsistent 1 = .ok (.getfield 12, 3) := by decide +kernel
theorem dX10_isConsistent_4 : decode cX10_isConsistent 4 = .ok (.getfield 122, 3) := by decide +kernel
theorem dX10_isConsistent_7 : decode cX10_isConsistent 7 = .ok (.aload_n 0, 1) := by decide +kernel
theorem dX10_isConsistent_8 : decode cX10_isConsistent 8 = .ok (.getfield 12, 3) := by decide +kernel
theorem dX10_isConsistent_11 : decode cX10_isConsistent 11 = .ok (.getfield 122, 3) := by decide +kernel
theorem dX10_isConsistent_14 : decode cX10_isConsistent 14 = .ok (.invokevirtual 186, 3) := by decide +kernel
theorem dX10_isConsistent_17 : decode cX10_isConsistent 17 = .ok (.invokevirtual 177, 3) := by decide +kernel
theorem dX10_isConsistent_20 : decode cX10_isConsistent 20 = .ok (.aload_n 0, 1) := by decide +kernel
theorem dX10_isConsistent_21 : decode cX10_isConsistent 21 = .ok (.getfield 12, 3) := by decide +kernel
theorem dX10_isConsistent_24 : decode cX10_isConsistent 24 = .ok (.getfield 122, 3) := by decide +kernel
theorem dX10_isConsistent_27 : decode cX10_isConsistent 27 = .ok (.invokevirtual 189, 3) := by decide +kernel
theorem dX10_isConsistent_30 : decode cX10_isConsistent 30 = .ok (.if_icmp .ne 64, 3) := by decide +kernel
theorem dX10_isConsistent_33 : decode cX10_isConsistent 33 = .ok (.aload_n 0, 1) := by decide +kernel
theorem dX10_isConsistent_34 : decode cX10_isConsistent 34 = .ok (.getfield 29, 3) := by decide +kernel
theorem dX10_isConsistent_37 : decode cX10_isConsistent 37 = .ok (.aload_n 0, 1) := by decide +kernel
theorem dX10_isConsistent_38 : decode cX10_isConsistent 38 = .ok (.getfield 12, 3) := by decide +kernel
theorem dX10_isConsistent_41 : decode cX10_isConsistent 41 = .ok (.getfield 74, 3) := by decide +kernel
theorem dX10_isConsistent_44 : decode cX10_isConsistent 44 = .ok (.invokevirtual 238, 3) := by decide +kernel
theorem dX10_isConsistent_47 : decode cX10_isConsistent 47 = .ok (.aload_n 0, 1) := by decide +kernel
theorem dX10_isConsistent_48 : decode cX10_isConsistent 48 = .ok (.getfield 29, 3) := by decide +kernel
theorem dX10_isConsistent_51 : decode cX10_isConsistent 51 = .ok (.aload_n 0, 1) := by decide +kernel
theorem dX10_isConsistent_52 : decode cX10_isConsistent 52 = .ok (.getfield 12, 3) := by decide +kernel
theorem dX10_isConsistent_55 : decode cX10_isConsistent 55 = .ok (.getfield 74, 3) := by decide +kernel
theorem dX10_isConsistent_58 : decode cX10_isConsistent 58 = .ok (.invokevirtual 242, 3) := by decide +kernel
theorem dX10_isConsistent_61 : decode cX10_isConsistent 61 = .ok (.if_icmp .ne 33, 3) := by decide +kernel
theorem dX10_isConsistent_64 : decode cX10_isConsistent 64 = .ok (.aload_n 0, 1) := by decide +kernel
theorem dX10_isConsistent_65 : decode cX10_isConsistent 65 = .ok (.getfield 12, 3) := by decide +kernel
theorem dX10_isConsistent_68 : decode cX10_isConsistent 68 = .ok (.getfield 74, 3) := by decide +kernel
theorem dX10_isConsistent_71 : decode cX10_isConsistent 71 = .ok (.invokevirtual 264, 3) := by decide +kernel
theorem dX10_isConsistent_74 : decode cX10_isConsistent 74 = .ok (.ifCond .eq 20, 3) := by decide +kernel
theorem dX10_isConsistent_77 : decode cX10_isConsistent 77 = .ok (.aload_n 0, 1) := by decide +kernel
theorem dX10_isConsistent_78 : decode cX10_isConsistent 78 = .ok (.getfield 12, 3) := by decide +kernel
theorem dX10_isConsistent_81 : decode cX10_isConsistent 81 = .ok (.getfield 74, 3) := by decide +kernel
theorem dX10_isConsistent_84 : decode cX10_isConsistent 84 = .ok (.invokevirtual 268, 3) := by decide +kernel
theorem dX10_isConsistent_87 : decode cX10_isConsistent 87 = .ok (.ifCond .ne 7, 3) := by decide +kernel
theorem dX10_isConsistent_90 : decode cX10_isConsistent 90 = .ok (.iconst 1, 1) := by decide +kernel
theorem dX10_isConsistent_91 : decode cX10_isConsistent 91 = .ok (.goto 4, 3) := by decide +kernel
theorem dX10_isConsistent_94 : decode cX10_isConsistent 94 = .ok (.iconst 0, 1) := by decide +kernel
theorem dX10_isConsistent_95 : decode cX10_isConsistent 95 = .ok (.ireturn, 1) := by decide +kernel
set_option maxRecDepth 20000 in
theorem ggX10_renderColumn_X10_requireSet : GoodIn wsX10_renderColumn wsX10_requireSet := goodIn_ca (goodIn_r _ [8, 9, 10, 2, 3, 11, 12, 13, 14, 15, 16, 244, 245, 246, 247, 248, 249, 250, 251, 252, 253, 254, 255, 256, 257, 258, 259, 260, 261, 262, 263, 264] (by decide +kernel) (by decide +kernel)) (goodIn_sub (fun _ h => List.mem_cons_of_mem _ (List.mem_append_left _ (List.mem_append_right _ h))) (by decide +kernel))
set_option maxRecDepth 20000 in
theorem gX10_renderColumn_X10_requireSet : GoodIn wsX10_renderColumn (wsV RX10 151 RX10 yX10_requireSet wsX10_requireSet) := goodIn_app (goodIn_of _ (by decide +kernel)) ggX10_renderColumn_X10_requireSet
set_option maxRecDepth 20000 in
theorem ggX10_renderColumn_J4_setLength_d00df : GoodIn wsX10_renderColumn wsJ4_setLength_d00df := goodIn_r _ [21, 22, 23, 24, 25, 26, 27, 28, 29, 30, 31, 32, 33, 34, 35, 36, 37, 38, 39, 40, 41, 42, 43, 44, 45, 46, 47, 48, 49, 50, 51, 52, 53, 54, 55, 56, 57, 58, 59, 60, 61, 62, 63, 64, 65, 66, 67, 68, 69, 70, 71, 72, 73, 74, 75, 76, 77, 78, 79, 80, 81, 82, 83, 84, 85, 86, 87, 88, 89, 90, 91, 92, 93, 20, 94, 95, 96, 97, 98, 99, 100, 101, 265, 266, 267, 268, 269, 270, 271, 272, 273, 274, 275, 276, 277, 278, 279, 280] (by decide +kernel) (by decide +kernel)
set_option maxRecDepth 20000 in
theorem gX10_renderColumn_J4_setLength_d00df : GoodIn wsX10_renderColumn (wsV RX10 271 RJ4 yJ4_setLength_d00df wsJ4_setLength_d00df) := goodIn_app (goodIn_of _ (by decide +kernel)) ggX10_renderColumn_J4_setLength_d00df
set_option maxRecDepth 20000 in
theorem ggX10_renderColumn_J6_bitCount_0f7a4 : GoodIn wsX10_renderColumn wsJ6_bitCount_0f7a4 := goodIn_r _ [105, 106, 107, 108] (by decide +kernel) (by decide +kernel)
set_option maxRecDepth 20000 in
theorem gX10_renderColumn_J6_bitCount_0f7a4 : GoodIn wsX10_renderColumn (va_wsS RX10 274 yJ6_bitCount_0f7a4 wsJ6_bitCount_0f7a4) := goodIn_app (goodIn_of _ (by decide +kernel)) ggX10_renderColumn_J6_bitCount_0f7a4
set_option maxRecDepth 20000 in
theorem ggX10_renderColumn_J4_append_cf468 : GoodIn wsX10_renderColumn wsJ4_append_cf468 := goodIn_r _ [112, 113, 114, 24, 115, 26, 116, 31, 32, 34, 35, 36, 37, 38, 39, 40, 41, 42, 43, 44, 45, 46, 47, 48, 49, 50, 51, 52, 53, 54, 55, 56, 57, 58, 59, 60, 61, 62, 63, 64, 65, 66, 67, 68, 69, 70, 71, 72, 73, 74, 75, 76, 77, 78, 79, 80, 81, 117, 118, 84, 119, 120, 121, 122, 123, 124, 125, 126, 99, 127, 128, 129, 130, 131, 132, 133, 134, 135, 136, 137, 138, 139, 140, 141, 142, 143, 144, 145, 146, 147, 148, 149, 150, 151, 152, 153, 154, 155, 156, 157, 158, 159, 160, 161, 162, 163, 164, 165, 166, 167, 168, 169, 170, 271, 272, 273, 274] (by decide +kernel) (by decide +kernel)
set_option maxRecDepth 20000 in
theorem gX10_renderColumn_J4_append_cf468 : GoodIn wsX10_renderColumn (wsV RX10 279 RJ4 yJ4_append_cf468 wsJ4_append_cf468) := goodIn_app (goodIn_of _ (by decide +kernel)) ggX10_renderColumn_J4_append_cf468
set_option maxRecDepth 20000 in
theorem ggX10_renderColumn_X9_memberAt : GoodIn wsX10_renderColumn wsX9_memberAt := goodIn_ca (goodIn_r _ [174, 16, 175, 176, 177, 14, 178, 179, 180, 181, 182, 183, 184, 185, 186, 187, 188, 259, 260, 261, 262, 263, 264] (by decide +kernel) (by decide +kernel)) (goodIn_sub (fun _ h => List.mem_cons_of_mem _ (List.mem_append_right _ h)) (by decide +kernel))
set_option maxRecDepth 20000 in
theorem gX10_renderColumn_X9_memberAt : GoodIn wsX10_renderColumn (wsV RX10 157 RX9 yX9_memberAt wsX9_memberAt) := goodIn_app (goodIn_of _ (by decide +kernel)) ggX10_renderColumn_X9_memberAt
set_option maxRecDepth 20000 in
theorem ggX10_renderColumn_X10_appendMember : GoodIn wsX10_renderColumn wsX10_appendMember := goodIn_ca (goodIn_r _ [192, 1, 2, 3, 193, 194, 195, 196, 20, 197, 198, 199, 24, 200, 26, 201, 31, 32, 202, 203, 104, 204, 34, 35, 36, 37, 38, 39, 40, 41, 42, 43, 44, 45, 46, 47, 48, 49, 50, 51, 52, 53, 54, 55, 56, 57, 58, 59, 60, 61, 62, 63, 64, 65, 66, 67, 68, 69, 70, 71, 72, 73, 74, 75, 76, 77, 78, 79, 80, 81, 205, 206, 207, 208, 209, 210, 211, 99, 212, 156, 213, 214, 215, 141, 142, 143, 216, 217, 146, 218, 148, 219, 220, 151, 221, 222, 223, 224, 225, 226, 153, 154, 155, 157, 158, 109, 110, 111, 112, 113, 114, 115, 116, 117, 118, 84, 119, 120, 121, 122, 123, 124, 125, 126, 127, 128, 129, 130, 131, 132, 133, 134, 135, 136, 137, 138, 139, 140, 144, 145, 147, 149, 150, 152, 159, 160, 161, 162, 163, 164, 165, 166, 167, 168, 169, 170, 227, 228, 229, 14, 230, 16, 187, 175, 176, 177, 178, 183, 184, 185, 186, 188, 231, 232, 233, 234, 235, 244, 245, 246, 247, 248, 249, 250, 251, 252, 253, 254, 255, 256, 257, 258, 259, 260, 261, 262, 263, 264, 271, 272, 273, 274] (by decide +kernel) (by decide +kernel)) (goodIn_sub (fun _ h => List.mem_cons_of_mem _ (List.mem_append_right _ h)) (by decide +kernel))
set_option maxRecDepth 20000 in
theorem gX10_renderColumn_X10_appendMember : GoodIn wsX10_renderColumn (wsV RX10 283 RX10 yX10_appendMember wsX10_appendMember) := goodIn_app (goodIn_of _ (by decide +kernel)) ggX10_renderColumn_X10_appendMember
set_option maxRecDepth 20000 in
theorem ggX10_renderColumn_J4_length_8abf5 : GoodIn wsX10_renderColumn wsJ4_length_8abf5 := goodIn_r _ [239, 240, 241, 24, 242, 26, 243, 31, 271, 272, 273, 274] (by decide +kernel) (by decide +kernel)
set_option maxRecDepth 20000 in
theorem gX10_renderColumn_J4_length_8abf5 : GoodIn wsX10_renderColumn (wsV RX10 287 RJ4 yJ4_length_8abf5 wsJ4_length_8abf5) := goodIn_app (goodIn_of _ (by decide +kernel)) ggX10_renderColumn_J4_length_8abf5
theorem dX10_renderColumn_0 : decode cX10_renderColumn 0 = .ok (.aload_n 0, 1) := by decide +kernel
theorem dX10_renderColumn_1 : decode cX10_renderColumn 1 = .ok (.iload_n 1, 1) := by decide +kernel
theorem dX10_renderColumn_2 : decode cX10_renderColumn 2 = .ok (.invokevirtual 151, 3) := by decide +kernel
theorem dX10_renderColumn_5 : decode cX10_renderColumn 5 = .ok (.aload_n 0, 1) := by decide +kernel
theorem dX10_renderColumn_6 : decode cX10_renderColumn 6 = .ok (.getfield 50, 3) := by decide +kernel
theorem dX10_renderColumn_9 : decode cX10_renderColumn 9 = .ok (.iconst 0, 1) := by decide +kernel
theorem dX10_renderColumn_10 : decode cX10_renderColumn 10 = .ok (.invokevirtual 271, 3) := by decide +kernel
theorem dX10_renderColumn_13 : decode cX10_renderColumn 13 = .ok (.iload_n 1, 1) := by decide +kernel
theorem dX10_renderColumn_14 : decode cX10_renderColumn 14 = .ok (.invokestatic 274, 3) := by decide +kernel
theorem dX10_renderColumn_17 : decode cX10_renderColumn 17 = .ok (.istore_n 2, 1) := by decide +kernel
theorem dX10_renderColumn_18 : decode cX10_renderColumn 18 = .ok (.iconst 0, 1) := by decide +kernel
theorem dX10_renderColumn_19 : decode cX10_renderColumn 19 = .ok (.istore_n 3, 1) := by decide +kernel
theorem dX10_renderColumn_20 : decode cX10_renderColumn 20 = .ok (.iload_n 3, 1) := by decide +kernel
theorem dX10_renderColumn_21 : decode cX10_renderColumn 21 = .ok (.iload_n 2, 1) := by decide +kernel
theorem dX10_renderColumn_22 : decode cX10_renderColumn 22 = .ok (.if_icmp .ge 40, 3) := by decide +kernel
theorem dX10_renderColumn_25 : decode cX10_renderColumn 25 = .ok (.iload_n 3, 1) := by decide +kernel
theorem dX10_renderColumn_26 : decode cX10_renderColumn 26 = .ok (.ifCond .le 13, 3) := by decide +kernel
theorem dX10_renderColumn_29 : decode cX10_renderColumn 29 = .ok (.aload_n 0, 1) := by decide +kernel
theorem dX10_renderColumn_30 : decode cX10_renderColumn 30 = .ok (.getfield 50, 3) := by decide +kernel
theorem dX10_renderColumn_33 : decode cX10_renderColumn 33 = .ok (.bipush 32, 2) := by decide +kernel
theorem dX10_renderColumn_35 : decode cX10_renderColumn 35 = .ok (.invokevirtual 279, 3) := by decide +kernel
theorem dX10_renderColumn_38 : decode cX10_renderColumn 38 = .ok (.pop, 1) := by decide +kernel
theorem dX10_renderColumn_39 : decode cX10_renderColumn 39 = .ok (.aload_n 0, 1) := by decide +kernel
theorem dX10_renderColumn_40 : decode cX10_renderColumn 40 = .ok (.iload_n 1, 1) := by decide +kernel
theorem dX10_renderColumn_41 : decode cX10_renderColumn 41 = .ok (.aload_n 0, 1) := by decide +kernel
theorem dX10_renderColumn_42 : decode cX10_renderColumn 42 = .ok (.getfield 12, 3) := by decide +kernel
theorem dX10_renderColumn_45 : decode cX10_renderColumn 45 = .ok (.getfield 122, 3) := by decide +kernel
theorem dX10_renderColumn_48 : decode cX10_renderColumn 48 = .ok (.iload_n 1, 1) := by decide +kernel
theorem dX10_renderColumn_49 : decode cX10_renderColumn 49 = .ok (.iload_n 3, 1) := by decide +kernel
theorem dX10_renderColumn_50 : decode cX10_renderColumn 50 = .ok (.invokevirtual 157, 3) := by decide +kernel
theorem dX10_renderColumn_53 : decode cX10_renderColumn 53 = .ok (.invokevirtual 283, 3) := by decide +kernel
theorem dX10_renderColumn_56 : decode cX10_renderColumn 56 = .ok (.iinc 3 1, 3) := by decide +kernel
theorem dX10_renderColumn_59 : decode cX10_renderColumn 59 = .ok (.goto (-39), 3) := by decide +kernel
theorem dX10_renderColumn_62 : decode cX10_renderColumn 62 = .ok (.aload_n 0, 1) := by decide +kernel
theorem dX10_renderColumn_63 : decode cX10_renderColumn 63 = .ok (.getfield 50, 3) := by decide +kernel
theorem dX10_renderColumn_66 : decode cX10_renderColumn 66 = .ok (.invokevirtual 287, 3) := by decide +kernel
theorem dX10_renderColumn_69 : decode cX10_renderColumn 69 = .ok (.ireturn, 1) := by decide +kernel
set_option maxRecDepth 20000 in
theorem ggX10_renderEntry_X10_requireEntry : GoodIn wsX10_renderEntry wsX10_requireEntry := goodIn_ca (goodIn_r _ [11, 12, 13, 2, 3, 14, 204, 205, 206, 207, 208, 209, 210, 211, 212, 213, 214, 215, 216, 217, 218, 219, 220, 221, 222, 223, 224, 225] (by decide +kernel) (by decide +kernel)) (goodIn_sub (fun _ h => List.mem_cons_of_mem _ (List.mem_append_right _ h)) (by decide +kernel))
set_option maxRecDepth 20000 in
theorem gX10_renderEntry_X10_requireEntry : GoodIn wsX10_renderEntry (wsV RX10 223 RX10 yX10_requireEntry wsX10_requireEntry) := goodIn_app (goodIn_of _ (by decide +kernel)) ggX10_renderEntry_X10_requireEntry
set_option maxRecDepth 20000 in
theorem ggX10_renderEntry_J4_setLength_d00df : GoodIn wsX10_renderEntry wsJ4_setLength_d00df := goodIn_r _ [19, 20, 21, 22, 23, 24, 25, 26, 27, 28, 29, 30, 31, 32, 33, 34, 35, 36, 37, 38, 39, 40, 41, 42, 43, 44, 45, 46, 47, 48, 49, 50, 51, 52, 53, 54, 55, 56, 57, 58, 59, 60, 61, 62, 63, 64, 65, 66, 67, 68, 69, 70, 71, 72, 73, 74, 75, 76, 77, 78, 79, 80, 81, 82, 83, 84, 85, 86, 87, 88, 89, 90, 91, 18, 92, 93, 94, 95, 96, 97, 98, 99, 226, 227, 228, 229, 230, 231, 232, 233, 234, 235, 236, 237, 238, 239, 240, 241] (by decide +kernel) (by decide +kernel)
set_option maxRecDepth 20000 in
theorem gX10_renderEntry_J4_setLength_d00df : GoodIn wsX10_renderEntry (wsV RX10 271 RJ4 yJ4_setLength_d00df wsJ4_setLength_d00df) := goodIn_app (goodIn_of _ (by decide +kernel)) ggX10_renderEntry_J4_setLength_d00df
set_option maxRecDepth 20000 in
theorem ggX10_renderEntry_J4_append_bf812 : GoodIn wsX10_renderEntry wsJ4_append_bf812 := goodIn_r _ [103, 104, 105, 22, 106, 24, 107, 29, 30, 108, 109, 110, 111, 32, 33, 34, 35, 36, 37, 38, 39, 40, 41, 42, 43, 44, 45, 46, 47, 48, 49, 50, 51, 52, 53, 54, 55, 56, 57, 58, 59, 60, 61, 62, 63, 64, 65, 66, 67, 68, 69, 70, 71, 72, 73, 74, 75, 76, 77, 78, 79, 112, 113, 114, 115, 116, 117, 118, 97, 119, 120, 121, 122, 123, 124, 125, 126, 127, 128, 129, 130, 131, 132, 133, 134, 135, 136, 137, 138, 139, 140, 141, 142, 143, 144, 145, 232, 233, 234, 235] (by decide +kernel) (by decide +kernel)
set_option maxRecDepth 20000 in
theorem gX10_renderEntry_J4_append_bf812 : GoodIn wsX10_renderEntry (wsV RX10 290 RJ4 yJ4_append_bf812 wsJ4_append_bf812) := goodIn_app (goodIn_of _ (by decide +kernel)) ggX10_renderEntry_J4_append_bf812
set_option maxRecDepth 20000 in
theorem ggX10_renderEntry_J4_append_cf468 : GoodIn wsX10_renderEntry wsJ4_append_cf468 := goodIn_r _ [149, 150, 151, 22, 152, 24, 153, 29, 30, 32, 33, 34, 35, 36, 37, 38, 39, 40, 41, 42, 43, 44, 45, 46, 47, 48, 49, 50, 51, 52, 53, 54, 55, 56, 57, 58, 59, 60, 61, 62, 63, 64, 65, 66, 67, 68, 69, 70, 71, 72, 73, 74, 75, 76, 77, 78, 79, 154, 155, 82, 156, 157, 158, 159, 160, 161, 162, 163, 97, 164, 165, 166, 167, 168, 169, 170, 171, 172, 173, 174, 175, 176, 177, 124, 125, 126, 178, 179, 129, 180, 131, 181, 182, 134, 183, 141, 142, 143, 120, 144, 145, 184, 185, 186, 187, 188, 189, 190, 191, 192, 193, 194, 195, 232, 233, 234, 235] (by decide +kernel) (by decide +kernel)
set_option maxRecDepth 20000 in
theorem gX10_renderEntry_J4_append_cf468 : GoodIn wsX10_renderEntry (wsV RX10 279 RJ4 yJ4_append_cf468 wsJ4_append_cf468) := goodIn_app (goodIn_of _ (by decide +kernel)) ggX10_renderEntry_J4_append_cf468
set_option maxRecDepth 20000 in
theorem ggX10_renderEntry_J4_length_8abf5 : GoodIn wsX10_renderEntry wsJ4_length_8abf5 := goodIn_r _ [199, 200, 201, 22, 202, 24, 203, 29, 232, 233, 234, 235] (by decide +kernel) (by decide +kernel)
set_option maxRecDepth 20000 in
theorem gX10_renderEntry_J4_length_8abf5 : GoodIn wsX10_renderEntry (wsV RX10 287 RJ4 yJ4_length_8abf5 wsJ4_length_8abf5) := goodIn_app (goodIn_of _ (by decide +kernel)) ggX10_renderEntry_J4_length_8abf5
theorem dX10_renderEntry_0 : decode cX10_renderEntry 0 = .ok (.aload_n 0, 1) := by decide +kernel
theorem dX10_renderEntry_1 : decode cX10_renderEntry 1 = .ok (.iload_n 1, 1) := by decide +kernel
theorem dX10_renderEntry_2 : decode cX10_renderEntry 2 = .ok (.invokevirtual 223, 3) := by decide +kernel
theorem dX10_renderEntry_5 : decode cX10_renderEntry 5 = .ok (.aload_n 0, 1) := by decide +kernel
theorem dX10_renderEntry_6 : decode cX10_renderEntry 6 = .ok (.getfield 50, 3) := by decide +kernel
theorem dX10_renderEntry_9 : decode cX10_renderEntry 9 = .ok (.iconst 0, 1) := by decide +kernel
theorem dX10_renderEntry_10 : decode cX10_renderEntry 10 = .ok (.invokevirtual 271, 3) := by decide +kernel
theorem dX10_renderEntry_13 : decode cX10_renderEntry 13 = .ok (.aload_n 0, 1) := by decide +kernel
theorem dX10_renderEntry_14 : decode cX10_renderEntry 14 = .ok (.getfield 50, 3) := by decide +kernel
theorem dX10_renderEntry_17 : decode cX10_renderEntry 17 = .ok (.aload_n 0, 1) := by decide +kernel
theorem dX10_renderEntry_18 : decode cX10_renderEntry 18 = .ok (.getfield 12, 3) := by decide +kernel
theorem dX10_renderEntry_21 : decode cX10_renderEntry 21 = .ok (.getfield 74, 3) := by decide +kernel
theorem dX10_renderEntry_24 : decode cX10_renderEntry 24 = .ok (.getfield 226, 3) := by decide +kernel
theorem dX10_renderEntry_27 : decode cX10_renderEntry 27 = .ok (.iload_n 1, 1) := by decide +kernel
theorem dX10_renderEntry_28 : decode cX10_renderEntry 28 = .ok (.iaload, 1) := by decide +kernel
theorem dX10_renderEntry_29 : decode cX10_renderEntry 29 = .ok (.invokevirtual 290, 3) := by decide +kernel
theorem dX10_renderEntry_32 : decode cX10_renderEntry 32 = .ok (.pop, 1) := by decide +kernel
theorem dX10_renderEntry_33 : decode cX10_renderEntry 33 = .ok (.aload_n 0, 1) := by decide +kernel
theorem dX10_renderEntry_34 : decode cX10_renderEntry 34 = .ok (.getfield 50, 3) := by decide +kernel
theorem dX10_renderEntry_37 : decode cX10_renderEntry 37 = .ok (.bipush 62, 2) := by decide +kernel
theorem dX10_renderEntry_39 : decode cX10_renderEntry 39 = .ok (.invokevirtual 279, 3) := by decide +kernel
theorem dX10_renderEntry_42 : decode cX10_renderEntry 42 = .ok (.pop, 1) := by decide +kernel
theorem dX10_renderEntry_43 : decode cX10_renderEntry 43 = .ok (.aload_n 0, 1) := by decide +kernel
theorem dX10_renderEntry_44 : decode cX10_renderEntry 44 = .ok (.getfield 50, 3) := by decide +kernel
theorem dX10_renderEntry_47 : decode cX10_renderEntry 47 = .ok (.aload_n 0, 1) := by decide +kernel
theorem dX10_renderEntry_48 : decode cX10_renderEntry 48 = .ok (.getfield 12, 3) := by decide +kernel
theorem dX10_renderEntry_51 : decode cX10_renderEntry 51 = .ok (.getfield 74, 3) := by decide +kernel
theorem dX10_renderEntry_54 : decode cX10_renderEntry 54 = .ok (.getfield 229, 3) := by decide +kernel
theorem dX10_renderEntry_57 : decode cX10_renderEntry 57 = .ok (.iload_n 1, 1) := by decide +kernel
theorem dX10_renderEntry_58 : decode cX10_renderEntry 58 = .ok (.iaload, 1) := by decide +kernel
theorem dX10_renderEntry_59 : decode cX10_renderEntry 59 = .ok (.invokevirtual 290, 3) := by decide +kernel
theorem dX10_renderEntry_62 : decode cX10_renderEntry 62 = .ok (.pop, 1) := by decide +kernel
theorem dX10_renderEntry_63 : decode cX10_renderEntry 63 = .ok (.aload_n 0, 1) := by decide +kernel
theorem dX10_renderEntry_64 : decode cX10_renderEntry 64 = .ok (.getfield 50, 3) := by decide +kernel
theorem dX10_renderEntry_67 : decode cX10_renderEntry 67 = .ok (.bipush 61, 2) := by decide +kernel
theorem dX10_renderEntry_69 : decode cX10_renderEntry 69 = .ok (.invokevirtual 279, 3) := by decide +kernel
theorem dX10_renderEntry_72 : decode cX10_renderEntry 72 = .ok (.pop, 1) := by decide +kernel
theorem dX10_renderEntry_73 : decode cX10_renderEntry 73 = .ok (.aload_n 0, 1) := by decide +kernel
theorem dX10_renderEntry_74 : decode cX10_renderEntry 74 = .ok (.getfield 50, 3) := by decide +kernel
theorem dX10_renderEntry_77 : decode cX10_renderEntry 77 = .ok (.aload_n 0, 1) := by decide +kernel
theorem dX10_renderEntry_78 : decode cX10_renderEntry 78 = .ok (.getfield 12, 3) := by decide +kernel
theorem dX10_renderEntry_81 : decode cX10_renderEntry 81 = .ok (.getfield 74, 3) := by decide +kernel
theorem dX10_renderEntry_84 : decode cX10_renderEntry 84 = .ok (.getfield 232, 3) := by decide +kernel
theorem dX10_renderEntry_87 : decode cX10_renderEntry 87 = .ok (.iload_n 1, 1) := by decide +kernel
theorem dX10_renderEntry_88 : decode cX10_renderEntry 88 = .ok (.iaload, 1) := by decide +kernel
theorem dX10_renderEntry_89 : decode cX10_renderEntry 89 = .ok (.invokevirtual 290, 3) := by decide +kernel
theorem dX10_renderEntry_92 : decode cX10_renderEntry 92 = .ok (.pop, 1) := by decide +kernel
theorem dX10_renderEntry_93 : decode cX10_renderEntry 93 = .ok (.aload_n 0, 1) := by decide +kernel
theorem dX10_renderEntry_94 : decode cX10_renderEntry 94 = .ok (.getfield 50, 3) := by decide +kernel
theorem dX10_renderEntry_97 : decode cX10_renderEntry 97 = .ok (.invokevirtual 287, 3) := by decide +kernel
theorem dX10_renderEntry_100 : decode cX10_renderEntry 100 = .ok (.ireturn, 1) := by decide +kernel
set_option maxRecDepth 20000 in
theorem ggX10_outputAt_J4_length_8abf5 : GoodIn wsX10_outputAt wsJ4_length_8abf5 := goodIn_r _ [8, 9, 10, 11, 12, 13, 14, 15, 58, 59, 60, 61] (by decide +kernel) (by decide +kernel)
set_option maxRecDepth 20000 in
theorem gX10_outputAt_J4_length_8abf5 : GoodIn wsX10_outputAt (wsV RX10 287 RJ4 yJ4_length_8abf5 wsJ4_length_8abf5) := goodIn_app (goodIn_of _ (by decide +kernel)) ggX10_outputAt_J4_length_8abf5
set_option maxRecDepth 20000 in
theorem ggX10_outputAt_J4_charAt_5068e : GoodIn wsX10_outputAt wsJ4_charAt_5068e := goodIn_r _ [19, 20, 21, 11, 22, 13, 23, 24, 25, 15, 26, 27, 28, 29, 30, 31, 32, 33, 34, 35, 36, 37, 38, 39, 40, 41, 42, 43, 44, 45, 46, 47, 48, 58, 59, 60, 61] (by decide +kernel) (by decide +kernel)
set_option maxRecDepth 20000 in
theorem gX10_outputAt_J4_charAt_5068e : GoodIn wsX10_outputAt (wsV RX10 298 RJ4 yJ4_charAt_5068e wsJ4_charAt_5068e) := goodIn_app (goodIn_of _ (by decide +kernel)) ggX10_outputAt_J4_charAt_5068e
theorem dX10_outputAt_0 : decode cX10_outputAt 0 = .ok (.iload_n 1, 1) := by decide +kernel
theorem dX10_outputAt_1 : decode cX10_outputAt 1 = .ok (.ifCond .lt 14, 3) := by decide +kernel
theorem dX10_outputAt_4 : decode cX10_outputAt 4 = .ok (.iload_n 1, 1) := by decide +kernel
theorem dX10_outputAt_5 : decode cX10_outputAt 5 = .ok (.aload_n 0, 1) := by decide +kernel
theorem dX10_outputAt_6 : decode cX10_outputAt 6 = .ok (.getfield 50, 3) := by decide +kernel
theorem dX10_outputAt_9 : decode cX10_outputAt 9 = .ok (.invokevirtual 287, 3) := by decide +kernel
theorem dX10_outputAt_12 : decode cX10_outputAt 12 = .ok (.if_icmp .lt 14, 3) := by decide +kernel
theorem dX10_outputAt_15 : decode cX10_outputAt 15 = .ok (.new 293, 3) := by decide +kernel
theorem dX10_outputAt_18 : decode cX10_outputAt 18 = .ok (.dup, 1) := by decide +kernel
theorem dX10_outputAt_19 : decode cX10_outputAt 19 = .ok (.ldc_w 295, 3) := by decide +kernel
theorem dX10_outputAt_22 : decode cX10_outputAt 22 = .ok (.invokespecial 297, 3) := by decide +kernel
theorem dX10_outputAt_25 : decode cX10_outputAt 25 = .ok (.athrow, 1) := by decide +kernel
theorem dX10_outputAt_26 : decode cX10_outputAt 26 = .ok (.aload_n 0, 1) := by decide +kernel
theorem dX10_outputAt_27 : decode cX10_outputAt 27 = .ok (.getfield 50, 3) := by decide +kernel
theorem dX10_outputAt_30 : decode cX10_outputAt 30 = .ok (.iload_n 1, 1) := by decide +kernel
theorem dX10_outputAt_31 : decode cX10_outputAt 31 = .ok (.invokevirtual 298, 3) := by decide +kernel
theorem dX10_outputAt_34 : decode cX10_outputAt 34 = .ok (.ireturn, 1) := by decide +kernel
set_option maxRecDepth 20000 in
theorem ggX10_type_X7_length : GoodIn wsX10_type wsX7_length := goodIn_r _ [10, 11, 12, 13, 14, 15, 16, 17, 18, 19, 20, 21, 22, 23, 150, 151, 152, 153, 154, 155, 156, 157, 158, 159] (by decide +kernel) (by decide +kernel)
set_option maxRecDepth 20000 in
theorem gX10_type_X7_length : GoodIn wsX10_type (wsV RX10 307 RX7 yX7_length wsX7_length) := goodIn_app (goodIn_of _ (by decide +kernel)) ggX10_type_X7_length
set_option maxRecDepth 20000 in
theorem ggX10_type_X7_append : GoodIn wsX10_type wsX7_append := goodIn_r _ [27, 11, 28, 29, 30, 15, 31, 32, 33, 19, 34, 21, 35, 23, 36, 37, 38, 39, 40, 41, 42, 43, 44, 45, 46, 47, 48, 49, 50, 51, 52, 53, 54, 55, 56, 57, 58, 59, 60, 61, 62, 63, 64, 65, 66, 67, 68, 69, 70, 71, 72, 73, 74, 75, 76, 77, 78, 79, 80, 81, 82, 83, 84, 85, 86, 87, 88, 89, 90, 91, 92, 93, 94, 95, 96, 97, 98, 99, 100, 101, 102, 103, 104, 105, 106, 107, 108, 109, 110, 111, 112, 113, 114, 115, 116, 117, 118, 119, 120, 121, 122, 123, 124, 125, 126, 127, 128, 129, 130, 131, 132, 133, 134, 135, 136, 137, 138, 139, 140, 12, 13, 14, 16, 17, 18, 20, 22, 150, 151, 152, 153, 154, 155, 156, 157, 158, 159] (by decide +kernel) (by decide +kernel)
set_option maxRecDepth 20000 in
theorem gX10_type_X7_append : GoodIn wsX10_type (wsV RX10 313 RX7 yX7_append wsX7_append) := goodIn_app (goodIn_of _ (by decide +kernel)) ggX10_type_X7_append
theorem dX10_type_0 : decode cX10_type 0 = .ok (.iload_n 1, 1) := by decide +kernel
theorem dX10_type_1 : decode cX10_type 1 = .ok (.bipush 32, 2) := by decide +kernel
theorem dX10_type_3 : decode cX10_type 3 = .ok (.if_icmp .lt 9, 3) := by decide +kernel
theorem dX10_type_6 : decode cX10_type 6 = .ok (.iload_n 1, 1) := by decide +kernel
theorem dX10_type_7 : decode cX10_type 7 = .ok (.bipush 126, 2) := by decide +kernel
theorem dX10_type_9 : decode cX10_type 9 = .ok (.if_icmp .le 14, 3) := by decide +kernel
theorem dX10_type_12 : decode cX10_type 12 = .ok (.new 302, 3) := by decide +kernel
theorem dX10_type_15 : decode cX10_type 15 = .ok (.dup, 1) := by decide +kernel
theorem dX10_type_16 : decode cX10_type 16 = .ok (.ldc_w 304, 3) := by decide +kernel
theorem dX10_type_19 : decode cX10_type 19 = .ok (.invokespecial 306, 3) := by decide +kernel
theorem dX10_type_22 : decode cX10_type 22 = .ok (.athrow, 1) := by decide +kernel
theorem dX10_type_23 : decode cX10_type 23 = .ok (.aload_n 0, 1) := by decide +kernel
theorem dX10_type_24 : decode cX10_type 24 = .ok (.getfield 36, 3) := by decide +kernel
theorem dX10_type_27 : decode cX10_type 27 = .ok (.invokevirtual 307, 3) := by decide +kernel
theorem dX10_type_30 : decode cX10_type 30 = .ok (.bipush 60, 2) := by decide +kernel
theorem dX10_type_32 : decode cX10_type 32 = .ok (.if_icmp .lt 14, 3) := by decide +kernel
theorem dX10_type_35 : decode cX10_type 35 = .ok (.new 308, 3) := by decide +kernel
theorem dX10_type_38 : decode cX10_type 38 = .ok (.dup, 1) := by decide +kernel
theorem dX10_type_39 : decode cX10_type 39 = .ok (.ldc_w 310, 3) := by decide +kernel
theorem dX10_type_42 : decode cX10_type 42 = .ok (.invokespecial 312, 3) := by decide +kernel
theorem dX10_type_45 : decode cX10_type 45 = .ok (.athrow, 1) := by decide +kernel
theorem dX10_type_46 : decode cX10_type 46 = .ok (.aload_n 0, 1) := by decide +kernel
theorem dX10_type_47 : decode cX10_type 47 = .ok (.getfield 36, 3) := by decide +kernel
theorem dX10_type_50 : decode cX10_type 50 = .ok (.iload_n 1, 1) := by decide +kernel
theorem dX10_type_51 : decode cX10_type 51 = .ok (.invokevirtual 313, 3) := by decide +kernel
theorem dX10_type_54 : decode cX10_type 54 = .ok (.ireturn, 1) := by decide +kernel
set_option maxRecDepth 20000 in
theorem ggX10_runScript_X7_read : GoodIn wsX10_runScript wsX7_read := goodIn_ca (goodIn_r _ [16, 17, 18, 19, 20, 21, 22, 15, 23, 24, 25, 26, 27, 28, 29, 30, 31, 32, 33, 34, 35, 36, 37, 38, 39, 40, 41, 42, 43, 44, 45, 46, 47, 48, 49, 50, 51, 52, 53, 54, 55, 56, 57, 58, 59, 60, 61, 62, 63, 64, 65, 66, 67, 68, 69, 70, 71, 72, 73, 74, 75, 76, 77, 78, 79, 80, 81, 82, 83, 84, 85, 86, 87, 88, 89, 90, 91, 92, 93, 94, 95, 96, 97, 98, 99, 100, 101, 102, 103, 104, 105, 106, 107, 108, 109, 110, 111, 112, 113, 114, 115, 116, 117, 118, 119, 120, 121, 122, 123, 124, 125, 126, 127, 128, 129, 130, 131, 132, 133, 134, 135, 136, 137, 138, 139, 140, 487, 488, 489, 490, 491, 492, 493, 494, 495, 496, 497, 498, 499, 500] (by decide +kernel) (by decide +kernel)) (goodIn_sub (fun _ h => List.mem_cons_of_mem _ (List.mem_append_right _ h)) (by decide +kernel))
set_option maxRecDepth 20000 in
theorem gX10_runScript_X7_read : GoodIn wsX10_runScript (wsV RX10 316 RX7 yX7_read wsX7_read) := goodIn_app (goodIn_of _ (by decide +kernel)) ggX10_runScript_X7_read
set_option maxRecDepth 20000 in
theorem ggX10_runScript_X7_clear : GoodIn wsX10_runScript wsX7_clear := goodIn_r _ [144, 19, 145, 146, 147, 100, 148, 149, 150, 104, 151, 106, 152, 153, 154, 155, 108, 118, 156, 157, 158, 159, 160, 161, 117, 162, 163, 164, 165, 166, 167, 168, 169, 170, 171, 172, 29, 30, 31, 173, 174, 175, 176, 177, 178, 179, 180, 181, 182, 183, 184, 185, 186, 187, 188, 120, 121, 189, 190, 191, 192, 193, 194, 195, 196, 197, 198, 199, 200, 58, 201, 202, 203, 204, 205, 206, 207, 208, 209, 210, 211, 212, 213, 214, 70, 215, 216, 487, 488, 489, 490, 491, 492, 501, 502, 503, 504, 505, 506, 497, 498, 499, 500, 507, 508, 509, 510, 511, 512] (by decide +kernel) (by decide +kernel)
set_option maxRecDepth 20000 in
theorem gX10_runScript_X7_clear : GoodIn wsX10_runScript (wsV RX10 319 RX7 yX7_clear wsX7_clear) := goodIn_app (goodIn_of _ (by decide +kernel)) ggX10_runScript_X7_clear
set_option maxRecDepth 20000 in
theorem ggX10_runScript_X5_note : GoodIn wsX10_runScript wsX5_note := goodIn_r _ [221, 222, 223, 224, 225, 226, 227, 228, 229, 230, 231, 232, 233, 234, 235, 236, 237, 238, 239, 240, 241, 242, 190, 191, 192, 243, 244, 245, 246, 247, 248, 249, 250, 251, 252, 253, 254, 255, 256, 257, 258, 259, 513, 514, 515, 516, 517, 518, 519, 520, 521, 522, 523, 524, 525, 526, 527, 528, 529, 530, 531, 532, 533, 534] (by decide +kernel) (by decide +kernel)
set_option maxRecDepth 20000 in
theorem gX10_runScript_X5_note : GoodIn wsX10_runScript (wsV RX10 324 RX5 yX5_note wsX5_note) := goodIn_app (goodIn_of _ (by decide +kernel)) ggX10_runScript_X5_note
set_option maxRecDepth 20000 in
theorem ggX10_runScript_X7_refusalOf : GoodIn wsX10_runScript wsX7_refusalOf := goodIn_ca (goodIn_r _ [263, 264, 27, 265, 266, 267, 268, 269, 270, 271, 272, 273, 274, 275, 15, 276, 128, 277, 278, 279, 227, 280, 281, 229, 282, 283, 284, 285, 286, 287, 288, 289, 290, 291, 230, 292, 293, 294, 295, 296, 250, 297, 252, 298, 299, 300, 301, 256, 302, 303, 304, 305, 253, 306, 307, 308, 309, 310, 311, 312, 238, 313, 240, 314, 315, 316, 317, 318, 319, 320, 321, 322, 323, 324, 325, 326, 246, 327, 328, 329, 330, 331, 332, 333, 334, 243, 335, 336, 337, 338, 339, 340, 341, 342, 241, 343, 344, 345, 346, 347, 348, 349, 350, 351, 352, 353, 354, 355, 356, 357, 358, 359, 360, 361, 362, 363, 364, 365, 366, 367, 368, 369, 370, 371, 372, 120, 30, 121, 373, 374, 375, 376, 377, 378, 379, 380, 381, 382, 383, 384, 385, 386, 387, 388, 389, 390, 391, 392, 393, 394, 29, 31, 487, 488, 489, 490, 491, 492, 516, 517, 518, 519, 520, 521, 522, 523, 524, 525, 526, 527, 528, 529, 530, 531, 532, 533, 534] (by decide +kernel) (by decide +kernel)) (goodIn_sub (fun _ h => List.mem_cons_of_mem _ (List.mem_append_right _ h)) (by decide +kernel))
set_option maxRecDepth 20000 in
theorem gX10_runScript_X7_refusalOf : GoodIn wsX10_runScript (wsV RX10 328 RX7 yX7_refusalOf wsX7_refusalOf) := goodIn_app (goodIn_of _ (by decide +kernel)) ggX10_runScript_X7_refusalOf
set_option maxRecDepth 20000 in
theorem ggX10_runScript_X5_takeBack : GoodIn wsX10_runScript wsX5_takeBack := goodIn_r _ [398, 222, 223, 224, 225, 226, 227, 228, 229, 230, 231, 232, 233, 234, 235, 236, 237, 238, 239, 240, 241, 242, 190, 191, 192, 243, 244, 245, 246, 247, 248, 249, 250, 251, 252, 253, 254, 255, 256, 257, 258, 259, 513, 514, 515, 516, 517, 518, 519, 520, 521, 522, 523, 524, 525, 526, 527, 528, 529, 530, 531, 532, 533, 534] (by decide +kernel) (by decide +kernel)
set_option maxRecDepth 20000 in
theorem gX10_runScript_X5_takeBack : GoodIn wsX10_runScript (wsV RX10 338 RX5 yX5_takeBack wsX5_takeBack) := goodIn_app (goodIn_of _ (by decide +kernel)) ggX10_runScript_X5_takeBack
set_option maxRecDepth 20000 in
theorem ggX10_runScript_X7_execute : GoodIn wsX10_runScript wsX7_execute := goodIn_ca (goodIn_r _ [402, 264, 27, 403, 266, 267, 268, 269, 270, 271, 272, 273, 274, 275, 15, 276, 128, 404, 405, 406, 227, 407, 230, 229, 408, 409, 410, 250, 411, 252, 412, 413, 414, 238, 415, 240, 241, 243, 244, 245, 416, 417, 418, 419, 256, 257, 258, 259, 253, 420, 421, 422, 423, 371, 424, 425, 426, 427, 428, 233, 429, 332, 333, 334, 335, 336, 337, 338, 339, 340, 341, 342, 343, 344, 345, 346, 430, 431, 432, 433, 282, 434, 435, 436, 437, 438, 439, 440, 441, 442, 443, 234, 232, 444, 348, 349, 350, 351, 352, 353, 354, 355, 356, 357, 358, 359, 360, 361, 367, 368, 369, 370, 372, 120, 30, 121, 373, 374, 375, 376, 445, 446, 447, 448, 246, 449, 450, 451, 452, 231, 453, 454, 455, 456, 457, 29, 31, 458, 459, 460, 461, 462, 463, 464, 465, 466, 255, 254, 190, 191, 192, 467, 468, 469, 470, 393, 471, 487, 488, 489, 490, 491, 492, 516, 517, 518, 519, 520, 521, 528, 529, 530, 531, 532, 533, 534, 522, 523, 524, 525, 526, 527] (by decide +kernel) (by decide +kernel)) (goodIn_sub (fun _ h => List.mem_cons_of_mem _ (List.mem_append_right _ h)) (by decide +kernel))
set_option maxRecDepth 20000 in
theorem gX10_runScript_X7_execute : GoodIn wsX10_runScript (wsV RX10 343 RX7 yX7_execute wsX7_execute) := goodIn_app (goodIn_of _ (by decide +kernel)) ggX10_runScript_X7_execute
set_option maxRecDepth 20000 in
theorem ggX10_runScript_X5_keep : GoodIn wsX10_runScript wsX5_keep := goodIn_r _ [475, 223, 476, 477, 120, 30, 121, 513, 514, 515] (by decide +kernel) (by decide +kernel)
set_option maxRecDepth 20000 in
theorem gX10_runScript_X5_keep : GoodIn wsX10_runScript (wsV RX10 347 RX5 yX5_keep wsX5_keep) := goodIn_app (goodIn_of _ (by decide +kernel)) ggX10_runScript_X5_keep
theorem dX10_runScript_0 : decode cX10_runScript 0 = .ok (.aload_n 0, 1) := by decide +kernel
theorem dX10_runScript_1 : decode cX10_runScript 1 = .ok (.getfield 36, 3) := by decide +kernel
theorem dX10_runScript_4 : decode cX10_runScript 4 = .ok (.invokevirtual 316, 3) := by decide +kernel
theorem dX10_runScript_7 : decode cX10_runScript 7 = .ok (.istore_n 1, 1) := by decide +kernel
theorem dX10_runScript_8 : decode cX10_runScript 8 = .ok (.aload_n 0, 1) := by decide +kernel
theorem dX10_runScript_9 : decode cX10_runScript 9 = .ok (.getfield 36, 3) := by decide +kernel
theorem dX10_runScript_12 : decode cX10_runScript 12 = .ok (.invokevirtual 319, 3) := by decide +kernel
theorem dX10_runScript_15 : decode cX10_runScript 15 = .ok (.iload_n 1, 1) := by decide +kernel
theorem dX10_runScript_16 : decode cX10_runScript 16 = .ok (.iconst (-1), 1) := by decide +kernel
theorem dX10_runScript_17 : decode cX10_runScript 17 = .ok (.if_icmp .eq 19, 3) := by decide +kernel
theorem dX10_runScript_20 : decode cX10_runScript 20 = .ok (.aload_n 0, 1) := by decide +kernel
theorem dX10_runScript_21 : decode cX10_runScript 21 = .ok (.iload_n 1, 1) := by decide +kernel
theorem dX10_runScript_22 : decode cX10_runScript 22 = .ok (.putfield 40, 3) := by decide +kernel
theorem dX10_runScript_25 : decode cX10_runScript 25 = .ok (.new 302, 3) := by decide +kernel
theorem dX10_runScript_28 : decode cX10_runScript 28 = .ok (.dup, 1) := by decide +kernel
theorem dX10_runScript_29 : decode cX10_runScript 29 = .ok (.ldc_w 322, 3) := by decide +kernel
theorem dX10_runScript_32 : decode cX10_runScript 32 = .ok (.invokespecial 306, 3) := by decide +kernel
theorem dX10_runScript_35 : decode cX10_runScript 35 = .ok (.athrow, 1) := by decide +kernel
theorem dX10_runScript_36 : decode cX10_runScript 36 = .ok (.aload_n 0, 1) := by decide +kernel
theorem dX10_runScript_37 : decode cX10_runScript 37 = .ok (.getfield 19, 3) := by decide +kernel
theorem dX10_runScript_40 : decode cX10_runScript 40 = .ok (.aload_n 0, 1) := by decide +kernel
theorem dX10_runScript_41 : decode cX10_runScript 41 = .ok (.getfield 12, 3) := by decide +kernel
theorem dX10_runScript_44 : decode cX10_runScript 44 = .ok (.invokevirtual 324, 3) := by decide +kernel
theorem dX10_runScript_47 : decode cX10_runScript 47 = .ok (.iconst 0, 1) := by decide +kernel
theorem dX10_runScript_48 : decode cX10_runScript 48 = .ok (.istore_n 2, 1) := by decide +kernel
theorem dX10_runScript_49 : decode cX10_runScript 49 = .ok (.iload_n 2, 1) := by decide +kernel
theorem dX10_runScript_50 : decode cX10_runScript 50 = .ok (.aload_n 0, 1) := by decide +kernel
theorem dX10_runScript_51 : decode cX10_runScript 51 = .ok (.getfield 36, 3) := by decide +kernel
theorem dX10_runScript_54 : decode cX10_runScript 54 = .ok (.getfield 327, 3) := by decide +kernel
theorem dX10_runScript_57 : decode cX10_runScript 57 = .ok (.if_icmp .ge 66, 3) := by decide +kernel
theorem dX10_runScript_60 : decode cX10_runScript 60 = .ok (.aload_n 0, 1) := by decide +kernel
theorem dX10_runScript_61 : decode cX10_runScript 61 = .ok (.getfield 36, 3) := by decide +kernel
theorem dX10_runScript_64 : decode cX10_runScript 64 = .ok (.iload_n 2, 1) := by decide +kernel
theorem dX10_runScript_65 : decode cX10_runScript 65 = .ok (.aload_n 0, 1) := by decide +kernel
theorem dX10_runScript_66 : decode cX10_runScript 66 = .ok (.getfield 12, 3) := by decide +kernel
theorem dX10_runScript_69 : decode cX10_runScript 69 = .ok (.invokevirtual 328, 3) := by decide +kernel
theorem dX10_runScript_72 : decode cX10_runScript 72 = .ok (.getstatic 332, 3) := by decide +kernel
theorem dX10_runScript_75 : decode cX10_runScript 75 = .ok (.if_acmp .eq 30, 3) := by decide +kernel
theorem dX10_runScript_78 : decode cX10_runScript 78 = .ok (.aload_n 0, 1) := by decide +kernel
theorem dX10_runScript_79 : decode cX10_runScript 79 = .ok (.getfield 19, 3) := by decide +kernel
theorem dX10_runScript_82 : decode cX10_runScript 82 = .ok (.aload_n 0, 1) := by decide +kernel
theorem dX10_runScript_83 : decode cX10_runScript 83 = .ok (.getfield 12, 3) := by decide +kernel
theorem dX10_runScript_86 : decode cX10_runScript 86 = .ok (.invokevirtual 338, 3) := by decide +kernel
theorem dX10_runScript_89 : decode cX10_runScript 89 = .ok (.aload_n 0, 1) := by decide +kernel
theorem dX10_runScript_90 : decode cX10_runScript 90 = .ok (.iload_n 2, 1) := by decide +kernel
theorem dX10_runScript_91 : decode cX10_runScript 91 = .ok (.putfield 44, 3) := by decide +kernel
theorem dX10_runScript_94 : decode cX10_runScript 94 = .ok (.new 308, 3) := by decide +kernel
theorem dX10_runScript_97 : decode cX10_runScript 97 = .ok (.dup, 1) := by decide +kernel
theorem dX10_runScript_98 : decode cX10_runScript 98 = .ok (.ldc_w 341, 3) := by decide +kernel
theorem dX10_runScript_101 : decode cX10_runScript 101 = .ok (.invokespecial 312, 3) := by decide +kernel
theorem dX10_runScript_104 : decode cX10_runScript 104 = .ok (.athrow, 1) := by decide +kernel
theorem dX10_runScript_105 : decode cX10_runScript 105 = .ok (.aload_n 0, 1) := by decide +kernel
theorem dX10_runScript_106 : decode cX10_runScript 106 = .ok (.getfield 36, 3) := by decide +kernel
theorem dX10_runScript_109 : decode cX10_runScript 109 = .ok (.iload_n 2, 1) := by decide +kernel
theorem dX10_runScript_110 : decode cX10_runScript 110 = .ok (.aload_n 0, 1) := by decide +kernel
theorem dX10_runScript_111 : decode cX10_runScript 111 = .ok (.getfield 12, 3) := by decide +kernel
theorem dX10_runScript_114 : decode cX10_runScript 114 = .ok (.invokevirtual 343, 3) := by decide +kernel
theorem dX10_runScript_117 : decode cX10_runScript 117 = .ok (.iinc 2 1, 3) := by decide +kernel
theorem dX10_runScript_120 : decode cX10_runScript 120 = .ok (.goto (-71), 3) := by decide +kernel
theorem dX10_runScript_123 : decode cX10_runScript 123 = .ok (.aload_n 0, 1) := by decide +kernel
theorem dX10_runScript_124 : decode cX10_runScript 124 = .ok (.getfield 19, 3) := by decide +kernel
theorem dX10_runScript_127 : decode cX10_runScript 127 = .ok (.invokevirtual 347, 3) := by decide +kernel
theorem dX10_runScript_130 : decode cX10_runScript 130 = .ok (.aload_n 0, 1) := by decide +kernel
theorem dX10_runScript_131 : decode cX10_runScript 131 = .ok (.getfield 36, 3) := by decide +kernel
theorem dX10_runScript_134 : decode cX10_runScript 134 = .ok (.getfield 327, 3) := by decide +kernel
theorem dX10_runScript_137 : decode cX10_runScript 137 = .ok (.ireturn, 1) := by decide +kernel
set_option maxRecDepth 20000 in
theorem ggX10_errorPosition_X10_requireFound : GoodIn wsX10_errorPosition wsX10_requireFound := goodIn_ca (goodIn_r _ [5, 6, 7] (by decide +kernel) (by decide +kernel)) (goodIn_sub (fun _ h => List.mem_cons_of_mem _ (List.mem_append_right _ h)) (by decide +kernel))
set_option maxRecDepth 20000 in
theorem gX10_errorPosition_X10_requireFound : GoodIn wsX10_errorPosition (va_wsS RX10 160 yX10_requireFound wsX10_requireFound) := goodIn_app (goodIn_of _ (by decide +kernel)) ggX10_errorPosition_X10_requireFound
theorem dX10_errorPosition_0 : decode cX10_errorPosition 0 = .ok (.aload_n 0, 1) := by decide +kernel
theorem dX10_errorPosition_1 : decode cX10_errorPosition 1 = .ok (.getfield 40, 3) := by decide +kernel
theorem dX10_errorPosition_4 : decode cX10_errorPosition 4 = .ok (.invokestatic 160, 3) := by decide +kernel
theorem dX10_errorPosition_7 : decode cX10_errorPosition 7 = .ok (.ireturn, 1) := by decide +kernel
set_option maxRecDepth 20000 in
theorem ggX10_failedCommand_X10_requireFound : GoodIn wsX10_failedCommand wsX10_requireFound := goodIn_ca (goodIn_r _ [5, 6, 7] (by decide +kernel) (by decide +kernel)) (goodIn_sub (fun _ h => List.mem_cons_of_mem _ (List.mem_append_right _ h)) (by decide +kernel))
set_option maxRecDepth 20000 in
theorem gX10_failedCommand_X10_requireFound : GoodIn wsX10_failedCommand (va_wsS RX10 160 yX10_requireFound wsX10_requireFound) := goodIn_app (goodIn_of _ (by decide +kernel)) ggX10_failedCommand_X10_requireFound
theorem dX10_failedCommand_0 : decode cX10_failedCommand 0 = .ok (.aload_n 0, 1) := by decide +kernel
theorem dX10_failedCommand_1 : decode cX10_failedCommand 1 = .ok (.getfield 44, 3) := by decide +kernel
theorem dX10_failedCommand_4 : decode cX10_failedCommand 4 = .ok (.invokestatic 160, 3) := by decide +kernel
theorem dX10_failedCommand_7 : decode cX10_failedCommand 7 = .ok (.ireturn, 1) := by decide +kernel
set_option maxRecDepth 20000 in
theorem ggX10_undo_X5_goBack : GoodIn wsX10_undo wsX5_goBack := goodIn_r _ [10, 11, 12, 13, 14, 15, 9, 16, 17, 18, 19, 20, 21, 22, 23, 24, 25, 26, 27, 28, 29, 30, 31, 32, 33, 34, 35, 36, 37, 38, 39, 40, 41, 42, 43, 44, 45, 46, 47, 48, 49, 50, 51, 52, 53, 54, 55, 56, 66, 67, 68, 69, 70, 71, 72, 73, 74, 75, 76, 77, 78, 79, 80, 81, 82, 83, 84, 85, 86, 87] (by decide +kernel) (by decide +kernel)
set_option maxRecDepth 20000 in
theorem gX10_undo_X5_goBack : GoodIn wsX10_undo (wsV RX10 353 RX5 yX5_goBack wsX5_goBack) := goodIn_app (goodIn_of _ (by decide +kernel)) ggX10_undo_X5_goBack
theorem dX10_undo_0 : decode cX10_undo 0 = .ok (.aload_n 0, 1) := by decide +kernel
theorem dX10_undo_1 : decode cX10_undo 1 = .ok (.getfield 19, 3) := by decide +kernel
theorem dX10_undo_4 : decode cX10_undo 4 = .ok (.getfield 350, 3) := by decide +kernel
theorem dX10_undo_7 : decode cX10_undo 7 = .ok (.ifCond .ne 14, 3) := by decide +kernel
theorem dX10_undo_10 : decode cX10_undo 10 = .ok (.new 167, 3) := by decide +kernel
theorem dX10_undo_13 : decode cX10_undo 13 = .ok (.dup, 1) := by decide +kernel
theorem dX10_undo_14 : decode cX10_undo 14 = .ok (.ldc_w 351, 3) := by decide +kernel
theorem dX10_undo_17 : decode cX10_undo 17 = .ok (.invokespecial 171, 3) := by decide +kernel
theorem dX10_undo_20 : decode cX10_undo 20 = .ok (.athrow, 1) := by decide +kernel
theorem dX10_undo_21 : decode cX10_undo 21 = .ok (.aload_n 0, 1) := by decide +kernel
theorem dX10_undo_22 : decode cX10_undo 22 = .ok (.getfield 19, 3) := by decide +kernel
theorem dX10_undo_25 : decode cX10_undo 25 = .ok (.aload_n 0, 1) := by decide +kernel
theorem dX10_undo_26 : decode cX10_undo 26 = .ok (.getfield 12, 3) := by decide +kernel
theorem dX10_undo_29 : decode cX10_undo 29 = .ok (.invokevirtual 353, 3) := by decide +kernel
theorem dX10_undo_32 : decode cX10_undo 32 = .ok (.ireturn, 1) := by decide +kernel
set_option maxRecDepth 20000 in
theorem ggX10_save_X3_copyFrom : GoodIn wsX10_save wsX3_copyFrom := goodIn_r _ [10, 11, 12, 13, 14, 15, 16, 17, 18, 19, 20, 21, 22, 23, 24, 25, 26, 27, 28, 29, 30, 31, 32, 33, 34, 35, 36, 37, 38, 39, 40, 41, 42, 43, 44, 54, 55, 56, 57, 58, 59, 60, 61, 62, 63, 64, 65, 66, 67, 68, 69, 70, 71, 72] (by decide +kernel) (by decide +kernel)
set_option maxRecDepth 20000 in
theorem gX10_save_X3_copyFrom : GoodIn wsX10_save (wsV RX10 357 RX3 yX3_copyFrom wsX3_copyFrom) := goodIn_app (goodIn_of _ (by decide +kernel)) ggX10_save_X3_copyFrom
theorem dX10_save_0 : decode cX10_save 0 = .ok (.aload_n 0, 1) := by decide +kernel
theorem dX10_save_1 : decode cX10_save 1 = .ok (.getfield 23, 3) := by decide +kernel
theorem dX10_save_4 : decode cX10_save 4 = .ok (.aload_n 0, 1) := by decide +kernel
theorem dX10_save_5 : decode cX10_save 5 = .ok (.getfield 12, 3) := by decide +kernel
theorem dX10_save_8 : decode cX10_save 8 = .ok (.invokevirtual 357, 3) := by decide +kernel
theorem dX10_save_11 : decode cX10_save 11 = .ok (.aload_n 0, 1) := by decide +kernel
theorem dX10_save_12 : decode cX10_save 12 = .ok (.iconst 1, 1) := by decide +kernel
theorem dX10_save_13 : decode cX10_save 13 = .ok (.putfield 360, 3) := by decide +kernel
theorem dX10_save_16 : decode cX10_save 16 = .ok (.aload_n 0, 1) := by decide +kernel
theorem dX10_save_17 : decode cX10_save 17 = .ok (.getfield 12, 3) := by decide +kernel
theorem dX10_save_20 : decode cX10_save 20 = .ok (.getfield 122, 3) := by decide +kernel
theorem dX10_save_23 : decode cX10_save 23 = .ok (.getfield 126, 3) := by decide +kernel
theorem dX10_save_26 : decode cX10_save 26 = .ok (.ireturn, 1) := by decide +kernel
set_option maxRecDepth 20000 in
theorem ggX10_restore_X3_copyFrom : GoodIn wsX10_restore wsX3_copyFrom := goodIn_r _ [13, 14, 15, 16, 17, 18, 19, 20, 21, 22, 23, 24, 25, 26, 27, 28, 29, 30, 31, 32, 33, 34, 35, 36, 37, 38, 39, 40, 41, 42, 43, 44, 45, 46, 47, 63, 64, 65, 66, 67, 68, 69, 70, 71, 72, 73, 74, 75, 76, 77, 78, 79, 80, 81] (by decide +kernel) (by decide +kernel)
set_option maxRecDepth 20000 in
theorem gX10_restore_X3_copyFrom : GoodIn wsX10_restore (wsV RX10 357 RX3 yX3_copyFrom wsX3_copyFrom) := goodIn_app (goodIn_of _ (by decide +kernel)) ggX10_restore_X3_copyFrom
set_option maxRecDepth 20000 in
theorem ggX10_restore_X5_forget : GoodIn wsX10_restore wsX5_forget := goodIn_r _ [52, 53, 82, 83, 84] (by decide +kernel) (by decide +kernel)
set_option maxRecDepth 20000 in
theorem gX10_restore_X5_forget : GoodIn wsX10_restore (wsV RX10 366 RX5 yX5_forget wsX5_forget) := goodIn_app (goodIn_of _ (by decide +kernel)) ggX10_restore_X5_forget
theorem dX10_restore_0 : decode cX10_restore 0 = .ok (.aload_n 0, 1) := by decide +kernel
theorem dX10_restore_1 : decode cX10_restore 1 = .ok (.getfield 360, 3) := by decide +kernel
theorem dX10_restore_4 : decode cX10_restore 4 = .ok (.ifCond .ne 14, 3) := by decide +kernel
theorem dX10_restore_7 : decode cX10_restore 7 = .ok (.new 308, 3) := by decide +kernel
theorem dX10_restore_10 : decode cX10_restore 10 = .ok (.dup, 1) := by decide +kernel
theorem dX10_restore_11 : decode cX10_restore 11 = .ok (.ldc_w 364, 3) := by decide +kernel
theorem dX10_restore_14 : decode cX10_restore 14 = .ok (.invokespecial 312, 3) := by decide +kernel
theorem dX10_restore_17 : decode cX10_restore 17 = .ok (.athrow, 1) := by decide +kernel
theorem dX10_restore_18 : decode cX10_restore 18 = .ok (.aload_n 0, 1) := by decide +kernel
theorem dX10_restore_19 : decode cX10_restore 19 = .ok (.getfield 12, 3) := by decide +kernel
theorem dX10_restore_22 : decode cX10_restore 22 = .ok (.aload_n 0, 1) := by decide +kernel
theorem dX10_restore_23 : decode cX10_restore 23 = .ok (.getfield 23, 3) := by decide +kernel
theorem dX10_restore_26 : decode cX10_restore 26 = .ok (.invokevirtual 357, 3) := by decide +kernel
theorem dX10_restore_29 : decode cX10_restore 29 = .ok (.aload_n 0, 1) := by decide +kernel
theorem dX10_restore_30 : decode cX10_restore 30 = .ok (.getfield 19, 3) := by decide +kernel
theorem dX10_restore_33 : decode cX10_restore 33 = .ok (.invokevirtual 366, 3) := by decide +kernel
theorem dX10_restore_36 : decode cX10_restore 36 = .ok (.aload_n 0, 1) := by decide +kernel
theorem dX10_restore_37 : decode cX10_restore 37 = .ok (.getfield 12, 3) := by decide +kernel
theorem dX10_restore_40 : decode cX10_restore 40 = .ok (.getfield 122, 3) := by decide +kernel
theorem dX10_restore_43 : decode cX10_restore 43 = .ok (.getfield 126, 3) := by decide +kernel
theorem dX10_restore_46 : decode cX10_restore 46 = .ok (.ireturn, 1) := by decide +kernel
set_option maxRecDepth 20000 in
theorem ggX10_appendMember_J4_append_bf812 : GoodIn wsX10_appendMember wsJ4_append_bf812 := goodIn_r _ [9, 10, 11, 12, 13, 14, 15, 16, 17, 18, 19, 20, 21, 22, 23, 24, 25, 26, 27, 28, 29, 30, 31, 32, 33, 34, 35, 36, 37, 38, 39, 40, 41, 42, 43, 44, 45, 46, 47, 48, 49, 50, 51, 52, 53, 54, 55, 56, 57, 58, 59, 60, 61, 62, 63, 64, 65, 66, 67, 68, 69, 70, 71, 72, 73, 74, 75, 76, 77, 78, 79, 80, 81, 82, 83, 84, 85, 86, 87, 88, 89, 90, 91, 92, 93, 94, 95, 96, 97, 98, 99, 100, 101, 102, 103, 104, 198, 199, 200, 201] (by decide +kernel) (by decide +kernel)
set_option maxRecDepth 20000 in
theorem gX10_appendMember_J4_append_bf812 : GoodIn wsX10_appendMember (wsV RX10 290 RJ4 yJ4_append_bf812 wsJ4_append_bf812) := goodIn_app (goodIn_of _ (by decide +kernel)) ggX10_appendMember_J4_append_bf812
set_option maxRecDepth 20000 in
theorem ggX10_appendMember_J4_append_cf468 : GoodIn wsX10_appendMember wsJ4_append_cf468 := goodIn_r _ [108, 109, 110, 12, 111, 14, 112, 16, 17, 22, 23, 24, 25, 26, 27, 28, 29, 30, 31, 32, 33, 34, 35, 36, 37, 38, 39, 40, 41, 42, 43, 44, 45, 46, 47, 48, 49, 50, 51, 52, 53, 54, 55, 56, 57, 58, 59, 60, 61, 62, 63, 64, 65, 66, 67, 68, 69, 113, 114, 115, 116, 117, 118, 119, 120, 121, 122, 123, 77, 124, 125, 126, 127, 128, 129, 130, 131, 132, 133, 134, 135, 136, 137, 83, 84, 85, 138, 139, 88, 140, 90, 141, 142, 93, 143, 100, 101, 102, 79, 103, 104, 144, 145, 146, 147, 148, 149, 150, 151, 152, 153, 154, 155, 198, 199, 200, 201] (by decide +kernel) (by decide +kernel)
set_option maxRecDepth 20000 in
theorem gX10_appendMember_J4_append_cf468 : GoodIn wsX10_appendMember (wsV RX10 279 RJ4 yJ4_append_cf468 wsJ4_append_cf468) := goodIn_app (goodIn_of _ (by decide +kernel)) ggX10_appendMember_J4_append_cf468
set_option maxRecDepth 20000 in
theorem ggX10_appendMember_X9_loadOf : GoodIn wsX10_appendMember wsX9_loadOf := goodIn_ca (goodIn_r _ [160, 161, 162, 163, 164, 165, 159, 166, 167, 168, 169, 170, 171, 192, 193, 194, 195, 196, 197] (by decide +kernel) (by decide +kernel)) (goodIn_sub (fun _ h => List.mem_cons_of_mem _ (List.mem_append_right _ h)) (by decide +kernel))
set_option maxRecDepth 20000 in
theorem gX10_appendMember_X9_loadOf : GoodIn wsX10_appendMember (wsV RX10 174 RX9 yX9_loadOf wsX9_loadOf) := goodIn_app (goodIn_of _ (by decide +kernel)) ggX10_appendMember_X9_loadOf
set_option maxRecDepth 20000 in
theorem ggX10_appendMember_X9_overloadedOf : GoodIn wsX10_appendMember wsX9_overloadedOf := goodIn_ca (goodIn_r _ [175, 161, 171, 163, 164, 165, 159, 166, 176, 157, 158, 160, 162, 167, 168, 169, 170, 192, 193, 194, 195, 196, 197] (by decide +kernel) (by decide +kernel)) (goodIn_sub (fun _ h => List.mem_cons_of_mem _ (List.mem_append_right _ h)) (by decide +kernel))
set_option maxRecDepth 20000 in
theorem gX10_appendMember_X9_overloadedOf : GoodIn wsX10_appendMember (wsV RX10 154 RX9 yX9_overloadedOf wsX9_overloadedOf) := goodIn_app (goodIn_of _ (by decide +kernel)) ggX10_appendMember_X9_overloadedOf
theorem dX10_appendMember_0 : decode cX10_appendMember 0 = .ok (.iload_n 2, 1) := by decide +kernel
theorem dX10_appendMember_1 : decode cX10_appendMember 1 = .ok (.iconst (-1), 1) := by decide +kernel
theorem dX10_appendMember_2 : decode cX10_appendMember 2 = .ok (.if_icmp .ne 4, 3) := by decide +kernel
theorem dX10_appendMember_5 : decode cX10_appendMember 5 = .ok (.return_, 1) := by decide +kernel
theorem dX10_appendMember_6 : decode cX10_appendMember 6 = .ok (.aload_n 0, 1) := by decide +kernel
theorem dX10_appendMember_7 : decode cX10_appendMember 7 = .ok (.getfield 50, 3) := by decide +kernel
theorem dX10_appendMember_10 : decode cX10_appendMember 10 = .ok (.iload_n 2, 1) := by decide +kernel
theorem dX10_appendMember_11 : decode cX10_appendMember 11 = .ok (.invokevirtual 290, 3) := by decide +kernel
theorem dX10_appendMember_14 : decode cX10_appendMember 14 = .ok (.pop, 1) := by decide +kernel
theorem dX10_appendMember_15 : decode cX10_appendMember 15 = .ok (.aload_n 0, 1) := by decide +kernel
theorem dX10_appendMember_16 : decode cX10_appendMember 16 = .ok (.getfield 50, 3) := by decide +kernel
theorem dX10_appendMember_19 : decode cX10_appendMember 19 = .ok (.bipush 40, 2) := by decide +kernel
theorem dX10_appendMember_21 : decode cX10_appendMember 21 = .ok (.invokevirtual 279, 3) := by decide +kernel
theorem dX10_appendMember_24 : decode cX10_appendMember 24 = .ok (.pop, 1) := by decide +kernel
theorem dX10_appendMember_25 : decode cX10_appendMember 25 = .ok (.aload_n 0, 1) := by decide +kernel
theorem dX10_appendMember_26 : decode cX10_appendMember 26 = .ok (.getfield 50, 3) := by decide +kernel
theorem dX10_appendMember_29 : decode cX10_appendMember 29 = .ok (.aload_n 0, 1) := by decide +kernel
theorem dX10_appendMember_30 : decode cX10_appendMember 30 = .ok (.getfield 12, 3) := by decide +kernel
theorem dX10_appendMember_33 : decode cX10_appendMember 33 = .ok (.getfield 122, 3) := by decide +kernel
theorem dX10_appendMember_36 : decode cX10_appendMember 36 = .ok (.iload_n 1, 1) := by decide +kernel
theorem dX10_appendMember_37 : decode cX10_appendMember 37 = .ok (.iload_n 2, 1) := by decide +kernel
theorem dX10_appendMember_38 : decode cX10_appendMember 38 = .ok (.invokevirtual 174, 3) := by decide +kernel
theorem dX10_appendMember_41 : decode cX10_appendMember 41 = .ok (.invokevirtual 290, 3) := by decide +kernel
theorem dX10_appendMember_44 : decode cX10_appendMember 44 = .ok (.pop, 1) := by decide +kernel
theorem dX10_appendMember_45 : decode cX10_appendMember 45 = .ok (.aload_n 0, 1) := by decide +kernel
theorem dX10_appendMember_46 : decode cX10_appendMember 46 = .ok (.getfield 50, 3) := by decide +kernel
theorem dX10_appendMember_49 : decode cX10_appendMember 49 = .ok (.bipush 47, 2) := by decide +kernel
theorem dX10_appendMember_51 : decode cX10_appendMember 51 = .ok (.invokevirtual 279, 3) := by decide +kernel
theorem dX10_appendMember_54 : decode cX10_appendMember 54 = .ok (.pop, 1) := by decide +kernel
theorem dX10_appendMember_55 : decode cX10_appendMember 55 = .ok (.aload_n 0, 1) := by decide +kernel
theorem dX10_appendMember_56 : decode cX10_appendMember 56 = .ok (.getfield 50, 3) := by decide +kernel
theorem dX10_appendMember_59 : decode cX10_appendMember 59 = .ok (.aload_n 0, 1) := by decide +kernel
theorem dX10_appendMember_60 : decode cX10_appendMember 60 = .ok (.getfield 12, 3) := by decide +kernel
theorem dX10_appendMember_63 : decode cX10_appendMember 63 = .ok (.getfield 122, 3) := by decide +kernel
theorem dX10_appendMember_66 : decode cX10_appendMember 66 = .ok (.getfield 139, 3) := by decide +kernel
theorem dX10_appendMember_69 : decode cX10_appendMember 69 = .ok (.iload_n 2, 1) := by decide +kernel
theorem dX10_appendMember_70 : decode cX10_appendMember 70 = .ok (.iaload, 1) := by decide +kernel
theorem dX10_appendMember_71 : decode cX10_appendMember 71 = .ok (.invokevirtual 290, 3) := by decide +kernel
theorem dX10_appendMember_74 : decode cX10_appendMember 74 = .ok (.pop, 1) := by decide +kernel
theorem dX10_appendMember_75 : decode cX10_appendMember 75 = .ok (.aload_n 0, 1) := by decide +kernel
theorem dX10_appendMember_76 : decode cX10_appendMember 76 = .ok (.getfield 50, 3) := by decide +kernel
theorem dX10_appendMember_79 : decode cX10_appendMember 79 = .ok (.bipush 41, 2) := by decide +kernel
theorem dX10_appendMember_81 : decode cX10_appendMember 81 = .ok (.invokevirtual 279, 3) := by decide +kernel
theorem dX10_appendMember_84 : decode cX10_appendMember 84 = .ok (.pop, 1) := by decide +kernel
theorem dX10_appendMember_85 : decode cX10_appendMember 85 = .ok (.iload_n 2, 1) := by decide +kernel
theorem dX10_appendMember_86 : decode cX10_appendMember 86 = .ok (.aload_n 0, 1) := by decide +kernel
theorem dX10_appendMember_87 : decode cX10_appendMember 87 = .ok (.getfield 12, 3) := by decide +kernel
theorem dX10_appendMember_90 : decode cX10_appendMember 90 = .ok (.getfield 122, 3) := by decide +kernel
theorem dX10_appendMember_93 : decode cX10_appendMember 93 = .ok (.iload_n 1, 1) := by decide +kernel
theorem dX10_appendMember_94 : decode cX10_appendMember 94 = .ok (.invokevirtual 154, 3) := by decide +kernel
theorem dX10_appendMember_97 : decode cX10_appendMember 97 = .ok (.if_icmp .ne 13, 3) := by decide +kernel
theorem dX10_appendMember_100 : decode cX10_appendMember 100 = .ok (.aload_n 0, 1) := by decide +kernel
theorem dX10_appendMember_101 : decode cX10_appendMember 101 = .ok (.getfield 50, 3) := by decide +kernel
theorem dX10_appendMember_104 : decode cX10_appendMember 104 = .ok (.bipush 33, 2) := by decide +kernel
theorem dX10_appendMember_106 : decode cX10_appendMember 106 = .ok (.invokevirtual 279, 3) := by decide +kernel
theorem dX10_appendMember_109 : decode cX10_appendMember 109 = .ok (.pop, 1) := by decide +kernel
theorem dX10_appendMember_110 : decode cX10_appendMember 110 = .ok (.return_, 1) := by decide +kernel
set_option maxRecDepth 20000 in
theorem ggX10_requireAcrobat_X9_has : GoodIn wsX10_requireAcrobat wsX9_has := goodIn_r _ [9, 10, 26, 27, 28, 29, 30, 31] (by decide +kernel) (by decide +kernel)
set_option maxRecDepth 20000 in
theorem gX10_requireAcrobat_X9_has : GoodIn wsX10_requireAcrobat (wsV RX10 369 RX9 yX9_has wsX9_has) := goodIn_app (goodIn_of _ (by decide +kernel)) ggX10_requireAcrobat_X9_has
theorem dX10_requireAcrobat_0 : decode cX10_requireAcrobat 0 = .ok (.aload_n 0, 1) := by decide +kernel
theorem dX10_requireAcrobat_1 : decode cX10_requireAcrobat 1 = .ok (.getfield 12, 3) := by decide +kernel
theorem dX10_requireAcrobat_4 : decode cX10_requireAcrobat 4 = .ok (.getfield 122, 3) := by decide +kernel
theorem dX10_requireAcrobat_7 : decode cX10_requireAcrobat 7 = .ok (.iload_n 1, 1) := by decide +kernel
theorem dX10_requireAcrobat_8 : decode cX10_requireAcrobat 8 = .ok (.invokevirtual 369, 3) := by decide +kernel
theorem dX10_requireAcrobat_11 : decode cX10_requireAcrobat 11 = .ok (.ifCond .ne 14, 3) := by decide +kernel
theorem dX10_requireAcrobat_14 : decode cX10_requireAcrobat 14 = .ok (.new 293, 3) := by decide +kernel
theorem dX10_requireAcrobat_17 : decode cX10_requireAcrobat 17 = .ok (.dup, 1) := by decide +kernel
theorem dX10_requireAcrobat_18 : decode cX10_requireAcrobat 18 = .ok (.ldc_w 373, 3) := by decide +kernel
theorem dX10_requireAcrobat_21 : decode cX10_requireAcrobat 21 = .ok (.invokespecial 297, 3) := by decide +kernel
theorem dX10_requireAcrobat_24 : decode cX10_requireAcrobat 24 = .ok (.athrow, 1) := by decide +kernel
theorem dX10_requireAcrobat_25 : decode cX10_requireAcrobat 25 = .ok (.return_, 1) := by decide +kernel
set_option maxRecDepth 20000 in
theorem ggX10_requireSet_X9_isSet : GoodIn wsX10_requireSet wsX9_isSet := goodIn_r _ [9, 10, 26, 27, 28, 29, 30, 31] (by decide +kernel) (by decide +kernel)
set_option maxRecDepth 20000 in
theorem gX10_requireSet_X9_isSet : GoodIn wsX10_requireSet (wsV RX10 375 RX9 yX9_isSet wsX9_isSet) := goodIn_app (goodIn_of _ (by decide +kernel)) ggX10_requireSet_X9_isSet
theorem dX10_requireSet_0 : decode cX10_requireSet 0 = .ok (.aload_n 0, 1) := by decide +kernel
theorem dX10_requireSet_1 : decode cX10_requireSet 1 = .ok (.getfield 12, 3) := by decide +kernel
theorem dX10_requireSet_4 : decode cX10_requireSet 4 = .ok (.getfield 122, 3) := by decide +kernel
theorem dX10_requireSet_7 : decode cX10_requireSet 7 = .ok (.iload_n 1, 1) := by decide +kernel
theorem dX10_requireSet_8 : decode cX10_requireSet 8 = .ok (.invokevirtual 375, 3) := by decide +kernel
theorem dX10_requireSet_11 : decode cX10_requireSet 11 = .ok (.ifCond .ne 14, 3) := by decide +kernel
theorem dX10_requireSet_14 : decode cX10_requireSet 14 = .ok (.new 302, 3) := by decide +kernel
theorem dX10_requireSet_17 : decode cX10_requireSet 17 = .ok (.dup, 1) := by decide +kernel
theorem dX10_requireSet_18 : decode cX10_requireSet 18 = .ok (.ldc_w 378, 3) := by decide +kernel
theorem dX10_requireSet_21 : decode cX10_requireSet 21 = .ok (.invokespecial 306, 3) := by decide +kernel
theorem dX10_requireSet_24 : decode cX10_requireSet 24 = .ok (.athrow, 1) := by decide +kernel
theorem dX10_requireSet_25 : decode cX10_requireSet 25 = .ok (.return_, 1) := by decide +kernel
set_option maxRecDepth 20000 in
theorem ggX10_requireAccount_X2_has : GoodIn wsX10_requireAccount wsX2_has := goodIn_r _ [9, 10, 26, 27, 28, 29, 30, 31, 32] (by decide +kernel) (by decide +kernel)
set_option maxRecDepth 20000 in
theorem gX10_requireAccount_X2_has : GoodIn wsX10_requireAccount (wsV RX10 380 RX2 yX2_has wsX2_has) := goodIn_app (goodIn_of _ (by decide +kernel)) ggX10_requireAccount_X2_has
theorem dX10_requireAccount_0 : decode cX10_requireAccount 0 = .ok (.aload_n 0, 1) := by decide +kernel
theorem dX10_requireAccount_1 : decode cX10_requireAccount 1 = .ok (.getfield 12, 3) := by decide +kernel
theorem dX10_requireAccount_4 : decode cX10_requireAccount 4 = .ok (.getfield 74, 3) := by decide +kernel
theorem dX10_requireAccount_7 : decode cX10_requireAccount 7 = .ok (.iload_n 1, 1) := by decide +kernel
theorem dX10_requireAccount_8 : decode cX10_requireAccount 8 = .ok (.invokevirtual 380, 3) := by decide +kernel
theorem dX10_requireAccount_11 : decode cX10_requireAccount 11 = .ok (.ifCond .ne 14, 3) := by decide +kernel
theorem dX10_requireAccount_14 : decode cX10_requireAccount 14 = .ok (.new 293, 3) := by decide +kernel
theorem dX10_requireAccount_17 : decode cX10_requireAccount 17 = .ok (.dup, 1) := by decide +kernel
theorem dX10_requireAccount_18 : decode cX10_requireAccount 18 = .ok (.ldc_w 381, 3) := by decide +kernel
theorem dX10_requireAccount_21 : decode cX10_requireAccount 21 = .ok (.invokespecial 297, 3) := by decide +kernel
theorem dX10_requireAccount_24 : decode cX10_requireAccount 24 = .ok (.athrow, 1) := by decide +kernel
theorem dX10_requireAccount_25 : decode cX10_requireAccount 25 = .ok (.return_, 1) := by decide +kernel
theorem dX10_requireEntry_0 : decode cX10_requireEntry 0 = .ok (.iload_n 1, 1) := by decide +kernel
theorem dX10_requireEntry_1 : decode cX10_requireEntry 1 = .ok (.ifCond .lt 17, 3) := by decide +kernel
theorem dX10_requireEntry_4 : decode cX10_requireEntry 4 = .ok (.iload_n 1, 1) := by decide +kernel
theorem dX10_requireEntry_5 : decode cX10_requireEntry 5 = .ok (.aload_n 0, 1) := by decide +kernel
theorem dX10_requireEntry_6 : decode cX10_requireEntry 6 = .ok (.getfield 12, 3) := by decide +kernel
theorem dX10_requireEntry_9 : decode cX10_requireEntry 9 = .ok (.getfield 74, 3) := by decide +kernel
theorem dX10_requireEntry_12 : decode cX10_requireEntry 12 = .ok (.getfield 220, 3) := by decide +kernel
theorem dX10_requireEntry_15 : decode cX10_requireEntry 15 = .ok (.if_icmp .lt 14, 3) := by decide +kernel
theorem dX10_requireEntry_18 : decode cX10_requireEntry 18 = .ok (.new 293, 3) := by decide +kernel
theorem dX10_requireEntry_21 : decode cX10_requireEntry 21 = .ok (.dup, 1) := by decide +kernel
theorem dX10_requireEntry_22 : decode cX10_requireEntry 22 = .ok (.ldc_w 383, 3) := by decide +kernel
theorem dX10_requireEntry_25 : decode cX10_requireEntry 25 = .ok (.invokespecial 297, 3) := by decide +kernel
theorem dX10_requireEntry_28 : decode cX10_requireEntry 28 = .ok (.athrow, 1) := by decide +kernel
theorem dX10_requireEntry_29 : decode cX10_requireEntry 29 = .ok (.return_, 1) := by decide +kernel
set_option maxRecDepth 20000 in
theorem ggX10_requirePositiveBalance_X2_positiveCount : GoodIn wsX10_requirePositiveBalance wsX2_positiveCount := goodIn_ca (goodIn_r _ [9, 10, 11, 27, 28, 29, 30, 31, 32, 33] (by decide +kernel) (by decide +kernel)) (goodIn_sub (fun _ h => List.mem_cons_of_mem _ (List.mem_append_right _ h)) (by decide +kernel))
set_option maxRecDepth 20000 in
theorem gX10_requirePositiveBalance_X2_positiveCount : GoodIn wsX10_requirePositiveBalance (wsV RX10 385 RX2 yX2_positiveCount wsX2_positiveCount) := goodIn_app (goodIn_of _ (by decide +kernel)) ggX10_requirePositiveBalance_X2_positiveCount
theorem dX10_requirePositiveBalance_0 : decode cX10_requirePositiveBalance 0 = .ok (.aload_n 0, 1) := by decide +kernel
theorem dX10_requirePositiveBalance_1 : decode cX10_requirePositiveBalance 1 = .ok (.getfield 12, 3) := by decide +kernel
theorem dX10_requirePositiveBalance_4 : decode cX10_requirePositiveBalance 4 = .ok (.getfield 74, 3) := by decide +kernel
theorem dX10_requirePositiveBalance_7 : decode cX10_requirePositiveBalance 7 = .ok (.invokevirtual 385, 3) := by decide +kernel
theorem dX10_requirePositiveBalance_10 : decode cX10_requirePositiveBalance 10 = .ok (.ifCond .ne 14, 3) := by decide +kernel
theorem dX10_requirePositiveBalance_13 : decode cX10_requirePositiveBalance 13 = .ok (.new 388, 3) := by decide +kernel
theorem dX10_requirePositiveBalance_16 : decode cX10_requirePositiveBalance 16 = .ok (.dup, 1) := by decide +kernel
theorem dX10_requirePositiveBalance_17 : decode cX10_requirePositiveBalance 17 = .ok (.ldc_w 390, 3) := by decide +kernel
theorem dX10_requirePositiveBalance_20 : decode cX10_requirePositiveBalance 20 = .ok (.invokespecial 392, 3) := by decide +kernel
theorem dX10_requirePositiveBalance_23 : decode cX10_requirePositiveBalance 23 = .ok (.athrow, 1) := by decide +kernel
theorem dX10_requirePositiveBalance_24 : decode cX10_requirePositiveBalance 24 = .ok (.return_, 1) := by decide +kernel
set_option maxRecDepth 20000 in
theorem ggX10_requireSeveral_J6_bitCount_0f7a4 : GoodIn wsX10_requireSeveral wsJ6_bitCount_0f7a4 := goodIn_r _ [6, 7, 8, 9] (by decide +kernel) (by decide +kernel)
set_option maxRecDepth 20000 in
theorem gX10_requireSeveral_J6_bitCount_0f7a4 : GoodIn wsX10_requireSeveral (va_wsS RX10 274 yJ6_bitCount_0f7a4 wsJ6_bitCount_0f7a4) := goodIn_app (goodIn_of _ (by decide +kernel)) ggX10_requireSeveral_J6_bitCount_0f7a4
theorem dX10_requireSeveral_0 : decode cX10_requireSeveral 0 = .ok (.iload_n 0, 1) := by decide +kernel
theorem dX10_requireSeveral_1 : decode cX10_requireSeveral 1 = .ok (.invokestatic 274, 3) := by decide +kernel
theorem dX10_requireSeveral_4 : decode cX10_requireSeveral 4 = .ok (.iconst 2, 1) := by decide +kernel
theorem dX10_requireSeveral_5 : decode cX10_requireSeveral 5 = .ok (.if_icmp .ge 14, 3) := by decide +kernel
theorem dX10_requireSeveral_8 : decode cX10_requireSeveral 8 = .ok (.new 388, 3) := by decide +kernel
theorem dX10_requireSeveral_11 : decode cX10_requireSeveral 11 = .ok (.dup, 1) := by decide +kernel
theorem dX10_requireSeveral_12 : decode cX10_requireSeveral 12 = .ok (.ldc_w 393, 3) := by decide +kernel
theorem dX10_requireSeveral_15 : decode cX10_requireSeveral 15 = .ok (.invokespecial 392, 3) := by decide +kernel
theorem dX10_requireSeveral_18 : decode cX10_requireSeveral 18 = .ok (.athrow, 1) := by decide +kernel
theorem dX10_requireSeveral_19 : decode cX10_requireSeveral 19 = .ok (.return_, 1) := by decide +kernel
theorem dX10_requireFound_0 : decode cX10_requireFound 0 = .ok (.iload_n 0, 1) := by decide +kernel
theorem dX10_requireFound_1 : decode cX10_requireFound 1 = .ok (.iconst (-1), 1) := by decide +kernel
theorem dX10_requireFound_2 : decode cX10_requireFound 2 = .ok (.if_icmp .ne 14, 3) := by decide +kernel
theorem dX10_requireFound_5 : decode cX10_requireFound 5 = .ok (.new 167, 3) := by decide +kernel
theorem dX10_requireFound_8 : decode cX10_requireFound 8 = .ok (.dup, 1) := by decide +kernel
theorem dX10_requireFound_9 : decode cX10_requireFound 9 = .ok (.ldc_w 395, 3) := by decide +kernel
theorem dX10_requireFound_12 : decode cX10_requireFound 12 = .ok (.invokespecial 171, 3) := by decide +kernel
theorem dX10_requireFound_15 : decode cX10_requireFound 15 = .ok (.athrow, 1) := by decide +kernel
theorem dX10_requireFound_16 : decode cX10_requireFound 16 = .ok (.iload_n 0, 1) := by decide +kernel
theorem dX10_requireFound_17 : decode cX10_requireFound 17 = .ok (.ireturn, 1) := by decide +kernel
theorem dX10_throwFor_0 : decode cX10_throwFor 0 = .ok (.aload_n 0, 1) := by decide +kernel
theorem dX10_throwFor_1 : decode cX10_throwFor 1 = .ok (.getstatic 397, 3) := by decide +kernel
theorem dX10_throwFor_4 : decode cX10_throwFor 4 = .ok (.if_acmp .ne 14, 3) := by decide +kernel
theorem dX10_throwFor_7 : decode cX10_throwFor 7 = .ok (.new 293, 3) := by decide +kernel
theorem dX10_throwFor_10 : decode cX10_throwFor 10 = .ok (.dup, 1) := by decide +kernel
theorem dX10_throwFor_11 : decode cX10_throwFor 11 = .ok (.ldc_w 400, 3) := by decide +kernel
theorem dX10_throwFor_14 : decode cX10_throwFor 14 = .ok (.invokespecial 297, 3) := by decide +kernel
theorem dX10_throwFor_17 : decode cX10_throwFor 17 = .ok (.athrow, 1) := by decide +kernel
theorem dX10_throwFor_18 : decode cX10_throwFor 18 = .ok (.aload_n 0, 1) := by decide +kernel
theorem dX10_throwFor_19 : decode cX10_throwFor 19 = .ok (.getstatic 402, 3) := by decide +kernel
theorem dX10_throwFor_22 : decode cX10_throwFor 22 = .ok (.if_acmp .ne 14, 3) := by decide +kernel
theorem dX10_throwFor_25 : decode cX10_throwFor 25 = .ok (.new 302, 3) := by decide +kernel
theorem dX10_throwFor_28 : decode cX10_throwFor 28 = .ok (.dup, 1) := by decide +kernel
theorem dX10_throwFor_29 : decode cX10_throwFor 29 = .ok (.ldc_w 405, 3) := by decide +kernel
theorem dX10_throwFor_32 : decode cX10_throwFor 32 = .ok (.invokespecial 306, 3) := by decide +kernel
theorem dX10_throwFor_35 : decode cX10_throwFor 35 = .ok (.athrow, 1) := by decide +kernel
theorem dX10_throwFor_36 : decode cX10_throwFor 36 = .ok (.aload_n 0, 1) := by decide +kernel
theorem dX10_throwFor_37 : decode cX10_throwFor 37 = .ok (.getstatic 407, 3) := by decide +kernel
theorem dX10_throwFor_40 : decode cX10_throwFor 40 = .ok (.if_acmp .ne 14, 3) := by decide +kernel
theorem dX10_throwFor_43 : decode cX10_throwFor 43 = .ok (.new 308, 3) := by decide +kernel
theorem dX10_throwFor_46 : decode cX10_throwFor 46 = .ok (.dup, 1) := by decide +kernel
theorem dX10_throwFor_47 : decode cX10_throwFor 47 = .ok (.ldc_w 410, 3) := by decide +kernel
theorem dX10_throwFor_50 : decode cX10_throwFor 50 = .ok (.invokespecial 312, 3) := by decide +kernel
theorem dX10_throwFor_53 : decode cX10_throwFor 53 = .ok (.athrow, 1) := by decide +kernel
theorem dX10_throwFor_54 : decode cX10_throwFor 54 = .ok (.aload_n 0, 1) := by decide +kernel
theorem dX10_throwFor_55 : decode cX10_throwFor 55 = .ok (.getstatic 412, 3) := by decide +kernel
theorem dX10_throwFor_58 : decode cX10_throwFor 58 = .ok (.if_acmp .ne 14, 3) := by decide +kernel
theorem dX10_throwFor_61 : decode cX10_throwFor 61 = .ok (.new 415, 3) := by decide +kernel
theorem dX10_throwFor_64 : decode cX10_throwFor 64 = .ok (.dup, 1) := by decide +kernel
theorem dX10_throwFor_65 : decode cX10_throwFor 65 = .ok (.ldc_w 417, 3) := by decide +kernel
theorem dX10_throwFor_68 : decode cX10_throwFor 68 = .ok (.invokespecial 419, 3) := by decide +kernel
theorem dX10_throwFor_71 : decode cX10_throwFor 71 = .ok (.athrow, 1) := by decide +kernel
theorem dX10_throwFor_72 : decode cX10_throwFor 72 = .ok (.return_, 1) := by decide +kernel
