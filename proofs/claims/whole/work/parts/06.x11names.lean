theorem dX11_init_0 : decode cX11_init 0 = .ok (.aload_n 0, 1) := by decide +kernel
theorem dX11_init_1 : decode cX11_init 1 = .ok (.invokespecial 1, 3) := by decide +kernel
theorem dX11_init_4 : decode cX11_init 4 = .ok (.aload_n 0, 1) := by decide +kernel
theorem dX11_init_5 : decode cX11_init 5 = .ok (.sipush 238, 3) := by decide +kernel
theorem dX11_init_8 : decode cX11_init 8 = .ok (.newarray .int, 2) := by decide +kernel
theorem dX11_init_10 : decode cX11_init 10 = .ok (.putfield 7, 3) := by decide +kernel
theorem dX11_init_13 : decode cX11_init 13 = .ok (.aload_n 0, 1) := by decide +kernel
theorem dX11_init_14 : decode cX11_init 14 = .ok (.sipush 1904, 3) := by decide +kernel
theorem dX11_init_17 : decode cX11_init 17 = .ok (.newarray .int, 2) := by decide +kernel
theorem dX11_init_19 : decode cX11_init 19 = .ok (.putfield 13, 3) := by decide +kernel
theorem dX11_init_22 : decode cX11_init 22 = .ok (.aload_n 0, 1) := by decide +kernel
theorem dX11_init_23 : decode cX11_init 23 = .ok (.sipush 238, 3) := by decide +kernel
theorem dX11_init_26 : decode cX11_init 26 = .ok (.newarray .int, 2) := by decide +kernel
theorem dX11_init_28 : decode cX11_init 28 = .ok (.putfield 16, 3) := by decide +kernel
theorem dX11_init_31 : decode cX11_init 31 = .ok (.aload_n 0, 1) := by decide +kernel
theorem dX11_init_32 : decode cX11_init 32 = .ok (.sipush 238, 3) := by decide +kernel
theorem dX11_init_35 : decode cX11_init 35 = .ok (.newarray .int, 2) := by decide +kernel
theorem dX11_init_37 : decode cX11_init 37 = .ok (.putfield 19, 3) := by decide +kernel
theorem dX11_init_40 : decode cX11_init 40 = .ok (.aload_n 0, 1) := by decide +kernel
theorem dX11_init_41 : decode cX11_init 41 = .ok (.bipush 60, 2) := by decide +kernel
theorem dX11_init_43 : decode cX11_init 43 = .ok (.newarray .int, 2) := by decide +kernel
theorem dX11_init_45 : decode cX11_init 45 = .ok (.putfield 22, 3) := by decide +kernel
theorem dX11_init_48 : decode cX11_init 48 = .ok (.aload_n 0, 1) := by decide +kernel
theorem dX11_init_49 : decode cX11_init 49 = .ok (.iconst (-1), 1) := by decide +kernel
theorem dX11_init_50 : decode cX11_init 50 = .ok (.putfield 25, 3) := by decide +kernel
theorem dX11_init_53 : decode cX11_init 53 = .ok (.aload_n 0, 1) := by decide +kernel
theorem dX11_init_54 : decode cX11_init 54 = .ok (.iconst (-1), 1) := by decide +kernel
theorem dX11_init_55 : decode cX11_init 55 = .ok (.putfield 29, 3) := by decide +kernel
theorem dX11_init_58 : decode cX11_init 58 = .ok (.aload_n 0, 1) := by decide +kernel
theorem dX11_init_59 : decode cX11_init 59 = .ok (.bipush 100, 2) := by decide +kernel
theorem dX11_init_61 : decode cX11_init 61 = .ok (.newarray .char, 2) := by decide +kernel
theorem dX11_init_63 : decode cX11_init 63 = .ok (.putfield 32, 3) := by decide +kernel
theorem dX11_init_66 : decode cX11_init 66 = .ok (.aload_n 0, 1) := by decide +kernel
theorem dX11_init_67 : decode cX11_init 67 = .ok (.bipush 6, 2) := by decide +kernel
theorem dX11_init_69 : decode cX11_init 69 = .ok (.newarray .int, 2) := by decide +kernel
theorem dX11_init_71 : decode cX11_init 71 = .ok (.putfield 36, 3) := by decide +kernel
theorem dX11_init_74 : decode cX11_init 74 = .ok (.aload_n 0, 1) := by decide +kernel
theorem dX11_init_75 : decode cX11_init 75 = .ok (.bipush 6, 2) := by decide +kernel
theorem dX11_init_77 : decode cX11_init 77 = .ok (.newarray .int, 2) := by decide +kernel
theorem dX11_init_79 : decode cX11_init 79 = .ok (.putfield 39, 3) := by decide +kernel
theorem dX11_init_82 : decode cX11_init 82 = .ok (.aload_n 0, 1) := by decide +kernel
theorem dX11_init_83 : decode cX11_init 83 = .ok (.sipush 2048, 3) := by decide +kernel
theorem dX11_init_86 : decode cX11_init 86 = .ok (.newarray .int, 2) := by decide +kernel
theorem dX11_init_88 : decode cX11_init 88 = .ok (.putfield 42, 3) := by decide +kernel
theorem dX11_init_91 : decode cX11_init 91 = .ok (.aload_n 0, 1) := by decide +kernel
theorem dX11_init_92 : decode cX11_init 92 = .ok (.sipush 2048, 3) := by decide +kernel
theorem dX11_init_95 : decode cX11_init 95 = .ok (.newarray .int, 2) := by decide +kernel
theorem dX11_init_97 : decode cX11_init 97 = .ok (.putfield 45, 3) := by decide +kernel
theorem dX11_init_100 : decode cX11_init 100 = .ok (.aload_n 0, 1) := by decide +kernel
theorem dX11_init_101 : decode cX11_init 101 = .ok (.sipush 155, 3) := by decide +kernel
theorem dX11_init_104 : decode cX11_init 104 = .ok (.newarray .int, 2) := by decide +kernel
theorem dX11_init_106 : decode cX11_init 106 = .ok (.putfield 48, 3) := by decide +kernel
theorem dX11_init_109 : decode cX11_init 109 = .ok (.return_, 1) := by decide +kernel
theorem dX11_thrown_0 : decode cX11_thrown 0 = .ok (.aload_n 0, 1) := by decide +kernel
theorem dX11_thrown_1 : decode cX11_thrown 1 = .ok (.getfield 51, 3) := by decide +kernel
theorem dX11_thrown_4 : decode cX11_thrown 4 = .ok (.ireturn, 1) := by decide +kernel
theorem dX11_fails_0 : decode cX11_fails 0 = .ok (.aload_n 0, 1) := by decide +kernel
theorem dX11_fails_1 : decode cX11_fails 1 = .ok (.iload_n 1, 1) := by decide +kernel
theorem dX11_fails_2 : decode cX11_fails 2 = .ok (.putfield 51, 3) := by decide +kernel
theorem dX11_fails_5 : decode cX11_fails 5 = .ok (.iload_n 1, 1) := by decide +kernel
theorem dX11_fails_6 : decode cX11_fails 6 = .ok (.ifCond .le 7, 3) := by decide +kernel
theorem dX11_fails_9 : decode cX11_fails 9 = .ok (.iconst 1, 1) := by decide +kernel
theorem dX11_fails_10 : decode cX11_fails 10 = .ok (.goto 4, 3) := by decide +kernel
theorem dX11_fails_13 : decode cX11_fails 13 = .ok (.iconst 0, 1) := by decide +kernel
theorem dX11_fails_14 : decode cX11_fails 14 = .ok (.ireturn, 1) := by decide +kernel
theorem dX11_in_0 : decode cX11_in 0 = .ok (.iload_n 0, 1) := by decide +kernel
theorem dX11_in_1 : decode cX11_in 1 = .ok (.iload_n 1, 1) := by decide +kernel
theorem dX11_in_2 : decode cX11_in 2 = .ok (.if_icmp .lt 12, 3) := by decide +kernel
theorem dX11_in_5 : decode cX11_in 5 = .ok (.iload_n 0, 1) := by decide +kernel
theorem dX11_in_6 : decode cX11_in 6 = .ok (.iload_n 2, 1) := by decide +kernel
theorem dX11_in_7 : decode cX11_in 7 = .ok (.if_icmp .gt 7, 3) := by decide +kernel
theorem dX11_in_10 : decode cX11_in 10 = .ok (.iconst 1, 1) := by decide +kernel
theorem dX11_in_11 : decode cX11_in 11 = .ok (.goto 4, 3) := by decide +kernel
theorem dX11_in_14 : decode cX11_in 14 = .ok (.iconst 0, 1) := by decide +kernel
theorem dX11_in_15 : decode cX11_in 15 = .ok (.ireturn, 1) := by decide +kernel
theorem dX11_least_0 : decode cX11_least 0 = .ok (.iload_n 0, 1) := by decide +kernel
theorem dX11_least_1 : decode cX11_least 1 = .ok (.iload_n 1, 1) := by decide +kernel
theorem dX11_least_2 : decode cX11_least 2 = .ok (.if_icmp .ge 7, 3) := by decide +kernel
theorem dX11_least_5 : decode cX11_least 5 = .ok (.iload_n 0, 1) := by decide +kernel
theorem dX11_least_6 : decode cX11_least 6 = .ok (.goto 4, 3) := by decide +kernel
theorem dX11_least_9 : decode cX11_least 9 = .ok (.iload_n 1, 1) := by decide +kernel
theorem dX11_least_10 : decode cX11_least 10 = .ok (.ireturn, 1) := by decide +kernel
theorem dX11_copies_0 : decode cX11_copies 0 = .ok (.iconst 0, 1) := by decide +kernel
theorem dX11_copies_1 : decode cX11_copies 1 = .ok (.istore 4, 2) := by decide +kernel
theorem dX11_copies_3 : decode cX11_copies 3 = .ok (.iload 4, 2) := by decide +kernel
theorem dX11_copies_5 : decode cX11_copies 5 = .ok (.sipush 238, 3) := by decide +kernel
theorem dX11_copies_8 : decode cX11_copies 8 = .ok (.if_icmp .ge 21, 3) := by decide +kernel
theorem dX11_copies_11 : decode cX11_copies 11 = .ok (.aload_n 2, 1) := by decide +kernel
theorem dX11_copies_12 : decode cX11_copies 12 = .ok (.iload_n 3, 1) := by decide +kernel
theorem dX11_copies_13 : decode cX11_copies 13 = .ok (.iload 4, 2) := by decide +kernel
theorem dX11_copies_15 : decode cX11_copies 15 = .ok (.iadd, 1) := by decide +kernel
theorem dX11_copies_16 : decode cX11_copies 16 = .ok (.aload_n 0, 1) := by decide +kernel
theorem dX11_copies_17 : decode cX11_copies 17 = .ok (.iload_n 1, 1) := by decide +kernel
theorem dX11_copies_18 : decode cX11_copies 18 = .ok (.iload 4, 2) := by decide +kernel
theorem dX11_copies_20 : decode cX11_copies 20 = .ok (.iadd, 1) := by decide +kernel
theorem dX11_copies_21 : decode cX11_copies 21 = .ok (.iaload, 1) := by decide +kernel
theorem dX11_copies_22 : decode cX11_copies 22 = .ok (.iastore, 1) := by decide +kernel
theorem dX11_copies_23 : decode cX11_copies 23 = .ok (.iinc 4 1, 3) := by decide +kernel
theorem dX11_copies_26 : decode cX11_copies 26 = .ok (.goto (-23), 3) := by decide +kernel
theorem dX11_copies_29 : decode cX11_copies 29 = .ok (.return_, 1) := by decide +kernel
set_option maxRecDepth 20000 in
theorem ggX11_keeps_X11_copies : GoodIn wsX11_keeps wsX11_copies := goodIn_ca (goodIn_r _ [8] (by decide +kernel) (by decide +kernel)) (goodIn_sub (fun _ h => List.mem_cons_of_mem _ (List.mem_append_right _ h)) (by decide +kernel))
set_option maxRecDepth 20000 in
theorem gX11_keeps_X11_copies : GoodIn wsX11_keeps (va_wsS RX11 61 yX11_copies wsX11_copies) := goodIn_app (goodIn_of _ (by decide +kernel)) ggX11_keeps_X11_copies
theorem dX11_keeps_0 : decode cX11_keeps 0 = .ok (.aload_n 0, 1) := by decide +kernel
theorem dX11_keeps_1 : decode cX11_keeps 1 = .ok (.iconst 0, 1) := by decide +kernel
theorem dX11_keeps_2 : decode cX11_keeps 2 = .ok (.putfield 51, 3) := by decide +kernel
theorem dX11_keeps_5 : decode cX11_keeps 5 = .ok (.aload_n 0, 1) := by decide +kernel
theorem dX11_keeps_6 : decode cX11_keeps 6 = .ok (.getfield 54, 3) := by decide +kernel
theorem dX11_keeps_9 : decode cX11_keeps 9 = .ok (.ifCond .eq 4, 3) := by decide +kernel
theorem dX11_keeps_12 : decode cX11_keeps 12 = .ok (.return_, 1) := by decide +kernel
theorem dX11_keeps_13 : decode cX11_keeps 13 = .ok (.aload_n 0, 1) := by decide +kernel
theorem dX11_keeps_14 : decode cX11_keeps 14 = .ok (.getfield 58, 3) := by decide +kernel
theorem dX11_keeps_17 : decode cX11_keeps 17 = .ok (.bipush 8, 2) := by decide +kernel
theorem dX11_keeps_19 : decode cX11_keeps 19 = .ok (.if_icmp .ne 44, 3) := by decide +kernel
theorem dX11_keeps_22 : decode cX11_keeps 22 = .ok (.iconst 0, 1) := by decide +kernel
theorem dX11_keeps_23 : decode cX11_keeps 23 = .ok (.istore_n 2, 1) := by decide +kernel
theorem dX11_keeps_24 : decode cX11_keeps 24 = .ok (.iload_n 2, 1) := by decide +kernel
theorem dX11_keeps_25 : decode cX11_keeps 25 = .ok (.sipush 1666, 3) := by decide +kernel
theorem dX11_keeps_28 : decode cX11_keeps 28 = .ok (.if_icmp .ge 25, 3) := by decide +kernel
theorem dX11_keeps_31 : decode cX11_keeps 31 = .ok (.aload_n 0, 1) := by decide +kernel
theorem dX11_keeps_32 : decode cX11_keeps 32 = .ok (.getfield 13, 3) := by decide +kernel
theorem dX11_keeps_35 : decode cX11_keeps 35 = .ok (.iload_n 2, 1) := by decide +kernel
theorem dX11_keeps_36 : decode cX11_keeps 36 = .ok (.aload_n 0, 1) := by decide +kernel
theorem dX11_keeps_37 : decode cX11_keeps 37 = .ok (.getfield 13, 3) := by decide +kernel
theorem dX11_keeps_40 : decode cX11_keeps 40 = .ok (.iload_n 2, 1) := by decide +kernel
theorem dX11_keeps_41 : decode cX11_keeps 41 = .ok (.sipush 238, 3) := by decide +kernel
theorem dX11_keeps_44 : decode cX11_keeps 44 = .ok (.iadd, 1) := by decide +kernel
theorem dX11_keeps_45 : decode cX11_keeps 45 = .ok (.iaload, 1) := by decide +kernel
theorem dX11_keeps_46 : decode cX11_keeps 46 = .ok (.iastore, 1) := by decide +kernel
theorem dX11_keeps_47 : decode cX11_keeps 47 = .ok (.iinc 2 1, 3) := by decide +kernel
theorem dX11_keeps_50 : decode cX11_keeps 50 = .ok (.goto (-26), 3) := by decide +kernel
theorem dX11_keeps_53 : decode cX11_keeps 53 = .ok (.aload_n 0, 1) := by decide +kernel
theorem dX11_keeps_54 : decode cX11_keeps 54 = .ok (.dup, 1) := by decide +kernel
theorem dX11_keeps_55 : decode cX11_keeps 55 = .ok (.getfield 58, 3) := by decide +kernel
theorem dX11_keeps_58 : decode cX11_keeps 58 = .ok (.iconst 1, 1) := by decide +kernel
theorem dX11_keeps_59 : decode cX11_keeps 59 = .ok (.isub, 1) := by decide +kernel
theorem dX11_keeps_60 : decode cX11_keeps 60 = .ok (.putfield 58, 3) := by decide +kernel
theorem dX11_keeps_63 : decode cX11_keeps 63 = .ok (.aload_n 1, 1) := by decide +kernel
theorem dX11_keeps_64 : decode cX11_keeps 64 = .ok (.iconst 0, 1) := by decide +kernel
theorem dX11_keeps_65 : decode cX11_keeps 65 = .ok (.aload_n 0, 1) := by decide +kernel
theorem dX11_keeps_66 : decode cX11_keeps 66 = .ok (.getfield 13, 3) := by decide +kernel
theorem dX11_keeps_69 : decode cX11_keeps 69 = .ok (.sipush 238, 3) := by decide +kernel
theorem dX11_keeps_72 : decode cX11_keeps 72 = .ok (.aload_n 0, 1) := by decide +kernel
theorem dX11_keeps_73 : decode cX11_keeps 73 = .ok (.getfield 58, 3) := by decide +kernel
theorem dX11_keeps_76 : decode cX11_keeps 76 = .ok (.imul, 1) := by decide +kernel
theorem dX11_keeps_77 : decode cX11_keeps 77 = .ok (.invokestatic 61, 3) := by decide +kernel
theorem dX11_keeps_80 : decode cX11_keeps 80 = .ok (.aload_n 0, 1) := by decide +kernel
theorem dX11_keeps_81 : decode cX11_keeps 81 = .ok (.dup, 1) := by decide +kernel
theorem dX11_keeps_82 : decode cX11_keeps 82 = .ok (.getfield 58, 3) := by decide +kernel
theorem dX11_keeps_85 : decode cX11_keeps 85 = .ok (.iconst 1, 1) := by decide +kernel
theorem dX11_keeps_86 : decode cX11_keeps 86 = .ok (.iadd, 1) := by decide +kernel
theorem dX11_keeps_87 : decode cX11_keeps 87 = .ok (.putfield 58, 3) := by decide +kernel
theorem dX11_keeps_90 : decode cX11_keeps 90 = .ok (.return_, 1) := by decide +kernel
set_option maxRecDepth 20000 in
theorem ggX11_isAcrobat_X11_in : GoodIn wsX11_isAcrobat wsX11_in := goodIn_r _ [5] (by decide +kernel) (by decide +kernel)
set_option maxRecDepth 20000 in
theorem gX11_isAcrobat_X11_in : GoodIn wsX11_isAcrobat (va_wsS RX11 65 yX11_in wsX11_in) := goodIn_app (goodIn_of _ (by decide +kernel)) ggX11_isAcrobat_X11_in
theorem dX11_isAcrobat_0 : decode cX11_isAcrobat 0 = .ok (.iload_n 1, 1) := by decide +kernel
theorem dX11_isAcrobat_1 : decode cX11_isAcrobat 1 = .ok (.iconst 0, 1) := by decide +kernel
theorem dX11_isAcrobat_2 : decode cX11_isAcrobat 2 = .ok (.aload_n 0, 1) := by decide +kernel
theorem dX11_isAcrobat_3 : decode cX11_isAcrobat 3 = .ok (.getfield 7, 3) := by decide +kernel
theorem dX11_isAcrobat_6 : decode cX11_isAcrobat 6 = .ok (.iconst 0, 1) := by decide +kernel
theorem dX11_isAcrobat_7 : decode cX11_isAcrobat 7 = .ok (.iaload, 1) := by decide +kernel
theorem dX11_isAcrobat_8 : decode cX11_isAcrobat 8 = .ok (.iconst 1, 1) := by decide +kernel
theorem dX11_isAcrobat_9 : decode cX11_isAcrobat 9 = .ok (.isub, 1) := by decide +kernel
theorem dX11_isAcrobat_10 : decode cX11_isAcrobat 10 = .ok (.invokestatic 65, 3) := by decide +kernel
theorem dX11_isAcrobat_13 : decode cX11_isAcrobat 13 = .ok (.ireturn, 1) := by decide +kernel
set_option maxRecDepth 20000 in
theorem ggX11_isNone_X11_isAcrobat : GoodIn wsX11_isNone wsX11_isAcrobat := goodIn_ca (goodIn_r _ [5, 6, 7, 8, 4, 9, 15, 16, 17, 18, 19, 20, 21, 22, 23, 24, 25, 26, 27, 28, 29, 30, 31, 32, 33, 34, 35, 36] (by decide +kernel) (by decide +kernel)) (goodIn_sub (fun _ h => List.mem_cons_of_mem _ (List.mem_append_right _ h)) (by decide +kernel))
set_option maxRecDepth 20000 in
theorem gX11_isNone_X11_isAcrobat : GoodIn wsX11_isNone (wsV RX11 69 RX11 yX11_isAcrobat wsX11_isAcrobat) := goodIn_app (goodIn_of _ (by decide +kernel)) ggX11_isNone_X11_isAcrobat
set_option maxRecDepth 20000 in
theorem ggX11_isNone_X11_fails : GoodIn wsX11_isNone wsX11_fails := goodIn_r _ [13, 14, 15, 16, 17, 18, 19, 20, 21, 22, 23, 24, 25, 26, 27, 28, 29, 30, 31, 32, 33, 34, 35, 36] (by decide +kernel) (by decide +kernel)
set_option maxRecDepth 20000 in
theorem gX11_isNone_X11_fails : GoodIn wsX11_isNone (wsV RX11 73 RX11 yX11_fails wsX11_fails) := goodIn_app (goodIn_of _ (by decide +kernel)) ggX11_isNone_X11_fails
theorem dX11_isNone_0 : decode cX11_isNone 0 = .ok (.aload_n 0, 1) := by decide +kernel
theorem dX11_isNone_1 : decode cX11_isNone 1 = .ok (.aload_n 0, 1) := by decide +kernel
theorem dX11_isNone_2 : decode cX11_isNone 2 = .ok (.iload_n 1, 1) := by decide +kernel
theorem dX11_isNone_3 : decode cX11_isNone 3 = .ok (.invokevirtual 69, 3) := by decide +kernel
theorem dX11_isNone_6 : decode cX11_isNone 6 = .ok (.ifCond .eq 7, 3) := by decide +kernel
theorem dX11_isNone_9 : decode cX11_isNone 9 = .ok (.iconst 0, 1) := by decide +kernel
theorem dX11_isNone_10 : decode cX11_isNone 10 = .ok (.goto 4, 3) := by decide +kernel
theorem dX11_isNone_13 : decode cX11_isNone 13 = .ok (.iconst 1, 1) := by decide +kernel
theorem dX11_isNone_14 : decode cX11_isNone 14 = .ok (.invokevirtual 73, 3) := by decide +kernel
theorem dX11_isNone_17 : decode cX11_isNone 17 = .ok (.ireturn, 1) := by decide +kernel
theorem dX11_of_0 : decode cX11_of 0 = .ok (.aload_n 0, 1) := by decide +kernel
theorem dX11_of_1 : decode cX11_of 1 = .ok (.getfield 7, 3) := by decide +kernel
theorem dX11_of_4 : decode cX11_of 4 = .ok (.bipush 6, 2) := by decide +kernel
theorem dX11_of_6 : decode cX11_of 6 = .ok (.iconst 5, 1) := by decide +kernel
theorem dX11_of_7 : decode cX11_of 7 = .ok (.iload_n 1, 1) := by decide +kernel
theorem dX11_of_8 : decode cX11_of 8 = .ok (.imul, 1) := by decide +kernel
theorem dX11_of_9 : decode cX11_of 9 = .ok (.iadd, 1) := by decide +kernel
theorem dX11_of_10 : decode cX11_of 10 = .ok (.iload_n 2, 1) := by decide +kernel
theorem dX11_of_11 : decode cX11_of 11 = .ok (.iadd, 1) := by decide +kernel
theorem dX11_of_12 : decode cX11_of 12 = .ok (.iaload, 1) := by decide +kernel
theorem dX11_of_13 : decode cX11_of 13 = .ok (.ireturn, 1) := by decide +kernel
set_option maxRecDepth 20000 in
theorem ggX11_isAccount_X11_in : GoodIn wsX11_isAccount wsX11_in := goodIn_r _ [5] (by decide +kernel) (by decide +kernel)
set_option maxRecDepth 20000 in
theorem gX11_isAccount_X11_in : GoodIn wsX11_isAccount (va_wsS RX11 65 yX11_in wsX11_in) := goodIn_app (goodIn_of _ (by decide +kernel)) ggX11_isAccount_X11_in
theorem dX11_isAccount_0 : decode cX11_isAccount 0 = .ok (.iload_n 1, 1) := by decide +kernel
theorem dX11_isAccount_1 : decode cX11_isAccount 1 = .ok (.iconst 0, 1) := by decide +kernel
theorem dX11_isAccount_2 : decode cX11_isAccount 2 = .ok (.iconst 5, 1) := by decide +kernel
theorem dX11_isAccount_3 : decode cX11_isAccount 3 = .ok (.aload_n 0, 1) := by decide +kernel
theorem dX11_isAccount_4 : decode cX11_isAccount 4 = .ok (.getfield 7, 3) := by decide +kernel
theorem dX11_isAccount_7 : decode cX11_isAccount 7 = .ok (.iconst 0, 1) := by decide +kernel
theorem dX11_isAccount_8 : decode cX11_isAccount 8 = .ok (.iaload, 1) := by decide +kernel
theorem dX11_isAccount_9 : decode cX11_isAccount 9 = .ok (.iadd, 1) := by decide +kernel
theorem dX11_isAccount_10 : decode cX11_isAccount 10 = .ok (.iconst 1, 1) := by decide +kernel
theorem dX11_isAccount_11 : decode cX11_isAccount 11 = .ok (.isub, 1) := by decide +kernel
theorem dX11_isAccount_12 : decode cX11_isAccount 12 = .ok (.invokestatic 65, 3) := by decide +kernel
theorem dX11_isAccount_15 : decode cX11_isAccount 15 = .ok (.ireturn, 1) := by decide +kernel
theorem dX11_entry_0 : decode cX11_entry 0 = .ok (.aload_n 0, 1) := by decide +kernel
theorem dX11_entry_1 : decode cX11_entry 1 = .ok (.getfield 7, 3) := by decide +kernel
theorem dX11_entry_4 : decode cX11_entry 4 = .ok (.bipush 58, 2) := by decide +kernel
theorem dX11_entry_6 : decode cX11_entry 6 = .ok (.iconst 3, 1) := by decide +kernel
theorem dX11_entry_7 : decode cX11_entry 7 = .ok (.iload_n 1, 1) := by decide +kernel
theorem dX11_entry_8 : decode cX11_entry 8 = .ok (.imul, 1) := by decide +kernel
theorem dX11_entry_9 : decode cX11_entry 9 = .ok (.iadd, 1) := by decide +kernel
theorem dX11_entry_10 : decode cX11_entry 10 = .ok (.iload_n 2, 1) := by decide +kernel
theorem dX11_entry_11 : decode cX11_entry 11 = .ok (.iadd, 1) := by decide +kernel
theorem dX11_entry_12 : decode cX11_entry 12 = .ok (.iaload, 1) := by decide +kernel
theorem dX11_entry_13 : decode cX11_entry 13 = .ok (.ireturn, 1) := by decide +kernel
set_option maxRecDepth 20000 in
theorem ggX11_addAcrobat_X11_in : GoodIn wsX11_addAcrobat wsX11_in := goodIn_r _ [5] (by decide +kernel) (by decide +kernel)
set_option maxRecDepth 20000 in
theorem gX11_addAcrobat_X11_in : GoodIn wsX11_addAcrobat (va_wsS RX11 65 yX11_in wsX11_in) := goodIn_app (goodIn_of _ (by decide +kernel)) ggX11_addAcrobat_X11_in
set_option maxRecDepth 20000 in
theorem ggX11_addAcrobat_X11_fails : GoodIn wsX11_addAcrobat wsX11_fails := goodIn_r _ [9, 10, 21, 22, 23, 24, 25, 26, 27, 28, 29, 30, 31, 32, 33, 34, 35, 36, 37, 38, 39, 40, 41, 42] (by decide +kernel) (by decide +kernel)
set_option maxRecDepth 20000 in
theorem gX11_addAcrobat_X11_fails : GoodIn wsX11_addAcrobat (wsV RX11 73 RX11 yX11_fails wsX11_fails) := goodIn_app (goodIn_of _ (by decide +kernel)) ggX11_addAcrobat_X11_fails
set_option maxRecDepth 20000 in
theorem ggX11_addAcrobat_X11_keeps : GoodIn wsX11_addAcrobat wsX11_keeps := goodIn_ca (goodIn_r _ [14, 10, 15, 16, 17, 18, 19, 4, 20, 21, 22, 23, 24, 25, 26, 27, 28, 29, 30, 31, 32, 33, 34, 35, 36, 37, 38, 39, 40, 41, 42] (by decide +kernel) (by decide +kernel)) (goodIn_sub (fun _ h => List.mem_cons_of_mem _ (List.mem_append_right _ h)) (by decide +kernel))
set_option maxRecDepth 20000 in
theorem gX11_addAcrobat_X11_keeps : GoodIn wsX11_addAcrobat (wsV RX11 76 RX11 yX11_keeps wsX11_keeps) := goodIn_app (goodIn_of _ (by decide +kernel)) ggX11_addAcrobat_X11_keeps
theorem dX11_addAcrobat_0 : decode cX11_addAcrobat 0 = .ok (.aload_n 0, 1) := by decide +kernel
theorem dX11_addAcrobat_1 : decode cX11_addAcrobat 1 = .ok (.iload_n 1, 1) := by decide +kernel
theorem dX11_addAcrobat_2 : decode cX11_addAcrobat 2 = .ok (.bipush 30, 2) := by decide +kernel
theorem dX11_addAcrobat_4 : decode cX11_addAcrobat 4 = .ok (.bipush 120, 2) := by decide +kernel
theorem dX11_addAcrobat_6 : decode cX11_addAcrobat 6 = .ok (.invokestatic 65, 3) := by decide +kernel
theorem dX11_addAcrobat_9 : decode cX11_addAcrobat 9 = .ok (.ifCond .eq 37, 3) := by decide +kernel
theorem dX11_addAcrobat_12 : decode cX11_addAcrobat 12 = .ok (.iload_n 2, 1) := by decide +kernel
theorem dX11_addAcrobat_13 : decode cX11_addAcrobat 13 = .ok (.iconst 0, 1) := by decide +kernel
theorem dX11_addAcrobat_14 : decode cX11_addAcrobat 14 = .ok (.sipush 400, 3) := by decide +kernel
theorem dX11_addAcrobat_17 : decode cX11_addAcrobat 17 = .ok (.invokestatic 65, 3) := by decide +kernel
theorem dX11_addAcrobat_20 : decode cX11_addAcrobat 20 = .ok (.ifCond .eq 26, 3) := by decide +kernel
theorem dX11_addAcrobat_23 : decode cX11_addAcrobat 23 = .ok (.iload_n 3, 1) := by decide +kernel
theorem dX11_addAcrobat_24 : decode cX11_addAcrobat 24 = .ok (.bipush 100, 2) := by decide +kernel
theorem dX11_addAcrobat_26 : decode cX11_addAcrobat 26 = .ok (.sipush 200, 3) := by decide +kernel
theorem dX11_addAcrobat_29 : decode cX11_addAcrobat 29 = .ok (.invokestatic 65, 3) := by decide +kernel
theorem dX11_addAcrobat_32 : decode cX11_addAcrobat 32 = .ok (.ifCond .eq 14, 3) := by decide +kernel
theorem dX11_addAcrobat_35 : decode cX11_addAcrobat 35 = .ok (.iload 4, 2) := by decide +kernel
theorem dX11_addAcrobat_37 : decode cX11_addAcrobat 37 = .ok (.iconst 1, 1) := by decide +kernel
theorem dX11_addAcrobat_38 : decode cX11_addAcrobat 38 = .ok (.bipush 50, 2) := by decide +kernel
theorem dX11_addAcrobat_40 : decode cX11_addAcrobat 40 = .ok (.invokestatic 65, 3) := by decide +kernel
theorem dX11_addAcrobat_43 : decode cX11_addAcrobat 43 = .ok (.ifCond .ne 7, 3) := by decide +kernel
theorem dX11_addAcrobat_46 : decode cX11_addAcrobat 46 = .ok (.iconst 1, 1) := by decide +kernel
theorem dX11_addAcrobat_47 : decode cX11_addAcrobat 47 = .ok (.goto 19, 3) := by decide +kernel
theorem dX11_addAcrobat_50 : decode cX11_addAcrobat 50 = .ok (.aload_n 0, 1) := by decide +kernel
theorem dX11_addAcrobat_51 : decode cX11_addAcrobat 51 = .ok (.getfield 7, 3) := by decide +kernel
theorem dX11_addAcrobat_54 : decode cX11_addAcrobat 54 = .ok (.iconst 0, 1) := by decide +kernel
theorem dX11_addAcrobat_55 : decode cX11_addAcrobat 55 = .ok (.iaload, 1) := by decide +kernel
theorem dX11_addAcrobat_56 : decode cX11_addAcrobat 56 = .ok (.bipush 6, 2) := by decide +kernel
theorem dX11_addAcrobat_58 : decode cX11_addAcrobat 58 = .ok (.if_icmp .ne 7, 3) := by decide +kernel
theorem dX11_addAcrobat_61 : decode cX11_addAcrobat 61 = .ok (.iconst 2, 1) := by decide +kernel
theorem dX11_addAcrobat_62 : decode cX11_addAcrobat 62 = .ok (.goto 4, 3) := by decide +kernel
theorem dX11_addAcrobat_65 : decode cX11_addAcrobat 65 = .ok (.iconst 0, 1) := by decide +kernel
theorem dX11_addAcrobat_66 : decode cX11_addAcrobat 66 = .ok (.invokevirtual 73, 3) := by decide +kernel
theorem dX11_addAcrobat_69 : decode cX11_addAcrobat 69 = .ok (.ifCond .eq 5, 3) := by decide +kernel
theorem dX11_addAcrobat_72 : decode cX11_addAcrobat 72 = .ok (.iconst 0, 1) := by decide +kernel
theorem dX11_addAcrobat_73 : decode cX11_addAcrobat 73 = .ok (.ireturn, 1) := by decide +kernel
theorem dX11_addAcrobat_74 : decode cX11_addAcrobat 74 = .ok (.aload_n 0, 1) := by decide +kernel
theorem dX11_addAcrobat_75 : decode cX11_addAcrobat 75 = .ok (.aload_n 0, 1) := by decide +kernel
theorem dX11_addAcrobat_76 : decode cX11_addAcrobat 76 = .ok (.getfield 7, 3) := by decide +kernel
theorem dX11_addAcrobat_79 : decode cX11_addAcrobat 79 = .ok (.invokevirtual 76, 3) := by decide +kernel
theorem dX11_addAcrobat_82 : decode cX11_addAcrobat 82 = .ok (.bipush 6, 2) := by decide +kernel
theorem dX11_addAcrobat_84 : decode cX11_addAcrobat 84 = .ok (.iconst 5, 1) := by decide +kernel
theorem dX11_addAcrobat_85 : decode cX11_addAcrobat 85 = .ok (.aload_n 0, 1) := by decide +kernel
theorem dX11_addAcrobat_86 : decode cX11_addAcrobat 86 = .ok (.getfield 7, 3) := by decide +kernel
theorem dX11_addAcrobat_89 : decode cX11_addAcrobat 89 = .ok (.iconst 0, 1) := by decide +kernel
theorem dX11_addAcrobat_90 : decode cX11_addAcrobat 90 = .ok (.iaload, 1) := by decide +kernel
theorem dX11_addAcrobat_91 : decode cX11_addAcrobat 91 = .ok (.imul, 1) := by decide +kernel
theorem dX11_addAcrobat_92 : decode cX11_addAcrobat 92 = .ok (.iadd, 1) := by decide +kernel
theorem dX11_addAcrobat_93 : decode cX11_addAcrobat 93 = .ok (.istore 5, 2) := by decide +kernel
theorem dX11_addAcrobat_95 : decode cX11_addAcrobat 95 = .ok (.aload_n 0, 1) := by decide +kernel
theorem dX11_addAcrobat_96 : decode cX11_addAcrobat 96 = .ok (.getfield 7, 3) := by decide +kernel
theorem dX11_addAcrobat_99 : decode cX11_addAcrobat 99 = .ok (.iload 5, 2) := by decide +kernel
theorem dX11_addAcrobat_101 : decode cX11_addAcrobat 101 = .ok (.iconst 0, 1) := by decide +kernel
theorem dX11_addAcrobat_102 : decode cX11_addAcrobat 102 = .ok (.iadd, 1) := by decide +kernel
theorem dX11_addAcrobat_103 : decode cX11_addAcrobat 103 = .ok (.iload_n 1, 1) := by decide +kernel
theorem dX11_addAcrobat_104 : decode cX11_addAcrobat 104 = .ok (.iastore, 1) := by decide +kernel
theorem dX11_addAcrobat_105 : decode cX11_addAcrobat 105 = .ok (.aload_n 0, 1) := by decide +kernel
theorem dX11_addAcrobat_106 : decode cX11_addAcrobat 106 = .ok (.getfield 7, 3) := by decide +kernel
theorem dX11_addAcrobat_109 : decode cX11_addAcrobat 109 = .ok (.iload 5, 2) := by decide +kernel
theorem dX11_addAcrobat_111 : decode cX11_addAcrobat 111 = .ok (.iconst 1, 1) := by decide +kernel
theorem dX11_addAcrobat_112 : decode cX11_addAcrobat 112 = .ok (.iadd, 1) := by decide +kernel
theorem dX11_addAcrobat_113 : decode cX11_addAcrobat 113 = .ok (.iload_n 2, 1) := by decide +kernel
theorem dX11_addAcrobat_114 : decode cX11_addAcrobat 114 = .ok (.iastore, 1) := by decide +kernel
theorem dX11_addAcrobat_115 : decode cX11_addAcrobat 115 = .ok (.aload_n 0, 1) := by decide +kernel
theorem dX11_addAcrobat_116 : decode cX11_addAcrobat 116 = .ok (.getfield 7, 3) := by decide +kernel
theorem dX11_addAcrobat_119 : decode cX11_addAcrobat 119 = .ok (.iload 5, 2) := by decide +kernel
theorem dX11_addAcrobat_121 : decode cX11_addAcrobat 121 = .ok (.iconst 2, 1) := by decide +kernel
theorem dX11_addAcrobat_122 : decode cX11_addAcrobat 122 = .ok (.iadd, 1) := by decide +kernel
theorem dX11_addAcrobat_123 : decode cX11_addAcrobat 123 = .ok (.iload_n 3, 1) := by decide +kernel
theorem dX11_addAcrobat_124 : decode cX11_addAcrobat 124 = .ok (.iastore, 1) := by decide +kernel
theorem dX11_addAcrobat_125 : decode cX11_addAcrobat 125 = .ok (.aload_n 0, 1) := by decide +kernel
theorem dX11_addAcrobat_126 : decode cX11_addAcrobat 126 = .ok (.getfield 7, 3) := by decide +kernel
theorem dX11_addAcrobat_129 : decode cX11_addAcrobat 129 = .ok (.iload 5, 2) := by decide +kernel
theorem dX11_addAcrobat_131 : decode cX11_addAcrobat 131 = .ok (.iconst 3, 1) := by decide +kernel
theorem dX11_addAcrobat_132 : decode cX11_addAcrobat 132 = .ok (.iadd, 1) := by decide +kernel
theorem dX11_addAcrobat_133 : decode cX11_addAcrobat 133 = .ok (.iload 4, 2) := by decide +kernel
theorem dX11_addAcrobat_135 : decode cX11_addAcrobat 135 = .ok (.iastore, 1) := by decide +kernel
theorem dX11_addAcrobat_136 : decode cX11_addAcrobat 136 = .ok (.aload_n 0, 1) := by decide +kernel
theorem dX11_addAcrobat_137 : decode cX11_addAcrobat 137 = .ok (.getfield 7, 3) := by decide +kernel
theorem dX11_addAcrobat_140 : decode cX11_addAcrobat 140 = .ok (.iload 5, 2) := by decide +kernel
theorem dX11_addAcrobat_142 : decode cX11_addAcrobat 142 = .ok (.iconst 4, 1) := by decide +kernel
theorem dX11_addAcrobat_143 : decode cX11_addAcrobat 143 = .ok (.iadd, 1) := by decide +kernel
theorem dX11_addAcrobat_144 : decode cX11_addAcrobat 144 = .ok (.iconst 0, 1) := by decide +kernel
theorem dX11_addAcrobat_145 : decode cX11_addAcrobat 145 = .ok (.iastore, 1) := by decide +kernel
theorem dX11_addAcrobat_146 : decode cX11_addAcrobat 146 = .ok (.aload_n 0, 1) := by decide +kernel
theorem dX11_addAcrobat_147 : decode cX11_addAcrobat 147 = .ok (.getfield 7, 3) := by decide +kernel
theorem dX11_addAcrobat_150 : decode cX11_addAcrobat 150 = .ok (.iconst 0, 1) := by decide +kernel
theorem dX11_addAcrobat_151 : decode cX11_addAcrobat 151 = .ok (.dup2, 1) := by decide +kernel
theorem dX11_addAcrobat_152 : decode cX11_addAcrobat 152 = .ok (.iaload, 1) := by decide +kernel
theorem dX11_addAcrobat_153 : decode cX11_addAcrobat 153 = .ok (.iconst 1, 1) := by decide +kernel
theorem dX11_addAcrobat_154 : decode cX11_addAcrobat 154 = .ok (.iadd, 1) := by decide +kernel
theorem dX11_addAcrobat_155 : decode cX11_addAcrobat 155 = .ok (.iastore, 1) := by decide +kernel
theorem dX11_addAcrobat_156 : decode cX11_addAcrobat 156 = .ok (.aload_n 0, 1) := by decide +kernel
theorem dX11_addAcrobat_157 : decode cX11_addAcrobat 157 = .ok (.getfield 7, 3) := by decide +kernel
theorem dX11_addAcrobat_160 : decode cX11_addAcrobat 160 = .ok (.iconst 0, 1) := by decide +kernel
theorem dX11_addAcrobat_161 : decode cX11_addAcrobat 161 = .ok (.iaload, 1) := by decide +kernel
theorem dX11_addAcrobat_162 : decode cX11_addAcrobat 162 = .ok (.iconst 1, 1) := by decide +kernel
theorem dX11_addAcrobat_163 : decode cX11_addAcrobat 163 = .ok (.isub, 1) := by decide +kernel
theorem dX11_addAcrobat_164 : decode cX11_addAcrobat 164 = .ok (.ireturn, 1) := by decide +kernel
theorem dX11_books_0 : decode cX11_books 0 = .ok (.iload_n 3, 1) := by decide +kernel
theorem dX11_books_1 : decode cX11_books 1 = .ok (.ifCond .ne 4, 3) := by decide +kernel
theorem dX11_books_4 : decode cX11_books 4 = .ok (.return_, 1) := by decide +kernel
theorem dX11_books_5 : decode cX11_books 5 = .ok (.bipush 58, 2) := by decide +kernel
theorem dX11_books_7 : decode cX11_books 7 = .ok (.iconst 3, 1) := by decide +kernel
theorem dX11_books_8 : decode cX11_books 8 = .ok (.aload_n 0, 1) := by decide +kernel
theorem dX11_books_9 : decode cX11_books 9 = .ok (.getfield 7, 3) := by decide +kernel
theorem dX11_books_12 : decode cX11_books 12 = .ok (.iconst 3, 1) := by decide +kernel
theorem dX11_books_13 : decode cX11_books 13 = .ok (.iaload, 1) := by decide +kernel
theorem dX11_books_14 : decode cX11_books 14 = .ok (.imul, 1) := by decide +kernel
theorem dX11_books_15 : decode cX11_books 15 = .ok (.iadd, 1) := by decide +kernel
theorem dX11_books_16 : decode cX11_books 16 = .ok (.istore 4, 2) := by decide +kernel
theorem dX11_books_18 : decode cX11_books 18 = .ok (.aload_n 0, 1) := by decide +kernel
theorem dX11_books_19 : decode cX11_books 19 = .ok (.getfield 7, 3) := by decide +kernel
theorem dX11_books_22 : decode cX11_books 22 = .ok (.iload 4, 2) := by decide +kernel
theorem dX11_books_24 : decode cX11_books 24 = .ok (.iconst 0, 1) := by decide +kernel
theorem dX11_books_25 : decode cX11_books 25 = .ok (.iadd, 1) := by decide +kernel
theorem dX11_books_26 : decode cX11_books 26 = .ok (.iload_n 1, 1) := by decide +kernel
theorem dX11_books_27 : decode cX11_books 27 = .ok (.iastore, 1) := by decide +kernel
theorem dX11_books_28 : decode cX11_books 28 = .ok (.aload_n 0, 1) := by decide +kernel
theorem dX11_books_29 : decode cX11_books 29 = .ok (.getfield 7, 3) := by decide +kernel
theorem dX11_books_32 : decode cX11_books 32 = .ok (.iload 4, 2) := by decide +kernel
theorem dX11_books_34 : decode cX11_books 34 = .ok (.iconst 1, 1) := by decide +kernel
theorem dX11_books_35 : decode cX11_books 35 = .ok (.iadd, 1) := by decide +kernel
theorem dX11_books_36 : decode cX11_books 36 = .ok (.iload_n 2, 1) := by decide +kernel
theorem dX11_books_37 : decode cX11_books 37 = .ok (.iastore, 1) := by decide +kernel
theorem dX11_books_38 : decode cX11_books 38 = .ok (.aload_n 0, 1) := by decide +kernel
theorem dX11_books_39 : decode cX11_books 39 = .ok (.getfield 7, 3) := by decide +kernel
theorem dX11_books_42 : decode cX11_books 42 = .ok (.iload 4, 2) := by decide +kernel
theorem dX11_books_44 : decode cX11_books 44 = .ok (.iconst 2, 1) := by decide +kernel
theorem dX11_books_45 : decode cX11_books 45 = .ok (.iadd, 1) := by decide +kernel
theorem dX11_books_46 : decode cX11_books 46 = .ok (.iload_n 3, 1) := by decide +kernel
theorem dX11_books_47 : decode cX11_books 47 = .ok (.iastore, 1) := by decide +kernel
theorem dX11_books_48 : decode cX11_books 48 = .ok (.aload_n 0, 1) := by decide +kernel
theorem dX11_books_49 : decode cX11_books 49 = .ok (.getfield 7, 3) := by decide +kernel
theorem dX11_books_52 : decode cX11_books 52 = .ok (.iconst 3, 1) := by decide +kernel
theorem dX11_books_53 : decode cX11_books 53 = .ok (.dup2, 1) := by decide +kernel
theorem dX11_books_54 : decode cX11_books 54 = .ok (.iaload, 1) := by decide +kernel
theorem dX11_books_55 : decode cX11_books 55 = .ok (.iconst 1, 1) := by decide +kernel
theorem dX11_books_56 : decode cX11_books 56 = .ok (.iadd, 1) := by decide +kernel
theorem dX11_books_57 : decode cX11_books 57 = .ok (.iastore, 1) := by decide +kernel
theorem dX11_books_58 : decode cX11_books 58 = .ok (.aload_n 0, 1) := by decide +kernel
theorem dX11_books_59 : decode cX11_books 59 = .ok (.getfield 7, 3) := by decide +kernel
theorem dX11_books_62 : decode cX11_books 62 = .ok (.bipush 36, 2) := by decide +kernel
theorem dX11_books_64 : decode cX11_books 64 = .ok (.iload_n 1, 1) := by decide +kernel
theorem dX11_books_65 : decode cX11_books 65 = .ok (.iadd, 1) := by decide +kernel
theorem dX11_books_66 : decode cX11_books 66 = .ok (.dup2, 1) := by decide +kernel
theorem dX11_books_67 : decode cX11_books 67 = .ok (.iaload, 1) := by decide +kernel
theorem dX11_books_68 : decode cX11_books 68 = .ok (.iload_n 3, 1) := by decide +kernel
theorem dX11_books_69 : decode cX11_books 69 = .ok (.iadd, 1) := by decide +kernel
theorem dX11_books_70 : decode cX11_books 70 = .ok (.iastore, 1) := by decide +kernel
theorem dX11_books_71 : decode cX11_books 71 = .ok (.aload_n 0, 1) := by decide +kernel
theorem dX11_books_72 : decode cX11_books 72 = .ok (.getfield 7, 3) := by decide +kernel
theorem dX11_books_75 : decode cX11_books 75 = .ok (.bipush 36, 2) := by decide +kernel
theorem dX11_books_77 : decode cX11_books 77 = .ok (.iload_n 2, 1) := by decide +kernel
theorem dX11_books_78 : decode cX11_books 78 = .ok (.iadd, 1) := by decide +kernel
theorem dX11_books_79 : decode cX11_books 79 = .ok (.dup2, 1) := by decide +kernel
theorem dX11_books_80 : decode cX11_books 80 = .ok (.iaload, 1) := by decide +kernel
theorem dX11_books_81 : decode cX11_books 81 = .ok (.iload_n 3, 1) := by decide +kernel
theorem dX11_books_82 : decode cX11_books 82 = .ok (.isub, 1) := by decide +kernel
theorem dX11_books_83 : decode cX11_books 83 = .ok (.iastore, 1) := by decide +kernel
theorem dX11_books_84 : decode cX11_books 84 = .ok (.return_, 1) := by decide +kernel
theorem dX11_isShort_0 : decode cX11_isShort 0 = .ok (.iload_n 1, 1) := by decide +kernel
theorem dX11_isShort_1 : decode cX11_isShort 1 = .ok (.ifCond .eq 8, 3) := by decide +kernel
theorem dX11_isShort_4 : decode cX11_isShort 4 = .ok (.iload_n 1, 1) := by decide +kernel
theorem dX11_isShort_5 : decode cX11_isShort 5 = .ok (.iconst 1, 1) := by decide +kernel
theorem dX11_isShort_6 : decode cX11_isShort 6 = .ok (.if_icmp .ne 20, 3) := by decide +kernel
theorem dX11_isShort_9 : decode cX11_isShort 9 = .ok (.aload_n 0, 1) := by decide +kernel
theorem dX11_isShort_10 : decode cX11_isShort 10 = .ok (.getfield 7, 3) := by decide +kernel
theorem dX11_isShort_13 : decode cX11_isShort 13 = .ok (.bipush 36, 2) := by decide +kernel
theorem dX11_isShort_15 : decode cX11_isShort 15 = .ok (.iload_n 1, 1) := by decide +kernel
theorem dX11_isShort_16 : decode cX11_isShort 16 = .ok (.iadd, 1) := by decide +kernel
theorem dX11_isShort_17 : decode cX11_isShort 17 = .ok (.iaload, 1) := by decide +kernel
theorem dX11_isShort_18 : decode cX11_isShort 18 = .ok (.iload_n 2, 1) := by decide +kernel
theorem dX11_isShort_19 : decode cX11_isShort 19 = .ok (.if_icmp .ge 7, 3) := by decide +kernel
theorem dX11_isShort_22 : decode cX11_isShort 22 = .ok (.iconst 1, 1) := by decide +kernel
theorem dX11_isShort_23 : decode cX11_isShort 23 = .ok (.goto 4, 3) := by decide +kernel
theorem dX11_isShort_26 : decode cX11_isShort 26 = .ok (.iconst 0, 1) := by decide +kernel
theorem dX11_isShort_27 : decode cX11_isShort 27 = .ok (.ireturn, 1) := by decide +kernel
set_option maxRecDepth 20000 in
theorem ggX11_post_X11_isAccount : GoodIn wsX11_post wsX11_isAccount := goodIn_ca (goodIn_r _ [6, 1, 7, 8, 5, 9, 33, 34, 35, 36, 37, 38, 39, 40, 41, 42, 43, 44, 45, 46, 47, 48, 49, 50, 51, 52, 53, 54] (by decide +kernel) (by decide +kernel)) (goodIn_sub (fun _ h => List.mem_cons_of_mem _ (List.mem_append_right _ h)) (by decide +kernel))
set_option maxRecDepth 20000 in
theorem gX11_post_X11_isAccount : GoodIn wsX11_post (wsV RX11 80 RX11 yX11_isAccount wsX11_isAccount) := goodIn_app (goodIn_of _ (by decide +kernel)) ggX11_post_X11_isAccount
set_option maxRecDepth 20000 in
theorem ggX11_post_X11_in : GoodIn wsX11_post wsX11_in := goodIn_r _ [9] (by decide +kernel) (by decide +kernel)
set_option maxRecDepth 20000 in
theorem gX11_post_X11_in : GoodIn wsX11_post (va_wsS RX11 65 yX11_in wsX11_in) := goodIn_app (goodIn_of _ (by decide +kernel)) ggX11_post_X11_in
set_option maxRecDepth 20000 in
theorem ggX11_post_X11_isShort : GoodIn wsX11_post wsX11_isShort := goodIn_ca (goodIn_r _ [13, 1, 33, 34, 35, 36, 37, 38, 39, 40, 41, 42, 43, 44, 45, 46, 47, 48, 49, 50, 51, 52, 53, 54] (by decide +kernel) (by decide +kernel)) (goodIn_sub (fun _ h => List.mem_cons_of_mem _ (List.mem_append_right _ h)) (by decide +kernel))
set_option maxRecDepth 20000 in
theorem gX11_post_X11_isShort : GoodIn wsX11_post (wsV RX11 83 RX11 yX11_isShort wsX11_isShort) := goodIn_app (goodIn_of _ (by decide +kernel)) ggX11_post_X11_isShort
set_option maxRecDepth 20000 in
theorem ggX11_post_X11_fails : GoodIn wsX11_post wsX11_fails := goodIn_r _ [17, 18, 33, 34, 35, 36, 37, 38, 39, 40, 41, 42, 43, 44, 45, 46, 47, 48, 49, 50, 51, 52, 53, 54] (by decide +kernel) (by decide +kernel)
set_option maxRecDepth 20000 in
theorem gX11_post_X11_fails : GoodIn wsX11_post (wsV RX11 73 RX11 yX11_fails wsX11_fails) := goodIn_app (goodIn_of _ (by decide +kernel)) ggX11_post_X11_fails
set_option maxRecDepth 20000 in
theorem ggX11_post_X11_keeps : GoodIn wsX11_post wsX11_keeps := goodIn_ca (goodIn_r _ [22, 18, 23, 24, 25, 26, 27, 5, 28, 33, 34, 35, 36, 37, 38, 39, 40, 41, 42, 43, 44, 45, 46, 47, 48, 49, 50, 51, 52, 53, 54] (by decide +kernel) (by decide +kernel)) (goodIn_sub (fun _ h => List.mem_cons_of_mem _ (List.mem_append_right _ h)) (by decide +kernel))
set_option maxRecDepth 20000 in
theorem gX11_post_X11_keeps : GoodIn wsX11_post (wsV RX11 76 RX11 yX11_keeps wsX11_keeps) := goodIn_app (goodIn_of _ (by decide +kernel)) ggX11_post_X11_keeps
set_option maxRecDepth 20000 in
theorem ggX11_post_X11_books : GoodIn wsX11_post wsX11_books := goodIn_ca (goodIn_r _ [32, 1, 33, 34, 35, 36, 37, 38, 39, 40, 41, 42, 43, 44, 45, 46, 47, 48, 49, 50, 51, 52, 53, 54] (by decide +kernel) (by decide +kernel)) (goodIn_sub (fun _ h => List.mem_cons_of_mem _ (List.mem_append_right _ h)) (by decide +kernel))
set_option maxRecDepth 20000 in
theorem gX11_post_X11_books : GoodIn wsX11_post (wsV RX11 87 RX11 yX11_books wsX11_books) := goodIn_app (goodIn_of _ (by decide +kernel)) ggX11_post_X11_books
theorem dX11_post_0 : decode cX11_post 0 = .ok (.aload_n 0, 1) := by decide +kernel
theorem dX11_post_1 : decode cX11_post 1 = .ok (.aload_n 0, 1) := by decide +kernel
theorem dX11_post_2 : decode cX11_post 2 = .ok (.iload_n 1, 1) := by decide +kernel
theorem dX11_post_3 : decode cX11_post 3 = .ok (.invokevirtual 80, 3) := by decide +kernel
theorem dX11_post_6 : decode cX11_post 6 = .ok (.ifCond .eq 11, 3) := by decide +kernel
theorem dX11_post_9 : decode cX11_post 9 = .ok (.aload_n 0, 1) := by decide +kernel
theorem dX11_post_10 : decode cX11_post 10 = .ok (.iload_n 2, 1) := by decide +kernel
theorem dX11_post_11 : decode cX11_post 11 = .ok (.invokevirtual 80, 3) := by decide +kernel
theorem dX11_post_14 : decode cX11_post 14 = .ok (.ifCond .ne 7, 3) := by decide +kernel
theorem dX11_post_17 : decode cX11_post 17 = .ok (.iconst 1, 1) := by decide +kernel
theorem dX11_post_18 : decode cX11_post 18 = .ok (.goto 52, 3) := by decide +kernel
theorem dX11_post_21 : decode cX11_post 21 = .ok (.iload_n 1, 1) := by decide +kernel
theorem dX11_post_22 : decode cX11_post 22 = .ok (.iload_n 2, 1) := by decide +kernel
theorem dX11_post_23 : decode cX11_post 23 = .ok (.if_icmp .eq 14, 3) := by decide +kernel
theorem dX11_post_26 : decode cX11_post 26 = .ok (.iload_n 3, 1) := by decide +kernel
theorem dX11_post_27 : decode cX11_post 27 = .ok (.iconst 1, 1) := by decide +kernel
theorem dX11_post_28 : decode cX11_post 28 = .ok (.sipush 9999, 3) := by decide +kernel
theorem dX11_post_31 : decode cX11_post 31 = .ok (.invokestatic 65, 3) := by decide +kernel
theorem dX11_post_34 : decode cX11_post 34 = .ok (.ifCond .ne 7, 3) := by decide +kernel
theorem dX11_post_37 : decode cX11_post 37 = .ok (.iconst 2, 1) := by decide +kernel
theorem dX11_post_38 : decode cX11_post 38 = .ok (.goto 32, 3) := by decide +kernel
theorem dX11_post_41 : decode cX11_post 41 = .ok (.aload_n 0, 1) := by decide +kernel
theorem dX11_post_42 : decode cX11_post 42 = .ok (.getfield 7, 3) := by decide +kernel
theorem dX11_post_45 : decode cX11_post 45 = .ok (.iconst 3, 1) := by decide +kernel
theorem dX11_post_46 : decode cX11_post 46 = .ok (.iaload, 1) := by decide +kernel
theorem dX11_post_47 : decode cX11_post 47 = .ok (.bipush 60, 2) := by decide +kernel
theorem dX11_post_49 : decode cX11_post 49 = .ok (.if_icmp .ne 7, 3) := by decide +kernel
theorem dX11_post_52 : decode cX11_post 52 = .ok (.iconst 3, 1) := by decide +kernel
theorem dX11_post_53 : decode cX11_post 53 = .ok (.goto 17, 3) := by decide +kernel
theorem dX11_post_56 : decode cX11_post 56 = .ok (.aload_n 0, 1) := by decide +kernel
theorem dX11_post_57 : decode cX11_post 57 = .ok (.iload_n 2, 1) := by decide +kernel
theorem dX11_post_58 : decode cX11_post 58 = .ok (.iload_n 3, 1) := by decide +kernel
theorem dX11_post_59 : decode cX11_post 59 = .ok (.invokevirtual 83, 3) := by decide +kernel
theorem dX11_post_62 : decode cX11_post 62 = .ok (.ifCond .eq 7, 3) := by decide +kernel
theorem dX11_post_65 : decode cX11_post 65 = .ok (.iconst 4, 1) := by decide +kernel
theorem dX11_post_66 : decode cX11_post 66 = .ok (.goto 4, 3) := by decide +kernel
theorem dX11_post_69 : decode cX11_post 69 = .ok (.iconst 0, 1) := by decide +kernel
theorem dX11_post_70 : decode cX11_post 70 = .ok (.invokevirtual 73, 3) := by decide +kernel
theorem dX11_post_73 : decode cX11_post 73 = .ok (.ifCond .eq 5, 3) := by decide +kernel
theorem dX11_post_76 : decode cX11_post 76 = .ok (.iconst 0, 1) := by decide +kernel
theorem dX11_post_77 : decode cX11_post 77 = .ok (.ireturn, 1) := by decide +kernel
theorem dX11_post_78 : decode cX11_post 78 = .ok (.aload_n 0, 1) := by decide +kernel
theorem dX11_post_79 : decode cX11_post 79 = .ok (.aload_n 0, 1) := by decide +kernel
theorem dX11_post_80 : decode cX11_post 80 = .ok (.getfield 7, 3) := by decide +kernel
theorem dX11_post_83 : decode cX11_post 83 = .ok (.invokevirtual 76, 3) := by decide +kernel
theorem dX11_post_86 : decode cX11_post 86 = .ok (.aload_n 0, 1) := by decide +kernel
theorem dX11_post_87 : decode cX11_post 87 = .ok (.iload_n 1, 1) := by decide +kernel
theorem dX11_post_88 : decode cX11_post 88 = .ok (.iload_n 2, 1) := by decide +kernel
theorem dX11_post_89 : decode cX11_post 89 = .ok (.iload_n 3, 1) := by decide +kernel
theorem dX11_post_90 : decode cX11_post 90 = .ok (.invokevirtual 87, 3) := by decide +kernel
theorem dX11_post_93 : decode cX11_post 93 = .ok (.aload_n 0, 1) := by decide +kernel
theorem dX11_post_94 : decode cX11_post 94 = .ok (.getfield 7, 3) := by decide +kernel
theorem dX11_post_97 : decode cX11_post 97 = .ok (.iconst 3, 1) := by decide +kernel
theorem dX11_post_98 : decode cX11_post 98 = .ok (.iaload, 1) := by decide +kernel
theorem dX11_post_99 : decode cX11_post 99 = .ok (.iconst 1, 1) := by decide +kernel
theorem dX11_post_100 : decode cX11_post 100 = .ok (.isub, 1) := by decide +kernel
theorem dX11_post_101 : decode cX11_post 101 = .ok (.ireturn, 1) := by decide +kernel
set_option maxRecDepth 20000 in
theorem ggX11_payOut_X11_isAcrobat : GoodIn wsX11_payOut wsX11_isAcrobat := goodIn_ca (goodIn_r _ [6, 1, 7, 8, 5, 9, 33, 34, 35, 36, 37, 38, 39, 40, 41, 42, 43, 44, 45, 46, 47, 48, 49, 50, 51, 52, 53, 54] (by decide +kernel) (by decide +kernel)) (goodIn_sub (fun _ h => List.mem_cons_of_mem _ (List.mem_append_right _ h)) (by decide +kernel))
set_option maxRecDepth 20000 in
theorem gX11_payOut_X11_isAcrobat : GoodIn wsX11_payOut (wsV RX11 69 RX11 yX11_isAcrobat wsX11_isAcrobat) := goodIn_app (goodIn_of _ (by decide +kernel)) ggX11_payOut_X11_isAcrobat
set_option maxRecDepth 20000 in
theorem ggX11_payOut_X11_in : GoodIn wsX11_payOut wsX11_in := goodIn_r _ [9] (by decide +kernel) (by decide +kernel)
set_option maxRecDepth 20000 in
theorem gX11_payOut_X11_in : GoodIn wsX11_payOut (va_wsS RX11 65 yX11_in wsX11_in) := goodIn_app (goodIn_of _ (by decide +kernel)) ggX11_payOut_X11_in
set_option maxRecDepth 20000 in
theorem ggX11_payOut_X11_isShort : GoodIn wsX11_payOut wsX11_isShort := goodIn_ca (goodIn_r _ [13, 1, 33, 34, 35, 36, 37, 38, 39, 40, 41, 42, 43, 44, 45, 46, 47, 48, 49, 50, 51, 52, 53, 54] (by decide +kernel) (by decide +kernel)) (goodIn_sub (fun _ h => List.mem_cons_of_mem _ (List.mem_append_right _ h)) (by decide +kernel))
set_option maxRecDepth 20000 in
theorem gX11_payOut_X11_isShort : GoodIn wsX11_payOut (wsV RX11 83 RX11 yX11_isShort wsX11_isShort) := goodIn_app (goodIn_of _ (by decide +kernel)) ggX11_payOut_X11_isShort
set_option maxRecDepth 20000 in
theorem ggX11_payOut_X11_fails : GoodIn wsX11_payOut wsX11_fails := goodIn_r _ [17, 18, 33, 34, 35, 36, 37, 38, 39, 40, 41, 42, 43, 44, 45, 46, 47, 48, 49, 50, 51, 52, 53, 54] (by decide +kernel) (by decide +kernel)
set_option maxRecDepth 20000 in
theorem gX11_payOut_X11_fails : GoodIn wsX11_payOut (wsV RX11 73 RX11 yX11_fails wsX11_fails) := goodIn_app (goodIn_of _ (by decide +kernel)) ggX11_payOut_X11_fails
set_option maxRecDepth 20000 in
theorem ggX11_payOut_X11_keeps : GoodIn wsX11_payOut wsX11_keeps := goodIn_ca (goodIn_r _ [22, 18, 23, 24, 25, 26, 27, 5, 28, 33, 34, 35, 36, 37, 38, 39, 40, 41, 42, 43, 44, 45, 46, 47, 48, 49, 50, 51, 52, 53, 54] (by decide +kernel) (by decide +kernel)) (goodIn_sub (fun _ h => List.mem_cons_of_mem _ (List.mem_append_right _ h)) (by decide +kernel))
set_option maxRecDepth 20000 in
theorem gX11_payOut_X11_keeps : GoodIn wsX11_payOut (wsV RX11 76 RX11 yX11_keeps wsX11_keeps) := goodIn_app (goodIn_of _ (by decide +kernel)) ggX11_payOut_X11_keeps
set_option maxRecDepth 20000 in
theorem ggX11_payOut_X11_books : GoodIn wsX11_payOut wsX11_books := goodIn_ca (goodIn_r _ [32, 1, 33, 34, 35, 36, 37, 38, 39, 40, 41, 42, 43, 44, 45, 46, 47, 48, 49, 50, 51, 52, 53, 54] (by decide +kernel) (by decide +kernel)) (goodIn_sub (fun _ h => List.mem_cons_of_mem _ (List.mem_append_right _ h)) (by decide +kernel))
set_option maxRecDepth 20000 in
theorem gX11_payOut_X11_books : GoodIn wsX11_payOut (wsV RX11 87 RX11 yX11_books wsX11_books) := goodIn_app (goodIn_of _ (by decide +kernel)) ggX11_payOut_X11_books
theorem dX11_payOut_0 : decode cX11_payOut 0 = .ok (.aload_n 0, 1) := by decide +kernel
theorem dX11_payOut_1 : decode cX11_payOut 1 = .ok (.aload_n 0, 1) := by decide +kernel
theorem dX11_payOut_2 : decode cX11_payOut 2 = .ok (.iload_n 1, 1) := by decide +kernel
theorem dX11_payOut_3 : decode cX11_payOut 3 = .ok (.invokevirtual 69, 3) := by decide +kernel
theorem dX11_payOut_6 : decode cX11_payOut 6 = .ok (.ifCond .ne 7, 3) := by decide +kernel
theorem dX11_payOut_9 : decode cX11_payOut 9 = .ok (.iconst 1, 1) := by decide +kernel
theorem dX11_payOut_10 : decode cX11_payOut 10 = .ok (.goto 47, 3) := by decide +kernel
theorem dX11_payOut_13 : decode cX11_payOut 13 = .ok (.iload_n 2, 1) := by decide +kernel
theorem dX11_payOut_14 : decode cX11_payOut 14 = .ok (.iconst 1, 1) := by decide +kernel
theorem dX11_payOut_15 : decode cX11_payOut 15 = .ok (.sipush 9999, 3) := by decide +kernel
theorem dX11_payOut_18 : decode cX11_payOut 18 = .ok (.invokestatic 65, 3) := by decide +kernel
theorem dX11_payOut_21 : decode cX11_payOut 21 = .ok (.ifCond .ne 7, 3) := by decide +kernel
theorem dX11_payOut_24 : decode cX11_payOut 24 = .ok (.iconst 2, 1) := by decide +kernel
theorem dX11_payOut_25 : decode cX11_payOut 25 = .ok (.goto 32, 3) := by decide +kernel
theorem dX11_payOut_28 : decode cX11_payOut 28 = .ok (.aload_n 0, 1) := by decide +kernel
theorem dX11_payOut_29 : decode cX11_payOut 29 = .ok (.getfield 7, 3) := by decide +kernel
theorem dX11_payOut_32 : decode cX11_payOut 32 = .ok (.iconst 3, 1) := by decide +kernel
theorem dX11_payOut_33 : decode cX11_payOut 33 = .ok (.iaload, 1) := by decide +kernel
theorem dX11_payOut_34 : decode cX11_payOut 34 = .ok (.bipush 60, 2) := by decide +kernel
theorem dX11_payOut_36 : decode cX11_payOut 36 = .ok (.if_icmp .ne 7, 3) := by decide +kernel
theorem dX11_payOut_39 : decode cX11_payOut 39 = .ok (.iconst 3, 1) := by decide +kernel
theorem dX11_payOut_40 : decode cX11_payOut 40 = .ok (.goto 17, 3) := by decide +kernel
theorem dX11_payOut_43 : decode cX11_payOut 43 = .ok (.aload_n 0, 1) := by decide +kernel
theorem dX11_payOut_44 : decode cX11_payOut 44 = .ok (.iconst 0, 1) := by decide +kernel
theorem dX11_payOut_45 : decode cX11_payOut 45 = .ok (.iload_n 2, 1) := by decide +kernel
theorem dX11_payOut_46 : decode cX11_payOut 46 = .ok (.invokevirtual 83, 3) := by decide +kernel
theorem dX11_payOut_49 : decode cX11_payOut 49 = .ok (.ifCond .eq 7, 3) := by decide +kernel
theorem dX11_payOut_52 : decode cX11_payOut 52 = .ok (.iconst 4, 1) := by decide +kernel
theorem dX11_payOut_53 : decode cX11_payOut 53 = .ok (.goto 4, 3) := by decide +kernel
theorem dX11_payOut_56 : decode cX11_payOut 56 = .ok (.iconst 0, 1) := by decide +kernel
theorem dX11_payOut_57 : decode cX11_payOut 57 = .ok (.invokevirtual 73, 3) := by decide +kernel
theorem dX11_payOut_60 : decode cX11_payOut 60 = .ok (.ifCond .eq 5, 3) := by decide +kernel
theorem dX11_payOut_63 : decode cX11_payOut 63 = .ok (.iconst 0, 1) := by decide +kernel
theorem dX11_payOut_64 : decode cX11_payOut 64 = .ok (.ireturn, 1) := by decide +kernel
theorem dX11_payOut_65 : decode cX11_payOut 65 = .ok (.aload_n 0, 1) := by decide +kernel
theorem dX11_payOut_66 : decode cX11_payOut 66 = .ok (.aload_n 0, 1) := by decide +kernel
theorem dX11_payOut_67 : decode cX11_payOut 67 = .ok (.getfield 7, 3) := by decide +kernel
theorem dX11_payOut_70 : decode cX11_payOut 70 = .ok (.invokevirtual 76, 3) := by decide +kernel
theorem dX11_payOut_73 : decode cX11_payOut 73 = .ok (.aload_n 0, 1) := by decide +kernel
theorem dX11_payOut_74 : decode cX11_payOut 74 = .ok (.iconst 5, 1) := by decide +kernel
theorem dX11_payOut_75 : decode cX11_payOut 75 = .ok (.iload_n 1, 1) := by decide +kernel
theorem dX11_payOut_76 : decode cX11_payOut 76 = .ok (.iadd, 1) := by decide +kernel
theorem dX11_payOut_77 : decode cX11_payOut 77 = .ok (.iconst 0, 1) := by decide +kernel
theorem dX11_payOut_78 : decode cX11_payOut 78 = .ok (.iload_n 2, 1) := by decide +kernel
theorem dX11_payOut_79 : decode cX11_payOut 79 = .ok (.invokevirtual 87, 3) := by decide +kernel
theorem dX11_payOut_82 : decode cX11_payOut 82 = .ok (.aload_n 0, 1) := by decide +kernel
theorem dX11_payOut_83 : decode cX11_payOut 83 = .ok (.getfield 7, 3) := by decide +kernel
theorem dX11_payOut_86 : decode cX11_payOut 86 = .ok (.bipush 41, 2) := by decide +kernel
theorem dX11_payOut_88 : decode cX11_payOut 88 = .ok (.iload_n 1, 1) := by decide +kernel
theorem dX11_payOut_89 : decode cX11_payOut 89 = .ok (.iadd, 1) := by decide +kernel
theorem dX11_payOut_90 : decode cX11_payOut 90 = .ok (.iaload, 1) := by decide +kernel
theorem dX11_payOut_91 : decode cX11_payOut 91 = .ok (.ireturn, 1) := by decide +kernel
theorem dX11_isSet_0 : decode cX11_isSet 0 = .ok (.iload_n 1, 1) := by decide +kernel
theorem dX11_isSet_1 : decode cX11_isSet 1 = .ok (.ifCond .le 19, 3) := by decide +kernel
theorem dX11_isSet_4 : decode cX11_isSet 4 = .ok (.iload_n 1, 1) := by decide +kernel
theorem dX11_isSet_5 : decode cX11_isSet 5 = .ok (.iconst 1, 1) := by decide +kernel
theorem dX11_isSet_6 : decode cX11_isSet 6 = .ok (.aload_n 0, 1) := by decide +kernel
theorem dX11_isSet_7 : decode cX11_isSet 7 = .ok (.getfield 7, 3) := by decide +kernel
theorem dX11_isSet_10 : decode cX11_isSet 10 = .ok (.iconst 0, 1) := by decide +kernel
theorem dX11_isSet_11 : decode cX11_isSet 11 = .ok (.iaload, 1) := by decide +kernel
theorem dX11_isSet_12 : decode cX11_isSet 12 = .ok (.ishl, 1) := by decide +kernel
theorem dX11_isSet_13 : decode cX11_isSet 13 = .ok (.if_icmp .ge 7, 3) := by decide +kernel
theorem dX11_isSet_16 : decode cX11_isSet 16 = .ok (.iconst 1, 1) := by decide +kernel
theorem dX11_isSet_17 : decode cX11_isSet 17 = .ok (.goto 4, 3) := by decide +kernel
theorem dX11_isSet_20 : decode cX11_isSet 20 = .ok (.iconst 0, 1) := by decide +kernel
theorem dX11_isSet_21 : decode cX11_isSet 21 = .ok (.ireturn, 1) := by decide +kernel
set_option maxRecDepth 20000 in
theorem ggX11_isLower_X11_of : GoodIn wsX11_isLower wsX11_of := goodIn_ca (goodIn_r _ [5, 6, 7, 8, 9, 10, 11, 12, 13, 14, 15, 16, 17, 18, 19, 20, 21, 22, 23, 24, 25, 26, 27, 28] (by decide +kernel) (by decide +kernel)) (goodIn_sub (fun _ h => List.mem_cons_of_mem _ (List.mem_append_right _ h)) (by decide +kernel))
set_option maxRecDepth 20000 in
theorem gX11_isLower_X11_of : GoodIn wsX11_isLower (wsV RX11 91 RX11 yX11_of wsX11_of) := goodIn_app (goodIn_of _ (by decide +kernel)) ggX11_isLower_X11_of
theorem dX11_isLower_0 : decode cX11_isLower 0 = .ok (.aload_n 0, 1) := by decide +kernel
theorem dX11_isLower_1 : decode cX11_isLower 1 = .ok (.iload_n 1, 1) := by decide +kernel
theorem dX11_isLower_2 : decode cX11_isLower 2 = .ok (.iconst 0, 1) := by decide +kernel
theorem dX11_isLower_3 : decode cX11_isLower 3 = .ok (.invokevirtual 91, 3) := by decide +kernel
theorem dX11_isLower_6 : decode cX11_isLower 6 = .ok (.aload_n 0, 1) := by decide +kernel
theorem dX11_isLower_7 : decode cX11_isLower 7 = .ok (.iload_n 1, 1) := by decide +kernel
theorem dX11_isLower_8 : decode cX11_isLower 8 = .ok (.iconst 1, 1) := by decide +kernel
theorem dX11_isLower_9 : decode cX11_isLower 9 = .ok (.invokevirtual 91, 3) := by decide +kernel
theorem dX11_isLower_12 : decode cX11_isLower 12 = .ok (.iadd, 1) := by decide +kernel
theorem dX11_isLower_13 : decode cX11_isLower 13 = .ok (.aload_n 0, 1) := by decide +kernel
theorem dX11_isLower_14 : decode cX11_isLower 14 = .ok (.iload_n 2, 1) := by decide +kernel
theorem dX11_isLower_15 : decode cX11_isLower 15 = .ok (.iconst 0, 1) := by decide +kernel
theorem dX11_isLower_16 : decode cX11_isLower 16 = .ok (.invokevirtual 91, 3) := by decide +kernel
theorem dX11_isLower_19 : decode cX11_isLower 19 = .ok (.isub, 1) := by decide +kernel
theorem dX11_isLower_20 : decode cX11_isLower 20 = .ok (.aload_n 0, 1) := by decide +kernel
theorem dX11_isLower_21 : decode cX11_isLower 21 = .ok (.iload_n 2, 1) := by decide +kernel
theorem dX11_isLower_22 : decode cX11_isLower 22 = .ok (.iconst 1, 1) := by decide +kernel
theorem dX11_isLower_23 : decode cX11_isLower 23 = .ok (.invokevirtual 91, 3) := by decide +kernel
theorem dX11_isLower_26 : decode cX11_isLower 26 = .ok (.isub, 1) := by decide +kernel
theorem dX11_isLower_27 : decode cX11_isLower 27 = .ok (.istore_n 3, 1) := by decide +kernel
theorem dX11_isLower_28 : decode cX11_isLower 28 = .ok (.iload_n 3, 1) := by decide +kernel
theorem dX11_isLower_29 : decode cX11_isLower 29 = .ok (.ifCond .gt 12, 3) := by decide +kernel
theorem dX11_isLower_32 : decode cX11_isLower 32 = .ok (.iload_n 3, 1) := by decide +kernel
theorem dX11_isLower_33 : decode cX11_isLower 33 = .ok (.ifCond .ne 12, 3) := by decide +kernel
theorem dX11_isLower_36 : decode cX11_isLower 36 = .ok (.iload_n 1, 1) := by decide +kernel
theorem dX11_isLower_37 : decode cX11_isLower 37 = .ok (.iload_n 2, 1) := by decide +kernel
theorem dX11_isLower_38 : decode cX11_isLower 38 = .ok (.if_icmp .ge 7, 3) := by decide +kernel
theorem dX11_isLower_41 : decode cX11_isLower 41 = .ok (.iconst 1, 1) := by decide +kernel
theorem dX11_isLower_42 : decode cX11_isLower 42 = .ok (.goto 4, 3) := by decide +kernel
theorem dX11_isLower_45 : decode cX11_isLower 45 = .ok (.iconst 0, 1) := by decide +kernel
theorem dX11_isLower_46 : decode cX11_isLower 46 = .ok (.ireturn, 1) := by decide +kernel
set_option maxRecDepth 20000 in
theorem ggX11_lays_X11_isLower : GoodIn wsX11_lays wsX11_isLower := goodIn_ca (goodIn_r _ [9, 10, 11, 12, 8, 13, 2, 14, 15, 16, 17, 18, 19, 20, 21, 22, 23, 24, 25, 26, 27, 28, 29, 30, 31, 32, 33, 34, 35] (by decide +kernel) (by decide +kernel)) (goodIn_sub (fun _ h => List.mem_cons_of_mem _ (List.mem_append_right _ h)) (by decide +kernel))
set_option maxRecDepth 20000 in
theorem gX11_lays_X11_isLower : GoodIn wsX11_lays (wsV RX11 98 RX11 yX11_isLower wsX11_isLower) := goodIn_app (goodIn_of _ (by decide +kernel)) ggX11_lays_X11_isLower
set_option maxRecDepth 20000 in
theorem ggX11_lays_X11_of : GoodIn wsX11_lays wsX11_of := goodIn_ca (goodIn_r _ [13, 2, 14, 15, 16, 17, 18, 19, 20, 21, 22, 23, 24, 25, 26, 27, 28, 29, 30, 31, 32, 33, 34, 35] (by decide +kernel) (by decide +kernel)) (goodIn_sub (fun _ h => List.mem_cons_of_mem _ (List.mem_append_right _ h)) (by decide +kernel))
set_option maxRecDepth 20000 in
theorem gX11_lays_X11_of : GoodIn wsX11_lays (wsV RX11 91 RX11 yX11_of wsX11_of) := goodIn_app (goodIn_of _ (by decide +kernel)) ggX11_lays_X11_of
theorem dX11_lays_0 : decode cX11_lays 0 = .ok (.aload_n 0, 1) := by decide +kernel
theorem dX11_lays_1 : decode cX11_lays 1 = .ok (.iconst 0, 1) := by decide +kernel
theorem dX11_lays_2 : decode cX11_lays 2 = .ok (.putfield 95, 3) := by decide +kernel
theorem dX11_lays_5 : decode cX11_lays 5 = .ok (.iconst 0, 1) := by decide +kernel
theorem dX11_lays_6 : decode cX11_lays 6 = .ok (.istore_n 2, 1) := by decide +kernel
theorem dX11_lays_7 : decode cX11_lays 7 = .ok (.iload_n 2, 1) := by decide +kernel
theorem dX11_lays_8 : decode cX11_lays 8 = .ok (.aload_n 0, 1) := by decide +kernel
theorem dX11_lays_9 : decode cX11_lays 9 = .ok (.getfield 7, 3) := by decide +kernel
theorem dX11_lays_12 : decode cX11_lays 12 = .ok (.iconst 0, 1) := by decide +kernel
theorem dX11_lays_13 : decode cX11_lays 13 = .ok (.iaload, 1) := by decide +kernel
theorem dX11_lays_14 : decode cX11_lays 14 = .ok (.if_icmp .ge 82, 3) := by decide +kernel
theorem dX11_lays_17 : decode cX11_lays 17 = .ok (.iload_n 1, 1) := by decide +kernel
theorem dX11_lays_18 : decode cX11_lays 18 = .ok (.iload_n 2, 1) := by decide +kernel
theorem dX11_lays_19 : decode cX11_lays 19 = .ok (.ishr, 1) := by decide +kernel
theorem dX11_lays_20 : decode cX11_lays 20 = .ok (.iconst 1, 1) := by decide +kernel
theorem dX11_lays_21 : decode cX11_lays 21 = .ok (.iand, 1) := by decide +kernel
theorem dX11_lays_22 : decode cX11_lays 22 = .ok (.ifCond .ne 6, 3) := by decide +kernel
theorem dX11_lays_25 : decode cX11_lays 25 = .ok (.goto 65, 3) := by decide +kernel
theorem dX11_lays_28 : decode cX11_lays 28 = .ok (.aload_n 0, 1) := by decide +kernel
theorem dX11_lays_29 : decode cX11_lays 29 = .ok (.getfield 95, 3) := by decide +kernel
theorem dX11_lays_32 : decode cX11_lays 32 = .ok (.istore_n 3, 1) := by decide +kernel
theorem dX11_lays_33 : decode cX11_lays 33 = .ok (.iload_n 3, 1) := by decide +kernel
theorem dX11_lays_34 : decode cX11_lays 34 = .ok (.ifCond .le 39, 3) := by decide +kernel
theorem dX11_lays_37 : decode cX11_lays 37 = .ok (.aload_n 0, 1) := by decide +kernel
theorem dX11_lays_38 : decode cX11_lays 38 = .ok (.iload_n 2, 1) := by decide +kernel
theorem dX11_lays_39 : decode cX11_lays 39 = .ok (.aload_n 0, 1) := by decide +kernel
theorem dX11_lays_40 : decode cX11_lays 40 = .ok (.getfield 36, 3) := by decide +kernel
theorem dX11_lays_43 : decode cX11_lays 43 = .ok (.iload_n 3, 1) := by decide +kernel
theorem dX11_lays_44 : decode cX11_lays 44 = .ok (.iconst 1, 1) := by decide +kernel
theorem dX11_lays_45 : decode cX11_lays 45 = .ok (.isub, 1) := by decide +kernel
theorem dX11_lays_46 : decode cX11_lays 46 = .ok (.iaload, 1) := by decide +kernel
theorem dX11_lays_47 : decode cX11_lays 47 = .ok (.invokevirtual 98, 3) := by decide +kernel
theorem dX11_lays_50 : decode cX11_lays 50 = .ok (.ifCond .eq 23, 3) := by decide +kernel
theorem dX11_lays_53 : decode cX11_lays 53 = .ok (.aload_n 0, 1) := by decide +kernel
theorem dX11_lays_54 : decode cX11_lays 54 = .ok (.getfield 36, 3) := by decide +kernel
theorem dX11_lays_57 : decode cX11_lays 57 = .ok (.iload_n 3, 1) := by decide +kernel
theorem dX11_lays_58 : decode cX11_lays 58 = .ok (.aload_n 0, 1) := by decide +kernel
theorem dX11_lays_59 : decode cX11_lays 59 = .ok (.getfield 36, 3) := by decide +kernel
theorem dX11_lays_62 : decode cX11_lays 62 = .ok (.iload_n 3, 1) := by decide +kernel
theorem dX11_lays_63 : decode cX11_lays 63 = .ok (.iconst 1, 1) := by decide +kernel
theorem dX11_lays_64 : decode cX11_lays 64 = .ok (.isub, 1) := by decide +kernel
theorem dX11_lays_65 : decode cX11_lays 65 = .ok (.iaload, 1) := by decide +kernel
theorem dX11_lays_66 : decode cX11_lays 66 = .ok (.iastore, 1) := by decide +kernel
theorem dX11_lays_67 : decode cX11_lays 67 = .ok (.iinc 3 (-1), 3) := by decide +kernel
theorem dX11_lays_70 : decode cX11_lays 70 = .ok (.goto (-37), 3) := by decide +kernel
theorem dX11_lays_73 : decode cX11_lays 73 = .ok (.aload_n 0, 1) := by decide +kernel
theorem dX11_lays_74 : decode cX11_lays 74 = .ok (.getfield 36, 3) := by decide +kernel
theorem dX11_lays_77 : decode cX11_lays 77 = .ok (.iload_n 3, 1) := by decide +kernel
theorem dX11_lays_78 : decode cX11_lays 78 = .ok (.iload_n 2, 1) := by decide +kernel
theorem dX11_lays_79 : decode cX11_lays 79 = .ok (.iastore, 1) := by decide +kernel
theorem dX11_lays_80 : decode cX11_lays 80 = .ok (.aload_n 0, 1) := by decide +kernel
theorem dX11_lays_81 : decode cX11_lays 81 = .ok (.dup, 1) := by decide +kernel
theorem dX11_lays_82 : decode cX11_lays 82 = .ok (.getfield 95, 3) := by decide +kernel
theorem dX11_lays_85 : decode cX11_lays 85 = .ok (.iconst 1, 1) := by decide +kernel
theorem dX11_lays_86 : decode cX11_lays 86 = .ok (.iadd, 1) := by decide +kernel
theorem dX11_lays_87 : decode cX11_lays 87 = .ok (.putfield 95, 3) := by decide +kernel
theorem dX11_lays_90 : decode cX11_lays 90 = .ok (.iinc 2 1, 3) := by decide +kernel
theorem dX11_lays_93 : decode cX11_lays 93 = .ok (.goto (-86), 3) := by decide +kernel
theorem dX11_lays_96 : decode cX11_lays 96 = .ok (.iconst 0, 1) := by decide +kernel
theorem dX11_lays_97 : decode cX11_lays 97 = .ok (.istore_n 2, 1) := by decide +kernel
theorem dX11_lays_98 : decode cX11_lays 98 = .ok (.aload_n 0, 1) := by decide +kernel
theorem dX11_lays_99 : decode cX11_lays 99 = .ok (.getfield 95, 3) := by decide +kernel
theorem dX11_lays_102 : decode cX11_lays 102 = .ok (.iconst 1, 1) := by decide +kernel
theorem dX11_lays_103 : decode cX11_lays 103 = .ok (.isub, 1) := by decide +kernel
theorem dX11_lays_104 : decode cX11_lays 104 = .ok (.istore_n 3, 1) := by decide +kernel
theorem dX11_lays_105 : decode cX11_lays 105 = .ok (.iload_n 3, 1) := by decide +kernel
theorem dX11_lays_106 : decode cX11_lays 106 = .ok (.ifCond .lt 30, 3) := by decide +kernel
theorem dX11_lays_109 : decode cX11_lays 109 = .ok (.aload_n 0, 1) := by decide +kernel
theorem dX11_lays_110 : decode cX11_lays 110 = .ok (.getfield 39, 3) := by decide +kernel
theorem dX11_lays_113 : decode cX11_lays 113 = .ok (.iload_n 3, 1) := by decide +kernel
theorem dX11_lays_114 : decode cX11_lays 114 = .ok (.iload_n 2, 1) := by decide +kernel
theorem dX11_lays_115 : decode cX11_lays 115 = .ok (.iastore, 1) := by decide +kernel
theorem dX11_lays_116 : decode cX11_lays 116 = .ok (.iload_n 2, 1) := by decide +kernel
theorem dX11_lays_117 : decode cX11_lays 117 = .ok (.aload_n 0, 1) := by decide +kernel
theorem dX11_lays_118 : decode cX11_lays 118 = .ok (.aload_n 0, 1) := by decide +kernel
theorem dX11_lays_119 : decode cX11_lays 119 = .ok (.getfield 36, 3) := by decide +kernel
theorem dX11_lays_122 : decode cX11_lays 122 = .ok (.iload_n 3, 1) := by decide +kernel
theorem dX11_lays_123 : decode cX11_lays 123 = .ok (.iaload, 1) := by decide +kernel
theorem dX11_lays_124 : decode cX11_lays 124 = .ok (.iconst 0, 1) := by decide +kernel
theorem dX11_lays_125 : decode cX11_lays 125 = .ok (.invokevirtual 91, 3) := by decide +kernel
theorem dX11_lays_128 : decode cX11_lays 128 = .ok (.iadd, 1) := by decide +kernel
theorem dX11_lays_129 : decode cX11_lays 129 = .ok (.istore_n 2, 1) := by decide +kernel
theorem dX11_lays_130 : decode cX11_lays 130 = .ok (.iinc 3 (-1), 3) := by decide +kernel
theorem dX11_lays_133 : decode cX11_lays 133 = .ok (.goto (-28), 3) := by decide +kernel
theorem dX11_lays_136 : decode cX11_lays 136 = .ok (.return_, 1) := by decide +kernel
set_option maxRecDepth 20000 in
theorem ggX11_breaks_X11_of : GoodIn wsX11_breaks wsX11_of := goodIn_ca (goodIn_r _ [8, 9, 10, 11, 12, 13, 14, 15, 16, 17, 18, 19, 20, 21, 22, 23, 24, 25, 26, 27, 28, 29, 30, 31] (by decide +kernel) (by decide +kernel)) (goodIn_sub (fun _ h => List.mem_cons_of_mem _ (List.mem_append_right _ h)) (by decide +kernel))
set_option maxRecDepth 20000 in
theorem gX11_breaks_X11_of : GoodIn wsX11_breaks (wsV RX11 91 RX11 yX11_of wsX11_of) := goodIn_app (goodIn_of _ (by decide +kernel)) ggX11_breaks_X11_of
theorem dX11_breaks_0 : decode cX11_breaks 0 = .ok (.iconst 0, 1) := by decide +kernel
theorem dX11_breaks_1 : decode cX11_breaks 1 = .ok (.istore_n 1, 1) := by decide +kernel
theorem dX11_breaks_2 : decode cX11_breaks 2 = .ok (.iload_n 1, 1) := by decide +kernel
theorem dX11_breaks_3 : decode cX11_breaks 3 = .ok (.aload_n 0, 1) := by decide +kernel
theorem dX11_breaks_4 : decode cX11_breaks 4 = .ok (.getfield 95, 3) := by decide +kernel
theorem dX11_breaks_7 : decode cX11_breaks 7 = .ok (.if_icmp .ge 31, 3) := by decide +kernel
theorem dX11_breaks_10 : decode cX11_breaks 10 = .ok (.aload_n 0, 1) := by decide +kernel
theorem dX11_breaks_11 : decode cX11_breaks 11 = .ok (.getfield 39, 3) := by decide +kernel
theorem dX11_breaks_14 : decode cX11_breaks 14 = .ok (.iload_n 1, 1) := by decide +kernel
theorem dX11_breaks_15 : decode cX11_breaks 15 = .ok (.iaload, 1) := by decide +kernel
theorem dX11_breaks_16 : decode cX11_breaks 16 = .ok (.aload_n 0, 1) := by decide +kernel
theorem dX11_breaks_17 : decode cX11_breaks 17 = .ok (.aload_n 0, 1) := by decide +kernel
theorem dX11_breaks_18 : decode cX11_breaks 18 = .ok (.getfield 36, 3) := by decide +kernel
theorem dX11_breaks_21 : decode cX11_breaks 21 = .ok (.iload_n 1, 1) := by decide +kernel
theorem dX11_breaks_22 : decode cX11_breaks 22 = .ok (.iaload, 1) := by decide +kernel
theorem dX11_breaks_23 : decode cX11_breaks 23 = .ok (.iconst 1, 1) := by decide +kernel
theorem dX11_breaks_24 : decode cX11_breaks 24 = .ok (.invokevirtual 91, 3) := by decide +kernel
theorem dX11_breaks_27 : decode cX11_breaks 27 = .ok (.if_icmp .le 5, 3) := by decide +kernel
theorem dX11_breaks_30 : decode cX11_breaks 30 = .ok (.iload_n 1, 1) := by decide +kernel
theorem dX11_breaks_31 : decode cX11_breaks 31 = .ok (.ireturn, 1) := by decide +kernel
theorem dX11_breaks_32 : decode cX11_breaks 32 = .ok (.iinc 1 1, 3) := by decide +kernel
theorem dX11_breaks_35 : decode cX11_breaks 35 = .ok (.goto (-33), 3) := by decide +kernel
theorem dX11_breaks_38 : decode cX11_breaks 38 = .ok (.iconst (-1), 1) := by decide +kernel
theorem dX11_breaks_39 : decode cX11_breaks 39 = .ok (.ireturn, 1) := by decide +kernel
set_option maxRecDepth 20000 in
theorem ggX11_tall_X11_of : GoodIn wsX11_tall wsX11_of := goodIn_ca (goodIn_r _ [6, 1, 7, 8, 9, 10, 11, 12, 13, 14, 15, 16, 17, 18, 19, 20, 21, 22, 23, 24, 25, 26, 27, 28] (by decide +kernel) (by decide +kernel)) (goodIn_sub (fun _ h => List.mem_cons_of_mem _ (List.mem_append_right _ h)) (by decide +kernel))
set_option maxRecDepth 20000 in
theorem gX11_tall_X11_of : GoodIn wsX11_tall (wsV RX11 91 RX11 yX11_of wsX11_of) := goodIn_app (goodIn_of _ (by decide +kernel)) ggX11_tall_X11_of
theorem dX11_tall_0 : decode cX11_tall 0 = .ok (.iconst 0, 1) := by decide +kernel
theorem dX11_tall_1 : decode cX11_tall 1 = .ok (.istore_n 2, 1) := by decide +kernel
theorem dX11_tall_2 : decode cX11_tall 2 = .ok (.iconst 0, 1) := by decide +kernel
theorem dX11_tall_3 : decode cX11_tall 3 = .ok (.istore_n 3, 1) := by decide +kernel
theorem dX11_tall_4 : decode cX11_tall 4 = .ok (.iload_n 3, 1) := by decide +kernel
theorem dX11_tall_5 : decode cX11_tall 5 = .ok (.aload_n 0, 1) := by decide +kernel
theorem dX11_tall_6 : decode cX11_tall 6 = .ok (.getfield 7, 3) := by decide +kernel
theorem dX11_tall_9 : decode cX11_tall 9 = .ok (.iconst 0, 1) := by decide +kernel
theorem dX11_tall_10 : decode cX11_tall 10 = .ok (.iaload, 1) := by decide +kernel
theorem dX11_tall_11 : decode cX11_tall 11 = .ok (.if_icmp .ge 24, 3) := by decide +kernel
theorem dX11_tall_14 : decode cX11_tall 14 = .ok (.iload_n 2, 1) := by decide +kernel
theorem dX11_tall_15 : decode cX11_tall 15 = .ok (.iload_n 1, 1) := by decide +kernel
theorem dX11_tall_16 : decode cX11_tall 16 = .ok (.iload_n 3, 1) := by decide +kernel
theorem dX11_tall_17 : decode cX11_tall 17 = .ok (.ishr, 1) := by decide +kernel
theorem dX11_tall_18 : decode cX11_tall 18 = .ok (.iconst 1, 1) := by decide +kernel
theorem dX11_tall_19 : decode cX11_tall 19 = .ok (.iand, 1) := by decide +kernel
theorem dX11_tall_20 : decode cX11_tall 20 = .ok (.aload_n 0, 1) := by decide +kernel
theorem dX11_tall_21 : decode cX11_tall 21 = .ok (.iload_n 3, 1) := by decide +kernel
theorem dX11_tall_22 : decode cX11_tall 22 = .ok (.iconst 2, 1) := by decide +kernel
theorem dX11_tall_23 : decode cX11_tall 23 = .ok (.invokevirtual 91, 3) := by decide +kernel
theorem dX11_tall_26 : decode cX11_tall 26 = .ok (.imul, 1) := by decide +kernel
theorem dX11_tall_27 : decode cX11_tall 27 = .ok (.iadd, 1) := by decide +kernel
theorem dX11_tall_28 : decode cX11_tall 28 = .ok (.istore_n 2, 1) := by decide +kernel
theorem dX11_tall_29 : decode cX11_tall 29 = .ok (.iinc 3 1, 3) := by decide +kernel
theorem dX11_tall_32 : decode cX11_tall 32 = .ok (.goto (-28), 3) := by decide +kernel
theorem dX11_tall_35 : decode cX11_tall 35 = .ok (.iload_n 2, 1) := by decide +kernel
theorem dX11_tall_36 : decode cX11_tall 36 = .ok (.ireturn, 1) := by decide +kernel
set_option maxRecDepth 20000 in
theorem ggX11_costs_X11_breaks : GoodIn wsX11_costs wsX11_breaks := goodIn_ca (goodIn_r _ [6, 1, 7, 8, 9, 10, 11, 5, 12, 13, 14, 15, 16, 17, 18, 19, 20, 21, 22, 23, 24, 25, 26, 27, 28, 29, 30, 31, 32, 33, 34, 35] (by decide +kernel) (by decide +kernel)) (goodIn_sub (fun _ h => List.mem_cons_of_mem _ (List.mem_append_right _ h)) (by decide +kernel))
set_option maxRecDepth 20000 in
theorem gX11_costs_X11_breaks : GoodIn wsX11_costs (wsV RX11 101 RX11 yX11_breaks wsX11_breaks) := goodIn_app (goodIn_of _ (by decide +kernel)) ggX11_costs_X11_breaks
theorem dX11_costs_0 : decode cX11_costs 0 = .ok (.aload_n 0, 1) := by decide +kernel
theorem dX11_costs_1 : decode cX11_costs 1 = .ok (.invokevirtual 101, 3) := by decide +kernel
theorem dX11_costs_4 : decode cX11_costs 4 = .ok (.ifCond .ge 7, 3) := by decide +kernel
theorem dX11_costs_7 : decode cX11_costs 7 = .ok (.iconst 0, 1) := by decide +kernel
theorem dX11_costs_8 : decode cX11_costs 8 = .ok (.goto 17, 3) := by decide +kernel
theorem dX11_costs_11 : decode cX11_costs 11 = .ok (.bipush 10, 2) := by decide +kernel
theorem dX11_costs_13 : decode cX11_costs 13 = .ok (.aload_n 0, 1) := by decide +kernel
theorem dX11_costs_14 : decode cX11_costs 14 = .ok (.getfield 95, 3) := by decide +kernel
theorem dX11_costs_17 : decode cX11_costs 17 = .ok (.iconst 1, 1) := by decide +kernel
theorem dX11_costs_18 : decode cX11_costs 18 = .ok (.isub, 1) := by decide +kernel
theorem dX11_costs_19 : decode cX11_costs 19 = .ok (.aload_n 0, 1) := by decide +kernel
theorem dX11_costs_20 : decode cX11_costs 20 = .ok (.invokevirtual 101, 3) := by decide +kernel
theorem dX11_costs_23 : decode cX11_costs 23 = .ok (.isub, 1) := by decide +kernel
theorem dX11_costs_24 : decode cX11_costs 24 = .ok (.imul, 1) := by decide +kernel
theorem dX11_costs_25 : decode cX11_costs 25 = .ok (.ireturn, 1) := by decide +kernel
set_option maxRecDepth 20000 in
theorem ggX11_isWrong_X11_isSet : GoodIn wsX11_isWrong wsX11_isSet := goodIn_ca (goodIn_r _ [5, 6, 27, 28, 29, 30, 31, 32, 33, 34, 35, 36, 37, 38, 39, 40, 41, 42, 43, 44, 45, 46, 47, 48] (by decide +kernel) (by decide +kernel)) (goodIn_sub (fun _ h => List.mem_cons_of_mem _ (List.mem_append_right _ h)) (by decide +kernel))
set_option maxRecDepth 20000 in
theorem gX11_isWrong_X11_isSet : GoodIn wsX11_isWrong (wsV RX11 105 RX11 yX11_isSet wsX11_isSet) := goodIn_app (goodIn_of _ (by decide +kernel)) ggX11_isWrong_X11_isSet
set_option maxRecDepth 20000 in
theorem ggX11_isWrong_X11_fails : GoodIn wsX11_isWrong wsX11_fails := goodIn_r _ [10, 11, 27, 28, 29, 30, 31, 32, 33, 34, 35, 36, 37, 38, 39, 40, 41, 42, 43, 44, 45, 46, 47, 48] (by decide +kernel) (by decide +kernel)
set_option maxRecDepth 20000 in
theorem gX11_isWrong_X11_fails : GoodIn wsX11_isWrong (wsV RX11 73 RX11 yX11_fails wsX11_fails) := goodIn_app (goodIn_of _ (by decide +kernel)) ggX11_isWrong_X11_fails
set_option maxRecDepth 20000 in
theorem ggX11_isWrong_X11_lays : GoodIn wsX11_isWrong wsX11_lays := goodIn_ca (goodIn_r _ [15, 16, 6, 17, 18, 19, 20, 21, 4, 22, 23, 24, 25, 26, 27, 28, 29, 30, 31, 32, 33, 34, 35, 36, 37, 38, 39, 40, 41, 42, 43, 44, 45, 46, 47, 48] (by decide +kernel) (by decide +kernel)) (goodIn_sub (fun _ h => List.mem_cons_of_mem _ (List.mem_append_right _ h)) (by decide +kernel))
set_option maxRecDepth 20000 in
theorem gX11_isWrong_X11_lays : GoodIn wsX11_isWrong (wsV RX11 108 RX11 yX11_lays wsX11_lays) := goodIn_app (goodIn_of _ (by decide +kernel)) ggX11_isWrong_X11_lays
theorem dX11_isWrong_0 : decode cX11_isWrong 0 = .ok (.aload_n 0, 1) := by decide +kernel
theorem dX11_isWrong_1 : decode cX11_isWrong 1 = .ok (.aload_n 0, 1) := by decide +kernel
theorem dX11_isWrong_2 : decode cX11_isWrong 2 = .ok (.iload_n 1, 1) := by decide +kernel
theorem dX11_isWrong_3 : decode cX11_isWrong 3 = .ok (.invokevirtual 105, 3) := by decide +kernel
theorem dX11_isWrong_6 : decode cX11_isWrong 6 = .ok (.ifCond .eq 7, 3) := by decide +kernel
theorem dX11_isWrong_9 : decode cX11_isWrong 9 = .ok (.iconst 0, 1) := by decide +kernel
theorem dX11_isWrong_10 : decode cX11_isWrong 10 = .ok (.goto 4, 3) := by decide +kernel
theorem dX11_isWrong_13 : decode cX11_isWrong 13 = .ok (.iconst 1, 1) := by decide +kernel
theorem dX11_isWrong_14 : decode cX11_isWrong 14 = .ok (.invokevirtual 73, 3) := by decide +kernel
theorem dX11_isWrong_17 : decode cX11_isWrong 17 = .ok (.ifCond .eq 5, 3) := by decide +kernel
theorem dX11_isWrong_20 : decode cX11_isWrong 20 = .ok (.iconst 1, 1) := by decide +kernel
theorem dX11_isWrong_21 : decode cX11_isWrong 21 = .ok (.ireturn, 1) := by decide +kernel
theorem dX11_isWrong_22 : decode cX11_isWrong 22 = .ok (.aload_n 0, 1) := by decide +kernel
theorem dX11_isWrong_23 : decode cX11_isWrong 23 = .ok (.iload_n 1, 1) := by decide +kernel
theorem dX11_isWrong_24 : decode cX11_isWrong 24 = .ok (.invokevirtual 108, 3) := by decide +kernel
theorem dX11_isWrong_27 : decode cX11_isWrong 27 = .ok (.iconst 0, 1) := by decide +kernel
theorem dX11_isWrong_28 : decode cX11_isWrong 28 = .ok (.ireturn, 1) := by decide +kernel
set_option maxRecDepth 20000 in
theorem ggX11_areHurt_X11_of : GoodIn wsX11_areHurt wsX11_of := goodIn_ca (goodIn_r _ [6, 1, 7, 8, 9, 10, 11, 12, 13, 14, 15, 16, 17, 18, 19, 20, 21, 22, 23, 24, 25, 26, 27, 28] (by decide +kernel) (by decide +kernel)) (goodIn_sub (fun _ h => List.mem_cons_of_mem _ (List.mem_append_right _ h)) (by decide +kernel))
set_option maxRecDepth 20000 in
theorem gX11_areHurt_X11_of : GoodIn wsX11_areHurt (wsV RX11 91 RX11 yX11_of wsX11_of) := goodIn_app (goodIn_of _ (by decide +kernel)) ggX11_areHurt_X11_of
theorem dX11_areHurt_0 : decode cX11_areHurt 0 = .ok (.iconst 0, 1) := by decide +kernel
theorem dX11_areHurt_1 : decode cX11_areHurt 1 = .ok (.istore_n 2, 1) := by decide +kernel
theorem dX11_areHurt_2 : decode cX11_areHurt 2 = .ok (.iload_n 2, 1) := by decide +kernel
theorem dX11_areHurt_3 : decode cX11_areHurt 3 = .ok (.aload_n 0, 1) := by decide +kernel
theorem dX11_areHurt_4 : decode cX11_areHurt 4 = .ok (.getfield 7, 3) := by decide +kernel
theorem dX11_areHurt_7 : decode cX11_areHurt 7 = .ok (.iconst 0, 1) := by decide +kernel
theorem dX11_areHurt_8 : decode cX11_areHurt 8 = .ok (.iaload, 1) := by decide +kernel
theorem dX11_areHurt_9 : decode cX11_areHurt 9 = .ok (.if_icmp .ge 29, 3) := by decide +kernel
theorem dX11_areHurt_12 : decode cX11_areHurt 12 = .ok (.iload_n 1, 1) := by decide +kernel
theorem dX11_areHurt_13 : decode cX11_areHurt 13 = .ok (.iload_n 2, 1) := by decide +kernel
theorem dX11_areHurt_14 : decode cX11_areHurt 14 = .ok (.ishr, 1) := by decide +kernel
theorem dX11_areHurt_15 : decode cX11_areHurt 15 = .ok (.iconst 1, 1) := by decide +kernel
theorem dX11_areHurt_16 : decode cX11_areHurt 16 = .ok (.iand, 1) := by decide +kernel
theorem dX11_areHurt_17 : decode cX11_areHurt 17 = .ok (.iconst 1, 1) := by decide +kernel
theorem dX11_areHurt_18 : decode cX11_areHurt 18 = .ok (.if_icmp .ne 14, 3) := by decide +kernel
theorem dX11_areHurt_21 : decode cX11_areHurt 21 = .ok (.aload_n 0, 1) := by decide +kernel
theorem dX11_areHurt_22 : decode cX11_areHurt 22 = .ok (.iload_n 2, 1) := by decide +kernel
theorem dX11_areHurt_23 : decode cX11_areHurt 23 = .ok (.iconst 4, 1) := by decide +kernel
theorem dX11_areHurt_24 : decode cX11_areHurt 24 = .ok (.invokevirtual 91, 3) := by decide +kernel
theorem dX11_areHurt_27 : decode cX11_areHurt 27 = .ok (.ifCond .le 5, 3) := by decide +kernel
theorem dX11_areHurt_30 : decode cX11_areHurt 30 = .ok (.iconst 1, 1) := by decide +kernel
theorem dX11_areHurt_31 : decode cX11_areHurt 31 = .ok (.ireturn, 1) := by decide +kernel
theorem dX11_areHurt_32 : decode cX11_areHurt 32 = .ok (.iinc 2 1, 3) := by decide +kernel
theorem dX11_areHurt_35 : decode cX11_areHurt 35 = .ok (.goto (-33), 3) := by decide +kernel
theorem dX11_areHurt_38 : decode cX11_areHurt 38 = .ok (.iconst 0, 1) := by decide +kernel
theorem dX11_areHurt_39 : decode cX11_areHurt 39 = .ok (.ireturn, 1) := by decide +kernel
set_option maxRecDepth 20000 in
theorem ggX11_passes_X11_of : GoodIn wsX11_passes wsX11_of := goodIn_ca (goodIn_r _ [6, 1, 7, 8, 9, 10, 11, 12, 13, 14, 15, 16, 17, 18, 19, 20, 21, 22, 23, 24, 25, 26, 27, 28] (by decide +kernel) (by decide +kernel)) (goodIn_sub (fun _ h => List.mem_cons_of_mem _ (List.mem_append_right _ h)) (by decide +kernel))
set_option maxRecDepth 20000 in
theorem gX11_passes_X11_of : GoodIn wsX11_passes (wsV RX11 91 RX11 yX11_of wsX11_of) := goodIn_app (goodIn_of _ (by decide +kernel)) ggX11_passes_X11_of
theorem dX11_passes_0 : decode cX11_passes 0 = .ok (.iconst 0, 1) := by decide +kernel
theorem dX11_passes_1 : decode cX11_passes 1 = .ok (.istore_n 2, 1) := by decide +kernel
theorem dX11_passes_2 : decode cX11_passes 2 = .ok (.aload_n 0, 1) := by decide +kernel
theorem dX11_passes_3 : decode cX11_passes 3 = .ok (.getfield 7, 3) := by decide +kernel
theorem dX11_passes_6 : decode cX11_passes 6 = .ok (.iconst 1, 1) := by decide +kernel
theorem dX11_passes_7 : decode cX11_passes 7 = .ok (.dup2, 1) := by decide +kernel
theorem dX11_passes_8 : decode cX11_passes 8 = .ok (.iaload, 1) := by decide +kernel
theorem dX11_passes_9 : decode cX11_passes 9 = .ok (.iload_n 1, 1) := by decide +kernel
theorem dX11_passes_10 : decode cX11_passes 10 = .ok (.iadd, 1) := by decide +kernel
theorem dX11_passes_11 : decode cX11_passes 11 = .ok (.iastore, 1) := by decide +kernel
theorem dX11_passes_12 : decode cX11_passes 12 = .ok (.iconst 0, 1) := by decide +kernel
theorem dX11_passes_13 : decode cX11_passes 13 = .ok (.istore_n 3, 1) := by decide +kernel
theorem dX11_passes_14 : decode cX11_passes 14 = .ok (.iload_n 3, 1) := by decide +kernel
theorem dX11_passes_15 : decode cX11_passes 15 = .ok (.aload_n 0, 1) := by decide +kernel
theorem dX11_passes_16 : decode cX11_passes 16 = .ok (.getfield 7, 3) := by decide +kernel
theorem dX11_passes_19 : decode cX11_passes 19 = .ok (.iconst 0, 1) := by decide +kernel
theorem dX11_passes_20 : decode cX11_passes 20 = .ok (.iaload, 1) := by decide +kernel
theorem dX11_passes_21 : decode cX11_passes 21 = .ok (.if_icmp .ge 56, 3) := by decide +kernel
theorem dX11_passes_24 : decode cX11_passes 24 = .ok (.aload_n 0, 1) := by decide +kernel
theorem dX11_passes_25 : decode cX11_passes 25 = .ok (.iload_n 3, 1) := by decide +kernel
theorem dX11_passes_26 : decode cX11_passes 26 = .ok (.iconst 4, 1) := by decide +kernel
theorem dX11_passes_27 : decode cX11_passes 27 = .ok (.invokevirtual 91, 3) := by decide +kernel
theorem dX11_passes_30 : decode cX11_passes 30 = .ok (.iload_n 1, 1) := by decide +kernel
theorem dX11_passes_31 : decode cX11_passes 31 = .ok (.isub, 1) := by decide +kernel
theorem dX11_passes_32 : decode cX11_passes 32 = .ok (.istore 4, 2) := by decide +kernel
theorem dX11_passes_34 : decode cX11_passes 34 = .ok (.aload_n 0, 1) := by decide +kernel
theorem dX11_passes_35 : decode cX11_passes 35 = .ok (.getfield 7, 3) := by decide +kernel
theorem dX11_passes_38 : decode cX11_passes 38 = .ok (.bipush 6, 2) := by decide +kernel
theorem dX11_passes_40 : decode cX11_passes 40 = .ok (.iconst 5, 1) := by decide +kernel
theorem dX11_passes_41 : decode cX11_passes 41 = .ok (.iload_n 3, 1) := by decide +kernel
theorem dX11_passes_42 : decode cX11_passes 42 = .ok (.imul, 1) := by decide +kernel
theorem dX11_passes_43 : decode cX11_passes 43 = .ok (.iadd, 1) := by decide +kernel
theorem dX11_passes_44 : decode cX11_passes 44 = .ok (.iconst 4, 1) := by decide +kernel
theorem dX11_passes_45 : decode cX11_passes 45 = .ok (.iadd, 1) := by decide +kernel
theorem dX11_passes_46 : decode cX11_passes 46 = .ok (.iload 4, 2) := by decide +kernel
theorem dX11_passes_48 : decode cX11_passes 48 = .ok (.ifCond .le 8, 3) := by decide +kernel
theorem dX11_passes_51 : decode cX11_passes 51 = .ok (.iload 4, 2) := by decide +kernel
theorem dX11_passes_53 : decode cX11_passes 53 = .ok (.goto 4, 3) := by decide +kernel
theorem dX11_passes_56 : decode cX11_passes 56 = .ok (.iconst 0, 1) := by decide +kernel
theorem dX11_passes_57 : decode cX11_passes 57 = .ok (.iastore, 1) := by decide +kernel
theorem dX11_passes_58 : decode cX11_passes 58 = .ok (.iload_n 2, 1) := by decide +kernel
theorem dX11_passes_59 : decode cX11_passes 59 = .ok (.iload 4, 2) := by decide +kernel
theorem dX11_passes_61 : decode cX11_passes 61 = .ok (.ifCond .le 7, 3) := by decide +kernel
theorem dX11_passes_64 : decode cX11_passes 64 = .ok (.iconst 1, 1) := by decide +kernel
theorem dX11_passes_65 : decode cX11_passes 65 = .ok (.goto 4, 3) := by decide +kernel
theorem dX11_passes_68 : decode cX11_passes 68 = .ok (.iconst 0, 1) := by decide +kernel
theorem dX11_passes_69 : decode cX11_passes 69 = .ok (.iadd, 1) := by decide +kernel
theorem dX11_passes_70 : decode cX11_passes 70 = .ok (.istore_n 2, 1) := by decide +kernel
theorem dX11_passes_71 : decode cX11_passes 71 = .ok (.iinc 3 1, 3) := by decide +kernel
theorem dX11_passes_74 : decode cX11_passes 74 = .ok (.goto (-60), 3) := by decide +kernel
theorem dX11_passes_77 : decode cX11_passes 77 = .ok (.iload_n 2, 1) := by decide +kernel
theorem dX11_passes_78 : decode cX11_passes 78 = .ok (.ireturn, 1) := by decide +kernel
set_option maxRecDepth 20000 in
theorem ggX11_stands_X11_tall : GoodIn wsX11_stands wsX11_tall := goodIn_ca (goodIn_r _ [6, 1, 7, 8, 9, 5, 10, 15, 16, 17, 18, 19, 20, 21, 22, 23, 24, 25, 26, 27, 28, 29, 30, 31, 32, 33, 34, 35, 36] (by decide +kernel) (by decide +kernel)) (goodIn_sub (fun _ h => List.mem_cons_of_mem _ (List.mem_append_right _ h)) (by decide +kernel))
set_option maxRecDepth 20000 in
theorem gX11_stands_X11_tall : GoodIn wsX11_stands (wsV RX11 112 RX11 yX11_tall wsX11_tall) := goodIn_app (goodIn_of _ (by decide +kernel)) ggX11_stands_X11_tall
set_option maxRecDepth 20000 in
theorem ggX11_stands_X11_books : GoodIn wsX11_stands wsX11_books := goodIn_ca (goodIn_r _ [14, 1, 15, 16, 17, 18, 19, 20, 21, 22, 23, 24, 25, 26, 27, 28, 29, 30, 31, 32, 33, 34, 35, 36] (by decide +kernel) (by decide +kernel)) (goodIn_sub (fun _ h => List.mem_cons_of_mem _ (List.mem_append_right _ h)) (by decide +kernel))
set_option maxRecDepth 20000 in
theorem gX11_stands_X11_books : GoodIn wsX11_stands (wsV RX11 87 RX11 yX11_books wsX11_books) := goodIn_app (goodIn_of _ (by decide +kernel)) ggX11_stands_X11_books
set_option maxRecDepth 20000 in
theorem ggX11_stands_X11_of : GoodIn wsX11_stands wsX11_of := goodIn_ca (goodIn_r _ [10, 1, 15, 16, 17, 18, 19, 20, 21, 22, 23, 24, 25, 26, 27, 28, 29, 30, 31, 32, 33, 34, 35, 36] (by decide +kernel) (by decide +kernel)) (goodIn_sub (fun _ h => List.mem_cons_of_mem _ (List.mem_append_right _ h)) (by decide +kernel))
set_option maxRecDepth 20000 in
theorem gX11_stands_X11_of : GoodIn wsX11_stands (wsV RX11 91 RX11 yX11_of wsX11_of) := goodIn_app (goodIn_of _ (by decide +kernel)) ggX11_stands_X11_of
theorem dX11_stands_0 : decode cX11_stands 0 = .ok (.aload_n 0, 1) := by decide +kernel
theorem dX11_stands_1 : decode cX11_stands 1 = .ok (.iload_n 1, 1) := by decide +kernel
theorem dX11_stands_2 : decode cX11_stands 2 = .ok (.invokevirtual 112, 3) := by decide +kernel
theorem dX11_stands_5 : decode cX11_stands 5 = .ok (.bipush 10, 2) := by decide +kernel
theorem dX11_stands_7 : decode cX11_stands 7 = .ok (.idiv, 1) := by decide +kernel
theorem dX11_stands_8 : decode cX11_stands 8 = .ok (.istore_n 2, 1) := by decide +kernel
theorem dX11_stands_9 : decode cX11_stands 9 = .ok (.aload_n 0, 1) := by decide +kernel
theorem dX11_stands_10 : decode cX11_stands 10 = .ok (.iconst 0, 1) := by decide +kernel
theorem dX11_stands_11 : decode cX11_stands 11 = .ok (.iconst 2, 1) := by decide +kernel
theorem dX11_stands_12 : decode cX11_stands 12 = .ok (.iload_n 2, 1) := by decide +kernel
theorem dX11_stands_13 : decode cX11_stands 13 = .ok (.invokevirtual 87, 3) := by decide +kernel
theorem dX11_stands_16 : decode cX11_stands 16 = .ok (.iconst 0, 1) := by decide +kernel
theorem dX11_stands_17 : decode cX11_stands 17 = .ok (.istore_n 3, 1) := by decide +kernel
theorem dX11_stands_18 : decode cX11_stands 18 = .ok (.iload_n 3, 1) := by decide +kernel
theorem dX11_stands_19 : decode cX11_stands 19 = .ok (.aload_n 0, 1) := by decide +kernel
theorem dX11_stands_20 : decode cX11_stands 20 = .ok (.getfield 7, 3) := by decide +kernel
theorem dX11_stands_23 : decode cX11_stands 23 = .ok (.iconst 0, 1) := by decide +kernel
theorem dX11_stands_24 : decode cX11_stands 24 = .ok (.iaload, 1) := by decide +kernel
theorem dX11_stands_25 : decode cX11_stands 25 = .ok (.if_icmp .ge 32, 3) := by decide +kernel
theorem dX11_stands_28 : decode cX11_stands 28 = .ok (.iload_n 1, 1) := by decide +kernel
theorem dX11_stands_29 : decode cX11_stands 29 = .ok (.iload_n 3, 1) := by decide +kernel
theorem dX11_stands_30 : decode cX11_stands 30 = .ok (.ishr, 1) := by decide +kernel
theorem dX11_stands_31 : decode cX11_stands 31 = .ok (.iconst 1, 1) := by decide +kernel
theorem dX11_stands_32 : decode cX11_stands 32 = .ok (.iand, 1) := by decide +kernel
theorem dX11_stands_33 : decode cX11_stands 33 = .ok (.iconst 1, 1) := by decide +kernel
theorem dX11_stands_34 : decode cX11_stands 34 = .ok (.if_icmp .ne 17, 3) := by decide +kernel
theorem dX11_stands_37 : decode cX11_stands 37 = .ok (.aload_n 0, 1) := by decide +kernel
theorem dX11_stands_38 : decode cX11_stands 38 = .ok (.iconst 4, 1) := by decide +kernel
theorem dX11_stands_39 : decode cX11_stands 39 = .ok (.iconst 5, 1) := by decide +kernel
theorem dX11_stands_40 : decode cX11_stands 40 = .ok (.iload_n 3, 1) := by decide +kernel
theorem dX11_stands_41 : decode cX11_stands 41 = .ok (.iadd, 1) := by decide +kernel
theorem dX11_stands_42 : decode cX11_stands 42 = .ok (.aload_n 0, 1) := by decide +kernel
theorem dX11_stands_43 : decode cX11_stands 43 = .ok (.iload_n 3, 1) := by decide +kernel
theorem dX11_stands_44 : decode cX11_stands 44 = .ok (.iconst 3, 1) := by decide +kernel
theorem dX11_stands_45 : decode cX11_stands 45 = .ok (.invokevirtual 91, 3) := by decide +kernel
theorem dX11_stands_48 : decode cX11_stands 48 = .ok (.invokevirtual 87, 3) := by decide +kernel
theorem dX11_stands_51 : decode cX11_stands 51 = .ok (.iinc 3 1, 3) := by decide +kernel
theorem dX11_stands_54 : decode cX11_stands 54 = .ok (.goto (-36), 3) := by decide +kernel
theorem dX11_stands_57 : decode cX11_stands 57 = .ok (.iload_n 2, 1) := by decide +kernel
theorem dX11_stands_58 : decode cX11_stands 58 = .ok (.ireturn, 1) := by decide +kernel
set_option maxRecDepth 20000 in
theorem ggX11_falls_X11_costs : GoodIn wsX11_falls wsX11_costs := goodIn_ca (goodIn_r _ [8, 2, 9, 10, 11, 7, 12, 13, 3, 14, 15, 16, 17, 1, 25, 26, 27, 28, 29, 30, 31, 32, 33, 34, 35, 36, 37, 38, 39, 40, 41, 42, 43, 44, 45, 46] (by decide +kernel) (by decide +kernel)) (goodIn_sub (fun _ h => List.mem_cons_of_mem _ (List.mem_append_right _ h)) (by decide +kernel))
set_option maxRecDepth 20000 in
theorem gX11_falls_X11_costs : GoodIn wsX11_falls (wsV RX11 116 RX11 yX11_costs wsX11_costs) := goodIn_app (goodIn_of _ (by decide +kernel)) ggX11_falls_X11_costs
set_option maxRecDepth 20000 in
theorem ggX11_falls_X11_breaks : GoodIn wsX11_falls wsX11_breaks := goodIn_ca (goodIn_r _ [12, 2, 13, 3, 14, 15, 16, 7, 17, 1, 25, 26, 27, 28, 29, 30, 31, 32, 33, 34, 35, 36, 37, 38, 39, 40, 41, 42, 43, 44, 45, 46] (by decide +kernel) (by decide +kernel)) (goodIn_sub (fun _ h => List.mem_cons_of_mem _ (List.mem_append_right _ h)) (by decide +kernel))
set_option maxRecDepth 20000 in
theorem gX11_falls_X11_breaks : GoodIn wsX11_falls (wsV RX11 101 RX11 yX11_breaks wsX11_breaks) := goodIn_app (goodIn_of _ (by decide +kernel)) ggX11_falls_X11_breaks
set_option maxRecDepth 20000 in
theorem ggX11_falls_X11_least : GoodIn wsX11_falls wsX11_least := goodIn_r _ [20] (by decide +kernel) (by decide +kernel)
set_option maxRecDepth 20000 in
theorem gX11_falls_X11_least : GoodIn wsX11_falls (va_wsS RX11 119 yX11_least wsX11_least) := goodIn_app (goodIn_of _ (by decide +kernel)) ggX11_falls_X11_least
set_option maxRecDepth 20000 in
theorem ggX11_falls_X11_books : GoodIn wsX11_falls wsX11_books := goodIn_ca (goodIn_r _ [24, 1, 25, 26, 27, 28, 29, 30, 31, 32, 33, 34, 35, 36, 37, 38, 39, 40, 41, 42, 43, 44, 45, 46] (by decide +kernel) (by decide +kernel)) (goodIn_sub (fun _ h => List.mem_cons_of_mem _ (List.mem_append_right _ h)) (by decide +kernel))
set_option maxRecDepth 20000 in
theorem gX11_falls_X11_books : GoodIn wsX11_falls (wsV RX11 87 RX11 yX11_books wsX11_books) := goodIn_app (goodIn_of _ (by decide +kernel)) ggX11_falls_X11_books
theorem dX11_falls_0 : decode cX11_falls 0 = .ok (.aload_n 0, 1) := by decide +kernel
theorem dX11_falls_1 : decode cX11_falls 1 = .ok (.invokevirtual 116, 3) := by decide +kernel
theorem dX11_falls_4 : decode cX11_falls 4 = .ok (.istore_n 1, 1) := by decide +kernel
theorem dX11_falls_5 : decode cX11_falls 5 = .ok (.aload_n 0, 1) := by decide +kernel
theorem dX11_falls_6 : decode cX11_falls 6 = .ok (.invokevirtual 101, 3) := by decide +kernel
theorem dX11_falls_9 : decode cX11_falls 9 = .ok (.istore_n 2, 1) := by decide +kernel
theorem dX11_falls_10 : decode cX11_falls 10 = .ok (.iload_n 1, 1) := by decide +kernel
theorem dX11_falls_11 : decode cX11_falls 11 = .ok (.aload_n 0, 1) := by decide +kernel
theorem dX11_falls_12 : decode cX11_falls 12 = .ok (.getfield 7, 3) := by decide +kernel
theorem dX11_falls_15 : decode cX11_falls 15 = .ok (.bipush 37, 2) := by decide +kernel
theorem dX11_falls_17 : decode cX11_falls 17 = .ok (.iaload, 1) := by decide +kernel
theorem dX11_falls_18 : decode cX11_falls 18 = .ok (.invokestatic 119, 3) := by decide +kernel
theorem dX11_falls_21 : decode cX11_falls 21 = .ok (.istore_n 3, 1) := by decide +kernel
theorem dX11_falls_22 : decode cX11_falls 22 = .ok (.aload_n 0, 1) := by decide +kernel
theorem dX11_falls_23 : decode cX11_falls 23 = .ok (.iconst 3, 1) := by decide +kernel
theorem dX11_falls_24 : decode cX11_falls 24 = .ok (.iconst 1, 1) := by decide +kernel
theorem dX11_falls_25 : decode cX11_falls 25 = .ok (.iload_n 3, 1) := by decide +kernel
theorem dX11_falls_26 : decode cX11_falls 26 = .ok (.invokevirtual 87, 3) := by decide +kernel
theorem dX11_falls_29 : decode cX11_falls 29 = .ok (.aload_n 0, 1) := by decide +kernel
theorem dX11_falls_30 : decode cX11_falls 30 = .ok (.iconst 3, 1) := by decide +kernel
theorem dX11_falls_31 : decode cX11_falls 31 = .ok (.iconst 0, 1) := by decide +kernel
theorem dX11_falls_32 : decode cX11_falls 32 = .ok (.iload_n 1, 1) := by decide +kernel
theorem dX11_falls_33 : decode cX11_falls 33 = .ok (.iload_n 3, 1) := by decide +kernel
theorem dX11_falls_34 : decode cX11_falls 34 = .ok (.isub, 1) := by decide +kernel
theorem dX11_falls_35 : decode cX11_falls 35 = .ok (.aload_n 0, 1) := by decide +kernel
theorem dX11_falls_36 : decode cX11_falls 36 = .ok (.getfield 7, 3) := by decide +kernel
theorem dX11_falls_39 : decode cX11_falls 39 = .ok (.bipush 36, 2) := by decide +kernel
theorem dX11_falls_41 : decode cX11_falls 41 = .ok (.iaload, 1) := by decide +kernel
theorem dX11_falls_42 : decode cX11_falls 42 = .ok (.invokestatic 119, 3) := by decide +kernel
theorem dX11_falls_45 : decode cX11_falls 45 = .ok (.invokevirtual 87, 3) := by decide +kernel
theorem dX11_falls_48 : decode cX11_falls 48 = .ok (.iload_n 2, 1) := by decide +kernel
theorem dX11_falls_49 : decode cX11_falls 49 = .ok (.iconst 1, 1) := by decide +kernel
theorem dX11_falls_50 : decode cX11_falls 50 = .ok (.iadd, 1) := by decide +kernel
theorem dX11_falls_51 : decode cX11_falls 51 = .ok (.istore 4, 2) := by decide +kernel
theorem dX11_falls_53 : decode cX11_falls 53 = .ok (.iload 4, 2) := by decide +kernel
theorem dX11_falls_55 : decode cX11_falls 55 = .ok (.aload_n 0, 1) := by decide +kernel
theorem dX11_falls_56 : decode cX11_falls 56 = .ok (.getfield 95, 3) := by decide +kernel
theorem dX11_falls_59 : decode cX11_falls 59 = .ok (.if_icmp .ge 42, 3) := by decide +kernel
theorem dX11_falls_62 : decode cX11_falls 62 = .ok (.iload 4, 2) := by decide +kernel
theorem dX11_falls_64 : decode cX11_falls 64 = .ok (.iload_n 2, 1) := by decide +kernel
theorem dX11_falls_65 : decode cX11_falls 65 = .ok (.isub, 1) := by decide +kernel
theorem dX11_falls_66 : decode cX11_falls 66 = .ok (.aload_n 0, 1) := by decide +kernel
theorem dX11_falls_67 : decode cX11_falls 67 = .ok (.getfield 7, 3) := by decide +kernel
theorem dX11_falls_70 : decode cX11_falls 70 = .ok (.iconst 2, 1) := by decide +kernel
theorem dX11_falls_71 : decode cX11_falls 71 = .ok (.iaload, 1) := by decide +kernel
theorem dX11_falls_72 : decode cX11_falls 72 = .ok (.if_icmp .le 23, 3) := by decide +kernel
theorem dX11_falls_75 : decode cX11_falls 75 = .ok (.aload_n 0, 1) := by decide +kernel
theorem dX11_falls_76 : decode cX11_falls 76 = .ok (.getfield 7, 3) := by decide +kernel
theorem dX11_falls_79 : decode cX11_falls 79 = .ok (.bipush 6, 2) := by decide +kernel
theorem dX11_falls_81 : decode cX11_falls 81 = .ok (.iconst 5, 1) := by decide +kernel
theorem dX11_falls_82 : decode cX11_falls 82 = .ok (.aload_n 0, 1) := by decide +kernel
theorem dX11_falls_83 : decode cX11_falls 83 = .ok (.getfield 36, 3) := by decide +kernel
theorem dX11_falls_86 : decode cX11_falls 86 = .ok (.iload 4, 2) := by decide +kernel
theorem dX11_falls_88 : decode cX11_falls 88 = .ok (.iaload, 1) := by decide +kernel
theorem dX11_falls_89 : decode cX11_falls 89 = .ok (.imul, 1) := by decide +kernel
theorem dX11_falls_90 : decode cX11_falls 90 = .ok (.iadd, 1) := by decide +kernel
theorem dX11_falls_91 : decode cX11_falls 91 = .ok (.iconst 4, 1) := by decide +kernel
theorem dX11_falls_92 : decode cX11_falls 92 = .ok (.iadd, 1) := by decide +kernel
theorem dX11_falls_93 : decode cX11_falls 93 = .ok (.iconst 3, 1) := by decide +kernel
theorem dX11_falls_94 : decode cX11_falls 94 = .ok (.iastore, 1) := by decide +kernel
theorem dX11_falls_95 : decode cX11_falls 95 = .ok (.iinc 4 1, 3) := by decide +kernel
theorem dX11_falls_98 : decode cX11_falls 98 = .ok (.goto (-45), 3) := by decide +kernel
theorem dX11_falls_101 : decode cX11_falls 101 = .ok (.aload_n 0, 1) := by decide +kernel
theorem dX11_falls_102 : decode cX11_falls 102 = .ok (.getfield 7, 3) := by decide +kernel
theorem dX11_falls_105 : decode cX11_falls 105 = .ok (.iconst 5, 1) := by decide +kernel
theorem dX11_falls_106 : decode cX11_falls 106 = .ok (.dup2, 1) := by decide +kernel
theorem dX11_falls_107 : decode cX11_falls 107 = .ok (.iaload, 1) := by decide +kernel
theorem dX11_falls_108 : decode cX11_falls 108 = .ok (.aload_n 0, 1) := by decide +kernel
theorem dX11_falls_109 : decode cX11_falls 109 = .ok (.getfield 95, 3) := by decide +kernel
theorem dX11_falls_112 : decode cX11_falls 112 = .ok (.iconst 1, 1) := by decide +kernel
theorem dX11_falls_113 : decode cX11_falls 113 = .ok (.isub, 1) := by decide +kernel
theorem dX11_falls_114 : decode cX11_falls 114 = .ok (.iload_n 2, 1) := by decide +kernel
theorem dX11_falls_115 : decode cX11_falls 115 = .ok (.isub, 1) := by decide +kernel
theorem dX11_falls_116 : decode cX11_falls 116 = .ok (.iadd, 1) := by decide +kernel
theorem dX11_falls_117 : decode cX11_falls 117 = .ok (.iastore, 1) := by decide +kernel
theorem dX11_falls_118 : decode cX11_falls 118 = .ok (.iload_n 1, 1) := by decide +kernel
theorem dX11_falls_119 : decode cX11_falls 119 = .ok (.ineg, 1) := by decide +kernel
theorem dX11_falls_120 : decode cX11_falls 120 = .ok (.ireturn, 1) := by decide +kernel
set_option maxRecDepth 20000 in
theorem ggX11_entriesOf_X11_breaks : GoodIn wsX11_entriesOf wsX11_breaks := goodIn_ca (goodIn_r _ [7, 1, 8, 9, 10, 11, 12, 6, 13, 2, 21, 22, 23, 24, 25, 26, 27, 28, 29, 30, 31, 32, 33, 34, 35, 36, 37, 38, 39, 40, 41, 42] (by decide +kernel) (by decide +kernel)) (goodIn_sub (fun _ h => List.mem_cons_of_mem _ (List.mem_append_right _ h)) (by decide +kernel))
set_option maxRecDepth 20000 in
theorem gX11_entriesOf_X11_breaks : GoodIn wsX11_entriesOf (wsV RX11 101 RX11 yX11_breaks wsX11_breaks) := goodIn_app (goodIn_of _ (by decide +kernel)) ggX11_entriesOf_X11_breaks
set_option maxRecDepth 20000 in
theorem ggX11_entriesOf_X11_costs : GoodIn wsX11_entriesOf wsX11_costs := goodIn_ca (goodIn_r _ [17, 1, 3, 4, 5, 6, 7, 8, 9, 10, 11, 12, 13, 2, 21, 22, 23, 24, 25, 26, 27, 28, 29, 30, 31, 32, 33, 34, 35, 36, 37, 38, 39, 40, 41, 42] (by decide +kernel) (by decide +kernel)) (goodIn_sub (fun _ h => List.mem_cons_of_mem _ (List.mem_append_right _ h)) (by decide +kernel))
set_option maxRecDepth 20000 in
theorem gX11_entriesOf_X11_costs : GoodIn wsX11_entriesOf (wsV RX11 116 RX11 yX11_costs wsX11_costs) := goodIn_app (goodIn_of _ (by decide +kernel)) ggX11_entriesOf_X11_costs
set_option maxRecDepth 20000 in
theorem ggX11_entriesOf_X11_least : GoodIn wsX11_entriesOf wsX11_least := goodIn_r _ [20] (by decide +kernel) (by decide +kernel)
set_option maxRecDepth 20000 in
theorem gX11_entriesOf_X11_least : GoodIn wsX11_entriesOf (va_wsS RX11 119 yX11_least wsX11_least) := goodIn_app (goodIn_of _ (by decide +kernel)) ggX11_entriesOf_X11_least
theorem dX11_entriesOf_0 : decode cX11_entriesOf 0 = .ok (.aload_n 0, 1) := by decide +kernel
theorem dX11_entriesOf_1 : decode cX11_entriesOf 1 = .ok (.invokevirtual 101, 3) := by decide +kernel
theorem dX11_entriesOf_4 : decode cX11_entriesOf 4 = .ok (.ifCond .ge 10, 3) := by decide +kernel
theorem dX11_entriesOf_7 : decode cX11_entriesOf 7 = .ok (.aload_n 0, 1) := by decide +kernel
theorem dX11_entriesOf_8 : decode cX11_entriesOf 8 = .ok (.getfield 95, 3) := by decide +kernel
theorem dX11_entriesOf_11 : decode cX11_entriesOf 11 = .ok (.iconst 1, 1) := by decide +kernel
theorem dX11_entriesOf_12 : decode cX11_entriesOf 12 = .ok (.iadd, 1) := by decide +kernel
theorem dX11_entriesOf_13 : decode cX11_entriesOf 13 = .ok (.ireturn, 1) := by decide +kernel
theorem dX11_entriesOf_14 : decode cX11_entriesOf 14 = .ok (.aload_n 0, 1) := by decide +kernel
theorem dX11_entriesOf_15 : decode cX11_entriesOf 15 = .ok (.invokevirtual 116, 3) := by decide +kernel
theorem dX11_entriesOf_18 : decode cX11_entriesOf 18 = .ok (.aload_n 0, 1) := by decide +kernel
theorem dX11_entriesOf_19 : decode cX11_entriesOf 19 = .ok (.getfield 7, 3) := by decide +kernel
theorem dX11_entriesOf_22 : decode cX11_entriesOf 22 = .ok (.bipush 37, 2) := by decide +kernel
theorem dX11_entriesOf_24 : decode cX11_entriesOf 24 = .ok (.iaload, 1) := by decide +kernel
theorem dX11_entriesOf_25 : decode cX11_entriesOf 25 = .ok (.invokestatic 119, 3) := by decide +kernel
theorem dX11_entriesOf_28 : decode cX11_entriesOf 28 = .ok (.istore_n 1, 1) := by decide +kernel
theorem dX11_entriesOf_29 : decode cX11_entriesOf 29 = .ok (.aload_n 0, 1) := by decide +kernel
theorem dX11_entriesOf_30 : decode cX11_entriesOf 30 = .ok (.invokevirtual 116, 3) := by decide +kernel
theorem dX11_entriesOf_33 : decode cX11_entriesOf 33 = .ok (.iload_n 1, 1) := by decide +kernel
theorem dX11_entriesOf_34 : decode cX11_entriesOf 34 = .ok (.isub, 1) := by decide +kernel
theorem dX11_entriesOf_35 : decode cX11_entriesOf 35 = .ok (.aload_n 0, 1) := by decide +kernel
theorem dX11_entriesOf_36 : decode cX11_entriesOf 36 = .ok (.getfield 7, 3) := by decide +kernel
theorem dX11_entriesOf_39 : decode cX11_entriesOf 39 = .ok (.bipush 36, 2) := by decide +kernel
theorem dX11_entriesOf_41 : decode cX11_entriesOf 41 = .ok (.iaload, 1) := by decide +kernel
theorem dX11_entriesOf_42 : decode cX11_entriesOf 42 = .ok (.invokestatic 119, 3) := by decide +kernel
theorem dX11_entriesOf_45 : decode cX11_entriesOf 45 = .ok (.istore_n 2, 1) := by decide +kernel
theorem dX11_entriesOf_46 : decode cX11_entriesOf 46 = .ok (.iload_n 1, 1) := by decide +kernel
theorem dX11_entriesOf_47 : decode cX11_entriesOf 47 = .ok (.ifCond .le 7, 3) := by decide +kernel
theorem dX11_entriesOf_50 : decode cX11_entriesOf 50 = .ok (.iconst 1, 1) := by decide +kernel
theorem dX11_entriesOf_51 : decode cX11_entriesOf 51 = .ok (.goto 4, 3) := by decide +kernel
theorem dX11_entriesOf_54 : decode cX11_entriesOf 54 = .ok (.iconst 0, 1) := by decide +kernel
theorem dX11_entriesOf_55 : decode cX11_entriesOf 55 = .ok (.iload_n 2, 1) := by decide +kernel
theorem dX11_entriesOf_56 : decode cX11_entriesOf 56 = .ok (.ifCond .le 7, 3) := by decide +kernel
theorem dX11_entriesOf_59 : decode cX11_entriesOf 59 = .ok (.iconst 1, 1) := by decide +kernel
theorem dX11_entriesOf_60 : decode cX11_entriesOf 60 = .ok (.goto 4, 3) := by decide +kernel
theorem dX11_entriesOf_63 : decode cX11_entriesOf 63 = .ok (.iconst 0, 1) := by decide +kernel
theorem dX11_entriesOf_64 : decode cX11_entriesOf 64 = .ok (.iadd, 1) := by decide +kernel
theorem dX11_entriesOf_65 : decode cX11_entriesOf 65 = .ok (.ireturn, 1) := by decide +kernel
set_option maxRecDepth 20000 in
theorem ggX11_show_X11_isWrong : GoodIn wsX11_show wsX11_isWrong := goodIn_ca (goodIn_r _ [6, 7, 8, 9, 5, 10, 1, 11, 12, 13, 14, 15, 16, 17, 18, 19, 20, 21, 22, 23, 24, 25, 26, 27, 28, 29, 30, 80, 81, 82, 83, 84, 85, 86, 87, 88, 89, 90, 91, 92, 93, 94, 95, 96, 97, 98, 99, 100, 101] (by decide +kernel) (by decide +kernel)) (goodIn_sub (fun _ h => List.mem_cons_of_mem _ (List.mem_append_right _ h)) (by decide +kernel))
set_option maxRecDepth 20000 in
theorem gX11_show_X11_isWrong : GoodIn wsX11_show (wsV RX11 122 RX11 yX11_isWrong wsX11_isWrong) := goodIn_app (goodIn_of _ (by decide +kernel)) ggX11_show_X11_isWrong
set_option maxRecDepth 20000 in
theorem ggX11_show_X11_areHurt : GoodIn wsX11_show wsX11_areHurt := goodIn_ca (goodIn_r _ [34, 1, 27, 28, 29, 5, 30, 80, 81, 82, 83, 84, 85, 86, 87, 88, 89, 90, 91, 92, 93, 94, 95, 96, 97, 98, 99, 100, 101] (by decide +kernel) (by decide +kernel)) (goodIn_sub (fun _ h => List.mem_cons_of_mem _ (List.mem_append_right _ h)) (by decide +kernel))
set_option maxRecDepth 20000 in
theorem gX11_show_X11_areHurt : GoodIn wsX11_show (wsV RX11 125 RX11 yX11_areHurt wsX11_areHurt) := goodIn_app (goodIn_of _ (by decide +kernel)) ggX11_show_X11_areHurt
set_option maxRecDepth 20000 in
theorem ggX11_show_X11_entriesOf : GoodIn wsX11_show wsX11_entriesOf := goodIn_ca (goodIn_r _ [38, 20, 1, 39, 40, 41, 5, 42, 22, 21, 27, 28, 29, 30, 43, 44, 45, 46, 47, 48, 49, 80, 81, 82, 83, 84, 85, 86, 87, 88, 89, 90, 91, 92, 93, 94, 95, 96, 97, 98, 99, 100, 101] (by decide +kernel) (by decide +kernel)) (goodIn_sub (fun _ h => List.mem_cons_of_mem _ (List.mem_append_right _ h)) (by decide +kernel))
set_option maxRecDepth 20000 in
theorem gX11_show_X11_entriesOf : GoodIn wsX11_show (wsV RX11 128 RX11 yX11_entriesOf wsX11_entriesOf) := goodIn_app (goodIn_of _ (by decide +kernel)) ggX11_show_X11_entriesOf
set_option maxRecDepth 20000 in
theorem ggX11_show_X11_fails : GoodIn wsX11_show wsX11_fails := goodIn_r _ [14, 15, 80, 81, 82, 83, 84, 85, 86, 87, 88, 89, 90, 91, 92, 93, 94, 95, 96, 97, 98, 99, 100, 101] (by decide +kernel) (by decide +kernel)
set_option maxRecDepth 20000 in
theorem gX11_show_X11_fails : GoodIn wsX11_show (wsV RX11 73 RX11 yX11_fails wsX11_fails) := goodIn_app (goodIn_of _ (by decide +kernel)) ggX11_show_X11_fails
set_option maxRecDepth 20000 in
theorem ggX11_show_X11_keeps : GoodIn wsX11_show wsX11_keeps := goodIn_ca (goodIn_r _ [53, 15, 54, 55, 56, 57, 58, 5, 59, 80, 81, 82, 83, 84, 85, 86, 87, 88, 89, 90, 91, 92, 93, 94, 95, 96, 97, 98, 99, 100, 101] (by decide +kernel) (by decide +kernel)) (goodIn_sub (fun _ h => List.mem_cons_of_mem _ (List.mem_append_right _ h)) (by decide +kernel))
set_option maxRecDepth 20000 in
theorem gX11_show_X11_keeps : GoodIn wsX11_show (wsV RX11 76 RX11 yX11_keeps wsX11_keeps) := goodIn_app (goodIn_of _ (by decide +kernel)) ggX11_show_X11_keeps
set_option maxRecDepth 20000 in
theorem ggX11_show_X11_breaks : GoodIn wsX11_show wsX11_breaks := goodIn_ca (goodIn_r _ [42, 20, 22, 21, 27, 28, 29, 5, 30, 1, 80, 81, 82, 83, 84, 85, 86, 87, 88, 89, 90, 91, 92, 93, 94, 95, 96, 97, 98, 99, 100, 101] (by decide +kernel) (by decide +kernel)) (goodIn_sub (fun _ h => List.mem_cons_of_mem _ (List.mem_append_right _ h)) (by decide +kernel))
set_option maxRecDepth 20000 in
theorem gX11_show_X11_breaks : GoodIn wsX11_show (wsV RX11 101 RX11 yX11_breaks wsX11_breaks) := goodIn_app (goodIn_of _ (by decide +kernel)) ggX11_show_X11_breaks
set_option maxRecDepth 20000 in
theorem ggX11_show_X11_stands : GoodIn wsX11_show wsX11_stands := goodIn_ca (goodIn_r _ [63, 1, 64, 65, 66, 5, 67, 27, 28, 29, 30, 68, 69, 70, 71, 80, 81, 82, 83, 84, 85, 86, 87, 88, 89, 90, 91, 92, 93, 94, 95, 96, 97, 98, 99, 100, 101] (by decide +kernel) (by decide +kernel)) (goodIn_sub (fun _ h => List.mem_cons_of_mem _ (List.mem_append_right _ h)) (by decide +kernel))
set_option maxRecDepth 20000 in
theorem gX11_show_X11_stands : GoodIn wsX11_show (wsV RX11 131 RX11 yX11_stands wsX11_stands) := goodIn_app (goodIn_of _ (by decide +kernel)) ggX11_show_X11_stands
set_option maxRecDepth 20000 in
theorem ggX11_show_X11_falls : GoodIn wsX11_show wsX11_falls := goodIn_ca (goodIn_r _ [75, 1, 20, 21, 43, 44, 45, 5, 46, 39, 40, 41, 42, 22, 27, 28, 29, 30, 47, 48, 49, 68, 69, 70, 71, 80, 81, 82, 83, 84, 85, 86, 87, 88, 89, 90, 91, 92, 93, 94, 95, 96, 97, 98, 99, 100, 101] (by decide +kernel) (by decide +kernel)) (goodIn_sub (fun _ h => List.mem_cons_of_mem _ (List.mem_append_right _ h)) (by decide +kernel))
set_option maxRecDepth 20000 in
theorem gX11_show_X11_falls : GoodIn wsX11_show (wsV RX11 134 RX11 yX11_falls wsX11_falls) := goodIn_app (goodIn_of _ (by decide +kernel)) ggX11_show_X11_falls
set_option maxRecDepth 20000 in
theorem ggX11_show_X11_passes : GoodIn wsX11_show wsX11_passes := goodIn_ca (goodIn_r _ [79, 1, 27, 28, 29, 5, 30, 80, 81, 82, 83, 84, 85, 86, 87, 88, 89, 90, 91, 92, 93, 94, 95, 96, 97, 98, 99, 100, 101] (by decide +kernel) (by decide +kernel)) (goodIn_sub (fun _ h => List.mem_cons_of_mem _ (List.mem_append_right _ h)) (by decide +kernel))
set_option maxRecDepth 20000 in
theorem gX11_show_X11_passes : GoodIn wsX11_show (wsV RX11 137 RX11 yX11_passes wsX11_passes) := goodIn_app (goodIn_of _ (by decide +kernel)) ggX11_show_X11_passes
theorem dX11_show_0 : decode cX11_show 0 = .ok (.aload_n 0, 1) := by decide +kernel
theorem dX11_show_1 : decode cX11_show 1 = .ok (.iload_n 1, 1) := by decide +kernel
theorem dX11_show_2 : decode cX11_show 2 = .ok (.invokevirtual 122, 3) := by decide +kernel
theorem dX11_show_5 : decode cX11_show 5 = .ok (.ifCond .ne 43, 3) := by decide +kernel
theorem dX11_show_8 : decode cX11_show 8 = .ok (.aload_n 0, 1) := by decide +kernel
theorem dX11_show_9 : decode cX11_show 9 = .ok (.aload_n 0, 1) := by decide +kernel
theorem dX11_show_10 : decode cX11_show 10 = .ok (.iload_n 1, 1) := by decide +kernel
theorem dX11_show_11 : decode cX11_show 11 = .ok (.invokevirtual 125, 3) := by decide +kernel
theorem dX11_show_14 : decode cX11_show 14 = .ok (.ifCond .eq 7, 3) := by decide +kernel
theorem dX11_show_17 : decode cX11_show 17 = .ok (.iconst 2, 1) := by decide +kernel
theorem dX11_show_18 : decode cX11_show 18 = .ok (.goto 24, 3) := by decide +kernel
theorem dX11_show_21 : decode cX11_show 21 = .ok (.aload_n 0, 1) := by decide +kernel
theorem dX11_show_22 : decode cX11_show 22 = .ok (.getfield 7, 3) := by decide +kernel
theorem dX11_show_25 : decode cX11_show 25 = .ok (.iconst 3, 1) := by decide +kernel
theorem dX11_show_26 : decode cX11_show 26 = .ok (.iaload, 1) := by decide +kernel
theorem dX11_show_27 : decode cX11_show 27 = .ok (.aload_n 0, 1) := by decide +kernel
theorem dX11_show_28 : decode cX11_show 28 = .ok (.invokevirtual 128, 3) := by decide +kernel
theorem dX11_show_31 : decode cX11_show 31 = .ok (.iadd, 1) := by decide +kernel
theorem dX11_show_32 : decode cX11_show 32 = .ok (.bipush 60, 2) := by decide +kernel
theorem dX11_show_34 : decode cX11_show 34 = .ok (.if_icmp .le 7, 3) := by decide +kernel
theorem dX11_show_37 : decode cX11_show 37 = .ok (.iconst 3, 1) := by decide +kernel
theorem dX11_show_38 : decode cX11_show 38 = .ok (.goto 4, 3) := by decide +kernel
theorem dX11_show_41 : decode cX11_show 41 = .ok (.iconst 0, 1) := by decide +kernel
theorem dX11_show_42 : decode cX11_show 42 = .ok (.invokevirtual 73, 3) := by decide +kernel
theorem dX11_show_45 : decode cX11_show 45 = .ok (.ifCond .eq 5, 3) := by decide +kernel
theorem dX11_show_48 : decode cX11_show 48 = .ok (.iconst 0, 1) := by decide +kernel
theorem dX11_show_49 : decode cX11_show 49 = .ok (.ireturn, 1) := by decide +kernel
theorem dX11_show_50 : decode cX11_show 50 = .ok (.aload_n 0, 1) := by decide +kernel
theorem dX11_show_51 : decode cX11_show 51 = .ok (.aload_n 0, 1) := by decide +kernel
theorem dX11_show_52 : decode cX11_show 52 = .ok (.getfield 7, 3) := by decide +kernel
theorem dX11_show_55 : decode cX11_show 55 = .ok (.invokevirtual 76, 3) := by decide +kernel
theorem dX11_show_58 : decode cX11_show 58 = .ok (.aload_n 0, 1) := by decide +kernel
theorem dX11_show_59 : decode cX11_show 59 = .ok (.invokevirtual 101, 3) := by decide +kernel
theorem dX11_show_62 : decode cX11_show 62 = .ok (.ifCond .ge 11, 3) := by decide +kernel
theorem dX11_show_65 : decode cX11_show 65 = .ok (.aload_n 0, 1) := by decide +kernel
theorem dX11_show_66 : decode cX11_show 66 = .ok (.iload_n 1, 1) := by decide +kernel
theorem dX11_show_67 : decode cX11_show 67 = .ok (.invokevirtual 131, 3) := by decide +kernel
theorem dX11_show_70 : decode cX11_show 70 = .ok (.goto 7, 3) := by decide +kernel
theorem dX11_show_73 : decode cX11_show 73 = .ok (.aload_n 0, 1) := by decide +kernel
theorem dX11_show_74 : decode cX11_show 74 = .ok (.invokevirtual 134, 3) := by decide +kernel
theorem dX11_show_77 : decode cX11_show 77 = .ok (.istore_n 2, 1) := by decide +kernel
theorem dX11_show_78 : decode cX11_show 78 = .ok (.aload_n 0, 1) := by decide +kernel
theorem dX11_show_79 : decode cX11_show 79 = .ok (.iconst 1, 1) := by decide +kernel
theorem dX11_show_80 : decode cX11_show 80 = .ok (.invokevirtual 137, 3) := by decide +kernel
theorem dX11_show_83 : decode cX11_show 83 = .ok (.istore_n 3, 1) := by decide +kernel
theorem dX11_show_84 : decode cX11_show 84 = .ok (.aload_n 0, 1) := by decide +kernel
theorem dX11_show_85 : decode cX11_show 85 = .ok (.getfield 7, 3) := by decide +kernel
theorem dX11_show_88 : decode cX11_show 88 = .ok (.iconst 4, 1) := by decide +kernel
theorem dX11_show_89 : decode cX11_show 89 = .ok (.dup2, 1) := by decide +kernel
theorem dX11_show_90 : decode cX11_show 90 = .ok (.iaload, 1) := by decide +kernel
theorem dX11_show_91 : decode cX11_show 91 = .ok (.iconst 1, 1) := by decide +kernel
theorem dX11_show_92 : decode cX11_show 92 = .ok (.iadd, 1) := by decide +kernel
theorem dX11_show_93 : decode cX11_show 93 = .ok (.iastore, 1) := by decide +kernel
theorem dX11_show_94 : decode cX11_show 94 = .ok (.iload_n 3, 1) := by decide +kernel
theorem dX11_show_95 : decode cX11_show 95 = .ok (.ifCond .ge 7, 3) := by decide +kernel
theorem dX11_show_98 : decode cX11_show 98 = .ok (.iconst 0, 1) := by decide +kernel
theorem dX11_show_99 : decode cX11_show 99 = .ok (.goto 4, 3) := by decide +kernel
theorem dX11_show_102 : decode cX11_show 102 = .ok (.iload_n 2, 1) := by decide +kernel
theorem dX11_show_103 : decode cX11_show 103 = .ok (.ireturn, 1) := by decide +kernel
set_option maxRecDepth 20000 in
theorem ggX11_setNet_X11_in : GoodIn wsX11_setNet wsX11_in := goodIn_r _ [5] (by decide +kernel) (by decide +kernel)
set_option maxRecDepth 20000 in
theorem gX11_setNet_X11_in : GoodIn wsX11_setNet (va_wsS RX11 65 yX11_in wsX11_in) := goodIn_app (goodIn_of _ (by decide +kernel)) ggX11_setNet_X11_in
set_option maxRecDepth 20000 in
theorem ggX11_setNet_X11_fails : GoodIn wsX11_setNet wsX11_fails := goodIn_r _ [9, 10, 21, 22, 23, 24, 25, 26, 27, 28, 29, 30, 31, 32, 33, 34, 35, 36, 37, 38, 39, 40, 41, 42] (by decide +kernel) (by decide +kernel)
set_option maxRecDepth 20000 in
theorem gX11_setNet_X11_fails : GoodIn wsX11_setNet (wsV RX11 73 RX11 yX11_fails wsX11_fails) := goodIn_app (goodIn_of _ (by decide +kernel)) ggX11_setNet_X11_fails
set_option maxRecDepth 20000 in
theorem ggX11_setNet_X11_keeps : GoodIn wsX11_setNet wsX11_keeps := goodIn_ca (goodIn_r _ [14, 10, 15, 16, 17, 18, 19, 4, 20, 21, 22, 23, 24, 25, 26, 27, 28, 29, 30, 31, 32, 33, 34, 35, 36, 37, 38, 39, 40, 41, 42] (by decide +kernel) (by decide +kernel)) (goodIn_sub (fun _ h => List.mem_cons_of_mem _ (List.mem_append_right _ h)) (by decide +kernel))
set_option maxRecDepth 20000 in
theorem gX11_setNet_X11_keeps : GoodIn wsX11_setNet (wsV RX11 76 RX11 yX11_keeps wsX11_keeps) := goodIn_app (goodIn_of _ (by decide +kernel)) ggX11_setNet_X11_keeps
theorem dX11_setNet_0 : decode cX11_setNet 0 = .ok (.aload_n 0, 1) := by decide +kernel
theorem dX11_setNet_1 : decode cX11_setNet 1 = .ok (.iload_n 1, 1) := by decide +kernel
theorem dX11_setNet_2 : decode cX11_setNet 2 = .ok (.iconst 0, 1) := by decide +kernel
theorem dX11_setNet_3 : decode cX11_setNet 3 = .ok (.iconst 5, 1) := by decide +kernel
theorem dX11_setNet_4 : decode cX11_setNet 4 = .ok (.invokestatic 65, 3) := by decide +kernel
theorem dX11_setNet_7 : decode cX11_setNet 7 = .ok (.ifCond .eq 7, 3) := by decide +kernel
theorem dX11_setNet_10 : decode cX11_setNet 10 = .ok (.iconst 0, 1) := by decide +kernel
theorem dX11_setNet_11 : decode cX11_setNet 11 = .ok (.goto 4, 3) := by decide +kernel
theorem dX11_setNet_14 : decode cX11_setNet 14 = .ok (.iconst 1, 1) := by decide +kernel
theorem dX11_setNet_15 : decode cX11_setNet 15 = .ok (.invokevirtual 73, 3) := by decide +kernel
theorem dX11_setNet_18 : decode cX11_setNet 18 = .ok (.ifCond .eq 5, 3) := by decide +kernel
theorem dX11_setNet_21 : decode cX11_setNet 21 = .ok (.iconst 0, 1) := by decide +kernel
theorem dX11_setNet_22 : decode cX11_setNet 22 = .ok (.ireturn, 1) := by decide +kernel
theorem dX11_setNet_23 : decode cX11_setNet 23 = .ok (.aload_n 0, 1) := by decide +kernel
theorem dX11_setNet_24 : decode cX11_setNet 24 = .ok (.getfield 7, 3) := by decide +kernel
theorem dX11_setNet_27 : decode cX11_setNet 27 = .ok (.iconst 2, 1) := by decide +kernel
theorem dX11_setNet_28 : decode cX11_setNet 28 = .ok (.iaload, 1) := by decide +kernel
theorem dX11_setNet_29 : decode cX11_setNet 29 = .ok (.istore_n 2, 1) := by decide +kernel
theorem dX11_setNet_30 : decode cX11_setNet 30 = .ok (.aload_n 0, 1) := by decide +kernel
theorem dX11_setNet_31 : decode cX11_setNet 31 = .ok (.aload_n 0, 1) := by decide +kernel
theorem dX11_setNet_32 : decode cX11_setNet 32 = .ok (.getfield 7, 3) := by decide +kernel
theorem dX11_setNet_35 : decode cX11_setNet 35 = .ok (.invokevirtual 76, 3) := by decide +kernel
theorem dX11_setNet_38 : decode cX11_setNet 38 = .ok (.aload_n 0, 1) := by decide +kernel
theorem dX11_setNet_39 : decode cX11_setNet 39 = .ok (.getfield 7, 3) := by decide +kernel
theorem dX11_setNet_42 : decode cX11_setNet 42 = .ok (.iconst 2, 1) := by decide +kernel
theorem dX11_setNet_43 : decode cX11_setNet 43 = .ok (.iload_n 1, 1) := by decide +kernel
theorem dX11_setNet_44 : decode cX11_setNet 44 = .ok (.iastore, 1) := by decide +kernel
theorem dX11_setNet_45 : decode cX11_setNet 45 = .ok (.iload_n 2, 1) := by decide +kernel
theorem dX11_setNet_46 : decode cX11_setNet 46 = .ok (.ireturn, 1) := by decide +kernel
set_option maxRecDepth 20000 in
theorem ggX11_passNights_X11_in : GoodIn wsX11_passNights wsX11_in := goodIn_r _ [5] (by decide +kernel) (by decide +kernel)
set_option maxRecDepth 20000 in
theorem gX11_passNights_X11_in : GoodIn wsX11_passNights (va_wsS RX11 65 yX11_in wsX11_in) := goodIn_app (goodIn_of _ (by decide +kernel)) ggX11_passNights_X11_in
set_option maxRecDepth 20000 in
theorem ggX11_passNights_X11_fails : GoodIn wsX11_passNights wsX11_fails := goodIn_r _ [9, 10, 29, 30, 31, 32, 33, 34, 35, 36, 37, 38, 39, 40, 41, 42, 43, 44, 45, 46, 47, 48, 49, 50] (by decide +kernel) (by decide +kernel)
set_option maxRecDepth 20000 in
theorem gX11_passNights_X11_fails : GoodIn wsX11_passNights (wsV RX11 73 RX11 yX11_fails wsX11_fails) := goodIn_app (goodIn_of _ (by decide +kernel)) ggX11_passNights_X11_fails
set_option maxRecDepth 20000 in
theorem ggX11_passNights_X11_keeps : GoodIn wsX11_passNights wsX11_keeps := goodIn_ca (goodIn_r _ [14, 10, 15, 16, 17, 18, 19, 4, 20, 29, 30, 31, 32, 33, 34, 35, 36, 37, 38, 39, 40, 41, 42, 43, 44, 45, 46, 47, 48, 49, 50] (by decide +kernel) (by decide +kernel)) (goodIn_sub (fun _ h => List.mem_cons_of_mem _ (List.mem_append_right _ h)) (by decide +kernel))
set_option maxRecDepth 20000 in
theorem gX11_passNights_X11_keeps : GoodIn wsX11_passNights (wsV RX11 76 RX11 yX11_keeps wsX11_keeps) := goodIn_app (goodIn_of _ (by decide +kernel)) ggX11_passNights_X11_keeps
set_option maxRecDepth 20000 in
theorem ggX11_passNights_X11_passes : GoodIn wsX11_passNights wsX11_passes := goodIn_ca (goodIn_r _ [24, 1, 25, 26, 27, 4, 28, 29, 30, 31, 32, 33, 34, 35, 36, 37, 38, 39, 40, 41, 42, 43, 44, 45, 46, 47, 48, 49, 50] (by decide +kernel) (by decide +kernel)) (goodIn_sub (fun _ h => List.mem_cons_of_mem _ (List.mem_append_right _ h)) (by decide +kernel))
set_option maxRecDepth 20000 in
theorem gX11_passNights_X11_passes : GoodIn wsX11_passNights (wsV RX11 137 RX11 yX11_passes wsX11_passes) := goodIn_app (goodIn_of _ (by decide +kernel)) ggX11_passNights_X11_passes
theorem dX11_passNights_0 : decode cX11_passNights 0 = .ok (.aload_n 0, 1) := by decide +kernel
theorem dX11_passNights_1 : decode cX11_passNights 1 = .ok (.iload_n 1, 1) := by decide +kernel
theorem dX11_passNights_2 : decode cX11_passNights 2 = .ok (.iconst 1, 1) := by decide +kernel
theorem dX11_passNights_3 : decode cX11_passNights 3 = .ok (.bipush 99, 2) := by decide +kernel
theorem dX11_passNights_5 : decode cX11_passNights 5 = .ok (.invokestatic 65, 3) := by decide +kernel
theorem dX11_passNights_8 : decode cX11_passNights 8 = .ok (.ifCond .eq 7, 3) := by decide +kernel
theorem dX11_passNights_11 : decode cX11_passNights 11 = .ok (.iconst 0, 1) := by decide +kernel
theorem dX11_passNights_12 : decode cX11_passNights 12 = .ok (.goto 4, 3) := by decide +kernel
theorem dX11_passNights_15 : decode cX11_passNights 15 = .ok (.iconst 1, 1) := by decide +kernel
theorem dX11_passNights_16 : decode cX11_passNights 16 = .ok (.invokevirtual 73, 3) := by decide +kernel
theorem dX11_passNights_19 : decode cX11_passNights 19 = .ok (.ifCond .eq 5, 3) := by decide +kernel
theorem dX11_passNights_22 : decode cX11_passNights 22 = .ok (.iconst 0, 1) := by decide +kernel
theorem dX11_passNights_23 : decode cX11_passNights 23 = .ok (.ireturn, 1) := by decide +kernel
theorem dX11_passNights_24 : decode cX11_passNights 24 = .ok (.aload_n 0, 1) := by decide +kernel
theorem dX11_passNights_25 : decode cX11_passNights 25 = .ok (.aload_n 0, 1) := by decide +kernel
theorem dX11_passNights_26 : decode cX11_passNights 26 = .ok (.getfield 7, 3) := by decide +kernel
theorem dX11_passNights_29 : decode cX11_passNights 29 = .ok (.invokevirtual 76, 3) := by decide +kernel
theorem dX11_passNights_32 : decode cX11_passNights 32 = .ok (.aload_n 0, 1) := by decide +kernel
theorem dX11_passNights_33 : decode cX11_passNights 33 = .ok (.iload_n 1, 1) := by decide +kernel
theorem dX11_passNights_34 : decode cX11_passNights 34 = .ok (.invokevirtual 137, 3) := by decide +kernel
theorem dX11_passNights_37 : decode cX11_passNights 37 = .ok (.ireturn, 1) := by decide +kernel
set_option maxRecDepth 20000 in
theorem ggX11_closeBooks_X11_keeps : GoodIn wsX11_closeBooks wsX11_keeps := goodIn_ca (goodIn_r _ [6, 7, 8, 9, 10, 11, 12, 5, 13, 14, 15, 16, 17, 18, 19, 20, 21, 22, 23, 24, 25, 26, 27, 28, 29, 30, 31, 32, 33, 34, 35] (by decide +kernel) (by decide +kernel)) (goodIn_sub (fun _ h => List.mem_cons_of_mem _ (List.mem_append_right _ h)) (by decide +kernel))
set_option maxRecDepth 20000 in
theorem gX11_closeBooks_X11_keeps : GoodIn wsX11_closeBooks (wsV RX11 76 RX11 yX11_keeps wsX11_keeps) := goodIn_app (goodIn_of _ (by decide +kernel)) ggX11_closeBooks_X11_keeps
theorem dX11_closeBooks_0 : decode cX11_closeBooks 0 = .ok (.aload_n 0, 1) := by decide +kernel
theorem dX11_closeBooks_1 : decode cX11_closeBooks 1 = .ok (.aload_n 0, 1) := by decide +kernel
theorem dX11_closeBooks_2 : decode cX11_closeBooks 2 = .ok (.getfield 7, 3) := by decide +kernel
theorem dX11_closeBooks_5 : decode cX11_closeBooks 5 = .ok (.invokevirtual 76, 3) := by decide +kernel
theorem dX11_closeBooks_8 : decode cX11_closeBooks 8 = .ok (.aload_n 0, 1) := by decide +kernel
theorem dX11_closeBooks_9 : decode cX11_closeBooks 9 = .ok (.getfield 7, 3) := by decide +kernel
theorem dX11_closeBooks_12 : decode cX11_closeBooks 12 = .ok (.iconst 3, 1) := by decide +kernel
theorem dX11_closeBooks_13 : decode cX11_closeBooks 13 = .ok (.iaload, 1) := by decide +kernel
theorem dX11_closeBooks_14 : decode cX11_closeBooks 14 = .ok (.istore_n 1, 1) := by decide +kernel
theorem dX11_closeBooks_15 : decode cX11_closeBooks 15 = .ok (.iconst 0, 1) := by decide +kernel
theorem dX11_closeBooks_16 : decode cX11_closeBooks 16 = .ok (.istore_n 2, 1) := by decide +kernel
theorem dX11_closeBooks_17 : decode cX11_closeBooks 17 = .ok (.iload_n 2, 1) := by decide +kernel
theorem dX11_closeBooks_18 : decode cX11_closeBooks 18 = .ok (.bipush 11, 2) := by decide +kernel
theorem dX11_closeBooks_20 : decode cX11_closeBooks 20 = .ok (.if_icmp .ge 27, 3) := by decide +kernel
theorem dX11_closeBooks_23 : decode cX11_closeBooks 23 = .ok (.aload_n 0, 1) := by decide +kernel
theorem dX11_closeBooks_24 : decode cX11_closeBooks 24 = .ok (.getfield 7, 3) := by decide +kernel
theorem dX11_closeBooks_27 : decode cX11_closeBooks 27 = .ok (.bipush 47, 2) := by decide +kernel
theorem dX11_closeBooks_29 : decode cX11_closeBooks 29 = .ok (.iload_n 2, 1) := by decide +kernel
theorem dX11_closeBooks_30 : decode cX11_closeBooks 30 = .ok (.iadd, 1) := by decide +kernel
theorem dX11_closeBooks_31 : decode cX11_closeBooks 31 = .ok (.aload_n 0, 1) := by decide +kernel
theorem dX11_closeBooks_32 : decode cX11_closeBooks 32 = .ok (.getfield 7, 3) := by decide +kernel
theorem dX11_closeBooks_35 : decode cX11_closeBooks 35 = .ok (.bipush 36, 2) := by decide +kernel
theorem dX11_closeBooks_37 : decode cX11_closeBooks 37 = .ok (.iload_n 2, 1) := by decide +kernel
theorem dX11_closeBooks_38 : decode cX11_closeBooks 38 = .ok (.iadd, 1) := by decide +kernel
theorem dX11_closeBooks_39 : decode cX11_closeBooks 39 = .ok (.iaload, 1) := by decide +kernel
theorem dX11_closeBooks_40 : decode cX11_closeBooks 40 = .ok (.iastore, 1) := by decide +kernel
theorem dX11_closeBooks_41 : decode cX11_closeBooks 41 = .ok (.iinc 2 1, 3) := by decide +kernel
theorem dX11_closeBooks_44 : decode cX11_closeBooks 44 = .ok (.goto (-27), 3) := by decide +kernel
theorem dX11_closeBooks_47 : decode cX11_closeBooks 47 = .ok (.bipush 58, 2) := by decide +kernel
theorem dX11_closeBooks_49 : decode cX11_closeBooks 49 = .ok (.istore_n 2, 1) := by decide +kernel
theorem dX11_closeBooks_50 : decode cX11_closeBooks 50 = .ok (.iload_n 2, 1) := by decide +kernel
theorem dX11_closeBooks_51 : decode cX11_closeBooks 51 = .ok (.sipush 238, 3) := by decide +kernel
theorem dX11_closeBooks_54 : decode cX11_closeBooks 54 = .ok (.if_icmp .ge 16, 3) := by decide +kernel
theorem dX11_closeBooks_57 : decode cX11_closeBooks 57 = .ok (.aload_n 0, 1) := by decide +kernel
theorem dX11_closeBooks_58 : decode cX11_closeBooks 58 = .ok (.getfield 7, 3) := by decide +kernel
theorem dX11_closeBooks_61 : decode cX11_closeBooks 61 = .ok (.iload_n 2, 1) := by decide +kernel
theorem dX11_closeBooks_62 : decode cX11_closeBooks 62 = .ok (.iconst 0, 1) := by decide +kernel
theorem dX11_closeBooks_63 : decode cX11_closeBooks 63 = .ok (.iastore, 1) := by decide +kernel
theorem dX11_closeBooks_64 : decode cX11_closeBooks 64 = .ok (.iinc 2 1, 3) := by decide +kernel
theorem dX11_closeBooks_67 : decode cX11_closeBooks 67 = .ok (.goto (-17), 3) := by decide +kernel
theorem dX11_closeBooks_70 : decode cX11_closeBooks 70 = .ok (.aload_n 0, 1) := by decide +kernel
theorem dX11_closeBooks_71 : decode cX11_closeBooks 71 = .ok (.getfield 7, 3) := by decide +kernel
theorem dX11_closeBooks_74 : decode cX11_closeBooks 74 = .ok (.iconst 3, 1) := by decide +kernel
theorem dX11_closeBooks_75 : decode cX11_closeBooks 75 = .ok (.iconst 0, 1) := by decide +kernel
theorem dX11_closeBooks_76 : decode cX11_closeBooks 76 = .ok (.iastore, 1) := by decide +kernel
theorem dX11_closeBooks_77 : decode cX11_closeBooks 77 = .ok (.iload_n 1, 1) := by decide +kernel
theorem dX11_closeBooks_78 : decode cX11_closeBooks 78 = .ok (.ireturn, 1) := by decide +kernel
set_option maxRecDepth 20000 in
theorem ggX11_cancel_X11_isAccount : GoodIn wsX11_cancel wsX11_isAccount := goodIn_ca (goodIn_r _ [6, 1, 7, 8, 5, 9, 32, 33, 34, 35, 36, 37, 38, 39, 40, 41, 42, 43, 44, 45, 46, 47, 48, 49, 50, 51, 52, 53] (by decide +kernel) (by decide +kernel)) (goodIn_sub (fun _ h => List.mem_cons_of_mem _ (List.mem_append_right _ h)) (by decide +kernel))
set_option maxRecDepth 20000 in
theorem gX11_cancel_X11_isAccount : GoodIn wsX11_cancel (wsV RX11 80 RX11 yX11_isAccount wsX11_isAccount) := goodIn_app (goodIn_of _ (by decide +kernel)) ggX11_cancel_X11_isAccount
set_option maxRecDepth 20000 in
theorem ggX11_cancel_X11_fails : GoodIn wsX11_cancel wsX11_fails := goodIn_r _ [13, 14, 32, 33, 34, 35, 36, 37, 38, 39, 40, 41, 42, 43, 44, 45, 46, 47, 48, 49, 50, 51, 52, 53] (by decide +kernel) (by decide +kernel)
set_option maxRecDepth 20000 in
theorem gX11_cancel_X11_fails : GoodIn wsX11_cancel (wsV RX11 73 RX11 yX11_fails wsX11_fails) := goodIn_app (goodIn_of _ (by decide +kernel)) ggX11_cancel_X11_fails
set_option maxRecDepth 20000 in
theorem ggX11_cancel_X11_least : GoodIn wsX11_cancel wsX11_least := goodIn_r _ [17] (by decide +kernel) (by decide +kernel)
set_option maxRecDepth 20000 in
theorem gX11_cancel_X11_least : GoodIn wsX11_cancel (va_wsS RX11 119 yX11_least wsX11_least) := goodIn_app (goodIn_of _ (by decide +kernel)) ggX11_cancel_X11_least
set_option maxRecDepth 20000 in
theorem ggX11_cancel_X11_keeps : GoodIn wsX11_cancel wsX11_keeps := goodIn_ca (goodIn_r _ [21, 14, 22, 23, 24, 25, 26, 5, 27, 32, 33, 34, 35, 36, 37, 38, 39, 40, 41, 42, 43, 44, 45, 46, 47, 48, 49, 50, 51, 52, 53] (by decide +kernel) (by decide +kernel)) (goodIn_sub (fun _ h => List.mem_cons_of_mem _ (List.mem_append_right _ h)) (by decide +kernel))
set_option maxRecDepth 20000 in
theorem gX11_cancel_X11_keeps : GoodIn wsX11_cancel (wsV RX11 76 RX11 yX11_keeps wsX11_keeps) := goodIn_app (goodIn_of _ (by decide +kernel)) ggX11_cancel_X11_keeps
set_option maxRecDepth 20000 in
theorem ggX11_cancel_X11_books : GoodIn wsX11_cancel wsX11_books := goodIn_ca (goodIn_r _ [31, 1, 32, 33, 34, 35, 36, 37, 38, 39, 40, 41, 42, 43, 44, 45, 46, 47, 48, 49, 50, 51, 52, 53] (by decide +kernel) (by decide +kernel)) (goodIn_sub (fun _ h => List.mem_cons_of_mem _ (List.mem_append_right _ h)) (by decide +kernel))
set_option maxRecDepth 20000 in
theorem gX11_cancel_X11_books : GoodIn wsX11_cancel (wsV RX11 87 RX11 yX11_books wsX11_books) := goodIn_app (goodIn_of _ (by decide +kernel)) ggX11_cancel_X11_books
theorem dX11_cancel_0 : decode cX11_cancel 0 = .ok (.aload_n 0, 1) := by decide +kernel
theorem dX11_cancel_1 : decode cX11_cancel 1 = .ok (.aload_n 0, 1) := by decide +kernel
theorem dX11_cancel_2 : decode cX11_cancel 2 = .ok (.iload_n 1, 1) := by decide +kernel
theorem dX11_cancel_3 : decode cX11_cancel 3 = .ok (.invokevirtual 80, 3) := by decide +kernel
theorem dX11_cancel_6 : decode cX11_cancel 6 = .ok (.ifCond .eq 15, 3) := by decide +kernel
theorem dX11_cancel_9 : decode cX11_cancel 9 = .ok (.aload_n 0, 1) := by decide +kernel
theorem dX11_cancel_10 : decode cX11_cancel 10 = .ok (.iload_n 2, 1) := by decide +kernel
theorem dX11_cancel_11 : decode cX11_cancel 11 = .ok (.invokevirtual 80, 3) := by decide +kernel
theorem dX11_cancel_14 : decode cX11_cancel 14 = .ok (.ifCond .eq 7, 3) := by decide +kernel
theorem dX11_cancel_17 : decode cX11_cancel 17 = .ok (.iconst 0, 1) := by decide +kernel
theorem dX11_cancel_18 : decode cX11_cancel 18 = .ok (.goto 4, 3) := by decide +kernel
theorem dX11_cancel_21 : decode cX11_cancel 21 = .ok (.iconst 1, 1) := by decide +kernel
theorem dX11_cancel_22 : decode cX11_cancel 22 = .ok (.invokevirtual 73, 3) := by decide +kernel
theorem dX11_cancel_25 : decode cX11_cancel 25 = .ok (.ifCond .eq 5, 3) := by decide +kernel
theorem dX11_cancel_28 : decode cX11_cancel 28 = .ok (.iconst 0, 1) := by decide +kernel
theorem dX11_cancel_29 : decode cX11_cancel 29 = .ok (.ireturn, 1) := by decide +kernel
theorem dX11_cancel_30 : decode cX11_cancel 30 = .ok (.aload_n 0, 1) := by decide +kernel
theorem dX11_cancel_31 : decode cX11_cancel 31 = .ok (.getfield 7, 3) := by decide +kernel
theorem dX11_cancel_34 : decode cX11_cancel 34 = .ok (.bipush 36, 2) := by decide +kernel
theorem dX11_cancel_36 : decode cX11_cancel 36 = .ok (.iload_n 1, 1) := by decide +kernel
theorem dX11_cancel_37 : decode cX11_cancel 37 = .ok (.iadd, 1) := by decide +kernel
theorem dX11_cancel_38 : decode cX11_cancel 38 = .ok (.iaload, 1) := by decide +kernel
theorem dX11_cancel_39 : decode cX11_cancel 39 = .ok (.istore_n 3, 1) := by decide +kernel
theorem dX11_cancel_40 : decode cX11_cancel 40 = .ok (.aload_n 0, 1) := by decide +kernel
theorem dX11_cancel_41 : decode cX11_cancel 41 = .ok (.getfield 7, 3) := by decide +kernel
theorem dX11_cancel_44 : decode cX11_cancel 44 = .ok (.bipush 36, 2) := by decide +kernel
theorem dX11_cancel_46 : decode cX11_cancel 46 = .ok (.iload_n 2, 1) := by decide +kernel
theorem dX11_cancel_47 : decode cX11_cancel 47 = .ok (.iadd, 1) := by decide +kernel
theorem dX11_cancel_48 : decode cX11_cancel 48 = .ok (.iaload, 1) := by decide +kernel
theorem dX11_cancel_49 : decode cX11_cancel 49 = .ok (.istore 4, 2) := by decide +kernel
theorem dX11_cancel_51 : decode cX11_cancel 51 = .ok (.aload_n 0, 1) := by decide +kernel
theorem dX11_cancel_52 : decode cX11_cancel 52 = .ok (.iload_n 3, 1) := by decide +kernel
theorem dX11_cancel_53 : decode cX11_cancel 53 = .ok (.ifCond .le 8, 3) := by decide +kernel
theorem dX11_cancel_56 : decode cX11_cancel 56 = .ok (.iload 4, 2) := by decide +kernel
theorem dX11_cancel_58 : decode cX11_cancel 58 = .ok (.ifCond .lt 12, 3) := by decide +kernel
theorem dX11_cancel_61 : decode cX11_cancel 61 = .ok (.iload_n 3, 1) := by decide +kernel
theorem dX11_cancel_62 : decode cX11_cancel 62 = .ok (.ifCond .ge 19, 3) := by decide +kernel
theorem dX11_cancel_65 : decode cX11_cancel 65 = .ok (.iload 4, 2) := by decide +kernel
theorem dX11_cancel_67 : decode cX11_cancel 67 = .ok (.ifCond .le 14, 3) := by decide +kernel
theorem dX11_cancel_70 : decode cX11_cancel 70 = .ok (.aload_n 0, 1) := by decide +kernel
theorem dX11_cancel_71 : decode cX11_cancel 71 = .ok (.getfield 7, 3) := by decide +kernel
theorem dX11_cancel_74 : decode cX11_cancel 74 = .ok (.iconst 3, 1) := by decide +kernel
theorem dX11_cancel_75 : decode cX11_cancel 75 = .ok (.iaload, 1) := by decide +kernel
theorem dX11_cancel_76 : decode cX11_cancel 76 = .ok (.bipush 60, 2) := by decide +kernel
theorem dX11_cancel_78 : decode cX11_cancel 78 = .ok (.if_icmp .ne 7, 3) := by decide +kernel
theorem dX11_cancel_81 : decode cX11_cancel 81 = .ok (.iconst 2, 1) := by decide +kernel
theorem dX11_cancel_82 : decode cX11_cancel 82 = .ok (.goto 4, 3) := by decide +kernel
theorem dX11_cancel_85 : decode cX11_cancel 85 = .ok (.iconst 0, 1) := by decide +kernel
theorem dX11_cancel_86 : decode cX11_cancel 86 = .ok (.invokevirtual 73, 3) := by decide +kernel
theorem dX11_cancel_89 : decode cX11_cancel 89 = .ok (.ifCond .eq 5, 3) := by decide +kernel
theorem dX11_cancel_92 : decode cX11_cancel 92 = .ok (.iconst 0, 1) := by decide +kernel
theorem dX11_cancel_93 : decode cX11_cancel 93 = .ok (.ireturn, 1) := by decide +kernel
theorem dX11_cancel_94 : decode cX11_cancel 94 = .ok (.iload_n 3, 1) := by decide +kernel
theorem dX11_cancel_95 : decode cX11_cancel 95 = .ok (.ifCond .le 13, 3) := by decide +kernel
theorem dX11_cancel_98 : decode cX11_cancel 98 = .ok (.iload_n 3, 1) := by decide +kernel
theorem dX11_cancel_99 : decode cX11_cancel 99 = .ok (.iload 4, 2) := by decide +kernel
theorem dX11_cancel_101 : decode cX11_cancel 101 = .ok (.ineg, 1) := by decide +kernel
theorem dX11_cancel_102 : decode cX11_cancel 102 = .ok (.invokestatic 119, 3) := by decide +kernel
theorem dX11_cancel_105 : decode cX11_cancel 105 = .ok (.goto 10, 3) := by decide +kernel
theorem dX11_cancel_108 : decode cX11_cancel 108 = .ok (.iload_n 3, 1) := by decide +kernel
theorem dX11_cancel_109 : decode cX11_cancel 109 = .ok (.ineg, 1) := by decide +kernel
theorem dX11_cancel_110 : decode cX11_cancel 110 = .ok (.iload 4, 2) := by decide +kernel
theorem dX11_cancel_112 : decode cX11_cancel 112 = .ok (.invokestatic 119, 3) := by decide +kernel
theorem dX11_cancel_115 : decode cX11_cancel 115 = .ok (.istore 5, 2) := by decide +kernel
theorem dX11_cancel_117 : decode cX11_cancel 117 = .ok (.aload_n 0, 1) := by decide +kernel
theorem dX11_cancel_118 : decode cX11_cancel 118 = .ok (.aload_n 0, 1) := by decide +kernel
theorem dX11_cancel_119 : decode cX11_cancel 119 = .ok (.getfield 7, 3) := by decide +kernel
theorem dX11_cancel_122 : decode cX11_cancel 122 = .ok (.invokevirtual 76, 3) := by decide +kernel
theorem dX11_cancel_125 : decode cX11_cancel 125 = .ok (.aload_n 0, 1) := by decide +kernel
theorem dX11_cancel_126 : decode cX11_cancel 126 = .ok (.iload_n 3, 1) := by decide +kernel
theorem dX11_cancel_127 : decode cX11_cancel 127 = .ok (.ifCond .ge 7, 3) := by decide +kernel
theorem dX11_cancel_130 : decode cX11_cancel 130 = .ok (.iload_n 1, 1) := by decide +kernel
theorem dX11_cancel_131 : decode cX11_cancel 131 = .ok (.goto 4, 3) := by decide +kernel
theorem dX11_cancel_134 : decode cX11_cancel 134 = .ok (.iload_n 2, 1) := by decide +kernel
theorem dX11_cancel_135 : decode cX11_cancel 135 = .ok (.iload_n 3, 1) := by decide +kernel
theorem dX11_cancel_136 : decode cX11_cancel 136 = .ok (.ifCond .ge 7, 3) := by decide +kernel
theorem dX11_cancel_139 : decode cX11_cancel 139 = .ok (.iload_n 2, 1) := by decide +kernel
theorem dX11_cancel_140 : decode cX11_cancel 140 = .ok (.goto 4, 3) := by decide +kernel
theorem dX11_cancel_143 : decode cX11_cancel 143 = .ok (.iload_n 1, 1) := by decide +kernel
theorem dX11_cancel_144 : decode cX11_cancel 144 = .ok (.iload 5, 2) := by decide +kernel
theorem dX11_cancel_146 : decode cX11_cancel 146 = .ok (.invokevirtual 87, 3) := by decide +kernel
theorem dX11_cancel_149 : decode cX11_cancel 149 = .ok (.iload 5, 2) := by decide +kernel
theorem dX11_cancel_151 : decode cX11_cancel 151 = .ok (.ireturn, 1) := by decide +kernel
theorem dX11_acrobatCount_0 : decode cX11_acrobatCount 0 = .ok (.aload_n 0, 1) := by decide +kernel
theorem dX11_acrobatCount_1 : decode cX11_acrobatCount 1 = .ok (.iconst 0, 1) := by decide +kernel
theorem dX11_acrobatCount_2 : decode cX11_acrobatCount 2 = .ok (.putfield 51, 3) := by decide +kernel
theorem dX11_acrobatCount_5 : decode cX11_acrobatCount 5 = .ok (.aload_n 0, 1) := by decide +kernel
theorem dX11_acrobatCount_6 : decode cX11_acrobatCount 6 = .ok (.getfield 7, 3) := by decide +kernel
theorem dX11_acrobatCount_9 : decode cX11_acrobatCount 9 = .ok (.iconst 0, 1) := by decide +kernel
theorem dX11_acrobatCount_10 : decode cX11_acrobatCount 10 = .ok (.iaload, 1) := by decide +kernel
theorem dX11_acrobatCount_11 : decode cX11_acrobatCount 11 = .ok (.ireturn, 1) := by decide +kernel
set_option maxRecDepth 20000 in
theorem ggX11_weight_X11_isNone : GoodIn wsX11_weight wsX11_isNone := goodIn_ca (goodIn_r _ [5, 6, 7, 8, 4, 9, 10, 11, 12, 13, 14, 15, 16, 17, 18, 23, 24, 25, 26, 27, 28, 29, 30, 31, 32, 33, 34, 35, 36, 37, 38, 39, 40, 41, 42, 43, 44] (by decide +kernel) (by decide +kernel)) (goodIn_sub (fun _ h => List.mem_cons_of_mem _ (List.mem_append_right _ h)) (by decide +kernel))
set_option maxRecDepth 20000 in
theorem gX11_weight_X11_isNone : GoodIn wsX11_weight (wsV RX11 140 RX11 yX11_isNone wsX11_isNone) := goodIn_app (goodIn_of _ (by decide +kernel)) ggX11_weight_X11_isNone
set_option maxRecDepth 20000 in
theorem ggX11_weight_X11_of : GoodIn wsX11_weight wsX11_of := goodIn_ca (goodIn_r _ [22, 10, 23, 24, 25, 26, 27, 28, 29, 30, 31, 32, 33, 34, 35, 36, 37, 38, 39, 40, 41, 42, 43, 44] (by decide +kernel) (by decide +kernel)) (goodIn_sub (fun _ h => List.mem_cons_of_mem _ (List.mem_append_right _ h)) (by decide +kernel))
set_option maxRecDepth 20000 in
theorem gX11_weight_X11_of : GoodIn wsX11_weight (wsV RX11 91 RX11 yX11_of wsX11_of) := goodIn_app (goodIn_of _ (by decide +kernel)) ggX11_weight_X11_of
theorem dX11_weight_0 : decode cX11_weight 0 = .ok (.aload_n 0, 1) := by decide +kernel
theorem dX11_weight_1 : decode cX11_weight 1 = .ok (.iload_n 1, 1) := by decide +kernel
theorem dX11_weight_2 : decode cX11_weight 2 = .ok (.invokevirtual 140, 3) := by decide +kernel
theorem dX11_weight_5 : decode cX11_weight 5 = .ok (.ifCond .eq 7, 3) := by decide +kernel
theorem dX11_weight_8 : decode cX11_weight 8 = .ok (.iconst 0, 1) := by decide +kernel
theorem dX11_weight_9 : decode cX11_weight 9 = .ok (.goto 9, 3) := by decide +kernel
theorem dX11_weight_12 : decode cX11_weight 12 = .ok (.aload_n 0, 1) := by decide +kernel
theorem dX11_weight_13 : decode cX11_weight 13 = .ok (.iload_n 1, 1) := by decide +kernel
theorem dX11_weight_14 : decode cX11_weight 14 = .ok (.iconst 0, 1) := by decide +kernel
theorem dX11_weight_15 : decode cX11_weight 15 = .ok (.invokevirtual 91, 3) := by decide +kernel
theorem dX11_weight_18 : decode cX11_weight 18 = .ok (.ireturn, 1) := by decide +kernel
set_option maxRecDepth 20000 in
theorem ggX11_strength_X11_isNone : GoodIn wsX11_strength wsX11_isNone := goodIn_ca (goodIn_r _ [5, 6, 7, 8, 4, 9, 10, 11, 12, 13, 14, 15, 16, 17, 18, 23, 24, 25, 26, 27, 28, 29, 30, 31, 32, 33, 34, 35, 36, 37, 38, 39, 40, 41, 42, 43, 44] (by decide +kernel) (by decide +kernel)) (goodIn_sub (fun _ h => List.mem_cons_of_mem _ (List.mem_append_right _ h)) (by decide +kernel))
set_option maxRecDepth 20000 in
theorem gX11_strength_X11_isNone : GoodIn wsX11_strength (wsV RX11 140 RX11 yX11_isNone wsX11_isNone) := goodIn_app (goodIn_of _ (by decide +kernel)) ggX11_strength_X11_isNone
set_option maxRecDepth 20000 in
theorem ggX11_strength_X11_of : GoodIn wsX11_strength wsX11_of := goodIn_ca (goodIn_r _ [22, 10, 23, 24, 25, 26, 27, 28, 29, 30, 31, 32, 33, 34, 35, 36, 37, 38, 39, 40, 41, 42, 43, 44] (by decide +kernel) (by decide +kernel)) (goodIn_sub (fun _ h => List.mem_cons_of_mem _ (List.mem_append_right _ h)) (by decide +kernel))
set_option maxRecDepth 20000 in
theorem gX11_strength_X11_of : GoodIn wsX11_strength (wsV RX11 91 RX11 yX11_of wsX11_of) := goodIn_app (goodIn_of _ (by decide +kernel)) ggX11_strength_X11_of
theorem dX11_strength_0 : decode cX11_strength 0 = .ok (.aload_n 0, 1) := by decide +kernel
theorem dX11_strength_1 : decode cX11_strength 1 = .ok (.iload_n 1, 1) := by decide +kernel
theorem dX11_strength_2 : decode cX11_strength 2 = .ok (.invokevirtual 140, 3) := by decide +kernel
theorem dX11_strength_5 : decode cX11_strength 5 = .ok (.ifCond .eq 7, 3) := by decide +kernel
theorem dX11_strength_8 : decode cX11_strength 8 = .ok (.iconst 0, 1) := by decide +kernel
theorem dX11_strength_9 : decode cX11_strength 9 = .ok (.goto 9, 3) := by decide +kernel
theorem dX11_strength_12 : decode cX11_strength 12 = .ok (.aload_n 0, 1) := by decide +kernel
theorem dX11_strength_13 : decode cX11_strength 13 = .ok (.iload_n 1, 1) := by decide +kernel
theorem dX11_strength_14 : decode cX11_strength 14 = .ok (.iconst 1, 1) := by decide +kernel
theorem dX11_strength_15 : decode cX11_strength 15 = .ok (.invokevirtual 91, 3) := by decide +kernel
theorem dX11_strength_18 : decode cX11_strength 18 = .ok (.ireturn, 1) := by decide +kernel
set_option maxRecDepth 20000 in
theorem ggX11_height_X11_isNone : GoodIn wsX11_height wsX11_isNone := goodIn_ca (goodIn_r _ [5, 6, 7, 8, 4, 9, 10, 11, 12, 13, 14, 15, 16, 17, 18, 23, 24, 25, 26, 27, 28, 29, 30, 31, 32, 33, 34, 35, 36, 37, 38, 39, 40, 41, 42, 43, 44] (by decide +kernel) (by decide +kernel)) (goodIn_sub (fun _ h => List.mem_cons_of_mem _ (List.mem_append_right _ h)) (by decide +kernel))
set_option maxRecDepth 20000 in
theorem gX11_height_X11_isNone : GoodIn wsX11_height (wsV RX11 140 RX11 yX11_isNone wsX11_isNone) := goodIn_app (goodIn_of _ (by decide +kernel)) ggX11_height_X11_isNone
set_option maxRecDepth 20000 in
theorem ggX11_height_X11_of : GoodIn wsX11_height wsX11_of := goodIn_ca (goodIn_r _ [22, 10, 23, 24, 25, 26, 27, 28, 29, 30, 31, 32, 33, 34, 35, 36, 37, 38, 39, 40, 41, 42, 43, 44] (by decide +kernel) (by decide +kernel)) (goodIn_sub (fun _ h => List.mem_cons_of_mem _ (List.mem_append_right _ h)) (by decide +kernel))
set_option maxRecDepth 20000 in
theorem gX11_height_X11_of : GoodIn wsX11_height (wsV RX11 91 RX11 yX11_of wsX11_of) := goodIn_app (goodIn_of _ (by decide +kernel)) ggX11_height_X11_of
theorem dX11_height_0 : decode cX11_height 0 = .ok (.aload_n 0, 1) := by decide +kernel
theorem dX11_height_1 : decode cX11_height 1 = .ok (.iload_n 1, 1) := by decide +kernel
theorem dX11_height_2 : decode cX11_height 2 = .ok (.invokevirtual 140, 3) := by decide +kernel
theorem dX11_height_5 : decode cX11_height 5 = .ok (.ifCond .eq 7, 3) := by decide +kernel
theorem dX11_height_8 : decode cX11_height 8 = .ok (.iconst 0, 1) := by decide +kernel
theorem dX11_height_9 : decode cX11_height 9 = .ok (.goto 9, 3) := by decide +kernel
theorem dX11_height_12 : decode cX11_height 12 = .ok (.aload_n 0, 1) := by decide +kernel
theorem dX11_height_13 : decode cX11_height 13 = .ok (.iload_n 1, 1) := by decide +kernel
theorem dX11_height_14 : decode cX11_height 14 = .ok (.iconst 2, 1) := by decide +kernel
theorem dX11_height_15 : decode cX11_height 15 = .ok (.invokevirtual 91, 3) := by decide +kernel
theorem dX11_height_18 : decode cX11_height 18 = .ok (.ireturn, 1) := by decide +kernel
set_option maxRecDepth 20000 in
theorem ggX11_wage_X11_isNone : GoodIn wsX11_wage wsX11_isNone := goodIn_ca (goodIn_r _ [5, 6, 7, 8, 4, 9, 10, 11, 12, 13, 14, 15, 16, 17, 18, 23, 24, 25, 26, 27, 28, 29, 30, 31, 32, 33, 34, 35, 36, 37, 38, 39, 40, 41, 42, 43, 44] (by decide +kernel) (by decide +kernel)) (goodIn_sub (fun _ h => List.mem_cons_of_mem _ (List.mem_append_right _ h)) (by decide +kernel))
set_option maxRecDepth 20000 in
theorem gX11_wage_X11_isNone : GoodIn wsX11_wage (wsV RX11 140 RX11 yX11_isNone wsX11_isNone) := goodIn_app (goodIn_of _ (by decide +kernel)) ggX11_wage_X11_isNone
set_option maxRecDepth 20000 in
theorem ggX11_wage_X11_of : GoodIn wsX11_wage wsX11_of := goodIn_ca (goodIn_r _ [22, 10, 23, 24, 25, 26, 27, 28, 29, 30, 31, 32, 33, 34, 35, 36, 37, 38, 39, 40, 41, 42, 43, 44] (by decide +kernel) (by decide +kernel)) (goodIn_sub (fun _ h => List.mem_cons_of_mem _ (List.mem_append_right _ h)) (by decide +kernel))
set_option maxRecDepth 20000 in
theorem gX11_wage_X11_of : GoodIn wsX11_wage (wsV RX11 91 RX11 yX11_of wsX11_of) := goodIn_app (goodIn_of _ (by decide +kernel)) ggX11_wage_X11_of
theorem dX11_wage_0 : decode cX11_wage 0 = .ok (.aload_n 0, 1) := by decide +kernel
theorem dX11_wage_1 : decode cX11_wage 1 = .ok (.iload_n 1, 1) := by decide +kernel
theorem dX11_wage_2 : decode cX11_wage 2 = .ok (.invokevirtual 140, 3) := by decide +kernel
theorem dX11_wage_5 : decode cX11_wage 5 = .ok (.ifCond .eq 7, 3) := by decide +kernel
theorem dX11_wage_8 : decode cX11_wage 8 = .ok (.iconst 0, 1) := by decide +kernel
theorem dX11_wage_9 : decode cX11_wage 9 = .ok (.goto 9, 3) := by decide +kernel
theorem dX11_wage_12 : decode cX11_wage 12 = .ok (.aload_n 0, 1) := by decide +kernel
theorem dX11_wage_13 : decode cX11_wage 13 = .ok (.iload_n 1, 1) := by decide +kernel
theorem dX11_wage_14 : decode cX11_wage 14 = .ok (.iconst 3, 1) := by decide +kernel
theorem dX11_wage_15 : decode cX11_wage 15 = .ok (.invokevirtual 91, 3) := by decide +kernel
theorem dX11_wage_18 : decode cX11_wage 18 = .ok (.ireturn, 1) := by decide +kernel
set_option maxRecDepth 20000 in
theorem ggX11_isInjured_X11_isNone : GoodIn wsX11_isInjured wsX11_isNone := goodIn_ca (goodIn_r _ [5, 6, 7, 8, 4, 9, 10, 11, 12, 13, 14, 15, 16, 17, 18, 23, 24, 25, 26, 27, 28, 29, 30, 31, 32, 33, 34, 35, 36, 37, 38, 39, 40, 41, 42, 43, 44] (by decide +kernel) (by decide +kernel)) (goodIn_sub (fun _ h => List.mem_cons_of_mem _ (List.mem_append_right _ h)) (by decide +kernel))
set_option maxRecDepth 20000 in
theorem gX11_isInjured_X11_isNone : GoodIn wsX11_isInjured (wsV RX11 140 RX11 yX11_isNone wsX11_isNone) := goodIn_app (goodIn_of _ (by decide +kernel)) ggX11_isInjured_X11_isNone
set_option maxRecDepth 20000 in
theorem ggX11_isInjured_X11_of : GoodIn wsX11_isInjured wsX11_of := goodIn_ca (goodIn_r _ [22, 10, 23, 24, 25, 26, 27, 28, 29, 30, 31, 32, 33, 34, 35, 36, 37, 38, 39, 40, 41, 42, 43, 44] (by decide +kernel) (by decide +kernel)) (goodIn_sub (fun _ h => List.mem_cons_of_mem _ (List.mem_append_right _ h)) (by decide +kernel))
set_option maxRecDepth 20000 in
theorem gX11_isInjured_X11_of : GoodIn wsX11_isInjured (wsV RX11 91 RX11 yX11_of wsX11_of) := goodIn_app (goodIn_of _ (by decide +kernel)) ggX11_isInjured_X11_of
theorem dX11_isInjured_0 : decode cX11_isInjured 0 = .ok (.aload_n 0, 1) := by decide +kernel
theorem dX11_isInjured_1 : decode cX11_isInjured 1 = .ok (.iload_n 1, 1) := by decide +kernel
theorem dX11_isInjured_2 : decode cX11_isInjured 2 = .ok (.invokevirtual 140, 3) := by decide +kernel
theorem dX11_isInjured_5 : decode cX11_isInjured 5 = .ok (.ifCond .ne 16, 3) := by decide +kernel
theorem dX11_isInjured_8 : decode cX11_isInjured 8 = .ok (.aload_n 0, 1) := by decide +kernel
theorem dX11_isInjured_9 : decode cX11_isInjured 9 = .ok (.iload_n 1, 1) := by decide +kernel
theorem dX11_isInjured_10 : decode cX11_isInjured 10 = .ok (.iconst 4, 1) := by decide +kernel
theorem dX11_isInjured_11 : decode cX11_isInjured 11 = .ok (.invokevirtual 91, 3) := by decide +kernel
theorem dX11_isInjured_14 : decode cX11_isInjured 14 = .ok (.ifCond .le 7, 3) := by decide +kernel
theorem dX11_isInjured_17 : decode cX11_isInjured 17 = .ok (.iconst 1, 1) := by decide +kernel
theorem dX11_isInjured_18 : decode cX11_isInjured 18 = .ok (.goto 4, 3) := by decide +kernel
theorem dX11_isInjured_21 : decode cX11_isInjured 21 = .ok (.iconst 0, 1) := by decide +kernel
theorem dX11_isInjured_22 : decode cX11_isInjured 22 = .ok (.ireturn, 1) := by decide +kernel
set_option maxRecDepth 20000 in
theorem ggX11_nightsUntilFit_X11_isNone : GoodIn wsX11_nightsUntilFit wsX11_isNone := goodIn_ca (goodIn_r _ [5, 6, 7, 8, 4, 9, 10, 11, 12, 13, 14, 15, 16, 17, 18, 23, 24, 25, 26, 27, 28, 29, 30, 31, 32, 33, 34, 35, 36, 37, 38, 39, 40, 41, 42, 43, 44] (by decide +kernel) (by decide +kernel)) (goodIn_sub (fun _ h => List.mem_cons_of_mem _ (List.mem_append_right _ h)) (by decide +kernel))
set_option maxRecDepth 20000 in
theorem gX11_nightsUntilFit_X11_isNone : GoodIn wsX11_nightsUntilFit (wsV RX11 140 RX11 yX11_isNone wsX11_isNone) := goodIn_app (goodIn_of _ (by decide +kernel)) ggX11_nightsUntilFit_X11_isNone
set_option maxRecDepth 20000 in
theorem ggX11_nightsUntilFit_X11_of : GoodIn wsX11_nightsUntilFit wsX11_of := goodIn_ca (goodIn_r _ [22, 10, 23, 24, 25, 26, 27, 28, 29, 30, 31, 32, 33, 34, 35, 36, 37, 38, 39, 40, 41, 42, 43, 44] (by decide +kernel) (by decide +kernel)) (goodIn_sub (fun _ h => List.mem_cons_of_mem _ (List.mem_append_right _ h)) (by decide +kernel))
set_option maxRecDepth 20000 in
theorem gX11_nightsUntilFit_X11_of : GoodIn wsX11_nightsUntilFit (wsV RX11 91 RX11 yX11_of wsX11_of) := goodIn_app (goodIn_of _ (by decide +kernel)) ggX11_nightsUntilFit_X11_of
theorem dX11_nightsUntilFit_0 : decode cX11_nightsUntilFit 0 = .ok (.aload_n 0, 1) := by decide +kernel
theorem dX11_nightsUntilFit_1 : decode cX11_nightsUntilFit 1 = .ok (.iload_n 1, 1) := by decide +kernel
theorem dX11_nightsUntilFit_2 : decode cX11_nightsUntilFit 2 = .ok (.invokevirtual 140, 3) := by decide +kernel
theorem dX11_nightsUntilFit_5 : decode cX11_nightsUntilFit 5 = .ok (.ifCond .eq 7, 3) := by decide +kernel
theorem dX11_nightsUntilFit_8 : decode cX11_nightsUntilFit 8 = .ok (.iconst 0, 1) := by decide +kernel
theorem dX11_nightsUntilFit_9 : decode cX11_nightsUntilFit 9 = .ok (.goto 9, 3) := by decide +kernel
theorem dX11_nightsUntilFit_12 : decode cX11_nightsUntilFit 12 = .ok (.aload_n 0, 1) := by decide +kernel
theorem dX11_nightsUntilFit_13 : decode cX11_nightsUntilFit 13 = .ok (.iload_n 1, 1) := by decide +kernel
theorem dX11_nightsUntilFit_14 : decode cX11_nightsUntilFit 14 = .ok (.iconst 4, 1) := by decide +kernel
theorem dX11_nightsUntilFit_15 : decode cX11_nightsUntilFit 15 = .ok (.invokevirtual 91, 3) := by decide +kernel
theorem dX11_nightsUntilFit_18 : decode cX11_nightsUntilFit 18 = .ok (.ireturn, 1) := by decide +kernel
set_option maxRecDepth 20000 in
theorem ggX11_canStand_X11_isWrong : GoodIn wsX11_canStand wsX11_isWrong := goodIn_ca (goodIn_r _ [5, 6, 7, 8, 4, 9, 10, 11, 12, 13, 14, 15, 16, 17, 18, 19, 20, 21, 22, 23, 24, 25, 26, 27, 28, 29, 30, 35, 36, 37, 38, 39, 40, 41, 42, 43, 44, 45, 46, 47, 48, 49, 50, 51, 52, 53, 54, 55, 56] (by decide +kernel) (by decide +kernel)) (goodIn_sub (fun _ h => List.mem_cons_of_mem _ (List.mem_append_right _ h)) (by decide +kernel))
set_option maxRecDepth 20000 in
theorem gX11_canStand_X11_isWrong : GoodIn wsX11_canStand (wsV RX11 122 RX11 yX11_isWrong wsX11_isWrong) := goodIn_app (goodIn_of _ (by decide +kernel)) ggX11_canStand_X11_isWrong
set_option maxRecDepth 20000 in
theorem ggX11_canStand_X11_breaks : GoodIn wsX11_canStand wsX11_breaks := goodIn_ca (goodIn_r _ [34, 20, 22, 21, 27, 28, 29, 4, 30, 10, 35, 36, 37, 38, 39, 40, 41, 42, 43, 44, 45, 46, 47, 48, 49, 50, 51, 52, 53, 54, 55, 56] (by decide +kernel) (by decide +kernel)) (goodIn_sub (fun _ h => List.mem_cons_of_mem _ (List.mem_append_right _ h)) (by decide +kernel))
set_option maxRecDepth 20000 in
theorem gX11_canStand_X11_breaks : GoodIn wsX11_canStand (wsV RX11 101 RX11 yX11_breaks wsX11_breaks) := goodIn_app (goodIn_of _ (by decide +kernel)) ggX11_canStand_X11_breaks
theorem dX11_canStand_0 : decode cX11_canStand 0 = .ok (.aload_n 0, 1) := by decide +kernel
theorem dX11_canStand_1 : decode cX11_canStand 1 = .ok (.iload_n 1, 1) := by decide +kernel
theorem dX11_canStand_2 : decode cX11_canStand 2 = .ok (.invokevirtual 122, 3) := by decide +kernel
theorem dX11_canStand_5 : decode cX11_canStand 5 = .ok (.ifCond .ne 14, 3) := by decide +kernel
theorem dX11_canStand_8 : decode cX11_canStand 8 = .ok (.aload_n 0, 1) := by decide +kernel
theorem dX11_canStand_9 : decode cX11_canStand 9 = .ok (.invokevirtual 101, 3) := by decide +kernel
theorem dX11_canStand_12 : decode cX11_canStand 12 = .ok (.ifCond .ge 7, 3) := by decide +kernel
theorem dX11_canStand_15 : decode cX11_canStand 15 = .ok (.iconst 1, 1) := by decide +kernel
theorem dX11_canStand_16 : decode cX11_canStand 16 = .ok (.goto 4, 3) := by decide +kernel
theorem dX11_canStand_19 : decode cX11_canStand 19 = .ok (.iconst 0, 1) := by decide +kernel
theorem dX11_canStand_20 : decode cX11_canStand 20 = .ok (.ireturn, 1) := by decide +kernel
set_option maxRecDepth 20000 in
theorem ggX11_acrobatAt_X11_isWrong : GoodIn wsX11_acrobatAt wsX11_isWrong := goodIn_ca (goodIn_r _ [7, 8, 9, 10, 6, 11, 12, 13, 14, 15, 16, 17, 18, 19, 20, 21, 1, 2, 22, 23, 24, 25, 26, 27, 28, 29, 30, 34, 35, 36, 37, 38, 39, 40, 41, 42, 43, 44, 45, 46, 47, 48, 49, 50, 51, 52, 53, 54, 55] (by decide +kernel) (by decide +kernel)) (goodIn_sub (fun _ h => List.mem_cons_of_mem _ (List.mem_append_right _ h)) (by decide +kernel))
set_option maxRecDepth 20000 in
theorem gX11_acrobatAt_X11_isWrong : GoodIn wsX11_acrobatAt (wsV RX11 122 RX11 yX11_isWrong wsX11_isWrong) := goodIn_app (goodIn_of _ (by decide +kernel)) ggX11_acrobatAt_X11_isWrong
set_option maxRecDepth 20000 in
theorem ggX11_acrobatAt_X11_in : GoodIn wsX11_acrobatAt wsX11_in := goodIn_r _ [33] (by decide +kernel) (by decide +kernel)
set_option maxRecDepth 20000 in
theorem gX11_acrobatAt_X11_in : GoodIn wsX11_acrobatAt (va_wsS RX11 65 yX11_in wsX11_in) := goodIn_app (goodIn_of _ (by decide +kernel)) ggX11_acrobatAt_X11_in
set_option maxRecDepth 20000 in
theorem ggX11_acrobatAt_X11_fails : GoodIn wsX11_acrobatAt wsX11_fails := goodIn_r _ [16, 17, 34, 35, 36, 37, 38, 39, 40, 41, 42, 43, 44, 45, 46, 47, 48, 49, 50, 51, 52, 53, 54, 55] (by decide +kernel) (by decide +kernel)
set_option maxRecDepth 20000 in
theorem gX11_acrobatAt_X11_fails : GoodIn wsX11_acrobatAt (wsV RX11 73 RX11 yX11_fails wsX11_fails) := goodIn_app (goodIn_of _ (by decide +kernel)) ggX11_acrobatAt_X11_fails
theorem dX11_acrobatAt_0 : decode cX11_acrobatAt 0 = .ok (.aload_n 0, 1) := by decide +kernel
theorem dX11_acrobatAt_1 : decode cX11_acrobatAt 1 = .ok (.iload_n 1, 1) := by decide +kernel
theorem dX11_acrobatAt_2 : decode cX11_acrobatAt 2 = .ok (.invokevirtual 122, 3) := by decide +kernel
theorem dX11_acrobatAt_5 : decode cX11_acrobatAt 5 = .ok (.ifCond .ne 29, 3) := by decide +kernel
theorem dX11_acrobatAt_8 : decode cX11_acrobatAt 8 = .ok (.aload_n 0, 1) := by decide +kernel
theorem dX11_acrobatAt_9 : decode cX11_acrobatAt 9 = .ok (.iload_n 2, 1) := by decide +kernel
theorem dX11_acrobatAt_10 : decode cX11_acrobatAt 10 = .ok (.iconst 0, 1) := by decide +kernel
theorem dX11_acrobatAt_11 : decode cX11_acrobatAt 11 = .ok (.aload_n 0, 1) := by decide +kernel
theorem dX11_acrobatAt_12 : decode cX11_acrobatAt 12 = .ok (.getfield 95, 3) := by decide +kernel
theorem dX11_acrobatAt_15 : decode cX11_acrobatAt 15 = .ok (.iconst 1, 1) := by decide +kernel
theorem dX11_acrobatAt_16 : decode cX11_acrobatAt 16 = .ok (.isub, 1) := by decide +kernel
theorem dX11_acrobatAt_17 : decode cX11_acrobatAt 17 = .ok (.invokestatic 65, 3) := by decide +kernel
theorem dX11_acrobatAt_20 : decode cX11_acrobatAt 20 = .ok (.ifCond .eq 7, 3) := by decide +kernel
theorem dX11_acrobatAt_23 : decode cX11_acrobatAt 23 = .ok (.iconst 0, 1) := by decide +kernel
theorem dX11_acrobatAt_24 : decode cX11_acrobatAt 24 = .ok (.goto 4, 3) := by decide +kernel
theorem dX11_acrobatAt_27 : decode cX11_acrobatAt 27 = .ok (.iconst 2, 1) := by decide +kernel
theorem dX11_acrobatAt_28 : decode cX11_acrobatAt 28 = .ok (.invokevirtual 73, 3) := by decide +kernel
theorem dX11_acrobatAt_31 : decode cX11_acrobatAt 31 = .ok (.ifCond .eq 7, 3) := by decide +kernel
theorem dX11_acrobatAt_34 : decode cX11_acrobatAt 34 = .ok (.iconst 0, 1) := by decide +kernel
theorem dX11_acrobatAt_35 : decode cX11_acrobatAt 35 = .ok (.goto 9, 3) := by decide +kernel
theorem dX11_acrobatAt_38 : decode cX11_acrobatAt 38 = .ok (.aload_n 0, 1) := by decide +kernel
theorem dX11_acrobatAt_39 : decode cX11_acrobatAt 39 = .ok (.getfield 36, 3) := by decide +kernel
theorem dX11_acrobatAt_42 : decode cX11_acrobatAt 42 = .ok (.iload_n 2, 1) := by decide +kernel
theorem dX11_acrobatAt_43 : decode cX11_acrobatAt 43 = .ok (.iaload, 1) := by decide +kernel
theorem dX11_acrobatAt_44 : decode cX11_acrobatAt 44 = .ok (.ireturn, 1) := by decide +kernel
theorem dX11_placeOf_0 : decode cX11_placeOf 0 = .ok (.iconst 0, 1) := by decide +kernel
theorem dX11_placeOf_1 : decode cX11_placeOf 1 = .ok (.istore_n 2, 1) := by decide +kernel
theorem dX11_placeOf_2 : decode cX11_placeOf 2 = .ok (.iload_n 2, 1) := by decide +kernel
theorem dX11_placeOf_3 : decode cX11_placeOf 3 = .ok (.aload_n 0, 1) := by decide +kernel
theorem dX11_placeOf_4 : decode cX11_placeOf 4 = .ok (.getfield 95, 3) := by decide +kernel
theorem dX11_placeOf_7 : decode cX11_placeOf 7 = .ok (.if_icmp .ge 21, 3) := by decide +kernel
theorem dX11_placeOf_10 : decode cX11_placeOf 10 = .ok (.aload_n 0, 1) := by decide +kernel
theorem dX11_placeOf_11 : decode cX11_placeOf 11 = .ok (.getfield 36, 3) := by decide +kernel
theorem dX11_placeOf_14 : decode cX11_placeOf 14 = .ok (.iload_n 2, 1) := by decide +kernel
theorem dX11_placeOf_15 : decode cX11_placeOf 15 = .ok (.iaload, 1) := by decide +kernel
theorem dX11_placeOf_16 : decode cX11_placeOf 16 = .ok (.iload_n 1, 1) := by decide +kernel
theorem dX11_placeOf_17 : decode cX11_placeOf 17 = .ok (.if_icmp .ne 5, 3) := by decide +kernel
theorem dX11_placeOf_20 : decode cX11_placeOf 20 = .ok (.iload_n 2, 1) := by decide +kernel
theorem dX11_placeOf_21 : decode cX11_placeOf 21 = .ok (.ireturn, 1) := by decide +kernel
theorem dX11_placeOf_22 : decode cX11_placeOf 22 = .ok (.iinc 2 1, 3) := by decide +kernel
theorem dX11_placeOf_25 : decode cX11_placeOf 25 = .ok (.goto (-23), 3) := by decide +kernel
theorem dX11_placeOf_28 : decode cX11_placeOf 28 = .ok (.iconst (-1), 1) := by decide +kernel
theorem dX11_placeOf_29 : decode cX11_placeOf 29 = .ok (.ireturn, 1) := by decide +kernel
set_option maxRecDepth 20000 in
theorem ggX11_loadOn_X11_isWrong : GoodIn wsX11_loadOn wsX11_isWrong := goodIn_ca (goodIn_r _ [6, 7, 8, 9, 5, 10, 11, 12, 13, 14, 15, 16, 17, 18, 19, 20, 21, 22, 1, 23, 24, 25, 26, 27, 28, 29, 30, 35, 36, 37, 38, 39, 40, 41, 42, 43, 44, 45, 46, 47, 48, 49, 50, 51, 52, 53, 54, 55, 56] (by decide +kernel) (by decide +kernel)) (goodIn_sub (fun _ h => List.mem_cons_of_mem _ (List.mem_append_right _ h)) (by decide +kernel))
set_option maxRecDepth 20000 in
theorem gX11_loadOn_X11_isWrong : GoodIn wsX11_loadOn (wsV RX11 122 RX11 yX11_isWrong wsX11_isWrong) := goodIn_app (goodIn_of _ (by decide +kernel)) ggX11_loadOn_X11_isWrong
set_option maxRecDepth 20000 in
theorem ggX11_loadOn_X11_placeOf : GoodIn wsX11_loadOn wsX11_placeOf := goodIn_ca (goodIn_r _ [34, 21, 22, 35, 36, 37, 38, 39, 40, 41, 42, 43, 44, 45, 46, 47, 48, 49, 50, 51, 52, 53, 54, 55, 56] (by decide +kernel) (by decide +kernel)) (goodIn_sub (fun _ h => List.mem_cons_of_mem _ (List.mem_append_right _ h)) (by decide +kernel))
set_option maxRecDepth 20000 in
theorem gX11_loadOn_X11_placeOf : GoodIn wsX11_loadOn (wsV RX11 143 RX11 yX11_placeOf wsX11_placeOf) := goodIn_app (goodIn_of _ (by decide +kernel)) ggX11_loadOn_X11_placeOf
set_option maxRecDepth 20000 in
theorem ggX11_loadOn_X11_fails : GoodIn wsX11_loadOn wsX11_fails := goodIn_r _ [15, 16, 35, 36, 37, 38, 39, 40, 41, 42, 43, 44, 45, 46, 47, 48, 49, 50, 51, 52, 53, 54, 55, 56] (by decide +kernel) (by decide +kernel)
set_option maxRecDepth 20000 in
theorem gX11_loadOn_X11_fails : GoodIn wsX11_loadOn (wsV RX11 73 RX11 yX11_fails wsX11_fails) := goodIn_app (goodIn_of _ (by decide +kernel)) ggX11_loadOn_X11_fails
theorem dX11_loadOn_0 : decode cX11_loadOn 0 = .ok (.aload_n 0, 1) := by decide +kernel
theorem dX11_loadOn_1 : decode cX11_loadOn 1 = .ok (.iload_n 1, 1) := by decide +kernel
theorem dX11_loadOn_2 : decode cX11_loadOn 2 = .ok (.invokevirtual 122, 3) := by decide +kernel
theorem dX11_loadOn_5 : decode cX11_loadOn 5 = .ok (.ifCond .ne 23, 3) := by decide +kernel
theorem dX11_loadOn_8 : decode cX11_loadOn 8 = .ok (.aload_n 0, 1) := by decide +kernel
theorem dX11_loadOn_9 : decode cX11_loadOn 9 = .ok (.aload_n 0, 1) := by decide +kernel
theorem dX11_loadOn_10 : decode cX11_loadOn 10 = .ok (.iload_n 2, 1) := by decide +kernel
theorem dX11_loadOn_11 : decode cX11_loadOn 11 = .ok (.invokevirtual 143, 3) := by decide +kernel
theorem dX11_loadOn_14 : decode cX11_loadOn 14 = .ok (.ifCond .ge 7, 3) := by decide +kernel
theorem dX11_loadOn_17 : decode cX11_loadOn 17 = .ok (.iconst 2, 1) := by decide +kernel
theorem dX11_loadOn_18 : decode cX11_loadOn 18 = .ok (.goto 4, 3) := by decide +kernel
theorem dX11_loadOn_21 : decode cX11_loadOn 21 = .ok (.iconst 0, 1) := by decide +kernel
theorem dX11_loadOn_22 : decode cX11_loadOn 22 = .ok (.invokevirtual 73, 3) := by decide +kernel
theorem dX11_loadOn_25 : decode cX11_loadOn 25 = .ok (.ifCond .eq 7, 3) := by decide +kernel
theorem dX11_loadOn_28 : decode cX11_loadOn 28 = .ok (.iconst 0, 1) := by decide +kernel
theorem dX11_loadOn_29 : decode cX11_loadOn 29 = .ok (.goto 13, 3) := by decide +kernel
theorem dX11_loadOn_32 : decode cX11_loadOn 32 = .ok (.aload_n 0, 1) := by decide +kernel
theorem dX11_loadOn_33 : decode cX11_loadOn 33 = .ok (.getfield 39, 3) := by decide +kernel
theorem dX11_loadOn_36 : decode cX11_loadOn 36 = .ok (.aload_n 0, 1) := by decide +kernel
theorem dX11_loadOn_37 : decode cX11_loadOn 37 = .ok (.iload_n 2, 1) := by decide +kernel
theorem dX11_loadOn_38 : decode cX11_loadOn 38 = .ok (.invokevirtual 143, 3) := by decide +kernel
theorem dX11_loadOn_41 : decode cX11_loadOn 41 = .ok (.iaload, 1) := by decide +kernel
theorem dX11_loadOn_42 : decode cX11_loadOn 42 = .ok (.ireturn, 1) := by decide +kernel
set_option maxRecDepth 20000 in
theorem ggX11_columnHeight_X11_isWrong : GoodIn wsX11_columnHeight wsX11_isWrong := goodIn_ca (goodIn_r _ [5, 6, 7, 8, 4, 9, 10, 11, 12, 13, 14, 15, 16, 17, 18, 19, 20, 21, 22, 23, 24, 25, 26, 27, 28, 29, 30, 35, 36, 37, 38, 39, 40, 41, 42, 43, 44, 45, 46, 47, 48, 49, 50, 51, 52, 53, 54, 55, 56] (by decide +kernel) (by decide +kernel)) (goodIn_sub (fun _ h => List.mem_cons_of_mem _ (List.mem_append_right _ h)) (by decide +kernel))
set_option maxRecDepth 20000 in
theorem gX11_columnHeight_X11_isWrong : GoodIn wsX11_columnHeight (wsV RX11 122 RX11 yX11_isWrong wsX11_isWrong) := goodIn_app (goodIn_of _ (by decide +kernel)) ggX11_columnHeight_X11_isWrong
set_option maxRecDepth 20000 in
theorem ggX11_columnHeight_X11_tall : GoodIn wsX11_columnHeight wsX11_tall := goodIn_ca (goodIn_r _ [34, 10, 27, 28, 29, 4, 30, 35, 36, 37, 38, 39, 40, 41, 42, 43, 44, 45, 46, 47, 48, 49, 50, 51, 52, 53, 54, 55, 56] (by decide +kernel) (by decide +kernel)) (goodIn_sub (fun _ h => List.mem_cons_of_mem _ (List.mem_append_right _ h)) (by decide +kernel))
set_option maxRecDepth 20000 in
theorem gX11_columnHeight_X11_tall : GoodIn wsX11_columnHeight (wsV RX11 112 RX11 yX11_tall wsX11_tall) := goodIn_app (goodIn_of _ (by decide +kernel)) ggX11_columnHeight_X11_tall
theorem dX11_columnHeight_0 : decode cX11_columnHeight 0 = .ok (.aload_n 0, 1) := by decide +kernel
theorem dX11_columnHeight_1 : decode cX11_columnHeight 1 = .ok (.iload_n 1, 1) := by decide +kernel
theorem dX11_columnHeight_2 : decode cX11_columnHeight 2 = .ok (.invokevirtual 122, 3) := by decide +kernel
theorem dX11_columnHeight_5 : decode cX11_columnHeight 5 = .ok (.ifCond .eq 7, 3) := by decide +kernel
theorem dX11_columnHeight_8 : decode cX11_columnHeight 8 = .ok (.iconst 0, 1) := by decide +kernel
theorem dX11_columnHeight_9 : decode cX11_columnHeight 9 = .ok (.goto 8, 3) := by decide +kernel
theorem dX11_columnHeight_12 : decode cX11_columnHeight 12 = .ok (.aload_n 0, 1) := by decide +kernel
theorem dX11_columnHeight_13 : decode cX11_columnHeight 13 = .ok (.iload_n 1, 1) := by decide +kernel
theorem dX11_columnHeight_14 : decode cX11_columnHeight 14 = .ok (.invokevirtual 112, 3) := by decide +kernel
theorem dX11_columnHeight_17 : decode cX11_columnHeight 17 = .ok (.ireturn, 1) := by decide +kernel
set_option maxRecDepth 20000 in
theorem ggX11_overloaded_X11_isWrong : GoodIn wsX11_overloaded wsX11_isWrong := goodIn_ca (goodIn_r _ [6, 7, 8, 9, 5, 10, 11, 12, 13, 14, 15, 16, 17, 18, 19, 20, 21, 1, 22, 23, 24, 25, 26, 27, 28, 29, 30, 35, 36, 37, 38, 39, 40, 41, 42, 43, 44, 45, 46, 47, 48, 49, 50, 51, 52, 53, 54, 55, 56] (by decide +kernel) (by decide +kernel)) (goodIn_sub (fun _ h => List.mem_cons_of_mem _ (List.mem_append_right _ h)) (by decide +kernel))
set_option maxRecDepth 20000 in
theorem gX11_overloaded_X11_isWrong : GoodIn wsX11_overloaded (wsV RX11 122 RX11 yX11_isWrong wsX11_isWrong) := goodIn_app (goodIn_of _ (by decide +kernel)) ggX11_overloaded_X11_isWrong
set_option maxRecDepth 20000 in
theorem ggX11_overloaded_X11_breaks : GoodIn wsX11_overloaded wsX11_breaks := goodIn_ca (goodIn_r _ [34, 21, 22, 1, 27, 28, 29, 5, 30, 11, 35, 36, 37, 38, 39, 40, 41, 42, 43, 44, 45, 46, 47, 48, 49, 50, 51, 52, 53, 54, 55, 56] (by decide +kernel) (by decide +kernel)) (goodIn_sub (fun _ h => List.mem_cons_of_mem _ (List.mem_append_right _ h)) (by decide +kernel))
set_option maxRecDepth 20000 in
theorem gX11_overloaded_X11_breaks : GoodIn wsX11_overloaded (wsV RX11 101 RX11 yX11_breaks wsX11_breaks) := goodIn_app (goodIn_of _ (by decide +kernel)) ggX11_overloaded_X11_breaks
set_option maxRecDepth 20000 in
theorem ggX11_overloaded_X11_fails : GoodIn wsX11_overloaded wsX11_fails := goodIn_r _ [15, 16, 35, 36, 37, 38, 39, 40, 41, 42, 43, 44, 45, 46, 47, 48, 49, 50, 51, 52, 53, 54, 55, 56] (by decide +kernel) (by decide +kernel)
set_option maxRecDepth 20000 in
theorem gX11_overloaded_X11_fails : GoodIn wsX11_overloaded (wsV RX11 73 RX11 yX11_fails wsX11_fails) := goodIn_app (goodIn_of _ (by decide +kernel)) ggX11_overloaded_X11_fails
theorem dX11_overloaded_0 : decode cX11_overloaded 0 = .ok (.aload_n 0, 1) := by decide +kernel
theorem dX11_overloaded_1 : decode cX11_overloaded 1 = .ok (.iload_n 1, 1) := by decide +kernel
theorem dX11_overloaded_2 : decode cX11_overloaded 2 = .ok (.invokevirtual 122, 3) := by decide +kernel
theorem dX11_overloaded_5 : decode cX11_overloaded 5 = .ok (.ifCond .ne 22, 3) := by decide +kernel
theorem dX11_overloaded_8 : decode cX11_overloaded 8 = .ok (.aload_n 0, 1) := by decide +kernel
theorem dX11_overloaded_9 : decode cX11_overloaded 9 = .ok (.aload_n 0, 1) := by decide +kernel
theorem dX11_overloaded_10 : decode cX11_overloaded 10 = .ok (.invokevirtual 101, 3) := by decide +kernel
theorem dX11_overloaded_13 : decode cX11_overloaded 13 = .ok (.ifCond .ge 7, 3) := by decide +kernel
theorem dX11_overloaded_16 : decode cX11_overloaded 16 = .ok (.iconst 2, 1) := by decide +kernel
theorem dX11_overloaded_17 : decode cX11_overloaded 17 = .ok (.goto 4, 3) := by decide +kernel
theorem dX11_overloaded_20 : decode cX11_overloaded 20 = .ok (.iconst 0, 1) := by decide +kernel
theorem dX11_overloaded_21 : decode cX11_overloaded 21 = .ok (.invokevirtual 73, 3) := by decide +kernel
theorem dX11_overloaded_24 : decode cX11_overloaded 24 = .ok (.ifCond .eq 7, 3) := by decide +kernel
theorem dX11_overloaded_27 : decode cX11_overloaded 27 = .ok (.iconst 0, 1) := by decide +kernel
theorem dX11_overloaded_28 : decode cX11_overloaded 28 = .ok (.goto 12, 3) := by decide +kernel
theorem dX11_overloaded_31 : decode cX11_overloaded 31 = .ok (.aload_n 0, 1) := by decide +kernel
theorem dX11_overloaded_32 : decode cX11_overloaded 32 = .ok (.getfield 36, 3) := by decide +kernel
theorem dX11_overloaded_35 : decode cX11_overloaded 35 = .ok (.aload_n 0, 1) := by decide +kernel
theorem dX11_overloaded_36 : decode cX11_overloaded 36 = .ok (.invokevirtual 101, 3) := by decide +kernel
theorem dX11_overloaded_39 : decode cX11_overloaded 39 = .ok (.iaload, 1) := by decide +kernel
theorem dX11_overloaded_40 : decode cX11_overloaded 40 = .ok (.ireturn, 1) := by decide +kernel
set_option maxRecDepth 20000 in
theorem ggX11_damages_X11_isWrong : GoodIn wsX11_damages wsX11_isWrong := goodIn_ca (goodIn_r _ [5, 6, 7, 8, 4, 9, 10, 11, 12, 13, 14, 15, 16, 17, 18, 19, 20, 21, 22, 23, 24, 25, 26, 27, 28, 29, 30, 39, 40, 41, 42, 43, 44, 45, 46, 47, 48, 49, 50, 51, 52, 53, 54, 55, 56, 57, 58, 59, 60] (by decide +kernel) (by decide +kernel)) (goodIn_sub (fun _ h => List.mem_cons_of_mem _ (List.mem_append_right _ h)) (by decide +kernel))
set_option maxRecDepth 20000 in
theorem gX11_damages_X11_isWrong : GoodIn wsX11_damages (wsV RX11 122 RX11 yX11_isWrong wsX11_isWrong) := goodIn_app (goodIn_of _ (by decide +kernel)) ggX11_damages_X11_isWrong
set_option maxRecDepth 20000 in
theorem ggX11_damages_X11_costs : GoodIn wsX11_damages wsX11_costs := goodIn_ca (goodIn_r _ [34, 20, 35, 36, 37, 4, 38, 22, 21, 27, 28, 29, 30, 10, 39, 40, 41, 42, 43, 44, 45, 46, 47, 48, 49, 50, 51, 52, 53, 54, 55, 56, 57, 58, 59, 60] (by decide +kernel) (by decide +kernel)) (goodIn_sub (fun _ h => List.mem_cons_of_mem _ (List.mem_append_right _ h)) (by decide +kernel))
set_option maxRecDepth 20000 in
theorem gX11_damages_X11_costs : GoodIn wsX11_damages (wsV RX11 116 RX11 yX11_costs wsX11_costs) := goodIn_app (goodIn_of _ (by decide +kernel)) ggX11_damages_X11_costs
theorem dX11_damages_0 : decode cX11_damages 0 = .ok (.aload_n 0, 1) := by decide +kernel
theorem dX11_damages_1 : decode cX11_damages 1 = .ok (.iload_n 1, 1) := by decide +kernel
theorem dX11_damages_2 : decode cX11_damages 2 = .ok (.invokevirtual 122, 3) := by decide +kernel
theorem dX11_damages_5 : decode cX11_damages 5 = .ok (.ifCond .eq 7, 3) := by decide +kernel
theorem dX11_damages_8 : decode cX11_damages 8 = .ok (.iconst 0, 1) := by decide +kernel
theorem dX11_damages_9 : decode cX11_damages 9 = .ok (.goto 7, 3) := by decide +kernel
theorem dX11_damages_12 : decode cX11_damages 12 = .ok (.aload_n 0, 1) := by decide +kernel
theorem dX11_damages_13 : decode cX11_damages 13 = .ok (.invokevirtual 116, 3) := by decide +kernel
theorem dX11_damages_16 : decode cX11_damages 16 = .ok (.ireturn, 1) := by decide +kernel
set_option maxRecDepth 20000 in
theorem ggX11_isCovered_X11_isWrong : GoodIn wsX11_isCovered wsX11_isWrong := goodIn_ca (goodIn_r _ [6, 7, 8, 9, 5, 10, 1, 11, 12, 13, 14, 15, 16, 17, 18, 19, 20, 21, 22, 23, 24, 25, 26, 27, 28, 29, 30, 39, 40, 41, 42, 43, 44, 45, 46, 47, 48, 49, 50, 51, 52, 53, 54, 55, 56, 57, 58, 59, 60] (by decide +kernel) (by decide +kernel)) (goodIn_sub (fun _ h => List.mem_cons_of_mem _ (List.mem_append_right _ h)) (by decide +kernel))
set_option maxRecDepth 20000 in
theorem gX11_isCovered_X11_isWrong : GoodIn wsX11_isCovered (wsV RX11 122 RX11 yX11_isWrong wsX11_isWrong) := goodIn_app (goodIn_of _ (by decide +kernel)) ggX11_isCovered_X11_isWrong
set_option maxRecDepth 20000 in
theorem ggX11_isCovered_X11_costs : GoodIn wsX11_isCovered wsX11_costs := goodIn_ca (goodIn_r _ [34, 20, 35, 36, 37, 5, 38, 22, 21, 27, 28, 29, 30, 1, 39, 40, 41, 42, 43, 44, 45, 46, 47, 48, 49, 50, 51, 52, 53, 54, 55, 56, 57, 58, 59, 60] (by decide +kernel) (by decide +kernel)) (goodIn_sub (fun _ h => List.mem_cons_of_mem _ (List.mem_append_right _ h)) (by decide +kernel))
set_option maxRecDepth 20000 in
theorem gX11_isCovered_X11_costs : GoodIn wsX11_isCovered (wsV RX11 116 RX11 yX11_costs wsX11_costs) := goodIn_app (goodIn_of _ (by decide +kernel)) ggX11_isCovered_X11_costs
theorem dX11_isCovered_0 : decode cX11_isCovered 0 = .ok (.aload_n 0, 1) := by decide +kernel
theorem dX11_isCovered_1 : decode cX11_isCovered 1 = .ok (.iload_n 1, 1) := by decide +kernel
theorem dX11_isCovered_2 : decode cX11_isCovered 2 = .ok (.invokevirtual 122, 3) := by decide +kernel
theorem dX11_isCovered_5 : decode cX11_isCovered 5 = .ok (.ifCond .ne 21, 3) := by decide +kernel
theorem dX11_isCovered_8 : decode cX11_isCovered 8 = .ok (.aload_n 0, 1) := by decide +kernel
theorem dX11_isCovered_9 : decode cX11_isCovered 9 = .ok (.getfield 7, 3) := by decide +kernel
theorem dX11_isCovered_12 : decode cX11_isCovered 12 = .ok (.bipush 37, 2) := by decide +kernel
theorem dX11_isCovered_14 : decode cX11_isCovered 14 = .ok (.iaload, 1) := by decide +kernel
theorem dX11_isCovered_15 : decode cX11_isCovered 15 = .ok (.aload_n 0, 1) := by decide +kernel
theorem dX11_isCovered_16 : decode cX11_isCovered 16 = .ok (.invokevirtual 116, 3) := by decide +kernel
theorem dX11_isCovered_19 : decode cX11_isCovered 19 = .ok (.if_icmp .lt 7, 3) := by decide +kernel
theorem dX11_isCovered_22 : decode cX11_isCovered 22 = .ok (.iconst 1, 1) := by decide +kernel
theorem dX11_isCovered_23 : decode cX11_isCovered 23 = .ok (.goto 4, 3) := by decide +kernel
theorem dX11_isCovered_26 : decode cX11_isCovered 26 = .ok (.iconst 0, 1) := by decide +kernel
theorem dX11_isCovered_27 : decode cX11_isCovered 27 = .ok (.ireturn, 1) := by decide +kernel
set_option maxRecDepth 20000 in
theorem ggX11_best_X11_areHurt : GoodIn wsX11_best wsX11_areHurt := goodIn_ca (goodIn_r _ [6, 1, 7, 8, 9, 5, 10, 30, 31, 32, 33, 34, 35, 36, 37, 38, 39, 40, 41, 42, 43, 44, 45, 46, 47, 48, 49, 50, 51] (by decide +kernel) (by decide +kernel)) (goodIn_sub (fun _ h => List.mem_cons_of_mem _ (List.mem_append_right _ h)) (by decide +kernel))
set_option maxRecDepth 20000 in
theorem gX11_best_X11_areHurt : GoodIn wsX11_best (wsV RX11 125 RX11 yX11_areHurt wsX11_areHurt) := goodIn_app (goodIn_of _ (by decide +kernel)) ggX11_best_X11_areHurt
set_option maxRecDepth 20000 in
theorem ggX11_best_X11_tall : GoodIn wsX11_best wsX11_tall := goodIn_ca (goodIn_r _ [14, 1, 7, 8, 9, 5, 10, 30, 31, 32, 33, 34, 35, 36, 37, 38, 39, 40, 41, 42, 43, 44, 45, 46, 47, 48, 49, 50, 51] (by decide +kernel) (by decide +kernel)) (goodIn_sub (fun _ h => List.mem_cons_of_mem _ (List.mem_append_right _ h)) (by decide +kernel))
set_option maxRecDepth 20000 in
theorem gX11_best_X11_tall : GoodIn wsX11_best (wsV RX11 112 RX11 yX11_tall wsX11_tall) := goodIn_app (goodIn_of _ (by decide +kernel)) ggX11_best_X11_tall
set_option maxRecDepth 20000 in
theorem ggX11_best_X11_lays : GoodIn wsX11_best wsX11_lays := goodIn_ca (goodIn_r _ [18, 19, 1, 20, 21, 22, 23, 24, 5, 25, 7, 8, 9, 10, 30, 31, 32, 33, 34, 35, 36, 37, 38, 39, 40, 41, 42, 43, 44, 45, 46, 47, 48, 49, 50, 51] (by decide +kernel) (by decide +kernel)) (goodIn_sub (fun _ h => List.mem_cons_of_mem _ (List.mem_append_right _ h)) (by decide +kernel))
set_option maxRecDepth 20000 in
theorem gX11_best_X11_lays : GoodIn wsX11_best (wsV RX11 108 RX11 yX11_lays wsX11_lays) := goodIn_app (goodIn_of _ (by decide +kernel)) ggX11_best_X11_lays
set_option maxRecDepth 20000 in
theorem ggX11_best_X11_breaks : GoodIn wsX11_best wsX11_breaks := goodIn_ca (goodIn_r _ [29, 19, 21, 20, 7, 8, 9, 5, 10, 1, 30, 31, 32, 33, 34, 35, 36, 37, 38, 39, 40, 41, 42, 43, 44, 45, 46, 47, 48, 49, 50, 51] (by decide +kernel) (by decide +kernel)) (goodIn_sub (fun _ h => List.mem_cons_of_mem _ (List.mem_append_right _ h)) (by decide +kernel))
set_option maxRecDepth 20000 in
theorem gX11_best_X11_breaks : GoodIn wsX11_best (wsV RX11 101 RX11 yX11_breaks wsX11_breaks) := goodIn_app (goodIn_of _ (by decide +kernel)) ggX11_best_X11_breaks
theorem dX11_best_0 : decode cX11_best 0 = .ok (.iconst 0, 1) := by decide +kernel
theorem dX11_best_1 : decode cX11_best 1 = .ok (.istore_n 1, 1) := by decide +kernel
theorem dX11_best_2 : decode cX11_best 2 = .ok (.iconst 1, 1) := by decide +kernel
theorem dX11_best_3 : decode cX11_best 3 = .ok (.istore_n 2, 1) := by decide +kernel
theorem dX11_best_4 : decode cX11_best 4 = .ok (.iload_n 2, 1) := by decide +kernel
theorem dX11_best_5 : decode cX11_best 5 = .ok (.iconst 1, 1) := by decide +kernel
theorem dX11_best_6 : decode cX11_best 6 = .ok (.aload_n 0, 1) := by decide +kernel
theorem dX11_best_7 : decode cX11_best 7 = .ok (.getfield 7, 3) := by decide +kernel
theorem dX11_best_10 : decode cX11_best 10 = .ok (.iconst 0, 1) := by decide +kernel
theorem dX11_best_11 : decode cX11_best 11 = .ok (.iaload, 1) := by decide +kernel
theorem dX11_best_12 : decode cX11_best 12 = .ok (.ishl, 1) := by decide +kernel
theorem dX11_best_13 : decode cX11_best 13 = .ok (.if_icmp .ge 47, 3) := by decide +kernel
theorem dX11_best_16 : decode cX11_best 16 = .ok (.aload_n 0, 1) := by decide +kernel
theorem dX11_best_17 : decode cX11_best 17 = .ok (.iload_n 2, 1) := by decide +kernel
theorem dX11_best_18 : decode cX11_best 18 = .ok (.invokevirtual 125, 3) := by decide +kernel
theorem dX11_best_21 : decode cX11_best 21 = .ok (.ifCond .ne 33, 3) := by decide +kernel
theorem dX11_best_24 : decode cX11_best 24 = .ok (.aload_n 0, 1) := by decide +kernel
theorem dX11_best_25 : decode cX11_best 25 = .ok (.iload_n 2, 1) := by decide +kernel
theorem dX11_best_26 : decode cX11_best 26 = .ok (.invokevirtual 112, 3) := by decide +kernel
theorem dX11_best_29 : decode cX11_best 29 = .ok (.aload_n 0, 1) := by decide +kernel
theorem dX11_best_30 : decode cX11_best 30 = .ok (.iload_n 1, 1) := by decide +kernel
theorem dX11_best_31 : decode cX11_best 31 = .ok (.invokevirtual 112, 3) := by decide +kernel
theorem dX11_best_34 : decode cX11_best 34 = .ok (.if_icmp .gt 6, 3) := by decide +kernel
theorem dX11_best_37 : decode cX11_best 37 = .ok (.goto 17, 3) := by decide +kernel
theorem dX11_best_40 : decode cX11_best 40 = .ok (.aload_n 0, 1) := by decide +kernel
theorem dX11_best_41 : decode cX11_best 41 = .ok (.iload_n 2, 1) := by decide +kernel
theorem dX11_best_42 : decode cX11_best 42 = .ok (.invokevirtual 108, 3) := by decide +kernel
theorem dX11_best_45 : decode cX11_best 45 = .ok (.aload_n 0, 1) := by decide +kernel
theorem dX11_best_46 : decode cX11_best 46 = .ok (.invokevirtual 101, 3) := by decide +kernel
theorem dX11_best_49 : decode cX11_best 49 = .ok (.ifCond .ge 5, 3) := by decide +kernel
theorem dX11_best_52 : decode cX11_best 52 = .ok (.iload_n 2, 1) := by decide +kernel
theorem dX11_best_53 : decode cX11_best 53 = .ok (.istore_n 1, 1) := by decide +kernel
theorem dX11_best_54 : decode cX11_best 54 = .ok (.iinc 2 1, 3) := by decide +kernel
theorem dX11_best_57 : decode cX11_best 57 = .ok (.goto (-53), 3) := by decide +kernel
theorem dX11_best_60 : decode cX11_best 60 = .ok (.iload_n 1, 1) := by decide +kernel
theorem dX11_best_61 : decode cX11_best 61 = .ok (.ireturn, 1) := by decide +kernel
set_option maxRecDepth 20000 in
theorem ggX11_bestHeight_X11_best : GoodIn wsX11_bestHeight wsX11_best := goodIn_ca (goodIn_r _ [6, 7, 8, 9, 10, 5, 11, 12, 13, 14, 15, 16, 17, 18, 19, 20, 21, 22, 23, 24, 25, 26, 27, 28, 29, 30, 31, 32, 33, 34, 35, 36, 37, 38, 39, 40, 41, 42, 43, 44, 45, 46, 47, 48, 49, 50, 51, 52, 53, 54, 55, 56] (by decide +kernel) (by decide +kernel)) (goodIn_sub (fun _ h => List.mem_cons_of_mem _ (List.mem_append_right _ h)) (by decide +kernel))
set_option maxRecDepth 20000 in
theorem gX11_bestHeight_X11_best : GoodIn wsX11_bestHeight (wsV RX11 146 RX11 yX11_best wsX11_best) := goodIn_app (goodIn_of _ (by decide +kernel)) ggX11_bestHeight_X11_best
set_option maxRecDepth 20000 in
theorem ggX11_bestHeight_X11_tall : GoodIn wsX11_bestHeight wsX11_tall := goodIn_ca (goodIn_r _ [19, 7, 12, 13, 14, 5, 15, 35, 36, 37, 38, 39, 40, 41, 42, 43, 44, 45, 46, 47, 48, 49, 50, 51, 52, 53, 54, 55, 56] (by decide +kernel) (by decide +kernel)) (goodIn_sub (fun _ h => List.mem_cons_of_mem _ (List.mem_append_right _ h)) (by decide +kernel))
set_option maxRecDepth 20000 in
theorem gX11_bestHeight_X11_tall : GoodIn wsX11_bestHeight (wsV RX11 112 RX11 yX11_tall wsX11_tall) := goodIn_app (goodIn_of _ (by decide +kernel)) ggX11_bestHeight_X11_tall
theorem dX11_bestHeight_0 : decode cX11_bestHeight 0 = .ok (.aload_n 0, 1) := by decide +kernel
theorem dX11_bestHeight_1 : decode cX11_bestHeight 1 = .ok (.iconst 0, 1) := by decide +kernel
theorem dX11_bestHeight_2 : decode cX11_bestHeight 2 = .ok (.putfield 51, 3) := by decide +kernel
theorem dX11_bestHeight_5 : decode cX11_bestHeight 5 = .ok (.aload_n 0, 1) := by decide +kernel
theorem dX11_bestHeight_6 : decode cX11_bestHeight 6 = .ok (.aload_n 0, 1) := by decide +kernel
theorem dX11_bestHeight_7 : decode cX11_bestHeight 7 = .ok (.invokevirtual 146, 3) := by decide +kernel
theorem dX11_bestHeight_10 : decode cX11_bestHeight 10 = .ok (.invokevirtual 112, 3) := by decide +kernel
theorem dX11_bestHeight_13 : decode cX11_bestHeight 13 = .ok (.ireturn, 1) := by decide +kernel
set_option maxRecDepth 20000 in
theorem ggX11_bestHeightBySearch_X11_best : GoodIn wsX11_bestHeightBySearch wsX11_best := goodIn_ca (goodIn_r _ [6, 7, 8, 9, 10, 5, 11, 12, 13, 14, 15, 16, 17, 18, 19, 20, 21, 22, 23, 24, 25, 26, 27, 28, 29, 30, 31, 32, 33, 34, 35, 36, 37, 38, 39, 40, 41, 42, 43, 44, 45, 46, 47, 48, 49, 50, 51, 52, 53, 54, 55, 56] (by decide +kernel) (by decide +kernel)) (goodIn_sub (fun _ h => List.mem_cons_of_mem _ (List.mem_append_right _ h)) (by decide +kernel))
set_option maxRecDepth 20000 in
theorem gX11_bestHeightBySearch_X11_best : GoodIn wsX11_bestHeightBySearch (wsV RX11 146 RX11 yX11_best wsX11_best) := goodIn_app (goodIn_of _ (by decide +kernel)) ggX11_bestHeightBySearch_X11_best
set_option maxRecDepth 20000 in
theorem ggX11_bestHeightBySearch_X11_tall : GoodIn wsX11_bestHeightBySearch wsX11_tall := goodIn_ca (goodIn_r _ [19, 7, 12, 13, 14, 5, 15, 35, 36, 37, 38, 39, 40, 41, 42, 43, 44, 45, 46, 47, 48, 49, 50, 51, 52, 53, 54, 55, 56] (by decide +kernel) (by decide +kernel)) (goodIn_sub (fun _ h => List.mem_cons_of_mem _ (List.mem_append_right _ h)) (by decide +kernel))
set_option maxRecDepth 20000 in
theorem gX11_bestHeightBySearch_X11_tall : GoodIn wsX11_bestHeightBySearch (wsV RX11 112 RX11 yX11_tall wsX11_tall) := goodIn_app (goodIn_of _ (by decide +kernel)) ggX11_bestHeightBySearch_X11_tall
theorem dX11_bestHeightBySearch_0 : decode cX11_bestHeightBySearch 0 = .ok (.aload_n 0, 1) := by decide +kernel
theorem dX11_bestHeightBySearch_1 : decode cX11_bestHeightBySearch 1 = .ok (.iconst 0, 1) := by decide +kernel
theorem dX11_bestHeightBySearch_2 : decode cX11_bestHeightBySearch 2 = .ok (.putfield 51, 3) := by decide +kernel
theorem dX11_bestHeightBySearch_5 : decode cX11_bestHeightBySearch 5 = .ok (.aload_n 0, 1) := by decide +kernel
theorem dX11_bestHeightBySearch_6 : decode cX11_bestHeightBySearch 6 = .ok (.aload_n 0, 1) := by decide +kernel
theorem dX11_bestHeightBySearch_7 : decode cX11_bestHeightBySearch 7 = .ok (.invokevirtual 146, 3) := by decide +kernel
theorem dX11_bestHeightBySearch_10 : decode cX11_bestHeightBySearch 10 = .ok (.invokevirtual 112, 3) := by decide +kernel
theorem dX11_bestHeightBySearch_13 : decode cX11_bestHeightBySearch 13 = .ok (.ireturn, 1) := by decide +kernel
set_option maxRecDepth 20000 in
theorem ggX11_bestColumn_X11_best : GoodIn wsX11_bestColumn wsX11_best := goodIn_ca (goodIn_r _ [6, 7, 8, 9, 10, 5, 11, 12, 13, 14, 15, 16, 17, 18, 19, 20, 21, 22, 23, 24, 25, 26, 27, 28, 29, 30, 31, 32, 33, 34, 35, 36, 37, 38, 39, 40, 41, 42, 43, 44, 45, 46, 47, 48, 49, 50, 51, 52, 53, 54, 55, 56] (by decide +kernel) (by decide +kernel)) (goodIn_sub (fun _ h => List.mem_cons_of_mem _ (List.mem_append_right _ h)) (by decide +kernel))
set_option maxRecDepth 20000 in
theorem gX11_bestColumn_X11_best : GoodIn wsX11_bestColumn (wsV RX11 146 RX11 yX11_best wsX11_best) := goodIn_app (goodIn_of _ (by decide +kernel)) ggX11_bestColumn_X11_best
theorem dX11_bestColumn_0 : decode cX11_bestColumn 0 = .ok (.aload_n 0, 1) := by decide +kernel
theorem dX11_bestColumn_1 : decode cX11_bestColumn 1 = .ok (.iconst 0, 1) := by decide +kernel
theorem dX11_bestColumn_2 : decode cX11_bestColumn 2 = .ok (.putfield 51, 3) := by decide +kernel
theorem dX11_bestColumn_5 : decode cX11_bestColumn 5 = .ok (.aload_n 0, 1) := by decide +kernel
theorem dX11_bestColumn_6 : decode cX11_bestColumn 6 = .ok (.invokevirtual 146, 3) := by decide +kernel
theorem dX11_bestColumn_9 : decode cX11_bestColumn 9 = .ok (.ireturn, 1) := by decide +kernel
set_option maxRecDepth 20000 in
theorem ggX11_safe_X11_of : GoodIn wsX11_safe wsX11_of := goodIn_ca (goodIn_r _ [8, 9, 10, 11, 12, 13, 14, 15, 16, 17, 18, 19, 20, 21, 22, 23, 24, 25, 26, 27, 28, 29, 30, 31] (by decide +kernel) (by decide +kernel)) (goodIn_sub (fun _ h => List.mem_cons_of_mem _ (List.mem_append_right _ h)) (by decide +kernel))
set_option maxRecDepth 20000 in
theorem gX11_safe_X11_of : GoodIn wsX11_safe (wsV RX11 91 RX11 yX11_of wsX11_of) := goodIn_app (goodIn_of _ (by decide +kernel)) ggX11_safe_X11_of
theorem dX11_safe_0 : decode cX11_safe 0 = .ok (.fconst 0, 1) := by decide +kernel
theorem dX11_safe_1 : decode cX11_safe 1 = .ok (.fstore_n 1, 1) := by decide +kernel
theorem dX11_safe_2 : decode cX11_safe 2 = .ok (.iconst 0, 1) := by decide +kernel
theorem dX11_safe_3 : decode cX11_safe 3 = .ok (.istore_n 2, 1) := by decide +kernel
theorem dX11_safe_4 : decode cX11_safe 4 = .ok (.iload_n 2, 1) := by decide +kernel
theorem dX11_safe_5 : decode cX11_safe 5 = .ok (.aload_n 0, 1) := by decide +kernel
theorem dX11_safe_6 : decode cX11_safe 6 = .ok (.getfield 95, 3) := by decide +kernel
theorem dX11_safe_9 : decode cX11_safe 9 = .ok (.iconst 1, 1) := by decide +kernel
theorem dX11_safe_10 : decode cX11_safe 10 = .ok (.isub, 1) := by decide +kernel
theorem dX11_safe_11 : decode cX11_safe 11 = .ok (.if_icmp .ge 42, 3) := by decide +kernel
theorem dX11_safe_14 : decode cX11_safe 14 = .ok (.aload_n 0, 1) := by decide +kernel
theorem dX11_safe_15 : decode cX11_safe 15 = .ok (.aload_n 0, 1) := by decide +kernel
theorem dX11_safe_16 : decode cX11_safe 16 = .ok (.getfield 36, 3) := by decide +kernel
theorem dX11_safe_19 : decode cX11_safe 19 = .ok (.iload_n 2, 1) := by decide +kernel
theorem dX11_safe_20 : decode cX11_safe 20 = .ok (.iaload, 1) := by decide +kernel
theorem dX11_safe_21 : decode cX11_safe 21 = .ok (.iconst 1, 1) := by decide +kernel
theorem dX11_safe_22 : decode cX11_safe 22 = .ok (.invokevirtual 91, 3) := by decide +kernel
theorem dX11_safe_25 : decode cX11_safe 25 = .ok (.i2f, 1) := by decide +kernel
theorem dX11_safe_26 : decode cX11_safe 26 = .ok (.aload_n 0, 1) := by decide +kernel
theorem dX11_safe_27 : decode cX11_safe 27 = .ok (.getfield 39, 3) := by decide +kernel
theorem dX11_safe_30 : decode cX11_safe 30 = .ok (.iload_n 2, 1) := by decide +kernel
theorem dX11_safe_31 : decode cX11_safe 31 = .ok (.iaload, 1) := by decide +kernel
theorem dX11_safe_32 : decode cX11_safe 32 = .ok (.i2f, 1) := by decide +kernel
theorem dX11_safe_33 : decode cX11_safe 33 = .ok (.fdiv, 1) := by decide +kernel
theorem dX11_safe_34 : decode cX11_safe 34 = .ok (.fstore_n 3, 1) := by decide +kernel
theorem dX11_safe_35 : decode cX11_safe 35 = .ok (.iload_n 2, 1) := by decide +kernel
theorem dX11_safe_36 : decode cX11_safe 36 = .ok (.ifCond .eq 9, 3) := by decide +kernel
theorem dX11_safe_39 : decode cX11_safe 39 = .ok (.fload_n 3, 1) := by decide +kernel
theorem dX11_safe_40 : decode cX11_safe 40 = .ok (.fload_n 1, 1) := by decide +kernel
theorem dX11_safe_41 : decode cX11_safe 41 = .ok (.fcmp .g, 1) := by decide +kernel
theorem dX11_safe_42 : decode cX11_safe 42 = .ok (.ifCond .ge 5, 3) := by decide +kernel
theorem dX11_safe_45 : decode cX11_safe 45 = .ok (.fload_n 3, 1) := by decide +kernel
theorem dX11_safe_46 : decode cX11_safe 46 = .ok (.fstore_n 1, 1) := by decide +kernel
theorem dX11_safe_47 : decode cX11_safe 47 = .ok (.iinc 2 1, 3) := by decide +kernel
theorem dX11_safe_50 : decode cX11_safe 50 = .ok (.goto (-46), 3) := by decide +kernel
theorem dX11_safe_53 : decode cX11_safe 53 = .ok (.fload_n 1, 1) := by decide +kernel
theorem dX11_safe_54 : decode cX11_safe 54 = .ok (.freturn, 1) := by decide +kernel
set_option maxRecDepth 20000 in
theorem ggX11_safety_X11_isWrong : GoodIn wsX11_safety wsX11_isWrong := goodIn_ca (goodIn_r _ [6, 7, 8, 9, 5, 10, 11, 12, 13, 14, 15, 16, 17, 18, 19, 20, 1, 21, 22, 23, 24, 25, 26, 27, 28, 29, 30, 35, 36, 37, 38, 39, 40, 41, 42, 43, 44, 45, 46, 47, 48, 49, 50, 51, 52, 53, 54, 55, 56] (by decide +kernel) (by decide +kernel)) (goodIn_sub (fun _ h => List.mem_cons_of_mem _ (List.mem_append_right _ h)) (by decide +kernel))
set_option maxRecDepth 20000 in
theorem gX11_safety_X11_isWrong : GoodIn wsX11_safety (wsV RX11 122 RX11 yX11_isWrong wsX11_isWrong) := goodIn_app (goodIn_of _ (by decide +kernel)) ggX11_safety_X11_isWrong
set_option maxRecDepth 20000 in
theorem ggX11_safety_X11_fails : GoodIn wsX11_safety wsX11_fails := goodIn_r _ [15, 16, 35, 36, 37, 38, 39, 40, 41, 42, 43, 44, 45, 46, 47, 48, 49, 50, 51, 52, 53, 54, 55, 56] (by decide +kernel) (by decide +kernel)
set_option maxRecDepth 20000 in
theorem gX11_safety_X11_fails : GoodIn wsX11_safety (wsV RX11 73 RX11 yX11_fails wsX11_fails) := goodIn_app (goodIn_of _ (by decide +kernel)) ggX11_safety_X11_fails
set_option maxRecDepth 20000 in
theorem ggX11_safety_X11_safe : GoodIn wsX11_safety wsX11_safe := goodIn_ca (goodIn_r _ [34, 1, 21, 22, 27, 28, 29, 5, 30, 11, 35, 36, 37, 38, 39, 40, 41, 42, 43, 44, 45, 46, 47, 48, 49, 50, 51, 52, 53, 54, 55, 56] (by decide +kernel) (by decide +kernel)) (goodIn_sub (fun _ h => List.mem_cons_of_mem _ (List.mem_append_right _ h)) (by decide +kernel))
set_option maxRecDepth 20000 in
theorem gX11_safety_X11_safe : GoodIn wsX11_safety (wsV RX11 149 RX11 yX11_safe wsX11_safe) := goodIn_app (goodIn_of _ (by decide +kernel)) ggX11_safety_X11_safe
theorem dX11_safety_0 : decode cX11_safety 0 = .ok (.aload_n 0, 1) := by decide +kernel
theorem dX11_safety_1 : decode cX11_safety 1 = .ok (.iload_n 1, 1) := by decide +kernel
theorem dX11_safety_2 : decode cX11_safety 2 = .ok (.invokevirtual 122, 3) := by decide +kernel
theorem dX11_safety_5 : decode cX11_safety 5 = .ok (.ifCond .ne 23, 3) := by decide +kernel
theorem dX11_safety_8 : decode cX11_safety 8 = .ok (.aload_n 0, 1) := by decide +kernel
theorem dX11_safety_9 : decode cX11_safety 9 = .ok (.aload_n 0, 1) := by decide +kernel
theorem dX11_safety_10 : decode cX11_safety 10 = .ok (.getfield 95, 3) := by decide +kernel
theorem dX11_safety_13 : decode cX11_safety 13 = .ok (.iconst 1, 1) := by decide +kernel
theorem dX11_safety_14 : decode cX11_safety 14 = .ok (.if_icmp .ne 7, 3) := by decide +kernel
theorem dX11_safety_17 : decode cX11_safety 17 = .ok (.iconst 2, 1) := by decide +kernel
theorem dX11_safety_18 : decode cX11_safety 18 = .ok (.goto 4, 3) := by decide +kernel
theorem dX11_safety_21 : decode cX11_safety 21 = .ok (.iconst 0, 1) := by decide +kernel
theorem dX11_safety_22 : decode cX11_safety 22 = .ok (.invokevirtual 73, 3) := by decide +kernel
theorem dX11_safety_25 : decode cX11_safety 25 = .ok (.ifCond .eq 7, 3) := by decide +kernel
theorem dX11_safety_28 : decode cX11_safety 28 = .ok (.fconst 0, 1) := by decide +kernel
theorem dX11_safety_29 : decode cX11_safety 29 = .ok (.goto 7, 3) := by decide +kernel
theorem dX11_safety_32 : decode cX11_safety 32 = .ok (.aload_n 0, 1) := by decide +kernel
theorem dX11_safety_33 : decode cX11_safety 33 = .ok (.invokevirtual 149, 3) := by decide +kernel
theorem dX11_safety_36 : decode cX11_safety 36 = .ok (.freturn, 1) := by decide +kernel
set_option maxRecDepth 20000 in
theorem ggX11_safetyBits_X11_isWrong : GoodIn wsX11_safetyBits wsX11_isWrong := goodIn_ca (goodIn_r _ [6, 7, 8, 9, 5, 10, 11, 12, 13, 14, 15, 16, 17, 18, 19, 20, 1, 21, 22, 23, 24, 25, 26, 27, 28, 29, 30, 47, 48, 49, 50, 51, 52, 53, 54, 55, 56, 57, 58, 59, 60, 61, 62, 63, 64, 65, 66, 67, 68] (by decide +kernel) (by decide +kernel)) (goodIn_sub (fun _ h => List.mem_cons_of_mem _ (List.mem_append_right _ h)) (by decide +kernel))
set_option maxRecDepth 20000 in
theorem gX11_safetyBits_X11_isWrong : GoodIn wsX11_safetyBits (wsV RX11 122 RX11 yX11_isWrong wsX11_isWrong) := goodIn_app (goodIn_of _ (by decide +kernel)) ggX11_safetyBits_X11_isWrong
set_option maxRecDepth 20000 in
theorem ggX11_safetyBits_X11_fails : GoodIn wsX11_safetyBits wsX11_fails := goodIn_r _ [15, 16, 47, 48, 49, 50, 51, 52, 53, 54, 55, 56, 57, 58, 59, 60, 61, 62, 63, 64, 65, 66, 67, 68] (by decide +kernel) (by decide +kernel)
set_option maxRecDepth 20000 in
theorem gX11_safetyBits_X11_fails : GoodIn wsX11_safetyBits (wsV RX11 73 RX11 yX11_fails wsX11_fails) := goodIn_app (goodIn_of _ (by decide +kernel)) ggX11_safetyBits_X11_fails
set_option maxRecDepth 20000 in
theorem ggX11_safetyBits_X11_safe : GoodIn wsX11_safetyBits wsX11_safe := goodIn_ca (goodIn_r _ [34, 1, 21, 22, 27, 28, 29, 5, 30, 11, 47, 48, 49, 50, 51, 52, 53, 54, 55, 56, 57, 58, 59, 60, 61, 62, 63, 64, 65, 66, 67, 68] (by decide +kernel) (by decide +kernel)) (goodIn_sub (fun _ h => List.mem_cons_of_mem _ (List.mem_append_right _ h)) (by decide +kernel))
set_option maxRecDepth 20000 in
theorem gX11_safetyBits_X11_safe : GoodIn wsX11_safetyBits (wsV RX11 149 RX11 yX11_safe wsX11_safe) := goodIn_app (goodIn_of _ (by decide +kernel)) ggX11_safetyBits_X11_safe
set_option maxRecDepth 20000 in
theorem ggX11_safetyBits_Jxf58ca_floatToIntBits_5c35a : GoodIn wsX11_safetyBits wsJxf58ca_floatToIntBits_5c35a := goodIn_r _ [38, 39, 40, 41, 42, 43, 44, 45, 37, 46] (by decide +kernel) (by decide +kernel)
set_option maxRecDepth 20000 in
theorem gX11_safetyBits_Jxf58ca_floatToIntBits_5c35a : GoodIn wsX11_safetyBits (va_wsS RX11 153 yJxf58ca_floatToIntBits_5c35a wsJxf58ca_floatToIntBits_5c35a) := goodIn_app (goodIn_of _ (by decide +kernel)) ggX11_safetyBits_Jxf58ca_floatToIntBits_5c35a
theorem dX11_safetyBits_0 : decode cX11_safetyBits 0 = .ok (.aload_n 0, 1) := by decide +kernel
theorem dX11_safetyBits_1 : decode cX11_safetyBits 1 = .ok (.iload_n 1, 1) := by decide +kernel
theorem dX11_safetyBits_2 : decode cX11_safetyBits 2 = .ok (.invokevirtual 122, 3) := by decide +kernel
theorem dX11_safetyBits_5 : decode cX11_safetyBits 5 = .ok (.ifCond .ne 23, 3) := by decide +kernel
theorem dX11_safetyBits_8 : decode cX11_safetyBits 8 = .ok (.aload_n 0, 1) := by decide +kernel
theorem dX11_safetyBits_9 : decode cX11_safetyBits 9 = .ok (.aload_n 0, 1) := by decide +kernel
theorem dX11_safetyBits_10 : decode cX11_safetyBits 10 = .ok (.getfield 95, 3) := by decide +kernel
theorem dX11_safetyBits_13 : decode cX11_safetyBits 13 = .ok (.iconst 1, 1) := by decide +kernel
theorem dX11_safetyBits_14 : decode cX11_safetyBits 14 = .ok (.if_icmp .ne 7, 3) := by decide +kernel
theorem dX11_safetyBits_17 : decode cX11_safetyBits 17 = .ok (.iconst 2, 1) := by decide +kernel
theorem dX11_safetyBits_18 : decode cX11_safetyBits 18 = .ok (.goto 4, 3) := by decide +kernel
theorem dX11_safetyBits_21 : decode cX11_safetyBits 21 = .ok (.iconst 0, 1) := by decide +kernel
theorem dX11_safetyBits_22 : decode cX11_safetyBits 22 = .ok (.invokevirtual 73, 3) := by decide +kernel
theorem dX11_safetyBits_25 : decode cX11_safetyBits 25 = .ok (.ifCond .eq 7, 3) := by decide +kernel
theorem dX11_safetyBits_28 : decode cX11_safetyBits 28 = .ok (.iconst 0, 1) := by decide +kernel
theorem dX11_safetyBits_29 : decode cX11_safetyBits 29 = .ok (.goto 10, 3) := by decide +kernel
theorem dX11_safetyBits_32 : decode cX11_safetyBits 32 = .ok (.aload_n 0, 1) := by decide +kernel
theorem dX11_safetyBits_33 : decode cX11_safetyBits 33 = .ok (.invokevirtual 149, 3) := by decide +kernel
theorem dX11_safetyBits_36 : decode cX11_safetyBits 36 = .ok (.invokestatic 153, 3) := by decide +kernel
theorem dX11_safetyBits_39 : decode cX11_safetyBits 39 = .ok (.ireturn, 1) := by decide +kernel
theorem dX11_accountCount_0 : decode cX11_accountCount 0 = .ok (.aload_n 0, 1) := by decide +kernel
theorem dX11_accountCount_1 : decode cX11_accountCount 1 = .ok (.iconst 0, 1) := by decide +kernel
theorem dX11_accountCount_2 : decode cX11_accountCount 2 = .ok (.putfield 51, 3) := by decide +kernel
theorem dX11_accountCount_5 : decode cX11_accountCount 5 = .ok (.iconst 5, 1) := by decide +kernel
theorem dX11_accountCount_6 : decode cX11_accountCount 6 = .ok (.aload_n 0, 1) := by decide +kernel
theorem dX11_accountCount_7 : decode cX11_accountCount 7 = .ok (.getfield 7, 3) := by decide +kernel
theorem dX11_accountCount_10 : decode cX11_accountCount 10 = .ok (.iconst 0, 1) := by decide +kernel
theorem dX11_accountCount_11 : decode cX11_accountCount 11 = .ok (.iaload, 1) := by decide +kernel
theorem dX11_accountCount_12 : decode cX11_accountCount 12 = .ok (.iadd, 1) := by decide +kernel
theorem dX11_accountCount_13 : decode cX11_accountCount 13 = .ok (.ireturn, 1) := by decide +kernel
set_option maxRecDepth 20000 in
theorem ggX11_isLost_X11_isAccount : GoodIn wsX11_isLost wsX11_isAccount := goodIn_ca (goodIn_r _ [5, 6, 7, 8, 4, 9, 15, 16, 17, 18, 19, 20, 21, 22, 23, 24, 25, 26, 27, 28, 29, 30, 31, 32, 33, 34, 35, 36] (by decide +kernel) (by decide +kernel)) (goodIn_sub (fun _ h => List.mem_cons_of_mem _ (List.mem_append_right _ h)) (by decide +kernel))
set_option maxRecDepth 20000 in
theorem gX11_isLost_X11_isAccount : GoodIn wsX11_isLost (wsV RX11 80 RX11 yX11_isAccount wsX11_isAccount) := goodIn_app (goodIn_of _ (by decide +kernel)) ggX11_isLost_X11_isAccount
set_option maxRecDepth 20000 in
theorem ggX11_isLost_X11_fails : GoodIn wsX11_isLost wsX11_fails := goodIn_r _ [13, 14, 15, 16, 17, 18, 19, 20, 21, 22, 23, 24, 25, 26, 27, 28, 29, 30, 31, 32, 33, 34, 35, 36] (by decide +kernel) (by decide +kernel)
set_option maxRecDepth 20000 in
theorem gX11_isLost_X11_fails : GoodIn wsX11_isLost (wsV RX11 73 RX11 yX11_fails wsX11_fails) := goodIn_app (goodIn_of _ (by decide +kernel)) ggX11_isLost_X11_fails
theorem dX11_isLost_0 : decode cX11_isLost 0 = .ok (.aload_n 0, 1) := by decide +kernel
theorem dX11_isLost_1 : decode cX11_isLost 1 = .ok (.aload_n 0, 1) := by decide +kernel
theorem dX11_isLost_2 : decode cX11_isLost 2 = .ok (.iload_n 1, 1) := by decide +kernel
theorem dX11_isLost_3 : decode cX11_isLost 3 = .ok (.invokevirtual 80, 3) := by decide +kernel
theorem dX11_isLost_6 : decode cX11_isLost 6 = .ok (.ifCond .eq 7, 3) := by decide +kernel
theorem dX11_isLost_9 : decode cX11_isLost 9 = .ok (.iconst 0, 1) := by decide +kernel
theorem dX11_isLost_10 : decode cX11_isLost 10 = .ok (.goto 4, 3) := by decide +kernel
theorem dX11_isLost_13 : decode cX11_isLost 13 = .ok (.iconst 1, 1) := by decide +kernel
theorem dX11_isLost_14 : decode cX11_isLost 14 = .ok (.invokevirtual 73, 3) := by decide +kernel
theorem dX11_isLost_17 : decode cX11_isLost 17 = .ok (.ireturn, 1) := by decide +kernel
set_option maxRecDepth 20000 in
theorem ggX11_balance_X11_isLost : GoodIn wsX11_balance wsX11_isLost := goodIn_ca (goodIn_r _ [6, 7, 8, 9, 5, 10, 1, 11, 12, 13, 14, 15, 16, 17, 18, 19, 20, 21, 22, 23, 24, 25, 26, 27, 28, 29, 30, 31, 32, 33, 34, 35, 36, 37, 38, 39, 40] (by decide +kernel) (by decide +kernel)) (goodIn_sub (fun _ h => List.mem_cons_of_mem _ (List.mem_append_right _ h)) (by decide +kernel))
set_option maxRecDepth 20000 in
theorem gX11_balance_X11_isLost : GoodIn wsX11_balance (wsV RX11 159 RX11 yX11_isLost wsX11_isLost) := goodIn_app (goodIn_of _ (by decide +kernel)) ggX11_balance_X11_isLost
theorem dX11_balance_0 : decode cX11_balance 0 = .ok (.aload_n 0, 1) := by decide +kernel
theorem dX11_balance_1 : decode cX11_balance 1 = .ok (.iload_n 1, 1) := by decide +kernel
theorem dX11_balance_2 : decode cX11_balance 2 = .ok (.invokevirtual 159, 3) := by decide +kernel
theorem dX11_balance_5 : decode cX11_balance 5 = .ok (.ifCond .eq 7, 3) := by decide +kernel
theorem dX11_balance_8 : decode cX11_balance 8 = .ok (.iconst 0, 1) := by decide +kernel
theorem dX11_balance_9 : decode cX11_balance 9 = .ok (.goto 12, 3) := by decide +kernel
theorem dX11_balance_12 : decode cX11_balance 12 = .ok (.aload_n 0, 1) := by decide +kernel
theorem dX11_balance_13 : decode cX11_balance 13 = .ok (.getfield 7, 3) := by decide +kernel
theorem dX11_balance_16 : decode cX11_balance 16 = .ok (.bipush 36, 2) := by decide +kernel
theorem dX11_balance_18 : decode cX11_balance 18 = .ok (.iload_n 1, 1) := by decide +kernel
theorem dX11_balance_19 : decode cX11_balance 19 = .ok (.iadd, 1) := by decide +kernel
theorem dX11_balance_20 : decode cX11_balance 20 = .ok (.iaload, 1) := by decide +kernel
theorem dX11_balance_21 : decode cX11_balance 21 = .ok (.ireturn, 1) := by decide +kernel
set_option maxRecDepth 20000 in
theorem ggX11_sumOf_X11_entry : GoodIn wsX11_sumOf wsX11_entry := goodIn_ca (goodIn_r _ [6, 1, 7, 8, 9, 10, 11, 12, 13, 14, 15, 16, 17, 18, 19, 20, 21, 22, 23, 24, 25, 26, 27, 28] (by decide +kernel) (by decide +kernel)) (goodIn_sub (fun _ h => List.mem_cons_of_mem _ (List.mem_append_right _ h)) (by decide +kernel))
set_option maxRecDepth 20000 in
theorem gX11_sumOf_X11_entry : GoodIn wsX11_sumOf (wsV RX11 162 RX11 yX11_entry wsX11_entry) := goodIn_app (goodIn_of _ (by decide +kernel)) ggX11_sumOf_X11_entry
theorem dX11_sumOf_0 : decode cX11_sumOf 0 = .ok (.iconst 0, 1) := by decide +kernel
theorem dX11_sumOf_1 : decode cX11_sumOf 1 = .ok (.istore_n 3, 1) := by decide +kernel
theorem dX11_sumOf_2 : decode cX11_sumOf 2 = .ok (.iconst 0, 1) := by decide +kernel
theorem dX11_sumOf_3 : decode cX11_sumOf 3 = .ok (.istore 4, 2) := by decide +kernel
theorem dX11_sumOf_5 : decode cX11_sumOf 5 = .ok (.iload 4, 2) := by decide +kernel
theorem dX11_sumOf_7 : decode cX11_sumOf 7 = .ok (.aload_n 0, 1) := by decide +kernel
theorem dX11_sumOf_8 : decode cX11_sumOf 8 = .ok (.getfield 7, 3) := by decide +kernel
theorem dX11_sumOf_11 : decode cX11_sumOf 11 = .ok (.iconst 3, 1) := by decide +kernel
theorem dX11_sumOf_12 : decode cX11_sumOf 12 = .ok (.iaload, 1) := by decide +kernel
theorem dX11_sumOf_13 : decode cX11_sumOf 13 = .ok (.if_icmp .ge 34, 3) := by decide +kernel
theorem dX11_sumOf_16 : decode cX11_sumOf 16 = .ok (.iload_n 3, 1) := by decide +kernel
theorem dX11_sumOf_17 : decode cX11_sumOf 17 = .ok (.aload_n 0, 1) := by decide +kernel
theorem dX11_sumOf_18 : decode cX11_sumOf 18 = .ok (.iload 4, 2) := by decide +kernel
theorem dX11_sumOf_20 : decode cX11_sumOf 20 = .ok (.iload_n 2, 1) := by decide +kernel
theorem dX11_sumOf_21 : decode cX11_sumOf 21 = .ok (.invokevirtual 162, 3) := by decide +kernel
theorem dX11_sumOf_24 : decode cX11_sumOf 24 = .ok (.iload_n 1, 1) := by decide +kernel
theorem dX11_sumOf_25 : decode cX11_sumOf 25 = .ok (.if_icmp .ne 13, 3) := by decide +kernel
theorem dX11_sumOf_28 : decode cX11_sumOf 28 = .ok (.aload_n 0, 1) := by decide +kernel
theorem dX11_sumOf_29 : decode cX11_sumOf 29 = .ok (.iload 4, 2) := by decide +kernel
theorem dX11_sumOf_31 : decode cX11_sumOf 31 = .ok (.iconst 2, 1) := by decide +kernel
theorem dX11_sumOf_32 : decode cX11_sumOf 32 = .ok (.invokevirtual 162, 3) := by decide +kernel
theorem dX11_sumOf_35 : decode cX11_sumOf 35 = .ok (.goto 4, 3) := by decide +kernel
theorem dX11_sumOf_38 : decode cX11_sumOf 38 = .ok (.iconst 0, 1) := by decide +kernel
theorem dX11_sumOf_39 : decode cX11_sumOf 39 = .ok (.iadd, 1) := by decide +kernel
theorem dX11_sumOf_40 : decode cX11_sumOf 40 = .ok (.istore_n 3, 1) := by decide +kernel
theorem dX11_sumOf_41 : decode cX11_sumOf 41 = .ok (.iinc 4 1, 3) := by decide +kernel
theorem dX11_sumOf_44 : decode cX11_sumOf 44 = .ok (.goto (-39), 3) := by decide +kernel
theorem dX11_sumOf_47 : decode cX11_sumOf 47 = .ok (.iload_n 3, 1) := by decide +kernel
theorem dX11_sumOf_48 : decode cX11_sumOf 48 = .ok (.ireturn, 1) := by decide +kernel
set_option maxRecDepth 20000 in
theorem ggX11_balanceByJournal_X11_isLost : GoodIn wsX11_balanceByJournal wsX11_isLost := goodIn_ca (goodIn_r _ [6, 7, 8, 9, 5, 10, 1, 11, 12, 13, 14, 15, 16, 17, 18, 27, 28, 29, 30, 31, 32, 33, 34, 35, 36, 37, 38, 39, 40, 41, 42, 43, 44, 45, 46, 47, 48] (by decide +kernel) (by decide +kernel)) (goodIn_sub (fun _ h => List.mem_cons_of_mem _ (List.mem_append_right _ h)) (by decide +kernel))
set_option maxRecDepth 20000 in
theorem gX11_balanceByJournal_X11_isLost : GoodIn wsX11_balanceByJournal (wsV RX11 159 RX11 yX11_isLost wsX11_isLost) := goodIn_app (goodIn_of _ (by decide +kernel)) ggX11_balanceByJournal_X11_isLost
set_option maxRecDepth 20000 in
theorem ggX11_balanceByJournal_X11_sumOf : GoodIn wsX11_balanceByJournal wsX11_sumOf := goodIn_ca (goodIn_r _ [22, 1, 23, 24, 25, 5, 26, 27, 28, 29, 30, 31, 32, 33, 34, 35, 36, 37, 38, 39, 40, 41, 42, 43, 44, 45, 46, 47, 48] (by decide +kernel) (by decide +kernel)) (goodIn_sub (fun _ h => List.mem_cons_of_mem _ (List.mem_append_right _ h)) (by decide +kernel))
set_option maxRecDepth 20000 in
theorem gX11_balanceByJournal_X11_sumOf : GoodIn wsX11_balanceByJournal (wsV RX11 165 RX11 yX11_sumOf wsX11_sumOf) := goodIn_app (goodIn_of _ (by decide +kernel)) ggX11_balanceByJournal_X11_sumOf
theorem dX11_balanceByJournal_0 : decode cX11_balanceByJournal 0 = .ok (.aload_n 0, 1) := by decide +kernel
theorem dX11_balanceByJournal_1 : decode cX11_balanceByJournal 1 = .ok (.iload_n 1, 1) := by decide +kernel
theorem dX11_balanceByJournal_2 : decode cX11_balanceByJournal 2 = .ok (.invokevirtual 159, 3) := by decide +kernel
theorem dX11_balanceByJournal_5 : decode cX11_balanceByJournal 5 = .ok (.ifCond .eq 7, 3) := by decide +kernel
theorem dX11_balanceByJournal_8 : decode cX11_balanceByJournal 8 = .ok (.iconst 0, 1) := by decide +kernel
theorem dX11_balanceByJournal_9 : decode cX11_balanceByJournal 9 = .ok (.goto 26, 3) := by decide +kernel
theorem dX11_balanceByJournal_12 : decode cX11_balanceByJournal 12 = .ok (.aload_n 0, 1) := by decide +kernel
theorem dX11_balanceByJournal_13 : decode cX11_balanceByJournal 13 = .ok (.getfield 7, 3) := by decide +kernel
theorem dX11_balanceByJournal_16 : decode cX11_balanceByJournal 16 = .ok (.bipush 47, 2) := by decide +kernel
theorem dX11_balanceByJournal_18 : decode cX11_balanceByJournal 18 = .ok (.iload_n 1, 1) := by decide +kernel
theorem dX11_balanceByJournal_19 : decode cX11_balanceByJournal 19 = .ok (.iadd, 1) := by decide +kernel
theorem dX11_balanceByJournal_20 : decode cX11_balanceByJournal 20 = .ok (.iaload, 1) := by decide +kernel
theorem dX11_balanceByJournal_21 : decode cX11_balanceByJournal 21 = .ok (.aload_n 0, 1) := by decide +kernel
theorem dX11_balanceByJournal_22 : decode cX11_balanceByJournal 22 = .ok (.iload_n 1, 1) := by decide +kernel
theorem dX11_balanceByJournal_23 : decode cX11_balanceByJournal 23 = .ok (.iconst 0, 1) := by decide +kernel
theorem dX11_balanceByJournal_24 : decode cX11_balanceByJournal 24 = .ok (.invokevirtual 165, 3) := by decide +kernel
theorem dX11_balanceByJournal_27 : decode cX11_balanceByJournal 27 = .ok (.iadd, 1) := by decide +kernel
theorem dX11_balanceByJournal_28 : decode cX11_balanceByJournal 28 = .ok (.aload_n 0, 1) := by decide +kernel
theorem dX11_balanceByJournal_29 : decode cX11_balanceByJournal 29 = .ok (.iload_n 1, 1) := by decide +kernel
theorem dX11_balanceByJournal_30 : decode cX11_balanceByJournal 30 = .ok (.iconst 1, 1) := by decide +kernel
theorem dX11_balanceByJournal_31 : decode cX11_balanceByJournal 31 = .ok (.invokevirtual 165, 3) := by decide +kernel
theorem dX11_balanceByJournal_34 : decode cX11_balanceByJournal 34 = .ok (.isub, 1) := by decide +kernel
theorem dX11_balanceByJournal_35 : decode cX11_balanceByJournal 35 = .ok (.ireturn, 1) := by decide +kernel
set_option maxRecDepth 20000 in
theorem ggX11_debits_X11_isLost : GoodIn wsX11_debits wsX11_isLost := goodIn_ca (goodIn_r _ [5, 6, 7, 8, 4, 9, 10, 11, 12, 13, 14, 15, 16, 17, 18, 27, 28, 29, 30, 31, 32, 33, 34, 35, 36, 37, 38, 39, 40, 41, 42, 43, 44, 45, 46, 47, 48] (by decide +kernel) (by decide +kernel)) (goodIn_sub (fun _ h => List.mem_cons_of_mem _ (List.mem_append_right _ h)) (by decide +kernel))
set_option maxRecDepth 20000 in
theorem gX11_debits_X11_isLost : GoodIn wsX11_debits (wsV RX11 159 RX11 yX11_isLost wsX11_isLost) := goodIn_app (goodIn_of _ (by decide +kernel)) ggX11_debits_X11_isLost
set_option maxRecDepth 20000 in
theorem ggX11_debits_X11_sumOf : GoodIn wsX11_debits wsX11_sumOf := goodIn_ca (goodIn_r _ [22, 10, 23, 24, 25, 4, 26, 27, 28, 29, 30, 31, 32, 33, 34, 35, 36, 37, 38, 39, 40, 41, 42, 43, 44, 45, 46, 47, 48] (by decide +kernel) (by decide +kernel)) (goodIn_sub (fun _ h => List.mem_cons_of_mem _ (List.mem_append_right _ h)) (by decide +kernel))
set_option maxRecDepth 20000 in
theorem gX11_debits_X11_sumOf : GoodIn wsX11_debits (wsV RX11 165 RX11 yX11_sumOf wsX11_sumOf) := goodIn_app (goodIn_of _ (by decide +kernel)) ggX11_debits_X11_sumOf
theorem dX11_debits_0 : decode cX11_debits 0 = .ok (.aload_n 0, 1) := by decide +kernel
theorem dX11_debits_1 : decode cX11_debits 1 = .ok (.iload_n 1, 1) := by decide +kernel
theorem dX11_debits_2 : decode cX11_debits 2 = .ok (.invokevirtual 159, 3) := by decide +kernel
theorem dX11_debits_5 : decode cX11_debits 5 = .ok (.ifCond .eq 7, 3) := by decide +kernel
theorem dX11_debits_8 : decode cX11_debits 8 = .ok (.iconst 0, 1) := by decide +kernel
theorem dX11_debits_9 : decode cX11_debits 9 = .ok (.goto 9, 3) := by decide +kernel
theorem dX11_debits_12 : decode cX11_debits 12 = .ok (.aload_n 0, 1) := by decide +kernel
theorem dX11_debits_13 : decode cX11_debits 13 = .ok (.iload_n 1, 1) := by decide +kernel
theorem dX11_debits_14 : decode cX11_debits 14 = .ok (.iconst 0, 1) := by decide +kernel
theorem dX11_debits_15 : decode cX11_debits 15 = .ok (.invokevirtual 165, 3) := by decide +kernel
theorem dX11_debits_18 : decode cX11_debits 18 = .ok (.ireturn, 1) := by decide +kernel
set_option maxRecDepth 20000 in
theorem ggX11_credits_X11_isLost : GoodIn wsX11_credits wsX11_isLost := goodIn_ca (goodIn_r _ [5, 6, 7, 8, 4, 9, 10, 11, 12, 13, 14, 15, 16, 17, 18, 27, 28, 29, 30, 31, 32, 33, 34, 35, 36, 37, 38, 39, 40, 41, 42, 43, 44, 45, 46, 47, 48] (by decide +kernel) (by decide +kernel)) (goodIn_sub (fun _ h => List.mem_cons_of_mem _ (List.mem_append_right _ h)) (by decide +kernel))
set_option maxRecDepth 20000 in
theorem gX11_credits_X11_isLost : GoodIn wsX11_credits (wsV RX11 159 RX11 yX11_isLost wsX11_isLost) := goodIn_app (goodIn_of _ (by decide +kernel)) ggX11_credits_X11_isLost
set_option maxRecDepth 20000 in
theorem ggX11_credits_X11_sumOf : GoodIn wsX11_credits wsX11_sumOf := goodIn_ca (goodIn_r _ [22, 10, 23, 24, 25, 4, 26, 27, 28, 29, 30, 31, 32, 33, 34, 35, 36, 37, 38, 39, 40, 41, 42, 43, 44, 45, 46, 47, 48] (by decide +kernel) (by decide +kernel)) (goodIn_sub (fun _ h => List.mem_cons_of_mem _ (List.mem_append_right _ h)) (by decide +kernel))
set_option maxRecDepth 20000 in
theorem gX11_credits_X11_sumOf : GoodIn wsX11_credits (wsV RX11 165 RX11 yX11_sumOf wsX11_sumOf) := goodIn_app (goodIn_of _ (by decide +kernel)) ggX11_credits_X11_sumOf
theorem dX11_credits_0 : decode cX11_credits 0 = .ok (.aload_n 0, 1) := by decide +kernel
theorem dX11_credits_1 : decode cX11_credits 1 = .ok (.iload_n 1, 1) := by decide +kernel
theorem dX11_credits_2 : decode cX11_credits 2 = .ok (.invokevirtual 159, 3) := by decide +kernel
theorem dX11_credits_5 : decode cX11_credits 5 = .ok (.ifCond .eq 7, 3) := by decide +kernel
theorem dX11_credits_8 : decode cX11_credits 8 = .ok (.iconst 0, 1) := by decide +kernel
theorem dX11_credits_9 : decode cX11_credits 9 = .ok (.goto 9, 3) := by decide +kernel
theorem dX11_credits_12 : decode cX11_credits 12 = .ok (.aload_n 0, 1) := by decide +kernel
theorem dX11_credits_13 : decode cX11_credits 13 = .ok (.iload_n 1, 1) := by decide +kernel
theorem dX11_credits_14 : decode cX11_credits 14 = .ok (.iconst 1, 1) := by decide +kernel
theorem dX11_credits_15 : decode cX11_credits 15 = .ok (.invokevirtual 165, 3) := by decide +kernel
theorem dX11_credits_18 : decode cX11_credits 18 = .ok (.ireturn, 1) := by decide +kernel
theorem dX11_entryCount_0 : decode cX11_entryCount 0 = .ok (.aload_n 0, 1) := by decide +kernel
theorem dX11_entryCount_1 : decode cX11_entryCount 1 = .ok (.iconst 0, 1) := by decide +kernel
theorem dX11_entryCount_2 : decode cX11_entryCount 2 = .ok (.putfield 51, 3) := by decide +kernel
theorem dX11_entryCount_5 : decode cX11_entryCount 5 = .ok (.aload_n 0, 1) := by decide +kernel
theorem dX11_entryCount_6 : decode cX11_entryCount 6 = .ok (.getfield 7, 3) := by decide +kernel
theorem dX11_entryCount_9 : decode cX11_entryCount 9 = .ok (.iconst 3, 1) := by decide +kernel
theorem dX11_entryCount_10 : decode cX11_entryCount 10 = .ok (.iaload, 1) := by decide +kernel
theorem dX11_entryCount_11 : decode cX11_entryCount 11 = .ok (.ireturn, 1) := by decide +kernel
set_option maxRecDepth 20000 in
theorem ggX11_ofEntry_X11_in : GoodIn wsX11_ofEntry wsX11_in := goodIn_r _ [5] (by decide +kernel) (by decide +kernel)
set_option maxRecDepth 20000 in
theorem gX11_ofEntry_X11_in : GoodIn wsX11_ofEntry (va_wsS RX11 65 yX11_in wsX11_in) := goodIn_app (goodIn_of _ (by decide +kernel)) ggX11_ofEntry_X11_in
set_option maxRecDepth 20000 in
theorem ggX11_ofEntry_X11_fails : GoodIn wsX11_ofEntry wsX11_fails := goodIn_r _ [9, 10, 15, 16, 17, 18, 19, 20, 21, 22, 23, 24, 25, 26, 27, 28, 29, 30, 31, 32, 33, 34, 35, 36] (by decide +kernel) (by decide +kernel)
set_option maxRecDepth 20000 in
theorem gX11_ofEntry_X11_fails : GoodIn wsX11_ofEntry (wsV RX11 73 RX11 yX11_fails wsX11_fails) := goodIn_app (goodIn_of _ (by decide +kernel)) ggX11_ofEntry_X11_fails
set_option maxRecDepth 20000 in
theorem ggX11_ofEntry_X11_entry : GoodIn wsX11_ofEntry wsX11_entry := goodIn_ca (goodIn_r _ [14, 1, 15, 16, 17, 18, 19, 20, 21, 22, 23, 24, 25, 26, 27, 28, 29, 30, 31, 32, 33, 34, 35, 36] (by decide +kernel) (by decide +kernel)) (goodIn_sub (fun _ h => List.mem_cons_of_mem _ (List.mem_append_right _ h)) (by decide +kernel))
set_option maxRecDepth 20000 in
theorem gX11_ofEntry_X11_entry : GoodIn wsX11_ofEntry (wsV RX11 162 RX11 yX11_entry wsX11_entry) := goodIn_app (goodIn_of _ (by decide +kernel)) ggX11_ofEntry_X11_entry
theorem dX11_ofEntry_0 : decode cX11_ofEntry 0 = .ok (.aload_n 0, 1) := by decide +kernel
theorem dX11_ofEntry_1 : decode cX11_ofEntry 1 = .ok (.iload_n 1, 1) := by decide +kernel
theorem dX11_ofEntry_2 : decode cX11_ofEntry 2 = .ok (.iconst 0, 1) := by decide +kernel
theorem dX11_ofEntry_3 : decode cX11_ofEntry 3 = .ok (.aload_n 0, 1) := by decide +kernel
theorem dX11_ofEntry_4 : decode cX11_ofEntry 4 = .ok (.getfield 7, 3) := by decide +kernel
theorem dX11_ofEntry_7 : decode cX11_ofEntry 7 = .ok (.iconst 3, 1) := by decide +kernel
theorem dX11_ofEntry_8 : decode cX11_ofEntry 8 = .ok (.iaload, 1) := by decide +kernel
theorem dX11_ofEntry_9 : decode cX11_ofEntry 9 = .ok (.iconst 1, 1) := by decide +kernel
theorem dX11_ofEntry_10 : decode cX11_ofEntry 10 = .ok (.isub, 1) := by decide +kernel
theorem dX11_ofEntry_11 : decode cX11_ofEntry 11 = .ok (.invokestatic 65, 3) := by decide +kernel
theorem dX11_ofEntry_14 : decode cX11_ofEntry 14 = .ok (.ifCond .eq 7, 3) := by decide +kernel
theorem dX11_ofEntry_17 : decode cX11_ofEntry 17 = .ok (.iconst 0, 1) := by decide +kernel
theorem dX11_ofEntry_18 : decode cX11_ofEntry 18 = .ok (.goto 4, 3) := by decide +kernel
theorem dX11_ofEntry_21 : decode cX11_ofEntry 21 = .ok (.iconst 1, 1) := by decide +kernel
theorem dX11_ofEntry_22 : decode cX11_ofEntry 22 = .ok (.invokevirtual 73, 3) := by decide +kernel
theorem dX11_ofEntry_25 : decode cX11_ofEntry 25 = .ok (.ifCond .eq 7, 3) := by decide +kernel
theorem dX11_ofEntry_28 : decode cX11_ofEntry 28 = .ok (.iconst 0, 1) := by decide +kernel
theorem dX11_ofEntry_29 : decode cX11_ofEntry 29 = .ok (.goto 9, 3) := by decide +kernel
theorem dX11_ofEntry_32 : decode cX11_ofEntry 32 = .ok (.aload_n 0, 1) := by decide +kernel
theorem dX11_ofEntry_33 : decode cX11_ofEntry 33 = .ok (.iload_n 1, 1) := by decide +kernel
theorem dX11_ofEntry_34 : decode cX11_ofEntry 34 = .ok (.iload_n 2, 1) := by decide +kernel
theorem dX11_ofEntry_35 : decode cX11_ofEntry 35 = .ok (.invokevirtual 162, 3) := by decide +kernel
theorem dX11_ofEntry_38 : decode cX11_ofEntry 38 = .ok (.ireturn, 1) := by decide +kernel
set_option maxRecDepth 20000 in
theorem ggX11_debitOf_X11_ofEntry : GoodIn wsX11_debitOf wsX11_ofEntry := goodIn_ca (goodIn_r _ [5, 6, 7, 8, 4, 9, 10, 11, 12, 13, 14, 15, 16, 17, 18, 19, 20, 21, 22, 23, 24, 25, 26, 27, 28, 29, 30, 31, 32, 33, 34, 35, 36, 37, 38, 39, 40] (by decide +kernel) (by decide +kernel)) (goodIn_sub (fun _ h => List.mem_cons_of_mem _ (List.mem_append_right _ h)) (by decide +kernel))
set_option maxRecDepth 20000 in
theorem gX11_debitOf_X11_ofEntry : GoodIn wsX11_debitOf (wsV RX11 168 RX11 yX11_ofEntry wsX11_ofEntry) := goodIn_app (goodIn_of _ (by decide +kernel)) ggX11_debitOf_X11_ofEntry
theorem dX11_debitOf_0 : decode cX11_debitOf 0 = .ok (.aload_n 0, 1) := by decide +kernel
theorem dX11_debitOf_1 : decode cX11_debitOf 1 = .ok (.iload_n 1, 1) := by decide +kernel
theorem dX11_debitOf_2 : decode cX11_debitOf 2 = .ok (.iconst 0, 1) := by decide +kernel
theorem dX11_debitOf_3 : decode cX11_debitOf 3 = .ok (.invokevirtual 168, 3) := by decide +kernel
theorem dX11_debitOf_6 : decode cX11_debitOf 6 = .ok (.ireturn, 1) := by decide +kernel
set_option maxRecDepth 20000 in
theorem ggX11_creditOf_X11_ofEntry : GoodIn wsX11_creditOf wsX11_ofEntry := goodIn_ca (goodIn_r _ [5, 6, 7, 8, 4, 9, 10, 11, 12, 13, 14, 15, 16, 17, 18, 19, 20, 21, 22, 23, 24, 25, 26, 27, 28, 29, 30, 31, 32, 33, 34, 35, 36, 37, 38, 39, 40] (by decide +kernel) (by decide +kernel)) (goodIn_sub (fun _ h => List.mem_cons_of_mem _ (List.mem_append_right _ h)) (by decide +kernel))
set_option maxRecDepth 20000 in
theorem gX11_creditOf_X11_ofEntry : GoodIn wsX11_creditOf (wsV RX11 168 RX11 yX11_ofEntry wsX11_ofEntry) := goodIn_app (goodIn_of _ (by decide +kernel)) ggX11_creditOf_X11_ofEntry
theorem dX11_creditOf_0 : decode cX11_creditOf 0 = .ok (.aload_n 0, 1) := by decide +kernel
theorem dX11_creditOf_1 : decode cX11_creditOf 1 = .ok (.iload_n 1, 1) := by decide +kernel
theorem dX11_creditOf_2 : decode cX11_creditOf 2 = .ok (.iconst 1, 1) := by decide +kernel
theorem dX11_creditOf_3 : decode cX11_creditOf 3 = .ok (.invokevirtual 168, 3) := by decide +kernel
theorem dX11_creditOf_6 : decode cX11_creditOf 6 = .ok (.ireturn, 1) := by decide +kernel
set_option maxRecDepth 20000 in
theorem ggX11_amountOf_X11_ofEntry : GoodIn wsX11_amountOf wsX11_ofEntry := goodIn_ca (goodIn_r _ [5, 6, 7, 8, 4, 9, 10, 11, 12, 13, 14, 15, 16, 17, 18, 19, 20, 21, 22, 23, 24, 25, 26, 27, 28, 29, 30, 31, 32, 33, 34, 35, 36, 37, 38, 39, 40] (by decide +kernel) (by decide +kernel)) (goodIn_sub (fun _ h => List.mem_cons_of_mem _ (List.mem_append_right _ h)) (by decide +kernel))
set_option maxRecDepth 20000 in
theorem gX11_amountOf_X11_ofEntry : GoodIn wsX11_amountOf (wsV RX11 168 RX11 yX11_ofEntry wsX11_ofEntry) := goodIn_app (goodIn_of _ (by decide +kernel)) ggX11_amountOf_X11_ofEntry
theorem dX11_amountOf_0 : decode cX11_amountOf 0 = .ok (.aload_n 0, 1) := by decide +kernel
theorem dX11_amountOf_1 : decode cX11_amountOf 1 = .ok (.iload_n 1, 1) := by decide +kernel
theorem dX11_amountOf_2 : decode cX11_amountOf 2 = .ok (.iconst 2, 1) := by decide +kernel
theorem dX11_amountOf_3 : decode cX11_amountOf 3 = .ok (.invokevirtual 168, 3) := by decide +kernel
theorem dX11_amountOf_6 : decode cX11_amountOf 6 = .ok (.ireturn, 1) := by decide +kernel
theorem dX11_accountByBalance_0 : decode cX11_accountByBalance 0 = .ok (.iconst 5, 1) := by decide +kernel
theorem dX11_accountByBalance_1 : decode cX11_accountByBalance 1 = .ok (.aload_n 0, 1) := by decide +kernel
theorem dX11_accountByBalance_2 : decode cX11_accountByBalance 2 = .ok (.getfield 7, 3) := by decide +kernel
theorem dX11_accountByBalance_5 : decode cX11_accountByBalance 5 = .ok (.iconst 0, 1) := by decide +kernel
theorem dX11_accountByBalance_6 : decode cX11_accountByBalance 6 = .ok (.iaload, 1) := by decide +kernel
theorem dX11_accountByBalance_7 : decode cX11_accountByBalance 7 = .ok (.iadd, 1) := by decide +kernel
theorem dX11_accountByBalance_8 : decode cX11_accountByBalance 8 = .ok (.istore_n 2, 1) := by decide +kernel
theorem dX11_accountByBalance_9 : decode cX11_accountByBalance 9 = .ok (.iconst 0, 1) := by decide +kernel
theorem dX11_accountByBalance_10 : decode cX11_accountByBalance 10 = .ok (.istore_n 3, 1) := by decide +kernel
theorem dX11_accountByBalance_11 : decode cX11_accountByBalance 11 = .ok (.iload_n 3, 1) := by decide +kernel
theorem dX11_accountByBalance_12 : decode cX11_accountByBalance 12 = .ok (.iload_n 2, 1) := by decide +kernel
theorem dX11_accountByBalance_13 : decode cX11_accountByBalance 13 = .ok (.if_icmp .ge 103, 3) := by decide +kernel
theorem dX11_accountByBalance_16 : decode cX11_accountByBalance 16 = .ok (.iconst 0, 1) := by decide +kernel
theorem dX11_accountByBalance_17 : decode cX11_accountByBalance 17 = .ok (.istore 4, 2) := by decide +kernel
theorem dX11_accountByBalance_19 : decode cX11_accountByBalance 19 = .ok (.iconst 0, 1) := by decide +kernel
theorem dX11_accountByBalance_20 : decode cX11_accountByBalance 20 = .ok (.istore 5, 2) := by decide +kernel
theorem dX11_accountByBalance_22 : decode cX11_accountByBalance 22 = .ok (.iload 5, 2) := by decide +kernel
theorem dX11_accountByBalance_24 : decode cX11_accountByBalance 24 = .ok (.iload_n 2, 1) := by decide +kernel
theorem dX11_accountByBalance_25 : decode cX11_accountByBalance 25 = .ok (.if_icmp .ge 69, 3) := by decide +kernel
theorem dX11_accountByBalance_28 : decode cX11_accountByBalance 28 = .ok (.iload 4, 2) := by decide +kernel
theorem dX11_accountByBalance_30 : decode cX11_accountByBalance 30 = .ok (.aload_n 0, 1) := by decide +kernel
theorem dX11_accountByBalance_31 : decode cX11_accountByBalance 31 = .ok (.getfield 7, 3) := by decide +kernel
theorem dX11_accountByBalance_34 : decode cX11_accountByBalance 34 = .ok (.bipush 36, 2) := by decide +kernel
theorem dX11_accountByBalance_36 : decode cX11_accountByBalance 36 = .ok (.iload 5, 2) := by decide +kernel
theorem dX11_accountByBalance_38 : decode cX11_accountByBalance 38 = .ok (.iadd, 1) := by decide +kernel
theorem dX11_accountByBalance_39 : decode cX11_accountByBalance 39 = .ok (.iaload, 1) := by decide +kernel
theorem dX11_accountByBalance_40 : decode cX11_accountByBalance 40 = .ok (.aload_n 0, 1) := by decide +kernel
theorem dX11_accountByBalance_41 : decode cX11_accountByBalance 41 = .ok (.getfield 7, 3) := by decide +kernel
theorem dX11_accountByBalance_44 : decode cX11_accountByBalance 44 = .ok (.bipush 36, 2) := by decide +kernel
theorem dX11_accountByBalance_46 : decode cX11_accountByBalance 46 = .ok (.iload_n 3, 1) := by decide +kernel
theorem dX11_accountByBalance_47 : decode cX11_accountByBalance 47 = .ok (.iadd, 1) := by decide +kernel
theorem dX11_accountByBalance_48 : decode cX11_accountByBalance 48 = .ok (.iaload, 1) := by decide +kernel
theorem dX11_accountByBalance_49 : decode cX11_accountByBalance 49 = .ok (.if_icmp .gt 31, 3) := by decide +kernel
theorem dX11_accountByBalance_52 : decode cX11_accountByBalance 52 = .ok (.aload_n 0, 1) := by decide +kernel
theorem dX11_accountByBalance_53 : decode cX11_accountByBalance 53 = .ok (.getfield 7, 3) := by decide +kernel
theorem dX11_accountByBalance_56 : decode cX11_accountByBalance 56 = .ok (.bipush 36, 2) := by decide +kernel
theorem dX11_accountByBalance_58 : decode cX11_accountByBalance 58 = .ok (.iload 5, 2) := by decide +kernel
theorem dX11_accountByBalance_60 : decode cX11_accountByBalance 60 = .ok (.iadd, 1) := by decide +kernel
theorem dX11_accountByBalance_61 : decode cX11_accountByBalance 61 = .ok (.iaload, 1) := by decide +kernel
theorem dX11_accountByBalance_62 : decode cX11_accountByBalance 62 = .ok (.aload_n 0, 1) := by decide +kernel
theorem dX11_accountByBalance_63 : decode cX11_accountByBalance 63 = .ok (.getfield 7, 3) := by decide +kernel
theorem dX11_accountByBalance_66 : decode cX11_accountByBalance 66 = .ok (.bipush 36, 2) := by decide +kernel
theorem dX11_accountByBalance_68 : decode cX11_accountByBalance 68 = .ok (.iload_n 3, 1) := by decide +kernel
theorem dX11_accountByBalance_69 : decode cX11_accountByBalance 69 = .ok (.iadd, 1) := by decide +kernel
theorem dX11_accountByBalance_70 : decode cX11_accountByBalance 70 = .ok (.iaload, 1) := by decide +kernel
theorem dX11_accountByBalance_71 : decode cX11_accountByBalance 71 = .ok (.if_icmp .ne 13, 3) := by decide +kernel
theorem dX11_accountByBalance_74 : decode cX11_accountByBalance 74 = .ok (.iload 5, 2) := by decide +kernel
theorem dX11_accountByBalance_76 : decode cX11_accountByBalance 76 = .ok (.iload_n 3, 1) := by decide +kernel
theorem dX11_accountByBalance_77 : decode cX11_accountByBalance 77 = .ok (.if_icmp .ge 7, 3) := by decide +kernel
theorem dX11_accountByBalance_80 : decode cX11_accountByBalance 80 = .ok (.iconst 1, 1) := by decide +kernel
theorem dX11_accountByBalance_81 : decode cX11_accountByBalance 81 = .ok (.goto 4, 3) := by decide +kernel
theorem dX11_accountByBalance_84 : decode cX11_accountByBalance 84 = .ok (.iconst 0, 1) := by decide +kernel
theorem dX11_accountByBalance_85 : decode cX11_accountByBalance 85 = .ok (.iadd, 1) := by decide +kernel
theorem dX11_accountByBalance_86 : decode cX11_accountByBalance 86 = .ok (.istore 4, 2) := by decide +kernel
theorem dX11_accountByBalance_88 : decode cX11_accountByBalance 88 = .ok (.iinc 5 1, 3) := by decide +kernel
theorem dX11_accountByBalance_91 : decode cX11_accountByBalance 91 = .ok (.goto (-69), 3) := by decide +kernel
theorem dX11_accountByBalance_94 : decode cX11_accountByBalance 94 = .ok (.iload 4, 2) := by decide +kernel
theorem dX11_accountByBalance_96 : decode cX11_accountByBalance 96 = .ok (.iload_n 1, 1) := by decide +kernel
theorem dX11_accountByBalance_97 : decode cX11_accountByBalance 97 = .ok (.if_icmp .eq 6, 3) := by decide +kernel
theorem dX11_accountByBalance_100 : decode cX11_accountByBalance 100 = .ok (.goto 10, 3) := by decide +kernel
theorem dX11_accountByBalance_103 : decode cX11_accountByBalance 103 = .ok (.aload_n 0, 1) := by decide +kernel
theorem dX11_accountByBalance_104 : decode cX11_accountByBalance 104 = .ok (.iconst 0, 1) := by decide +kernel
theorem dX11_accountByBalance_105 : decode cX11_accountByBalance 105 = .ok (.putfield 51, 3) := by decide +kernel
theorem dX11_accountByBalance_108 : decode cX11_accountByBalance 108 = .ok (.iload_n 3, 1) := by decide +kernel
theorem dX11_accountByBalance_109 : decode cX11_accountByBalance 109 = .ok (.ireturn, 1) := by decide +kernel
theorem dX11_accountByBalance_110 : decode cX11_accountByBalance 110 = .ok (.iinc 3 1, 3) := by decide +kernel
theorem dX11_accountByBalance_113 : decode cX11_accountByBalance 113 = .ok (.goto (-102), 3) := by decide +kernel
theorem dX11_accountByBalance_116 : decode cX11_accountByBalance 116 = .ok (.aload_n 0, 1) := by decide +kernel
theorem dX11_accountByBalance_117 : decode cX11_accountByBalance 117 = .ok (.iconst 1, 1) := by decide +kernel
theorem dX11_accountByBalance_118 : decode cX11_accountByBalance 118 = .ok (.putfield 51, 3) := by decide +kernel
theorem dX11_accountByBalance_121 : decode cX11_accountByBalance 121 = .ok (.iconst 0, 1) := by decide +kernel
theorem dX11_accountByBalance_122 : decode cX11_accountByBalance 122 = .ok (.ireturn, 1) := by decide +kernel
theorem dX11_settles_0 : decode cX11_settles 0 = .ok (.iconst 5, 1) := by decide +kernel
theorem dX11_settles_1 : decode cX11_settles 1 = .ok (.aload_n 0, 1) := by decide +kernel
theorem dX11_settles_2 : decode cX11_settles 2 = .ok (.getfield 7, 3) := by decide +kernel
theorem dX11_settles_5 : decode cX11_settles 5 = .ok (.iconst 0, 1) := by decide +kernel
theorem dX11_settles_6 : decode cX11_settles 6 = .ok (.iaload, 1) := by decide +kernel
theorem dX11_settles_7 : decode cX11_settles 7 = .ok (.iadd, 1) := by decide +kernel
theorem dX11_settles_8 : decode cX11_settles 8 = .ok (.istore_n 1, 1) := by decide +kernel
theorem dX11_settles_9 : decode cX11_settles 9 = .ok (.iconst 0, 1) := by decide +kernel
theorem dX11_settles_10 : decode cX11_settles 10 = .ok (.istore_n 2, 1) := by decide +kernel
theorem dX11_settles_11 : decode cX11_settles 11 = .ok (.iconst 0, 1) := by decide +kernel
theorem dX11_settles_12 : decode cX11_settles 12 = .ok (.istore_n 3, 1) := by decide +kernel
theorem dX11_settles_13 : decode cX11_settles 13 = .ok (.iload_n 3, 1) := by decide +kernel
theorem dX11_settles_14 : decode cX11_settles 14 = .ok (.iload_n 1, 1) := by decide +kernel
theorem dX11_settles_15 : decode cX11_settles 15 = .ok (.if_icmp .ge 29, 3) := by decide +kernel
theorem dX11_settles_18 : decode cX11_settles 18 = .ok (.iload_n 2, 1) := by decide +kernel
theorem dX11_settles_19 : decode cX11_settles 19 = .ok (.aload_n 0, 1) := by decide +kernel
theorem dX11_settles_20 : decode cX11_settles 20 = .ok (.getfield 7, 3) := by decide +kernel
theorem dX11_settles_23 : decode cX11_settles 23 = .ok (.bipush 36, 2) := by decide +kernel
theorem dX11_settles_25 : decode cX11_settles 25 = .ok (.iload_n 3, 1) := by decide +kernel
theorem dX11_settles_26 : decode cX11_settles 26 = .ok (.iadd, 1) := by decide +kernel
theorem dX11_settles_27 : decode cX11_settles 27 = .ok (.iaload, 1) := by decide +kernel
theorem dX11_settles_28 : decode cX11_settles 28 = .ok (.ifCond .ne 7, 3) := by decide +kernel
theorem dX11_settles_31 : decode cX11_settles 31 = .ok (.iconst 0, 1) := by decide +kernel
theorem dX11_settles_32 : decode cX11_settles 32 = .ok (.goto 4, 3) := by decide +kernel
theorem dX11_settles_35 : decode cX11_settles 35 = .ok (.iconst 1, 1) := by decide +kernel
theorem dX11_settles_36 : decode cX11_settles 36 = .ok (.iadd, 1) := by decide +kernel
theorem dX11_settles_37 : decode cX11_settles 37 = .ok (.istore_n 2, 1) := by decide +kernel
theorem dX11_settles_38 : decode cX11_settles 38 = .ok (.iinc 3 1, 3) := by decide +kernel
theorem dX11_settles_41 : decode cX11_settles 41 = .ok (.goto (-28), 3) := by decide +kernel
theorem dX11_settles_44 : decode cX11_settles 44 = .ok (.aload_n 0, 1) := by decide +kernel
theorem dX11_settles_45 : decode cX11_settles 45 = .ok (.getfield 42, 3) := by decide +kernel
theorem dX11_settles_48 : decode cX11_settles 48 = .ok (.iconst 0, 1) := by decide +kernel
theorem dX11_settles_49 : decode cX11_settles 49 = .ok (.iconst 0, 1) := by decide +kernel
theorem dX11_settles_50 : decode cX11_settles 50 = .ok (.iastore, 1) := by decide +kernel
theorem dX11_settles_51 : decode cX11_settles 51 = .ok (.aload_n 0, 1) := by decide +kernel
theorem dX11_settles_52 : decode cX11_settles 52 = .ok (.getfield 45, 3) := by decide +kernel
theorem dX11_settles_55 : decode cX11_settles 55 = .ok (.iconst 0, 1) := by decide +kernel
theorem dX11_settles_56 : decode cX11_settles 56 = .ok (.iconst 0, 1) := by decide +kernel
theorem dX11_settles_57 : decode cX11_settles 57 = .ok (.iastore, 1) := by decide +kernel
theorem dX11_settles_58 : decode cX11_settles 58 = .ok (.iconst 1, 1) := by decide +kernel
theorem dX11_settles_59 : decode cX11_settles 59 = .ok (.istore_n 3, 1) := by decide +kernel
theorem dX11_settles_60 : decode cX11_settles 60 = .ok (.iload_n 3, 1) := by decide +kernel
theorem dX11_settles_61 : decode cX11_settles 61 = .ok (.iconst 1, 1) := by decide +kernel
theorem dX11_settles_62 : decode cX11_settles 62 = .ok (.iload_n 1, 1) := by decide +kernel
theorem dX11_settles_63 : decode cX11_settles 63 = .ok (.ishl, 1) := by decide +kernel
theorem dX11_settles_64 : decode cX11_settles 64 = .ok (.if_icmp .ge 127, 3) := by decide +kernel
theorem dX11_settles_67 : decode cX11_settles 67 = .ok (.iconst 0, 1) := by decide +kernel
theorem dX11_settles_68 : decode cX11_settles 68 = .ok (.istore 4, 2) := by decide +kernel
theorem dX11_settles_70 : decode cX11_settles 70 = .ok (.iconst 0, 1) := by decide +kernel
theorem dX11_settles_71 : decode cX11_settles 71 = .ok (.istore 5, 2) := by decide +kernel
theorem dX11_settles_73 : decode cX11_settles 73 = .ok (.iload 5, 2) := by decide +kernel
theorem dX11_settles_75 : decode cX11_settles 75 = .ok (.iload_n 1, 1) := by decide +kernel
theorem dX11_settles_76 : decode cX11_settles 76 = .ok (.if_icmp .ge 101, 3) := by decide +kernel
theorem dX11_settles_79 : decode cX11_settles 79 = .ok (.iload_n 3, 1) := by decide +kernel
theorem dX11_settles_80 : decode cX11_settles 80 = .ok (.iload 5, 2) := by decide +kernel
theorem dX11_settles_82 : decode cX11_settles 82 = .ok (.ishr, 1) := by decide +kernel
theorem dX11_settles_83 : decode cX11_settles 83 = .ok (.iconst 1, 1) := by decide +kernel
theorem dX11_settles_84 : decode cX11_settles 84 = .ok (.iand, 1) := by decide +kernel
theorem dX11_settles_85 : decode cX11_settles 85 = .ok (.ifCond .ne 6, 3) := by decide +kernel
theorem dX11_settles_88 : decode cX11_settles 88 = .ok (.goto 83, 3) := by decide +kernel
theorem dX11_settles_91 : decode cX11_settles 91 = .ok (.iload_n 3, 1) := by decide +kernel
theorem dX11_settles_92 : decode cX11_settles 92 = .ok (.iconst 1, 1) := by decide +kernel
theorem dX11_settles_93 : decode cX11_settles 93 = .ok (.iload 5, 2) := by decide +kernel
theorem dX11_settles_95 : decode cX11_settles 95 = .ok (.ishl, 1) := by decide +kernel
theorem dX11_settles_96 : decode cX11_settles 96 = .ok (.ixor, 1) := by decide +kernel
theorem dX11_settles_97 : decode cX11_settles 97 = .ok (.istore 6, 2) := by decide +kernel
theorem dX11_settles_99 : decode cX11_settles 99 = .ok (.aload_n 0, 1) := by decide +kernel
theorem dX11_settles_100 : decode cX11_settles 100 = .ok (.getfield 42, 3) := by decide +kernel
theorem dX11_settles_103 : decode cX11_settles 103 = .ok (.iload_n 3, 1) := by decide +kernel
theorem dX11_settles_104 : decode cX11_settles 104 = .ok (.aload_n 0, 1) := by decide +kernel
theorem dX11_settles_105 : decode cX11_settles 105 = .ok (.getfield 42, 3) := by decide +kernel
theorem dX11_settles_108 : decode cX11_settles 108 = .ok (.iload 6, 2) := by decide +kernel
theorem dX11_settles_110 : decode cX11_settles 110 = .ok (.iaload, 1) := by decide +kernel
theorem dX11_settles_111 : decode cX11_settles 111 = .ok (.aload_n 0, 1) := by decide +kernel
theorem dX11_settles_112 : decode cX11_settles 112 = .ok (.getfield 7, 3) := by decide +kernel
theorem dX11_settles_115 : decode cX11_settles 115 = .ok (.bipush 36, 2) := by decide +kernel
theorem dX11_settles_117 : decode cX11_settles 117 = .ok (.iload 5, 2) := by decide +kernel
theorem dX11_settles_119 : decode cX11_settles 119 = .ok (.iadd, 1) := by decide +kernel
theorem dX11_settles_120 : decode cX11_settles 120 = .ok (.iaload, 1) := by decide +kernel
theorem dX11_settles_121 : decode cX11_settles 121 = .ok (.iadd, 1) := by decide +kernel
theorem dX11_settles_122 : decode cX11_settles 122 = .ok (.iastore, 1) := by decide +kernel
theorem dX11_settles_123 : decode cX11_settles 123 = .ok (.aload_n 0, 1) := by decide +kernel
theorem dX11_settles_124 : decode cX11_settles 124 = .ok (.getfield 45, 3) := by decide +kernel
theorem dX11_settles_127 : decode cX11_settles 127 = .ok (.iload 6, 2) := by decide +kernel
theorem dX11_settles_129 : decode cX11_settles 129 = .ok (.iaload, 1) := by decide +kernel
theorem dX11_settles_130 : decode cX11_settles 130 = .ok (.aload_n 0, 1) := by decide +kernel
theorem dX11_settles_131 : decode cX11_settles 131 = .ok (.getfield 42, 3) := by decide +kernel
theorem dX11_settles_134 : decode cX11_settles 134 = .ok (.iload_n 3, 1) := by decide +kernel
theorem dX11_settles_135 : decode cX11_settles 135 = .ok (.iaload, 1) := by decide +kernel
theorem dX11_settles_136 : decode cX11_settles 136 = .ok (.ifCond .ne 20, 3) := by decide +kernel
theorem dX11_settles_139 : decode cX11_settles 139 = .ok (.aload_n 0, 1) := by decide +kernel
theorem dX11_settles_140 : decode cX11_settles 140 = .ok (.getfield 7, 3) := by decide +kernel
theorem dX11_settles_143 : decode cX11_settles 143 = .ok (.bipush 36, 2) := by decide +kernel
theorem dX11_settles_145 : decode cX11_settles 145 = .ok (.iload 5, 2) := by decide +kernel
theorem dX11_settles_147 : decode cX11_settles 147 = .ok (.iadd, 1) := by decide +kernel
theorem dX11_settles_148 : decode cX11_settles 148 = .ok (.iaload, 1) := by decide +kernel
theorem dX11_settles_149 : decode cX11_settles 149 = .ok (.ifCond .eq 7, 3) := by decide +kernel
theorem dX11_settles_152 : decode cX11_settles 152 = .ok (.iconst 1, 1) := by decide +kernel
theorem dX11_settles_153 : decode cX11_settles 153 = .ok (.goto 4, 3) := by decide +kernel
theorem dX11_settles_156 : decode cX11_settles 156 = .ok (.iconst 0, 1) := by decide +kernel
theorem dX11_settles_157 : decode cX11_settles 157 = .ok (.iadd, 1) := by decide +kernel
theorem dX11_settles_158 : decode cX11_settles 158 = .ok (.istore 7, 2) := by decide +kernel
theorem dX11_settles_160 : decode cX11_settles 160 = .ok (.iload 7, 2) := by decide +kernel
theorem dX11_settles_162 : decode cX11_settles 162 = .ok (.iload 4, 2) := by decide +kernel
theorem dX11_settles_164 : decode cX11_settles 164 = .ok (.if_icmp .le 7, 3) := by decide +kernel
theorem dX11_settles_167 : decode cX11_settles 167 = .ok (.iload 7, 2) := by decide +kernel
theorem dX11_settles_169 : decode cX11_settles 169 = .ok (.istore 4, 2) := by decide +kernel
theorem dX11_settles_171 : decode cX11_settles 171 = .ok (.iinc 5 1, 3) := by decide +kernel
theorem dX11_settles_174 : decode cX11_settles 174 = .ok (.goto (-101), 3) := by decide +kernel
theorem dX11_settles_177 : decode cX11_settles 177 = .ok (.aload_n 0, 1) := by decide +kernel
theorem dX11_settles_178 : decode cX11_settles 178 = .ok (.getfield 45, 3) := by decide +kernel
theorem dX11_settles_181 : decode cX11_settles 181 = .ok (.iload_n 3, 1) := by decide +kernel
theorem dX11_settles_182 : decode cX11_settles 182 = .ok (.iload 4, 2) := by decide +kernel
theorem dX11_settles_184 : decode cX11_settles 184 = .ok (.iastore, 1) := by decide +kernel
theorem dX11_settles_185 : decode cX11_settles 185 = .ok (.iinc 3 1, 3) := by decide +kernel
theorem dX11_settles_188 : decode cX11_settles 188 = .ok (.goto (-128), 3) := by decide +kernel
theorem dX11_settles_191 : decode cX11_settles 191 = .ok (.iload_n 2, 1) := by decide +kernel
theorem dX11_settles_192 : decode cX11_settles 192 = .ok (.aload_n 0, 1) := by decide +kernel
theorem dX11_settles_193 : decode cX11_settles 193 = .ok (.getfield 45, 3) := by decide +kernel
theorem dX11_settles_196 : decode cX11_settles 196 = .ok (.iconst 1, 1) := by decide +kernel
theorem dX11_settles_197 : decode cX11_settles 197 = .ok (.iload_n 1, 1) := by decide +kernel
theorem dX11_settles_198 : decode cX11_settles 198 = .ok (.ishl, 1) := by decide +kernel
theorem dX11_settles_199 : decode cX11_settles 199 = .ok (.iconst 1, 1) := by decide +kernel
theorem dX11_settles_200 : decode cX11_settles 200 = .ok (.isub, 1) := by decide +kernel
theorem dX11_settles_201 : decode cX11_settles 201 = .ok (.iaload, 1) := by decide +kernel
theorem dX11_settles_202 : decode cX11_settles 202 = .ok (.isub, 1) := by decide +kernel
theorem dX11_settles_203 : decode cX11_settles 203 = .ok (.ireturn, 1) := by decide +kernel
set_option maxRecDepth 20000 in
theorem ggX11_fewestTransfers_X11_settles : GoodIn wsX11_fewestTransfers wsX11_settles := goodIn_ca (goodIn_r _ [6, 7, 8, 9, 10, 11, 12, 13, 14, 15, 16, 17, 18, 19, 20, 21, 22, 23, 24, 25, 26, 27, 28, 29, 30, 31] (by decide +kernel) (by decide +kernel)) (goodIn_sub (fun _ h => List.mem_cons_of_mem _ (List.mem_append_right _ h)) (by decide +kernel))
set_option maxRecDepth 20000 in
theorem gX11_fewestTransfers_X11_settles : GoodIn wsX11_fewestTransfers (wsV RX11 171 RX11 yX11_settles wsX11_settles) := goodIn_app (goodIn_of _ (by decide +kernel)) ggX11_fewestTransfers_X11_settles
theorem dX11_fewestTransfers_0 : decode cX11_fewestTransfers 0 = .ok (.aload_n 0, 1) := by decide +kernel
theorem dX11_fewestTransfers_1 : decode cX11_fewestTransfers 1 = .ok (.iconst 0, 1) := by decide +kernel
theorem dX11_fewestTransfers_2 : decode cX11_fewestTransfers 2 = .ok (.putfield 51, 3) := by decide +kernel
theorem dX11_fewestTransfers_5 : decode cX11_fewestTransfers 5 = .ok (.aload_n 0, 1) := by decide +kernel
theorem dX11_fewestTransfers_6 : decode cX11_fewestTransfers 6 = .ok (.invokevirtual 171, 3) := by decide +kernel
theorem dX11_fewestTransfers_9 : decode cX11_fewestTransfers 9 = .ok (.ireturn, 1) := by decide +kernel
set_option maxRecDepth 20000 in
theorem ggX11_fewestTransfersBySearch_X11_settles : GoodIn wsX11_fewestTransfersBySearch wsX11_settles := goodIn_ca (goodIn_r _ [6, 7, 8, 9, 10, 11, 12, 13, 14, 15, 16, 17, 18, 19, 20, 21, 22, 23, 24, 25, 26, 27, 28, 29, 30, 31] (by decide +kernel) (by decide +kernel)) (goodIn_sub (fun _ h => List.mem_cons_of_mem _ (List.mem_append_right _ h)) (by decide +kernel))
set_option maxRecDepth 20000 in
theorem gX11_fewestTransfersBySearch_X11_settles : GoodIn wsX11_fewestTransfersBySearch (wsV RX11 171 RX11 yX11_settles wsX11_settles) := goodIn_app (goodIn_of _ (by decide +kernel)) ggX11_fewestTransfersBySearch_X11_settles
theorem dX11_fewestTransfersBySearch_0 : decode cX11_fewestTransfersBySearch 0 = .ok (.aload_n 0, 1) := by decide +kernel
theorem dX11_fewestTransfersBySearch_1 : decode cX11_fewestTransfersBySearch 1 = .ok (.iconst 0, 1) := by decide +kernel
theorem dX11_fewestTransfersBySearch_2 : decode cX11_fewestTransfersBySearch 2 = .ok (.putfield 51, 3) := by decide +kernel
theorem dX11_fewestTransfersBySearch_5 : decode cX11_fewestTransfersBySearch 5 = .ok (.aload_n 0, 1) := by decide +kernel
theorem dX11_fewestTransfersBySearch_6 : decode cX11_fewestTransfersBySearch 6 = .ok (.invokevirtual 171, 3) := by decide +kernel
theorem dX11_fewestTransfersBySearch_9 : decode cX11_fewestTransfersBySearch 9 = .ok (.ireturn, 1) := by decide +kernel
theorem dX11_night_0 : decode cX11_night 0 = .ok (.aload_n 0, 1) := by decide +kernel
theorem dX11_night_1 : decode cX11_night 1 = .ok (.iconst 0, 1) := by decide +kernel
theorem dX11_night_2 : decode cX11_night 2 = .ok (.putfield 51, 3) := by decide +kernel
theorem dX11_night_5 : decode cX11_night 5 = .ok (.aload_n 0, 1) := by decide +kernel
theorem dX11_night_6 : decode cX11_night 6 = .ok (.getfield 7, 3) := by decide +kernel
theorem dX11_night_9 : decode cX11_night 9 = .ok (.iconst 1, 1) := by decide +kernel
theorem dX11_night_10 : decode cX11_night 10 = .ok (.iaload, 1) := by decide +kernel
theorem dX11_night_11 : decode cX11_night 11 = .ok (.ireturn, 1) := by decide +kernel
theorem dX11_net_0 : decode cX11_net 0 = .ok (.aload_n 0, 1) := by decide +kernel
theorem dX11_net_1 : decode cX11_net 1 = .ok (.iconst 0, 1) := by decide +kernel
theorem dX11_net_2 : decode cX11_net 2 = .ok (.putfield 51, 3) := by decide +kernel
theorem dX11_net_5 : decode cX11_net 5 = .ok (.aload_n 0, 1) := by decide +kernel
theorem dX11_net_6 : decode cX11_net 6 = .ok (.getfield 7, 3) := by decide +kernel
theorem dX11_net_9 : decode cX11_net 9 = .ok (.iconst 2, 1) := by decide +kernel
theorem dX11_net_10 : decode cX11_net 10 = .ok (.iaload, 1) := by decide +kernel
theorem dX11_net_11 : decode cX11_net 11 = .ok (.ireturn, 1) := by decide +kernel
theorem dX11_showTotal_0 : decode cX11_showTotal 0 = .ok (.aload_n 0, 1) := by decide +kernel
theorem dX11_showTotal_1 : decode cX11_showTotal 1 = .ok (.iconst 0, 1) := by decide +kernel
theorem dX11_showTotal_2 : decode cX11_showTotal 2 = .ok (.putfield 51, 3) := by decide +kernel
theorem dX11_showTotal_5 : decode cX11_showTotal 5 = .ok (.aload_n 0, 1) := by decide +kernel
theorem dX11_showTotal_6 : decode cX11_showTotal 6 = .ok (.getfield 7, 3) := by decide +kernel
theorem dX11_showTotal_9 : decode cX11_showTotal 9 = .ok (.iconst 4, 1) := by decide +kernel
theorem dX11_showTotal_10 : decode cX11_showTotal 10 = .ok (.iaload, 1) := by decide +kernel
theorem dX11_showTotal_11 : decode cX11_showTotal 11 = .ok (.ireturn, 1) := by decide +kernel
theorem dX11_fallenTotal_0 : decode cX11_fallenTotal 0 = .ok (.aload_n 0, 1) := by decide +kernel
theorem dX11_fallenTotal_1 : decode cX11_fallenTotal 1 = .ok (.iconst 0, 1) := by decide +kernel
theorem dX11_fallenTotal_2 : decode cX11_fallenTotal 2 = .ok (.putfield 51, 3) := by decide +kernel
theorem dX11_fallenTotal_5 : decode cX11_fallenTotal 5 = .ok (.aload_n 0, 1) := by decide +kernel
theorem dX11_fallenTotal_6 : decode cX11_fallenTotal 6 = .ok (.getfield 7, 3) := by decide +kernel
theorem dX11_fallenTotal_9 : decode cX11_fallenTotal 9 = .ok (.iconst 5, 1) := by decide +kernel
theorem dX11_fallenTotal_10 : decode cX11_fallenTotal 10 = .ok (.iaload, 1) := by decide +kernel
theorem dX11_fallenTotal_11 : decode cX11_fallenTotal 11 = .ok (.ireturn, 1) := by decide +kernel
theorem dX11_mean_0 : decode cX11_mean 0 = .ok (.iconst 0, 1) := by decide +kernel
theorem dX11_mean_1 : decode cX11_mean 1 = .ok (.istore_n 1, 1) := by decide +kernel
theorem dX11_mean_2 : decode cX11_mean 2 = .ok (.iconst 0, 1) := by decide +kernel
theorem dX11_mean_3 : decode cX11_mean 3 = .ok (.istore_n 2, 1) := by decide +kernel
theorem dX11_mean_4 : decode cX11_mean 4 = .ok (.iconst 0, 1) := by decide +kernel
theorem dX11_mean_5 : decode cX11_mean 5 = .ok (.istore_n 3, 1) := by decide +kernel
theorem dX11_mean_6 : decode cX11_mean 6 = .ok (.iload_n 3, 1) := by decide +kernel
theorem dX11_mean_7 : decode cX11_mean 7 = .ok (.bipush 11, 2) := by decide +kernel
theorem dX11_mean_9 : decode cX11_mean 9 = .ok (.if_icmp .ge 57, 3) := by decide +kernel
theorem dX11_mean_12 : decode cX11_mean 12 = .ok (.iload_n 1, 1) := by decide +kernel
theorem dX11_mean_13 : decode cX11_mean 13 = .ok (.aload_n 0, 1) := by decide +kernel
theorem dX11_mean_14 : decode cX11_mean 14 = .ok (.getfield 7, 3) := by decide +kernel
theorem dX11_mean_17 : decode cX11_mean 17 = .ok (.bipush 36, 2) := by decide +kernel
theorem dX11_mean_19 : decode cX11_mean 19 = .ok (.iload_n 3, 1) := by decide +kernel
theorem dX11_mean_20 : decode cX11_mean 20 = .ok (.iadd, 1) := by decide +kernel
theorem dX11_mean_21 : decode cX11_mean 21 = .ok (.iaload, 1) := by decide +kernel
theorem dX11_mean_22 : decode cX11_mean 22 = .ok (.ifCond .le 15, 3) := by decide +kernel
theorem dX11_mean_25 : decode cX11_mean 25 = .ok (.aload_n 0, 1) := by decide +kernel
theorem dX11_mean_26 : decode cX11_mean 26 = .ok (.getfield 7, 3) := by decide +kernel
theorem dX11_mean_29 : decode cX11_mean 29 = .ok (.bipush 36, 2) := by decide +kernel
theorem dX11_mean_31 : decode cX11_mean 31 = .ok (.iload_n 3, 1) := by decide +kernel
theorem dX11_mean_32 : decode cX11_mean 32 = .ok (.iadd, 1) := by decide +kernel
theorem dX11_mean_33 : decode cX11_mean 33 = .ok (.iaload, 1) := by decide +kernel
theorem dX11_mean_34 : decode cX11_mean 34 = .ok (.goto 4, 3) := by decide +kernel
theorem dX11_mean_37 : decode cX11_mean 37 = .ok (.iconst 0, 1) := by decide +kernel
theorem dX11_mean_38 : decode cX11_mean 38 = .ok (.iadd, 1) := by decide +kernel
theorem dX11_mean_39 : decode cX11_mean 39 = .ok (.istore_n 1, 1) := by decide +kernel
theorem dX11_mean_40 : decode cX11_mean 40 = .ok (.iload_n 2, 1) := by decide +kernel
theorem dX11_mean_41 : decode cX11_mean 41 = .ok (.aload_n 0, 1) := by decide +kernel
theorem dX11_mean_42 : decode cX11_mean 42 = .ok (.getfield 7, 3) := by decide +kernel
theorem dX11_mean_45 : decode cX11_mean 45 = .ok (.bipush 36, 2) := by decide +kernel
theorem dX11_mean_47 : decode cX11_mean 47 = .ok (.iload_n 3, 1) := by decide +kernel
theorem dX11_mean_48 : decode cX11_mean 48 = .ok (.iadd, 1) := by decide +kernel
theorem dX11_mean_49 : decode cX11_mean 49 = .ok (.iaload, 1) := by decide +kernel
theorem dX11_mean_50 : decode cX11_mean 50 = .ok (.ifCond .le 7, 3) := by decide +kernel
theorem dX11_mean_53 : decode cX11_mean 53 = .ok (.iconst 1, 1) := by decide +kernel
theorem dX11_mean_54 : decode cX11_mean 54 = .ok (.goto 4, 3) := by decide +kernel
theorem dX11_mean_57 : decode cX11_mean 57 = .ok (.iconst 0, 1) := by decide +kernel
theorem dX11_mean_58 : decode cX11_mean 58 = .ok (.iadd, 1) := by decide +kernel
theorem dX11_mean_59 : decode cX11_mean 59 = .ok (.istore_n 2, 1) := by decide +kernel
theorem dX11_mean_60 : decode cX11_mean 60 = .ok (.iinc 3 1, 3) := by decide +kernel
theorem dX11_mean_63 : decode cX11_mean 63 = .ok (.goto (-57), 3) := by decide +kernel
theorem dX11_mean_66 : decode cX11_mean 66 = .ok (.iload_n 2, 1) := by decide +kernel
theorem dX11_mean_67 : decode cX11_mean 67 = .ok (.ifCond .ne 7, 3) := by decide +kernel
theorem dX11_mean_70 : decode cX11_mean 70 = .ok (.dconst 0, 1) := by decide +kernel
theorem dX11_mean_71 : decode cX11_mean 71 = .ok (.goto 8, 3) := by decide +kernel
theorem dX11_mean_74 : decode cX11_mean 74 = .ok (.iload_n 1, 1) := by decide +kernel
theorem dX11_mean_75 : decode cX11_mean 75 = .ok (.i2d, 1) := by decide +kernel
theorem dX11_mean_76 : decode cX11_mean 76 = .ok (.iload_n 2, 1) := by decide +kernel
theorem dX11_mean_77 : decode cX11_mean 77 = .ok (.i2d, 1) := by decide +kernel
theorem dX11_mean_78 : decode cX11_mean 78 = .ok (.ddiv, 1) := by decide +kernel
theorem dX11_mean_79 : decode cX11_mean 79 = .ok (.dreturn, 1) := by decide +kernel
theorem dX11_isNonePositive_0 : decode cX11_isNonePositive 0 = .ok (.iconst 0, 1) := by decide +kernel
theorem dX11_isNonePositive_1 : decode cX11_isNonePositive 1 = .ok (.istore_n 1, 1) := by decide +kernel
theorem dX11_isNonePositive_2 : decode cX11_isNonePositive 2 = .ok (.iload_n 1, 1) := by decide +kernel
theorem dX11_isNonePositive_3 : decode cX11_isNonePositive 3 = .ok (.bipush 11, 2) := by decide +kernel
theorem dX11_isNonePositive_5 : decode cX11_isNonePositive 5 = .ok (.if_icmp .ge 23, 3) := by decide +kernel
theorem dX11_isNonePositive_8 : decode cX11_isNonePositive 8 = .ok (.aload_n 0, 1) := by decide +kernel
theorem dX11_isNonePositive_9 : decode cX11_isNonePositive 9 = .ok (.getfield 7, 3) := by decide +kernel
theorem dX11_isNonePositive_12 : decode cX11_isNonePositive 12 = .ok (.bipush 36, 2) := by decide +kernel
theorem dX11_isNonePositive_14 : decode cX11_isNonePositive 14 = .ok (.iload_n 1, 1) := by decide +kernel
theorem dX11_isNonePositive_15 : decode cX11_isNonePositive 15 = .ok (.iadd, 1) := by decide +kernel
theorem dX11_isNonePositive_16 : decode cX11_isNonePositive 16 = .ok (.iaload, 1) := by decide +kernel
theorem dX11_isNonePositive_17 : decode cX11_isNonePositive 17 = .ok (.ifCond .le 5, 3) := by decide +kernel
theorem dX11_isNonePositive_20 : decode cX11_isNonePositive 20 = .ok (.iconst 0, 1) := by decide +kernel
theorem dX11_isNonePositive_21 : decode cX11_isNonePositive 21 = .ok (.ireturn, 1) := by decide +kernel
theorem dX11_isNonePositive_22 : decode cX11_isNonePositive 22 = .ok (.iinc 1 1, 3) := by decide +kernel
theorem dX11_isNonePositive_25 : decode cX11_isNonePositive 25 = .ok (.goto (-23), 3) := by decide +kernel
theorem dX11_isNonePositive_28 : decode cX11_isNonePositive 28 = .ok (.iconst 1, 1) := by decide +kernel
theorem dX11_isNonePositive_29 : decode cX11_isNonePositive 29 = .ok (.ireturn, 1) := by decide +kernel
set_option maxRecDepth 20000 in
theorem ggX11_meanPositive_X11_isNonePositive : GoodIn wsX11_meanPositive wsX11_isNonePositive := goodIn_ca (goodIn_r _ [5, 6, 16, 17, 18, 19, 20, 21, 22, 23, 24, 25, 26, 27, 28, 29, 30, 31, 32, 33, 34, 35, 36, 37] (by decide +kernel) (by decide +kernel)) (goodIn_sub (fun _ h => List.mem_cons_of_mem _ (List.mem_append_right _ h)) (by decide +kernel))
set_option maxRecDepth 20000 in
theorem gX11_meanPositive_X11_isNonePositive : GoodIn wsX11_meanPositive (wsV RX11 174 RX11 yX11_isNonePositive wsX11_isNonePositive) := goodIn_app (goodIn_of _ (by decide +kernel)) ggX11_meanPositive_X11_isNonePositive
set_option maxRecDepth 20000 in
theorem ggX11_meanPositive_X11_fails : GoodIn wsX11_meanPositive wsX11_fails := goodIn_r _ [10, 11, 16, 17, 18, 19, 20, 21, 22, 23, 24, 25, 26, 27, 28, 29, 30, 31, 32, 33, 34, 35, 36, 37] (by decide +kernel) (by decide +kernel)
set_option maxRecDepth 20000 in
theorem gX11_meanPositive_X11_fails : GoodIn wsX11_meanPositive (wsV RX11 73 RX11 yX11_fails wsX11_fails) := goodIn_app (goodIn_of _ (by decide +kernel)) ggX11_meanPositive_X11_fails
set_option maxRecDepth 20000 in
theorem ggX11_meanPositive_X11_mean : GoodIn wsX11_meanPositive wsX11_mean := goodIn_ca (goodIn_r _ [15, 6, 16, 17, 18, 19, 20, 21, 22, 23, 24, 25, 26, 27, 28, 29, 30, 31, 32, 33, 34, 35, 36, 37] (by decide +kernel) (by decide +kernel)) (goodIn_sub (fun _ h => List.mem_cons_of_mem _ (List.mem_append_right _ h)) (by decide +kernel))
set_option maxRecDepth 20000 in
theorem gX11_meanPositive_X11_mean : GoodIn wsX11_meanPositive (wsV RX11 178 RX11 yX11_mean wsX11_mean) := goodIn_app (goodIn_of _ (by decide +kernel)) ggX11_meanPositive_X11_mean
theorem dX11_meanPositive_0 : decode cX11_meanPositive 0 = .ok (.aload_n 0, 1) := by decide +kernel
theorem dX11_meanPositive_1 : decode cX11_meanPositive 1 = .ok (.aload_n 0, 1) := by decide +kernel
theorem dX11_meanPositive_2 : decode cX11_meanPositive 2 = .ok (.invokevirtual 174, 3) := by decide +kernel
theorem dX11_meanPositive_5 : decode cX11_meanPositive 5 = .ok (.ifCond .eq 7, 3) := by decide +kernel
theorem dX11_meanPositive_8 : decode cX11_meanPositive 8 = .ok (.iconst 1, 1) := by decide +kernel
theorem dX11_meanPositive_9 : decode cX11_meanPositive 9 = .ok (.goto 4, 3) := by decide +kernel
theorem dX11_meanPositive_12 : decode cX11_meanPositive 12 = .ok (.iconst 0, 1) := by decide +kernel
theorem dX11_meanPositive_13 : decode cX11_meanPositive 13 = .ok (.invokevirtual 73, 3) := by decide +kernel
theorem dX11_meanPositive_16 : decode cX11_meanPositive 16 = .ok (.ifCond .eq 7, 3) := by decide +kernel
theorem dX11_meanPositive_19 : decode cX11_meanPositive 19 = .ok (.dconst 0, 1) := by decide +kernel
theorem dX11_meanPositive_20 : decode cX11_meanPositive 20 = .ok (.goto 7, 3) := by decide +kernel
theorem dX11_meanPositive_23 : decode cX11_meanPositive 23 = .ok (.aload_n 0, 1) := by decide +kernel
theorem dX11_meanPositive_24 : decode cX11_meanPositive 24 = .ok (.invokevirtual 178, 3) := by decide +kernel
theorem dX11_meanPositive_27 : decode cX11_meanPositive 27 = .ok (.dreturn, 1) := by decide +kernel
set_option maxRecDepth 20000 in
theorem ggX11_meanPositiveBits_X11_isNonePositive : GoodIn wsX11_meanPositiveBits wsX11_isNonePositive := goodIn_ca (goodIn_r _ [5, 6, 28, 29, 30, 31, 32, 33, 34, 35, 36, 37, 38, 39, 40, 41, 42, 43, 44, 45, 46, 47, 48, 49] (by decide +kernel) (by decide +kernel)) (goodIn_sub (fun _ h => List.mem_cons_of_mem _ (List.mem_append_right _ h)) (by decide +kernel))
set_option maxRecDepth 20000 in
theorem gX11_meanPositiveBits_X11_isNonePositive : GoodIn wsX11_meanPositiveBits (wsV RX11 174 RX11 yX11_isNonePositive wsX11_isNonePositive) := goodIn_app (goodIn_of _ (by decide +kernel)) ggX11_meanPositiveBits_X11_isNonePositive
set_option maxRecDepth 20000 in
theorem ggX11_meanPositiveBits_X11_fails : GoodIn wsX11_meanPositiveBits wsX11_fails := goodIn_r _ [10, 11, 28, 29, 30, 31, 32, 33, 34, 35, 36, 37, 38, 39, 40, 41, 42, 43, 44, 45, 46, 47, 48, 49] (by decide +kernel) (by decide +kernel)
set_option maxRecDepth 20000 in
theorem gX11_meanPositiveBits_X11_fails : GoodIn wsX11_meanPositiveBits (wsV RX11 73 RX11 yX11_fails wsX11_fails) := goodIn_app (goodIn_of _ (by decide +kernel)) ggX11_meanPositiveBits_X11_fails
set_option maxRecDepth 20000 in
theorem ggX11_meanPositiveBits_X11_mean : GoodIn wsX11_meanPositiveBits wsX11_mean := goodIn_ca (goodIn_r _ [15, 6, 28, 29, 30, 31, 32, 33, 34, 35, 36, 37, 38, 39, 40, 41, 42, 43, 44, 45, 46, 47, 48, 49] (by decide +kernel) (by decide +kernel)) (goodIn_sub (fun _ h => List.mem_cons_of_mem _ (List.mem_append_right _ h)) (by decide +kernel))
set_option maxRecDepth 20000 in
theorem gX11_meanPositiveBits_X11_mean : GoodIn wsX11_meanPositiveBits (wsV RX11 178 RX11 yX11_mean wsX11_mean) := goodIn_app (goodIn_of _ (by decide +kernel)) ggX11_meanPositiveBits_X11_mean
set_option maxRecDepth 20000 in
theorem ggX11_meanPositiveBits_Jxe99ae_doubleToLongBits_ccdee : GoodIn wsX11_meanPositiveBits wsJxe99ae_doubleToLongBits_ccdee := goodIn_r _ [19, 20, 21, 22, 23, 24, 25, 26, 18, 27] (by decide +kernel) (by decide +kernel)
set_option maxRecDepth 20000 in
theorem gX11_meanPositiveBits_Jxe99ae_doubleToLongBits_ccdee : GoodIn wsX11_meanPositiveBits (va_wsS RX11 182 yJxe99ae_doubleToLongBits_ccdee wsJxe99ae_doubleToLongBits_ccdee) := goodIn_app (goodIn_of _ (by decide +kernel)) ggX11_meanPositiveBits_Jxe99ae_doubleToLongBits_ccdee
theorem dX11_meanPositiveBits_0 : decode cX11_meanPositiveBits 0 = .ok (.aload_n 0, 1) := by decide +kernel
theorem dX11_meanPositiveBits_1 : decode cX11_meanPositiveBits 1 = .ok (.aload_n 0, 1) := by decide +kernel
theorem dX11_meanPositiveBits_2 : decode cX11_meanPositiveBits 2 = .ok (.invokevirtual 174, 3) := by decide +kernel
theorem dX11_meanPositiveBits_5 : decode cX11_meanPositiveBits 5 = .ok (.ifCond .eq 7, 3) := by decide +kernel
theorem dX11_meanPositiveBits_8 : decode cX11_meanPositiveBits 8 = .ok (.iconst 1, 1) := by decide +kernel
theorem dX11_meanPositiveBits_9 : decode cX11_meanPositiveBits 9 = .ok (.goto 4, 3) := by decide +kernel
theorem dX11_meanPositiveBits_12 : decode cX11_meanPositiveBits 12 = .ok (.iconst 0, 1) := by decide +kernel
theorem dX11_meanPositiveBits_13 : decode cX11_meanPositiveBits 13 = .ok (.invokevirtual 73, 3) := by decide +kernel
theorem dX11_meanPositiveBits_16 : decode cX11_meanPositiveBits 16 = .ok (.ifCond .eq 7, 3) := by decide +kernel
theorem dX11_meanPositiveBits_19 : decode cX11_meanPositiveBits 19 = .ok (.lconst 0, 1) := by decide +kernel
theorem dX11_meanPositiveBits_20 : decode cX11_meanPositiveBits 20 = .ok (.goto 10, 3) := by decide +kernel
theorem dX11_meanPositiveBits_23 : decode cX11_meanPositiveBits 23 = .ok (.aload_n 0, 1) := by decide +kernel
theorem dX11_meanPositiveBits_24 : decode cX11_meanPositiveBits 24 = .ok (.invokevirtual 178, 3) := by decide +kernel
theorem dX11_meanPositiveBits_27 : decode cX11_meanPositiveBits 27 = .ok (.invokestatic 182, 3) := by decide +kernel
theorem dX11_meanPositiveBits_30 : decode cX11_meanPositiveBits 30 = .ok (.lreturn, 1) := by decide +kernel
theorem dX11_isConsistent_0 : decode cX11_isConsistent 0 = .ok (.aload_n 0, 1) := by decide +kernel
theorem dX11_isConsistent_1 : decode cX11_isConsistent 1 = .ok (.iconst 0, 1) := by decide +kernel
theorem dX11_isConsistent_2 : decode cX11_isConsistent 2 = .ok (.putfield 51, 3) := by decide +kernel
theorem dX11_isConsistent_5 : decode cX11_isConsistent 5 = .ok (.iconst 0, 1) := by decide +kernel
theorem dX11_isConsistent_6 : decode cX11_isConsistent 6 = .ok (.istore_n 1, 1) := by decide +kernel
theorem dX11_isConsistent_7 : decode cX11_isConsistent 7 = .ok (.iconst 0, 1) := by decide +kernel
theorem dX11_isConsistent_8 : decode cX11_isConsistent 8 = .ok (.istore_n 2, 1) := by decide +kernel
theorem dX11_isConsistent_9 : decode cX11_isConsistent 9 = .ok (.iload_n 2, 1) := by decide +kernel
theorem dX11_isConsistent_10 : decode cX11_isConsistent 10 = .ok (.bipush 11, 2) := by decide +kernel
theorem dX11_isConsistent_12 : decode cX11_isConsistent 12 = .ok (.if_icmp .ge 21, 3) := by decide +kernel
theorem dX11_isConsistent_15 : decode cX11_isConsistent 15 = .ok (.iload_n 1, 1) := by decide +kernel
theorem dX11_isConsistent_16 : decode cX11_isConsistent 16 = .ok (.aload_n 0, 1) := by decide +kernel
theorem dX11_isConsistent_17 : decode cX11_isConsistent 17 = .ok (.getfield 7, 3) := by decide +kernel
theorem dX11_isConsistent_20 : decode cX11_isConsistent 20 = .ok (.bipush 36, 2) := by decide +kernel
theorem dX11_isConsistent_22 : decode cX11_isConsistent 22 = .ok (.iload_n 2, 1) := by decide +kernel
theorem dX11_isConsistent_23 : decode cX11_isConsistent 23 = .ok (.iadd, 1) := by decide +kernel
theorem dX11_isConsistent_24 : decode cX11_isConsistent 24 = .ok (.iaload, 1) := by decide +kernel
theorem dX11_isConsistent_25 : decode cX11_isConsistent 25 = .ok (.iadd, 1) := by decide +kernel
theorem dX11_isConsistent_26 : decode cX11_isConsistent 26 = .ok (.istore_n 1, 1) := by decide +kernel
theorem dX11_isConsistent_27 : decode cX11_isConsistent 27 = .ok (.iinc 2 1, 3) := by decide +kernel
theorem dX11_isConsistent_30 : decode cX11_isConsistent 30 = .ok (.goto (-21), 3) := by decide +kernel
theorem dX11_isConsistent_33 : decode cX11_isConsistent 33 = .ok (.iload_n 1, 1) := by decide +kernel
theorem dX11_isConsistent_34 : decode cX11_isConsistent 34 = .ok (.ifCond .ne 7, 3) := by decide +kernel
theorem dX11_isConsistent_37 : decode cX11_isConsistent 37 = .ok (.iconst 1, 1) := by decide +kernel
theorem dX11_isConsistent_38 : decode cX11_isConsistent 38 = .ok (.goto 4, 3) := by decide +kernel
theorem dX11_isConsistent_41 : decode cX11_isConsistent 41 = .ok (.iconst 0, 1) := by decide +kernel
theorem dX11_isConsistent_42 : decode cX11_isConsistent 42 = .ok (.ireturn, 1) := by decide +kernel
theorem dX11_writes_0 : decode cX11_writes 0 = .ok (.aload_n 0, 1) := by decide +kernel
theorem dX11_writes_1 : decode cX11_writes 1 = .ok (.getfield 32, 3) := by decide +kernel
theorem dX11_writes_4 : decode cX11_writes 4 = .ok (.aload_n 0, 1) := by decide +kernel
theorem dX11_writes_5 : decode cX11_writes 5 = .ok (.getfield 188, 3) := by decide +kernel
theorem dX11_writes_8 : decode cX11_writes 8 = .ok (.iload_n 1, 1) := by decide +kernel
theorem dX11_writes_9 : decode cX11_writes 9 = .ok (.i2c, 1) := by decide +kernel
theorem dX11_writes_10 : decode cX11_writes 10 = .ok (.castore, 1) := by decide +kernel
theorem dX11_writes_11 : decode cX11_writes 11 = .ok (.aload_n 0, 1) := by decide +kernel
theorem dX11_writes_12 : decode cX11_writes 12 = .ok (.dup, 1) := by decide +kernel
theorem dX11_writes_13 : decode cX11_writes 13 = .ok (.getfield 188, 3) := by decide +kernel
theorem dX11_writes_16 : decode cX11_writes 16 = .ok (.iconst 1, 1) := by decide +kernel
theorem dX11_writes_17 : decode cX11_writes 17 = .ok (.iadd, 1) := by decide +kernel
theorem dX11_writes_18 : decode cX11_writes 18 = .ok (.putfield 188, 3) := by decide +kernel
theorem dX11_writes_21 : decode cX11_writes 21 = .ok (.return_, 1) := by decide +kernel
set_option maxRecDepth 20000 in
theorem ggX11_writesNumber_X11_writesNumber : GoodIn wsX11_writesNumber wsX11_writesNumber := goodIn_ca (goodIn_r _ [0, 1, 2, 3, 4, 5, 6, 7, 8, 9, 10, 11, 12, 13, 14, 15, 16, 17, 18, 19, 20, 21, 22, 23, 24, 25, 26, 27, 28, 29, 30, 31, 32] (by decide +kernel) (by decide +kernel)) (goodIn_sub (fun _ h => List.mem_cons_of_mem _ (List.mem_append_right _ h)) (by decide +kernel))
set_option maxRecDepth 20000 in
theorem gX11_writesNumber_X11_writesNumber : GoodIn wsX11_writesNumber (wsV RX11 191 RX11 yX11_writesNumber wsX11_writesNumber) := goodIn_app (goodIn_of _ (by decide +kernel)) ggX11_writesNumber_X11_writesNumber
set_option maxRecDepth 20000 in
theorem ggX11_writesNumber_X11_writes : GoodIn wsX11_writesNumber wsX11_writes := goodIn_ca (goodIn_r _ [8, 9, 10, 11, 12, 13, 14, 15, 16, 17, 18, 19, 20, 21, 22, 23, 24, 25, 26, 27, 28, 29, 30, 31, 32] (by decide +kernel) (by decide +kernel)) (goodIn_sub (fun _ h => List.mem_cons_of_mem _ (List.mem_append_right _ h)) (by decide +kernel))
set_option maxRecDepth 20000 in
theorem gX11_writesNumber_X11_writes : GoodIn wsX11_writesNumber (wsV RX11 194 RX11 yX11_writes wsX11_writes) := goodIn_app (goodIn_of _ (by decide +kernel)) ggX11_writesNumber_X11_writes
theorem dX11_writesNumber_0 : decode cX11_writesNumber 0 = .ok (.iload_n 1, 1) := by decide +kernel
theorem dX11_writesNumber_1 : decode cX11_writesNumber 1 = .ok (.bipush 9, 2) := by decide +kernel
theorem dX11_writesNumber_3 : decode cX11_writesNumber 3 = .ok (.if_icmp .le 11, 3) := by decide +kernel
theorem dX11_writesNumber_6 : decode cX11_writesNumber 6 = .ok (.aload_n 0, 1) := by decide +kernel
theorem dX11_writesNumber_7 : decode cX11_writesNumber 7 = .ok (.iload_n 1, 1) := by decide +kernel
theorem dX11_writesNumber_8 : decode cX11_writesNumber 8 = .ok (.bipush 10, 2) := by decide +kernel
theorem dX11_writesNumber_10 : decode cX11_writesNumber 10 = .ok (.idiv, 1) := by decide +kernel
theorem dX11_writesNumber_11 : decode cX11_writesNumber 11 = .ok (.invokevirtual 191, 3) := by decide +kernel
theorem dX11_writesNumber_14 : decode cX11_writesNumber 14 = .ok (.aload_n 0, 1) := by decide +kernel
theorem dX11_writesNumber_15 : decode cX11_writesNumber 15 = .ok (.bipush 48, 2) := by decide +kernel
theorem dX11_writesNumber_17 : decode cX11_writesNumber 17 = .ok (.iload_n 1, 1) := by decide +kernel
theorem dX11_writesNumber_18 : decode cX11_writesNumber 18 = .ok (.bipush 10, 2) := by decide +kernel
theorem dX11_writesNumber_20 : decode cX11_writesNumber 20 = .ok (.irem, 1) := by decide +kernel
theorem dX11_writesNumber_21 : decode cX11_writesNumber 21 = .ok (.iadd, 1) := by decide +kernel
theorem dX11_writesNumber_22 : decode cX11_writesNumber 22 = .ok (.invokevirtual 194, 3) := by decide +kernel
theorem dX11_writesNumber_25 : decode cX11_writesNumber 25 = .ok (.return_, 1) := by decide +kernel
set_option maxRecDepth 20000 in
theorem ggX11_writesBehind_X11_writes : GoodIn wsX11_writesBehind wsX11_writes := goodIn_ca (goodIn_r _ [5, 6, 7, 12, 13, 14, 15, 16, 17, 18, 19, 20, 21, 22, 23, 24, 25, 26, 27, 28, 29, 30, 31, 32, 33] (by decide +kernel) (by decide +kernel)) (goodIn_sub (fun _ h => List.mem_cons_of_mem _ (List.mem_append_right _ h)) (by decide +kernel))
set_option maxRecDepth 20000 in
theorem gX11_writesBehind_X11_writes : GoodIn wsX11_writesBehind (wsV RX11 194 RX11 yX11_writes wsX11_writes) := goodIn_app (goodIn_of _ (by decide +kernel)) ggX11_writesBehind_X11_writes
set_option maxRecDepth 20000 in
theorem ggX11_writesBehind_X11_writesNumber : GoodIn wsX11_writesBehind wsX11_writesNumber := goodIn_ca (goodIn_r _ [11, 8, 9, 10, 4, 1, 2, 3, 5, 6, 7, 12, 13, 14, 15, 16, 17, 18, 19, 20, 21, 22, 23, 24, 25, 26, 27, 28, 29, 30, 31, 32, 33] (by decide +kernel) (by decide +kernel)) (goodIn_sub (fun _ h => List.mem_cons_of_mem _ (List.mem_append_right _ h)) (by decide +kernel))
set_option maxRecDepth 20000 in
theorem gX11_writesBehind_X11_writesNumber : GoodIn wsX11_writesBehind (wsV RX11 191 RX11 yX11_writesNumber wsX11_writesNumber) := goodIn_app (goodIn_of _ (by decide +kernel)) ggX11_writesBehind_X11_writesNumber
theorem dX11_writesBehind_0 : decode cX11_writesBehind 0 = .ok (.aload_n 0, 1) := by decide +kernel
theorem dX11_writesBehind_1 : decode cX11_writesBehind 1 = .ok (.iload_n 1, 1) := by decide +kernel
theorem dX11_writesBehind_2 : decode cX11_writesBehind 2 = .ok (.invokevirtual 194, 3) := by decide +kernel
theorem dX11_writesBehind_5 : decode cX11_writesBehind 5 = .ok (.aload_n 0, 1) := by decide +kernel
theorem dX11_writesBehind_6 : decode cX11_writesBehind 6 = .ok (.iload_n 2, 1) := by decide +kernel
theorem dX11_writesBehind_7 : decode cX11_writesBehind 7 = .ok (.invokevirtual 191, 3) := by decide +kernel
theorem dX11_writesBehind_10 : decode cX11_writesBehind 10 = .ok (.return_, 1) := by decide +kernel
set_option maxRecDepth 20000 in
theorem ggX11_renderColumn_X11_isWrong : GoodIn wsX11_renderColumn wsX11_isWrong := goodIn_ca (goodIn_r _ [9, 10, 11, 12, 8, 13, 14, 15, 16, 17, 18, 19, 20, 21, 22, 23, 2, 3, 4, 24, 25, 26, 27, 28, 29, 30, 31, 49, 50, 51, 52, 53, 54, 55, 56, 57, 58, 59, 60, 61, 62, 63, 64, 65, 66, 67, 68, 69, 70] (by decide +kernel) (by decide +kernel)) (goodIn_sub (fun _ h => List.mem_cons_of_mem _ (List.mem_append_right _ h)) (by decide +kernel))
set_option maxRecDepth 20000 in
theorem gX11_renderColumn_X11_isWrong : GoodIn wsX11_renderColumn (wsV RX11 122 RX11 yX11_isWrong wsX11_isWrong) := goodIn_app (goodIn_of _ (by decide +kernel)) ggX11_renderColumn_X11_isWrong
set_option maxRecDepth 20000 in
theorem ggX11_renderColumn_X11_writes : GoodIn wsX11_renderColumn wsX11_writes := goodIn_ca (goodIn_r _ [35, 36, 1, 49, 50, 51, 52, 53, 54, 55, 56, 57, 58, 59, 60, 61, 62, 63, 64, 65, 66, 67, 68, 69, 70] (by decide +kernel) (by decide +kernel)) (goodIn_sub (fun _ h => List.mem_cons_of_mem _ (List.mem_append_right _ h)) (by decide +kernel))
set_option maxRecDepth 20000 in
theorem gX11_renderColumn_X11_writes : GoodIn wsX11_renderColumn (wsV RX11 194 RX11 yX11_writes wsX11_writes) := goodIn_app (goodIn_of _ (by decide +kernel)) ggX11_renderColumn_X11_writes
set_option maxRecDepth 20000 in
theorem ggX11_renderColumn_X11_writesNumber : GoodIn wsX11_renderColumn wsX11_writesNumber := goodIn_ca (goodIn_r _ [40, 37, 38, 39, 8, 32, 33, 34, 35, 36, 1, 49, 50, 51, 52, 53, 54, 55, 56, 57, 58, 59, 60, 61, 62, 63, 64, 65, 66, 67, 68, 69, 70] (by decide +kernel) (by decide +kernel)) (goodIn_sub (fun _ h => List.mem_cons_of_mem _ (List.mem_append_right _ h)) (by decide +kernel))
set_option maxRecDepth 20000 in
theorem gX11_renderColumn_X11_writesNumber : GoodIn wsX11_renderColumn (wsV RX11 191 RX11 yX11_writesNumber wsX11_writesNumber) := goodIn_app (goodIn_of _ (by decide +kernel)) ggX11_renderColumn_X11_writesNumber
set_option maxRecDepth 20000 in
theorem ggX11_renderColumn_X11_writesBehind : GoodIn wsX11_renderColumn wsX11_writesBehind := goodIn_ca (goodIn_r _ [44, 32, 33, 34, 8, 35, 36, 1, 37, 38, 39, 40, 49, 50, 51, 52, 53, 54, 55, 56, 57, 58, 59, 60, 61, 62, 63, 64, 65, 66, 67, 68, 69, 70] (by decide +kernel) (by decide +kernel)) (goodIn_sub (fun _ h => List.mem_cons_of_mem _ (List.mem_append_right _ h)) (by decide +kernel))
set_option maxRecDepth 20000 in
theorem gX11_renderColumn_X11_writesBehind : GoodIn wsX11_renderColumn (wsV RX11 197 RX11 yX11_writesBehind wsX11_writesBehind) := goodIn_app (goodIn_of _ (by decide +kernel)) ggX11_renderColumn_X11_writesBehind
set_option maxRecDepth 20000 in
theorem ggX11_renderColumn_X11_of : GoodIn wsX11_renderColumn wsX11_of := goodIn_ca (goodIn_r _ [31, 14, 49, 50, 51, 52, 53, 54, 55, 56, 57, 58, 59, 60, 61, 62, 63, 64, 65, 66, 67, 68, 69, 70] (by decide +kernel) (by decide +kernel)) (goodIn_sub (fun _ h => List.mem_cons_of_mem _ (List.mem_append_right _ h)) (by decide +kernel))
set_option maxRecDepth 20000 in
theorem gX11_renderColumn_X11_of : GoodIn wsX11_renderColumn (wsV RX11 91 RX11 yX11_of wsX11_of) := goodIn_app (goodIn_of _ (by decide +kernel)) ggX11_renderColumn_X11_of
set_option maxRecDepth 20000 in
theorem ggX11_renderColumn_X11_breaks : GoodIn wsX11_renderColumn wsX11_breaks := goodIn_ca (goodIn_r _ [48, 2, 4, 3, 28, 29, 30, 8, 31, 14, 49, 50, 51, 52, 53, 54, 55, 56, 57, 58, 59, 60, 61, 62, 63, 64, 65, 66, 67, 68, 69, 70] (by decide +kernel) (by decide +kernel)) (goodIn_sub (fun _ h => List.mem_cons_of_mem _ (List.mem_append_right _ h)) (by decide +kernel))
set_option maxRecDepth 20000 in
theorem gX11_renderColumn_X11_breaks : GoodIn wsX11_renderColumn (wsV RX11 101 RX11 yX11_breaks wsX11_breaks) := goodIn_app (goodIn_of _ (by decide +kernel)) ggX11_renderColumn_X11_breaks
theorem dX11_renderColumn_0 : decode cX11_renderColumn 0 = .ok (.aload_n 0, 1) := by decide +kernel
theorem dX11_renderColumn_1 : decode cX11_renderColumn 1 = .ok (.iload_n 1, 1) := by decide +kernel
theorem dX11_renderColumn_2 : decode cX11_renderColumn 2 = .ok (.invokevirtual 122, 3) := by decide +kernel
theorem dX11_renderColumn_5 : decode cX11_renderColumn 5 = .ok (.ifCond .eq 5, 3) := by decide +kernel
theorem dX11_renderColumn_8 : decode cX11_renderColumn 8 = .ok (.iconst 0, 1) := by decide +kernel
theorem dX11_renderColumn_9 : decode cX11_renderColumn 9 = .ok (.ireturn, 1) := by decide +kernel
theorem dX11_renderColumn_10 : decode cX11_renderColumn 10 = .ok (.aload_n 0, 1) := by decide +kernel
theorem dX11_renderColumn_11 : decode cX11_renderColumn 11 = .ok (.iconst 0, 1) := by decide +kernel
theorem dX11_renderColumn_12 : decode cX11_renderColumn 12 = .ok (.putfield 188, 3) := by decide +kernel
theorem dX11_renderColumn_15 : decode cX11_renderColumn 15 = .ok (.iconst 0, 1) := by decide +kernel
theorem dX11_renderColumn_16 : decode cX11_renderColumn 16 = .ok (.istore_n 2, 1) := by decide +kernel
theorem dX11_renderColumn_17 : decode cX11_renderColumn 17 = .ok (.iload_n 2, 1) := by decide +kernel
theorem dX11_renderColumn_18 : decode cX11_renderColumn 18 = .ok (.aload_n 0, 1) := by decide +kernel
theorem dX11_renderColumn_19 : decode cX11_renderColumn 19 = .ok (.getfield 95, 3) := by decide +kernel
theorem dX11_renderColumn_22 : decode cX11_renderColumn 22 = .ok (.if_icmp .ge 78, 3) := by decide +kernel
theorem dX11_renderColumn_25 : decode cX11_renderColumn 25 = .ok (.iload_n 2, 1) := by decide +kernel
theorem dX11_renderColumn_26 : decode cX11_renderColumn 26 = .ok (.ifCond .le 9, 3) := by decide +kernel
theorem dX11_renderColumn_29 : decode cX11_renderColumn 29 = .ok (.aload_n 0, 1) := by decide +kernel
theorem dX11_renderColumn_30 : decode cX11_renderColumn 30 = .ok (.bipush 32, 2) := by decide +kernel
theorem dX11_renderColumn_32 : decode cX11_renderColumn 32 = .ok (.invokevirtual 194, 3) := by decide +kernel
theorem dX11_renderColumn_35 : decode cX11_renderColumn 35 = .ok (.aload_n 0, 1) := by decide +kernel
theorem dX11_renderColumn_36 : decode cX11_renderColumn 36 = .ok (.aload_n 0, 1) := by decide +kernel
theorem dX11_renderColumn_37 : decode cX11_renderColumn 37 = .ok (.getfield 36, 3) := by decide +kernel
theorem dX11_renderColumn_40 : decode cX11_renderColumn 40 = .ok (.iload_n 2, 1) := by decide +kernel
theorem dX11_renderColumn_41 : decode cX11_renderColumn 41 = .ok (.iaload, 1) := by decide +kernel
theorem dX11_renderColumn_42 : decode cX11_renderColumn 42 = .ok (.invokevirtual 191, 3) := by decide +kernel
theorem dX11_renderColumn_45 : decode cX11_renderColumn 45 = .ok (.aload_n 0, 1) := by decide +kernel
theorem dX11_renderColumn_46 : decode cX11_renderColumn 46 = .ok (.bipush 40, 2) := by decide +kernel
theorem dX11_renderColumn_48 : decode cX11_renderColumn 48 = .ok (.aload_n 0, 1) := by decide +kernel
theorem dX11_renderColumn_49 : decode cX11_renderColumn 49 = .ok (.getfield 39, 3) := by decide +kernel
theorem dX11_renderColumn_52 : decode cX11_renderColumn 52 = .ok (.iload_n 2, 1) := by decide +kernel
theorem dX11_renderColumn_53 : decode cX11_renderColumn 53 = .ok (.iaload, 1) := by decide +kernel
theorem dX11_renderColumn_54 : decode cX11_renderColumn 54 = .ok (.invokevirtual 197, 3) := by decide +kernel
theorem dX11_renderColumn_57 : decode cX11_renderColumn 57 = .ok (.aload_n 0, 1) := by decide +kernel
theorem dX11_renderColumn_58 : decode cX11_renderColumn 58 = .ok (.bipush 47, 2) := by decide +kernel
theorem dX11_renderColumn_60 : decode cX11_renderColumn 60 = .ok (.aload_n 0, 1) := by decide +kernel
theorem dX11_renderColumn_61 : decode cX11_renderColumn 61 = .ok (.aload_n 0, 1) := by decide +kernel
theorem dX11_renderColumn_62 : decode cX11_renderColumn 62 = .ok (.getfield 36, 3) := by decide +kernel
theorem dX11_renderColumn_65 : decode cX11_renderColumn 65 = .ok (.iload_n 2, 1) := by decide +kernel
theorem dX11_renderColumn_66 : decode cX11_renderColumn 66 = .ok (.iaload, 1) := by decide +kernel
theorem dX11_renderColumn_67 : decode cX11_renderColumn 67 = .ok (.iconst 1, 1) := by decide +kernel
theorem dX11_renderColumn_68 : decode cX11_renderColumn 68 = .ok (.invokevirtual 91, 3) := by decide +kernel
theorem dX11_renderColumn_71 : decode cX11_renderColumn 71 = .ok (.invokevirtual 197, 3) := by decide +kernel
theorem dX11_renderColumn_74 : decode cX11_renderColumn 74 = .ok (.aload_n 0, 1) := by decide +kernel
theorem dX11_renderColumn_75 : decode cX11_renderColumn 75 = .ok (.bipush 41, 2) := by decide +kernel
theorem dX11_renderColumn_77 : decode cX11_renderColumn 77 = .ok (.invokevirtual 194, 3) := by decide +kernel
theorem dX11_renderColumn_80 : decode cX11_renderColumn 80 = .ok (.iload_n 2, 1) := by decide +kernel
theorem dX11_renderColumn_81 : decode cX11_renderColumn 81 = .ok (.aload_n 0, 1) := by decide +kernel
theorem dX11_renderColumn_82 : decode cX11_renderColumn 82 = .ok (.invokevirtual 101, 3) := by decide +kernel
theorem dX11_renderColumn_85 : decode cX11_renderColumn 85 = .ok (.if_icmp .ne 9, 3) := by decide +kernel
theorem dX11_renderColumn_88 : decode cX11_renderColumn 88 = .ok (.aload_n 0, 1) := by decide +kernel
theorem dX11_renderColumn_89 : decode cX11_renderColumn 89 = .ok (.bipush 33, 2) := by decide +kernel
theorem dX11_renderColumn_91 : decode cX11_renderColumn 91 = .ok (.invokevirtual 194, 3) := by decide +kernel
theorem dX11_renderColumn_94 : decode cX11_renderColumn 94 = .ok (.iinc 2 1, 3) := by decide +kernel
theorem dX11_renderColumn_97 : decode cX11_renderColumn 97 = .ok (.goto (-80), 3) := by decide +kernel
theorem dX11_renderColumn_100 : decode cX11_renderColumn 100 = .ok (.aload_n 0, 1) := by decide +kernel
theorem dX11_renderColumn_101 : decode cX11_renderColumn 101 = .ok (.getfield 188, 3) := by decide +kernel
theorem dX11_renderColumn_104 : decode cX11_renderColumn 104 = .ok (.ireturn, 1) := by decide +kernel
set_option maxRecDepth 20000 in
theorem ggX11_renderEntry_X11_in : GoodIn wsX11_renderEntry wsX11_in := goodIn_r _ [6] (by decide +kernel) (by decide +kernel)
set_option maxRecDepth 20000 in
theorem gX11_renderEntry_X11_in : GoodIn wsX11_renderEntry (va_wsS RX11 65 yX11_in wsX11_in) := goodIn_app (goodIn_of _ (by decide +kernel)) ggX11_renderEntry_X11_in
set_option maxRecDepth 20000 in
theorem ggX11_renderEntry_X11_fails : GoodIn wsX11_renderEntry wsX11_fails := goodIn_r _ [10, 11, 29, 30, 31, 32, 33, 34, 35, 36, 37, 38, 39, 40, 41, 42, 43, 44, 45, 46, 47, 48, 49, 50] (by decide +kernel) (by decide +kernel)
set_option maxRecDepth 20000 in
theorem gX11_renderEntry_X11_fails : GoodIn wsX11_renderEntry (wsV RX11 73 RX11 yX11_fails wsX11_fails) := goodIn_app (goodIn_of _ (by decide +kernel)) ggX11_renderEntry_X11_fails
set_option maxRecDepth 20000 in
theorem ggX11_renderEntry_X11_entry : GoodIn wsX11_renderEntry wsX11_entry := goodIn_ca (goodIn_r _ [15, 1, 29, 30, 31, 32, 33, 34, 35, 36, 37, 38, 39, 40, 41, 42, 43, 44, 45, 46, 47, 48, 49, 50] (by decide +kernel) (by decide +kernel)) (goodIn_sub (fun _ h => List.mem_cons_of_mem _ (List.mem_append_right _ h)) (by decide +kernel))
set_option maxRecDepth 20000 in
theorem gX11_renderEntry_X11_entry : GoodIn wsX11_renderEntry (wsV RX11 162 RX11 yX11_entry wsX11_entry) := goodIn_app (goodIn_of _ (by decide +kernel)) ggX11_renderEntry_X11_entry
set_option maxRecDepth 20000 in
theorem ggX11_renderEntry_X11_writesNumber : GoodIn wsX11_renderEntry wsX11_writesNumber := goodIn_ca (goodIn_r _ [19, 16, 17, 18, 5, 20, 21, 22, 23, 24, 2, 29, 30, 31, 32, 33, 34, 35, 36, 37, 38, 39, 40, 41, 42, 43, 44, 45, 46, 47, 48, 49, 50] (by decide +kernel) (by decide +kernel)) (goodIn_sub (fun _ h => List.mem_cons_of_mem _ (List.mem_append_right _ h)) (by decide +kernel))
set_option maxRecDepth 20000 in
theorem gX11_renderEntry_X11_writesNumber : GoodIn wsX11_renderEntry (wsV RX11 191 RX11 yX11_writesNumber wsX11_writesNumber) := goodIn_app (goodIn_of _ (by decide +kernel)) ggX11_renderEntry_X11_writesNumber
set_option maxRecDepth 20000 in
theorem ggX11_renderEntry_X11_writesBehind : GoodIn wsX11_renderEntry wsX11_writesBehind := goodIn_ca (goodIn_r _ [28, 20, 21, 22, 5, 23, 24, 2, 16, 17, 18, 19, 29, 30, 31, 32, 33, 34, 35, 36, 37, 38, 39, 40, 41, 42, 43, 44, 45, 46, 47, 48, 49, 50] (by decide +kernel) (by decide +kernel)) (goodIn_sub (fun _ h => List.mem_cons_of_mem _ (List.mem_append_right _ h)) (by decide +kernel))
set_option maxRecDepth 20000 in
theorem gX11_renderEntry_X11_writesBehind : GoodIn wsX11_renderEntry (wsV RX11 197 RX11 yX11_writesBehind wsX11_writesBehind) := goodIn_app (goodIn_of _ (by decide +kernel)) ggX11_renderEntry_X11_writesBehind
theorem dX11_renderEntry_0 : decode cX11_renderEntry 0 = .ok (.aload_n 0, 1) := by decide +kernel
theorem dX11_renderEntry_1 : decode cX11_renderEntry 1 = .ok (.iload_n 1, 1) := by decide +kernel
theorem dX11_renderEntry_2 : decode cX11_renderEntry 2 = .ok (.iconst 0, 1) := by decide +kernel
theorem dX11_renderEntry_3 : decode cX11_renderEntry 3 = .ok (.aload_n 0, 1) := by decide +kernel
theorem dX11_renderEntry_4 : decode cX11_renderEntry 4 = .ok (.getfield 7, 3) := by decide +kernel
theorem dX11_renderEntry_7 : decode cX11_renderEntry 7 = .ok (.iconst 3, 1) := by decide +kernel
theorem dX11_renderEntry_8 : decode cX11_renderEntry 8 = .ok (.iaload, 1) := by decide +kernel
theorem dX11_renderEntry_9 : decode cX11_renderEntry 9 = .ok (.iconst 1, 1) := by decide +kernel
theorem dX11_renderEntry_10 : decode cX11_renderEntry 10 = .ok (.isub, 1) := by decide +kernel
theorem dX11_renderEntry_11 : decode cX11_renderEntry 11 = .ok (.invokestatic 65, 3) := by decide +kernel
theorem dX11_renderEntry_14 : decode cX11_renderEntry 14 = .ok (.ifCond .eq 7, 3) := by decide +kernel
theorem dX11_renderEntry_17 : decode cX11_renderEntry 17 = .ok (.iconst 0, 1) := by decide +kernel
theorem dX11_renderEntry_18 : decode cX11_renderEntry 18 = .ok (.goto 4, 3) := by decide +kernel
theorem dX11_renderEntry_21 : decode cX11_renderEntry 21 = .ok (.iconst 1, 1) := by decide +kernel
theorem dX11_renderEntry_22 : decode cX11_renderEntry 22 = .ok (.invokevirtual 73, 3) := by decide +kernel
theorem dX11_renderEntry_25 : decode cX11_renderEntry 25 = .ok (.ifCond .eq 5, 3) := by decide +kernel
theorem dX11_renderEntry_28 : decode cX11_renderEntry 28 = .ok (.iconst 0, 1) := by decide +kernel
theorem dX11_renderEntry_29 : decode cX11_renderEntry 29 = .ok (.ireturn, 1) := by decide +kernel
theorem dX11_renderEntry_30 : decode cX11_renderEntry 30 = .ok (.aload_n 0, 1) := by decide +kernel
theorem dX11_renderEntry_31 : decode cX11_renderEntry 31 = .ok (.iconst 0, 1) := by decide +kernel
theorem dX11_renderEntry_32 : decode cX11_renderEntry 32 = .ok (.putfield 188, 3) := by decide +kernel
theorem dX11_renderEntry_35 : decode cX11_renderEntry 35 = .ok (.aload_n 0, 1) := by decide +kernel
theorem dX11_renderEntry_36 : decode cX11_renderEntry 36 = .ok (.aload_n 0, 1) := by decide +kernel
theorem dX11_renderEntry_37 : decode cX11_renderEntry 37 = .ok (.iload_n 1, 1) := by decide +kernel
theorem dX11_renderEntry_38 : decode cX11_renderEntry 38 = .ok (.iconst 0, 1) := by decide +kernel
theorem dX11_renderEntry_39 : decode cX11_renderEntry 39 = .ok (.invokevirtual 162, 3) := by decide +kernel
theorem dX11_renderEntry_42 : decode cX11_renderEntry 42 = .ok (.invokevirtual 191, 3) := by decide +kernel
theorem dX11_renderEntry_45 : decode cX11_renderEntry 45 = .ok (.aload_n 0, 1) := by decide +kernel
theorem dX11_renderEntry_46 : decode cX11_renderEntry 46 = .ok (.bipush 62, 2) := by decide +kernel
theorem dX11_renderEntry_48 : decode cX11_renderEntry 48 = .ok (.aload_n 0, 1) := by decide +kernel
theorem dX11_renderEntry_49 : decode cX11_renderEntry 49 = .ok (.iload_n 1, 1) := by decide +kernel
theorem dX11_renderEntry_50 : decode cX11_renderEntry 50 = .ok (.iconst 1, 1) := by decide +kernel
theorem dX11_renderEntry_51 : decode cX11_renderEntry 51 = .ok (.invokevirtual 162, 3) := by decide +kernel
theorem dX11_renderEntry_54 : decode cX11_renderEntry 54 = .ok (.invokevirtual 197, 3) := by decide +kernel
theorem dX11_renderEntry_57 : decode cX11_renderEntry 57 = .ok (.aload_n 0, 1) := by decide +kernel
theorem dX11_renderEntry_58 : decode cX11_renderEntry 58 = .ok (.bipush 61, 2) := by decide +kernel
theorem dX11_renderEntry_60 : decode cX11_renderEntry 60 = .ok (.aload_n 0, 1) := by decide +kernel
theorem dX11_renderEntry_61 : decode cX11_renderEntry 61 = .ok (.iload_n 1, 1) := by decide +kernel
theorem dX11_renderEntry_62 : decode cX11_renderEntry 62 = .ok (.iconst 2, 1) := by decide +kernel
theorem dX11_renderEntry_63 : decode cX11_renderEntry 63 = .ok (.invokevirtual 162, 3) := by decide +kernel
theorem dX11_renderEntry_66 : decode cX11_renderEntry 66 = .ok (.invokevirtual 197, 3) := by decide +kernel
theorem dX11_renderEntry_69 : decode cX11_renderEntry 69 = .ok (.aload_n 0, 1) := by decide +kernel
theorem dX11_renderEntry_70 : decode cX11_renderEntry 70 = .ok (.getfield 188, 3) := by decide +kernel
theorem dX11_renderEntry_73 : decode cX11_renderEntry 73 = .ok (.ireturn, 1) := by decide +kernel
set_option maxRecDepth 20000 in
theorem ggX11_outputAt_X11_in : GoodIn wsX11_outputAt wsX11_in := goodIn_r _ [6] (by decide +kernel) (by decide +kernel)
set_option maxRecDepth 20000 in
theorem gX11_outputAt_X11_in : GoodIn wsX11_outputAt (va_wsS RX11 65 yX11_in wsX11_in) := goodIn_app (goodIn_of _ (by decide +kernel)) ggX11_outputAt_X11_in
set_option maxRecDepth 20000 in
theorem ggX11_outputAt_X11_fails : GoodIn wsX11_outputAt wsX11_fails := goodIn_r _ [10, 11, 12, 13, 14, 15, 16, 17, 18, 19, 20, 21, 22, 23, 24, 25, 26, 27, 28, 29, 30, 31, 32, 33] (by decide +kernel) (by decide +kernel)
set_option maxRecDepth 20000 in
theorem gX11_outputAt_X11_fails : GoodIn wsX11_outputAt (wsV RX11 73 RX11 yX11_fails wsX11_fails) := goodIn_app (goodIn_of _ (by decide +kernel)) ggX11_outputAt_X11_fails
theorem dX11_outputAt_0 : decode cX11_outputAt 0 = .ok (.aload_n 0, 1) := by decide +kernel
theorem dX11_outputAt_1 : decode cX11_outputAt 1 = .ok (.iload_n 1, 1) := by decide +kernel
theorem dX11_outputAt_2 : decode cX11_outputAt 2 = .ok (.iconst 0, 1) := by decide +kernel
theorem dX11_outputAt_3 : decode cX11_outputAt 3 = .ok (.aload_n 0, 1) := by decide +kernel
theorem dX11_outputAt_4 : decode cX11_outputAt 4 = .ok (.getfield 188, 3) := by decide +kernel
theorem dX11_outputAt_7 : decode cX11_outputAt 7 = .ok (.iconst 1, 1) := by decide +kernel
theorem dX11_outputAt_8 : decode cX11_outputAt 8 = .ok (.isub, 1) := by decide +kernel
theorem dX11_outputAt_9 : decode cX11_outputAt 9 = .ok (.invokestatic 65, 3) := by decide +kernel
theorem dX11_outputAt_12 : decode cX11_outputAt 12 = .ok (.ifCond .eq 7, 3) := by decide +kernel
theorem dX11_outputAt_15 : decode cX11_outputAt 15 = .ok (.iconst 0, 1) := by decide +kernel
theorem dX11_outputAt_16 : decode cX11_outputAt 16 = .ok (.goto 4, 3) := by decide +kernel
theorem dX11_outputAt_19 : decode cX11_outputAt 19 = .ok (.iconst 1, 1) := by decide +kernel
theorem dX11_outputAt_20 : decode cX11_outputAt 20 = .ok (.invokevirtual 73, 3) := by decide +kernel
theorem dX11_outputAt_23 : decode cX11_outputAt 23 = .ok (.ifCond .eq 8, 3) := by decide +kernel
theorem dX11_outputAt_26 : decode cX11_outputAt 26 = .ok (.bipush 32, 2) := by decide +kernel
theorem dX11_outputAt_28 : decode cX11_outputAt 28 = .ok (.goto 9, 3) := by decide +kernel
theorem dX11_outputAt_31 : decode cX11_outputAt 31 = .ok (.aload_n 0, 1) := by decide +kernel
theorem dX11_outputAt_32 : decode cX11_outputAt 32 = .ok (.getfield 32, 3) := by decide +kernel
theorem dX11_outputAt_35 : decode cX11_outputAt 35 = .ok (.iload_n 1, 1) := by decide +kernel
theorem dX11_outputAt_36 : decode cX11_outputAt 36 = .ok (.caload, 1) := by decide +kernel
theorem dX11_outputAt_37 : decode cX11_outputAt 37 = .ok (.ireturn, 1) := by decide +kernel
set_option maxRecDepth 20000 in
theorem ggX11_type_X11_in : GoodIn wsX11_type wsX11_in := goodIn_r _ [6] (by decide +kernel) (by decide +kernel)
set_option maxRecDepth 20000 in
theorem gX11_type_X11_in : GoodIn wsX11_type (va_wsS RX11 65 yX11_in wsX11_in) := goodIn_app (goodIn_of _ (by decide +kernel)) ggX11_type_X11_in
set_option maxRecDepth 20000 in
theorem ggX11_type_X11_fails : GoodIn wsX11_type wsX11_fails := goodIn_r _ [10, 11, 12, 13, 14, 15, 16, 17, 18, 19, 20, 21, 22, 23, 24, 25, 26, 27, 28, 29, 30, 31, 32, 33] (by decide +kernel) (by decide +kernel)
set_option maxRecDepth 20000 in
theorem gX11_type_X11_fails : GoodIn wsX11_type (wsV RX11 73 RX11 yX11_fails wsX11_fails) := goodIn_app (goodIn_of _ (by decide +kernel)) ggX11_type_X11_fails
theorem dX11_type_0 : decode cX11_type 0 = .ok (.aload_n 0, 1) := by decide +kernel
theorem dX11_type_1 : decode cX11_type 1 = .ok (.iload_n 1, 1) := by decide +kernel
theorem dX11_type_2 : decode cX11_type 2 = .ok (.bipush 32, 2) := by decide +kernel
theorem dX11_type_4 : decode cX11_type 4 = .ok (.bipush 126, 2) := by decide +kernel
theorem dX11_type_6 : decode cX11_type 6 = .ok (.invokestatic 65, 3) := by decide +kernel
theorem dX11_type_9 : decode cX11_type 9 = .ok (.ifCond .ne 7, 3) := by decide +kernel
theorem dX11_type_12 : decode cX11_type 12 = .ok (.iconst 1, 1) := by decide +kernel
theorem dX11_type_13 : decode cX11_type 13 = .ok (.goto 17, 3) := by decide +kernel
theorem dX11_type_16 : decode cX11_type 16 = .ok (.aload_n 0, 1) := by decide +kernel
theorem dX11_type_17 : decode cX11_type 17 = .ok (.getfield 201, 3) := by decide +kernel
theorem dX11_type_20 : decode cX11_type 20 = .ok (.bipush 60, 2) := by decide +kernel
theorem dX11_type_22 : decode cX11_type 22 = .ok (.if_icmp .ne 7, 3) := by decide +kernel
theorem dX11_type_25 : decode cX11_type 25 = .ok (.iconst 2, 1) := by decide +kernel
theorem dX11_type_26 : decode cX11_type 26 = .ok (.goto 4, 3) := by decide +kernel
theorem dX11_type_29 : decode cX11_type 29 = .ok (.iconst 0, 1) := by decide +kernel
theorem dX11_type_30 : decode cX11_type 30 = .ok (.invokevirtual 73, 3) := by decide +kernel
theorem dX11_type_33 : decode cX11_type 33 = .ok (.ifCond .eq 5, 3) := by decide +kernel
theorem dX11_type_36 : decode cX11_type 36 = .ok (.iconst 0, 1) := by decide +kernel
theorem dX11_type_37 : decode cX11_type 37 = .ok (.ireturn, 1) := by decide +kernel
theorem dX11_type_38 : decode cX11_type 38 = .ok (.aload_n 0, 1) := by decide +kernel
theorem dX11_type_39 : decode cX11_type 39 = .ok (.getfield 22, 3) := by decide +kernel
theorem dX11_type_42 : decode cX11_type 42 = .ok (.aload_n 0, 1) := by decide +kernel
theorem dX11_type_43 : decode cX11_type 43 = .ok (.getfield 201, 3) := by decide +kernel
theorem dX11_type_46 : decode cX11_type 46 = .ok (.iload_n 1, 1) := by decide +kernel
theorem dX11_type_47 : decode cX11_type 47 = .ok (.iastore, 1) := by decide +kernel
theorem dX11_type_48 : decode cX11_type 48 = .ok (.aload_n 0, 1) := by decide +kernel
theorem dX11_type_49 : decode cX11_type 49 = .ok (.dup, 1) := by decide +kernel
theorem dX11_type_50 : decode cX11_type 50 = .ok (.getfield 201, 3) := by decide +kernel
theorem dX11_type_53 : decode cX11_type 53 = .ok (.iconst 1, 1) := by decide +kernel
theorem dX11_type_54 : decode cX11_type 54 = .ok (.iadd, 1) := by decide +kernel
theorem dX11_type_55 : decode cX11_type 55 = .ok (.putfield 201, 3) := by decide +kernel
theorem dX11_type_58 : decode cX11_type 58 = .ok (.aload_n 0, 1) := by decide +kernel
theorem dX11_type_59 : decode cX11_type 59 = .ok (.getfield 201, 3) := by decide +kernel
theorem dX11_type_62 : decode cX11_type 62 = .ok (.ireturn, 1) := by decide +kernel
theorem dX11_here_0 : decode cX11_here 0 = .ok (.aload_n 0, 1) := by decide +kernel
theorem dX11_here_1 : decode cX11_here 1 = .ok (.getfield 204, 3) := by decide +kernel
theorem dX11_here_4 : decode cX11_here 4 = .ok (.aload_n 0, 1) := by decide +kernel
theorem dX11_here_5 : decode cX11_here 5 = .ok (.getfield 201, 3) := by decide +kernel
theorem dX11_here_8 : decode cX11_here 8 = .ok (.if_icmp .ge 15, 3) := by decide +kernel
theorem dX11_here_11 : decode cX11_here 11 = .ok (.aload_n 0, 1) := by decide +kernel
theorem dX11_here_12 : decode cX11_here 12 = .ok (.getfield 22, 3) := by decide +kernel
theorem dX11_here_15 : decode cX11_here 15 = .ok (.aload_n 0, 1) := by decide +kernel
theorem dX11_here_16 : decode cX11_here 16 = .ok (.getfield 204, 3) := by decide +kernel
theorem dX11_here_19 : decode cX11_here 19 = .ok (.iaload, 1) := by decide +kernel
theorem dX11_here_20 : decode cX11_here 20 = .ok (.goto 4, 3) := by decide +kernel
theorem dX11_here_23 : decode cX11_here 23 = .ok (.iconst (-1), 1) := by decide +kernel
theorem dX11_here_24 : decode cX11_here 24 = .ok (.ireturn, 1) := by decide +kernel
set_option maxRecDepth 20000 in
theorem ggX11_skips_X11_here : GoodIn wsX11_skips wsX11_here := goodIn_ca (goodIn_r _ [6, 1, 7, 8, 9, 10, 11, 12, 13, 14, 15, 16, 17, 18, 19, 20, 21, 22, 23, 24, 25, 26, 27, 28, 29, 30] (by decide +kernel) (by decide +kernel)) (goodIn_sub (fun _ h => List.mem_cons_of_mem _ (List.mem_append_right _ h)) (by decide +kernel))
set_option maxRecDepth 20000 in
theorem gX11_skips_X11_here : GoodIn wsX11_skips (wsV RX11 207 RX11 yX11_here wsX11_here) := goodIn_app (goodIn_of _ (by decide +kernel)) ggX11_skips_X11_here
theorem dX11_skips_0 : decode cX11_skips 0 = .ok (.aload_n 0, 1) := by decide +kernel
theorem dX11_skips_1 : decode cX11_skips 1 = .ok (.invokevirtual 207, 3) := by decide +kernel
theorem dX11_skips_4 : decode cX11_skips 4 = .ok (.iload_n 1, 1) := by decide +kernel
theorem dX11_skips_5 : decode cX11_skips 5 = .ok (.if_icmp .eq 5, 3) := by decide +kernel
theorem dX11_skips_8 : decode cX11_skips 8 = .ok (.iconst 0, 1) := by decide +kernel
theorem dX11_skips_9 : decode cX11_skips 9 = .ok (.ireturn, 1) := by decide +kernel
theorem dX11_skips_10 : decode cX11_skips 10 = .ok (.aload_n 0, 1) := by decide +kernel
theorem dX11_skips_11 : decode cX11_skips 11 = .ok (.dup, 1) := by decide +kernel
theorem dX11_skips_12 : decode cX11_skips 12 = .ok (.getfield 204, 3) := by decide +kernel
theorem dX11_skips_15 : decode cX11_skips 15 = .ok (.iconst 1, 1) := by decide +kernel
theorem dX11_skips_16 : decode cX11_skips 16 = .ok (.iadd, 1) := by decide +kernel
theorem dX11_skips_17 : decode cX11_skips 17 = .ok (.putfield 204, 3) := by decide +kernel
theorem dX11_skips_20 : decode cX11_skips 20 = .ok (.iconst 1, 1) := by decide +kernel
theorem dX11_skips_21 : decode cX11_skips 21 = .ok (.ireturn, 1) := by decide +kernel
set_option maxRecDepth 20000 in
theorem ggX11_isWord_J0_length_8abf5 : GoodIn wsX11_isWord wsJ0_length_8abf5 := goodIn_r _ [7, 8, 9, 10, 11, 6, 12, 13, 14, 86, 87, 88, 89] (by decide +kernel) (by decide +kernel)
set_option maxRecDepth 20000 in
theorem gX11_isWord_J0_length_8abf5 : GoodIn wsX11_isWord (wsV RX11 213 RJ0 yJ0_length_8abf5 wsJ0_length_8abf5) := goodIn_app (goodIn_of _ (by decide +kernel)) ggX11_isWord_J0_length_8abf5
set_option maxRecDepth 20000 in
theorem ggX11_isWord_J0_charAt_5068e : GoodIn wsX11_isWord wsJ0_charAt_5068e := goodIn_r _ [18, 8, 19, 20, 21, 6, 22, 13, 14, 23, 24, 25, 26, 27, 28, 29, 30, 31, 32, 33, 34, 35, 36, 37, 38, 39, 40, 41, 42, 43, 44, 45, 46, 47, 48, 49, 50, 51, 86, 87, 88, 89] (by decide +kernel) (by decide +kernel)
set_option maxRecDepth 20000 in
theorem gX11_isWord_J0_charAt_5068e : GoodIn wsX11_isWord (wsV RX11 217 RJ0 yJ0_charAt_5068e wsJ0_charAt_5068e) := goodIn_app (goodIn_of _ (by decide +kernel)) ggX11_isWord_J0_charAt_5068e
set_option maxRecDepth 20000 in
theorem ggX11_isWord_X11_skips : GoodIn wsX11_isWord wsX11_skips := goodIn_ca (goodIn_r _ [56, 57, 58, 59, 60, 55, 61, 62, 63, 64, 65, 66, 67, 68, 69, 70, 71, 72, 73, 74, 75, 76, 77, 78, 79, 80, 81, 82, 83, 84, 85] (by decide +kernel) (by decide +kernel)) (goodIn_sub (fun _ h => List.mem_cons_of_mem _ (List.mem_append_right _ h)) (by decide +kernel))
set_option maxRecDepth 20000 in
theorem gX11_isWord_X11_skips : GoodIn wsX11_isWord (wsV RX11 221 RX11 yX11_skips wsX11_skips) := goodIn_app (goodIn_of _ (by decide +kernel)) ggX11_isWord_X11_skips
theorem dX11_isWord_0 : decode cX11_isWord 0 = .ok (.aload_n 0, 1) := by decide +kernel
theorem dX11_isWord_1 : decode cX11_isWord 1 = .ok (.getfield 48, 3) := by decide +kernel
theorem dX11_isWord_4 : decode cX11_isWord 4 = .ok (.iconst 5, 1) := by decide +kernel
theorem dX11_isWord_5 : decode cX11_isWord 5 = .ok (.aload_n 0, 1) := by decide +kernel
theorem dX11_isWord_6 : decode cX11_isWord 6 = .ok (.getfield 210, 3) := by decide +kernel
theorem dX11_isWord_9 : decode cX11_isWord 9 = .ok (.imul, 1) := by decide +kernel
theorem dX11_isWord_10 : decode cX11_isWord 10 = .ok (.iload_n 1, 1) := by decide +kernel
theorem dX11_isWord_11 : decode cX11_isWord 11 = .ok (.iastore, 1) := by decide +kernel
theorem dX11_isWord_12 : decode cX11_isWord 12 = .ok (.iconst 0, 1) := by decide +kernel
theorem dX11_isWord_13 : decode cX11_isWord 13 = .ok (.istore_n 3, 1) := by decide +kernel
theorem dX11_isWord_14 : decode cX11_isWord 14 = .ok (.iload_n 3, 1) := by decide +kernel
theorem dX11_isWord_15 : decode cX11_isWord 15 = .ok (.aload_n 2, 1) := by decide +kernel
theorem dX11_isWord_16 : decode cX11_isWord 16 = .ok (.invokevirtual 213, 3) := by decide +kernel
theorem dX11_isWord_19 : decode cX11_isWord 19 = .ok (.if_icmp .ge 23, 3) := by decide +kernel
theorem dX11_isWord_22 : decode cX11_isWord 22 = .ok (.aload_n 0, 1) := by decide +kernel
theorem dX11_isWord_23 : decode cX11_isWord 23 = .ok (.aload_n 2, 1) := by decide +kernel
theorem dX11_isWord_24 : decode cX11_isWord 24 = .ok (.iload_n 3, 1) := by decide +kernel
theorem dX11_isWord_25 : decode cX11_isWord 25 = .ok (.invokevirtual 217, 3) := by decide +kernel
theorem dX11_isWord_28 : decode cX11_isWord 28 = .ok (.invokevirtual 221, 3) := by decide +kernel
theorem dX11_isWord_31 : decode cX11_isWord 31 = .ok (.ifCond .ne 5, 3) := by decide +kernel
theorem dX11_isWord_34 : decode cX11_isWord 34 = .ok (.iconst 0, 1) := by decide +kernel
theorem dX11_isWord_35 : decode cX11_isWord 35 = .ok (.ireturn, 1) := by decide +kernel
theorem dX11_isWord_36 : decode cX11_isWord 36 = .ok (.iinc 3 1, 3) := by decide +kernel
theorem dX11_isWord_39 : decode cX11_isWord 39 = .ok (.goto (-25), 3) := by decide +kernel
theorem dX11_isWord_42 : decode cX11_isWord 42 = .ok (.iconst 1, 1) := by decide +kernel
theorem dX11_isWord_43 : decode cX11_isWord 43 = .ok (.ireturn, 1) := by decide +kernel
set_option maxRecDepth 20000 in
theorem ggX11_figures_X11_skips : GoodIn wsX11_figures wsX11_skips := goodIn_ca (goodIn_r _ [7, 2, 8, 9, 10, 6, 11, 12, 13, 17, 18, 19, 20, 21, 22, 23, 24, 25, 26, 27, 28, 29, 30, 31, 32, 33, 34, 35, 36, 37, 38] (by decide +kernel) (by decide +kernel)) (goodIn_sub (fun _ h => List.mem_cons_of_mem _ (List.mem_append_right _ h)) (by decide +kernel))
set_option maxRecDepth 20000 in
theorem gX11_figures_X11_skips : GoodIn wsX11_figures (wsV RX11 221 RX11 yX11_skips wsX11_skips) := goodIn_app (goodIn_of _ (by decide +kernel)) ggX11_figures_X11_skips
set_option maxRecDepth 20000 in
theorem ggX11_figures_X11_here : GoodIn wsX11_figures wsX11_here := goodIn_ca (goodIn_r _ [11, 2, 12, 13, 17, 18, 19, 20, 21, 22, 23, 24, 25, 26, 27, 28, 29, 30, 31, 32, 33, 34, 35, 36, 37, 38] (by decide +kernel) (by decide +kernel)) (goodIn_sub (fun _ h => List.mem_cons_of_mem _ (List.mem_append_right _ h)) (by decide +kernel))
set_option maxRecDepth 20000 in
theorem gX11_figures_X11_here : GoodIn wsX11_figures (wsV RX11 207 RX11 yX11_here wsX11_here) := goodIn_app (goodIn_of _ (by decide +kernel)) ggX11_figures_X11_here
set_option maxRecDepth 20000 in
theorem ggX11_figures_X11_in : GoodIn wsX11_figures wsX11_in := goodIn_r _ [16] (by decide +kernel) (by decide +kernel)
set_option maxRecDepth 20000 in
theorem gX11_figures_X11_in : GoodIn wsX11_figures (va_wsS RX11 65 yX11_in wsX11_in) := goodIn_app (goodIn_of _ (by decide +kernel)) ggX11_figures_X11_in
theorem dX11_figures_0 : decode cX11_figures 0 = .ok (.aload_n 0, 1) := by decide +kernel
theorem dX11_figures_1 : decode cX11_figures 1 = .ok (.iload_n 1, 1) := by decide +kernel
theorem dX11_figures_2 : decode cX11_figures 2 = .ok (.invokevirtual 221, 3) := by decide +kernel
theorem dX11_figures_5 : decode cX11_figures 5 = .ok (.ifCond .eq 17, 3) := by decide +kernel
theorem dX11_figures_8 : decode cX11_figures 8 = .ok (.aload_n 0, 1) := by decide +kernel
theorem dX11_figures_9 : decode cX11_figures 9 = .ok (.invokevirtual 207, 3) := by decide +kernel
theorem dX11_figures_12 : decode cX11_figures 12 = .ok (.bipush 48, 2) := by decide +kernel
theorem dX11_figures_14 : decode cX11_figures 14 = .ok (.bipush 57, 2) := by decide +kernel
theorem dX11_figures_16 : decode cX11_figures 16 = .ok (.invokestatic 65, 3) := by decide +kernel
theorem dX11_figures_19 : decode cX11_figures 19 = .ok (.ifCond .ne 5, 3) := by decide +kernel
theorem dX11_figures_22 : decode cX11_figures 22 = .ok (.iconst 0, 1) := by decide +kernel
theorem dX11_figures_23 : decode cX11_figures 23 = .ok (.ireturn, 1) := by decide +kernel
theorem dX11_figures_24 : decode cX11_figures 24 = .ok (.aload_n 0, 1) := by decide +kernel
theorem dX11_figures_25 : decode cX11_figures 25 = .ok (.getfield 48, 3) := by decide +kernel
theorem dX11_figures_28 : decode cX11_figures 28 = .ok (.iload_n 2, 1) := by decide +kernel
theorem dX11_figures_29 : decode cX11_figures 29 = .ok (.iconst 0, 1) := by decide +kernel
theorem dX11_figures_30 : decode cX11_figures 30 = .ok (.iastore, 1) := by decide +kernel
theorem dX11_figures_31 : decode cX11_figures 31 = .ok (.iconst 0, 1) := by decide +kernel
theorem dX11_figures_32 : decode cX11_figures 32 = .ok (.istore 4, 2) := by decide +kernel
theorem dX11_figures_34 : decode cX11_figures 34 = .ok (.iload 4, 2) := by decide +kernel
theorem dX11_figures_36 : decode cX11_figures 36 = .ok (.iload_n 3, 1) := by decide +kernel
theorem dX11_figures_37 : decode cX11_figures 37 = .ok (.if_icmp .ge 56, 3) := by decide +kernel
theorem dX11_figures_40 : decode cX11_figures 40 = .ok (.aload_n 0, 1) := by decide +kernel
theorem dX11_figures_41 : decode cX11_figures 41 = .ok (.invokevirtual 207, 3) := by decide +kernel
theorem dX11_figures_44 : decode cX11_figures 44 = .ok (.bipush 48, 2) := by decide +kernel
theorem dX11_figures_46 : decode cX11_figures 46 = .ok (.bipush 57, 2) := by decide +kernel
theorem dX11_figures_48 : decode cX11_figures 48 = .ok (.invokestatic 65, 3) := by decide +kernel
theorem dX11_figures_51 : decode cX11_figures 51 = .ok (.ifCond .eq 42, 3) := by decide +kernel
theorem dX11_figures_54 : decode cX11_figures 54 = .ok (.aload_n 0, 1) := by decide +kernel
theorem dX11_figures_55 : decode cX11_figures 55 = .ok (.getfield 48, 3) := by decide +kernel
theorem dX11_figures_58 : decode cX11_figures 58 = .ok (.iload_n 2, 1) := by decide +kernel
theorem dX11_figures_59 : decode cX11_figures 59 = .ok (.bipush 10, 2) := by decide +kernel
theorem dX11_figures_61 : decode cX11_figures 61 = .ok (.aload_n 0, 1) := by decide +kernel
theorem dX11_figures_62 : decode cX11_figures 62 = .ok (.getfield 48, 3) := by decide +kernel
theorem dX11_figures_65 : decode cX11_figures 65 = .ok (.iload_n 2, 1) := by decide +kernel
theorem dX11_figures_66 : decode cX11_figures 66 = .ok (.iaload, 1) := by decide +kernel
theorem dX11_figures_67 : decode cX11_figures 67 = .ok (.imul, 1) := by decide +kernel
theorem dX11_figures_68 : decode cX11_figures 68 = .ok (.aload_n 0, 1) := by decide +kernel
theorem dX11_figures_69 : decode cX11_figures 69 = .ok (.invokevirtual 207, 3) := by decide +kernel
theorem dX11_figures_72 : decode cX11_figures 72 = .ok (.iadd, 1) := by decide +kernel
theorem dX11_figures_73 : decode cX11_figures 73 = .ok (.bipush 48, 2) := by decide +kernel
theorem dX11_figures_75 : decode cX11_figures 75 = .ok (.isub, 1) := by decide +kernel
theorem dX11_figures_76 : decode cX11_figures 76 = .ok (.iastore, 1) := by decide +kernel
theorem dX11_figures_77 : decode cX11_figures 77 = .ok (.aload_n 0, 1) := by decide +kernel
theorem dX11_figures_78 : decode cX11_figures 78 = .ok (.dup, 1) := by decide +kernel
theorem dX11_figures_79 : decode cX11_figures 79 = .ok (.getfield 204, 3) := by decide +kernel
theorem dX11_figures_82 : decode cX11_figures 82 = .ok (.iconst 1, 1) := by decide +kernel
theorem dX11_figures_83 : decode cX11_figures 83 = .ok (.iadd, 1) := by decide +kernel
theorem dX11_figures_84 : decode cX11_figures 84 = .ok (.putfield 204, 3) := by decide +kernel
theorem dX11_figures_87 : decode cX11_figures 87 = .ok (.iinc 4 1, 3) := by decide +kernel
theorem dX11_figures_90 : decode cX11_figures 90 = .ok (.goto (-56), 3) := by decide +kernel
theorem dX11_figures_93 : decode cX11_figures 93 = .ok (.iconst 1, 1) := by decide +kernel
theorem dX11_figures_94 : decode cX11_figures 94 = .ok (.ireturn, 1) := by decide +kernel
set_option maxRecDepth 20000 in
theorem ggX11_digits_X11_skips : GoodIn wsX11_digits wsX11_skips := goodIn_ca (goodIn_r _ [7, 2, 8, 9, 10, 6, 11, 12, 13, 17, 18, 19, 20, 21, 22, 23, 24, 25, 26, 27, 28, 29, 30, 31, 32, 33, 34, 35, 36, 37, 38] (by decide +kernel) (by decide +kernel)) (goodIn_sub (fun _ h => List.mem_cons_of_mem _ (List.mem_append_right _ h)) (by decide +kernel))
set_option maxRecDepth 20000 in
theorem gX11_digits_X11_skips : GoodIn wsX11_digits (wsV RX11 221 RX11 yX11_skips wsX11_skips) := goodIn_app (goodIn_of _ (by decide +kernel)) ggX11_digits_X11_skips
set_option maxRecDepth 20000 in
theorem ggX11_digits_X11_here : GoodIn wsX11_digits wsX11_here := goodIn_ca (goodIn_r _ [11, 2, 12, 13, 17, 18, 19, 20, 21, 22, 23, 24, 25, 26, 27, 28, 29, 30, 31, 32, 33, 34, 35, 36, 37, 38] (by decide +kernel) (by decide +kernel)) (goodIn_sub (fun _ h => List.mem_cons_of_mem _ (List.mem_append_right _ h)) (by decide +kernel))
set_option maxRecDepth 20000 in
theorem gX11_digits_X11_here : GoodIn wsX11_digits (wsV RX11 207 RX11 yX11_here wsX11_here) := goodIn_app (goodIn_of _ (by decide +kernel)) ggX11_digits_X11_here
set_option maxRecDepth 20000 in
theorem ggX11_digits_X11_in : GoodIn wsX11_digits wsX11_in := goodIn_r _ [16] (by decide +kernel) (by decide +kernel)
set_option maxRecDepth 20000 in
theorem gX11_digits_X11_in : GoodIn wsX11_digits (va_wsS RX11 65 yX11_in wsX11_in) := goodIn_app (goodIn_of _ (by decide +kernel)) ggX11_digits_X11_in
theorem dX11_digits_0 : decode cX11_digits 0 = .ok (.aload_n 0, 1) := by decide +kernel
theorem dX11_digits_1 : decode cX11_digits 1 = .ok (.bipush 32, 2) := by decide +kernel
theorem dX11_digits_3 : decode cX11_digits 3 = .ok (.invokevirtual 221, 3) := by decide +kernel
theorem dX11_digits_6 : decode cX11_digits 6 = .ok (.ifCond .eq 17, 3) := by decide +kernel
theorem dX11_digits_9 : decode cX11_digits 9 = .ok (.aload_n 0, 1) := by decide +kernel
theorem dX11_digits_10 : decode cX11_digits 10 = .ok (.invokevirtual 207, 3) := by decide +kernel
theorem dX11_digits_13 : decode cX11_digits 13 = .ok (.bipush 48, 2) := by decide +kernel
theorem dX11_digits_15 : decode cX11_digits 15 = .ok (.bipush 57, 2) := by decide +kernel
theorem dX11_digits_17 : decode cX11_digits 17 = .ok (.invokestatic 65, 3) := by decide +kernel
theorem dX11_digits_20 : decode cX11_digits 20 = .ok (.ifCond .ne 5, 3) := by decide +kernel
theorem dX11_digits_23 : decode cX11_digits 23 = .ok (.iconst 0, 1) := by decide +kernel
theorem dX11_digits_24 : decode cX11_digits 24 = .ok (.ireturn, 1) := by decide +kernel
theorem dX11_digits_25 : decode cX11_digits 25 = .ok (.bipush 47, 2) := by decide +kernel
theorem dX11_digits_27 : decode cX11_digits 27 = .ok (.istore_n 2, 1) := by decide +kernel
theorem dX11_digits_28 : decode cX11_digits 28 = .ok (.aload_n 0, 1) := by decide +kernel
theorem dX11_digits_29 : decode cX11_digits 29 = .ok (.getfield 48, 3) := by decide +kernel
theorem dX11_digits_32 : decode cX11_digits 32 = .ok (.iload_n 1, 1) := by decide +kernel
theorem dX11_digits_33 : decode cX11_digits 33 = .ok (.iconst 0, 1) := by decide +kernel
theorem dX11_digits_34 : decode cX11_digits 34 = .ok (.iastore, 1) := by decide +kernel
theorem dX11_digits_35 : decode cX11_digits 35 = .ok (.aload_n 0, 1) := by decide +kernel
theorem dX11_digits_36 : decode cX11_digits 36 = .ok (.invokevirtual 207, 3) := by decide +kernel
theorem dX11_digits_39 : decode cX11_digits 39 = .ok (.iload_n 2, 1) := by decide +kernel
theorem dX11_digits_40 : decode cX11_digits 40 = .ok (.iconst 1, 1) := by decide +kernel
theorem dX11_digits_41 : decode cX11_digits 41 = .ok (.iadd, 1) := by decide +kernel
theorem dX11_digits_42 : decode cX11_digits 42 = .ok (.bipush 57, 2) := by decide +kernel
theorem dX11_digits_44 : decode cX11_digits 44 = .ok (.invokestatic 65, 3) := by decide +kernel
theorem dX11_digits_47 : decode cX11_digits 47 = .ok (.ifCond .eq 36, 3) := by decide +kernel
theorem dX11_digits_50 : decode cX11_digits 50 = .ok (.aload_n 0, 1) := by decide +kernel
theorem dX11_digits_51 : decode cX11_digits 51 = .ok (.invokevirtual 207, 3) := by decide +kernel
theorem dX11_digits_54 : decode cX11_digits 54 = .ok (.istore_n 2, 1) := by decide +kernel
theorem dX11_digits_55 : decode cX11_digits 55 = .ok (.aload_n 0, 1) := by decide +kernel
theorem dX11_digits_56 : decode cX11_digits 56 = .ok (.getfield 48, 3) := by decide +kernel
theorem dX11_digits_59 : decode cX11_digits 59 = .ok (.iload_n 1, 1) := by decide +kernel
theorem dX11_digits_60 : decode cX11_digits 60 = .ok (.dup2, 1) := by decide +kernel
theorem dX11_digits_61 : decode cX11_digits 61 = .ok (.iaload, 1) := by decide +kernel
theorem dX11_digits_62 : decode cX11_digits 62 = .ok (.iconst 1, 1) := by decide +kernel
theorem dX11_digits_63 : decode cX11_digits 63 = .ok (.iload_n 2, 1) := by decide +kernel
theorem dX11_digits_64 : decode cX11_digits 64 = .ok (.bipush 48, 2) := by decide +kernel
theorem dX11_digits_66 : decode cX11_digits 66 = .ok (.isub, 1) := by decide +kernel
theorem dX11_digits_67 : decode cX11_digits 67 = .ok (.ishl, 1) := by decide +kernel
theorem dX11_digits_68 : decode cX11_digits 68 = .ok (.ior, 1) := by decide +kernel
theorem dX11_digits_69 : decode cX11_digits 69 = .ok (.iastore, 1) := by decide +kernel
theorem dX11_digits_70 : decode cX11_digits 70 = .ok (.aload_n 0, 1) := by decide +kernel
theorem dX11_digits_71 : decode cX11_digits 71 = .ok (.dup, 1) := by decide +kernel
theorem dX11_digits_72 : decode cX11_digits 72 = .ok (.getfield 204, 3) := by decide +kernel
theorem dX11_digits_75 : decode cX11_digits 75 = .ok (.iconst 1, 1) := by decide +kernel
theorem dX11_digits_76 : decode cX11_digits 76 = .ok (.iadd, 1) := by decide +kernel
theorem dX11_digits_77 : decode cX11_digits 77 = .ok (.putfield 204, 3) := by decide +kernel
theorem dX11_digits_80 : decode cX11_digits 80 = .ok (.goto (-45), 3) := by decide +kernel
theorem dX11_digits_83 : decode cX11_digits 83 = .ok (.iconst 1, 1) := by decide +kernel
theorem dX11_digits_84 : decode cX11_digits 84 = .ok (.ireturn, 1) := by decide +kernel
set_option maxRecDepth 20000 in
theorem ggX11_withN_X11_skips : GoodIn wsX11_withN wsX11_skips := goodIn_ca (goodIn_r _ [6, 7, 8, 9, 10, 5, 11, 12, 13, 75, 76, 77, 78, 79, 80, 81, 82, 83, 84, 85, 86, 87, 88, 89, 90, 91, 92, 93, 94, 95, 96] (by decide +kernel) (by decide +kernel)) (goodIn_sub (fun _ h => List.mem_cons_of_mem _ (List.mem_append_right _ h)) (by decide +kernel))
set_option maxRecDepth 20000 in
theorem gX11_withN_X11_skips : GoodIn wsX11_withN (wsV RX11 221 RX11 yX11_skips wsX11_skips) := goodIn_app (goodIn_of _ (by decide +kernel)) ggX11_withN_X11_skips
set_option maxRecDepth 20000 in
theorem ggX11_withN_X11_isWord : GoodIn wsX11_withN wsX11_isWord := goodIn_ca (goodIn_r _ [17, 1, 18, 19, 20, 21, 22, 23, 24, 25, 26, 27, 28, 29, 30, 31, 32, 33, 34, 35, 36, 37, 38, 39, 40, 41, 42, 43, 44, 45, 46, 47, 48, 49, 50, 51, 52, 53, 54, 55, 56, 57, 58, 59, 60, 61, 62, 63, 64, 65, 66, 67, 2, 3, 4, 5, 6, 7, 8, 9, 10, 11, 12, 13, 75, 76, 77, 78, 79, 80, 81, 82, 83, 84, 85, 86, 87, 88, 89, 90, 91, 92, 93, 94, 95, 96, 97, 98, 99, 100] (by decide +kernel) (by decide +kernel)) (goodIn_sub (fun _ h => List.mem_cons_of_mem _ (List.mem_append_right _ h)) (by decide +kernel))
set_option maxRecDepth 20000 in
theorem gX11_withN_X11_isWord : GoodIn wsX11_withN (wsV RX11 226 RX11 yX11_isWord wsX11_isWord) := goodIn_app (goodIn_of _ (by decide +kernel)) ggX11_withN_X11_isWord
set_option maxRecDepth 20000 in
theorem ggX11_withN_X11_figures : GoodIn wsX11_withN wsX11_figures := goodIn_ca (goodIn_r _ [71, 1, 7, 2, 3, 4, 5, 6, 8, 9, 10, 11, 12, 13, 72, 73, 74, 75, 76, 77, 78, 79, 80, 81, 82, 83, 84, 85, 86, 87, 88, 89, 90, 91, 92, 93, 94, 95, 96] (by decide +kernel) (by decide +kernel)) (goodIn_sub (fun _ h => List.mem_cons_of_mem _ (List.mem_append_right _ h)) (by decide +kernel))
set_option maxRecDepth 20000 in
theorem gX11_withN_X11_figures : GoodIn wsX11_withN (wsV RX11 230 RX11 yX11_figures wsX11_figures) := goodIn_app (goodIn_of _ (by decide +kernel)) ggX11_withN_X11_figures
set_option maxRecDepth 20000 in
theorem ggX11_withN_X11_here : GoodIn wsX11_withN wsX11_here := goodIn_ca (goodIn_r _ [11, 7, 12, 13, 75, 76, 77, 78, 79, 80, 81, 82, 83, 84, 85, 86, 87, 88, 89, 90, 91, 92, 93, 94, 95, 96] (by decide +kernel) (by decide +kernel)) (goodIn_sub (fun _ h => List.mem_cons_of_mem _ (List.mem_append_right _ h)) (by decide +kernel))
set_option maxRecDepth 20000 in
theorem gX11_withN_X11_here : GoodIn wsX11_withN (wsV RX11 207 RX11 yX11_here wsX11_here) := goodIn_app (goodIn_of _ (by decide +kernel)) ggX11_withN_X11_here
theorem dX11_withN_0 : decode cX11_withN 0 = .ok (.aload_n 0, 1) := by decide +kernel
theorem dX11_withN_1 : decode cX11_withN 1 = .ok (.bipush 101, 2) := by decide +kernel
theorem dX11_withN_3 : decode cX11_withN 3 = .ok (.invokevirtual 221, 3) := by decide +kernel
theorem dX11_withN_6 : decode cX11_withN 6 = .ok (.ifCond .eq 30, 3) := by decide +kernel
theorem dX11_withN_9 : decode cX11_withN 9 = .ok (.aload_n 0, 1) := by decide +kernel
theorem dX11_withN_10 : decode cX11_withN 10 = .ok (.iconst 4, 1) := by decide +kernel
theorem dX11_withN_11 : decode cX11_withN 11 = .ok (.ldc 224, 2) := by decide +kernel
theorem dX11_withN_13 : decode cX11_withN 13 = .ok (.invokevirtual 226, 3) := by decide +kernel
theorem dX11_withN_16 : decode cX11_withN 16 = .ok (.ifCond .eq 18, 3) := by decide +kernel
theorem dX11_withN_19 : decode cX11_withN 19 = .ok (.aload_n 0, 1) := by decide +kernel
theorem dX11_withN_20 : decode cX11_withN 20 = .ok (.bipush 32, 2) := by decide +kernel
theorem dX11_withN_22 : decode cX11_withN 22 = .ok (.iload_n 1, 1) := by decide +kernel
theorem dX11_withN_23 : decode cX11_withN 23 = .ok (.iconst 1, 1) := by decide +kernel
theorem dX11_withN_24 : decode cX11_withN 24 = .ok (.invokevirtual 230, 3) := by decide +kernel
theorem dX11_withN_27 : decode cX11_withN 27 = .ok (.ifCond .eq 7, 3) := by decide +kernel
theorem dX11_withN_30 : decode cX11_withN 30 = .ok (.iconst 1, 1) := by decide +kernel
theorem dX11_withN_31 : decode cX11_withN 31 = .ok (.goto 4, 3) := by decide +kernel
theorem dX11_withN_34 : decode cX11_withN 34 = .ok (.iconst 0, 1) := by decide +kernel
theorem dX11_withN_35 : decode cX11_withN 35 = .ok (.ireturn, 1) := by decide +kernel
theorem dX11_withN_36 : decode cX11_withN 36 = .ok (.aload_n 0, 1) := by decide +kernel
theorem dX11_withN_37 : decode cX11_withN 37 = .ok (.iconst 5, 1) := by decide +kernel
theorem dX11_withN_38 : decode cX11_withN 38 = .ok (.ldc 233, 2) := by decide +kernel
theorem dX11_withN_40 : decode cX11_withN 40 = .ok (.invokevirtual 226, 3) := by decide +kernel
theorem dX11_withN_43 : decode cX11_withN 43 = .ok (.ifCond .ne 5, 3) := by decide +kernel
theorem dX11_withN_46 : decode cX11_withN 46 = .ok (.iconst 0, 1) := by decide +kernel
theorem dX11_withN_47 : decode cX11_withN 47 = .ok (.ireturn, 1) := by decide +kernel
theorem dX11_withN_48 : decode cX11_withN 48 = .ok (.aload_n 0, 1) := by decide +kernel
theorem dX11_withN_49 : decode cX11_withN 49 = .ok (.getfield 48, 3) := by decide +kernel
theorem dX11_withN_52 : decode cX11_withN 52 = .ok (.iload_n 1, 1) := by decide +kernel
theorem dX11_withN_53 : decode cX11_withN 53 = .ok (.iconst 1, 1) := by decide +kernel
theorem dX11_withN_54 : decode cX11_withN 54 = .ok (.iastore, 1) := by decide +kernel
theorem dX11_withN_55 : decode cX11_withN 55 = .ok (.aload_n 0, 1) := by decide +kernel
theorem dX11_withN_56 : decode cX11_withN 56 = .ok (.invokevirtual 207, 3) := by decide +kernel
theorem dX11_withN_59 : decode cX11_withN 59 = .ok (.bipush 32, 2) := by decide +kernel
theorem dX11_withN_61 : decode cX11_withN 61 = .ok (.if_icmp .ne 14, 3) := by decide +kernel
theorem dX11_withN_64 : decode cX11_withN 64 = .ok (.aload_n 0, 1) := by decide +kernel
theorem dX11_withN_65 : decode cX11_withN 65 = .ok (.bipush 32, 2) := by decide +kernel
theorem dX11_withN_67 : decode cX11_withN 67 = .ok (.iload_n 1, 1) := by decide +kernel
theorem dX11_withN_68 : decode cX11_withN 68 = .ok (.iconst 4, 1) := by decide +kernel
theorem dX11_withN_69 : decode cX11_withN 69 = .ok (.invokevirtual 230, 3) := by decide +kernel
theorem dX11_withN_72 : decode cX11_withN 72 = .ok (.ifCond .eq 7, 3) := by decide +kernel
theorem dX11_withN_75 : decode cX11_withN 75 = .ok (.iconst 1, 1) := by decide +kernel
theorem dX11_withN_76 : decode cX11_withN 76 = .ok (.goto 4, 3) := by decide +kernel
theorem dX11_withN_79 : decode cX11_withN 79 = .ok (.iconst 0, 1) := by decide +kernel
theorem dX11_withN_80 : decode cX11_withN 80 = .ok (.ireturn, 1) := by decide +kernel
set_option maxRecDepth 20000 in
theorem ggX11_commandHere_X11_skips : GoodIn wsX11_commandHere wsX11_skips := goodIn_ca (goodIn_r _ [6, 7, 8, 9, 10, 5, 11, 12, 13, 83, 84, 85, 86, 87, 88, 89, 90, 91, 92, 93, 94, 95, 96, 97, 98, 99, 100, 101, 102, 103, 104] (by decide +kernel) (by decide +kernel)) (goodIn_sub (fun _ h => List.mem_cons_of_mem _ (List.mem_append_right _ h)) (by decide +kernel))
set_option maxRecDepth 20000 in
theorem gX11_commandHere_X11_skips : GoodIn wsX11_commandHere (wsV RX11 221 RX11 yX11_skips wsX11_skips) := goodIn_app (goodIn_of _ (by decide +kernel)) ggX11_commandHere_X11_skips
set_option maxRecDepth 20000 in
theorem ggX11_commandHere_X11_isWord : GoodIn wsX11_commandHere wsX11_isWord := goodIn_ca (goodIn_r _ [17, 18, 1, 19, 20, 21, 22, 23, 24, 25, 26, 27, 28, 29, 30, 31, 32, 33, 34, 35, 36, 37, 38, 39, 40, 41, 42, 43, 44, 45, 46, 47, 48, 49, 50, 51, 52, 53, 54, 55, 56, 57, 58, 59, 60, 61, 62, 63, 64, 65, 66, 67, 2, 3, 4, 5, 6, 7, 8, 9, 10, 11, 12, 13, 83, 84, 85, 86, 87, 88, 89, 90, 91, 92, 93, 94, 95, 96, 97, 98, 99, 100, 101, 102, 103, 104, 105, 106, 107, 108] (by decide +kernel) (by decide +kernel)) (goodIn_sub (fun _ h => List.mem_cons_of_mem _ (List.mem_append_right _ h)) (by decide +kernel))
set_option maxRecDepth 20000 in
theorem gX11_commandHere_X11_isWord : GoodIn wsX11_commandHere (wsV RX11 226 RX11 yX11_isWord wsX11_isWord) := goodIn_app (goodIn_of _ (by decide +kernel)) ggX11_commandHere_X11_isWord
set_option maxRecDepth 20000 in
theorem ggX11_commandHere_X11_figures : GoodIn wsX11_commandHere wsX11_figures := goodIn_ca (goodIn_r _ [71, 18, 7, 2, 3, 4, 5, 6, 8, 9, 10, 11, 12, 13, 72, 73, 74, 83, 84, 85, 86, 87, 88, 89, 90, 91, 92, 93, 94, 95, 96, 97, 98, 99, 100, 101, 102, 103, 104] (by decide +kernel) (by decide +kernel)) (goodIn_sub (fun _ h => List.mem_cons_of_mem _ (List.mem_append_right _ h)) (by decide +kernel))
set_option maxRecDepth 20000 in
theorem gX11_commandHere_X11_figures : GoodIn wsX11_commandHere (wsV RX11 230 RX11 yX11_figures wsX11_figures) := goodIn_app (goodIn_of _ (by decide +kernel)) ggX11_commandHere_X11_figures
set_option maxRecDepth 20000 in
theorem ggX11_commandHere_X11_digits : GoodIn wsX11_commandHere wsX11_digits := goodIn_ca (goodIn_r _ [78, 18, 7, 2, 3, 4, 5, 6, 8, 9, 10, 11, 12, 13, 72, 73, 74, 83, 84, 85, 86, 87, 88, 89, 90, 91, 92, 93, 94, 95, 96, 97, 98, 99, 100, 101, 102, 103, 104] (by decide +kernel) (by decide +kernel)) (goodIn_sub (fun _ h => List.mem_cons_of_mem _ (List.mem_append_right _ h)) (by decide +kernel))
set_option maxRecDepth 20000 in
theorem gX11_commandHere_X11_digits : GoodIn wsX11_commandHere (wsV RX11 239 RX11 yX11_digits wsX11_digits) := goodIn_app (goodIn_of _ (by decide +kernel)) ggX11_commandHere_X11_digits
set_option maxRecDepth 20000 in
theorem ggX11_commandHere_X11_withN : GoodIn wsX11_commandHere wsX11_withN := goodIn_ca (goodIn_r _ [82, 18, 2, 3, 4, 5, 6, 7, 8, 9, 10, 11, 12, 13, 14, 15, 16, 17, 1, 19, 20, 21, 22, 23, 24, 25, 26, 27, 28, 29, 30, 31, 32, 33, 34, 35, 36, 37, 38, 39, 40, 41, 42, 43, 44, 45, 46, 47, 48, 49, 50, 51, 52, 53, 54, 55, 56, 57, 58, 59, 60, 61, 62, 63, 64, 65, 66, 67, 68, 69, 70, 71, 72, 73, 74, 83, 84, 85, 86, 87, 88, 89, 90, 91, 92, 93, 94, 95, 96, 97, 98, 99, 100, 101, 102, 103, 104, 105, 106, 107, 108] (by decide +kernel) (by decide +kernel)) (goodIn_sub (fun _ h => List.mem_cons_of_mem _ (List.mem_append_right _ h)) (by decide +kernel))
set_option maxRecDepth 20000 in
theorem gX11_commandHere_X11_withN : GoodIn wsX11_commandHere (wsV RX11 242 RX11 yX11_withN wsX11_withN) := goodIn_app (goodIn_of _ (by decide +kernel)) ggX11_commandHere_X11_withN
theorem dX11_commandHere_0 : decode cX11_commandHere 0 = .ok (.iconst 5, 1) := by decide +kernel
theorem dX11_commandHere_1 : decode cX11_commandHere 1 = .ok (.aload_n 0, 1) := by decide +kernel
theorem dX11_commandHere_2 : decode cX11_commandHere 2 = .ok (.getfield 210, 3) := by decide +kernel
theorem dX11_commandHere_5 : decode cX11_commandHere 5 = .ok (.imul, 1) := by decide +kernel
theorem dX11_commandHere_6 : decode cX11_commandHere 6 = .ok (.iconst 1, 1) := by decide +kernel
theorem dX11_commandHere_7 : decode cX11_commandHere 7 = .ok (.iadd, 1) := by decide +kernel
theorem dX11_commandHere_8 : decode cX11_commandHere 8 = .ok (.istore_n 1, 1) := by decide +kernel
theorem dX11_commandHere_9 : decode cX11_commandHere 9 = .ok (.aload_n 0, 1) := by decide +kernel
theorem dX11_commandHere_10 : decode cX11_commandHere 10 = .ok (.bipush 97, 2) := by decide +kernel
theorem dX11_commandHere_12 : decode cX11_commandHere 12 = .ok (.invokevirtual 221, 3) := by decide +kernel
theorem dX11_commandHere_15 : decode cX11_commandHere 15 = .ok (.ifCond .eq 69, 3) := by decide +kernel
theorem dX11_commandHere_18 : decode cX11_commandHere 18 = .ok (.aload_n 0, 1) := by decide +kernel
theorem dX11_commandHere_19 : decode cX11_commandHere 19 = .ok (.iconst 0, 1) := by decide +kernel
theorem dX11_commandHere_20 : decode cX11_commandHere 20 = .ok (.ldc 235, 2) := by decide +kernel
theorem dX11_commandHere_22 : decode cX11_commandHere 22 = .ok (.invokevirtual 226, 3) := by decide +kernel
theorem dX11_commandHere_25 : decode cX11_commandHere 25 = .ok (.ifCond .eq 57, 3) := by decide +kernel
theorem dX11_commandHere_28 : decode cX11_commandHere 28 = .ok (.aload_n 0, 1) := by decide +kernel
theorem dX11_commandHere_29 : decode cX11_commandHere 29 = .ok (.bipush 32, 2) := by decide +kernel
theorem dX11_commandHere_31 : decode cX11_commandHere 31 = .ok (.iload_n 1, 1) := by decide +kernel
theorem dX11_commandHere_32 : decode cX11_commandHere 32 = .ok (.iconst 4, 1) := by decide +kernel
theorem dX11_commandHere_33 : decode cX11_commandHere 33 = .ok (.invokevirtual 230, 3) := by decide +kernel
theorem dX11_commandHere_36 : decode cX11_commandHere 36 = .ok (.ifCond .eq 46, 3) := by decide +kernel
theorem dX11_commandHere_39 : decode cX11_commandHere 39 = .ok (.aload_n 0, 1) := by decide +kernel
theorem dX11_commandHere_40 : decode cX11_commandHere 40 = .ok (.bipush 32, 2) := by decide +kernel
theorem dX11_commandHere_42 : decode cX11_commandHere 42 = .ok (.iload_n 1, 1) := by decide +kernel
theorem dX11_commandHere_43 : decode cX11_commandHere 43 = .ok (.iconst 1, 1) := by decide +kernel
theorem dX11_commandHere_44 : decode cX11_commandHere 44 = .ok (.iadd, 1) := by decide +kernel
theorem dX11_commandHere_45 : decode cX11_commandHere 45 = .ok (.iconst 4, 1) := by decide +kernel
theorem dX11_commandHere_46 : decode cX11_commandHere 46 = .ok (.invokevirtual 230, 3) := by decide +kernel
theorem dX11_commandHere_49 : decode cX11_commandHere 49 = .ok (.ifCond .eq 33, 3) := by decide +kernel
theorem dX11_commandHere_52 : decode cX11_commandHere 52 = .ok (.aload_n 0, 1) := by decide +kernel
theorem dX11_commandHere_53 : decode cX11_commandHere 53 = .ok (.bipush 32, 2) := by decide +kernel
theorem dX11_commandHere_55 : decode cX11_commandHere 55 = .ok (.iload_n 1, 1) := by decide +kernel
theorem dX11_commandHere_56 : decode cX11_commandHere 56 = .ok (.iconst 2, 1) := by decide +kernel
theorem dX11_commandHere_57 : decode cX11_commandHere 57 = .ok (.iadd, 1) := by decide +kernel
theorem dX11_commandHere_58 : decode cX11_commandHere 58 = .ok (.iconst 4, 1) := by decide +kernel
theorem dX11_commandHere_59 : decode cX11_commandHere 59 = .ok (.invokevirtual 230, 3) := by decide +kernel
theorem dX11_commandHere_62 : decode cX11_commandHere 62 = .ok (.ifCond .eq 20, 3) := by decide +kernel
theorem dX11_commandHere_65 : decode cX11_commandHere 65 = .ok (.aload_n 0, 1) := by decide +kernel
theorem dX11_commandHere_66 : decode cX11_commandHere 66 = .ok (.bipush 32, 2) := by decide +kernel
theorem dX11_commandHere_68 : decode cX11_commandHere 68 = .ok (.iload_n 1, 1) := by decide +kernel
theorem dX11_commandHere_69 : decode cX11_commandHere 69 = .ok (.iconst 3, 1) := by decide +kernel
theorem dX11_commandHere_70 : decode cX11_commandHere 70 = .ok (.iadd, 1) := by decide +kernel
theorem dX11_commandHere_71 : decode cX11_commandHere 71 = .ok (.iconst 4, 1) := by decide +kernel
theorem dX11_commandHere_72 : decode cX11_commandHere 72 = .ok (.invokevirtual 230, 3) := by decide +kernel
theorem dX11_commandHere_75 : decode cX11_commandHere 75 = .ok (.ifCond .eq 7, 3) := by decide +kernel
theorem dX11_commandHere_78 : decode cX11_commandHere 78 = .ok (.iconst 1, 1) := by decide +kernel
theorem dX11_commandHere_79 : decode cX11_commandHere 79 = .ok (.goto 4, 3) := by decide +kernel
theorem dX11_commandHere_82 : decode cX11_commandHere 82 = .ok (.iconst 0, 1) := by decide +kernel
theorem dX11_commandHere_83 : decode cX11_commandHere 83 = .ok (.ireturn, 1) := by decide +kernel
theorem dX11_commandHere_84 : decode cX11_commandHere 84 = .ok (.aload_n 0, 1) := by decide +kernel
theorem dX11_commandHere_85 : decode cX11_commandHere 85 = .ok (.bipush 115, 2) := by decide +kernel
theorem dX11_commandHere_87 : decode cX11_commandHere 87 = .ok (.invokevirtual 221, 3) := by decide +kernel
theorem dX11_commandHere_90 : decode cX11_commandHere 90 = .ok (.ifCond .eq 27, 3) := by decide +kernel
theorem dX11_commandHere_93 : decode cX11_commandHere 93 = .ok (.aload_n 0, 1) := by decide +kernel
theorem dX11_commandHere_94 : decode cX11_commandHere 94 = .ok (.iconst 3, 1) := by decide +kernel
theorem dX11_commandHere_95 : decode cX11_commandHere 95 = .ok (.ldc 237, 2) := by decide +kernel
theorem dX11_commandHere_97 : decode cX11_commandHere 97 = .ok (.invokevirtual 226, 3) := by decide +kernel
theorem dX11_commandHere_100 : decode cX11_commandHere 100 = .ok (.ifCond .eq 15, 3) := by decide +kernel
theorem dX11_commandHere_103 : decode cX11_commandHere 103 = .ok (.aload_n 0, 1) := by decide +kernel
theorem dX11_commandHere_104 : decode cX11_commandHere 104 = .ok (.iload_n 1, 1) := by decide +kernel
theorem dX11_commandHere_105 : decode cX11_commandHere 105 = .ok (.invokevirtual 239, 3) := by decide +kernel
theorem dX11_commandHere_108 : decode cX11_commandHere 108 = .ok (.ifCond .eq 7, 3) := by decide +kernel
theorem dX11_commandHere_111 : decode cX11_commandHere 111 = .ok (.iconst 1, 1) := by decide +kernel
theorem dX11_commandHere_112 : decode cX11_commandHere 112 = .ok (.goto 4, 3) := by decide +kernel
theorem dX11_commandHere_115 : decode cX11_commandHere 115 = .ok (.iconst 0, 1) := by decide +kernel
theorem dX11_commandHere_116 : decode cX11_commandHere 116 = .ok (.ireturn, 1) := by decide +kernel
theorem dX11_commandHere_117 : decode cX11_commandHere 117 = .ok (.aload_n 0, 1) := by decide +kernel
theorem dX11_commandHere_118 : decode cX11_commandHere 118 = .ok (.bipush 110, 2) := by decide +kernel
theorem dX11_commandHere_120 : decode cX11_commandHere 120 = .ok (.invokevirtual 221, 3) := by decide +kernel
theorem dX11_commandHere_123 : decode cX11_commandHere 123 = .ok (.ifCond .eq 9, 3) := by decide +kernel
theorem dX11_commandHere_126 : decode cX11_commandHere 126 = .ok (.aload_n 0, 1) := by decide +kernel
theorem dX11_commandHere_127 : decode cX11_commandHere 127 = .ok (.iload_n 1, 1) := by decide +kernel
theorem dX11_commandHere_128 : decode cX11_commandHere 128 = .ok (.invokevirtual 242, 3) := by decide +kernel
theorem dX11_commandHere_131 : decode cX11_commandHere 131 = .ok (.ireturn, 1) := by decide +kernel
theorem dX11_commandHere_132 : decode cX11_commandHere 132 = .ok (.aload_n 0, 1) := by decide +kernel
theorem dX11_commandHere_133 : decode cX11_commandHere 133 = .ok (.bipush 99, 2) := by decide +kernel
theorem dX11_commandHere_135 : decode cX11_commandHere 135 = .ok (.invokevirtual 221, 3) := by decide +kernel
theorem dX11_commandHere_138 : decode cX11_commandHere 138 = .ok (.ifCond .eq 64, 3) := by decide +kernel
theorem dX11_commandHere_141 : decode cX11_commandHere 141 = .ok (.aload_n 0, 1) := by decide +kernel
theorem dX11_commandHere_142 : decode cX11_commandHere 142 = .ok (.bipush 108, 2) := by decide +kernel
theorem dX11_commandHere_144 : decode cX11_commandHere 144 = .ok (.invokevirtual 221, 3) := by decide +kernel
theorem dX11_commandHere_147 : decode cX11_commandHere 147 = .ok (.ifCond .eq 14, 3) := by decide +kernel
theorem dX11_commandHere_150 : decode cX11_commandHere 150 = .ok (.aload_n 0, 1) := by decide +kernel
theorem dX11_commandHere_151 : decode cX11_commandHere 151 = .ok (.bipush 6, 2) := by decide +kernel
theorem dX11_commandHere_153 : decode cX11_commandHere 153 = .ok (.ldc 245, 2) := by decide +kernel
theorem dX11_commandHere_155 : decode cX11_commandHere 155 = .ok (.invokevirtual 226, 3) := by decide +kernel
theorem dX11_commandHere_158 : decode cX11_commandHere 158 = .ok (.goto 43, 3) := by decide +kernel
theorem dX11_commandHere_161 : decode cX11_commandHere 161 = .ok (.aload_n 0, 1) := by decide +kernel
theorem dX11_commandHere_162 : decode cX11_commandHere 162 = .ok (.bipush 7, 2) := by decide +kernel
theorem dX11_commandHere_164 : decode cX11_commandHere 164 = .ok (.ldc 247, 2) := by decide +kernel
theorem dX11_commandHere_166 : decode cX11_commandHere 166 = .ok (.invokevirtual 226, 3) := by decide +kernel
theorem dX11_commandHere_169 : decode cX11_commandHere 169 = .ok (.ifCond .eq 31, 3) := by decide +kernel
theorem dX11_commandHere_172 : decode cX11_commandHere 172 = .ok (.aload_n 0, 1) := by decide +kernel
theorem dX11_commandHere_173 : decode cX11_commandHere 173 = .ok (.bipush 32, 2) := by decide +kernel
theorem dX11_commandHere_175 : decode cX11_commandHere 175 = .ok (.iload_n 1, 1) := by decide +kernel
theorem dX11_commandHere_176 : decode cX11_commandHere 176 = .ok (.iconst 4, 1) := by decide +kernel
theorem dX11_commandHere_177 : decode cX11_commandHere 177 = .ok (.invokevirtual 230, 3) := by decide +kernel
theorem dX11_commandHere_180 : decode cX11_commandHere 180 = .ok (.ifCond .eq 20, 3) := by decide +kernel
theorem dX11_commandHere_183 : decode cX11_commandHere 183 = .ok (.aload_n 0, 1) := by decide +kernel
theorem dX11_commandHere_184 : decode cX11_commandHere 184 = .ok (.bipush 32, 2) := by decide +kernel
theorem dX11_commandHere_186 : decode cX11_commandHere 186 = .ok (.iload_n 1, 1) := by decide +kernel
theorem dX11_commandHere_187 : decode cX11_commandHere 187 = .ok (.iconst 1, 1) := by decide +kernel
theorem dX11_commandHere_188 : decode cX11_commandHere 188 = .ok (.iadd, 1) := by decide +kernel
theorem dX11_commandHere_189 : decode cX11_commandHere 189 = .ok (.iconst 4, 1) := by decide +kernel
theorem dX11_commandHere_190 : decode cX11_commandHere 190 = .ok (.invokevirtual 230, 3) := by decide +kernel
theorem dX11_commandHere_193 : decode cX11_commandHere 193 = .ok (.ifCond .eq 7, 3) := by decide +kernel
theorem dX11_commandHere_196 : decode cX11_commandHere 196 = .ok (.iconst 1, 1) := by decide +kernel
theorem dX11_commandHere_197 : decode cX11_commandHere 197 = .ok (.goto 4, 3) := by decide +kernel
theorem dX11_commandHere_200 : decode cX11_commandHere 200 = .ok (.iconst 0, 1) := by decide +kernel
theorem dX11_commandHere_201 : decode cX11_commandHere 201 = .ok (.ireturn, 1) := by decide +kernel
theorem dX11_commandHere_202 : decode cX11_commandHere 202 = .ok (.aload_n 0, 1) := by decide +kernel
theorem dX11_commandHere_203 : decode cX11_commandHere 203 = .ok (.bipush 112, 2) := by decide +kernel
theorem dX11_commandHere_205 : decode cX11_commandHere 205 = .ok (.invokevirtual 221, 3) := by decide +kernel
theorem dX11_commandHere_208 : decode cX11_commandHere 208 = .ok (.ifCond .ne 5, 3) := by decide +kernel
theorem dX11_commandHere_211 : decode cX11_commandHere 211 = .ok (.iconst 0, 1) := by decide +kernel
theorem dX11_commandHere_212 : decode cX11_commandHere 212 = .ok (.ireturn, 1) := by decide +kernel
theorem dX11_commandHere_213 : decode cX11_commandHere 213 = .ok (.aload_n 0, 1) := by decide +kernel
theorem dX11_commandHere_214 : decode cX11_commandHere 214 = .ok (.bipush 111, 2) := by decide +kernel
theorem dX11_commandHere_216 : decode cX11_commandHere 216 = .ok (.invokevirtual 221, 3) := by decide +kernel
theorem dX11_commandHere_219 : decode cX11_commandHere 219 = .ok (.ifCond .eq 56, 3) := by decide +kernel
theorem dX11_commandHere_222 : decode cX11_commandHere 222 = .ok (.aload_n 0, 1) := by decide +kernel
theorem dX11_commandHere_223 : decode cX11_commandHere 223 = .ok (.iconst 1, 1) := by decide +kernel
theorem dX11_commandHere_224 : decode cX11_commandHere 224 = .ok (.ldc 249, 2) := by decide +kernel
theorem dX11_commandHere_226 : decode cX11_commandHere 226 = .ok (.invokevirtual 226, 3) := by decide +kernel
theorem dX11_commandHere_229 : decode cX11_commandHere 229 = .ok (.ifCond .eq 44, 3) := by decide +kernel
theorem dX11_commandHere_232 : decode cX11_commandHere 232 = .ok (.aload_n 0, 1) := by decide +kernel
theorem dX11_commandHere_233 : decode cX11_commandHere 233 = .ok (.bipush 32, 2) := by decide +kernel
theorem dX11_commandHere_235 : decode cX11_commandHere 235 = .ok (.iload_n 1, 1) := by decide +kernel
theorem dX11_commandHere_236 : decode cX11_commandHere 236 = .ok (.iconst 4, 1) := by decide +kernel
theorem dX11_commandHere_237 : decode cX11_commandHere 237 = .ok (.invokevirtual 230, 3) := by decide +kernel
theorem dX11_commandHere_240 : decode cX11_commandHere 240 = .ok (.ifCond .eq 33, 3) := by decide +kernel
theorem dX11_commandHere_243 : decode cX11_commandHere 243 = .ok (.aload_n 0, 1) := by decide +kernel
theorem dX11_commandHere_244 : decode cX11_commandHere 244 = .ok (.bipush 62, 2) := by decide +kernel
theorem dX11_commandHere_246 : decode cX11_commandHere 246 = .ok (.iload_n 1, 1) := by decide +kernel
theorem dX11_commandHere_247 : decode cX11_commandHere 247 = .ok (.iconst 1, 1) := by decide +kernel
theorem dX11_commandHere_248 : decode cX11_commandHere 248 = .ok (.iadd, 1) := by decide +kernel
theorem dX11_commandHere_249 : decode cX11_commandHere 249 = .ok (.iconst 4, 1) := by decide +kernel
theorem dX11_commandHere_250 : decode cX11_commandHere 250 = .ok (.invokevirtual 230, 3) := by decide +kernel
theorem dX11_commandHere_253 : decode cX11_commandHere 253 = .ok (.ifCond .eq 20, 3) := by decide +kernel
theorem dX11_commandHere_256 : decode cX11_commandHere 256 = .ok (.aload_n 0, 1) := by decide +kernel
theorem dX11_commandHere_257 : decode cX11_commandHere 257 = .ok (.bipush 32, 2) := by decide +kernel
theorem dX11_commandHere_259 : decode cX11_commandHere 259 = .ok (.iload_n 1, 1) := by decide +kernel
theorem dX11_commandHere_260 : decode cX11_commandHere 260 = .ok (.iconst 2, 1) := by decide +kernel
theorem dX11_commandHere_261 : decode cX11_commandHere 261 = .ok (.iadd, 1) := by decide +kernel
theorem dX11_commandHere_262 : decode cX11_commandHere 262 = .ok (.iconst 4, 1) := by decide +kernel
theorem dX11_commandHere_263 : decode cX11_commandHere 263 = .ok (.invokevirtual 230, 3) := by decide +kernel
theorem dX11_commandHere_266 : decode cX11_commandHere 266 = .ok (.ifCond .eq 7, 3) := by decide +kernel
theorem dX11_commandHere_269 : decode cX11_commandHere 269 = .ok (.iconst 1, 1) := by decide +kernel
theorem dX11_commandHere_270 : decode cX11_commandHere 270 = .ok (.goto 4, 3) := by decide +kernel
theorem dX11_commandHere_273 : decode cX11_commandHere 273 = .ok (.iconst 0, 1) := by decide +kernel
theorem dX11_commandHere_274 : decode cX11_commandHere 274 = .ok (.ireturn, 1) := by decide +kernel
theorem dX11_commandHere_275 : decode cX11_commandHere 275 = .ok (.aload_n 0, 1) := by decide +kernel
theorem dX11_commandHere_276 : decode cX11_commandHere 276 = .ok (.iconst 2, 1) := by decide +kernel
theorem dX11_commandHere_277 : decode cX11_commandHere 277 = .ok (.ldc 251, 2) := by decide +kernel
theorem dX11_commandHere_279 : decode cX11_commandHere 279 = .ok (.invokevirtual 226, 3) := by decide +kernel
theorem dX11_commandHere_282 : decode cX11_commandHere 282 = .ok (.ifCond .eq 31, 3) := by decide +kernel
theorem dX11_commandHere_285 : decode cX11_commandHere 285 = .ok (.aload_n 0, 1) := by decide +kernel
theorem dX11_commandHere_286 : decode cX11_commandHere 286 = .ok (.bipush 32, 2) := by decide +kernel
theorem dX11_commandHere_288 : decode cX11_commandHere 288 = .ok (.iload_n 1, 1) := by decide +kernel
theorem dX11_commandHere_289 : decode cX11_commandHere 289 = .ok (.iconst 1, 1) := by decide +kernel
theorem dX11_commandHere_290 : decode cX11_commandHere 290 = .ok (.invokevirtual 230, 3) := by decide +kernel
theorem dX11_commandHere_293 : decode cX11_commandHere 293 = .ok (.ifCond .eq 20, 3) := by decide +kernel
theorem dX11_commandHere_296 : decode cX11_commandHere 296 = .ok (.aload_n 0, 1) := by decide +kernel
theorem dX11_commandHere_297 : decode cX11_commandHere 297 = .ok (.bipush 32, 2) := by decide +kernel
theorem dX11_commandHere_299 : decode cX11_commandHere 299 = .ok (.iload_n 1, 1) := by decide +kernel
theorem dX11_commandHere_300 : decode cX11_commandHere 300 = .ok (.iconst 1, 1) := by decide +kernel
theorem dX11_commandHere_301 : decode cX11_commandHere 301 = .ok (.iadd, 1) := by decide +kernel
theorem dX11_commandHere_302 : decode cX11_commandHere 302 = .ok (.iconst 4, 1) := by decide +kernel
theorem dX11_commandHere_303 : decode cX11_commandHere 303 = .ok (.invokevirtual 230, 3) := by decide +kernel
theorem dX11_commandHere_306 : decode cX11_commandHere 306 = .ok (.ifCond .eq 7, 3) := by decide +kernel
theorem dX11_commandHere_309 : decode cX11_commandHere 309 = .ok (.iconst 1, 1) := by decide +kernel
theorem dX11_commandHere_310 : decode cX11_commandHere 310 = .ok (.goto 4, 3) := by decide +kernel
theorem dX11_commandHere_313 : decode cX11_commandHere 313 = .ok (.iconst 0, 1) := by decide +kernel
theorem dX11_commandHere_314 : decode cX11_commandHere 314 = .ok (.ireturn, 1) := by decide +kernel
set_option maxRecDepth 20000 in
theorem ggX11_isScript_X11_commandHere : GoodIn wsX11_isScript wsX11_commandHere := goodIn_ca (goodIn_r _ [8, 2, 9, 10, 11, 7, 12, 1, 13, 14, 15, 16, 3, 17, 18, 19, 20, 21, 22, 23, 24, 25, 26, 27, 28, 29, 30, 31, 32, 33, 34, 35, 36, 37, 38, 39, 40, 41, 42, 43, 44, 45, 46, 47, 48, 49, 50, 51, 52, 53, 54, 55, 56, 57, 58, 59, 60, 61, 62, 63, 64, 65, 66, 67, 68, 69, 70, 71, 72, 73, 74, 75, 76, 77, 78, 79, 80, 81, 82, 83, 84, 85, 86, 87, 88, 89, 90, 91, 92, 93, 94, 95, 96, 97, 98, 99, 100, 101, 102, 103, 104, 105, 106, 107, 108, 109, 110, 111, 112] (by decide +kernel) (by decide +kernel)) (goodIn_sub (fun _ h => List.mem_cons_of_mem _ (List.mem_append_right _ h)) (by decide +kernel))
set_option maxRecDepth 20000 in
theorem gX11_isScript_X11_commandHere : GoodIn wsX11_isScript (wsV RX11 253 RX11 yX11_commandHere wsX11_commandHere) := goodIn_app (goodIn_of _ (by decide +kernel)) ggX11_isScript_X11_commandHere
set_option maxRecDepth 20000 in
theorem ggX11_isScript_X11_skips : GoodIn wsX11_isScript wsX11_skips := goodIn_ca (goodIn_r _ [12, 1, 13, 14, 15, 7, 16, 3, 17, 87, 88, 89, 90, 91, 92, 93, 94, 95, 96, 97, 98, 99, 100, 101, 102, 103, 104, 105, 106, 107, 108] (by decide +kernel) (by decide +kernel)) (goodIn_sub (fun _ h => List.mem_cons_of_mem _ (List.mem_append_right _ h)) (by decide +kernel))
set_option maxRecDepth 20000 in
theorem gX11_isScript_X11_skips : GoodIn wsX11_isScript (wsV RX11 221 RX11 yX11_skips wsX11_skips) := goodIn_app (goodIn_of _ (by decide +kernel)) ggX11_isScript_X11_skips
theorem dX11_isScript_0 : decode cX11_isScript 0 = .ok (.aload_n 0, 1) := by decide +kernel
theorem dX11_isScript_1 : decode cX11_isScript 1 = .ok (.iconst 0, 1) := by decide +kernel
theorem dX11_isScript_2 : decode cX11_isScript 2 = .ok (.putfield 204, 3) := by decide +kernel
theorem dX11_isScript_5 : decode cX11_isScript 5 = .ok (.aload_n 0, 1) := by decide +kernel
theorem dX11_isScript_6 : decode cX11_isScript 6 = .ok (.iconst 0, 1) := by decide +kernel
theorem dX11_isScript_7 : decode cX11_isScript 7 = .ok (.putfield 210, 3) := by decide +kernel
theorem dX11_isScript_10 : decode cX11_isScript 10 = .ok (.aload_n 0, 1) := by decide +kernel
theorem dX11_isScript_11 : decode cX11_isScript 11 = .ok (.invokevirtual 253, 3) := by decide +kernel
theorem dX11_isScript_14 : decode cX11_isScript 14 = .ok (.ifCond .ne 5, 3) := by decide +kernel
theorem dX11_isScript_17 : decode cX11_isScript 17 = .ok (.iconst 0, 1) := by decide +kernel
theorem dX11_isScript_18 : decode cX11_isScript 18 = .ok (.ireturn, 1) := by decide +kernel
theorem dX11_isScript_19 : decode cX11_isScript 19 = .ok (.aload_n 0, 1) := by decide +kernel
theorem dX11_isScript_20 : decode cX11_isScript 20 = .ok (.dup, 1) := by decide +kernel
theorem dX11_isScript_21 : decode cX11_isScript 21 = .ok (.getfield 210, 3) := by decide +kernel
theorem dX11_isScript_24 : decode cX11_isScript 24 = .ok (.iconst 1, 1) := by decide +kernel
theorem dX11_isScript_25 : decode cX11_isScript 25 = .ok (.iadd, 1) := by decide +kernel
theorem dX11_isScript_26 : decode cX11_isScript 26 = .ok (.putfield 210, 3) := by decide +kernel
theorem dX11_isScript_29 : decode cX11_isScript 29 = .ok (.aload_n 0, 1) := by decide +kernel
theorem dX11_isScript_30 : decode cX11_isScript 30 = .ok (.bipush 59, 2) := by decide +kernel
theorem dX11_isScript_32 : decode cX11_isScript 32 = .ok (.invokevirtual 221, 3) := by decide +kernel
theorem dX11_isScript_35 : decode cX11_isScript 35 = .ok (.ifCond .ne (-25), 3) := by decide +kernel
theorem dX11_isScript_38 : decode cX11_isScript 38 = .ok (.aload_n 0, 1) := by decide +kernel
theorem dX11_isScript_39 : decode cX11_isScript 39 = .ok (.getfield 204, 3) := by decide +kernel
theorem dX11_isScript_42 : decode cX11_isScript 42 = .ok (.aload_n 0, 1) := by decide +kernel
theorem dX11_isScript_43 : decode cX11_isScript 43 = .ok (.getfield 201, 3) := by decide +kernel
theorem dX11_isScript_46 : decode cX11_isScript 46 = .ok (.if_icmp .ne 7, 3) := by decide +kernel
theorem dX11_isScript_49 : decode cX11_isScript 49 = .ok (.iconst 1, 1) := by decide +kernel
theorem dX11_isScript_50 : decode cX11_isScript 50 = .ok (.goto 4, 3) := by decide +kernel
theorem dX11_isScript_53 : decode cX11_isScript 53 = .ok (.iconst 0, 1) := by decide +kernel
theorem dX11_isScript_54 : decode cX11_isScript 54 = .ok (.ireturn, 1) := by decide +kernel
set_option maxRecDepth 20000 in
theorem ggX11_carries_X11_addAcrobat : GoodIn wsX11_carries wsX11_addAcrobat := goodIn_ca (goodIn_r _ [6, 7, 8, 9, 5, 10, 11, 12, 13, 14, 15, 16, 17, 18, 19, 20, 21, 22, 23, 24, 25, 128, 129, 130, 131, 132, 133, 134, 135, 136, 137, 138, 139, 140, 141, 142, 143, 144, 145, 146, 147, 148, 149] (by decide +kernel) (by decide +kernel)) (goodIn_sub (fun _ h => List.mem_cons_of_mem _ (List.mem_append_right _ h)) (by decide +kernel))
set_option maxRecDepth 20000 in
theorem gX11_carries_X11_addAcrobat : GoodIn wsX11_carries (wsV RX11 256 RX11 yX11_addAcrobat wsX11_addAcrobat) := goodIn_app (goodIn_of _ (by decide +kernel)) ggX11_carries_X11_addAcrobat
set_option maxRecDepth 20000 in
theorem ggX11_carries_X11_post : GoodIn wsX11_carries wsX11_post := goodIn_ca (goodIn_r _ [29, 7, 30, 31, 32, 5, 33, 8, 9, 10, 34, 35, 36, 37, 11, 12, 13, 14, 15, 16, 17, 18, 19, 20, 21, 22, 23, 24, 25, 38, 39, 40, 41, 128, 129, 130, 131, 132, 133, 134, 135, 136, 137, 138, 139, 140, 141, 142, 143, 144, 145, 146, 147, 148, 149] (by decide +kernel) (by decide +kernel)) (goodIn_sub (fun _ h => List.mem_cons_of_mem _ (List.mem_append_right _ h)) (by decide +kernel))
set_option maxRecDepth 20000 in
theorem gX11_carries_X11_post : GoodIn wsX11_carries (wsV RX11 260 RX11 yX11_post wsX11_post) := goodIn_app (goodIn_of _ (by decide +kernel)) ggX11_carries_X11_post
set_option maxRecDepth 20000 in
theorem ggX11_carries_X11_payOut : GoodIn wsX11_carries wsX11_payOut := goodIn_ca (goodIn_r _ [45, 7, 46, 47, 48, 5, 49, 8, 9, 10, 34, 35, 36, 37, 11, 12, 13, 14, 15, 16, 17, 18, 19, 20, 21, 22, 23, 24, 25, 38, 39, 40, 41, 128, 129, 130, 131, 132, 133, 134, 135, 136, 137, 138, 139, 140, 141, 142, 143, 144, 145, 146, 147, 148, 149] (by decide +kernel) (by decide +kernel)) (goodIn_sub (fun _ h => List.mem_cons_of_mem _ (List.mem_append_right _ h)) (by decide +kernel))
set_option maxRecDepth 20000 in
theorem gX11_carries_X11_payOut : GoodIn wsX11_carries (wsV RX11 264 RX11 yX11_payOut wsX11_payOut) := goodIn_app (goodIn_of _ (by decide +kernel)) ggX11_carries_X11_payOut
set_option maxRecDepth 20000 in
theorem ggX11_carries_X11_show : GoodIn wsX11_carries wsX11_show := goodIn_ca (goodIn_r _ [53, 7, 54, 55, 56, 5, 57, 58, 59, 60, 61, 11, 12, 13, 14, 15, 62, 63, 64, 65, 66, 67, 68, 69, 70, 71, 72, 73, 74, 75, 76, 77, 78, 79, 80, 81, 82, 83, 84, 85, 86, 87, 88, 89, 90, 91, 92, 93, 94, 95, 16, 17, 18, 19, 20, 21, 22, 23, 24, 25, 96, 97, 98, 99, 100, 101, 102, 103, 38, 39, 40, 41, 104, 105, 106, 107, 108, 109, 110, 111, 128, 129, 130, 131, 132, 133, 134, 135, 136, 137, 138, 139, 140, 141, 142, 143, 144, 145, 146, 147, 148, 149] (by decide +kernel) (by decide +kernel)) (goodIn_sub (fun _ h => List.mem_cons_of_mem _ (List.mem_append_right _ h)) (by decide +kernel))
set_option maxRecDepth 20000 in
theorem gX11_carries_X11_show : GoodIn wsX11_carries (wsV RX11 267 RX11 yX11_show wsX11_show) := goodIn_app (goodIn_of _ (by decide +kernel)) ggX11_carries_X11_show
set_option maxRecDepth 20000 in
theorem ggX11_carries_X11_setNet : GoodIn wsX11_carries wsX11_setNet := goodIn_ca (goodIn_r _ [115, 7, 8, 9, 5, 10, 11, 12, 13, 14, 15, 16, 17, 18, 19, 20, 21, 22, 23, 24, 25, 128, 129, 130, 131, 132, 133, 134, 135, 136, 137, 138, 139, 140, 141, 142, 143, 144, 145, 146, 147, 148, 149] (by decide +kernel) (by decide +kernel)) (goodIn_sub (fun _ h => List.mem_cons_of_mem _ (List.mem_append_right _ h)) (by decide +kernel))
set_option maxRecDepth 20000 in
theorem gX11_carries_X11_setNet : GoodIn wsX11_carries (wsV RX11 270 RX11 yX11_setNet wsX11_setNet) := goodIn_app (goodIn_of _ (by decide +kernel)) ggX11_carries_X11_setNet
set_option maxRecDepth 20000 in
theorem ggX11_carries_X11_passNights : GoodIn wsX11_carries wsX11_passNights := goodIn_ca (goodIn_r _ [119, 7, 8, 9, 5, 10, 11, 12, 13, 14, 15, 16, 17, 18, 19, 20, 21, 22, 23, 24, 25, 108, 109, 110, 111, 73, 74, 75, 76, 128, 129, 130, 131, 132, 133, 134, 135, 136, 137, 138, 139, 140, 141, 142, 143, 144, 145, 146, 147, 148, 149] (by decide +kernel) (by decide +kernel)) (goodIn_sub (fun _ h => List.mem_cons_of_mem _ (List.mem_append_right _ h)) (by decide +kernel))
set_option maxRecDepth 20000 in
theorem gX11_carries_X11_passNights : GoodIn wsX11_carries (wsV RX11 273 RX11 yX11_passNights wsX11_passNights) := goodIn_app (goodIn_of _ (by decide +kernel)) ggX11_carries_X11_passNights
set_option maxRecDepth 20000 in
theorem ggX11_carries_X11_closeBooks : GoodIn wsX11_carries wsX11_closeBooks := goodIn_ca (goodIn_r _ [123, 7, 16, 17, 18, 5, 19, 15, 20, 21, 22, 23, 24, 25, 128, 129, 130, 131, 132, 133, 134, 135, 136, 137, 138, 139, 140, 141, 142, 143, 144, 145, 146, 147, 148, 149] (by decide +kernel) (by decide +kernel)) (goodIn_sub (fun _ h => List.mem_cons_of_mem _ (List.mem_append_right _ h)) (by decide +kernel))
set_option maxRecDepth 20000 in
theorem gX11_carries_X11_closeBooks : GoodIn wsX11_carries (wsV RX11 276 RX11 yX11_closeBooks wsX11_closeBooks) := goodIn_app (goodIn_of _ (by decide +kernel)) ggX11_carries_X11_closeBooks
set_option maxRecDepth 20000 in
theorem ggX11_carries_X11_cancel : GoodIn wsX11_carries wsX11_cancel := goodIn_ca (goodIn_r _ [127, 7, 30, 31, 32, 5, 33, 8, 9, 10, 11, 12, 13, 14, 15, 93, 94, 95, 16, 17, 18, 19, 20, 21, 22, 23, 24, 25, 38, 39, 40, 41, 128, 129, 130, 131, 132, 133, 134, 135, 136, 137, 138, 139, 140, 141, 142, 143, 144, 145, 146, 147, 148, 149] (by decide +kernel) (by decide +kernel)) (goodIn_sub (fun _ h => List.mem_cons_of_mem _ (List.mem_append_right _ h)) (by decide +kernel))
set_option maxRecDepth 20000 in
theorem gX11_carries_X11_cancel : GoodIn wsX11_carries (wsV RX11 279 RX11 yX11_cancel wsX11_cancel) := goodIn_app (goodIn_of _ (by decide +kernel)) ggX11_carries_X11_cancel
theorem dX11_carries_0 : decode cX11_carries 0 = .ok (.aload_n 0, 1) := by decide +kernel
theorem dX11_carries_1 : decode cX11_carries 1 = .ok (.getfield 48, 3) := by decide +kernel
theorem dX11_carries_4 : decode cX11_carries 4 = .ok (.iload_n 1, 1) := by decide +kernel
theorem dX11_carries_5 : decode cX11_carries 5 = .ok (.iconst 1, 1) := by decide +kernel
theorem dX11_carries_6 : decode cX11_carries 6 = .ok (.iadd, 1) := by decide +kernel
theorem dX11_carries_7 : decode cX11_carries 7 = .ok (.iaload, 1) := by decide +kernel
theorem dX11_carries_8 : decode cX11_carries 8 = .ok (.istore_n 2, 1) := by decide +kernel
theorem dX11_carries_9 : decode cX11_carries 9 = .ok (.aload_n 0, 1) := by decide +kernel
theorem dX11_carries_10 : decode cX11_carries 10 = .ok (.getfield 48, 3) := by decide +kernel
theorem dX11_carries_13 : decode cX11_carries 13 = .ok (.iload_n 1, 1) := by decide +kernel
theorem dX11_carries_14 : decode cX11_carries 14 = .ok (.iconst 2, 1) := by decide +kernel
theorem dX11_carries_15 : decode cX11_carries 15 = .ok (.iadd, 1) := by decide +kernel
theorem dX11_carries_16 : decode cX11_carries 16 = .ok (.iaload, 1) := by decide +kernel
theorem dX11_carries_17 : decode cX11_carries 17 = .ok (.istore_n 3, 1) := by decide +kernel
theorem dX11_carries_18 : decode cX11_carries 18 = .ok (.aload_n 0, 1) := by decide +kernel
theorem dX11_carries_19 : decode cX11_carries 19 = .ok (.getfield 48, 3) := by decide +kernel
theorem dX11_carries_22 : decode cX11_carries 22 = .ok (.iload_n 1, 1) := by decide +kernel
theorem dX11_carries_23 : decode cX11_carries 23 = .ok (.iaload, 1) := by decide +kernel
theorem dX11_carries_24 : decode cX11_carries 24 = .ok (.tableswitch 112 0 6 #[44, 67, 82, 89, 95, 101, 107], 44) := by decide +kernel
theorem dX11_carries_68 : decode cX11_carries 68 = .ok (.aload_n 0, 1) := by decide +kernel
theorem dX11_carries_69 : decode cX11_carries 69 = .ok (.iload_n 2, 1) := by decide +kernel
theorem dX11_carries_70 : decode cX11_carries 70 = .ok (.iload_n 3, 1) := by decide +kernel
theorem dX11_carries_71 : decode cX11_carries 71 = .ok (.aload_n 0, 1) := by decide +kernel
theorem dX11_carries_72 : decode cX11_carries 72 = .ok (.getfield 48, 3) := by decide +kernel
theorem dX11_carries_75 : decode cX11_carries 75 = .ok (.iload_n 1, 1) := by decide +kernel
theorem dX11_carries_76 : decode cX11_carries 76 = .ok (.iconst 3, 1) := by decide +kernel
theorem dX11_carries_77 : decode cX11_carries 77 = .ok (.iadd, 1) := by decide +kernel
theorem dX11_carries_78 : decode cX11_carries 78 = .ok (.iaload, 1) := by decide +kernel
theorem dX11_carries_79 : decode cX11_carries 79 = .ok (.aload_n 0, 1) := by decide +kernel
theorem dX11_carries_80 : decode cX11_carries 80 = .ok (.getfield 48, 3) := by decide +kernel
theorem dX11_carries_83 : decode cX11_carries 83 = .ok (.iload_n 1, 1) := by decide +kernel
theorem dX11_carries_84 : decode cX11_carries 84 = .ok (.iconst 4, 1) := by decide +kernel
theorem dX11_carries_85 : decode cX11_carries 85 = .ok (.iadd, 1) := by decide +kernel
theorem dX11_carries_86 : decode cX11_carries 86 = .ok (.iaload, 1) := by decide +kernel
theorem dX11_carries_87 : decode cX11_carries 87 = .ok (.invokevirtual 256, 3) := by decide +kernel
theorem dX11_carries_90 : decode cX11_carries 90 = .ok (.ireturn, 1) := by decide +kernel
theorem dX11_carries_91 : decode cX11_carries 91 = .ok (.aload_n 0, 1) := by decide +kernel
theorem dX11_carries_92 : decode cX11_carries 92 = .ok (.iload_n 2, 1) := by decide +kernel
theorem dX11_carries_93 : decode cX11_carries 93 = .ok (.iload_n 3, 1) := by decide +kernel
theorem dX11_carries_94 : decode cX11_carries 94 = .ok (.aload_n 0, 1) := by decide +kernel
theorem dX11_carries_95 : decode cX11_carries 95 = .ok (.getfield 48, 3) := by decide +kernel
theorem dX11_carries_98 : decode cX11_carries 98 = .ok (.iload_n 1, 1) := by decide +kernel
theorem dX11_carries_99 : decode cX11_carries 99 = .ok (.iconst 3, 1) := by decide +kernel
theorem dX11_carries_100 : decode cX11_carries 100 = .ok (.iadd, 1) := by decide +kernel
theorem dX11_carries_101 : decode cX11_carries 101 = .ok (.iaload, 1) := by decide +kernel
theorem dX11_carries_102 : decode cX11_carries 102 = .ok (.invokevirtual 260, 3) := by decide +kernel
theorem dX11_carries_105 : decode cX11_carries 105 = .ok (.ireturn, 1) := by decide +kernel
theorem dX11_carries_106 : decode cX11_carries 106 = .ok (.aload_n 0, 1) := by decide +kernel
theorem dX11_carries_107 : decode cX11_carries 107 = .ok (.iload_n 2, 1) := by decide +kernel
theorem dX11_carries_108 : decode cX11_carries 108 = .ok (.iload_n 3, 1) := by decide +kernel
theorem dX11_carries_109 : decode cX11_carries 109 = .ok (.invokevirtual 264, 3) := by decide +kernel
theorem dX11_carries_112 : decode cX11_carries 112 = .ok (.ireturn, 1) := by decide +kernel
theorem dX11_carries_113 : decode cX11_carries 113 = .ok (.aload_n 0, 1) := by decide +kernel
theorem dX11_carries_114 : decode cX11_carries 114 = .ok (.iload_n 2, 1) := by decide +kernel
theorem dX11_carries_115 : decode cX11_carries 115 = .ok (.invokevirtual 267, 3) := by decide +kernel
theorem dX11_carries_118 : decode cX11_carries 118 = .ok (.ireturn, 1) := by decide +kernel
theorem dX11_carries_119 : decode cX11_carries 119 = .ok (.aload_n 0, 1) := by decide +kernel
theorem dX11_carries_120 : decode cX11_carries 120 = .ok (.iload_n 2, 1) := by decide +kernel
theorem dX11_carries_121 : decode cX11_carries 121 = .ok (.invokevirtual 270, 3) := by decide +kernel
theorem dX11_carries_124 : decode cX11_carries 124 = .ok (.ireturn, 1) := by decide +kernel
theorem dX11_carries_125 : decode cX11_carries 125 = .ok (.aload_n 0, 1) := by decide +kernel
theorem dX11_carries_126 : decode cX11_carries 126 = .ok (.iload_n 2, 1) := by decide +kernel
theorem dX11_carries_127 : decode cX11_carries 127 = .ok (.invokevirtual 273, 3) := by decide +kernel
theorem dX11_carries_130 : decode cX11_carries 130 = .ok (.ireturn, 1) := by decide +kernel
theorem dX11_carries_131 : decode cX11_carries 131 = .ok (.aload_n 0, 1) := by decide +kernel
theorem dX11_carries_132 : decode cX11_carries 132 = .ok (.invokevirtual 276, 3) := by decide +kernel
theorem dX11_carries_135 : decode cX11_carries 135 = .ok (.ireturn, 1) := by decide +kernel
theorem dX11_carries_136 : decode cX11_carries 136 = .ok (.aload_n 0, 1) := by decide +kernel
theorem dX11_carries_137 : decode cX11_carries 137 = .ok (.iload_n 2, 1) := by decide +kernel
theorem dX11_carries_138 : decode cX11_carries 138 = .ok (.iload_n 3, 1) := by decide +kernel
theorem dX11_carries_139 : decode cX11_carries 139 = .ok (.invokevirtual 279, 3) := by decide +kernel
theorem dX11_carries_142 : decode cX11_carries 142 = .ok (.ireturn, 1) := by decide +kernel
set_option maxRecDepth 20000 in
theorem ggX11_runScript_X11_isScript : GoodIn wsX11_runScript wsX11_isScript := goodIn_ca (goodIn_r _ [14, 1, 7, 3, 15, 16, 17, 13, 18, 19, 20, 21, 22, 23, 24, 25, 26, 27, 28, 29, 30, 31, 32, 33, 34, 35, 36, 37, 38, 39, 40, 41, 42, 43, 44, 45, 46, 47, 48, 49, 50, 51, 52, 53, 54, 55, 56, 57, 58, 59, 60, 61, 62, 63, 64, 65, 66, 67, 68, 69, 70, 71, 72, 73, 74, 75, 76, 77, 78, 79, 80, 81, 82, 83, 84, 85, 86, 87, 88, 89, 90, 91, 92, 93, 94, 95, 96, 220, 221, 222, 223, 224, 225, 226, 227, 228, 229, 230, 231, 232, 233, 234, 235, 236, 237, 238, 239, 240, 241, 242, 243, 244, 245] (by decide +kernel) (by decide +kernel)) (goodIn_sub (fun _ h => List.mem_cons_of_mem _ (List.mem_append_right _ h)) (by decide +kernel))
set_option maxRecDepth 20000 in
theorem gX11_runScript_X11_isScript : GoodIn wsX11_runScript (wsV RX11 282 RX11 yX11_isScript wsX11_isScript) := goodIn_app (goodIn_of _ (by decide +kernel)) ggX11_runScript_X11_isScript
set_option maxRecDepth 20000 in
theorem ggX11_runScript_X11_fails : GoodIn wsX11_runScript wsX11_fails := goodIn_r _ [100, 8, 220, 221, 222, 223, 224, 225, 226, 227, 228, 229, 230, 231, 232, 233, 234, 235, 236, 237, 238, 239, 240, 241] (by decide +kernel) (by decide +kernel)
set_option maxRecDepth 20000 in
theorem gX11_runScript_X11_fails : GoodIn wsX11_runScript (wsV RX11 73 RX11 yX11_fails wsX11_fails) := goodIn_app (goodIn_of _ (by decide +kernel)) ggX11_runScript_X11_fails
set_option maxRecDepth 20000 in
theorem ggX11_runScript_X11_copies : GoodIn wsX11_runScript wsX11_copies := goodIn_ca (goodIn_r _ [103] (by decide +kernel) (by decide +kernel)) (goodIn_sub (fun _ h => List.mem_cons_of_mem _ (List.mem_append_right _ h)) (by decide +kernel))
set_option maxRecDepth 20000 in
theorem gX11_runScript_X11_copies : GoodIn wsX11_runScript (va_wsS RX11 61 yX11_copies wsX11_copies) := goodIn_app (goodIn_of _ (by decide +kernel)) ggX11_runScript_X11_copies
set_option maxRecDepth 20000 in
theorem ggX11_runScript_X11_carries : GoodIn wsX11_runScript wsX11_carries := goodIn_ca (goodIn_r _ [107, 32, 108, 109, 110, 13, 111, 4, 86, 87, 88, 97, 98, 99, 100, 8, 112, 113, 114, 115, 6, 116, 117, 101, 102, 103, 118, 119, 120, 121, 122, 123, 124, 125, 126, 127, 128, 129, 130, 131, 132, 133, 134, 135, 136, 137, 138, 139, 140, 141, 142, 143, 144, 145, 146, 147, 148, 149, 150, 151, 152, 153, 154, 155, 156, 157, 158, 159, 160, 161, 162, 163, 164, 165, 166, 167, 168, 169, 170, 171, 172, 173, 174, 175, 176, 177, 178, 179, 180, 181, 182, 183, 184, 185, 186, 187, 188, 189, 190, 191, 192, 193, 194, 195, 196, 197, 198, 199, 200, 201, 202, 203, 204, 205, 206, 207, 208, 209, 210, 211, 212, 213, 214, 215, 216, 217, 218, 219, 220, 221, 222, 223, 224, 225, 226, 227, 228, 229, 230, 231, 232, 233, 234, 235, 236, 237, 238, 239, 240, 241] (by decide +kernel) (by decide +kernel)) (goodIn_sub (fun _ h => List.mem_cons_of_mem _ (List.mem_append_right _ h)) (by decide +kernel))
set_option maxRecDepth 20000 in
theorem gX11_runScript_X11_carries : GoodIn wsX11_runScript (wsV RX11 285 RX11 yX11_carries wsX11_carries) := goodIn_app (goodIn_of _ (by decide +kernel)) ggX11_runScript_X11_carries
set_option maxRecDepth 20000 in
theorem ggX11_runScript_X11_keeps : GoodIn wsX11_runScript wsX11_keeps := goodIn_ca (goodIn_r _ [115, 8, 6, 116, 117, 101, 102, 13, 103, 220, 221, 222, 223, 224, 225, 226, 227, 228, 229, 230, 231, 232, 233, 234, 235, 236, 237, 238, 239, 240, 241] (by decide +kernel) (by decide +kernel)) (goodIn_sub (fun _ h => List.mem_cons_of_mem _ (List.mem_append_right _ h)) (by decide +kernel))
set_option maxRecDepth 20000 in
theorem gX11_runScript_X11_keeps : GoodIn wsX11_runScript (wsV RX11 76 RX11 yX11_keeps wsX11_keeps) := goodIn_app (goodIn_of _ (by decide +kernel)) ggX11_runScript_X11_keeps
theorem dX11_runScript_0 : decode cX11_runScript 0 = .ok (.aload_n 0, 1) := by decide +kernel
theorem dX11_runScript_1 : decode cX11_runScript 1 = .ok (.invokevirtual 282, 3) := by decide +kernel
theorem dX11_runScript_4 : decode cX11_runScript 4 = .ok (.istore_n 1, 1) := by decide +kernel
theorem dX11_runScript_5 : decode cX11_runScript 5 = .ok (.iload_n 1, 1) := by decide +kernel
theorem dX11_runScript_6 : decode cX11_runScript 6 = .ok (.ifCond .ne 11, 3) := by decide +kernel
theorem dX11_runScript_9 : decode cX11_runScript 9 = .ok (.aload_n 0, 1) := by decide +kernel
theorem dX11_runScript_10 : decode cX11_runScript 10 = .ok (.aload_n 0, 1) := by decide +kernel
theorem dX11_runScript_11 : decode cX11_runScript 11 = .ok (.getfield 204, 3) := by decide +kernel
theorem dX11_runScript_14 : decode cX11_runScript 14 = .ok (.putfield 25, 3) := by decide +kernel
theorem dX11_runScript_17 : decode cX11_runScript 17 = .ok (.aload_n 0, 1) := by decide +kernel
theorem dX11_runScript_18 : decode cX11_runScript 18 = .ok (.iconst 0, 1) := by decide +kernel
theorem dX11_runScript_19 : decode cX11_runScript 19 = .ok (.putfield 201, 3) := by decide +kernel
theorem dX11_runScript_22 : decode cX11_runScript 22 = .ok (.aload_n 0, 1) := by decide +kernel
theorem dX11_runScript_23 : decode cX11_runScript 23 = .ok (.iload_n 1, 1) := by decide +kernel
theorem dX11_runScript_24 : decode cX11_runScript 24 = .ok (.ifCond .eq 7, 3) := by decide +kernel
theorem dX11_runScript_27 : decode cX11_runScript 27 = .ok (.iconst 0, 1) := by decide +kernel
theorem dX11_runScript_28 : decode cX11_runScript 28 = .ok (.goto 4, 3) := by decide +kernel
theorem dX11_runScript_31 : decode cX11_runScript 31 = .ok (.iconst 1, 1) := by decide +kernel
theorem dX11_runScript_32 : decode cX11_runScript 32 = .ok (.invokevirtual 73, 3) := by decide +kernel
theorem dX11_runScript_35 : decode cX11_runScript 35 = .ok (.ifCond .eq 5, 3) := by decide +kernel
theorem dX11_runScript_38 : decode cX11_runScript 38 = .ok (.iconst 0, 1) := by decide +kernel
theorem dX11_runScript_39 : decode cX11_runScript 39 = .ok (.ireturn, 1) := by decide +kernel
theorem dX11_runScript_40 : decode cX11_runScript 40 = .ok (.aload_n 0, 1) := by decide +kernel
theorem dX11_runScript_41 : decode cX11_runScript 41 = .ok (.getfield 7, 3) := by decide +kernel
theorem dX11_runScript_44 : decode cX11_runScript 44 = .ok (.iconst 0, 1) := by decide +kernel
theorem dX11_runScript_45 : decode cX11_runScript 45 = .ok (.aload_n 0, 1) := by decide +kernel
theorem dX11_runScript_46 : decode cX11_runScript 46 = .ok (.getfield 19, 3) := by decide +kernel
theorem dX11_runScript_49 : decode cX11_runScript 49 = .ok (.iconst 0, 1) := by decide +kernel
theorem dX11_runScript_50 : decode cX11_runScript 50 = .ok (.invokestatic 61, 3) := by decide +kernel
theorem dX11_runScript_53 : decode cX11_runScript 53 = .ok (.aload_n 0, 1) := by decide +kernel
theorem dX11_runScript_54 : decode cX11_runScript 54 = .ok (.iconst 1, 1) := by decide +kernel
theorem dX11_runScript_55 : decode cX11_runScript 55 = .ok (.putfield 54, 3) := by decide +kernel
theorem dX11_runScript_58 : decode cX11_runScript 58 = .ok (.iconst 0, 1) := by decide +kernel
theorem dX11_runScript_59 : decode cX11_runScript 59 = .ok (.istore_n 2, 1) := by decide +kernel
theorem dX11_runScript_60 : decode cX11_runScript 60 = .ok (.iconst 0, 1) := by decide +kernel
theorem dX11_runScript_61 : decode cX11_runScript 61 = .ok (.istore_n 3, 1) := by decide +kernel
theorem dX11_runScript_62 : decode cX11_runScript 62 = .ok (.iload_n 2, 1) := by decide +kernel
theorem dX11_runScript_63 : decode cX11_runScript 63 = .ok (.aload_n 0, 1) := by decide +kernel
theorem dX11_runScript_64 : decode cX11_runScript 64 = .ok (.getfield 210, 3) := by decide +kernel
theorem dX11_runScript_67 : decode cX11_runScript 67 = .ok (.if_icmp .ge 31, 3) := by decide +kernel
theorem dX11_runScript_70 : decode cX11_runScript 70 = .ok (.aload_n 0, 1) := by decide +kernel
theorem dX11_runScript_71 : decode cX11_runScript 71 = .ok (.getfield 51, 3) := by decide +kernel
theorem dX11_runScript_74 : decode cX11_runScript 74 = .ok (.ifCond .ne 24, 3) := by decide +kernel
theorem dX11_runScript_77 : decode cX11_runScript 77 = .ok (.aload_n 0, 1) := by decide +kernel
theorem dX11_runScript_78 : decode cX11_runScript 78 = .ok (.iconst 5, 1) := by decide +kernel
theorem dX11_runScript_79 : decode cX11_runScript 79 = .ok (.iload_n 2, 1) := by decide +kernel
theorem dX11_runScript_80 : decode cX11_runScript 80 = .ok (.imul, 1) := by decide +kernel
theorem dX11_runScript_81 : decode cX11_runScript 81 = .ok (.invokevirtual 285, 3) := by decide +kernel
theorem dX11_runScript_84 : decode cX11_runScript 84 = .ok (.istore_n 3, 1) := by decide +kernel
theorem dX11_runScript_85 : decode cX11_runScript 85 = .ok (.aload_n 0, 1) := by decide +kernel
theorem dX11_runScript_86 : decode cX11_runScript 86 = .ok (.getfield 51, 3) := by decide +kernel
theorem dX11_runScript_89 : decode cX11_runScript 89 = .ok (.ifCond .ne (-27), 3) := by decide +kernel
theorem dX11_runScript_92 : decode cX11_runScript 92 = .ok (.iinc 2 1, 3) := by decide +kernel
theorem dX11_runScript_95 : decode cX11_runScript 95 = .ok (.goto (-33), 3) := by decide +kernel
theorem dX11_runScript_98 : decode cX11_runScript 98 = .ok (.aload_n 0, 1) := by decide +kernel
theorem dX11_runScript_99 : decode cX11_runScript 99 = .ok (.iconst 0, 1) := by decide +kernel
theorem dX11_runScript_100 : decode cX11_runScript 100 = .ok (.putfield 54, 3) := by decide +kernel
theorem dX11_runScript_103 : decode cX11_runScript 103 = .ok (.aload_n 0, 1) := by decide +kernel
theorem dX11_runScript_104 : decode cX11_runScript 104 = .ok (.getfield 51, 3) := by decide +kernel
theorem dX11_runScript_107 : decode cX11_runScript 107 = .ok (.ifCond .le 36, 3) := by decide +kernel
theorem dX11_runScript_110 : decode cX11_runScript 110 = .ok (.aload_n 0, 1) := by decide +kernel
theorem dX11_runScript_111 : decode cX11_runScript 111 = .ok (.getfield 19, 3) := by decide +kernel
theorem dX11_runScript_114 : decode cX11_runScript 114 = .ok (.iconst 0, 1) := by decide +kernel
theorem dX11_runScript_115 : decode cX11_runScript 115 = .ok (.aload_n 0, 1) := by decide +kernel
theorem dX11_runScript_116 : decode cX11_runScript 116 = .ok (.getfield 7, 3) := by decide +kernel
theorem dX11_runScript_119 : decode cX11_runScript 119 = .ok (.iconst 0, 1) := by decide +kernel
theorem dX11_runScript_120 : decode cX11_runScript 120 = .ok (.invokestatic 61, 3) := by decide +kernel
theorem dX11_runScript_123 : decode cX11_runScript 123 = .ok (.aload_n 0, 1) := by decide +kernel
theorem dX11_runScript_124 : decode cX11_runScript 124 = .ok (.iload_n 2, 1) := by decide +kernel
theorem dX11_runScript_125 : decode cX11_runScript 125 = .ok (.putfield 29, 3) := by decide +kernel
theorem dX11_runScript_128 : decode cX11_runScript 128 = .ok (.aload_n 0, 1) := by decide +kernel
theorem dX11_runScript_129 : decode cX11_runScript 129 = .ok (.iconst 2, 1) := by decide +kernel
theorem dX11_runScript_130 : decode cX11_runScript 130 = .ok (.putfield 51, 3) := by decide +kernel
theorem dX11_runScript_133 : decode cX11_runScript 133 = .ok (.iload_n 3, 1) := by decide +kernel
theorem dX11_runScript_134 : decode cX11_runScript 134 = .ok (.ifCond .le 7, 3) := by decide +kernel
theorem dX11_runScript_137 : decode cX11_runScript 137 = .ok (.iconst 0, 1) := by decide +kernel
theorem dX11_runScript_138 : decode cX11_runScript 138 = .ok (.goto 4, 3) := by decide +kernel
theorem dX11_runScript_141 : decode cX11_runScript 141 = .ok (.iload_n 3, 1) := by decide +kernel
theorem dX11_runScript_142 : decode cX11_runScript 142 = .ok (.ireturn, 1) := by decide +kernel
theorem dX11_runScript_143 : decode cX11_runScript 143 = .ok (.aload_n 0, 1) := by decide +kernel
theorem dX11_runScript_144 : decode cX11_runScript 144 = .ok (.aload_n 0, 1) := by decide +kernel
theorem dX11_runScript_145 : decode cX11_runScript 145 = .ok (.getfield 19, 3) := by decide +kernel
theorem dX11_runScript_148 : decode cX11_runScript 148 = .ok (.invokevirtual 76, 3) := by decide +kernel
theorem dX11_runScript_151 : decode cX11_runScript 151 = .ok (.aload_n 0, 1) := by decide +kernel
theorem dX11_runScript_152 : decode cX11_runScript 152 = .ok (.getfield 210, 3) := by decide +kernel
theorem dX11_runScript_155 : decode cX11_runScript 155 = .ok (.ireturn, 1) := by decide +kernel
set_option maxRecDepth 20000 in
theorem ggX11_errorPosition_X11_fails : GoodIn wsX11_errorPosition wsX11_fails := goodIn_r _ [6, 7, 8, 9, 10, 11, 12, 13, 14, 15, 16, 17, 18, 19, 20, 21, 22, 23, 24, 25, 26, 27, 28, 29] (by decide +kernel) (by decide +kernel)
set_option maxRecDepth 20000 in
theorem gX11_errorPosition_X11_fails : GoodIn wsX11_errorPosition (wsV RX11 73 RX11 yX11_fails wsX11_fails) := goodIn_app (goodIn_of _ (by decide +kernel)) ggX11_errorPosition_X11_fails
theorem dX11_errorPosition_0 : decode cX11_errorPosition 0 = .ok (.aload_n 0, 1) := by decide +kernel
theorem dX11_errorPosition_1 : decode cX11_errorPosition 1 = .ok (.aload_n 0, 1) := by decide +kernel
theorem dX11_errorPosition_2 : decode cX11_errorPosition 2 = .ok (.getfield 25, 3) := by decide +kernel
theorem dX11_errorPosition_5 : decode cX11_errorPosition 5 = .ok (.ifCond .ge 7, 3) := by decide +kernel
theorem dX11_errorPosition_8 : decode cX11_errorPosition 8 = .ok (.iconst 1, 1) := by decide +kernel
theorem dX11_errorPosition_9 : decode cX11_errorPosition 9 = .ok (.goto 4, 3) := by decide +kernel
theorem dX11_errorPosition_12 : decode cX11_errorPosition 12 = .ok (.iconst 0, 1) := by decide +kernel
theorem dX11_errorPosition_13 : decode cX11_errorPosition 13 = .ok (.invokevirtual 73, 3) := by decide +kernel
theorem dX11_errorPosition_16 : decode cX11_errorPosition 16 = .ok (.ifCond .eq 7, 3) := by decide +kernel
theorem dX11_errorPosition_19 : decode cX11_errorPosition 19 = .ok (.iconst 0, 1) := by decide +kernel
theorem dX11_errorPosition_20 : decode cX11_errorPosition 20 = .ok (.goto 7, 3) := by decide +kernel
theorem dX11_errorPosition_23 : decode cX11_errorPosition 23 = .ok (.aload_n 0, 1) := by decide +kernel
theorem dX11_errorPosition_24 : decode cX11_errorPosition 24 = .ok (.getfield 25, 3) := by decide +kernel
theorem dX11_errorPosition_27 : decode cX11_errorPosition 27 = .ok (.ireturn, 1) := by decide +kernel
set_option maxRecDepth 20000 in
theorem ggX11_failedCommand_X11_fails : GoodIn wsX11_failedCommand wsX11_fails := goodIn_r _ [6, 7, 8, 9, 10, 11, 12, 13, 14, 15, 16, 17, 18, 19, 20, 21, 22, 23, 24, 25, 26, 27, 28, 29] (by decide +kernel) (by decide +kernel)
set_option maxRecDepth 20000 in
theorem gX11_failedCommand_X11_fails : GoodIn wsX11_failedCommand (wsV RX11 73 RX11 yX11_fails wsX11_fails) := goodIn_app (goodIn_of _ (by decide +kernel)) ggX11_failedCommand_X11_fails
theorem dX11_failedCommand_0 : decode cX11_failedCommand 0 = .ok (.aload_n 0, 1) := by decide +kernel
theorem dX11_failedCommand_1 : decode cX11_failedCommand 1 = .ok (.aload_n 0, 1) := by decide +kernel
theorem dX11_failedCommand_2 : decode cX11_failedCommand 2 = .ok (.getfield 29, 3) := by decide +kernel
theorem dX11_failedCommand_5 : decode cX11_failedCommand 5 = .ok (.ifCond .ge 7, 3) := by decide +kernel
theorem dX11_failedCommand_8 : decode cX11_failedCommand 8 = .ok (.iconst 1, 1) := by decide +kernel
theorem dX11_failedCommand_9 : decode cX11_failedCommand 9 = .ok (.goto 4, 3) := by decide +kernel
theorem dX11_failedCommand_12 : decode cX11_failedCommand 12 = .ok (.iconst 0, 1) := by decide +kernel
theorem dX11_failedCommand_13 : decode cX11_failedCommand 13 = .ok (.invokevirtual 73, 3) := by decide +kernel
theorem dX11_failedCommand_16 : decode cX11_failedCommand 16 = .ok (.ifCond .eq 7, 3) := by decide +kernel
theorem dX11_failedCommand_19 : decode cX11_failedCommand 19 = .ok (.iconst 0, 1) := by decide +kernel
theorem dX11_failedCommand_20 : decode cX11_failedCommand 20 = .ok (.goto 7, 3) := by decide +kernel
theorem dX11_failedCommand_23 : decode cX11_failedCommand 23 = .ok (.aload_n 0, 1) := by decide +kernel
theorem dX11_failedCommand_24 : decode cX11_failedCommand 24 = .ok (.getfield 29, 3) := by decide +kernel
theorem dX11_failedCommand_27 : decode cX11_failedCommand 27 = .ok (.ireturn, 1) := by decide +kernel
set_option maxRecDepth 20000 in
theorem ggX11_undo_X11_fails : GoodIn wsX11_undo wsX11_fails := goodIn_r _ [8, 9, 13, 14, 15, 16, 17, 18, 19, 20, 21, 22, 23, 24, 25, 26, 27, 28, 29, 30, 31, 32, 33, 34] (by decide +kernel) (by decide +kernel)
set_option maxRecDepth 20000 in
theorem gX11_undo_X11_fails : GoodIn wsX11_undo (wsV RX11 73 RX11 yX11_fails wsX11_fails) := goodIn_app (goodIn_of _ (by decide +kernel)) ggX11_undo_X11_fails
set_option maxRecDepth 20000 in
theorem ggX11_undo_X11_copies : GoodIn wsX11_undo wsX11_copies := goodIn_ca (goodIn_r _ [12] (by decide +kernel) (by decide +kernel)) (goodIn_sub (fun _ h => List.mem_cons_of_mem _ (List.mem_append_right _ h)) (by decide +kernel))
set_option maxRecDepth 20000 in
theorem gX11_undo_X11_copies : GoodIn wsX11_undo (va_wsS RX11 61 yX11_copies wsX11_copies) := goodIn_app (goodIn_of _ (by decide +kernel)) ggX11_undo_X11_copies
theorem dX11_undo_0 : decode cX11_undo 0 = .ok (.aload_n 0, 1) := by decide +kernel
theorem dX11_undo_1 : decode cX11_undo 1 = .ok (.aload_n 0, 1) := by decide +kernel
theorem dX11_undo_2 : decode cX11_undo 2 = .ok (.getfield 58, 3) := by decide +kernel
theorem dX11_undo_5 : decode cX11_undo 5 = .ok (.ifCond .ne 7, 3) := by decide +kernel
theorem dX11_undo_8 : decode cX11_undo 8 = .ok (.iconst 1, 1) := by decide +kernel
theorem dX11_undo_9 : decode cX11_undo 9 = .ok (.goto 4, 3) := by decide +kernel
theorem dX11_undo_12 : decode cX11_undo 12 = .ok (.iconst 0, 1) := by decide +kernel
theorem dX11_undo_13 : decode cX11_undo 13 = .ok (.invokevirtual 73, 3) := by decide +kernel
theorem dX11_undo_16 : decode cX11_undo 16 = .ok (.ifCond .eq 5, 3) := by decide +kernel
theorem dX11_undo_19 : decode cX11_undo 19 = .ok (.iconst 0, 1) := by decide +kernel
theorem dX11_undo_20 : decode cX11_undo 20 = .ok (.ireturn, 1) := by decide +kernel
theorem dX11_undo_21 : decode cX11_undo 21 = .ok (.aload_n 0, 1) := by decide +kernel
theorem dX11_undo_22 : decode cX11_undo 22 = .ok (.dup, 1) := by decide +kernel
theorem dX11_undo_23 : decode cX11_undo 23 = .ok (.getfield 58, 3) := by decide +kernel
theorem dX11_undo_26 : decode cX11_undo 26 = .ok (.iconst 1, 1) := by decide +kernel
theorem dX11_undo_27 : decode cX11_undo 27 = .ok (.isub, 1) := by decide +kernel
theorem dX11_undo_28 : decode cX11_undo 28 = .ok (.putfield 58, 3) := by decide +kernel
theorem dX11_undo_31 : decode cX11_undo 31 = .ok (.aload_n 0, 1) := by decide +kernel
theorem dX11_undo_32 : decode cX11_undo 32 = .ok (.getfield 13, 3) := by decide +kernel
theorem dX11_undo_35 : decode cX11_undo 35 = .ok (.sipush 238, 3) := by decide +kernel
theorem dX11_undo_38 : decode cX11_undo 38 = .ok (.aload_n 0, 1) := by decide +kernel
theorem dX11_undo_39 : decode cX11_undo 39 = .ok (.getfield 58, 3) := by decide +kernel
theorem dX11_undo_42 : decode cX11_undo 42 = .ok (.imul, 1) := by decide +kernel
theorem dX11_undo_43 : decode cX11_undo 43 = .ok (.aload_n 0, 1) := by decide +kernel
theorem dX11_undo_44 : decode cX11_undo 44 = .ok (.getfield 7, 3) := by decide +kernel
theorem dX11_undo_47 : decode cX11_undo 47 = .ok (.iconst 0, 1) := by decide +kernel
theorem dX11_undo_48 : decode cX11_undo 48 = .ok (.invokestatic 61, 3) := by decide +kernel
theorem dX11_undo_51 : decode cX11_undo 51 = .ok (.aload_n 0, 1) := by decide +kernel
theorem dX11_undo_52 : decode cX11_undo 52 = .ok (.getfield 58, 3) := by decide +kernel
theorem dX11_undo_55 : decode cX11_undo 55 = .ok (.ireturn, 1) := by decide +kernel
set_option maxRecDepth 20000 in
theorem ggX11_save_X11_copies : GoodIn wsX11_save wsX11_copies := goodIn_ca (goodIn_r _ [8] (by decide +kernel) (by decide +kernel)) (goodIn_sub (fun _ h => List.mem_cons_of_mem _ (List.mem_append_right _ h)) (by decide +kernel))
set_option maxRecDepth 20000 in
theorem gX11_save_X11_copies : GoodIn wsX11_save (va_wsS RX11 61 yX11_copies wsX11_copies) := goodIn_app (goodIn_of _ (by decide +kernel)) ggX11_save_X11_copies
theorem dX11_save_0 : decode cX11_save 0 = .ok (.aload_n 0, 1) := by decide +kernel
theorem dX11_save_1 : decode cX11_save 1 = .ok (.iconst 0, 1) := by decide +kernel
theorem dX11_save_2 : decode cX11_save 2 = .ok (.putfield 51, 3) := by decide +kernel
theorem dX11_save_5 : decode cX11_save 5 = .ok (.aload_n 0, 1) := by decide +kernel
theorem dX11_save_6 : decode cX11_save 6 = .ok (.iconst 1, 1) := by decide +kernel
theorem dX11_save_7 : decode cX11_save 7 = .ok (.putfield 288, 3) := by decide +kernel
theorem dX11_save_10 : decode cX11_save 10 = .ok (.aload_n 0, 1) := by decide +kernel
theorem dX11_save_11 : decode cX11_save 11 = .ok (.getfield 7, 3) := by decide +kernel
theorem dX11_save_14 : decode cX11_save 14 = .ok (.iconst 0, 1) := by decide +kernel
theorem dX11_save_15 : decode cX11_save 15 = .ok (.aload_n 0, 1) := by decide +kernel
theorem dX11_save_16 : decode cX11_save 16 = .ok (.getfield 16, 3) := by decide +kernel
theorem dX11_save_19 : decode cX11_save 19 = .ok (.iconst 0, 1) := by decide +kernel
theorem dX11_save_20 : decode cX11_save 20 = .ok (.invokestatic 61, 3) := by decide +kernel
theorem dX11_save_23 : decode cX11_save 23 = .ok (.aload_n 0, 1) := by decide +kernel
theorem dX11_save_24 : decode cX11_save 24 = .ok (.getfield 7, 3) := by decide +kernel
theorem dX11_save_27 : decode cX11_save 27 = .ok (.iconst 0, 1) := by decide +kernel
theorem dX11_save_28 : decode cX11_save 28 = .ok (.iaload, 1) := by decide +kernel
theorem dX11_save_29 : decode cX11_save 29 = .ok (.ireturn, 1) := by decide +kernel
set_option maxRecDepth 20000 in
theorem ggX11_restore_X11_fails : GoodIn wsX11_restore wsX11_fails := goodIn_r _ [9, 10, 14, 15, 16, 17, 18, 19, 20, 21, 22, 23, 24, 25, 26, 27, 28, 29, 30, 31, 32, 33, 34, 35] (by decide +kernel) (by decide +kernel)
set_option maxRecDepth 20000 in
theorem gX11_restore_X11_fails : GoodIn wsX11_restore (wsV RX11 73 RX11 yX11_fails wsX11_fails) := goodIn_app (goodIn_of _ (by decide +kernel)) ggX11_restore_X11_fails
set_option maxRecDepth 20000 in
theorem ggX11_restore_X11_copies : GoodIn wsX11_restore wsX11_copies := goodIn_ca (goodIn_r _ [13] (by decide +kernel) (by decide +kernel)) (goodIn_sub (fun _ h => List.mem_cons_of_mem _ (List.mem_append_right _ h)) (by decide +kernel))
set_option maxRecDepth 20000 in
theorem gX11_restore_X11_copies : GoodIn wsX11_restore (va_wsS RX11 61 yX11_copies wsX11_copies) := goodIn_app (goodIn_of _ (by decide +kernel)) ggX11_restore_X11_copies
theorem dX11_restore_0 : decode cX11_restore 0 = .ok (.aload_n 0, 1) := by decide +kernel
theorem dX11_restore_1 : decode cX11_restore 1 = .ok (.aload_n 0, 1) := by decide +kernel
theorem dX11_restore_2 : decode cX11_restore 2 = .ok (.getfield 288, 3) := by decide +kernel
theorem dX11_restore_5 : decode cX11_restore 5 = .ok (.ifCond .eq 7, 3) := by decide +kernel
theorem dX11_restore_8 : decode cX11_restore 8 = .ok (.iconst 0, 1) := by decide +kernel
theorem dX11_restore_9 : decode cX11_restore 9 = .ok (.goto 4, 3) := by decide +kernel
theorem dX11_restore_12 : decode cX11_restore 12 = .ok (.iconst 1, 1) := by decide +kernel
theorem dX11_restore_13 : decode cX11_restore 13 = .ok (.invokevirtual 73, 3) := by decide +kernel
theorem dX11_restore_16 : decode cX11_restore 16 = .ok (.ifCond .eq 5, 3) := by decide +kernel
theorem dX11_restore_19 : decode cX11_restore 19 = .ok (.iconst 0, 1) := by decide +kernel
theorem dX11_restore_20 : decode cX11_restore 20 = .ok (.ireturn, 1) := by decide +kernel
theorem dX11_restore_21 : decode cX11_restore 21 = .ok (.aload_n 0, 1) := by decide +kernel
theorem dX11_restore_22 : decode cX11_restore 22 = .ok (.getfield 16, 3) := by decide +kernel
theorem dX11_restore_25 : decode cX11_restore 25 = .ok (.iconst 0, 1) := by decide +kernel
theorem dX11_restore_26 : decode cX11_restore 26 = .ok (.aload_n 0, 1) := by decide +kernel
theorem dX11_restore_27 : decode cX11_restore 27 = .ok (.getfield 7, 3) := by decide +kernel
theorem dX11_restore_30 : decode cX11_restore 30 = .ok (.iconst 0, 1) := by decide +kernel
theorem dX11_restore_31 : decode cX11_restore 31 = .ok (.invokestatic 61, 3) := by decide +kernel
theorem dX11_restore_34 : decode cX11_restore 34 = .ok (.aload_n 0, 1) := by decide +kernel
theorem dX11_restore_35 : decode cX11_restore 35 = .ok (.iconst 0, 1) := by decide +kernel
theorem dX11_restore_36 : decode cX11_restore 36 = .ok (.putfield 58, 3) := by decide +kernel
theorem dX11_restore_39 : decode cX11_restore 39 = .ok (.aload_n 0, 1) := by decide +kernel
theorem dX11_restore_40 : decode cX11_restore 40 = .ok (.getfield 7, 3) := by decide +kernel
theorem dX11_restore_43 : decode cX11_restore 43 = .ok (.iconst 0, 1) := by decide +kernel
theorem dX11_restore_44 : decode cX11_restore 44 = .ok (.iaload, 1) := by decide +kernel
theorem dX11_restore_45 : decode cX11_restore 45 = .ok (.ireturn, 1) := by decide +kernel
