theorem dX1_of_0 : decode cX1_of 0 = .ok (.dload_n 0, 1) := by decide +kernel
theorem dX1_of_1 : decode cX1_of 1 = .ok (.dconst 0, 1) := by decide +kernel
theorem dX1_of_2 : decode cX1_of 2 = .ok (.dcmp .l, 1) := by decide +kernel
theorem dX1_of_3 : decode cX1_of 3 = .ok (.ifCond .ne 5, 3) := by decide +kernel
theorem dX1_of_6 : decode cX1_of 6 = .ok (.lconst 0, 1) := by decide +kernel
theorem dX1_of_7 : decode cX1_of 7 = .ok (.lreturn, 1) := by decide +kernel
theorem dX1_of_8 : decode cX1_of 8 = .ok (.iload_n 2, 1) := by decide +kernel
theorem dX1_of_9 : decode cX1_of 9 = .ok (.i2l, 1) := by decide +kernel
theorem dX1_of_10 : decode cX1_of 10 = .ok (.lstore 4, 2) := by decide +kernel
theorem dX1_of_12 : decode cX1_of 12 = .ok (.dload_n 0, 1) := by decide +kernel
theorem dX1_of_13 : decode cX1_of 13 = .ok (.dstore 6, 2) := by decide +kernel
theorem dX1_of_15 : decode cX1_of 15 = .ok (.iconst 0, 1) := by decide +kernel
theorem dX1_of_16 : decode cX1_of 16 = .ok (.istore 8, 2) := by decide +kernel
theorem dX1_of_18 : decode cX1_of 18 = .ok (.iload 8, 2) := by decide +kernel
theorem dX1_of_20 : decode cX1_of 20 = .ok (.iload_n 2, 1) := by decide +kernel
theorem dX1_of_21 : decode cX1_of 21 = .ok (.if_icmp .ge 32, 3) := by decide +kernel
theorem dX1_of_24 : decode cX1_of 24 = .ok (.dload 6, 2) := by decide +kernel
theorem dX1_of_26 : decode cX1_of 26 = .ok (.ldc2_w 7, 3) := by decide +kernel
theorem dX1_of_29 : decode cX1_of 29 = .ok (.dcmp .l, 1) := by decide +kernel
theorem dX1_of_30 : decode cX1_of 30 = .ok (.ifCond .lt 23, 3) := by decide +kernel
theorem dX1_of_33 : decode cX1_of 33 = .ok (.dload 6, 2) := by decide +kernel
theorem dX1_of_35 : decode cX1_of 35 = .ok (.ldc2_w 7, 3) := by decide +kernel
theorem dX1_of_38 : decode cX1_of 38 = .ok (.ddiv, 1) := by decide +kernel
theorem dX1_of_39 : decode cX1_of 39 = .ok (.dstore 6, 2) := by decide +kernel
theorem dX1_of_41 : decode cX1_of 41 = .ok (.lload 4, 2) := by decide +kernel
theorem dX1_of_43 : decode cX1_of 43 = .ok (.lconst 1, 1) := by decide +kernel
theorem dX1_of_44 : decode cX1_of 44 = .ok (.ladd, 1) := by decide +kernel
theorem dX1_of_45 : decode cX1_of 45 = .ok (.lstore 4, 2) := by decide +kernel
theorem dX1_of_47 : decode cX1_of 47 = .ok (.iinc 8 1, 3) := by decide +kernel
theorem dX1_of_50 : decode cX1_of 50 = .ok (.goto (-32), 3) := by decide +kernel
theorem dX1_of_53 : decode cX1_of 53 = .ok (.iconst 0, 1) := by decide +kernel
theorem dX1_of_54 : decode cX1_of 54 = .ok (.istore 8, 2) := by decide +kernel
theorem dX1_of_56 : decode cX1_of 56 = .ok (.iload 8, 2) := by decide +kernel
theorem dX1_of_58 : decode cX1_of 58 = .ok (.iload_n 2, 1) := by decide +kernel
theorem dX1_of_59 : decode cX1_of 59 = .ok (.if_icmp .ge 30, 3) := by decide +kernel
theorem dX1_of_62 : decode cX1_of 62 = .ok (.dload 6, 2) := by decide +kernel
theorem dX1_of_64 : decode cX1_of 64 = .ok (.dconst 1, 1) := by decide +kernel
theorem dX1_of_65 : decode cX1_of 65 = .ok (.dcmp .g, 1) := by decide +kernel
theorem dX1_of_66 : decode cX1_of 66 = .ok (.ifCond .ge 23, 3) := by decide +kernel
theorem dX1_of_69 : decode cX1_of 69 = .ok (.dload 6, 2) := by decide +kernel
theorem dX1_of_71 : decode cX1_of 71 = .ok (.ldc2_w 7, 3) := by decide +kernel
theorem dX1_of_74 : decode cX1_of 74 = .ok (.dmul, 1) := by decide +kernel
theorem dX1_of_75 : decode cX1_of 75 = .ok (.dstore 6, 2) := by decide +kernel
theorem dX1_of_77 : decode cX1_of 77 = .ok (.lload 4, 2) := by decide +kernel
theorem dX1_of_79 : decode cX1_of 79 = .ok (.lconst 1, 1) := by decide +kernel
theorem dX1_of_80 : decode cX1_of 80 = .ok (.lsub, 1) := by decide +kernel
theorem dX1_of_81 : decode cX1_of 81 = .ok (.lstore 4, 2) := by decide +kernel
theorem dX1_of_83 : decode cX1_of 83 = .ok (.iinc 8 1, 3) := by decide +kernel
theorem dX1_of_86 : decode cX1_of 86 = .ok (.goto (-30), 3) := by decide +kernel
theorem dX1_of_89 : decode cX1_of 89 = .ok (.dload 6, 2) := by decide +kernel
theorem dX1_of_91 : decode cX1_of 91 = .ok (.dconst 1, 1) := by decide +kernel
theorem dX1_of_92 : decode cX1_of 92 = .ok (.dsub, 1) := by decide +kernel
theorem dX1_of_93 : decode cX1_of 93 = .ok (.lconst 1, 1) := by decide +kernel
theorem dX1_of_94 : decode cX1_of 94 = .ok (.iload_n 3, 1) := by decide +kernel
theorem dX1_of_95 : decode cX1_of 95 = .ok (.lshl, 1) := by decide +kernel
theorem dX1_of_96 : decode cX1_of 96 = .ok (.l2d, 1) := by decide +kernel
theorem dX1_of_97 : decode cX1_of 97 = .ok (.dmul, 1) := by decide +kernel
theorem dX1_of_98 : decode cX1_of 98 = .ok (.d2l, 1) := by decide +kernel
theorem dX1_of_99 : decode cX1_of 99 = .ok (.lstore 8, 2) := by decide +kernel
theorem dX1_of_101 : decode cX1_of 101 = .ok (.lload 4, 2) := by decide +kernel
theorem dX1_of_103 : decode cX1_of 103 = .ok (.iload_n 3, 1) := by decide +kernel
theorem dX1_of_104 : decode cX1_of 104 = .ok (.lshl, 1) := by decide +kernel
theorem dX1_of_105 : decode cX1_of 105 = .ok (.lload 8, 2) := by decide +kernel
theorem dX1_of_107 : decode cX1_of 107 = .ok (.ladd, 1) := by decide +kernel
theorem dX1_of_108 : decode cX1_of 108 = .ok (.lreturn, 1) := by decide +kernel
theorem dX2_init_0 : decode cX2_init 0 = .ok (.aload_n 0, 1) := by decide +kernel
theorem dX2_init_1 : decode cX2_init 1 = .ok (.invokespecial 3, 3) := by decide +kernel
theorem dX2_init_4 : decode cX2_init 4 = .ok (.aload_n 0, 1) := by decide +kernel
theorem dX2_init_5 : decode cX2_init 5 = .ok (.iconst 5, 1) := by decide +kernel
theorem dX2_init_6 : decode cX2_init 6 = .ok (.putfield 9, 3) := by decide +kernel
theorem dX2_init_9 : decode cX2_init 9 = .ok (.aload_n 0, 1) := by decide +kernel
theorem dX2_init_10 : decode cX2_init 10 = .ok (.bipush 11, 2) := by decide +kernel
theorem dX2_init_12 : decode cX2_init 12 = .ok (.newarray .int, 2) := by decide +kernel
theorem dX2_init_14 : decode cX2_init 14 = .ok (.putfield 15, 3) := by decide +kernel
theorem dX2_init_17 : decode cX2_init 17 = .ok (.aload_n 0, 1) := by decide +kernel
theorem dX2_init_18 : decode cX2_init 18 = .ok (.bipush 11, 2) := by decide +kernel
theorem dX2_init_20 : decode cX2_init 20 = .ok (.newarray .int, 2) := by decide +kernel
theorem dX2_init_22 : decode cX2_init 22 = .ok (.putfield 19, 3) := by decide +kernel
theorem dX2_init_25 : decode cX2_init 25 = .ok (.aload_n 0, 1) := by decide +kernel
theorem dX2_init_26 : decode cX2_init 26 = .ok (.bipush 60, 2) := by decide +kernel
theorem dX2_init_28 : decode cX2_init 28 = .ok (.newarray .int, 2) := by decide +kernel
theorem dX2_init_30 : decode cX2_init 30 = .ok (.putfield 22, 3) := by decide +kernel
theorem dX2_init_33 : decode cX2_init 33 = .ok (.aload_n 0, 1) := by decide +kernel
theorem dX2_init_34 : decode cX2_init 34 = .ok (.bipush 60, 2) := by decide +kernel
theorem dX2_init_36 : decode cX2_init 36 = .ok (.newarray .int, 2) := by decide +kernel
theorem dX2_init_38 : decode cX2_init 38 = .ok (.putfield 25, 3) := by decide +kernel
theorem dX2_init_41 : decode cX2_init 41 = .ok (.aload_n 0, 1) := by decide +kernel
theorem dX2_init_42 : decode cX2_init 42 = .ok (.bipush 60, 2) := by decide +kernel
theorem dX2_init_44 : decode cX2_init 44 = .ok (.newarray .int, 2) := by decide +kernel
theorem dX2_init_46 : decode cX2_init 46 = .ok (.putfield 28, 3) := by decide +kernel
theorem dX2_init_49 : decode cX2_init 49 = .ok (.return_, 1) := by decide +kernel
theorem dX2_copyFrom_0 : decode cX2_copyFrom 0 = .ok (.aload_n 0, 1) := by decide +kernel
theorem dX2_copyFrom_1 : decode cX2_copyFrom 1 = .ok (.aload_n 1, 1) := by decide +kernel
theorem dX2_copyFrom_2 : decode cX2_copyFrom 2 = .ok (.getfield 9, 3) := by decide +kernel
theorem dX2_copyFrom_5 : decode cX2_copyFrom 5 = .ok (.putfield 9, 3) := by decide +kernel
theorem dX2_copyFrom_8 : decode cX2_copyFrom 8 = .ok (.aload_n 1, 1) := by decide +kernel
theorem dX2_copyFrom_9 : decode cX2_copyFrom 9 = .ok (.getfield 15, 3) := by decide +kernel
theorem dX2_copyFrom_12 : decode cX2_copyFrom 12 = .ok (.iconst 0, 1) := by decide +kernel
theorem dX2_copyFrom_13 : decode cX2_copyFrom 13 = .ok (.aload_n 0, 1) := by decide +kernel
theorem dX2_copyFrom_14 : decode cX2_copyFrom 14 = .ok (.getfield 15, 3) := by decide +kernel
theorem dX2_copyFrom_17 : decode cX2_copyFrom 17 = .ok (.iconst 0, 1) := by decide +kernel
theorem dX2_copyFrom_18 : decode cX2_copyFrom 18 = .ok (.bipush 11, 2) := by decide +kernel
theorem dX2_copyFrom_20 : decode cX2_copyFrom 20 = .ok (.invokestatic 31, 3) := by decide +kernel
theorem dX2_copyFrom_23 : decode cX2_copyFrom 23 = .ok (.aload_n 1, 1) := by decide +kernel
theorem dX2_copyFrom_24 : decode cX2_copyFrom 24 = .ok (.getfield 19, 3) := by decide +kernel
theorem dX2_copyFrom_27 : decode cX2_copyFrom 27 = .ok (.iconst 0, 1) := by decide +kernel
theorem dX2_copyFrom_28 : decode cX2_copyFrom 28 = .ok (.aload_n 0, 1) := by decide +kernel
theorem dX2_copyFrom_29 : decode cX2_copyFrom 29 = .ok (.getfield 19, 3) := by decide +kernel
theorem dX2_copyFrom_32 : decode cX2_copyFrom 32 = .ok (.iconst 0, 1) := by decide +kernel
theorem dX2_copyFrom_33 : decode cX2_copyFrom 33 = .ok (.bipush 11, 2) := by decide +kernel
theorem dX2_copyFrom_35 : decode cX2_copyFrom 35 = .ok (.invokestatic 31, 3) := by decide +kernel
theorem dX2_copyFrom_38 : decode cX2_copyFrom 38 = .ok (.aload_n 0, 1) := by decide +kernel
theorem dX2_copyFrom_39 : decode cX2_copyFrom 39 = .ok (.aload_n 1, 1) := by decide +kernel
theorem dX2_copyFrom_40 : decode cX2_copyFrom 40 = .ok (.getfield 37, 3) := by decide +kernel
theorem dX2_copyFrom_43 : decode cX2_copyFrom 43 = .ok (.putfield 37, 3) := by decide +kernel
theorem dX2_copyFrom_46 : decode cX2_copyFrom 46 = .ok (.aload_n 1, 1) := by decide +kernel
theorem dX2_copyFrom_47 : decode cX2_copyFrom 47 = .ok (.getfield 22, 3) := by decide +kernel
theorem dX2_copyFrom_50 : decode cX2_copyFrom 50 = .ok (.iconst 0, 1) := by decide +kernel
theorem dX2_copyFrom_51 : decode cX2_copyFrom 51 = .ok (.aload_n 0, 1) := by decide +kernel
theorem dX2_copyFrom_52 : decode cX2_copyFrom 52 = .ok (.getfield 22, 3) := by decide +kernel
theorem dX2_copyFrom_55 : decode cX2_copyFrom 55 = .ok (.iconst 0, 1) := by decide +kernel
theorem dX2_copyFrom_56 : decode cX2_copyFrom 56 = .ok (.bipush 60, 2) := by decide +kernel
theorem dX2_copyFrom_58 : decode cX2_copyFrom 58 = .ok (.invokestatic 31, 3) := by decide +kernel
theorem dX2_copyFrom_61 : decode cX2_copyFrom 61 = .ok (.aload_n 1, 1) := by decide +kernel
theorem dX2_copyFrom_62 : decode cX2_copyFrom 62 = .ok (.getfield 25, 3) := by decide +kernel
theorem dX2_copyFrom_65 : decode cX2_copyFrom 65 = .ok (.iconst 0, 1) := by decide +kernel
theorem dX2_copyFrom_66 : decode cX2_copyFrom 66 = .ok (.aload_n 0, 1) := by decide +kernel
theorem dX2_copyFrom_67 : decode cX2_copyFrom 67 = .ok (.getfield 25, 3) := by decide +kernel
theorem dX2_copyFrom_70 : decode cX2_copyFrom 70 = .ok (.iconst 0, 1) := by decide +kernel
theorem dX2_copyFrom_71 : decode cX2_copyFrom 71 = .ok (.bipush 60, 2) := by decide +kernel
theorem dX2_copyFrom_73 : decode cX2_copyFrom 73 = .ok (.invokestatic 31, 3) := by decide +kernel
theorem dX2_copyFrom_76 : decode cX2_copyFrom 76 = .ok (.aload_n 1, 1) := by decide +kernel
theorem dX2_copyFrom_77 : decode cX2_copyFrom 77 = .ok (.getfield 28, 3) := by decide +kernel
theorem dX2_copyFrom_80 : decode cX2_copyFrom 80 = .ok (.iconst 0, 1) := by decide +kernel
theorem dX2_copyFrom_81 : decode cX2_copyFrom 81 = .ok (.aload_n 0, 1) := by decide +kernel
theorem dX2_copyFrom_82 : decode cX2_copyFrom 82 = .ok (.getfield 28, 3) := by decide +kernel
theorem dX2_copyFrom_85 : decode cX2_copyFrom 85 = .ok (.iconst 0, 1) := by decide +kernel
theorem dX2_copyFrom_86 : decode cX2_copyFrom 86 = .ok (.bipush 60, 2) := by decide +kernel
theorem dX2_copyFrom_88 : decode cX2_copyFrom 88 = .ok (.invokestatic 31, 3) := by decide +kernel
theorem dX2_copyFrom_91 : decode cX2_copyFrom 91 = .ok (.return_, 1) := by decide +kernel
theorem dX2_openAccount_0 : decode cX2_openAccount 0 = .ok (.aload_n 0, 1) := by decide +kernel
theorem dX2_openAccount_1 : decode cX2_openAccount 1 = .ok (.dup, 1) := by decide +kernel
theorem dX2_openAccount_2 : decode cX2_openAccount 2 = .ok (.getfield 9, 3) := by decide +kernel
theorem dX2_openAccount_5 : decode cX2_openAccount 5 = .ok (.iconst 1, 1) := by decide +kernel
theorem dX2_openAccount_6 : decode cX2_openAccount 6 = .ok (.iadd, 1) := by decide +kernel
theorem dX2_openAccount_7 : decode cX2_openAccount 7 = .ok (.putfield 9, 3) := by decide +kernel
theorem dX2_openAccount_10 : decode cX2_openAccount 10 = .ok (.return_, 1) := by decide +kernel
theorem dX2_has_0 : decode cX2_has 0 = .ok (.iload_n 1, 1) := by decide +kernel
theorem dX2_has_1 : decode cX2_has 1 = .ok (.ifCond .lt 15, 3) := by decide +kernel
theorem dX2_has_4 : decode cX2_has 4 = .ok (.iload_n 1, 1) := by decide +kernel
theorem dX2_has_5 : decode cX2_has 5 = .ok (.aload_n 0, 1) := by decide +kernel
theorem dX2_has_6 : decode cX2_has 6 = .ok (.getfield 9, 3) := by decide +kernel
theorem dX2_has_9 : decode cX2_has 9 = .ok (.if_icmp .ge 7, 3) := by decide +kernel
theorem dX2_has_12 : decode cX2_has 12 = .ok (.iconst 1, 1) := by decide +kernel
theorem dX2_has_13 : decode cX2_has 13 = .ok (.goto 4, 3) := by decide +kernel
theorem dX2_has_16 : decode cX2_has 16 = .ok (.iconst 0, 1) := by decide +kernel
theorem dX2_has_17 : decode cX2_has 17 = .ok (.ireturn, 1) := by decide +kernel
theorem dX2_hasRoomFor_0 : decode cX2_hasRoomFor 0 = .ok (.aload_n 0, 1) := by decide +kernel
theorem dX2_hasRoomFor_1 : decode cX2_hasRoomFor 1 = .ok (.getfield 37, 3) := by decide +kernel
theorem dX2_hasRoomFor_4 : decode cX2_hasRoomFor 4 = .ok (.iload_n 1, 1) := by decide +kernel
theorem dX2_hasRoomFor_5 : decode cX2_hasRoomFor 5 = .ok (.iadd, 1) := by decide +kernel
theorem dX2_hasRoomFor_6 : decode cX2_hasRoomFor 6 = .ok (.bipush 60, 2) := by decide +kernel
theorem dX2_hasRoomFor_8 : decode cX2_hasRoomFor 8 = .ok (.if_icmp .gt 7, 3) := by decide +kernel
theorem dX2_hasRoomFor_11 : decode cX2_hasRoomFor 11 = .ok (.iconst 1, 1) := by decide +kernel
theorem dX2_hasRoomFor_12 : decode cX2_hasRoomFor 12 = .ok (.goto 4, 3) := by decide +kernel
theorem dX2_hasRoomFor_15 : decode cX2_hasRoomFor 15 = .ok (.iconst 0, 1) := by decide +kernel
theorem dX2_hasRoomFor_16 : decode cX2_hasRoomFor 16 = .ok (.ireturn, 1) := by decide +kernel
theorem dX2_overdraws_0 : decode cX2_overdraws 0 = .ok (.iload_n 1, 1) := by decide +kernel
theorem dX2_overdraws_1 : decode cX2_overdraws 1 = .ok (.ifCond .eq 8, 3) := by decide +kernel
theorem dX2_overdraws_4 : decode cX2_overdraws 4 = .ok (.iload_n 1, 1) := by decide +kernel
theorem dX2_overdraws_5 : decode cX2_overdraws 5 = .ok (.iconst 1, 1) := by decide +kernel
theorem dX2_overdraws_6 : decode cX2_overdraws 6 = .ok (.if_icmp .ne 17, 3) := by decide +kernel
theorem dX2_overdraws_9 : decode cX2_overdraws 9 = .ok (.aload_n 0, 1) := by decide +kernel
theorem dX2_overdraws_10 : decode cX2_overdraws 10 = .ok (.getfield 15, 3) := by decide +kernel
theorem dX2_overdraws_13 : decode cX2_overdraws 13 = .ok (.iload_n 1, 1) := by decide +kernel
theorem dX2_overdraws_14 : decode cX2_overdraws 14 = .ok (.iaload, 1) := by decide +kernel
theorem dX2_overdraws_15 : decode cX2_overdraws 15 = .ok (.iload_n 2, 1) := by decide +kernel
theorem dX2_overdraws_16 : decode cX2_overdraws 16 = .ok (.if_icmp .ge 7, 3) := by decide +kernel
theorem dX2_overdraws_19 : decode cX2_overdraws 19 = .ok (.iconst 1, 1) := by decide +kernel
theorem dX2_overdraws_20 : decode cX2_overdraws 20 = .ok (.goto 4, 3) := by decide +kernel
theorem dX2_overdraws_23 : decode cX2_overdraws 23 = .ok (.iconst 0, 1) := by decide +kernel
theorem dX2_overdraws_24 : decode cX2_overdraws 24 = .ok (.ireturn, 1) := by decide +kernel
theorem dX2_book_0 : decode cX2_book 0 = .ok (.aload_n 0, 1) := by decide +kernel
theorem dX2_book_1 : decode cX2_book 1 = .ok (.getfield 37, 3) := by decide +kernel
theorem dX2_book_4 : decode cX2_book 4 = .ok (.istore 4, 2) := by decide +kernel
theorem dX2_book_6 : decode cX2_book 6 = .ok (.aload_n 0, 1) := by decide +kernel
theorem dX2_book_7 : decode cX2_book 7 = .ok (.getfield 22, 3) := by decide +kernel
theorem dX2_book_10 : decode cX2_book 10 = .ok (.iload 4, 2) := by decide +kernel
theorem dX2_book_12 : decode cX2_book 12 = .ok (.iload_n 1, 1) := by decide +kernel
theorem dX2_book_13 : decode cX2_book 13 = .ok (.iastore, 1) := by decide +kernel
theorem dX2_book_14 : decode cX2_book 14 = .ok (.aload_n 0, 1) := by decide +kernel
theorem dX2_book_15 : decode cX2_book 15 = .ok (.getfield 25, 3) := by decide +kernel
theorem dX2_book_18 : decode cX2_book 18 = .ok (.iload 4, 2) := by decide +kernel
theorem dX2_book_20 : decode cX2_book 20 = .ok (.iload_n 2, 1) := by decide +kernel
theorem dX2_book_21 : decode cX2_book 21 = .ok (.iastore, 1) := by decide +kernel
theorem dX2_book_22 : decode cX2_book 22 = .ok (.aload_n 0, 1) := by decide +kernel
theorem dX2_book_23 : decode cX2_book 23 = .ok (.getfield 28, 3) := by decide +kernel
theorem dX2_book_26 : decode cX2_book 26 = .ok (.iload 4, 2) := by decide +kernel
theorem dX2_book_28 : decode cX2_book 28 = .ok (.iload_n 3, 1) := by decide +kernel
theorem dX2_book_29 : decode cX2_book 29 = .ok (.iastore, 1) := by decide +kernel
theorem dX2_book_30 : decode cX2_book 30 = .ok (.aload_n 0, 1) := by decide +kernel
theorem dX2_book_31 : decode cX2_book 31 = .ok (.dup, 1) := by decide +kernel
theorem dX2_book_32 : decode cX2_book 32 = .ok (.getfield 37, 3) := by decide +kernel
theorem dX2_book_35 : decode cX2_book 35 = .ok (.iconst 1, 1) := by decide +kernel
theorem dX2_book_36 : decode cX2_book 36 = .ok (.iadd, 1) := by decide +kernel
theorem dX2_book_37 : decode cX2_book 37 = .ok (.putfield 37, 3) := by decide +kernel
theorem dX2_book_40 : decode cX2_book 40 = .ok (.aload_n 0, 1) := by decide +kernel
theorem dX2_book_41 : decode cX2_book 41 = .ok (.getfield 15, 3) := by decide +kernel
theorem dX2_book_44 : decode cX2_book 44 = .ok (.iload_n 1, 1) := by decide +kernel
theorem dX2_book_45 : decode cX2_book 45 = .ok (.dup2, 1) := by decide +kernel
theorem dX2_book_46 : decode cX2_book 46 = .ok (.iaload, 1) := by decide +kernel
theorem dX2_book_47 : decode cX2_book 47 = .ok (.iload_n 3, 1) := by decide +kernel
theorem dX2_book_48 : decode cX2_book 48 = .ok (.iadd, 1) := by decide +kernel
theorem dX2_book_49 : decode cX2_book 49 = .ok (.iastore, 1) := by decide +kernel
theorem dX2_book_50 : decode cX2_book 50 = .ok (.aload_n 0, 1) := by decide +kernel
theorem dX2_book_51 : decode cX2_book 51 = .ok (.getfield 15, 3) := by decide +kernel
theorem dX2_book_54 : decode cX2_book 54 = .ok (.iload_n 2, 1) := by decide +kernel
theorem dX2_book_55 : decode cX2_book 55 = .ok (.dup2, 1) := by decide +kernel
theorem dX2_book_56 : decode cX2_book 56 = .ok (.iaload, 1) := by decide +kernel
theorem dX2_book_57 : decode cX2_book 57 = .ok (.iload_n 3, 1) := by decide +kernel
theorem dX2_book_58 : decode cX2_book 58 = .ok (.isub, 1) := by decide +kernel
theorem dX2_book_59 : decode cX2_book 59 = .ok (.iastore, 1) := by decide +kernel
theorem dX2_book_60 : decode cX2_book 60 = .ok (.iload 4, 2) := by decide +kernel
theorem dX2_book_62 : decode cX2_book 62 = .ok (.ireturn, 1) := by decide +kernel
theorem dX2_close_0 : decode cX2_close 0 = .ok (.aload_n 0, 1) := by decide +kernel
theorem dX2_close_1 : decode cX2_close 1 = .ok (.getfield 37, 3) := by decide +kernel
theorem dX2_close_4 : decode cX2_close 4 = .ok (.istore_n 1, 1) := by decide +kernel
theorem dX2_close_5 : decode cX2_close 5 = .ok (.aload_n 0, 1) := by decide +kernel
theorem dX2_close_6 : decode cX2_close 6 = .ok (.iconst 0, 1) := by decide +kernel
theorem dX2_close_7 : decode cX2_close 7 = .ok (.putfield 37, 3) := by decide +kernel
theorem dX2_close_10 : decode cX2_close 10 = .ok (.aload_n 0, 1) := by decide +kernel
theorem dX2_close_11 : decode cX2_close 11 = .ok (.getfield 15, 3) := by decide +kernel
theorem dX2_close_14 : decode cX2_close 14 = .ok (.iconst 0, 1) := by decide +kernel
theorem dX2_close_15 : decode cX2_close 15 = .ok (.aload_n 0, 1) := by decide +kernel
theorem dX2_close_16 : decode cX2_close 16 = .ok (.getfield 19, 3) := by decide +kernel
theorem dX2_close_19 : decode cX2_close 19 = .ok (.iconst 0, 1) := by decide +kernel
theorem dX2_close_20 : decode cX2_close 20 = .ok (.bipush 11, 2) := by decide +kernel
theorem dX2_close_22 : decode cX2_close 22 = .ok (.invokestatic 31, 3) := by decide +kernel
theorem dX2_close_25 : decode cX2_close 25 = .ok (.iload_n 1, 1) := by decide +kernel
theorem dX2_close_26 : decode cX2_close 26 = .ok (.ireturn, 1) := by decide +kernel
theorem dX2_areOpposed_0 : decode cX2_areOpposed 0 = .ok (.aload_n 0, 1) := by decide +kernel
theorem dX2_areOpposed_1 : decode cX2_areOpposed 1 = .ok (.getfield 15, 3) := by decide +kernel
theorem dX2_areOpposed_4 : decode cX2_areOpposed 4 = .ok (.iload_n 1, 1) := by decide +kernel
theorem dX2_areOpposed_5 : decode cX2_areOpposed 5 = .ok (.iaload, 1) := by decide +kernel
theorem dX2_areOpposed_6 : decode cX2_areOpposed 6 = .ok (.aload_n 0, 1) := by decide +kernel
theorem dX2_areOpposed_7 : decode cX2_areOpposed 7 = .ok (.getfield 15, 3) := by decide +kernel
theorem dX2_areOpposed_10 : decode cX2_areOpposed 10 = .ok (.iload_n 2, 1) := by decide +kernel
theorem dX2_areOpposed_11 : decode cX2_areOpposed 11 = .ok (.iaload, 1) := by decide +kernel
theorem dX2_areOpposed_12 : decode cX2_areOpposed 12 = .ok (.invokestatic 40, 3) := by decide +kernel
theorem dX2_areOpposed_15 : decode cX2_areOpposed 15 = .ok (.ifCond .ge 25, 3) := by decide +kernel
theorem dX2_areOpposed_18 : decode cX2_areOpposed 18 = .ok (.aload_n 0, 1) := by decide +kernel
theorem dX2_areOpposed_19 : decode cX2_areOpposed 19 = .ok (.getfield 15, 3) := by decide +kernel
theorem dX2_areOpposed_22 : decode cX2_areOpposed 22 = .ok (.iload_n 1, 1) := by decide +kernel
theorem dX2_areOpposed_23 : decode cX2_areOpposed 23 = .ok (.iaload, 1) := by decide +kernel
theorem dX2_areOpposed_24 : decode cX2_areOpposed 24 = .ok (.aload_n 0, 1) := by decide +kernel
theorem dX2_areOpposed_25 : decode cX2_areOpposed 25 = .ok (.getfield 15, 3) := by decide +kernel
theorem dX2_areOpposed_28 : decode cX2_areOpposed 28 = .ok (.iload_n 2, 1) := by decide +kernel
theorem dX2_areOpposed_29 : decode cX2_areOpposed 29 = .ok (.iaload, 1) := by decide +kernel
theorem dX2_areOpposed_30 : decode cX2_areOpposed 30 = .ok (.invokestatic 46, 3) := by decide +kernel
theorem dX2_areOpposed_33 : decode cX2_areOpposed 33 = .ok (.ifCond .le 7, 3) := by decide +kernel
theorem dX2_areOpposed_36 : decode cX2_areOpposed 36 = .ok (.iconst 1, 1) := by decide +kernel
theorem dX2_areOpposed_37 : decode cX2_areOpposed 37 = .ok (.goto 4, 3) := by decide +kernel
theorem dX2_areOpposed_40 : decode cX2_areOpposed 40 = .ok (.iconst 0, 1) := by decide +kernel
theorem dX2_areOpposed_41 : decode cX2_areOpposed 41 = .ok (.ireturn, 1) := by decide +kernel
set_option maxRecDepth 20000 in
theorem ggX2_offset_X2_book : GoodIn wsX2_offset wsX2_book := goodIn_ca (goodIn_r _ [10, 11, 12, 13, 14, 1, 15, 16, 17, 18, 19, 20, 21] (by decide +kernel) (by decide +kernel)) (goodIn_sub (fun _ h => List.mem_cons_of_mem _ (List.mem_append_right _ h)) (by decide +kernel))
set_option maxRecDepth 20000 in
theorem gX2_offset_X2_book : GoodIn wsX2_offset (wsV RX2 49 RX2 yX2_book wsX2_book) := goodIn_app (goodIn_of _ (by decide +kernel)) ggX2_offset_X2_book
theorem dX2_offset_0 : decode cX2_offset 0 = .ok (.aload_n 0, 1) := by decide +kernel
theorem dX2_offset_1 : decode cX2_offset 1 = .ok (.getfield 15, 3) := by decide +kernel
theorem dX2_offset_4 : decode cX2_offset 4 = .ok (.iload_n 1, 1) := by decide +kernel
theorem dX2_offset_5 : decode cX2_offset 5 = .ok (.iaload, 1) := by decide +kernel
theorem dX2_offset_6 : decode cX2_offset 6 = .ok (.ifCond .ge 7, 3) := by decide +kernel
theorem dX2_offset_9 : decode cX2_offset 9 = .ok (.iload_n 1, 1) := by decide +kernel
theorem dX2_offset_10 : decode cX2_offset 10 = .ok (.goto 4, 3) := by decide +kernel
theorem dX2_offset_13 : decode cX2_offset 13 = .ok (.iload_n 2, 1) := by decide +kernel
theorem dX2_offset_14 : decode cX2_offset 14 = .ok (.istore_n 3, 1) := by decide +kernel
theorem dX2_offset_15 : decode cX2_offset 15 = .ok (.aload_n 0, 1) := by decide +kernel
theorem dX2_offset_16 : decode cX2_offset 16 = .ok (.getfield 15, 3) := by decide +kernel
theorem dX2_offset_19 : decode cX2_offset 19 = .ok (.iload_n 1, 1) := by decide +kernel
theorem dX2_offset_20 : decode cX2_offset 20 = .ok (.iaload, 1) := by decide +kernel
theorem dX2_offset_21 : decode cX2_offset 21 = .ok (.ifCond .ge 7, 3) := by decide +kernel
theorem dX2_offset_24 : decode cX2_offset 24 = .ok (.iload_n 2, 1) := by decide +kernel
theorem dX2_offset_25 : decode cX2_offset 25 = .ok (.goto 4, 3) := by decide +kernel
theorem dX2_offset_28 : decode cX2_offset 28 = .ok (.iload_n 1, 1) := by decide +kernel
theorem dX2_offset_29 : decode cX2_offset 29 = .ok (.istore 4, 2) := by decide +kernel
theorem dX2_offset_31 : decode cX2_offset 31 = .ok (.aload_n 0, 1) := by decide +kernel
theorem dX2_offset_32 : decode cX2_offset 32 = .ok (.getfield 15, 3) := by decide +kernel
theorem dX2_offset_35 : decode cX2_offset 35 = .ok (.iload_n 3, 1) := by decide +kernel
theorem dX2_offset_36 : decode cX2_offset 36 = .ok (.iaload, 1) := by decide +kernel
theorem dX2_offset_37 : decode cX2_offset 37 = .ok (.ineg, 1) := by decide +kernel
theorem dX2_offset_38 : decode cX2_offset 38 = .ok (.aload_n 0, 1) := by decide +kernel
theorem dX2_offset_39 : decode cX2_offset 39 = .ok (.getfield 15, 3) := by decide +kernel
theorem dX2_offset_42 : decode cX2_offset 42 = .ok (.iload 4, 2) := by decide +kernel
theorem dX2_offset_44 : decode cX2_offset 44 = .ok (.iaload, 1) := by decide +kernel
theorem dX2_offset_45 : decode cX2_offset 45 = .ok (.invokestatic 40, 3) := by decide +kernel
theorem dX2_offset_48 : decode cX2_offset 48 = .ok (.istore 5, 2) := by decide +kernel
theorem dX2_offset_50 : decode cX2_offset 50 = .ok (.aload_n 0, 1) := by decide +kernel
theorem dX2_offset_51 : decode cX2_offset 51 = .ok (.iload_n 3, 1) := by decide +kernel
theorem dX2_offset_52 : decode cX2_offset 52 = .ok (.iload 4, 2) := by decide +kernel
theorem dX2_offset_54 : decode cX2_offset 54 = .ok (.iload 5, 2) := by decide +kernel
theorem dX2_offset_56 : decode cX2_offset 56 = .ok (.invokevirtual 49, 3) := by decide +kernel
theorem dX2_offset_59 : decode cX2_offset 59 = .ok (.pop, 1) := by decide +kernel
theorem dX2_offset_60 : decode cX2_offset 60 = .ok (.iload 5, 2) := by decide +kernel
theorem dX2_offset_62 : decode cX2_offset 62 = .ok (.ireturn, 1) := by decide +kernel
set_option maxRecDepth 20000 in
theorem ggX2_debitSum_X2_sumOfAmounts : GoodIn wsX2_debitSum wsX2_sumOfAmounts := goodIn_ca (goodIn_r _ [6, 7, 8, 9, 10, 11, 12, 13, 14, 15] (by decide +kernel) (by decide +kernel)) (goodIn_sub (fun _ h => List.mem_cons_of_mem _ (List.mem_append_right _ h)) (by decide +kernel))
set_option maxRecDepth 20000 in
theorem gX2_debitSum_X2_sumOfAmounts : GoodIn wsX2_debitSum (wsV RX2 53 RX2 yX2_sumOfAmounts wsX2_sumOfAmounts) := goodIn_app (goodIn_of _ (by decide +kernel)) ggX2_debitSum_X2_sumOfAmounts
theorem dX2_debitSum_0 : decode cX2_debitSum 0 = .ok (.aload_n 0, 1) := by decide +kernel
theorem dX2_debitSum_1 : decode cX2_debitSum 1 = .ok (.aload_n 0, 1) := by decide +kernel
theorem dX2_debitSum_2 : decode cX2_debitSum 2 = .ok (.getfield 22, 3) := by decide +kernel
theorem dX2_debitSum_5 : decode cX2_debitSum 5 = .ok (.iload_n 1, 1) := by decide +kernel
theorem dX2_debitSum_6 : decode cX2_debitSum 6 = .ok (.invokevirtual 53, 3) := by decide +kernel
theorem dX2_debitSum_9 : decode cX2_debitSum 9 = .ok (.ireturn, 1) := by decide +kernel
set_option maxRecDepth 20000 in
theorem ggX2_creditSum_X2_sumOfAmounts : GoodIn wsX2_creditSum wsX2_sumOfAmounts := goodIn_ca (goodIn_r _ [6, 7, 8, 9, 10, 11, 12, 13, 14, 15] (by decide +kernel) (by decide +kernel)) (goodIn_sub (fun _ h => List.mem_cons_of_mem _ (List.mem_append_right _ h)) (by decide +kernel))
set_option maxRecDepth 20000 in
theorem gX2_creditSum_X2_sumOfAmounts : GoodIn wsX2_creditSum (wsV RX2 53 RX2 yX2_sumOfAmounts wsX2_sumOfAmounts) := goodIn_app (goodIn_of _ (by decide +kernel)) ggX2_creditSum_X2_sumOfAmounts
theorem dX2_creditSum_0 : decode cX2_creditSum 0 = .ok (.aload_n 0, 1) := by decide +kernel
theorem dX2_creditSum_1 : decode cX2_creditSum 1 = .ok (.aload_n 0, 1) := by decide +kernel
theorem dX2_creditSum_2 : decode cX2_creditSum 2 = .ok (.getfield 25, 3) := by decide +kernel
theorem dX2_creditSum_5 : decode cX2_creditSum 5 = .ok (.iload_n 1, 1) := by decide +kernel
theorem dX2_creditSum_6 : decode cX2_creditSum 6 = .ok (.invokevirtual 53, 3) := by decide +kernel
theorem dX2_creditSum_9 : decode cX2_creditSum 9 = .ok (.ireturn, 1) := by decide +kernel
theorem dX2_sumOfAmounts_0 : decode cX2_sumOfAmounts 0 = .ok (.iconst 0, 1) := by decide +kernel
theorem dX2_sumOfAmounts_1 : decode cX2_sumOfAmounts 1 = .ok (.istore_n 3, 1) := by decide +kernel
theorem dX2_sumOfAmounts_2 : decode cX2_sumOfAmounts 2 = .ok (.iconst 0, 1) := by decide +kernel
theorem dX2_sumOfAmounts_3 : decode cX2_sumOfAmounts 3 = .ok (.istore 4, 2) := by decide +kernel
theorem dX2_sumOfAmounts_5 : decode cX2_sumOfAmounts 5 = .ok (.iload 4, 2) := by decide +kernel
theorem dX2_sumOfAmounts_7 : decode cX2_sumOfAmounts 7 = .ok (.aload_n 0, 1) := by decide +kernel
theorem dX2_sumOfAmounts_8 : decode cX2_sumOfAmounts 8 = .ok (.getfield 37, 3) := by decide +kernel
theorem dX2_sumOfAmounts_11 : decode cX2_sumOfAmounts 11 = .ok (.if_icmp .ge 27, 3) := by decide +kernel
theorem dX2_sumOfAmounts_14 : decode cX2_sumOfAmounts 14 = .ok (.aload_n 1, 1) := by decide +kernel
theorem dX2_sumOfAmounts_15 : decode cX2_sumOfAmounts 15 = .ok (.iload 4, 2) := by decide +kernel
theorem dX2_sumOfAmounts_17 : decode cX2_sumOfAmounts 17 = .ok (.iaload, 1) := by decide +kernel
theorem dX2_sumOfAmounts_18 : decode cX2_sumOfAmounts 18 = .ok (.iload_n 2, 1) := by decide +kernel
theorem dX2_sumOfAmounts_19 : decode cX2_sumOfAmounts 19 = .ok (.if_icmp .ne 13, 3) := by decide +kernel
theorem dX2_sumOfAmounts_22 : decode cX2_sumOfAmounts 22 = .ok (.iload_n 3, 1) := by decide +kernel
theorem dX2_sumOfAmounts_23 : decode cX2_sumOfAmounts 23 = .ok (.aload_n 0, 1) := by decide +kernel
theorem dX2_sumOfAmounts_24 : decode cX2_sumOfAmounts 24 = .ok (.getfield 28, 3) := by decide +kernel
theorem dX2_sumOfAmounts_27 : decode cX2_sumOfAmounts 27 = .ok (.iload 4, 2) := by decide +kernel
theorem dX2_sumOfAmounts_29 : decode cX2_sumOfAmounts 29 = .ok (.iaload, 1) := by decide +kernel
theorem dX2_sumOfAmounts_30 : decode cX2_sumOfAmounts 30 = .ok (.iadd, 1) := by decide +kernel
theorem dX2_sumOfAmounts_31 : decode cX2_sumOfAmounts 31 = .ok (.istore_n 3, 1) := by decide +kernel
theorem dX2_sumOfAmounts_32 : decode cX2_sumOfAmounts 32 = .ok (.iinc 4 1, 3) := by decide +kernel
theorem dX2_sumOfAmounts_35 : decode cX2_sumOfAmounts 35 = .ok (.goto (-30), 3) := by decide +kernel
theorem dX2_sumOfAmounts_38 : decode cX2_sumOfAmounts 38 = .ok (.iload_n 3, 1) := by decide +kernel
theorem dX2_sumOfAmounts_39 : decode cX2_sumOfAmounts 39 = .ok (.ireturn, 1) := by decide +kernel
set_option maxRecDepth 20000 in
theorem ggX2_balanceFromJournal_X2_debitSum : GoodIn wsX2_balanceFromJournal wsX2_debitSum := goodIn_ca (goodIn_r _ [6, 7, 8, 9, 10, 5, 11, 12, 13, 19, 20, 21, 22, 23, 24, 25] (by decide +kernel) (by decide +kernel)) (goodIn_sub (fun _ h => List.mem_cons_of_mem _ (List.mem_append_right _ h)) (by decide +kernel))
set_option maxRecDepth 20000 in
theorem gX2_balanceFromJournal_X2_debitSum : GoodIn wsX2_balanceFromJournal (wsV RX2 57 RX2 yX2_debitSum wsX2_debitSum) := goodIn_app (goodIn_of _ (by decide +kernel)) ggX2_balanceFromJournal_X2_debitSum
set_option maxRecDepth 20000 in
theorem ggX2_balanceFromJournal_X2_creditSum : GoodIn wsX2_balanceFromJournal wsX2_creditSum := goodIn_ca (goodIn_r _ [17, 18, 8, 9, 10, 5, 11, 12, 13, 19, 20, 21, 22, 23, 24, 25] (by decide +kernel) (by decide +kernel)) (goodIn_sub (fun _ h => List.mem_cons_of_mem _ (List.mem_append_right _ h)) (by decide +kernel))
set_option maxRecDepth 20000 in
theorem gX2_balanceFromJournal_X2_creditSum : GoodIn wsX2_balanceFromJournal (wsV RX2 61 RX2 yX2_creditSum wsX2_creditSum) := goodIn_app (goodIn_of _ (by decide +kernel)) ggX2_balanceFromJournal_X2_creditSum
theorem dX2_balanceFromJournal_0 : decode cX2_balanceFromJournal 0 = .ok (.aload_n 0, 1) := by decide +kernel
theorem dX2_balanceFromJournal_1 : decode cX2_balanceFromJournal 1 = .ok (.getfield 19, 3) := by decide +kernel
theorem dX2_balanceFromJournal_4 : decode cX2_balanceFromJournal 4 = .ok (.iload_n 1, 1) := by decide +kernel
theorem dX2_balanceFromJournal_5 : decode cX2_balanceFromJournal 5 = .ok (.iaload, 1) := by decide +kernel
theorem dX2_balanceFromJournal_6 : decode cX2_balanceFromJournal 6 = .ok (.aload_n 0, 1) := by decide +kernel
theorem dX2_balanceFromJournal_7 : decode cX2_balanceFromJournal 7 = .ok (.iload_n 1, 1) := by decide +kernel
theorem dX2_balanceFromJournal_8 : decode cX2_balanceFromJournal 8 = .ok (.invokevirtual 57, 3) := by decide +kernel
theorem dX2_balanceFromJournal_11 : decode cX2_balanceFromJournal 11 = .ok (.iadd, 1) := by decide +kernel
theorem dX2_balanceFromJournal_12 : decode cX2_balanceFromJournal 12 = .ok (.aload_n 0, 1) := by decide +kernel
theorem dX2_balanceFromJournal_13 : decode cX2_balanceFromJournal 13 = .ok (.iload_n 1, 1) := by decide +kernel
theorem dX2_balanceFromJournal_14 : decode cX2_balanceFromJournal 14 = .ok (.invokevirtual 61, 3) := by decide +kernel
theorem dX2_balanceFromJournal_17 : decode cX2_balanceFromJournal 17 = .ok (.isub, 1) := by decide +kernel
theorem dX2_balanceFromJournal_18 : decode cX2_balanceFromJournal 18 = .ok (.ireturn, 1) := by decide +kernel
set_option maxRecDepth 20000 in
theorem ggX2_agreeWithJournal_X2_balanceFromJournal : GoodIn wsX2_agreeWithJournal wsX2_balanceFromJournal := goodIn_ca (goodIn_r _ [7, 8, 9, 10, 11, 6, 12, 13, 14, 15, 16, 17, 18, 19, 20, 21, 22, 23, 24, 25, 26, 27, 28, 29, 30, 31] (by decide +kernel) (by decide +kernel)) (goodIn_sub (fun _ h => List.mem_cons_of_mem _ (List.mem_append_right _ h)) (by decide +kernel))
set_option maxRecDepth 20000 in
theorem gX2_agreeWithJournal_X2_balanceFromJournal : GoodIn wsX2_agreeWithJournal (wsV RX2 64 RX2 yX2_balanceFromJournal wsX2_balanceFromJournal) := goodIn_app (goodIn_of _ (by decide +kernel)) ggX2_agreeWithJournal_X2_balanceFromJournal
theorem dX2_agreeWithJournal_0 : decode cX2_agreeWithJournal 0 = .ok (.iconst 0, 1) := by decide +kernel
theorem dX2_agreeWithJournal_1 : decode cX2_agreeWithJournal 1 = .ok (.istore_n 1, 1) := by decide +kernel
theorem dX2_agreeWithJournal_2 : decode cX2_agreeWithJournal 2 = .ok (.iload_n 1, 1) := by decide +kernel
theorem dX2_agreeWithJournal_3 : decode cX2_agreeWithJournal 3 = .ok (.aload_n 0, 1) := by decide +kernel
theorem dX2_agreeWithJournal_4 : decode cX2_agreeWithJournal 4 = .ok (.getfield 9, 3) := by decide +kernel
theorem dX2_agreeWithJournal_7 : decode cX2_agreeWithJournal 7 = .ok (.if_icmp .ge 25, 3) := by decide +kernel
theorem dX2_agreeWithJournal_10 : decode cX2_agreeWithJournal 10 = .ok (.aload_n 0, 1) := by decide +kernel
theorem dX2_agreeWithJournal_11 : decode cX2_agreeWithJournal 11 = .ok (.getfield 15, 3) := by decide +kernel
theorem dX2_agreeWithJournal_14 : decode cX2_agreeWithJournal 14 = .ok (.iload_n 1, 1) := by decide +kernel
theorem dX2_agreeWithJournal_15 : decode cX2_agreeWithJournal 15 = .ok (.iaload, 1) := by decide +kernel
theorem dX2_agreeWithJournal_16 : decode cX2_agreeWithJournal 16 = .ok (.aload_n 0, 1) := by decide +kernel
theorem dX2_agreeWithJournal_17 : decode cX2_agreeWithJournal 17 = .ok (.iload_n 1, 1) := by decide +kernel
theorem dX2_agreeWithJournal_18 : decode cX2_agreeWithJournal 18 = .ok (.invokevirtual 64, 3) := by decide +kernel
theorem dX2_agreeWithJournal_21 : decode cX2_agreeWithJournal 21 = .ok (.if_icmp .eq 5, 3) := by decide +kernel
theorem dX2_agreeWithJournal_24 : decode cX2_agreeWithJournal 24 = .ok (.iconst 0, 1) := by decide +kernel
theorem dX2_agreeWithJournal_25 : decode cX2_agreeWithJournal 25 = .ok (.ireturn, 1) := by decide +kernel
theorem dX2_agreeWithJournal_26 : decode cX2_agreeWithJournal 26 = .ok (.iinc 1 1, 3) := by decide +kernel
theorem dX2_agreeWithJournal_29 : decode cX2_agreeWithJournal 29 = .ok (.goto (-27), 3) := by decide +kernel
theorem dX2_agreeWithJournal_32 : decode cX2_agreeWithJournal 32 = .ok (.iconst 1, 1) := by decide +kernel
theorem dX2_agreeWithJournal_33 : decode cX2_agreeWithJournal 33 = .ok (.ireturn, 1) := by decide +kernel
theorem dX2_sumOfBalances_0 : decode cX2_sumOfBalances 0 = .ok (.iconst 0, 1) := by decide +kernel
theorem dX2_sumOfBalances_1 : decode cX2_sumOfBalances 1 = .ok (.istore_n 1, 1) := by decide +kernel
theorem dX2_sumOfBalances_2 : decode cX2_sumOfBalances 2 = .ok (.iconst 0, 1) := by decide +kernel
theorem dX2_sumOfBalances_3 : decode cX2_sumOfBalances 3 = .ok (.istore_n 2, 1) := by decide +kernel
theorem dX2_sumOfBalances_4 : decode cX2_sumOfBalances 4 = .ok (.iload_n 2, 1) := by decide +kernel
theorem dX2_sumOfBalances_5 : decode cX2_sumOfBalances 5 = .ok (.aload_n 0, 1) := by decide +kernel
theorem dX2_sumOfBalances_6 : decode cX2_sumOfBalances 6 = .ok (.getfield 9, 3) := by decide +kernel
theorem dX2_sumOfBalances_9 : decode cX2_sumOfBalances 9 = .ok (.if_icmp .ge 18, 3) := by decide +kernel
theorem dX2_sumOfBalances_12 : decode cX2_sumOfBalances 12 = .ok (.iload_n 1, 1) := by decide +kernel
theorem dX2_sumOfBalances_13 : decode cX2_sumOfBalances 13 = .ok (.aload_n 0, 1) := by decide +kernel
theorem dX2_sumOfBalances_14 : decode cX2_sumOfBalances 14 = .ok (.getfield 15, 3) := by decide +kernel
theorem dX2_sumOfBalances_17 : decode cX2_sumOfBalances 17 = .ok (.iload_n 2, 1) := by decide +kernel
theorem dX2_sumOfBalances_18 : decode cX2_sumOfBalances 18 = .ok (.iaload, 1) := by decide +kernel
theorem dX2_sumOfBalances_19 : decode cX2_sumOfBalances 19 = .ok (.iadd, 1) := by decide +kernel
theorem dX2_sumOfBalances_20 : decode cX2_sumOfBalances 20 = .ok (.istore_n 1, 1) := by decide +kernel
theorem dX2_sumOfBalances_21 : decode cX2_sumOfBalances 21 = .ok (.iinc 2 1, 3) := by decide +kernel
theorem dX2_sumOfBalances_24 : decode cX2_sumOfBalances 24 = .ok (.goto (-20), 3) := by decide +kernel
theorem dX2_sumOfBalances_27 : decode cX2_sumOfBalances 27 = .ok (.iload_n 1, 1) := by decide +kernel
theorem dX2_sumOfBalances_28 : decode cX2_sumOfBalances 28 = .ok (.ireturn, 1) := by decide +kernel
set_option maxRecDepth 20000 in
theorem ggX2_accountAtRank_X2_rankOf : GoodIn wsX2_accountAtRank wsX2_rankOf := goodIn_ca (goodIn_r _ [6, 1, 7, 8, 9, 10, 11, 12, 13, 14] (by decide +kernel) (by decide +kernel)) (goodIn_sub (fun _ h => List.mem_cons_of_mem _ (List.mem_append_right _ h)) (by decide +kernel))
set_option maxRecDepth 20000 in
theorem gX2_accountAtRank_X2_rankOf : GoodIn wsX2_accountAtRank (wsV RX2 67 RX2 yX2_rankOf wsX2_rankOf) := goodIn_app (goodIn_of _ (by decide +kernel)) ggX2_accountAtRank_X2_rankOf
theorem dX2_accountAtRank_0 : decode cX2_accountAtRank 0 = .ok (.iconst 0, 1) := by decide +kernel
theorem dX2_accountAtRank_1 : decode cX2_accountAtRank 1 = .ok (.istore_n 2, 1) := by decide +kernel
theorem dX2_accountAtRank_2 : decode cX2_accountAtRank 2 = .ok (.iload_n 2, 1) := by decide +kernel
theorem dX2_accountAtRank_3 : decode cX2_accountAtRank 3 = .ok (.aload_n 0, 1) := by decide +kernel
theorem dX2_accountAtRank_4 : decode cX2_accountAtRank 4 = .ok (.getfield 9, 3) := by decide +kernel
theorem dX2_accountAtRank_7 : decode cX2_accountAtRank 7 = .ok (.if_icmp .ge 20, 3) := by decide +kernel
theorem dX2_accountAtRank_10 : decode cX2_accountAtRank 10 = .ok (.aload_n 0, 1) := by decide +kernel
theorem dX2_accountAtRank_11 : decode cX2_accountAtRank 11 = .ok (.iload_n 2, 1) := by decide +kernel
theorem dX2_accountAtRank_12 : decode cX2_accountAtRank 12 = .ok (.invokevirtual 67, 3) := by decide +kernel
theorem dX2_accountAtRank_15 : decode cX2_accountAtRank 15 = .ok (.iload_n 1, 1) := by decide +kernel
theorem dX2_accountAtRank_16 : decode cX2_accountAtRank 16 = .ok (.if_icmp .ne 5, 3) := by decide +kernel
theorem dX2_accountAtRank_19 : decode cX2_accountAtRank 19 = .ok (.iload_n 2, 1) := by decide +kernel
theorem dX2_accountAtRank_20 : decode cX2_accountAtRank 20 = .ok (.ireturn, 1) := by decide +kernel
theorem dX2_accountAtRank_21 : decode cX2_accountAtRank 21 = .ok (.iinc 2 1, 3) := by decide +kernel
theorem dX2_accountAtRank_24 : decode cX2_accountAtRank 24 = .ok (.goto (-22), 3) := by decide +kernel
theorem dX2_accountAtRank_27 : decode cX2_accountAtRank 27 = .ok (.iconst (-1), 1) := by decide +kernel
theorem dX2_accountAtRank_28 : decode cX2_accountAtRank 28 = .ok (.ireturn, 1) := by decide +kernel
theorem dX2_rankOf_0 : decode cX2_rankOf 0 = .ok (.iconst 0, 1) := by decide +kernel
theorem dX2_rankOf_1 : decode cX2_rankOf 1 = .ok (.istore_n 2, 1) := by decide +kernel
theorem dX2_rankOf_2 : decode cX2_rankOf 2 = .ok (.iconst 0, 1) := by decide +kernel
theorem dX2_rankOf_3 : decode cX2_rankOf 3 = .ok (.istore_n 3, 1) := by decide +kernel
theorem dX2_rankOf_4 : decode cX2_rankOf 4 = .ok (.iload_n 3, 1) := by decide +kernel
theorem dX2_rankOf_5 : decode cX2_rankOf 5 = .ok (.aload_n 0, 1) := by decide +kernel
theorem dX2_rankOf_6 : decode cX2_rankOf 6 = .ok (.getfield 9, 3) := by decide +kernel
theorem dX2_rankOf_9 : decode cX2_rankOf 9 = .ok (.if_icmp .ge 67, 3) := by decide +kernel
theorem dX2_rankOf_12 : decode cX2_rankOf 12 = .ok (.aload_n 0, 1) := by decide +kernel
theorem dX2_rankOf_13 : decode cX2_rankOf 13 = .ok (.getfield 15, 3) := by decide +kernel
theorem dX2_rankOf_16 : decode cX2_rankOf 16 = .ok (.iload_n 3, 1) := by decide +kernel
theorem dX2_rankOf_17 : decode cX2_rankOf 17 = .ok (.iaload, 1) := by decide +kernel
theorem dX2_rankOf_18 : decode cX2_rankOf 18 = .ok (.aload_n 0, 1) := by decide +kernel
theorem dX2_rankOf_19 : decode cX2_rankOf 19 = .ok (.getfield 15, 3) := by decide +kernel
theorem dX2_rankOf_22 : decode cX2_rankOf 22 = .ok (.iload_n 1, 1) := by decide +kernel
theorem dX2_rankOf_23 : decode cX2_rankOf 23 = .ok (.iaload, 1) := by decide +kernel
theorem dX2_rankOf_24 : decode cX2_rankOf 24 = .ok (.if_icmp .ne 16, 3) := by decide +kernel
theorem dX2_rankOf_27 : decode cX2_rankOf 27 = .ok (.iload_n 3, 1) := by decide +kernel
theorem dX2_rankOf_28 : decode cX2_rankOf 28 = .ok (.iload_n 1, 1) := by decide +kernel
theorem dX2_rankOf_29 : decode cX2_rankOf 29 = .ok (.if_icmp .ge 7, 3) := by decide +kernel
theorem dX2_rankOf_32 : decode cX2_rankOf 32 = .ok (.iconst 1, 1) := by decide +kernel
theorem dX2_rankOf_33 : decode cX2_rankOf 33 = .ok (.goto 27, 3) := by decide +kernel
theorem dX2_rankOf_36 : decode cX2_rankOf 36 = .ok (.iconst 0, 1) := by decide +kernel
theorem dX2_rankOf_37 : decode cX2_rankOf 37 = .ok (.goto 23, 3) := by decide +kernel
theorem dX2_rankOf_40 : decode cX2_rankOf 40 = .ok (.aload_n 0, 1) := by decide +kernel
theorem dX2_rankOf_41 : decode cX2_rankOf 41 = .ok (.getfield 15, 3) := by decide +kernel
theorem dX2_rankOf_44 : decode cX2_rankOf 44 = .ok (.iload_n 3, 1) := by decide +kernel
theorem dX2_rankOf_45 : decode cX2_rankOf 45 = .ok (.iaload, 1) := by decide +kernel
theorem dX2_rankOf_46 : decode cX2_rankOf 46 = .ok (.aload_n 0, 1) := by decide +kernel
theorem dX2_rankOf_47 : decode cX2_rankOf 47 = .ok (.getfield 15, 3) := by decide +kernel
theorem dX2_rankOf_50 : decode cX2_rankOf 50 = .ok (.iload_n 1, 1) := by decide +kernel
theorem dX2_rankOf_51 : decode cX2_rankOf 51 = .ok (.iaload, 1) := by decide +kernel
theorem dX2_rankOf_52 : decode cX2_rankOf 52 = .ok (.if_icmp .le 7, 3) := by decide +kernel
theorem dX2_rankOf_55 : decode cX2_rankOf 55 = .ok (.iconst 1, 1) := by decide +kernel
theorem dX2_rankOf_56 : decode cX2_rankOf 56 = .ok (.goto 4, 3) := by decide +kernel
theorem dX2_rankOf_59 : decode cX2_rankOf 59 = .ok (.iconst 0, 1) := by decide +kernel
theorem dX2_rankOf_60 : decode cX2_rankOf 60 = .ok (.istore 4, 2) := by decide +kernel
theorem dX2_rankOf_62 : decode cX2_rankOf 62 = .ok (.iload 4, 2) := by decide +kernel
theorem dX2_rankOf_64 : decode cX2_rankOf 64 = .ok (.ifCond .eq 6, 3) := by decide +kernel
theorem dX2_rankOf_67 : decode cX2_rankOf 67 = .ok (.iinc 2 1, 3) := by decide +kernel
theorem dX2_rankOf_70 : decode cX2_rankOf 70 = .ok (.iinc 3 1, 3) := by decide +kernel
theorem dX2_rankOf_73 : decode cX2_rankOf 73 = .ok (.goto (-69), 3) := by decide +kernel
theorem dX2_rankOf_76 : decode cX2_rankOf 76 = .ok (.iload_n 2, 1) := by decide +kernel
theorem dX2_rankOf_77 : decode cX2_rankOf 77 = .ok (.ireturn, 1) := by decide +kernel
theorem dX2_positiveCount_0 : decode cX2_positiveCount 0 = .ok (.iconst 0, 1) := by decide +kernel
theorem dX2_positiveCount_1 : decode cX2_positiveCount 1 = .ok (.istore_n 1, 1) := by decide +kernel
theorem dX2_positiveCount_2 : decode cX2_positiveCount 2 = .ok (.iconst 0, 1) := by decide +kernel
theorem dX2_positiveCount_3 : decode cX2_positiveCount 3 = .ok (.istore_n 2, 1) := by decide +kernel
theorem dX2_positiveCount_4 : decode cX2_positiveCount 4 = .ok (.iload_n 2, 1) := by decide +kernel
theorem dX2_positiveCount_5 : decode cX2_positiveCount 5 = .ok (.aload_n 0, 1) := by decide +kernel
theorem dX2_positiveCount_6 : decode cX2_positiveCount 6 = .ok (.getfield 9, 3) := by decide +kernel
theorem dX2_positiveCount_9 : decode cX2_positiveCount 9 = .ok (.if_icmp .ge 21, 3) := by decide +kernel
theorem dX2_positiveCount_12 : decode cX2_positiveCount 12 = .ok (.aload_n 0, 1) := by decide +kernel
theorem dX2_positiveCount_13 : decode cX2_positiveCount 13 = .ok (.getfield 15, 3) := by decide +kernel
theorem dX2_positiveCount_16 : decode cX2_positiveCount 16 = .ok (.iload_n 2, 1) := by decide +kernel
theorem dX2_positiveCount_17 : decode cX2_positiveCount 17 = .ok (.iaload, 1) := by decide +kernel
theorem dX2_positiveCount_18 : decode cX2_positiveCount 18 = .ok (.ifCond .le 6, 3) := by decide +kernel
theorem dX2_positiveCount_21 : decode cX2_positiveCount 21 = .ok (.iinc 1 1, 3) := by decide +kernel
theorem dX2_positiveCount_24 : decode cX2_positiveCount 24 = .ok (.iinc 2 1, 3) := by decide +kernel
theorem dX2_positiveCount_27 : decode cX2_positiveCount 27 = .ok (.goto (-23), 3) := by decide +kernel
theorem dX2_positiveCount_30 : decode cX2_positiveCount 30 = .ok (.iload_n 1, 1) := by decide +kernel
theorem dX2_positiveCount_31 : decode cX2_positiveCount 31 = .ok (.ireturn, 1) := by decide +kernel
set_option maxRecDepth 20000 in
theorem ggX2_meanOfPositive_X2_positiveCount : GoodIn wsX2_meanOfPositive wsX2_positiveCount := goodIn_ca (goodIn_r _ [11, 1, 2, 12, 13, 14, 15, 16, 17, 18] (by decide +kernel) (by decide +kernel)) (goodIn_sub (fun _ h => List.mem_cons_of_mem _ (List.mem_append_right _ h)) (by decide +kernel))
set_option maxRecDepth 20000 in
theorem gX2_meanOfPositive_X2_positiveCount : GoodIn wsX2_meanOfPositive (wsV RX2 70 RX2 yX2_positiveCount wsX2_positiveCount) := goodIn_app (goodIn_of _ (by decide +kernel)) ggX2_meanOfPositive_X2_positiveCount
theorem dX2_meanOfPositive_0 : decode cX2_meanOfPositive 0 = .ok (.aload_n 0, 1) := by decide +kernel
theorem dX2_meanOfPositive_1 : decode cX2_meanOfPositive 1 = .ok (.invokevirtual 70, 3) := by decide +kernel
theorem dX2_meanOfPositive_4 : decode cX2_meanOfPositive 4 = .ok (.istore_n 1, 1) := by decide +kernel
theorem dX2_meanOfPositive_5 : decode cX2_meanOfPositive 5 = .ok (.iconst 0, 1) := by decide +kernel
theorem dX2_meanOfPositive_6 : decode cX2_meanOfPositive 6 = .ok (.istore_n 2, 1) := by decide +kernel
theorem dX2_meanOfPositive_7 : decode cX2_meanOfPositive 7 = .ok (.iconst 0, 1) := by decide +kernel
theorem dX2_meanOfPositive_8 : decode cX2_meanOfPositive 8 = .ok (.istore_n 3, 1) := by decide +kernel
theorem dX2_meanOfPositive_9 : decode cX2_meanOfPositive 9 = .ok (.iload_n 3, 1) := by decide +kernel
theorem dX2_meanOfPositive_10 : decode cX2_meanOfPositive 10 = .ok (.aload_n 0, 1) := by decide +kernel
theorem dX2_meanOfPositive_11 : decode cX2_meanOfPositive 11 = .ok (.getfield 9, 3) := by decide +kernel
theorem dX2_meanOfPositive_14 : decode cX2_meanOfPositive 14 = .ok (.if_icmp .ge 22, 3) := by decide +kernel
theorem dX2_meanOfPositive_17 : decode cX2_meanOfPositive 17 = .ok (.iload_n 2, 1) := by decide +kernel
theorem dX2_meanOfPositive_18 : decode cX2_meanOfPositive 18 = .ok (.iconst 0, 1) := by decide +kernel
theorem dX2_meanOfPositive_19 : decode cX2_meanOfPositive 19 = .ok (.aload_n 0, 1) := by decide +kernel
theorem dX2_meanOfPositive_20 : decode cX2_meanOfPositive 20 = .ok (.getfield 15, 3) := by decide +kernel
theorem dX2_meanOfPositive_23 : decode cX2_meanOfPositive 23 = .ok (.iload_n 3, 1) := by decide +kernel
theorem dX2_meanOfPositive_24 : decode cX2_meanOfPositive 24 = .ok (.iaload, 1) := by decide +kernel
theorem dX2_meanOfPositive_25 : decode cX2_meanOfPositive 25 = .ok (.invokestatic 46, 3) := by decide +kernel
theorem dX2_meanOfPositive_28 : decode cX2_meanOfPositive 28 = .ok (.iadd, 1) := by decide +kernel
theorem dX2_meanOfPositive_29 : decode cX2_meanOfPositive 29 = .ok (.istore_n 2, 1) := by decide +kernel
theorem dX2_meanOfPositive_30 : decode cX2_meanOfPositive 30 = .ok (.iinc 3 1, 3) := by decide +kernel
theorem dX2_meanOfPositive_33 : decode cX2_meanOfPositive 33 = .ok (.goto (-24), 3) := by decide +kernel
theorem dX2_meanOfPositive_36 : decode cX2_meanOfPositive 36 = .ok (.iload_n 1, 1) := by decide +kernel
theorem dX2_meanOfPositive_37 : decode cX2_meanOfPositive 37 = .ok (.ifCond .ne 7, 3) := by decide +kernel
theorem dX2_meanOfPositive_40 : decode cX2_meanOfPositive 40 = .ok (.dconst 0, 1) := by decide +kernel
theorem dX2_meanOfPositive_41 : decode cX2_meanOfPositive 41 = .ok (.goto 8, 3) := by decide +kernel
theorem dX2_meanOfPositive_44 : decode cX2_meanOfPositive 44 = .ok (.iload_n 2, 1) := by decide +kernel
theorem dX2_meanOfPositive_45 : decode cX2_meanOfPositive 45 = .ok (.i2d, 1) := by decide +kernel
theorem dX2_meanOfPositive_46 : decode cX2_meanOfPositive 46 = .ok (.iload_n 1, 1) := by decide +kernel
theorem dX2_meanOfPositive_47 : decode cX2_meanOfPositive 47 = .ok (.i2d, 1) := by decide +kernel
theorem dX2_meanOfPositive_48 : decode cX2_meanOfPositive 48 = .ok (.ddiv, 1) := by decide +kernel
theorem dX2_meanOfPositive_49 : decode cX2_meanOfPositive 49 = .ok (.dreturn, 1) := by decide +kernel
set_option maxRecDepth 20000 in
theorem ggX3_init_X9_init : GoodIn wsX3_init wsX9_init := goodIn_r _ [13, 14, 2, 3, 15, 16, 17, 18, 19, 20, 30, 31, 32, 33, 34, 35] (by decide +kernel) (by decide +kernel)
set_option maxRecDepth 20000 in
theorem gX3_init_X9_init_n11 : GoodIn wsX3_init (wsX9_init) := ggX3_init_X9_init
set_option maxRecDepth 20000 in
theorem ggX3_init_X2_init : GoodIn wsX3_init wsX2_init := goodIn_r _ [22, 23, 2, 3, 24, 15, 25, 26, 27, 28, 29, 42, 43, 44, 45, 46, 47, 48] (by decide +kernel) (by decide +kernel)
set_option maxRecDepth 20000 in
theorem gX3_init_X2_init_n20 : GoodIn wsX3_init (wsX2_init) := ggX3_init_X2_init
theorem dX3_init_0 : decode cX3_init 0 = .ok (.aload_n 0, 1) := by decide +kernel
theorem dX3_init_1 : decode cX3_init 1 = .ok (.invokespecial 3, 3) := by decide +kernel
theorem dX3_init_4 : decode cX3_init 4 = .ok (.aload_n 0, 1) := by decide +kernel
theorem dX3_init_5 : decode cX3_init 5 = .ok (.new 9, 3) := by decide +kernel
theorem dX3_init_8 : decode cX3_init 8 = .ok (.dup, 1) := by decide +kernel
theorem dX3_init_9 : decode cX3_init 9 = .ok (.invokespecial 11, 3) := by decide +kernel
theorem dX3_init_12 : decode cX3_init 12 = .ok (.putfield 12, 3) := by decide +kernel
theorem dX3_init_15 : decode cX3_init 15 = .ok (.aload_n 0, 1) := by decide +kernel
theorem dX3_init_16 : decode cX3_init 16 = .ok (.new 18, 3) := by decide +kernel
theorem dX3_init_19 : decode cX3_init 19 = .ok (.dup, 1) := by decide +kernel
theorem dX3_init_20 : decode cX3_init 20 = .ok (.invokespecial 20, 3) := by decide +kernel
theorem dX3_init_23 : decode cX3_init 23 = .ok (.putfield 21, 3) := by decide +kernel
theorem dX3_init_26 : decode cX3_init 26 = .ok (.return_, 1) := by decide +kernel
set_option maxRecDepth 20000 in
theorem ggX3_copyFrom_X9_copyFrom : GoodIn wsX3_copyFrom wsX9_copyFrom := goodIn_r _ [11, 12, 13, 14, 15, 16, 17, 18, 19, 20, 21, 41, 42, 43, 44, 45, 46] (by decide +kernel) (by decide +kernel)
set_option maxRecDepth 20000 in
theorem gX3_copyFrom_X9_copyFrom : GoodIn wsX3_copyFrom (wsV RX3 25 RX9 yX9_copyFrom wsX9_copyFrom) := goodIn_app (goodIn_of _ (by decide +kernel)) ggX3_copyFrom_X9_copyFrom
set_option maxRecDepth 20000 in
theorem ggX3_copyFrom_X2_copyFrom : GoodIn wsX3_copyFrom wsX2_copyFrom := goodIn_r _ [26, 27, 28, 29, 15, 16, 17, 30, 31, 32, 33, 34, 47, 48, 49, 50, 51, 52, 53] (by decide +kernel) (by decide +kernel)
set_option maxRecDepth 20000 in
theorem gX3_copyFrom_X2_copyFrom : GoodIn wsX3_copyFrom (wsV RX3 29 RX2 yX2_copyFrom wsX2_copyFrom) := goodIn_app (goodIn_of _ (by decide +kernel)) ggX3_copyFrom_X2_copyFrom
theorem dX3_copyFrom_0 : decode cX3_copyFrom 0 = .ok (.aload_n 0, 1) := by decide +kernel
theorem dX3_copyFrom_1 : decode cX3_copyFrom 1 = .ok (.getfield 12, 3) := by decide +kernel
theorem dX3_copyFrom_4 : decode cX3_copyFrom 4 = .ok (.aload_n 1, 1) := by decide +kernel
theorem dX3_copyFrom_5 : decode cX3_copyFrom 5 = .ok (.getfield 12, 3) := by decide +kernel
theorem dX3_copyFrom_8 : decode cX3_copyFrom 8 = .ok (.invokevirtual 25, 3) := by decide +kernel
theorem dX3_copyFrom_11 : decode cX3_copyFrom 11 = .ok (.aload_n 0, 1) := by decide +kernel
theorem dX3_copyFrom_12 : decode cX3_copyFrom 12 = .ok (.getfield 21, 3) := by decide +kernel
theorem dX3_copyFrom_15 : decode cX3_copyFrom 15 = .ok (.aload_n 1, 1) := by decide +kernel
theorem dX3_copyFrom_16 : decode cX3_copyFrom 16 = .ok (.getfield 21, 3) := by decide +kernel
theorem dX3_copyFrom_19 : decode cX3_copyFrom 19 = .ok (.invokevirtual 29, 3) := by decide +kernel
theorem dX3_copyFrom_22 : decode cX3_copyFrom 22 = .ok (.aload_n 0, 1) := by decide +kernel
theorem dX3_copyFrom_23 : decode cX3_copyFrom 23 = .ok (.aload_n 1, 1) := by decide +kernel
theorem dX3_copyFrom_24 : decode cX3_copyFrom 24 = .ok (.getfield 32, 3) := by decide +kernel
theorem dX3_copyFrom_27 : decode cX3_copyFrom 27 = .ok (.putfield 32, 3) := by decide +kernel
theorem dX3_copyFrom_30 : decode cX3_copyFrom 30 = .ok (.aload_n 0, 1) := by decide +kernel
theorem dX3_copyFrom_31 : decode cX3_copyFrom 31 = .ok (.aload_n 1, 1) := by decide +kernel
theorem dX3_copyFrom_32 : decode cX3_copyFrom 32 = .ok (.getfield 36, 3) := by decide +kernel
theorem dX3_copyFrom_35 : decode cX3_copyFrom 35 = .ok (.putfield 36, 3) := by decide +kernel
theorem dX3_copyFrom_38 : decode cX3_copyFrom 38 = .ok (.aload_n 0, 1) := by decide +kernel
theorem dX3_copyFrom_39 : decode cX3_copyFrom 39 = .ok (.aload_n 1, 1) := by decide +kernel
theorem dX3_copyFrom_40 : decode cX3_copyFrom 40 = .ok (.getfield 39, 3) := by decide +kernel
theorem dX3_copyFrom_43 : decode cX3_copyFrom 43 = .ok (.putfield 39, 3) := by decide +kernel
theorem dX3_copyFrom_46 : decode cX3_copyFrom 46 = .ok (.aload_n 0, 1) := by decide +kernel
theorem dX3_copyFrom_47 : decode cX3_copyFrom 47 = .ok (.aload_n 1, 1) := by decide +kernel
theorem dX3_copyFrom_48 : decode cX3_copyFrom 48 = .ok (.getfield 42, 3) := by decide +kernel
theorem dX3_copyFrom_51 : decode cX3_copyFrom 51 = .ok (.putfield 42, 3) := by decide +kernel
theorem dX3_copyFrom_54 : decode cX3_copyFrom 54 = .ok (.return_, 1) := by decide +kernel
set_option maxRecDepth 20000 in
theorem ggX3_refusalToHire_X3_isBetween : GoodIn wsX3_refusalToHire wsX3_isBetween := goodIn_r _ [9] (by decide +kernel) (by decide +kernel)
set_option maxRecDepth 20000 in
theorem gX3_refusalToHire_X3_isBetween : GoodIn wsX3_refusalToHire (va_wsS RX3 45 yX3_isBetween wsX3_isBetween) := goodIn_app (goodIn_of _ (by decide +kernel)) ggX3_refusalToHire_X3_isBetween
theorem dX3_refusalToHire_0 : decode cX3_refusalToHire 0 = .ok (.iload_n 1, 1) := by decide +kernel
theorem dX3_refusalToHire_1 : decode cX3_refusalToHire 1 = .ok (.bipush 30, 2) := by decide +kernel
theorem dX3_refusalToHire_3 : decode cX3_refusalToHire 3 = .ok (.bipush 120, 2) := by decide +kernel
theorem dX3_refusalToHire_5 : decode cX3_refusalToHire 5 = .ok (.invokestatic 45, 3) := by decide +kernel
theorem dX3_refusalToHire_8 : decode cX3_refusalToHire 8 = .ok (.ifCond .eq 41, 3) := by decide +kernel
theorem dX3_refusalToHire_11 : decode cX3_refusalToHire 11 = .ok (.iload_n 2, 1) := by decide +kernel
theorem dX3_refusalToHire_12 : decode cX3_refusalToHire 12 = .ok (.iconst 0, 1) := by decide +kernel
theorem dX3_refusalToHire_13 : decode cX3_refusalToHire 13 = .ok (.sipush 400, 3) := by decide +kernel
theorem dX3_refusalToHire_16 : decode cX3_refusalToHire 16 = .ok (.invokestatic 45, 3) := by decide +kernel
theorem dX3_refusalToHire_19 : decode cX3_refusalToHire 19 = .ok (.ifCond .eq 30, 3) := by decide +kernel
theorem dX3_refusalToHire_22 : decode cX3_refusalToHire 22 = .ok (.iload_n 3, 1) := by decide +kernel
theorem dX3_refusalToHire_23 : decode cX3_refusalToHire 23 = .ok (.bipush 100, 2) := by decide +kernel
theorem dX3_refusalToHire_25 : decode cX3_refusalToHire 25 = .ok (.sipush 200, 3) := by decide +kernel
theorem dX3_refusalToHire_28 : decode cX3_refusalToHire 28 = .ok (.invokestatic 45, 3) := by decide +kernel
theorem dX3_refusalToHire_31 : decode cX3_refusalToHire 31 = .ok (.ifCond .eq 18, 3) := by decide +kernel
theorem dX3_refusalToHire_34 : decode cX3_refusalToHire 34 = .ok (.iload 4, 2) := by decide +kernel
theorem dX3_refusalToHire_36 : decode cX3_refusalToHire 36 = .ok (.iconst 1, 1) := by decide +kernel
theorem dX3_refusalToHire_37 : decode cX3_refusalToHire 37 = .ok (.bipush 50, 2) := by decide +kernel
theorem dX3_refusalToHire_39 : decode cX3_refusalToHire 39 = .ok (.invokestatic 45, 3) := by decide +kernel
theorem dX3_refusalToHire_42 : decode cX3_refusalToHire 42 = .ok (.ifCond .eq 7, 3) := by decide +kernel
theorem dX3_refusalToHire_45 : decode cX3_refusalToHire 45 = .ok (.iconst 1, 1) := by decide +kernel
theorem dX3_refusalToHire_46 : decode cX3_refusalToHire 46 = .ok (.goto 4, 3) := by decide +kernel
theorem dX3_refusalToHire_49 : decode cX3_refusalToHire 49 = .ok (.iconst 0, 1) := by decide +kernel
theorem dX3_refusalToHire_50 : decode cX3_refusalToHire 50 = .ok (.istore 5, 2) := by decide +kernel
theorem dX3_refusalToHire_52 : decode cX3_refusalToHire 52 = .ok (.iload 5, 2) := by decide +kernel
theorem dX3_refusalToHire_54 : decode cX3_refusalToHire 54 = .ok (.ifCond .ne 7, 3) := by decide +kernel
theorem dX3_refusalToHire_57 : decode cX3_refusalToHire 57 = .ok (.getstatic 49, 3) := by decide +kernel
theorem dX3_refusalToHire_60 : decode cX3_refusalToHire 60 = .ok (.areturn, 1) := by decide +kernel
theorem dX3_refusalToHire_61 : decode cX3_refusalToHire 61 = .ok (.aload_n 0, 1) := by decide +kernel
theorem dX3_refusalToHire_62 : decode cX3_refusalToHire 62 = .ok (.getfield 12, 3) := by decide +kernel
theorem dX3_refusalToHire_65 : decode cX3_refusalToHire 65 = .ok (.getfield 55, 3) := by decide +kernel
theorem dX3_refusalToHire_68 : decode cX3_refusalToHire 68 = .ok (.bipush 6, 2) := by decide +kernel
theorem dX3_refusalToHire_70 : decode cX3_refusalToHire 70 = .ok (.if_icmp .lt 9, 3) := by decide +kernel
theorem dX3_refusalToHire_73 : decode cX3_refusalToHire 73 = .ok (.getstatic 58, 3) := by decide +kernel
theorem dX3_refusalToHire_76 : decode cX3_refusalToHire 76 = .ok (.goto 6, 3) := by decide +kernel
theorem dX3_refusalToHire_79 : decode cX3_refusalToHire 79 = .ok (.getstatic 61, 3) := by decide +kernel
theorem dX3_refusalToHire_82 : decode cX3_refusalToHire 82 = .ok (.areturn, 1) := by decide +kernel
set_option maxRecDepth 20000 in
theorem ggX3_hire_X2_openAccount : GoodIn wsX3_hire wsX2_openAccount := goodIn_r _ [7, 8, 25, 26, 27, 28, 29, 30, 31] (by decide +kernel) (by decide +kernel)
set_option maxRecDepth 20000 in
theorem gX3_hire_X2_openAccount : GoodIn wsX3_hire (wsV RX3 64 RX2 yX2_openAccount wsX2_openAccount) := goodIn_app (goodIn_of _ (by decide +kernel)) ggX3_hire_X2_openAccount
set_option maxRecDepth 20000 in
theorem ggX3_hire_X9_add : GoodIn wsX3_hire wsX9_add := goodIn_ca (goodIn_r _ [13, 14, 15, 16, 17, 18, 32, 33, 34, 35, 36, 37] (by decide +kernel) (by decide +kernel)) (goodIn_sub (fun _ h => List.mem_cons_of_mem _ (List.mem_append_right _ h)) (by decide +kernel))
set_option maxRecDepth 20000 in
theorem gX3_hire_X9_add : GoodIn wsX3_hire (wsV RX3 67 RX9 yX9_add wsX9_add) := goodIn_app (goodIn_of _ (by decide +kernel)) ggX3_hire_X9_add
theorem dX3_hire_0 : decode cX3_hire 0 = .ok (.aload_n 0, 1) := by decide +kernel
theorem dX3_hire_1 : decode cX3_hire 1 = .ok (.getfield 21, 3) := by decide +kernel
theorem dX3_hire_4 : decode cX3_hire 4 = .ok (.invokevirtual 64, 3) := by decide +kernel
theorem dX3_hire_7 : decode cX3_hire 7 = .ok (.aload_n 0, 1) := by decide +kernel
theorem dX3_hire_8 : decode cX3_hire 8 = .ok (.getfield 12, 3) := by decide +kernel
theorem dX3_hire_11 : decode cX3_hire 11 = .ok (.iload_n 1, 1) := by decide +kernel
theorem dX3_hire_12 : decode cX3_hire 12 = .ok (.iload_n 2, 1) := by decide +kernel
theorem dX3_hire_13 : decode cX3_hire 13 = .ok (.iload_n 3, 1) := by decide +kernel
theorem dX3_hire_14 : decode cX3_hire 14 = .ok (.iload 4, 2) := by decide +kernel
theorem dX3_hire_16 : decode cX3_hire 16 = .ok (.invokevirtual 67, 3) := by decide +kernel
theorem dX3_hire_19 : decode cX3_hire 19 = .ok (.ireturn, 1) := by decide +kernel
set_option maxRecDepth 20000 in
theorem ggX3_refusalToBook_X2_has : GoodIn wsX3_refusalToBook wsX2_has := goodIn_r _ [11, 12, 33, 34, 35, 36, 37, 38, 39] (by decide +kernel) (by decide +kernel)
set_option maxRecDepth 20000 in
theorem gX3_refusalToBook_X2_has : GoodIn wsX3_refusalToBook (wsV RX3 71 RX2 yX2_has wsX2_has) := goodIn_app (goodIn_of _ (by decide +kernel)) ggX3_refusalToBook_X2_has
set_option maxRecDepth 20000 in
theorem ggX3_refusalToBook_X3_isBetween : GoodIn wsX3_refusalToBook wsX3_isBetween := goodIn_r _ [16] (by decide +kernel) (by decide +kernel)
set_option maxRecDepth 20000 in
theorem gX3_refusalToBook_X3_isBetween : GoodIn wsX3_refusalToBook (va_wsS RX3 45 yX3_isBetween wsX3_isBetween) := goodIn_app (goodIn_of _ (by decide +kernel)) ggX3_refusalToBook_X3_isBetween
set_option maxRecDepth 20000 in
theorem ggX3_refusalToBook_X2_hasRoomFor : GoodIn wsX3_refusalToBook wsX2_hasRoomFor := goodIn_r _ [20, 21, 33, 34, 35, 36, 37, 38, 39] (by decide +kernel) (by decide +kernel)
set_option maxRecDepth 20000 in
theorem gX3_refusalToBook_X2_hasRoomFor : GoodIn wsX3_refusalToBook (wsV RX3 78 RX2 yX2_hasRoomFor wsX2_hasRoomFor) := goodIn_app (goodIn_of _ (by decide +kernel)) ggX3_refusalToBook_X2_hasRoomFor
set_option maxRecDepth 20000 in
theorem ggX3_refusalToBook_X2_overdraws : GoodIn wsX3_refusalToBook wsX2_overdraws := goodIn_ca (goodIn_r _ [25, 26, 33, 34, 35, 36, 37, 38, 39] (by decide +kernel) (by decide +kernel)) (goodIn_sub (fun _ h => List.mem_cons_of_mem _ (List.mem_append_right _ h)) (by decide +kernel))
set_option maxRecDepth 20000 in
theorem gX3_refusalToBook_X2_overdraws : GoodIn wsX3_refusalToBook (wsV RX3 81 RX2 yX2_overdraws wsX2_overdraws) := goodIn_app (goodIn_of _ (by decide +kernel)) ggX3_refusalToBook_X2_overdraws
theorem dX3_refusalToBook_0 : decode cX3_refusalToBook 0 = .ok (.aload_n 0, 1) := by decide +kernel
theorem dX3_refusalToBook_1 : decode cX3_refusalToBook 1 = .ok (.getfield 21, 3) := by decide +kernel
theorem dX3_refusalToBook_4 : decode cX3_refusalToBook 4 = .ok (.iload_n 1, 1) := by decide +kernel
theorem dX3_refusalToBook_5 : decode cX3_refusalToBook 5 = .ok (.invokevirtual 71, 3) := by decide +kernel
theorem dX3_refusalToBook_8 : decode cX3_refusalToBook 8 = .ok (.ifCond .eq 14, 3) := by decide +kernel
theorem dX3_refusalToBook_11 : decode cX3_refusalToBook 11 = .ok (.aload_n 0, 1) := by decide +kernel
theorem dX3_refusalToBook_12 : decode cX3_refusalToBook 12 = .ok (.getfield 21, 3) := by decide +kernel
theorem dX3_refusalToBook_15 : decode cX3_refusalToBook 15 = .ok (.iload_n 2, 1) := by decide +kernel
theorem dX3_refusalToBook_16 : decode cX3_refusalToBook 16 = .ok (.invokevirtual 71, 3) := by decide +kernel
theorem dX3_refusalToBook_19 : decode cX3_refusalToBook 19 = .ok (.ifCond .ne 7, 3) := by decide +kernel
theorem dX3_refusalToBook_22 : decode cX3_refusalToBook 22 = .ok (.getstatic 75, 3) := by decide +kernel
theorem dX3_refusalToBook_25 : decode cX3_refusalToBook 25 = .ok (.areturn, 1) := by decide +kernel
theorem dX3_refusalToBook_26 : decode cX3_refusalToBook 26 = .ok (.iload_n 1, 1) := by decide +kernel
theorem dX3_refusalToBook_27 : decode cX3_refusalToBook 27 = .ok (.iload_n 2, 1) := by decide +kernel
theorem dX3_refusalToBook_28 : decode cX3_refusalToBook 28 = .ok (.if_icmp .eq 14, 3) := by decide +kernel
theorem dX3_refusalToBook_31 : decode cX3_refusalToBook 31 = .ok (.iload_n 3, 1) := by decide +kernel
theorem dX3_refusalToBook_32 : decode cX3_refusalToBook 32 = .ok (.iconst 1, 1) := by decide +kernel
theorem dX3_refusalToBook_33 : decode cX3_refusalToBook 33 = .ok (.sipush 9999, 3) := by decide +kernel
theorem dX3_refusalToBook_36 : decode cX3_refusalToBook 36 = .ok (.invokestatic 45, 3) := by decide +kernel
theorem dX3_refusalToBook_39 : decode cX3_refusalToBook 39 = .ok (.ifCond .ne 7, 3) := by decide +kernel
theorem dX3_refusalToBook_42 : decode cX3_refusalToBook 42 = .ok (.getstatic 49, 3) := by decide +kernel
theorem dX3_refusalToBook_45 : decode cX3_refusalToBook 45 = .ok (.areturn, 1) := by decide +kernel
theorem dX3_refusalToBook_46 : decode cX3_refusalToBook 46 = .ok (.aload_n 0, 1) := by decide +kernel
theorem dX3_refusalToBook_47 : decode cX3_refusalToBook 47 = .ok (.getfield 21, 3) := by decide +kernel
theorem dX3_refusalToBook_50 : decode cX3_refusalToBook 50 = .ok (.iconst 1, 1) := by decide +kernel
theorem dX3_refusalToBook_51 : decode cX3_refusalToBook 51 = .ok (.invokevirtual 78, 3) := by decide +kernel
theorem dX3_refusalToBook_54 : decode cX3_refusalToBook 54 = .ok (.ifCond .ne 7, 3) := by decide +kernel
theorem dX3_refusalToBook_57 : decode cX3_refusalToBook 57 = .ok (.getstatic 58, 3) := by decide +kernel
theorem dX3_refusalToBook_60 : decode cX3_refusalToBook 60 = .ok (.areturn, 1) := by decide +kernel
theorem dX3_refusalToBook_61 : decode cX3_refusalToBook 61 = .ok (.aload_n 0, 1) := by decide +kernel
theorem dX3_refusalToBook_62 : decode cX3_refusalToBook 62 = .ok (.getfield 21, 3) := by decide +kernel
theorem dX3_refusalToBook_65 : decode cX3_refusalToBook 65 = .ok (.iload_n 2, 1) := by decide +kernel
theorem dX3_refusalToBook_66 : decode cX3_refusalToBook 66 = .ok (.iload_n 3, 1) := by decide +kernel
theorem dX3_refusalToBook_67 : decode cX3_refusalToBook 67 = .ok (.invokevirtual 81, 3) := by decide +kernel
theorem dX3_refusalToBook_70 : decode cX3_refusalToBook 70 = .ok (.ifCond .eq 9, 3) := by decide +kernel
theorem dX3_refusalToBook_73 : decode cX3_refusalToBook 73 = .ok (.getstatic 85, 3) := by decide +kernel
theorem dX3_refusalToBook_76 : decode cX3_refusalToBook 76 = .ok (.goto 6, 3) := by decide +kernel
theorem dX3_refusalToBook_79 : decode cX3_refusalToBook 79 = .ok (.getstatic 61, 3) := by decide +kernel
theorem dX3_refusalToBook_82 : decode cX3_refusalToBook 82 = .ok (.areturn, 1) := by decide +kernel
set_option maxRecDepth 20000 in
theorem ggX3_refusalToPay_X9_has : GoodIn wsX3_refusalToPay wsX9_has := goodIn_r _ [7, 8, 44, 45, 46, 47, 48, 49] (by decide +kernel) (by decide +kernel)
set_option maxRecDepth 20000 in
theorem gX3_refusalToPay_X9_has : GoodIn wsX3_refusalToPay (wsV RX3 88 RX9 yX9_has wsX9_has) := goodIn_app (goodIn_of _ (by decide +kernel)) ggX3_refusalToPay_X9_has
set_option maxRecDepth 20000 in
theorem ggX3_refusalToPay_X3_refusalToBook : GoodIn wsX3_refusalToPay wsX3_refusalToBook := goodIn_ca (goodIn_r _ [13, 14, 2, 15, 16, 17, 18, 19, 20, 21, 22, 23, 24, 25, 26, 12, 27, 28, 29, 30, 31, 32, 33, 34, 35, 36, 37, 38, 39, 40, 41, 42, 43, 50, 51, 52, 53, 54, 55, 56] (by decide +kernel) (by decide +kernel)) (goodIn_sub (fun _ h => List.mem_cons_of_mem _ (List.mem_append_right _ h)) (by decide +kernel))
set_option maxRecDepth 20000 in
theorem gX3_refusalToPay_X3_refusalToBook : GoodIn wsX3_refusalToPay (wsV RX3 89 RX3 yX3_refusalToBook wsX3_refusalToBook) := goodIn_app (goodIn_of _ (by decide +kernel)) ggX3_refusalToPay_X3_refusalToBook
theorem dX3_refusalToPay_0 : decode cX3_refusalToPay 0 = .ok (.aload_n 0, 1) := by decide +kernel
theorem dX3_refusalToPay_1 : decode cX3_refusalToPay 1 = .ok (.getfield 12, 3) := by decide +kernel
theorem dX3_refusalToPay_4 : decode cX3_refusalToPay 4 = .ok (.iload_n 1, 1) := by decide +kernel
theorem dX3_refusalToPay_5 : decode cX3_refusalToPay 5 = .ok (.invokevirtual 88, 3) := by decide +kernel
theorem dX3_refusalToPay_8 : decode cX3_refusalToPay 8 = .ok (.ifCond .ne 7, 3) := by decide +kernel
theorem dX3_refusalToPay_11 : decode cX3_refusalToPay 11 = .ok (.getstatic 75, 3) := by decide +kernel
theorem dX3_refusalToPay_14 : decode cX3_refusalToPay 14 = .ok (.areturn, 1) := by decide +kernel
theorem dX3_refusalToPay_15 : decode cX3_refusalToPay 15 = .ok (.aload_n 0, 1) := by decide +kernel
theorem dX3_refusalToPay_16 : decode cX3_refusalToPay 16 = .ok (.iconst 5, 1) := by decide +kernel
theorem dX3_refusalToPay_17 : decode cX3_refusalToPay 17 = .ok (.iload_n 1, 1) := by decide +kernel
theorem dX3_refusalToPay_18 : decode cX3_refusalToPay 18 = .ok (.iadd, 1) := by decide +kernel
theorem dX3_refusalToPay_19 : decode cX3_refusalToPay 19 = .ok (.iconst 0, 1) := by decide +kernel
theorem dX3_refusalToPay_20 : decode cX3_refusalToPay 20 = .ok (.iload_n 2, 1) := by decide +kernel
theorem dX3_refusalToPay_21 : decode cX3_refusalToPay 21 = .ok (.invokevirtual 89, 3) := by decide +kernel
theorem dX3_refusalToPay_24 : decode cX3_refusalToPay 24 = .ok (.areturn, 1) := by decide +kernel
set_option maxRecDepth 20000 in
theorem ggX3_pay_X2_book : GoodIn wsX3_pay wsX2_book := goodIn_ca (goodIn_r _ [7, 8, 9, 10, 11, 12, 19, 20, 21, 22, 23, 24, 25] (by decide +kernel) (by decide +kernel)) (goodIn_sub (fun _ h => List.mem_cons_of_mem _ (List.mem_append_right _ h)) (by decide +kernel))
set_option maxRecDepth 20000 in
theorem gX3_pay_X2_book : GoodIn wsX3_pay (wsV RX3 93 RX2 yX2_book wsX2_book) := goodIn_app (goodIn_of _ (by decide +kernel)) ggX3_pay_X2_book
theorem dX3_pay_0 : decode cX3_pay 0 = .ok (.iconst 5, 1) := by decide +kernel
theorem dX3_pay_1 : decode cX3_pay 1 = .ok (.iload_n 1, 1) := by decide +kernel
theorem dX3_pay_2 : decode cX3_pay 2 = .ok (.iadd, 1) := by decide +kernel
theorem dX3_pay_3 : decode cX3_pay 3 = .ok (.istore_n 3, 1) := by decide +kernel
theorem dX3_pay_4 : decode cX3_pay 4 = .ok (.aload_n 0, 1) := by decide +kernel
theorem dX3_pay_5 : decode cX3_pay 5 = .ok (.getfield 21, 3) := by decide +kernel
theorem dX3_pay_8 : decode cX3_pay 8 = .ok (.iload_n 3, 1) := by decide +kernel
theorem dX3_pay_9 : decode cX3_pay 9 = .ok (.iconst 0, 1) := by decide +kernel
theorem dX3_pay_10 : decode cX3_pay 10 = .ok (.iload_n 2, 1) := by decide +kernel
theorem dX3_pay_11 : decode cX3_pay 11 = .ok (.invokevirtual 93, 3) := by decide +kernel
theorem dX3_pay_14 : decode cX3_pay 14 = .ok (.pop, 1) := by decide +kernel
theorem dX3_pay_15 : decode cX3_pay 15 = .ok (.aload_n 0, 1) := by decide +kernel
theorem dX3_pay_16 : decode cX3_pay 16 = .ok (.getfield 21, 3) := by decide +kernel
theorem dX3_pay_19 : decode cX3_pay 19 = .ok (.getfield 97, 3) := by decide +kernel
theorem dX3_pay_22 : decode cX3_pay 22 = .ok (.iload_n 3, 1) := by decide +kernel
theorem dX3_pay_23 : decode cX3_pay 23 = .ok (.iaload, 1) := by decide +kernel
theorem dX3_pay_24 : decode cX3_pay 24 = .ok (.ireturn, 1) := by decide +kernel
set_option maxRecDepth 20000 in
theorem ggX3_refusalToShow_X9_isSet : GoodIn wsX3_refusalToShow wsX9_isSet := goodIn_r _ [11, 12, 86, 87, 88, 89, 90, 91] (by decide +kernel) (by decide +kernel)
set_option maxRecDepth 20000 in
theorem gX3_refusalToShow_X9_isSet : GoodIn wsX3_refusalToShow (wsV RX3 101 RX9 yX9_isSet wsX9_isSet) := goodIn_app (goodIn_of _ (by decide +kernel)) ggX3_refusalToShow_X9_isSet
set_option maxRecDepth 20000 in
theorem ggX3_refusalToShow_X9_fitSet : GoodIn wsX3_refusalToShow wsX9_fitSet := goodIn_ca (goodIn_r _ [16, 12, 17, 86, 87, 88, 89, 90, 91] (by decide +kernel) (by decide +kernel)) (goodIn_sub (fun _ h => List.mem_cons_of_mem _ (List.mem_append_right _ h)) (by decide +kernel))
set_option maxRecDepth 20000 in
theorem gX3_refusalToShow_X9_fitSet : GoodIn wsX3_refusalToShow (wsV RX3 104 RX9 yX9_fitSet wsX9_fitSet) := goodIn_app (goodIn_of _ (by decide +kernel)) ggX3_refusalToShow_X9_fitSet
set_option maxRecDepth 20000 in
theorem ggX3_refusalToShow_X9_damagesOf : GoodIn wsX3_refusalToShow wsX9_damagesOf := goodIn_ca (goodIn_r _ [21, 22, 23, 24, 10, 25, 12, 26, 27, 28, 29, 30, 31, 32, 33, 34, 35, 36, 37, 38, 39, 40, 41, 42, 43, 44, 45, 46, 47, 48, 49, 50, 51, 52, 53, 54, 86, 87, 88, 89, 90, 91] (by decide +kernel) (by decide +kernel)) (goodIn_sub (fun _ h => List.mem_cons_of_mem _ (List.mem_append_right _ h)) (by decide +kernel))
set_option maxRecDepth 20000 in
theorem gX3_refusalToShow_X9_damagesOf : GoodIn wsX3_refusalToShow (wsV RX3 108 RX9 yX9_damagesOf wsX9_damagesOf) := goodIn_app (goodIn_of _ (by decide +kernel)) ggX3_refusalToShow_X9_damagesOf
set_option maxRecDepth 20000 in
theorem ggX3_refusalToShow_X3_entriesOfShow : GoodIn wsX3_refusalToShow wsX3_entriesOfShow := goodIn_ca (goodIn_r _ [59, 60, 45, 46, 47, 48, 49, 50, 61, 62, 63, 58, 64, 4, 65, 66, 67, 68, 69, 70, 71, 72, 73, 80, 81, 82, 83, 84, 85, 92, 93, 94, 95, 96, 97, 98] (by decide +kernel) (by decide +kernel)) (goodIn_sub (fun _ h => List.mem_cons_of_mem _ (List.mem_append_right _ h)) (by decide +kernel))
set_option maxRecDepth 20000 in
theorem gX3_refusalToShow_X3_entriesOfShow : GoodIn wsX3_refusalToShow (wsV RX3 112 RX3 yX3_entriesOfShow wsX3_entriesOfShow) := goodIn_app (goodIn_of _ (by decide +kernel)) ggX3_refusalToShow_X3_entriesOfShow
set_option maxRecDepth 20000 in
theorem ggX3_refusalToShow_X2_hasRoomFor : GoodIn wsX3_refusalToShow wsX2_hasRoomFor := goodIn_r _ [78, 79, 92, 93, 94, 95, 96, 97, 98] (by decide +kernel) (by decide +kernel)
set_option maxRecDepth 20000 in
theorem gX3_refusalToShow_X2_hasRoomFor : GoodIn wsX3_refusalToShow (wsV RX3 78 RX2 yX2_hasRoomFor wsX2_hasRoomFor) := goodIn_app (goodIn_of _ (by decide +kernel)) ggX3_refusalToShow_X2_hasRoomFor
theorem dX3_refusalToShow_0 : decode cX3_refusalToShow 0 = .ok (.aload_n 0, 1) := by decide +kernel
theorem dX3_refusalToShow_1 : decode cX3_refusalToShow 1 = .ok (.getfield 12, 3) := by decide +kernel
theorem dX3_refusalToShow_4 : decode cX3_refusalToShow 4 = .ok (.iload_n 1, 1) := by decide +kernel
theorem dX3_refusalToShow_5 : decode cX3_refusalToShow 5 = .ok (.invokevirtual 101, 3) := by decide +kernel
theorem dX3_refusalToShow_8 : decode cX3_refusalToShow 8 = .ok (.ifCond .ne 7, 3) := by decide +kernel
theorem dX3_refusalToShow_11 : decode cX3_refusalToShow 11 = .ok (.getstatic 49, 3) := by decide +kernel
theorem dX3_refusalToShow_14 : decode cX3_refusalToShow 14 = .ok (.areturn, 1) := by decide +kernel
theorem dX3_refusalToShow_15 : decode cX3_refusalToShow 15 = .ok (.iload_n 1, 1) := by decide +kernel
theorem dX3_refusalToShow_16 : decode cX3_refusalToShow 16 = .ok (.aload_n 0, 1) := by decide +kernel
theorem dX3_refusalToShow_17 : decode cX3_refusalToShow 17 = .ok (.getfield 12, 3) := by decide +kernel
theorem dX3_refusalToShow_20 : decode cX3_refusalToShow 20 = .ok (.invokevirtual 104, 3) := by decide +kernel
theorem dX3_refusalToShow_23 : decode cX3_refusalToShow 23 = .ok (.iand, 1) := by decide +kernel
theorem dX3_refusalToShow_24 : decode cX3_refusalToShow 24 = .ok (.iload_n 1, 1) := by decide +kernel
theorem dX3_refusalToShow_25 : decode cX3_refusalToShow 25 = .ok (.if_icmp .eq 7, 3) := by decide +kernel
theorem dX3_refusalToShow_28 : decode cX3_refusalToShow 28 = .ok (.getstatic 85, 3) := by decide +kernel
theorem dX3_refusalToShow_31 : decode cX3_refusalToShow 31 = .ok (.areturn, 1) := by decide +kernel
theorem dX3_refusalToShow_32 : decode cX3_refusalToShow 32 = .ok (.aload_n 0, 1) := by decide +kernel
theorem dX3_refusalToShow_33 : decode cX3_refusalToShow 33 = .ok (.iload_n 1, 1) := by decide +kernel
theorem dX3_refusalToShow_34 : decode cX3_refusalToShow 34 = .ok (.aload_n 0, 1) := by decide +kernel
theorem dX3_refusalToShow_35 : decode cX3_refusalToShow 35 = .ok (.getfield 12, 3) := by decide +kernel
theorem dX3_refusalToShow_38 : decode cX3_refusalToShow 38 = .ok (.iload_n 1, 1) := by decide +kernel
theorem dX3_refusalToShow_39 : decode cX3_refusalToShow 39 = .ok (.invokevirtual 108, 3) := by decide +kernel
theorem dX3_refusalToShow_42 : decode cX3_refusalToShow 42 = .ok (.invokevirtual 112, 3) := by decide +kernel
theorem dX3_refusalToShow_45 : decode cX3_refusalToShow 45 = .ok (.istore_n 2, 1) := by decide +kernel
theorem dX3_refusalToShow_46 : decode cX3_refusalToShow 46 = .ok (.aload_n 0, 1) := by decide +kernel
theorem dX3_refusalToShow_47 : decode cX3_refusalToShow 47 = .ok (.getfield 21, 3) := by decide +kernel
theorem dX3_refusalToShow_50 : decode cX3_refusalToShow 50 = .ok (.iload_n 2, 1) := by decide +kernel
theorem dX3_refusalToShow_51 : decode cX3_refusalToShow 51 = .ok (.invokevirtual 78, 3) := by decide +kernel
theorem dX3_refusalToShow_54 : decode cX3_refusalToShow 54 = .ok (.ifCond .eq 9, 3) := by decide +kernel
theorem dX3_refusalToShow_57 : decode cX3_refusalToShow 57 = .ok (.getstatic 61, 3) := by decide +kernel
theorem dX3_refusalToShow_60 : decode cX3_refusalToShow 60 = .ok (.goto 6, 3) := by decide +kernel
theorem dX3_refusalToShow_63 : decode cX3_refusalToShow 63 = .ok (.getstatic 58, 3) := by decide +kernel
theorem dX3_refusalToShow_66 : decode cX3_refusalToShow 66 = .ok (.areturn, 1) := by decide +kernel
set_option maxRecDepth 20000 in
theorem ggX3_giveShow_X9_overloadedOf : GoodIn wsX3_giveShow wsX9_overloadedOf := goodIn_ca (goodIn_r _ [7, 8, 9, 10, 11, 12, 6, 13, 14, 15, 16, 17, 18, 19, 20, 21, 22, 104, 105, 106, 107, 108, 109] (by decide +kernel) (by decide +kernel)) (goodIn_sub (fun _ h => List.mem_cons_of_mem _ (List.mem_append_right _ h)) (by decide +kernel))
set_option maxRecDepth 20000 in
theorem gX3_giveShow_X9_overloadedOf : GoodIn wsX3_giveShow (wsV RX3 116 RX9 yX9_overloadedOf wsX9_overloadedOf) := goodIn_app (goodIn_of _ (by decide +kernel)) ggX3_giveShow_X9_overloadedOf
set_option maxRecDepth 20000 in
theorem ggX3_giveShow_X3_bookSuccess : GoodIn wsX3_giveShow wsX3_bookSuccess := goodIn_ca (goodIn_r _ [27, 2, 28, 29, 30, 31, 32, 33, 6, 34, 8, 35, 10, 11, 12, 13, 36, 37, 38, 39, 40, 41, 42, 43, 44, 45, 46, 98, 99, 100, 101, 102, 103, 104, 105, 106, 107, 108, 109, 110, 111, 112, 113, 114, 115, 116] (by decide +kernel) (by decide +kernel)) (goodIn_sub (fun _ h => List.mem_cons_of_mem _ (List.mem_append_right _ h)) (by decide +kernel))
set_option maxRecDepth 20000 in
theorem gX3_giveShow_X3_bookSuccess : GoodIn wsX3_giveShow (wsV RX3 119 RX3 yX3_bookSuccess wsX3_bookSuccess) := goodIn_app (goodIn_of _ (by decide +kernel)) ggX3_giveShow_X3_bookSuccess
set_option maxRecDepth 20000 in
theorem ggX3_giveShow_X3_bookFall : GoodIn wsX3_giveShow wsX3_bookFall := goodIn_ca (goodIn_r _ [50, 2, 28, 51, 52, 53, 54, 55, 6, 56, 57, 58, 59, 60, 61, 62, 63, 64, 65, 66, 67, 8, 10, 11, 12, 13, 19, 20, 21, 22, 18, 9, 68, 69, 70, 26, 71, 72, 73, 74, 75, 76, 77, 78, 79, 80, 36, 37, 38, 39, 40, 41, 42, 43, 44, 45, 81, 82, 83, 84, 85, 98, 99, 100, 101, 102, 103, 104, 105, 106, 107, 108, 109, 110, 111, 112, 113, 114, 115, 116] (by decide +kernel) (by decide +kernel)) (goodIn_sub (fun _ h => List.mem_cons_of_mem _ (List.mem_append_right _ h)) (by decide +kernel))
set_option maxRecDepth 20000 in
theorem gX3_giveShow_X3_bookFall : GoodIn wsX3_giveShow (wsV RX3 122 RX3 yX3_bookFall wsX3_bookFall) := goodIn_app (goodIn_of _ (by decide +kernel)) ggX3_giveShow_X3_bookFall
set_option maxRecDepth 20000 in
theorem ggX3_giveShow_X3_waitNights : GoodIn wsX3_giveShow wsX3_waitNights := goodIn_ca (goodIn_r _ [89, 90, 2, 91, 92, 93, 6, 94, 8, 85, 95, 96, 75, 97, 98, 99, 100, 101, 102, 103, 104, 105, 106, 107, 108, 109] (by decide +kernel) (by decide +kernel)) (goodIn_sub (fun _ h => List.mem_cons_of_mem _ (List.mem_append_right _ h)) (by decide +kernel))
set_option maxRecDepth 20000 in
theorem gX3_giveShow_X3_waitNights : GoodIn wsX3_giveShow (wsV RX3 125 RX3 yX3_waitNights wsX3_waitNights) := goodIn_app (goodIn_of _ (by decide +kernel)) ggX3_giveShow_X3_waitNights
theorem dX3_giveShow_0 : decode cX3_giveShow 0 = .ok (.aload_n 0, 1) := by decide +kernel
theorem dX3_giveShow_1 : decode cX3_giveShow 1 = .ok (.dup, 1) := by decide +kernel
theorem dX3_giveShow_2 : decode cX3_giveShow 2 = .ok (.getfield 39, 3) := by decide +kernel
theorem dX3_giveShow_5 : decode cX3_giveShow 5 = .ok (.iconst 1, 1) := by decide +kernel
theorem dX3_giveShow_6 : decode cX3_giveShow 6 = .ok (.iadd, 1) := by decide +kernel
theorem dX3_giveShow_7 : decode cX3_giveShow 7 = .ok (.putfield 39, 3) := by decide +kernel
theorem dX3_giveShow_10 : decode cX3_giveShow 10 = .ok (.aload_n 0, 1) := by decide +kernel
theorem dX3_giveShow_11 : decode cX3_giveShow 11 = .ok (.getfield 12, 3) := by decide +kernel
theorem dX3_giveShow_14 : decode cX3_giveShow 14 = .ok (.iload_n 1, 1) := by decide +kernel
theorem dX3_giveShow_15 : decode cX3_giveShow 15 = .ok (.invokevirtual 116, 3) := by decide +kernel
theorem dX3_giveShow_18 : decode cX3_giveShow 18 = .ok (.istore_n 2, 1) := by decide +kernel
theorem dX3_giveShow_19 : decode cX3_giveShow 19 = .ok (.iload_n 2, 1) := by decide +kernel
theorem dX3_giveShow_20 : decode cX3_giveShow 20 = .ok (.iconst (-1), 1) := by decide +kernel
theorem dX3_giveShow_21 : decode cX3_giveShow 21 = .ok (.if_icmp .ne 11, 3) := by decide +kernel
theorem dX3_giveShow_24 : decode cX3_giveShow 24 = .ok (.aload_n 0, 1) := by decide +kernel
theorem dX3_giveShow_25 : decode cX3_giveShow 25 = .ok (.iload_n 1, 1) := by decide +kernel
theorem dX3_giveShow_26 : decode cX3_giveShow 26 = .ok (.invokevirtual 119, 3) := by decide +kernel
theorem dX3_giveShow_29 : decode cX3_giveShow 29 = .ok (.goto 10, 3) := by decide +kernel
theorem dX3_giveShow_32 : decode cX3_giveShow 32 = .ok (.aload_n 0, 1) := by decide +kernel
theorem dX3_giveShow_33 : decode cX3_giveShow 33 = .ok (.iload_n 1, 1) := by decide +kernel
theorem dX3_giveShow_34 : decode cX3_giveShow 34 = .ok (.iload_n 2, 1) := by decide +kernel
theorem dX3_giveShow_35 : decode cX3_giveShow 35 = .ok (.invokevirtual 122, 3) := by decide +kernel
theorem dX3_giveShow_38 : decode cX3_giveShow 38 = .ok (.ineg, 1) := by decide +kernel
theorem dX3_giveShow_39 : decode cX3_giveShow 39 = .ok (.istore_n 3, 1) := by decide +kernel
theorem dX3_giveShow_40 : decode cX3_giveShow 40 = .ok (.aload_n 0, 1) := by decide +kernel
theorem dX3_giveShow_41 : decode cX3_giveShow 41 = .ok (.iconst 1, 1) := by decide +kernel
theorem dX3_giveShow_42 : decode cX3_giveShow 42 = .ok (.invokevirtual 125, 3) := by decide +kernel
theorem dX3_giveShow_45 : decode cX3_giveShow 45 = .ok (.pop, 1) := by decide +kernel
theorem dX3_giveShow_46 : decode cX3_giveShow 46 = .ok (.iload_n 3, 1) := by decide +kernel
theorem dX3_giveShow_47 : decode cX3_giveShow 47 = .ok (.ireturn, 1) := by decide +kernel
set_option maxRecDepth 20000 in
theorem ggX3_refusalToSpan_X3_isBetween : GoodIn wsX3_refusalToSpan wsX3_isBetween := goodIn_r _ [6] (by decide +kernel) (by decide +kernel)
set_option maxRecDepth 20000 in
theorem gX3_refusalToSpan_X3_isBetween : GoodIn wsX3_refusalToSpan (va_wsS RX3 45 yX3_isBetween wsX3_isBetween) := goodIn_app (goodIn_of _ (by decide +kernel)) ggX3_refusalToSpan_X3_isBetween
theorem dX3_refusalToSpan_0 : decode cX3_refusalToSpan 0 = .ok (.iload_n 1, 1) := by decide +kernel
theorem dX3_refusalToSpan_1 : decode cX3_refusalToSpan 1 = .ok (.iconst 0, 1) := by decide +kernel
theorem dX3_refusalToSpan_2 : decode cX3_refusalToSpan 2 = .ok (.iconst 5, 1) := by decide +kernel
theorem dX3_refusalToSpan_3 : decode cX3_refusalToSpan 3 = .ok (.invokestatic 45, 3) := by decide +kernel
theorem dX3_refusalToSpan_6 : decode cX3_refusalToSpan 6 = .ok (.ifCond .eq 9, 3) := by decide +kernel
theorem dX3_refusalToSpan_9 : decode cX3_refusalToSpan 9 = .ok (.getstatic 61, 3) := by decide +kernel
theorem dX3_refusalToSpan_12 : decode cX3_refusalToSpan 12 = .ok (.goto 6, 3) := by decide +kernel
theorem dX3_refusalToSpan_15 : decode cX3_refusalToSpan 15 = .ok (.getstatic 49, 3) := by decide +kernel
theorem dX3_refusalToSpan_18 : decode cX3_refusalToSpan 18 = .ok (.areturn, 1) := by decide +kernel
theorem dX3_spanNet_0 : decode cX3_spanNet 0 = .ok (.aload_n 0, 1) := by decide +kernel
theorem dX3_spanNet_1 : decode cX3_spanNet 1 = .ok (.getfield 36, 3) := by decide +kernel
theorem dX3_spanNet_4 : decode cX3_spanNet 4 = .ok (.istore_n 2, 1) := by decide +kernel
theorem dX3_spanNet_5 : decode cX3_spanNet 5 = .ok (.aload_n 0, 1) := by decide +kernel
theorem dX3_spanNet_6 : decode cX3_spanNet 6 = .ok (.iload_n 1, 1) := by decide +kernel
theorem dX3_spanNet_7 : decode cX3_spanNet 7 = .ok (.putfield 36, 3) := by decide +kernel
theorem dX3_spanNet_10 : decode cX3_spanNet 10 = .ok (.iload_n 2, 1) := by decide +kernel
theorem dX3_spanNet_11 : decode cX3_spanNet 11 = .ok (.ireturn, 1) := by decide +kernel
set_option maxRecDepth 20000 in
theorem ggX3_refusalToWait_X3_isBetween : GoodIn wsX3_refusalToWait wsX3_isBetween := goodIn_r _ [6] (by decide +kernel) (by decide +kernel)
set_option maxRecDepth 20000 in
theorem gX3_refusalToWait_X3_isBetween : GoodIn wsX3_refusalToWait (va_wsS RX3 45 yX3_isBetween wsX3_isBetween) := goodIn_app (goodIn_of _ (by decide +kernel)) ggX3_refusalToWait_X3_isBetween
theorem dX3_refusalToWait_0 : decode cX3_refusalToWait 0 = .ok (.iload_n 1, 1) := by decide +kernel
theorem dX3_refusalToWait_1 : decode cX3_refusalToWait 1 = .ok (.iconst 1, 1) := by decide +kernel
theorem dX3_refusalToWait_2 : decode cX3_refusalToWait 2 = .ok (.bipush 99, 2) := by decide +kernel
theorem dX3_refusalToWait_4 : decode cX3_refusalToWait 4 = .ok (.invokestatic 45, 3) := by decide +kernel
theorem dX3_refusalToWait_7 : decode cX3_refusalToWait 7 = .ok (.ifCond .eq 9, 3) := by decide +kernel
theorem dX3_refusalToWait_10 : decode cX3_refusalToWait 10 = .ok (.getstatic 61, 3) := by decide +kernel
theorem dX3_refusalToWait_13 : decode cX3_refusalToWait 13 = .ok (.goto 6, 3) := by decide +kernel
theorem dX3_refusalToWait_16 : decode cX3_refusalToWait 16 = .ok (.getstatic 49, 3) := by decide +kernel
theorem dX3_refusalToWait_19 : decode cX3_refusalToWait 19 = .ok (.areturn, 1) := by decide +kernel
set_option maxRecDepth 20000 in
theorem ggX3_waitNights_X9_heal : GoodIn wsX3_waitNights wsX9_heal := goodIn_ca (goodIn_r _ [7, 8, 9, 10, 11, 12, 13, 20, 21, 22, 23, 24, 25] (by decide +kernel) (by decide +kernel)) (goodIn_sub (fun _ h => List.mem_cons_of_mem _ (List.mem_append_right _ h)) (by decide +kernel))
set_option maxRecDepth 20000 in
theorem gX3_waitNights_X9_heal : GoodIn wsX3_waitNights (wsV RX3 128 RX9 yX9_heal wsX9_heal) := goodIn_app (goodIn_of _ (by decide +kernel)) ggX3_waitNights_X9_heal
theorem dX3_waitNights_0 : decode cX3_waitNights 0 = .ok (.aload_n 0, 1) := by decide +kernel
theorem dX3_waitNights_1 : decode cX3_waitNights 1 = .ok (.dup, 1) := by decide +kernel
theorem dX3_waitNights_2 : decode cX3_waitNights 2 = .ok (.getfield 32, 3) := by decide +kernel
theorem dX3_waitNights_5 : decode cX3_waitNights 5 = .ok (.iload_n 1, 1) := by decide +kernel
theorem dX3_waitNights_6 : decode cX3_waitNights 6 = .ok (.iadd, 1) := by decide +kernel
theorem dX3_waitNights_7 : decode cX3_waitNights 7 = .ok (.putfield 32, 3) := by decide +kernel
theorem dX3_waitNights_10 : decode cX3_waitNights 10 = .ok (.aload_n 0, 1) := by decide +kernel
theorem dX3_waitNights_11 : decode cX3_waitNights 11 = .ok (.getfield 12, 3) := by decide +kernel
theorem dX3_waitNights_14 : decode cX3_waitNights 14 = .ok (.iload_n 1, 1) := by decide +kernel
theorem dX3_waitNights_15 : decode cX3_waitNights 15 = .ok (.invokevirtual 128, 3) := by decide +kernel
theorem dX3_waitNights_18 : decode cX3_waitNights 18 = .ok (.ireturn, 1) := by decide +kernel
set_option maxRecDepth 20000 in
theorem ggX3_refusalToOffset_X2_has : GoodIn wsX3_refusalToOffset wsX2_has := goodIn_r _ [9, 10, 34, 35, 36, 37, 38, 39, 40] (by decide +kernel) (by decide +kernel)
set_option maxRecDepth 20000 in
theorem gX3_refusalToOffset_X2_has : GoodIn wsX3_refusalToOffset (wsV RX3 71 RX2 yX2_has wsX2_has) := goodIn_app (goodIn_of _ (by decide +kernel)) ggX3_refusalToOffset_X2_has
set_option maxRecDepth 20000 in
theorem ggX3_refusalToOffset_X2_areOpposed : GoodIn wsX3_refusalToOffset wsX2_areOpposed := goodIn_ca (goodIn_r _ [14, 15, 16, 17, 18, 19, 20, 21, 22, 34, 35, 36, 37, 38, 39, 40] (by decide +kernel) (by decide +kernel)) (goodIn_sub (fun _ h => List.mem_cons_of_mem _ (List.mem_append_right _ h)) (by decide +kernel))
set_option maxRecDepth 20000 in
theorem gX3_refusalToOffset_X2_areOpposed : GoodIn wsX3_refusalToOffset (wsV RX3 131 RX2 yX2_areOpposed wsX2_areOpposed) := goodIn_app (goodIn_of _ (by decide +kernel)) ggX3_refusalToOffset_X2_areOpposed
set_option maxRecDepth 20000 in
theorem ggX3_refusalToOffset_X2_hasRoomFor : GoodIn wsX3_refusalToOffset wsX2_hasRoomFor := goodIn_r _ [26, 27, 34, 35, 36, 37, 38, 39, 40] (by decide +kernel) (by decide +kernel)
set_option maxRecDepth 20000 in
theorem gX3_refusalToOffset_X2_hasRoomFor : GoodIn wsX3_refusalToOffset (wsV RX3 78 RX2 yX2_hasRoomFor wsX2_hasRoomFor) := goodIn_app (goodIn_of _ (by decide +kernel)) ggX3_refusalToOffset_X2_hasRoomFor
theorem dX3_refusalToOffset_0 : decode cX3_refusalToOffset 0 = .ok (.aload_n 0, 1) := by decide +kernel
theorem dX3_refusalToOffset_1 : decode cX3_refusalToOffset 1 = .ok (.getfield 21, 3) := by decide +kernel
theorem dX3_refusalToOffset_4 : decode cX3_refusalToOffset 4 = .ok (.iload_n 1, 1) := by decide +kernel
theorem dX3_refusalToOffset_5 : decode cX3_refusalToOffset 5 = .ok (.invokevirtual 71, 3) := by decide +kernel
theorem dX3_refusalToOffset_8 : decode cX3_refusalToOffset 8 = .ok (.ifCond .eq 14, 3) := by decide +kernel
theorem dX3_refusalToOffset_11 : decode cX3_refusalToOffset 11 = .ok (.aload_n 0, 1) := by decide +kernel
theorem dX3_refusalToOffset_12 : decode cX3_refusalToOffset 12 = .ok (.getfield 21, 3) := by decide +kernel
theorem dX3_refusalToOffset_15 : decode cX3_refusalToOffset 15 = .ok (.iload_n 2, 1) := by decide +kernel
theorem dX3_refusalToOffset_16 : decode cX3_refusalToOffset 16 = .ok (.invokevirtual 71, 3) := by decide +kernel
theorem dX3_refusalToOffset_19 : decode cX3_refusalToOffset 19 = .ok (.ifCond .ne 7, 3) := by decide +kernel
theorem dX3_refusalToOffset_22 : decode cX3_refusalToOffset 22 = .ok (.getstatic 75, 3) := by decide +kernel
theorem dX3_refusalToOffset_25 : decode cX3_refusalToOffset 25 = .ok (.areturn, 1) := by decide +kernel
theorem dX3_refusalToOffset_26 : decode cX3_refusalToOffset 26 = .ok (.aload_n 0, 1) := by decide +kernel
theorem dX3_refusalToOffset_27 : decode cX3_refusalToOffset 27 = .ok (.getfield 21, 3) := by decide +kernel
theorem dX3_refusalToOffset_30 : decode cX3_refusalToOffset 30 = .ok (.iload_n 1, 1) := by decide +kernel
theorem dX3_refusalToOffset_31 : decode cX3_refusalToOffset 31 = .ok (.iload_n 2, 1) := by decide +kernel
theorem dX3_refusalToOffset_32 : decode cX3_refusalToOffset 32 = .ok (.invokevirtual 131, 3) := by decide +kernel
theorem dX3_refusalToOffset_35 : decode cX3_refusalToOffset 35 = .ok (.ifCond .eq 20, 3) := by decide +kernel
theorem dX3_refusalToOffset_38 : decode cX3_refusalToOffset 38 = .ok (.aload_n 0, 1) := by decide +kernel
theorem dX3_refusalToOffset_39 : decode cX3_refusalToOffset 39 = .ok (.getfield 21, 3) := by decide +kernel
theorem dX3_refusalToOffset_42 : decode cX3_refusalToOffset 42 = .ok (.iconst 1, 1) := by decide +kernel
theorem dX3_refusalToOffset_43 : decode cX3_refusalToOffset 43 = .ok (.invokevirtual 78, 3) := by decide +kernel
theorem dX3_refusalToOffset_46 : decode cX3_refusalToOffset 46 = .ok (.ifCond .eq 9, 3) := by decide +kernel
theorem dX3_refusalToOffset_49 : decode cX3_refusalToOffset 49 = .ok (.getstatic 61, 3) := by decide +kernel
theorem dX3_refusalToOffset_52 : decode cX3_refusalToOffset 52 = .ok (.goto 6, 3) := by decide +kernel
theorem dX3_refusalToOffset_55 : decode cX3_refusalToOffset 55 = .ok (.getstatic 58, 3) := by decide +kernel
theorem dX3_refusalToOffset_58 : decode cX3_refusalToOffset 58 = .ok (.areturn, 1) := by decide +kernel
set_option maxRecDepth 20000 in
theorem ggX3_entriesOfShow_J6_bitCount_0f7a4 : GoodIn wsX3_entriesOfShow wsJ6_bitCount_0f7a4 := goodIn_r _ [4, 5, 6, 7] (by decide +kernel) (by decide +kernel)
set_option maxRecDepth 20000 in
theorem gX3_entriesOfShow_J6_bitCount_0f7a4 : GoodIn wsX3_entriesOfShow (va_wsS RX3 134 yJ6_bitCount_0f7a4 wsJ6_bitCount_0f7a4) := goodIn_app (goodIn_of _ (by decide +kernel)) ggX3_entriesOfShow_J6_bitCount_0f7a4
set_option maxRecDepth 20000 in
theorem ggX3_entriesOfShow_X3_fromReserve : GoodIn wsX3_entriesOfShow wsX3_fromReserve := goodIn_ca (goodIn_r _ [12, 13, 14, 15, 16, 17, 18, 23, 24, 25, 26, 27, 28, 29, 30, 31, 32, 33, 34, 35] (by decide +kernel) (by decide +kernel)) (goodIn_sub (fun _ h => List.mem_cons_of_mem _ (List.mem_append_right _ h)) (by decide +kernel))
set_option maxRecDepth 20000 in
theorem gX3_entriesOfShow_X3_fromReserve : GoodIn wsX3_entriesOfShow (wsV RX3 139 RX3 yX3_fromReserve wsX3_fromReserve) := goodIn_app (goodIn_of _ (by decide +kernel)) ggX3_entriesOfShow_X3_fromReserve
set_option maxRecDepth 20000 in
theorem ggX3_entriesOfShow_X3_fromCash : GoodIn wsX3_entriesOfShow wsX3_fromCash := goodIn_ca (goodIn_r _ [22, 13, 14, 15, 16, 17, 18, 8, 9, 10, 11, 12, 23, 24, 25, 26, 27, 28, 29, 30, 31, 32, 33, 34, 35] (by decide +kernel) (by decide +kernel)) (goodIn_sub (fun _ h => List.mem_cons_of_mem _ (List.mem_append_right _ h)) (by decide +kernel))
set_option maxRecDepth 20000 in
theorem gX3_entriesOfShow_X3_fromCash : GoodIn wsX3_entriesOfShow (wsV RX3 142 RX3 yX3_fromCash wsX3_fromCash) := goodIn_app (goodIn_of _ (by decide +kernel)) ggX3_entriesOfShow_X3_fromCash
theorem dX3_entriesOfShow_0 : decode cX3_entriesOfShow 0 = .ok (.iload_n 2, 1) := by decide +kernel
theorem dX3_entriesOfShow_1 : decode cX3_entriesOfShow 1 = .ok (.ifCond .ne 10, 3) := by decide +kernel
theorem dX3_entriesOfShow_4 : decode cX3_entriesOfShow 4 = .ok (.iconst 1, 1) := by decide +kernel
theorem dX3_entriesOfShow_5 : decode cX3_entriesOfShow 5 = .ok (.iload_n 1, 1) := by decide +kernel
theorem dX3_entriesOfShow_6 : decode cX3_entriesOfShow 6 = .ok (.invokestatic 134, 3) := by decide +kernel
theorem dX3_entriesOfShow_9 : decode cX3_entriesOfShow 9 = .ok (.iadd, 1) := by decide +kernel
theorem dX3_entriesOfShow_10 : decode cX3_entriesOfShow 10 = .ok (.ireturn, 1) := by decide +kernel
theorem dX3_entriesOfShow_11 : decode cX3_entriesOfShow 11 = .ok (.aload_n 0, 1) := by decide +kernel
theorem dX3_entriesOfShow_12 : decode cX3_entriesOfShow 12 = .ok (.iload_n 2, 1) := by decide +kernel
theorem dX3_entriesOfShow_13 : decode cX3_entriesOfShow 13 = .ok (.invokevirtual 139, 3) := by decide +kernel
theorem dX3_entriesOfShow_16 : decode cX3_entriesOfShow 16 = .ok (.ifCond .le 7, 3) := by decide +kernel
theorem dX3_entriesOfShow_19 : decode cX3_entriesOfShow 19 = .ok (.iconst 1, 1) := by decide +kernel
theorem dX3_entriesOfShow_20 : decode cX3_entriesOfShow 20 = .ok (.goto 4, 3) := by decide +kernel
theorem dX3_entriesOfShow_23 : decode cX3_entriesOfShow 23 = .ok (.iconst 0, 1) := by decide +kernel
theorem dX3_entriesOfShow_24 : decode cX3_entriesOfShow 24 = .ok (.aload_n 0, 1) := by decide +kernel
theorem dX3_entriesOfShow_25 : decode cX3_entriesOfShow 25 = .ok (.iload_n 2, 1) := by decide +kernel
theorem dX3_entriesOfShow_26 : decode cX3_entriesOfShow 26 = .ok (.invokevirtual 142, 3) := by decide +kernel
theorem dX3_entriesOfShow_29 : decode cX3_entriesOfShow 29 = .ok (.ifCond .le 7, 3) := by decide +kernel
theorem dX3_entriesOfShow_32 : decode cX3_entriesOfShow 32 = .ok (.iconst 1, 1) := by decide +kernel
theorem dX3_entriesOfShow_33 : decode cX3_entriesOfShow 33 = .ok (.goto 4, 3) := by decide +kernel
theorem dX3_entriesOfShow_36 : decode cX3_entriesOfShow 36 = .ok (.iconst 0, 1) := by decide +kernel
theorem dX3_entriesOfShow_37 : decode cX3_entriesOfShow 37 = .ok (.iadd, 1) := by decide +kernel
theorem dX3_entriesOfShow_38 : decode cX3_entriesOfShow 38 = .ok (.ireturn, 1) := by decide +kernel
set_option maxRecDepth 20000 in
theorem ggX3_bookSuccess_X9_heightOf : GoodIn wsX3_bookSuccess wsX9_heightOf := goodIn_ca (goodIn_r _ [9, 10, 11, 12, 13, 14, 8, 15, 33, 34, 35, 36, 37, 38] (by decide +kernel) (by decide +kernel)) (goodIn_sub (fun _ h => List.mem_cons_of_mem _ (List.mem_append_right _ h)) (by decide +kernel))
set_option maxRecDepth 20000 in
theorem gX3_bookSuccess_X9_heightOf : GoodIn wsX3_bookSuccess (wsV RX3 145 RX9 yX9_heightOf wsX9_heightOf) := goodIn_app (goodIn_of _ (by decide +kernel)) ggX3_bookSuccess_X9_heightOf
set_option maxRecDepth 20000 in
theorem ggX3_bookSuccess_X2_book : GoodIn wsX3_bookSuccess wsX2_book := goodIn_ca (goodIn_r _ [20, 21, 22, 23, 24, 25, 39, 40, 41, 42, 43, 44, 45] (by decide +kernel) (by decide +kernel)) (goodIn_sub (fun _ h => List.mem_cons_of_mem _ (List.mem_append_right _ h)) (by decide +kernel))
set_option maxRecDepth 20000 in
theorem gX3_bookSuccess_X2_book : GoodIn wsX3_bookSuccess (wsV RX3 93 RX2 yX2_book wsX2_book) := goodIn_app (goodIn_of _ (by decide +kernel)) ggX3_bookSuccess_X2_book
set_option maxRecDepth 20000 in
theorem ggX3_bookSuccess_X9_isMember : GoodIn wsX3_bookSuccess wsX9_isMember := goodIn_r _ [15, 10, 33, 34, 35, 36, 37, 38] (by decide +kernel) (by decide +kernel)
set_option maxRecDepth 20000 in
theorem gX3_bookSuccess_X9_isMember : GoodIn wsX3_bookSuccess (wsV RX3 148 RX9 yX9_isMember wsX9_isMember) := goodIn_app (goodIn_of _ (by decide +kernel)) ggX3_bookSuccess_X9_isMember
theorem dX3_bookSuccess_0 : decode cX3_bookSuccess 0 = .ok (.aload_n 0, 1) := by decide +kernel
theorem dX3_bookSuccess_1 : decode cX3_bookSuccess 1 = .ok (.getfield 12, 3) := by decide +kernel
theorem dX3_bookSuccess_4 : decode cX3_bookSuccess 4 = .ok (.iload_n 1, 1) := by decide +kernel
theorem dX3_bookSuccess_5 : decode cX3_bookSuccess 5 = .ok (.invokevirtual 145, 3) := by decide +kernel
theorem dX3_bookSuccess_8 : decode cX3_bookSuccess 8 = .ok (.bipush 10, 2) := by decide +kernel
theorem dX3_bookSuccess_10 : decode cX3_bookSuccess 10 = .ok (.idiv, 1) := by decide +kernel
theorem dX3_bookSuccess_11 : decode cX3_bookSuccess 11 = .ok (.istore_n 2, 1) := by decide +kernel
theorem dX3_bookSuccess_12 : decode cX3_bookSuccess 12 = .ok (.aload_n 0, 1) := by decide +kernel
theorem dX3_bookSuccess_13 : decode cX3_bookSuccess 13 = .ok (.getfield 21, 3) := by decide +kernel
theorem dX3_bookSuccess_16 : decode cX3_bookSuccess 16 = .ok (.iconst 0, 1) := by decide +kernel
theorem dX3_bookSuccess_17 : decode cX3_bookSuccess 17 = .ok (.iconst 2, 1) := by decide +kernel
theorem dX3_bookSuccess_18 : decode cX3_bookSuccess 18 = .ok (.iload_n 2, 1) := by decide +kernel
theorem dX3_bookSuccess_19 : decode cX3_bookSuccess 19 = .ok (.invokevirtual 93, 3) := by decide +kernel
theorem dX3_bookSuccess_22 : decode cX3_bookSuccess 22 = .ok (.pop, 1) := by decide +kernel
theorem dX3_bookSuccess_23 : decode cX3_bookSuccess 23 = .ok (.iconst 0, 1) := by decide +kernel
theorem dX3_bookSuccess_24 : decode cX3_bookSuccess 24 = .ok (.istore_n 3, 1) := by decide +kernel
theorem dX3_bookSuccess_25 : decode cX3_bookSuccess 25 = .ok (.iload_n 3, 1) := by decide +kernel
theorem dX3_bookSuccess_26 : decode cX3_bookSuccess 26 = .ok (.aload_n 0, 1) := by decide +kernel
theorem dX3_bookSuccess_27 : decode cX3_bookSuccess 27 = .ok (.getfield 12, 3) := by decide +kernel
theorem dX3_bookSuccess_30 : decode cX3_bookSuccess 30 = .ok (.getfield 55, 3) := by decide +kernel
theorem dX3_bookSuccess_33 : decode cX3_bookSuccess 33 = .ok (.if_icmp .ge 42, 3) := by decide +kernel
theorem dX3_bookSuccess_36 : decode cX3_bookSuccess 36 = .ok (.aload_n 0, 1) := by decide +kernel
theorem dX3_bookSuccess_37 : decode cX3_bookSuccess 37 = .ok (.getfield 12, 3) := by decide +kernel
theorem dX3_bookSuccess_40 : decode cX3_bookSuccess 40 = .ok (.iload_n 1, 1) := by decide +kernel
theorem dX3_bookSuccess_41 : decode cX3_bookSuccess 41 = .ok (.iload_n 3, 1) := by decide +kernel
theorem dX3_bookSuccess_42 : decode cX3_bookSuccess 42 = .ok (.invokevirtual 148, 3) := by decide +kernel
theorem dX3_bookSuccess_45 : decode cX3_bookSuccess 45 = .ok (.ifCond .eq 24, 3) := by decide +kernel
theorem dX3_bookSuccess_48 : decode cX3_bookSuccess 48 = .ok (.aload_n 0, 1) := by decide +kernel
theorem dX3_bookSuccess_49 : decode cX3_bookSuccess 49 = .ok (.getfield 21, 3) := by decide +kernel
theorem dX3_bookSuccess_52 : decode cX3_bookSuccess 52 = .ok (.iconst 4, 1) := by decide +kernel
theorem dX3_bookSuccess_53 : decode cX3_bookSuccess 53 = .ok (.iconst 5, 1) := by decide +kernel
theorem dX3_bookSuccess_54 : decode cX3_bookSuccess 54 = .ok (.iload_n 3, 1) := by decide +kernel
theorem dX3_bookSuccess_55 : decode cX3_bookSuccess 55 = .ok (.iadd, 1) := by decide +kernel
theorem dX3_bookSuccess_56 : decode cX3_bookSuccess 56 = .ok (.aload_n 0, 1) := by decide +kernel
theorem dX3_bookSuccess_57 : decode cX3_bookSuccess 57 = .ok (.getfield 12, 3) := by decide +kernel
theorem dX3_bookSuccess_60 : decode cX3_bookSuccess 60 = .ok (.getfield 151, 3) := by decide +kernel
theorem dX3_bookSuccess_63 : decode cX3_bookSuccess 63 = .ok (.iload_n 3, 1) := by decide +kernel
theorem dX3_bookSuccess_64 : decode cX3_bookSuccess 64 = .ok (.iaload, 1) := by decide +kernel
theorem dX3_bookSuccess_65 : decode cX3_bookSuccess 65 = .ok (.invokevirtual 93, 3) := by decide +kernel
theorem dX3_bookSuccess_68 : decode cX3_bookSuccess 68 = .ok (.pop, 1) := by decide +kernel
theorem dX3_bookSuccess_69 : decode cX3_bookSuccess 69 = .ok (.iinc 3 1, 3) := by decide +kernel
theorem dX3_bookSuccess_72 : decode cX3_bookSuccess 72 = .ok (.goto (-47), 3) := by decide +kernel
theorem dX3_bookSuccess_75 : decode cX3_bookSuccess 75 = .ok (.iload_n 2, 1) := by decide +kernel
theorem dX3_bookSuccess_76 : decode cX3_bookSuccess 76 = .ok (.ireturn, 1) := by decide +kernel
set_option maxRecDepth 20000 in
theorem ggX3_bookFall_X9_countAbove : GoodIn wsX3_bookFall wsX9_countAbove := goodIn_ca (goodIn_r _ [9, 10, 11, 12, 13, 14, 15, 16, 17, 18, 19, 8, 20, 21, 22, 23, 24, 25, 26, 27, 28, 29, 30, 31, 67, 68, 69, 70, 71, 72] (by decide +kernel) (by decide +kernel)) (goodIn_sub (fun _ h => List.mem_cons_of_mem _ (List.mem_append_right _ h)) (by decide +kernel))
set_option maxRecDepth 20000 in
theorem gX3_bookFall_X9_countAbove : GoodIn wsX3_bookFall (wsV RX3 154 RX9 yX9_countAbove wsX9_countAbove) := goodIn_app (goodIn_of _ (by decide +kernel)) ggX3_bookFall_X9_countAbove
set_option maxRecDepth 20000 in
theorem ggX3_bookFall_X3_fromReserve : GoodIn wsX3_bookFall wsX3_fromReserve := goodIn_ca (goodIn_r _ [36, 2, 37, 38, 39, 40, 41, 61, 62, 63, 64, 65, 66, 73, 74, 75, 76, 77, 78, 79] (by decide +kernel) (by decide +kernel)) (goodIn_sub (fun _ h => List.mem_cons_of_mem _ (List.mem_append_right _ h)) (by decide +kernel))
set_option maxRecDepth 20000 in
theorem gX3_bookFall_X3_fromReserve : GoodIn wsX3_bookFall (wsV RX3 139 RX3 yX3_fromReserve wsX3_fromReserve) := goodIn_app (goodIn_of _ (by decide +kernel)) ggX3_bookFall_X3_fromReserve
set_option maxRecDepth 20000 in
theorem ggX3_bookFall_X3_fromCash : GoodIn wsX3_bookFall wsX3_fromCash := goodIn_ca (goodIn_r _ [45, 2, 37, 38, 39, 40, 41, 32, 33, 34, 35, 36, 61, 62, 63, 64, 65, 66, 73, 74, 75, 76, 77, 78, 79] (by decide +kernel) (by decide +kernel)) (goodIn_sub (fun _ h => List.mem_cons_of_mem _ (List.mem_append_right _ h)) (by decide +kernel))
set_option maxRecDepth 20000 in
theorem gX3_bookFall_X3_fromCash : GoodIn wsX3_bookFall (wsV RX3 142 RX3 yX3_fromCash wsX3_fromCash) := goodIn_app (goodIn_of _ (by decide +kernel)) ggX3_bookFall_X3_fromCash
set_option maxRecDepth 20000 in
theorem ggX3_bookFall_X2_book : GoodIn wsX3_bookFall wsX2_book := goodIn_ca (goodIn_r _ [50, 51, 52, 53, 54, 55, 73, 74, 75, 76, 77, 78, 79] (by decide +kernel) (by decide +kernel)) (goodIn_sub (fun _ h => List.mem_cons_of_mem _ (List.mem_append_right _ h)) (by decide +kernel))
set_option maxRecDepth 20000 in
theorem gX3_bookFall_X2_book : GoodIn wsX3_bookFall (wsV RX3 93 RX2 yX2_book wsX2_book) := goodIn_app (goodIn_of _ (by decide +kernel)) ggX3_bookFall_X2_book
set_option maxRecDepth 20000 in
theorem ggX3_bookFall_X9_injureBeside : GoodIn wsX3_bookFall wsX9_injureBeside := goodIn_ca (goodIn_r _ [59, 21, 60, 17, 18, 19, 8, 20, 22, 23, 24, 25, 26, 27, 28, 29, 30, 31, 67, 68, 69, 70, 71, 72] (by decide +kernel) (by decide +kernel)) (goodIn_sub (fun _ h => List.mem_cons_of_mem _ (List.mem_append_right _ h)) (by decide +kernel))
set_option maxRecDepth 20000 in
theorem gX3_bookFall_X9_injureBeside : GoodIn wsX3_bookFall (wsV RX3 157 RX9 yX9_injureBeside wsX9_injureBeside) := goodIn_app (goodIn_of _ (by decide +kernel)) ggX3_bookFall_X9_injureBeside
theorem dX3_bookFall_0 : decode cX3_bookFall 0 = .ok (.aload_n 0, 1) := by decide +kernel
theorem dX3_bookFall_1 : decode cX3_bookFall 1 = .ok (.getfield 12, 3) := by decide +kernel
theorem dX3_bookFall_4 : decode cX3_bookFall 4 = .ok (.iload_n 1, 1) := by decide +kernel
theorem dX3_bookFall_5 : decode cX3_bookFall 5 = .ok (.iload_n 2, 1) := by decide +kernel
theorem dX3_bookFall_6 : decode cX3_bookFall 6 = .ok (.invokevirtual 154, 3) := by decide +kernel
theorem dX3_bookFall_9 : decode cX3_bookFall 9 = .ok (.istore_n 3, 1) := by decide +kernel
theorem dX3_bookFall_10 : decode cX3_bookFall 10 = .ok (.bipush 10, 2) := by decide +kernel
theorem dX3_bookFall_12 : decode cX3_bookFall 12 = .ok (.iload_n 3, 1) := by decide +kernel
theorem dX3_bookFall_13 : decode cX3_bookFall 13 = .ok (.imul, 1) := by decide +kernel
theorem dX3_bookFall_14 : decode cX3_bookFall 14 = .ok (.istore 4, 2) := by decide +kernel
theorem dX3_bookFall_16 : decode cX3_bookFall 16 = .ok (.aload_n 0, 1) := by decide +kernel
theorem dX3_bookFall_17 : decode cX3_bookFall 17 = .ok (.iload 4, 2) := by decide +kernel
theorem dX3_bookFall_19 : decode cX3_bookFall 19 = .ok (.invokevirtual 139, 3) := by decide +kernel
theorem dX3_bookFall_22 : decode cX3_bookFall 22 = .ok (.istore 5, 2) := by decide +kernel
theorem dX3_bookFall_24 : decode cX3_bookFall 24 = .ok (.aload_n 0, 1) := by decide +kernel
theorem dX3_bookFall_25 : decode cX3_bookFall 25 = .ok (.iload 4, 2) := by decide +kernel
theorem dX3_bookFall_27 : decode cX3_bookFall 27 = .ok (.invokevirtual 142, 3) := by decide +kernel
theorem dX3_bookFall_30 : decode cX3_bookFall 30 = .ok (.istore 6, 2) := by decide +kernel
theorem dX3_bookFall_32 : decode cX3_bookFall 32 = .ok (.iload 5, 2) := by decide +kernel
theorem dX3_bookFall_34 : decode cX3_bookFall 34 = .ok (.ifCond .le 15, 3) := by decide +kernel
theorem dX3_bookFall_37 : decode cX3_bookFall 37 = .ok (.aload_n 0, 1) := by decide +kernel
theorem dX3_bookFall_38 : decode cX3_bookFall 38 = .ok (.getfield 21, 3) := by decide +kernel
theorem dX3_bookFall_41 : decode cX3_bookFall 41 = .ok (.iconst 3, 1) := by decide +kernel
theorem dX3_bookFall_42 : decode cX3_bookFall 42 = .ok (.iconst 1, 1) := by decide +kernel
theorem dX3_bookFall_43 : decode cX3_bookFall 43 = .ok (.iload 5, 2) := by decide +kernel
theorem dX3_bookFall_45 : decode cX3_bookFall 45 = .ok (.invokevirtual 93, 3) := by decide +kernel
theorem dX3_bookFall_48 : decode cX3_bookFall 48 = .ok (.pop, 1) := by decide +kernel
theorem dX3_bookFall_49 : decode cX3_bookFall 49 = .ok (.iload 6, 2) := by decide +kernel
theorem dX3_bookFall_51 : decode cX3_bookFall 51 = .ok (.ifCond .le 15, 3) := by decide +kernel
theorem dX3_bookFall_54 : decode cX3_bookFall 54 = .ok (.aload_n 0, 1) := by decide +kernel
theorem dX3_bookFall_55 : decode cX3_bookFall 55 = .ok (.getfield 21, 3) := by decide +kernel
theorem dX3_bookFall_58 : decode cX3_bookFall 58 = .ok (.iconst 3, 1) := by decide +kernel
theorem dX3_bookFall_59 : decode cX3_bookFall 59 = .ok (.iconst 0, 1) := by decide +kernel
theorem dX3_bookFall_60 : decode cX3_bookFall 60 = .ok (.iload 6, 2) := by decide +kernel
theorem dX3_bookFall_62 : decode cX3_bookFall 62 = .ok (.invokevirtual 93, 3) := by decide +kernel
theorem dX3_bookFall_65 : decode cX3_bookFall 65 = .ok (.pop, 1) := by decide +kernel
theorem dX3_bookFall_66 : decode cX3_bookFall 66 = .ok (.aload_n 0, 1) := by decide +kernel
theorem dX3_bookFall_67 : decode cX3_bookFall 67 = .ok (.dup, 1) := by decide +kernel
theorem dX3_bookFall_68 : decode cX3_bookFall 68 = .ok (.getfield 42, 3) := by decide +kernel
theorem dX3_bookFall_71 : decode cX3_bookFall 71 = .ok (.iload_n 3, 1) := by decide +kernel
theorem dX3_bookFall_72 : decode cX3_bookFall 72 = .ok (.iadd, 1) := by decide +kernel
theorem dX3_bookFall_73 : decode cX3_bookFall 73 = .ok (.putfield 42, 3) := by decide +kernel
theorem dX3_bookFall_76 : decode cX3_bookFall 76 = .ok (.aload_n 0, 1) := by decide +kernel
theorem dX3_bookFall_77 : decode cX3_bookFall 77 = .ok (.getfield 12, 3) := by decide +kernel
theorem dX3_bookFall_80 : decode cX3_bookFall 80 = .ok (.iload_n 1, 1) := by decide +kernel
theorem dX3_bookFall_81 : decode cX3_bookFall 81 = .ok (.iload_n 2, 1) := by decide +kernel
theorem dX3_bookFall_82 : decode cX3_bookFall 82 = .ok (.aload_n 0, 1) := by decide +kernel
theorem dX3_bookFall_83 : decode cX3_bookFall 83 = .ok (.getfield 36, 3) := by decide +kernel
theorem dX3_bookFall_86 : decode cX3_bookFall 86 = .ok (.invokevirtual 157, 3) := by decide +kernel
theorem dX3_bookFall_89 : decode cX3_bookFall 89 = .ok (.iload 4, 2) := by decide +kernel
theorem dX3_bookFall_91 : decode cX3_bookFall 91 = .ok (.ireturn, 1) := by decide +kernel
theorem dX3_fromReserve_0 : decode cX3_fromReserve 0 = .ok (.iload_n 1, 1) := by decide +kernel
theorem dX3_fromReserve_1 : decode cX3_fromReserve 1 = .ok (.aload_n 0, 1) := by decide +kernel
theorem dX3_fromReserve_2 : decode cX3_fromReserve 2 = .ok (.getfield 21, 3) := by decide +kernel
theorem dX3_fromReserve_5 : decode cX3_fromReserve 5 = .ok (.getfield 97, 3) := by decide +kernel
theorem dX3_fromReserve_8 : decode cX3_fromReserve 8 = .ok (.iconst 1, 1) := by decide +kernel
theorem dX3_fromReserve_9 : decode cX3_fromReserve 9 = .ok (.iaload, 1) := by decide +kernel
theorem dX3_fromReserve_10 : decode cX3_fromReserve 10 = .ok (.invokestatic 161, 3) := by decide +kernel
theorem dX3_fromReserve_13 : decode cX3_fromReserve 13 = .ok (.ireturn, 1) := by decide +kernel
set_option maxRecDepth 20000 in
theorem ggX3_fromCash_X3_fromReserve : GoodIn wsX3_fromCash wsX3_fromReserve := goodIn_ca (goodIn_r _ [11, 1, 2, 3, 4, 5, 6, 12, 13, 14, 15, 16, 17, 18, 19, 20, 21, 22, 23, 24] (by decide +kernel) (by decide +kernel)) (goodIn_sub (fun _ h => List.mem_cons_of_mem _ (List.mem_append_right _ h)) (by decide +kernel))
set_option maxRecDepth 20000 in
theorem gX3_fromCash_X3_fromReserve : GoodIn wsX3_fromCash (wsV RX3 139 RX3 yX3_fromReserve wsX3_fromReserve) := goodIn_app (goodIn_of _ (by decide +kernel)) ggX3_fromCash_X3_fromReserve
theorem dX3_fromCash_0 : decode cX3_fromCash 0 = .ok (.iload_n 1, 1) := by decide +kernel
theorem dX3_fromCash_1 : decode cX3_fromCash 1 = .ok (.aload_n 0, 1) := by decide +kernel
theorem dX3_fromCash_2 : decode cX3_fromCash 2 = .ok (.iload_n 1, 1) := by decide +kernel
theorem dX3_fromCash_3 : decode cX3_fromCash 3 = .ok (.invokevirtual 139, 3) := by decide +kernel
theorem dX3_fromCash_6 : decode cX3_fromCash 6 = .ok (.isub, 1) := by decide +kernel
theorem dX3_fromCash_7 : decode cX3_fromCash 7 = .ok (.aload_n 0, 1) := by decide +kernel
theorem dX3_fromCash_8 : decode cX3_fromCash 8 = .ok (.getfield 21, 3) := by decide +kernel
theorem dX3_fromCash_11 : decode cX3_fromCash 11 = .ok (.getfield 97, 3) := by decide +kernel
theorem dX3_fromCash_14 : decode cX3_fromCash 14 = .ok (.iconst 0, 1) := by decide +kernel
theorem dX3_fromCash_15 : decode cX3_fromCash 15 = .ok (.iaload, 1) := by decide +kernel
theorem dX3_fromCash_16 : decode cX3_fromCash 16 = .ok (.invokestatic 161, 3) := by decide +kernel
theorem dX3_fromCash_19 : decode cX3_fromCash 19 = .ok (.ireturn, 1) := by decide +kernel
theorem dX3_isBetween_0 : decode cX3_isBetween 0 = .ok (.iload_n 0, 1) := by decide +kernel
theorem dX3_isBetween_1 : decode cX3_isBetween 1 = .ok (.iload_n 1, 1) := by decide +kernel
theorem dX3_isBetween_2 : decode cX3_isBetween 2 = .ok (.if_icmp .lt 12, 3) := by decide +kernel
theorem dX3_isBetween_5 : decode cX3_isBetween 5 = .ok (.iload_n 0, 1) := by decide +kernel
theorem dX3_isBetween_6 : decode cX3_isBetween 6 = .ok (.iload_n 2, 1) := by decide +kernel
theorem dX3_isBetween_7 : decode cX3_isBetween 7 = .ok (.if_icmp .gt 7, 3) := by decide +kernel
theorem dX3_isBetween_10 : decode cX3_isBetween 10 = .ok (.iconst 1, 1) := by decide +kernel
theorem dX3_isBetween_11 : decode cX3_isBetween 11 = .ok (.goto 4, 3) := by decide +kernel
theorem dX3_isBetween_14 : decode cX3_isBetween 14 = .ok (.iconst 0, 1) := by decide +kernel
theorem dX3_isBetween_15 : decode cX3_isBetween 15 = .ok (.ireturn, 1) := by decide +kernel
set_option maxRecDepth 20000 in
theorem ggX5_init_X3_init : GoodIn wsX5_init wsX3_init := goodIn_r _ [9, 10, 2, 3, 11, 12, 13, 14, 15, 16, 17, 18, 19, 20, 21, 22, 23, 24, 25, 26, 27, 28, 29, 30, 31, 32, 33, 34, 35, 36, 46, 47, 48, 49, 50, 51, 40, 41, 42, 43, 44, 45, 52, 53, 54, 55, 56, 57, 58] (by decide +kernel) (by decide +kernel)
set_option maxRecDepth 20000 in
theorem gX5_init_X3_init_n17 : GoodIn wsX5_init (wsX3_init) := ggX5_init_X3_init
theorem dX5_init_0 : decode cX5_init 0 = .ok (.aload_n 0, 1) := by decide +kernel
theorem dX5_init_1 : decode cX5_init 1 = .ok (.invokespecial 3, 3) := by decide +kernel
theorem dX5_init_4 : decode cX5_init 4 = .ok (.aload_n 0, 1) := by decide +kernel
theorem dX5_init_5 : decode cX5_init 5 = .ok (.bipush 9, 2) := by decide +kernel
theorem dX5_init_7 : decode cX5_init 7 = .ok (.anewarray 11, 3) := by decide +kernel
theorem dX5_init_10 : decode cX5_init 10 = .ok (.putfield 13, 3) := by decide +kernel
theorem dX5_init_13 : decode cX5_init 13 = .ok (.iconst 0, 1) := by decide +kernel
theorem dX5_init_14 : decode cX5_init 14 = .ok (.istore_n 1, 1) := by decide +kernel
theorem dX5_init_15 : decode cX5_init 15 = .ok (.iload_n 1, 1) := by decide +kernel
theorem dX5_init_16 : decode cX5_init 16 = .ok (.bipush 9, 2) := by decide +kernel
theorem dX5_init_18 : decode cX5_init 18 = .ok (.if_icmp .ge 22, 3) := by decide +kernel
theorem dX5_init_21 : decode cX5_init 21 = .ok (.aload_n 0, 1) := by decide +kernel
theorem dX5_init_22 : decode cX5_init 22 = .ok (.getfield 13, 3) := by decide +kernel
theorem dX5_init_25 : decode cX5_init 25 = .ok (.iload_n 1, 1) := by decide +kernel
theorem dX5_init_26 : decode cX5_init 26 = .ok (.new 11, 3) := by decide +kernel
theorem dX5_init_29 : decode cX5_init 29 = .ok (.dup, 1) := by decide +kernel
theorem dX5_init_30 : decode cX5_init 30 = .ok (.invokespecial 17, 3) := by decide +kernel
theorem dX5_init_33 : decode cX5_init 33 = .ok (.aastore, 1) := by decide +kernel
theorem dX5_init_34 : decode cX5_init 34 = .ok (.iinc 1 1, 3) := by decide +kernel
theorem dX5_init_37 : decode cX5_init 37 = .ok (.goto (-22), 3) := by decide +kernel
theorem dX5_init_40 : decode cX5_init 40 = .ok (.return_, 1) := by decide +kernel
set_option maxRecDepth 20000 in
theorem ggX5_remember_X5_note : GoodIn wsX5_remember wsX5_note := goodIn_r _ [5, 6, 7, 8, 9, 10, 11, 12, 13, 14, 15, 16, 17, 18, 19, 20, 21, 22, 23, 24, 25, 26, 27, 28, 29, 30, 31, 32, 33, 34, 35, 36, 37, 38, 39, 40, 41, 42, 43, 44, 45, 46, 56, 57, 58, 59, 60, 61, 62, 63, 64, 65, 66, 67, 68, 69, 70, 71, 72, 73, 74, 75, 76, 77] (by decide +kernel) (by decide +kernel)
set_option maxRecDepth 20000 in
theorem gX5_remember_X5_note : GoodIn wsX5_remember (wsV RX5 18 RX5 yX5_note wsX5_note) := goodIn_app (goodIn_of _ (by decide +kernel)) ggX5_remember_X5_note
set_option maxRecDepth 20000 in
theorem ggX5_remember_X5_keep : GoodIn wsX5_remember wsX5_keep := goodIn_r _ [50, 7, 51, 52, 53, 54, 55, 56, 57, 58] (by decide +kernel) (by decide +kernel)
set_option maxRecDepth 20000 in
theorem gX5_remember_X5_keep : GoodIn wsX5_remember (wsV RX5 22 RX5 yX5_keep wsX5_keep) := goodIn_app (goodIn_of _ (by decide +kernel)) ggX5_remember_X5_keep
theorem dX5_remember_0 : decode cX5_remember 0 = .ok (.aload_n 0, 1) := by decide +kernel
theorem dX5_remember_1 : decode cX5_remember 1 = .ok (.aload_n 1, 1) := by decide +kernel
theorem dX5_remember_2 : decode cX5_remember 2 = .ok (.invokevirtual 18, 3) := by decide +kernel
theorem dX5_remember_5 : decode cX5_remember 5 = .ok (.aload_n 0, 1) := by decide +kernel
theorem dX5_remember_6 : decode cX5_remember 6 = .ok (.invokevirtual 22, 3) := by decide +kernel
theorem dX5_remember_9 : decode cX5_remember 9 = .ok (.return_, 1) := by decide +kernel
set_option maxRecDepth 20000 in
theorem ggX5_note_X3_copyFrom : GoodIn wsX5_note wsX3_copyFrom := goodIn_r _ [7, 8, 9, 10, 11, 12, 13, 14, 15, 16, 17, 18, 19, 20, 21, 22, 23, 24, 25, 26, 27, 28, 29, 30, 31, 32, 33, 34, 35, 36, 37, 38, 39, 40, 41, 45, 46, 47, 48, 49, 50, 51, 52, 53, 54, 55, 56, 57, 58, 59, 60, 61, 62, 63] (by decide +kernel) (by decide +kernel)
set_option maxRecDepth 20000 in
theorem gX5_note_X3_copyFrom : GoodIn wsX5_note (wsV RX5 29 RX3 yX3_copyFrom wsX3_copyFrom) := goodIn_app (goodIn_of _ (by decide +kernel)) ggX5_note_X3_copyFrom
theorem dX5_note_0 : decode cX5_note 0 = .ok (.aload_n 0, 1) := by decide +kernel
theorem dX5_note_1 : decode cX5_note 1 = .ok (.getfield 13, 3) := by decide +kernel
theorem dX5_note_4 : decode cX5_note 4 = .ok (.aload_n 0, 1) := by decide +kernel
theorem dX5_note_5 : decode cX5_note 5 = .ok (.getfield 25, 3) := by decide +kernel
theorem dX5_note_8 : decode cX5_note 8 = .ok (.aaload, 1) := by decide +kernel
theorem dX5_note_9 : decode cX5_note 9 = .ok (.aload_n 1, 1) := by decide +kernel
theorem dX5_note_10 : decode cX5_note 10 = .ok (.invokevirtual 29, 3) := by decide +kernel
theorem dX5_note_13 : decode cX5_note 13 = .ok (.return_, 1) := by decide +kernel
theorem dX5_keep_0 : decode cX5_keep 0 = .ok (.aload_n 0, 1) := by decide +kernel
theorem dX5_keep_1 : decode cX5_keep 1 = .ok (.aload_n 0, 1) := by decide +kernel
theorem dX5_keep_2 : decode cX5_keep 2 = .ok (.getfield 25, 3) := by decide +kernel
theorem dX5_keep_5 : decode cX5_keep 5 = .ok (.iconst 1, 1) := by decide +kernel
theorem dX5_keep_6 : decode cX5_keep 6 = .ok (.iadd, 1) := by decide +kernel
theorem dX5_keep_7 : decode cX5_keep 7 = .ok (.bipush 9, 2) := by decide +kernel
theorem dX5_keep_9 : decode cX5_keep 9 = .ok (.irem, 1) := by decide +kernel
theorem dX5_keep_10 : decode cX5_keep 10 = .ok (.putfield 25, 3) := by decide +kernel
theorem dX5_keep_13 : decode cX5_keep 13 = .ok (.aload_n 0, 1) := by decide +kernel
theorem dX5_keep_14 : decode cX5_keep 14 = .ok (.aload_n 0, 1) := by decide +kernel
theorem dX5_keep_15 : decode cX5_keep 15 = .ok (.getfield 32, 3) := by decide +kernel
theorem dX5_keep_18 : decode cX5_keep 18 = .ok (.iconst 1, 1) := by decide +kernel
theorem dX5_keep_19 : decode cX5_keep 19 = .ok (.iadd, 1) := by decide +kernel
theorem dX5_keep_20 : decode cX5_keep 20 = .ok (.bipush 8, 2) := by decide +kernel
theorem dX5_keep_22 : decode cX5_keep 22 = .ok (.invokestatic 35, 3) := by decide +kernel
theorem dX5_keep_25 : decode cX5_keep 25 = .ok (.putfield 32, 3) := by decide +kernel
theorem dX5_keep_28 : decode cX5_keep 28 = .ok (.return_, 1) := by decide +kernel
set_option maxRecDepth 20000 in
theorem ggX5_takeBack_X3_copyFrom : GoodIn wsX5_takeBack wsX3_copyFrom := goodIn_r _ [7, 8, 9, 10, 11, 12, 13, 14, 15, 16, 17, 18, 19, 20, 21, 22, 23, 24, 25, 26, 27, 28, 29, 30, 31, 32, 33, 34, 35, 36, 37, 38, 39, 40, 41, 45, 46, 47, 48, 49, 50, 51, 52, 53, 54, 55, 56, 57, 58, 59, 60, 61, 62, 63] (by decide +kernel) (by decide +kernel)
set_option maxRecDepth 20000 in
theorem gX5_takeBack_X3_copyFrom : GoodIn wsX5_takeBack (wsV RX5 29 RX3 yX3_copyFrom wsX3_copyFrom) := goodIn_app (goodIn_of _ (by decide +kernel)) ggX5_takeBack_X3_copyFrom
theorem dX5_takeBack_0 : decode cX5_takeBack 0 = .ok (.aload_n 1, 1) := by decide +kernel
theorem dX5_takeBack_1 : decode cX5_takeBack 1 = .ok (.aload_n 0, 1) := by decide +kernel
theorem dX5_takeBack_2 : decode cX5_takeBack 2 = .ok (.getfield 13, 3) := by decide +kernel
theorem dX5_takeBack_5 : decode cX5_takeBack 5 = .ok (.aload_n 0, 1) := by decide +kernel
theorem dX5_takeBack_6 : decode cX5_takeBack 6 = .ok (.getfield 25, 3) := by decide +kernel
theorem dX5_takeBack_9 : decode cX5_takeBack 9 = .ok (.aaload, 1) := by decide +kernel
theorem dX5_takeBack_10 : decode cX5_takeBack 10 = .ok (.invokevirtual 29, 3) := by decide +kernel
theorem dX5_takeBack_13 : decode cX5_takeBack 13 = .ok (.return_, 1) := by decide +kernel
set_option maxRecDepth 20000 in
theorem ggX5_goBack_X5_takeBack : GoodIn wsX5_goBack wsX5_takeBack := goodIn_r _ [7, 8, 1, 9, 10, 11, 12, 13, 14, 15, 16, 17, 18, 19, 20, 21, 22, 23, 24, 25, 26, 27, 28, 29, 30, 31, 32, 33, 34, 35, 36, 37, 38, 39, 40, 41, 42, 43, 44, 45, 46, 47, 48, 49, 50, 51, 52, 53, 54, 55, 56, 57, 58, 59, 60, 61, 62, 63, 64, 65, 66, 67, 68, 69] (by decide +kernel) (by decide +kernel)
set_option maxRecDepth 20000 in
theorem gX5_goBack_X5_takeBack : GoodIn wsX5_goBack (wsV RX5 41 RX5 yX5_takeBack wsX5_takeBack) := goodIn_app (goodIn_of _ (by decide +kernel)) ggX5_goBack_X5_takeBack
theorem dX5_goBack_0 : decode cX5_goBack 0 = .ok (.aload_n 0, 1) := by decide +kernel
theorem dX5_goBack_1 : decode cX5_goBack 1 = .ok (.aload_n 0, 1) := by decide +kernel
theorem dX5_goBack_2 : decode cX5_goBack 2 = .ok (.getfield 25, 3) := by decide +kernel
theorem dX5_goBack_5 : decode cX5_goBack 5 = .ok (.bipush 9, 2) := by decide +kernel
theorem dX5_goBack_7 : decode cX5_goBack 7 = .ok (.iadd, 1) := by decide +kernel
theorem dX5_goBack_8 : decode cX5_goBack 8 = .ok (.iconst 1, 1) := by decide +kernel
theorem dX5_goBack_9 : decode cX5_goBack 9 = .ok (.isub, 1) := by decide +kernel
theorem dX5_goBack_10 : decode cX5_goBack 10 = .ok (.bipush 9, 2) := by decide +kernel
theorem dX5_goBack_12 : decode cX5_goBack 12 = .ok (.irem, 1) := by decide +kernel
theorem dX5_goBack_13 : decode cX5_goBack 13 = .ok (.putfield 25, 3) := by decide +kernel
theorem dX5_goBack_16 : decode cX5_goBack 16 = .ok (.aload_n 0, 1) := by decide +kernel
theorem dX5_goBack_17 : decode cX5_goBack 17 = .ok (.dup, 1) := by decide +kernel
theorem dX5_goBack_18 : decode cX5_goBack 18 = .ok (.getfield 32, 3) := by decide +kernel
theorem dX5_goBack_21 : decode cX5_goBack 21 = .ok (.iconst 1, 1) := by decide +kernel
theorem dX5_goBack_22 : decode cX5_goBack 22 = .ok (.isub, 1) := by decide +kernel
theorem dX5_goBack_23 : decode cX5_goBack 23 = .ok (.putfield 32, 3) := by decide +kernel
theorem dX5_goBack_26 : decode cX5_goBack 26 = .ok (.aload_n 0, 1) := by decide +kernel
theorem dX5_goBack_27 : decode cX5_goBack 27 = .ok (.aload_n 1, 1) := by decide +kernel
theorem dX5_goBack_28 : decode cX5_goBack 28 = .ok (.invokevirtual 41, 3) := by decide +kernel
theorem dX5_goBack_31 : decode cX5_goBack 31 = .ok (.aload_n 0, 1) := by decide +kernel
theorem dX5_goBack_32 : decode cX5_goBack 32 = .ok (.getfield 32, 3) := by decide +kernel
theorem dX5_goBack_35 : decode cX5_goBack 35 = .ok (.ireturn, 1) := by decide +kernel
theorem dX5_forget_0 : decode cX5_forget 0 = .ok (.aload_n 0, 1) := by decide +kernel
theorem dX5_forget_1 : decode cX5_forget 1 = .ok (.iconst 0, 1) := by decide +kernel
theorem dX5_forget_2 : decode cX5_forget 2 = .ok (.putfield 32, 3) := by decide +kernel
theorem dX5_forget_5 : decode cX5_forget 5 = .ok (.return_, 1) := by decide +kernel
set_option maxRecDepth 20000 in
theorem ggX7_init_J4_init_da8c8 : GoodIn wsX7_init wsJ4_init_da8c8 := goodIn_r _ [14, 15, 16, 17, 18, 19, 2, 3, 20, 21, 22, 23, 24, 25, 26, 27, 28, 29, 30, 31, 32, 33, 34, 35] (by decide +kernel) (by decide +kernel)
set_option maxRecDepth 20000 in
theorem gX7_init_J4_init_da8c8 : GoodIn wsX7_init (wsJ4_init_da8c8) := ggX7_init_J4_init_da8c8
theorem dX7_init_0 : decode cX7_init 0 = .ok (.aload_n 0, 1) := by decide +kernel
theorem dX7_init_1 : decode cX7_init 1 = .ok (.invokespecial 3, 3) := by decide +kernel
theorem dX7_init_4 : decode cX7_init 4 = .ok (.aload_n 0, 1) := by decide +kernel
theorem dX7_init_5 : decode cX7_init 5 = .ok (.new 9, 3) := by decide +kernel
theorem dX7_init_8 : decode cX7_init 8 = .ok (.dup, 1) := by decide +kernel
theorem dX7_init_9 : decode cX7_init 9 = .ok (.invokespecial 11, 3) := by decide +kernel
theorem dX7_init_12 : decode cX7_init 12 = .ok (.putfield 12, 3) := by decide +kernel
theorem dX7_init_15 : decode cX7_init 15 = .ok (.aload_n 0, 1) := by decide +kernel
theorem dX7_init_16 : decode cX7_init 16 = .ok (.bipush 12, 2) := by decide +kernel
theorem dX7_init_18 : decode cX7_init 18 = .ok (.anewarray 18, 3) := by decide +kernel
theorem dX7_init_21 : decode cX7_init 21 = .ok (.putfield 20, 3) := by decide +kernel
theorem dX7_init_24 : decode cX7_init 24 = .ok (.aload_n 0, 1) := by decide +kernel
theorem dX7_init_25 : decode cX7_init 25 = .ok (.bipush 48, 2) := by decide +kernel
theorem dX7_init_27 : decode cX7_init 27 = .ok (.newarray .int, 2) := by decide +kernel
theorem dX7_init_29 : decode cX7_init 29 = .ok (.putfield 24, 3) := by decide +kernel
theorem dX7_init_32 : decode cX7_init 32 = .ok (.return_, 1) := by decide +kernel
set_option maxRecDepth 20000 in
theorem ggX7_length_J4_length_8abf5 : GoodIn wsX7_length wsJ4_length_8abf5 := goodIn_r _ [6, 7, 8, 9, 10, 11, 12, 13, 20, 21, 22, 23] (by decide +kernel) (by decide +kernel)
set_option maxRecDepth 20000 in
theorem gX7_length_J4_length_8abf5 : GoodIn wsX7_length (wsV RX7 28 RJ4 yJ4_length_8abf5 wsJ4_length_8abf5) := goodIn_app (goodIn_of _ (by decide +kernel)) ggX7_length_J4_length_8abf5
theorem dX7_length_0 : decode cX7_length 0 = .ok (.aload_n 0, 1) := by decide +kernel
theorem dX7_length_1 : decode cX7_length 1 = .ok (.getfield 12, 3) := by decide +kernel
theorem dX7_length_4 : decode cX7_length 4 = .ok (.invokevirtual 28, 3) := by decide +kernel
theorem dX7_length_7 : decode cX7_length 7 = .ok (.ireturn, 1) := by decide +kernel
set_option maxRecDepth 20000 in
theorem ggX7_append_J4_append_cf468 : GoodIn wsX7_append wsJ4_append_cf468 := goodIn_r _ [6, 7, 8, 9, 10, 11, 12, 13, 14, 15, 16, 17, 18, 19, 20, 21, 22, 23, 24, 25, 26, 27, 28, 29, 30, 31, 32, 33, 34, 35, 36, 37, 38, 39, 40, 41, 42, 43, 44, 45, 46, 47, 48, 49, 50, 51, 52, 53, 54, 55, 56, 57, 58, 59, 60, 61, 62, 63, 64, 65, 66, 67, 68, 69, 70, 71, 72, 73, 74, 75, 76, 77, 78, 79, 80, 81, 82, 83, 84, 85, 86, 87, 88, 89, 90, 91, 92, 93, 94, 95, 96, 97, 98, 99, 100, 101, 102, 103, 104, 105, 106, 107, 108, 109, 110, 111, 112, 113, 114, 115, 116, 117, 118, 133, 134, 135, 136] (by decide +kernel) (by decide +kernel)
set_option maxRecDepth 20000 in
theorem gX7_append_J4_append_cf468 : GoodIn wsX7_append (wsV RX7 32 RJ4 yJ4_append_cf468 wsJ4_append_cf468) := goodIn_app (goodIn_of _ (by decide +kernel)) ggX7_append_J4_append_cf468
set_option maxRecDepth 20000 in
theorem ggX7_append_J4_length_8abf5 : GoodIn wsX7_append wsJ4_length_8abf5 := goodIn_r _ [122, 123, 124, 9, 125, 11, 126, 13, 133, 134, 135, 136] (by decide +kernel) (by decide +kernel)
set_option maxRecDepth 20000 in
theorem gX7_append_J4_length_8abf5 : GoodIn wsX7_append (wsV RX7 28 RJ4 yJ4_length_8abf5 wsJ4_length_8abf5) := goodIn_app (goodIn_of _ (by decide +kernel)) ggX7_append_J4_length_8abf5
theorem dX7_append_0 : decode cX7_append 0 = .ok (.aload_n 0, 1) := by decide +kernel
theorem dX7_append_1 : decode cX7_append 1 = .ok (.getfield 12, 3) := by decide +kernel
theorem dX7_append_4 : decode cX7_append 4 = .ok (.iload_n 1, 1) := by decide +kernel
theorem dX7_append_5 : decode cX7_append 5 = .ok (.invokevirtual 32, 3) := by decide +kernel
theorem dX7_append_8 : decode cX7_append 8 = .ok (.pop, 1) := by decide +kernel
theorem dX7_append_9 : decode cX7_append 9 = .ok (.aload_n 0, 1) := by decide +kernel
theorem dX7_append_10 : decode cX7_append 10 = .ok (.getfield 12, 3) := by decide +kernel
theorem dX7_append_13 : decode cX7_append 13 = .ok (.invokevirtual 28, 3) := by decide +kernel
theorem dX7_append_16 : decode cX7_append 16 = .ok (.ireturn, 1) := by decide +kernel
set_option maxRecDepth 20000 in
theorem ggX7_clear_J4_setLength_d00df : GoodIn wsX7_clear wsJ4_setLength_d00df := goodIn_r _ [6, 7, 8, 9, 10, 11, 12, 13, 14, 15, 16, 17, 18, 19, 20, 21, 22, 23, 24, 25, 26, 27, 28, 29, 30, 31, 32, 33, 34, 35, 36, 37, 38, 39, 40, 41, 42, 43, 44, 45, 46, 47, 48, 49, 50, 51, 52, 53, 54, 55, 56, 57, 58, 59, 60, 61, 62, 63, 64, 65, 66, 67, 68, 69, 70, 71, 72, 73, 74, 75, 76, 77, 78, 5, 79, 80, 81, 82, 83, 84, 85, 86, 93, 94, 95, 96, 97, 98, 99, 100, 101, 102, 103, 104, 105, 106, 107, 108] (by decide +kernel) (by decide +kernel)
set_option maxRecDepth 20000 in
theorem gX7_clear_J4_setLength_d00df : GoodIn wsX7_clear (wsV RX7 36 RJ4 yJ4_setLength_d00df wsJ4_setLength_d00df) := goodIn_app (goodIn_of _ (by decide +kernel)) ggX7_clear_J4_setLength_d00df
theorem dX7_clear_0 : decode cX7_clear 0 = .ok (.aload_n 0, 1) := by decide +kernel
theorem dX7_clear_1 : decode cX7_clear 1 = .ok (.getfield 12, 3) := by decide +kernel
theorem dX7_clear_4 : decode cX7_clear 4 = .ok (.iconst 0, 1) := by decide +kernel
theorem dX7_clear_5 : decode cX7_clear 5 = .ok (.invokevirtual 36, 3) := by decide +kernel
theorem dX7_clear_8 : decode cX7_clear 8 = .ok (.return_, 1) := by decide +kernel
set_option maxRecDepth 20000 in
theorem ggX7_refusalOf_Jx29ce0_ordinal_8abf5 : GoodIn wsX7_refusalOf wsJx29ce0_ordinal_8abf5 := goodIn_r _ [9, 10] (by decide +kernel) (by decide +kernel)
set_option maxRecDepth 20000 in
theorem gX7_refusalOf_Jx29ce0_ordinal_8abf5_u45X4 : GoodIn wsX7_refusalOf (va_wsU RX7 45 RX4 "java/lang/Enum" ⟨"CircusLedger$Command", "ordinal", "()I"⟩ yJx29ce0_ordinal_8abf5 wsJx29ce0_ordinal_8abf5) := goodIn_app (goodIn_of _ (by decide +kernel)) ggX7_refusalOf_Jx29ce0_ordinal_8abf5
set_option maxRecDepth 20000 in
theorem ggX7_refusalOf_X7_argument : GoodIn wsX7_refusalOf wsX7_argument := goodIn_ca (goodIn_r _ [15, 16, 152, 153, 154, 155, 156, 157] (by decide +kernel) (by decide +kernel)) (goodIn_sub (fun _ h => List.mem_cons_of_mem _ (List.mem_append_right _ h)) (by decide +kernel))
set_option maxRecDepth 20000 in
theorem gX7_refusalOf_X7_argument : GoodIn wsX7_refusalOf (wsV RX7 48 RX7 yX7_argument wsX7_argument) := goodIn_app (goodIn_of _ (by decide +kernel)) ggX7_refusalOf_X7_argument
set_option maxRecDepth 20000 in
theorem ggX7_refusalOf_X3_refusalToHire : GoodIn wsX7_refusalOf wsX3_refusalToHire := goodIn_r _ [21, 22, 23, 24, 25, 26, 27, 28, 20, 29, 158, 159, 160, 161, 162, 163, 164, 165, 166, 167, 168, 169] (by decide +kernel) (by decide +kernel)
set_option maxRecDepth 20000 in
theorem gX7_refusalOf_X3_refusalToHire : GoodIn wsX7_refusalOf (wsV RX7 52 RX3 yX3_refusalToHire wsX3_refusalToHire) := goodIn_app (goodIn_of _ (by decide +kernel)) ggX7_refusalOf_X3_refusalToHire
set_option maxRecDepth 20000 in
theorem ggX7_refusalOf_X3_refusalToBook : GoodIn wsX7_refusalOf wsX3_refusalToBook := goodIn_ca (goodIn_r _ [33, 34, 35, 22, 25, 36, 26, 37, 38, 39, 40, 41, 42, 27, 28, 20, 29, 43, 44, 45, 46, 47, 48, 49, 50, 51, 52, 158, 159, 160, 161, 162, 163, 170, 171, 172, 173, 174, 175, 176] (by decide +kernel) (by decide +kernel)) (goodIn_sub (fun _ h => List.mem_cons_of_mem _ (List.mem_append_right _ h)) (by decide +kernel))
set_option maxRecDepth 20000 in
theorem gX7_refusalOf_X3_refusalToBook : GoodIn wsX7_refusalOf (wsV RX7 58 RX3 yX3_refusalToBook wsX3_refusalToBook) := goodIn_app (goodIn_of _ (by decide +kernel)) ggX7_refusalOf_X3_refusalToBook
set_option maxRecDepth 20000 in
theorem ggX7_refusalOf_X3_refusalToPay : GoodIn wsX7_refusalOf wsX3_refusalToPay := goodIn_ca (goodIn_r _ [56, 23, 35, 57, 58, 59, 60, 61, 62, 63, 31, 32, 20, 33, 34, 22, 25, 36, 26, 37, 38, 39, 40, 41, 42, 27, 28, 29, 43, 44, 45, 46, 47, 48, 49, 50, 51, 52, 158, 159, 160, 161, 162, 163, 164, 165, 166, 167, 168, 169, 170, 171, 172, 173, 174, 175, 176] (by decide +kernel) (by decide +kernel)) (goodIn_sub (fun _ h => List.mem_cons_of_mem _ (List.mem_append_right _ h)) (by decide +kernel))
set_option maxRecDepth 20000 in
theorem gX7_refusalOf_X3_refusalToPay : GoodIn wsX7_refusalOf (wsV RX7 62 RX3 yX3_refusalToPay wsX3_refusalToPay) := goodIn_app (goodIn_of _ (by decide +kernel)) ggX7_refusalOf_X3_refusalToPay
set_option maxRecDepth 20000 in
theorem ggX7_refusalOf_X3_refusalToShow : GoodIn wsX7_refusalOf wsX3_refusalToShow := goodIn_ca (goodIn_r _ [67, 23, 22, 36, 34, 26, 25, 68, 69, 70, 60, 71, 62, 72, 73, 74, 75, 76, 77, 78, 79, 80, 81, 82, 83, 84, 85, 86, 87, 88, 89, 90, 91, 92, 93, 94, 95, 96, 97, 98, 99, 100, 101, 102, 103, 104, 105, 106, 107, 108, 109, 110, 111, 112, 113, 114, 115, 116, 20, 117, 118, 119, 120, 121, 122, 123, 124, 125, 126, 127, 128, 129, 130, 131, 43, 44, 45, 40, 46, 47, 158, 159, 160, 161, 162, 163, 164, 165, 166, 167, 168, 169, 170, 171, 172, 173, 174, 175, 176] (by decide +kernel) (by decide +kernel)) (goodIn_sub (fun _ h => List.mem_cons_of_mem _ (List.mem_append_right _ h)) (by decide +kernel))
set_option maxRecDepth 20000 in
theorem gX7_refusalOf_X3_refusalToShow : GoodIn wsX7_refusalOf (wsV RX7 66 RX3 yX3_refusalToShow wsX3_refusalToShow) := goodIn_app (goodIn_of _ (by decide +kernel)) ggX7_refusalOf_X3_refusalToShow
set_option maxRecDepth 20000 in
theorem ggX7_refusalOf_X3_refusalToSpan : GoodIn wsX7_refusalOf wsX3_refusalToSpan := goodIn_r _ [135, 26, 22, 27, 28, 20, 29] (by decide +kernel) (by decide +kernel)
set_option maxRecDepth 20000 in
theorem gX7_refusalOf_X3_refusalToSpan : GoodIn wsX7_refusalOf (wsV RX7 70 RX3 yX3_refusalToSpan wsX3_refusalToSpan) := goodIn_app (goodIn_of _ (by decide +kernel)) ggX7_refusalOf_X3_refusalToSpan
set_option maxRecDepth 20000 in
theorem ggX7_refusalOf_X3_refusalToWait : GoodIn wsX7_refusalOf wsX3_refusalToWait := goodIn_r _ [139, 26, 22, 27, 28, 20, 29] (by decide +kernel) (by decide +kernel)
set_option maxRecDepth 20000 in
theorem gX7_refusalOf_X3_refusalToWait : GoodIn wsX7_refusalOf (wsV RX7 73 RX3 yX3_refusalToWait wsX3_refusalToWait) := goodIn_app (goodIn_of _ (by decide +kernel)) ggX7_refusalOf_X3_refusalToWait
set_option maxRecDepth 20000 in
theorem ggX7_refusalOf_X3_refusalToOffset : GoodIn wsX7_refusalOf wsX3_refusalToOffset := goodIn_ca (goodIn_r _ [143, 34, 35, 26, 25, 37, 38, 39, 40, 41, 42, 144, 145, 146, 147, 52, 148, 125, 126, 127, 149, 150, 151, 43, 44, 45, 46, 47, 158, 159, 160, 161, 162, 163, 170, 171, 172, 173, 174, 175, 176] (by decide +kernel) (by decide +kernel)) (goodIn_sub (fun _ h => List.mem_cons_of_mem _ (List.mem_append_right _ h)) (by decide +kernel))
set_option maxRecDepth 20000 in
theorem gX7_refusalOf_X3_refusalToOffset : GoodIn wsX7_refusalOf (wsV RX7 76 RX3 yX3_refusalToOffset wsX3_refusalToOffset) := goodIn_app (goodIn_of _ (by decide +kernel)) ggX7_refusalOf_X3_refusalToOffset
theorem dX7_refusalOf_0 : decode cX7_refusalOf 0 = .ok (.getstatic 40, 3) := by decide +kernel
theorem dX7_refusalOf_3 : decode cX7_refusalOf 3 = .ok (.aload_n 0, 1) := by decide +kernel
theorem dX7_refusalOf_4 : decode cX7_refusalOf 4 = .ok (.getfield 20, 3) := by decide +kernel
theorem dX7_refusalOf_7 : decode cX7_refusalOf 7 = .ok (.iload_n 1, 1) := by decide +kernel
theorem dX7_refusalOf_8 : decode cX7_refusalOf 8 = .ok (.aaload, 1) := by decide +kernel
theorem dX7_refusalOf_9 : decode cX7_refusalOf 9 = .ok (.invokevirtual 45, 3) := by decide +kernel
theorem dX7_refusalOf_12 : decode cX7_refusalOf 12 = .ok (.iaload, 1) := by decide +kernel
theorem dX7_refusalOf_13 : decode cX7_refusalOf 13 = .ok (.tableswitch 162 1 7 #[43, 72, 95, 112, 123, 134, 145], 43) := by decide +kernel
theorem dX7_refusalOf_56 : decode cX7_refusalOf 56 = .ok (.aload_n 2, 1) := by decide +kernel
theorem dX7_refusalOf_57 : decode cX7_refusalOf 57 = .ok (.aload_n 0, 1) := by decide +kernel
theorem dX7_refusalOf_58 : decode cX7_refusalOf 58 = .ok (.iload_n 1, 1) := by decide +kernel
theorem dX7_refusalOf_59 : decode cX7_refusalOf 59 = .ok (.iconst 0, 1) := by decide +kernel
theorem dX7_refusalOf_60 : decode cX7_refusalOf 60 = .ok (.invokevirtual 48, 3) := by decide +kernel
theorem dX7_refusalOf_63 : decode cX7_refusalOf 63 = .ok (.aload_n 0, 1) := by decide +kernel
theorem dX7_refusalOf_64 : decode cX7_refusalOf 64 = .ok (.iload_n 1, 1) := by decide +kernel
theorem dX7_refusalOf_65 : decode cX7_refusalOf 65 = .ok (.iconst 1, 1) := by decide +kernel
theorem dX7_refusalOf_66 : decode cX7_refusalOf 66 = .ok (.invokevirtual 48, 3) := by decide +kernel
theorem dX7_refusalOf_69 : decode cX7_refusalOf 69 = .ok (.aload_n 0, 1) := by decide +kernel
theorem dX7_refusalOf_70 : decode cX7_refusalOf 70 = .ok (.iload_n 1, 1) := by decide +kernel
theorem dX7_refusalOf_71 : decode cX7_refusalOf 71 = .ok (.iconst 2, 1) := by decide +kernel
theorem dX7_refusalOf_72 : decode cX7_refusalOf 72 = .ok (.invokevirtual 48, 3) := by decide +kernel
theorem dX7_refusalOf_75 : decode cX7_refusalOf 75 = .ok (.aload_n 0, 1) := by decide +kernel
theorem dX7_refusalOf_76 : decode cX7_refusalOf 76 = .ok (.iload_n 1, 1) := by decide +kernel
theorem dX7_refusalOf_77 : decode cX7_refusalOf 77 = .ok (.iconst 3, 1) := by decide +kernel
theorem dX7_refusalOf_78 : decode cX7_refusalOf 78 = .ok (.invokevirtual 48, 3) := by decide +kernel
theorem dX7_refusalOf_81 : decode cX7_refusalOf 81 = .ok (.invokevirtual 52, 3) := by decide +kernel
theorem dX7_refusalOf_84 : decode cX7_refusalOf 84 = .ok (.areturn, 1) := by decide +kernel
theorem dX7_refusalOf_85 : decode cX7_refusalOf 85 = .ok (.aload_n 2, 1) := by decide +kernel
theorem dX7_refusalOf_86 : decode cX7_refusalOf 86 = .ok (.aload_n 0, 1) := by decide +kernel
theorem dX7_refusalOf_87 : decode cX7_refusalOf 87 = .ok (.iload_n 1, 1) := by decide +kernel
theorem dX7_refusalOf_88 : decode cX7_refusalOf 88 = .ok (.iconst 0, 1) := by decide +kernel
theorem dX7_refusalOf_89 : decode cX7_refusalOf 89 = .ok (.invokevirtual 48, 3) := by decide +kernel
theorem dX7_refusalOf_92 : decode cX7_refusalOf 92 = .ok (.aload_n 0, 1) := by decide +kernel
theorem dX7_refusalOf_93 : decode cX7_refusalOf 93 = .ok (.iload_n 1, 1) := by decide +kernel
theorem dX7_refusalOf_94 : decode cX7_refusalOf 94 = .ok (.iconst 1, 1) := by decide +kernel
theorem dX7_refusalOf_95 : decode cX7_refusalOf 95 = .ok (.invokevirtual 48, 3) := by decide +kernel
theorem dX7_refusalOf_98 : decode cX7_refusalOf 98 = .ok (.aload_n 0, 1) := by decide +kernel
theorem dX7_refusalOf_99 : decode cX7_refusalOf 99 = .ok (.iload_n 1, 1) := by decide +kernel
theorem dX7_refusalOf_100 : decode cX7_refusalOf 100 = .ok (.iconst 2, 1) := by decide +kernel
theorem dX7_refusalOf_101 : decode cX7_refusalOf 101 = .ok (.invokevirtual 48, 3) := by decide +kernel
theorem dX7_refusalOf_104 : decode cX7_refusalOf 104 = .ok (.invokevirtual 58, 3) := by decide +kernel
theorem dX7_refusalOf_107 : decode cX7_refusalOf 107 = .ok (.areturn, 1) := by decide +kernel
theorem dX7_refusalOf_108 : decode cX7_refusalOf 108 = .ok (.aload_n 2, 1) := by decide +kernel
theorem dX7_refusalOf_109 : decode cX7_refusalOf 109 = .ok (.aload_n 0, 1) := by decide +kernel
theorem dX7_refusalOf_110 : decode cX7_refusalOf 110 = .ok (.iload_n 1, 1) := by decide +kernel
theorem dX7_refusalOf_111 : decode cX7_refusalOf 111 = .ok (.iconst 0, 1) := by decide +kernel
theorem dX7_refusalOf_112 : decode cX7_refusalOf 112 = .ok (.invokevirtual 48, 3) := by decide +kernel
theorem dX7_refusalOf_115 : decode cX7_refusalOf 115 = .ok (.aload_n 0, 1) := by decide +kernel
theorem dX7_refusalOf_116 : decode cX7_refusalOf 116 = .ok (.iload_n 1, 1) := by decide +kernel
theorem dX7_refusalOf_117 : decode cX7_refusalOf 117 = .ok (.iconst 1, 1) := by decide +kernel
theorem dX7_refusalOf_118 : decode cX7_refusalOf 118 = .ok (.invokevirtual 48, 3) := by decide +kernel
theorem dX7_refusalOf_121 : decode cX7_refusalOf 121 = .ok (.invokevirtual 62, 3) := by decide +kernel
theorem dX7_refusalOf_124 : decode cX7_refusalOf 124 = .ok (.areturn, 1) := by decide +kernel
theorem dX7_refusalOf_125 : decode cX7_refusalOf 125 = .ok (.aload_n 2, 1) := by decide +kernel
theorem dX7_refusalOf_126 : decode cX7_refusalOf 126 = .ok (.aload_n 0, 1) := by decide +kernel
theorem dX7_refusalOf_127 : decode cX7_refusalOf 127 = .ok (.iload_n 1, 1) := by decide +kernel
theorem dX7_refusalOf_128 : decode cX7_refusalOf 128 = .ok (.iconst 0, 1) := by decide +kernel
theorem dX7_refusalOf_129 : decode cX7_refusalOf 129 = .ok (.invokevirtual 48, 3) := by decide +kernel
theorem dX7_refusalOf_132 : decode cX7_refusalOf 132 = .ok (.invokevirtual 66, 3) := by decide +kernel
theorem dX7_refusalOf_135 : decode cX7_refusalOf 135 = .ok (.areturn, 1) := by decide +kernel
theorem dX7_refusalOf_136 : decode cX7_refusalOf 136 = .ok (.aload_n 2, 1) := by decide +kernel
theorem dX7_refusalOf_137 : decode cX7_refusalOf 137 = .ok (.aload_n 0, 1) := by decide +kernel
theorem dX7_refusalOf_138 : decode cX7_refusalOf 138 = .ok (.iload_n 1, 1) := by decide +kernel
theorem dX7_refusalOf_139 : decode cX7_refusalOf 139 = .ok (.iconst 0, 1) := by decide +kernel
theorem dX7_refusalOf_140 : decode cX7_refusalOf 140 = .ok (.invokevirtual 48, 3) := by decide +kernel
theorem dX7_refusalOf_143 : decode cX7_refusalOf 143 = .ok (.invokevirtual 70, 3) := by decide +kernel
theorem dX7_refusalOf_146 : decode cX7_refusalOf 146 = .ok (.areturn, 1) := by decide +kernel
theorem dX7_refusalOf_147 : decode cX7_refusalOf 147 = .ok (.aload_n 2, 1) := by decide +kernel
theorem dX7_refusalOf_148 : decode cX7_refusalOf 148 = .ok (.aload_n 0, 1) := by decide +kernel
theorem dX7_refusalOf_149 : decode cX7_refusalOf 149 = .ok (.iload_n 1, 1) := by decide +kernel
theorem dX7_refusalOf_150 : decode cX7_refusalOf 150 = .ok (.iconst 0, 1) := by decide +kernel
theorem dX7_refusalOf_151 : decode cX7_refusalOf 151 = .ok (.invokevirtual 48, 3) := by decide +kernel
theorem dX7_refusalOf_154 : decode cX7_refusalOf 154 = .ok (.invokevirtual 73, 3) := by decide +kernel
theorem dX7_refusalOf_157 : decode cX7_refusalOf 157 = .ok (.areturn, 1) := by decide +kernel
theorem dX7_refusalOf_158 : decode cX7_refusalOf 158 = .ok (.aload_n 2, 1) := by decide +kernel
theorem dX7_refusalOf_159 : decode cX7_refusalOf 159 = .ok (.aload_n 0, 1) := by decide +kernel
theorem dX7_refusalOf_160 : decode cX7_refusalOf 160 = .ok (.iload_n 1, 1) := by decide +kernel
theorem dX7_refusalOf_161 : decode cX7_refusalOf 161 = .ok (.iconst 0, 1) := by decide +kernel
theorem dX7_refusalOf_162 : decode cX7_refusalOf 162 = .ok (.invokevirtual 48, 3) := by decide +kernel
theorem dX7_refusalOf_165 : decode cX7_refusalOf 165 = .ok (.aload_n 0, 1) := by decide +kernel
theorem dX7_refusalOf_166 : decode cX7_refusalOf 166 = .ok (.iload_n 1, 1) := by decide +kernel
theorem dX7_refusalOf_167 : decode cX7_refusalOf 167 = .ok (.iconst 1, 1) := by decide +kernel
theorem dX7_refusalOf_168 : decode cX7_refusalOf 168 = .ok (.invokevirtual 48, 3) := by decide +kernel
theorem dX7_refusalOf_171 : decode cX7_refusalOf 171 = .ok (.invokevirtual 76, 3) := by decide +kernel
theorem dX7_refusalOf_174 : decode cX7_refusalOf 174 = .ok (.areturn, 1) := by decide +kernel
theorem dX7_refusalOf_175 : decode cX7_refusalOf 175 = .ok (.getstatic 79, 3) := by decide +kernel
theorem dX7_refusalOf_178 : decode cX7_refusalOf 178 = .ok (.areturn, 1) := by decide +kernel
set_option maxRecDepth 20000 in
theorem ggX7_execute_Jx29ce0_ordinal_8abf5 : GoodIn wsX7_execute wsJx29ce0_ordinal_8abf5 := goodIn_r _ [9, 10] (by decide +kernel) (by decide +kernel)
set_option maxRecDepth 20000 in
theorem gX7_execute_Jx29ce0_ordinal_8abf5_u45X4 : GoodIn wsX7_execute (va_wsU RX7 45 RX4 "java/lang/Enum" ⟨"CircusLedger$Command", "ordinal", "()I"⟩ yJx29ce0_ordinal_8abf5 wsJx29ce0_ordinal_8abf5) := goodIn_app (goodIn_of _ (by decide +kernel)) ggX7_execute_Jx29ce0_ordinal_8abf5
set_option maxRecDepth 20000 in
theorem ggX7_execute_X7_argument : GoodIn wsX7_execute wsX7_argument := goodIn_ca (goodIn_r _ [15, 16, 157, 158, 159, 160, 161, 162] (by decide +kernel) (by decide +kernel)) (goodIn_sub (fun _ h => List.mem_cons_of_mem _ (List.mem_append_right _ h)) (by decide +kernel))
set_option maxRecDepth 20000 in
theorem gX7_execute_X7_argument : GoodIn wsX7_execute (wsV RX7 48 RX7 yX7_argument wsX7_argument) := goodIn_app (goodIn_of _ (by decide +kernel)) ggX7_execute_X7_argument
set_option maxRecDepth 20000 in
theorem ggX7_execute_X3_hire : GoodIn wsX7_execute wsX3_hire := goodIn_ca (goodIn_r _ [21, 22, 23, 24, 25, 26, 27, 28, 29, 30, 31, 32, 33, 34, 35, 36, 37, 38, 39, 163, 164, 165, 166, 167, 168, 169, 170, 171, 172, 173, 174, 175, 176, 177, 178, 179, 180, 181] (by decide +kernel) (by decide +kernel)) (goodIn_sub (fun _ h => List.mem_cons_of_mem _ (List.mem_append_right _ h)) (by decide +kernel))
set_option maxRecDepth 20000 in
theorem gX7_execute_X3_hire : GoodIn wsX7_execute (wsV RX7 85 RX3 yX3_hire wsX3_hire) := goodIn_app (goodIn_of _ (by decide +kernel)) ggX7_execute_X3_hire
set_option maxRecDepth 20000 in
theorem ggX7_execute_X2_book : GoodIn wsX7_execute wsX2_book := goodIn_ca (goodIn_r _ [43, 44, 45, 46, 47, 48, 169, 170, 171, 172, 173, 174, 175] (by decide +kernel) (by decide +kernel)) (goodIn_sub (fun _ h => List.mem_cons_of_mem _ (List.mem_append_right _ h)) (by decide +kernel))
set_option maxRecDepth 20000 in
theorem gX7_execute_X2_book : GoodIn wsX7_execute (wsV RX7 93 RX2 yX2_book wsX2_book) := goodIn_app (goodIn_of _ (by decide +kernel)) ggX7_execute_X2_book
set_option maxRecDepth 20000 in
theorem ggX7_execute_X3_pay : GoodIn wsX7_execute wsX3_pay := goodIn_ca (goodIn_r _ [52, 22, 53, 54, 41, 42, 27, 43, 44, 45, 46, 47, 48, 163, 164, 165, 166, 167, 168, 169, 170, 171, 172, 173, 174, 175] (by decide +kernel) (by decide +kernel)) (goodIn_sub (fun _ h => List.mem_cons_of_mem _ (List.mem_append_right _ h)) (by decide +kernel))
set_option maxRecDepth 20000 in
theorem gX7_execute_X3_pay : GoodIn wsX7_execute (wsV RX7 99 RX3 yX3_pay wsX3_pay) := goodIn_app (goodIn_of _ (by decide +kernel)) ggX7_execute_X3_pay
set_option maxRecDepth 20000 in
theorem ggX7_execute_X3_giveShow : GoodIn wsX7_execute wsX3_giveShow := goodIn_ca (goodIn_r _ [58, 59, 23, 60, 61, 62, 33, 63, 35, 37, 64, 65, 66, 67, 68, 69, 70, 71, 36, 72, 73, 74, 75, 76, 77, 78, 20, 79, 22, 80, 81, 82, 83, 84, 85, 38, 54, 41, 42, 27, 43, 44, 45, 46, 47, 48, 86, 87, 88, 89, 90, 91, 92, 93, 94, 95, 96, 97, 98, 99, 100, 101, 102, 103, 104, 105, 106, 107, 108, 109, 110, 111, 53, 112, 113, 114, 115, 116, 117, 118, 119, 120, 121, 122, 123, 124, 125, 126, 127, 128, 129, 130, 131, 132, 133, 134, 135, 136, 163, 164, 165, 166, 167, 168, 176, 177, 178, 179, 180, 181, 169, 170, 171, 172, 173, 174, 175] (by decide +kernel) (by decide +kernel)) (goodIn_sub (fun _ h => List.mem_cons_of_mem _ (List.mem_append_right _ h)) (by decide +kernel))
set_option maxRecDepth 20000 in
theorem gX7_execute_X3_giveShow : GoodIn wsX7_execute (wsV RX7 102 RX3 yX3_giveShow wsX3_giveShow) := goodIn_app (goodIn_of _ (by decide +kernel)) ggX7_execute_X3_giveShow
set_option maxRecDepth 20000 in
theorem ggX7_execute_X3_spanNet : GoodIn wsX7_execute wsX3_spanNet := goodIn_r _ [140, 92, 163, 164, 165, 166, 167, 168] (by decide +kernel) (by decide +kernel)
set_option maxRecDepth 20000 in
theorem gX7_execute_X3_spanNet : GoodIn wsX7_execute (wsV RX7 106 RX3 yX3_spanNet wsX3_spanNet) := goodIn_app (goodIn_of _ (by decide +kernel)) ggX7_execute_X3_spanNet
set_option maxRecDepth 20000 in
theorem ggX7_execute_X3_waitNights : GoodIn wsX7_execute wsX3_waitNights := goodIn_ca (goodIn_r _ [128, 129, 23, 130, 131, 132, 33, 133, 35, 124, 134, 135, 114, 136, 163, 164, 165, 166, 167, 168, 176, 177, 178, 179, 180, 181] (by decide +kernel) (by decide +kernel)) (goodIn_sub (fun _ h => List.mem_cons_of_mem _ (List.mem_append_right _ h)) (by decide +kernel))
set_option maxRecDepth 20000 in
theorem gX7_execute_X3_waitNights : GoodIn wsX7_execute (wsV RX7 109 RX3 yX3_waitNights wsX3_waitNights) := goodIn_app (goodIn_of _ (by decide +kernel)) ggX7_execute_X3_waitNights
set_option maxRecDepth 20000 in
theorem ggX7_execute_X2_close : GoodIn wsX7_execute wsX2_close := goodIn_r _ [145, 44, 48, 146, 147, 148, 149, 150, 169, 170, 171, 172, 173, 174, 175] (by decide +kernel) (by decide +kernel)
set_option maxRecDepth 20000 in
theorem gX7_execute_X2_close : GoodIn wsX7_execute (wsV RX7 112 RX2 yX2_close wsX2_close) := goodIn_app (goodIn_of _ (by decide +kernel)) ggX7_execute_X2_close
set_option maxRecDepth 20000 in
theorem ggX7_execute_X2_offset : GoodIn wsX7_execute wsX2_offset := goodIn_ca (goodIn_r _ [154, 48, 155, 113, 114, 115, 156, 41, 42, 27, 43, 44, 45, 46, 47, 169, 170, 171, 172, 173, 174, 175] (by decide +kernel) (by decide +kernel)) (goodIn_sub (fun _ h => List.mem_cons_of_mem _ (List.mem_append_right _ h)) (by decide +kernel))
set_option maxRecDepth 20000 in
theorem gX7_execute_X2_offset : GoodIn wsX7_execute (wsV RX7 115 RX2 yX2_offset wsX2_offset) := goodIn_app (goodIn_of _ (by decide +kernel)) ggX7_execute_X2_offset
theorem dX7_execute_0 : decode cX7_execute 0 = .ok (.getstatic 40, 3) := by decide +kernel
theorem dX7_execute_3 : decode cX7_execute 3 = .ok (.aload_n 0, 1) := by decide +kernel
theorem dX7_execute_4 : decode cX7_execute 4 = .ok (.getfield 20, 3) := by decide +kernel
theorem dX7_execute_7 : decode cX7_execute 7 = .ok (.iload_n 1, 1) := by decide +kernel
theorem dX7_execute_8 : decode cX7_execute 8 = .ok (.aaload, 1) := by decide +kernel
theorem dX7_execute_9 : decode cX7_execute 9 = .ok (.invokevirtual 45, 3) := by decide +kernel
theorem dX7_execute_12 : decode cX7_execute 12 = .ok (.iaload, 1) := by decide +kernel
theorem dX7_execute_13 : decode cX7_execute 13 = .ok (.tableswitch 204 1 8 #[47, 79, 108, 128, 142, 156, 181, 170], 47) := by decide +kernel
theorem dX7_execute_60 : decode cX7_execute 60 = .ok (.aload_n 2, 1) := by decide +kernel
theorem dX7_execute_61 : decode cX7_execute 61 = .ok (.aload_n 0, 1) := by decide +kernel
theorem dX7_execute_62 : decode cX7_execute 62 = .ok (.iload_n 1, 1) := by decide +kernel
theorem dX7_execute_63 : decode cX7_execute 63 = .ok (.iconst 0, 1) := by decide +kernel
theorem dX7_execute_64 : decode cX7_execute 64 = .ok (.invokevirtual 48, 3) := by decide +kernel
theorem dX7_execute_67 : decode cX7_execute 67 = .ok (.aload_n 0, 1) := by decide +kernel
theorem dX7_execute_68 : decode cX7_execute 68 = .ok (.iload_n 1, 1) := by decide +kernel
theorem dX7_execute_69 : decode cX7_execute 69 = .ok (.iconst 1, 1) := by decide +kernel
theorem dX7_execute_70 : decode cX7_execute 70 = .ok (.invokevirtual 48, 3) := by decide +kernel
theorem dX7_execute_73 : decode cX7_execute 73 = .ok (.aload_n 0, 1) := by decide +kernel
theorem dX7_execute_74 : decode cX7_execute 74 = .ok (.iload_n 1, 1) := by decide +kernel
theorem dX7_execute_75 : decode cX7_execute 75 = .ok (.iconst 2, 1) := by decide +kernel
theorem dX7_execute_76 : decode cX7_execute 76 = .ok (.invokevirtual 48, 3) := by decide +kernel
theorem dX7_execute_79 : decode cX7_execute 79 = .ok (.aload_n 0, 1) := by decide +kernel
theorem dX7_execute_80 : decode cX7_execute 80 = .ok (.iload_n 1, 1) := by decide +kernel
theorem dX7_execute_81 : decode cX7_execute 81 = .ok (.iconst 3, 1) := by decide +kernel
theorem dX7_execute_82 : decode cX7_execute 82 = .ok (.invokevirtual 48, 3) := by decide +kernel
theorem dX7_execute_85 : decode cX7_execute 85 = .ok (.invokevirtual 85, 3) := by decide +kernel
theorem dX7_execute_88 : decode cX7_execute 88 = .ok (.pop, 1) := by decide +kernel
theorem dX7_execute_89 : decode cX7_execute 89 = .ok (.goto 128, 3) := by decide +kernel
theorem dX7_execute_92 : decode cX7_execute 92 = .ok (.aload_n 2, 1) := by decide +kernel
theorem dX7_execute_93 : decode cX7_execute 93 = .ok (.getfield 89, 3) := by decide +kernel
theorem dX7_execute_96 : decode cX7_execute 96 = .ok (.aload_n 0, 1) := by decide +kernel
theorem dX7_execute_97 : decode cX7_execute 97 = .ok (.iload_n 1, 1) := by decide +kernel
theorem dX7_execute_98 : decode cX7_execute 98 = .ok (.iconst 0, 1) := by decide +kernel
theorem dX7_execute_99 : decode cX7_execute 99 = .ok (.invokevirtual 48, 3) := by decide +kernel
theorem dX7_execute_102 : decode cX7_execute 102 = .ok (.aload_n 0, 1) := by decide +kernel
theorem dX7_execute_103 : decode cX7_execute 103 = .ok (.iload_n 1, 1) := by decide +kernel
theorem dX7_execute_104 : decode cX7_execute 104 = .ok (.iconst 1, 1) := by decide +kernel
theorem dX7_execute_105 : decode cX7_execute 105 = .ok (.invokevirtual 48, 3) := by decide +kernel
theorem dX7_execute_108 : decode cX7_execute 108 = .ok (.aload_n 0, 1) := by decide +kernel
theorem dX7_execute_109 : decode cX7_execute 109 = .ok (.iload_n 1, 1) := by decide +kernel
theorem dX7_execute_110 : decode cX7_execute 110 = .ok (.iconst 2, 1) := by decide +kernel
theorem dX7_execute_111 : decode cX7_execute 111 = .ok (.invokevirtual 48, 3) := by decide +kernel
theorem dX7_execute_114 : decode cX7_execute 114 = .ok (.invokevirtual 93, 3) := by decide +kernel
theorem dX7_execute_117 : decode cX7_execute 117 = .ok (.pop, 1) := by decide +kernel
theorem dX7_execute_118 : decode cX7_execute 118 = .ok (.goto 99, 3) := by decide +kernel
theorem dX7_execute_121 : decode cX7_execute 121 = .ok (.aload_n 2, 1) := by decide +kernel
theorem dX7_execute_122 : decode cX7_execute 122 = .ok (.aload_n 0, 1) := by decide +kernel
theorem dX7_execute_123 : decode cX7_execute 123 = .ok (.iload_n 1, 1) := by decide +kernel
theorem dX7_execute_124 : decode cX7_execute 124 = .ok (.iconst 0, 1) := by decide +kernel
theorem dX7_execute_125 : decode cX7_execute 125 = .ok (.invokevirtual 48, 3) := by decide +kernel
theorem dX7_execute_128 : decode cX7_execute 128 = .ok (.aload_n 0, 1) := by decide +kernel
theorem dX7_execute_129 : decode cX7_execute 129 = .ok (.iload_n 1, 1) := by decide +kernel
theorem dX7_execute_130 : decode cX7_execute 130 = .ok (.iconst 1, 1) := by decide +kernel
theorem dX7_execute_131 : decode cX7_execute 131 = .ok (.invokevirtual 48, 3) := by decide +kernel
theorem dX7_execute_134 : decode cX7_execute 134 = .ok (.invokevirtual 99, 3) := by decide +kernel
theorem dX7_execute_137 : decode cX7_execute 137 = .ok (.pop, 1) := by decide +kernel
theorem dX7_execute_138 : decode cX7_execute 138 = .ok (.goto 79, 3) := by decide +kernel
theorem dX7_execute_141 : decode cX7_execute 141 = .ok (.aload_n 2, 1) := by decide +kernel
theorem dX7_execute_142 : decode cX7_execute 142 = .ok (.aload_n 0, 1) := by decide +kernel
theorem dX7_execute_143 : decode cX7_execute 143 = .ok (.iload_n 1, 1) := by decide +kernel
theorem dX7_execute_144 : decode cX7_execute 144 = .ok (.iconst 0, 1) := by decide +kernel
theorem dX7_execute_145 : decode cX7_execute 145 = .ok (.invokevirtual 48, 3) := by decide +kernel
theorem dX7_execute_148 : decode cX7_execute 148 = .ok (.invokevirtual 102, 3) := by decide +kernel
theorem dX7_execute_151 : decode cX7_execute 151 = .ok (.pop, 1) := by decide +kernel
theorem dX7_execute_152 : decode cX7_execute 152 = .ok (.goto 65, 3) := by decide +kernel
theorem dX7_execute_155 : decode cX7_execute 155 = .ok (.aload_n 2, 1) := by decide +kernel
theorem dX7_execute_156 : decode cX7_execute 156 = .ok (.aload_n 0, 1) := by decide +kernel
theorem dX7_execute_157 : decode cX7_execute 157 = .ok (.iload_n 1, 1) := by decide +kernel
theorem dX7_execute_158 : decode cX7_execute 158 = .ok (.iconst 0, 1) := by decide +kernel
theorem dX7_execute_159 : decode cX7_execute 159 = .ok (.invokevirtual 48, 3) := by decide +kernel
theorem dX7_execute_162 : decode cX7_execute 162 = .ok (.invokevirtual 106, 3) := by decide +kernel
theorem dX7_execute_165 : decode cX7_execute 165 = .ok (.pop, 1) := by decide +kernel
theorem dX7_execute_166 : decode cX7_execute 166 = .ok (.goto 51, 3) := by decide +kernel
theorem dX7_execute_169 : decode cX7_execute 169 = .ok (.aload_n 2, 1) := by decide +kernel
theorem dX7_execute_170 : decode cX7_execute 170 = .ok (.aload_n 0, 1) := by decide +kernel
theorem dX7_execute_171 : decode cX7_execute 171 = .ok (.iload_n 1, 1) := by decide +kernel
theorem dX7_execute_172 : decode cX7_execute 172 = .ok (.iconst 0, 1) := by decide +kernel
theorem dX7_execute_173 : decode cX7_execute 173 = .ok (.invokevirtual 48, 3) := by decide +kernel
theorem dX7_execute_176 : decode cX7_execute 176 = .ok (.invokevirtual 109, 3) := by decide +kernel
theorem dX7_execute_179 : decode cX7_execute 179 = .ok (.pop, 1) := by decide +kernel
theorem dX7_execute_180 : decode cX7_execute 180 = .ok (.goto 37, 3) := by decide +kernel
theorem dX7_execute_183 : decode cX7_execute 183 = .ok (.aload_n 2, 1) := by decide +kernel
theorem dX7_execute_184 : decode cX7_execute 184 = .ok (.getfield 89, 3) := by decide +kernel
theorem dX7_execute_187 : decode cX7_execute 187 = .ok (.invokevirtual 112, 3) := by decide +kernel
theorem dX7_execute_190 : decode cX7_execute 190 = .ok (.pop, 1) := by decide +kernel
theorem dX7_execute_191 : decode cX7_execute 191 = .ok (.goto 26, 3) := by decide +kernel
theorem dX7_execute_194 : decode cX7_execute 194 = .ok (.aload_n 2, 1) := by decide +kernel
theorem dX7_execute_195 : decode cX7_execute 195 = .ok (.getfield 89, 3) := by decide +kernel
theorem dX7_execute_198 : decode cX7_execute 198 = .ok (.aload_n 0, 1) := by decide +kernel
theorem dX7_execute_199 : decode cX7_execute 199 = .ok (.iload_n 1, 1) := by decide +kernel
theorem dX7_execute_200 : decode cX7_execute 200 = .ok (.iconst 0, 1) := by decide +kernel
theorem dX7_execute_201 : decode cX7_execute 201 = .ok (.invokevirtual 48, 3) := by decide +kernel
theorem dX7_execute_204 : decode cX7_execute 204 = .ok (.aload_n 0, 1) := by decide +kernel
theorem dX7_execute_205 : decode cX7_execute 205 = .ok (.iload_n 1, 1) := by decide +kernel
theorem dX7_execute_206 : decode cX7_execute 206 = .ok (.iconst 1, 1) := by decide +kernel
theorem dX7_execute_207 : decode cX7_execute 207 = .ok (.invokevirtual 48, 3) := by decide +kernel
theorem dX7_execute_210 : decode cX7_execute 210 = .ok (.invokevirtual 115, 3) := by decide +kernel
theorem dX7_execute_213 : decode cX7_execute 213 = .ok (.pop, 1) := by decide +kernel
theorem dX7_execute_214 : decode cX7_execute 214 = .ok (.goto 3, 3) := by decide +kernel
theorem dX7_execute_217 : decode cX7_execute 217 = .ok (.return_, 1) := by decide +kernel
theorem dX7_argument_0 : decode cX7_argument 0 = .ok (.aload_n 0, 1) := by decide +kernel
theorem dX7_argument_1 : decode cX7_argument 1 = .ok (.getfield 24, 3) := by decide +kernel
theorem dX7_argument_4 : decode cX7_argument 4 = .ok (.iload_n 1, 1) := by decide +kernel
theorem dX7_argument_5 : decode cX7_argument 5 = .ok (.iconst 4, 1) := by decide +kernel
theorem dX7_argument_6 : decode cX7_argument 6 = .ok (.imul, 1) := by decide +kernel
theorem dX7_argument_7 : decode cX7_argument 7 = .ok (.iload_n 2, 1) := by decide +kernel
theorem dX7_argument_8 : decode cX7_argument 8 = .ok (.iadd, 1) := by decide +kernel
theorem dX7_argument_9 : decode cX7_argument 9 = .ok (.iaload, 1) := by decide +kernel
theorem dX7_argument_10 : decode cX7_argument 10 = .ok (.ireturn, 1) := by decide +kernel
set_option maxRecDepth 20000 in
theorem ggX7_read_X7_readCommand : GoodIn wsX7_read wsX7_readCommand := goodIn_ca (goodIn_r _ [8, 1, 9, 10, 11, 12, 2, 13, 14, 15, 16, 17, 18, 19, 7, 20, 21, 22, 23, 24, 25, 26, 27, 28, 29, 30, 31, 32, 33, 34, 35, 36, 37, 38, 39, 40, 41, 42, 43, 44, 45, 46, 47, 48, 49, 50, 51, 52, 53, 54, 55, 56, 57, 58, 59, 60, 61, 62, 63, 64, 65, 66, 67, 68, 69, 70, 71, 72, 73, 74, 75, 76, 77, 78, 79, 80, 81, 3, 82, 83, 84, 85, 86, 87, 88, 89, 90, 91, 92, 93, 94, 95, 96, 97, 98, 99, 100, 101, 102, 103, 104, 105, 106, 107, 108, 109, 110, 111, 112, 113, 114, 115, 116, 117, 118, 119, 120, 121, 122, 123, 124, 125, 126, 127, 128, 129, 130, 131, 132, 133, 134, 135, 136, 137, 138, 139] (by decide +kernel) (by decide +kernel)) (goodIn_sub (fun _ h => List.mem_cons_of_mem _ (List.mem_append_right _ h)) (by decide +kernel))
set_option maxRecDepth 20000 in
theorem gX7_read_X7_readCommand : GoodIn wsX7_read (wsV RX7 125 RX7 yX7_readCommand wsX7_readCommand) := goodIn_app (goodIn_of _ (by decide +kernel)) ggX7_read_X7_readCommand
set_option maxRecDepth 20000 in
theorem ggX7_read_J4_length_8abf5 : GoodIn wsX7_read wsJ4_length_8abf5 := goodIn_r _ [86, 87, 88, 89, 90, 91, 92, 93, 136, 137, 138, 139] (by decide +kernel) (by decide +kernel)
set_option maxRecDepth 20000 in
theorem gX7_read_J4_length_8abf5 : GoodIn wsX7_read (wsV RX7 28 RJ4 yJ4_length_8abf5 wsJ4_length_8abf5) := goodIn_app (goodIn_of _ (by decide +kernel)) ggX7_read_J4_length_8abf5
set_option maxRecDepth 20000 in
theorem ggX7_read_X7_readSign : GoodIn wsX7_read wsX7_readSign := goodIn_r _ [125, 1, 3, 82, 83, 84, 85, 86, 87, 88, 89, 90, 91, 92, 93, 94, 95, 96, 97, 98, 99, 100, 101, 102, 103, 104, 105, 15, 106, 107, 46, 24, 47, 48, 49, 50, 51, 52, 108, 65, 55, 66, 67, 68, 69, 60, 61, 62, 126, 127, 128, 129, 130, 131, 136, 137, 138, 139] (by decide +kernel) (by decide +kernel)
set_option maxRecDepth 20000 in
theorem gX7_read_X7_readSign : GoodIn wsX7_read (wsV RX7 129 RX7 yX7_readSign wsX7_readSign) := goodIn_app (goodIn_of _ (by decide +kernel)) ggX7_read_X7_readSign
theorem dX7_read_0 : decode cX7_read 0 = .ok (.aload_n 0, 1) := by decide +kernel
theorem dX7_read_1 : decode cX7_read 1 = .ok (.iconst 0, 1) := by decide +kernel
theorem dX7_read_2 : decode cX7_read 2 = .ok (.putfield 118, 3) := by decide +kernel
theorem dX7_read_5 : decode cX7_read 5 = .ok (.aload_n 0, 1) := by decide +kernel
theorem dX7_read_6 : decode cX7_read 6 = .ok (.iconst 0, 1) := by decide +kernel
theorem dX7_read_7 : decode cX7_read 7 = .ok (.putfield 122, 3) := by decide +kernel
theorem dX7_read_10 : decode cX7_read 10 = .ok (.aload_n 0, 1) := by decide +kernel
theorem dX7_read_11 : decode cX7_read 11 = .ok (.invokevirtual 125, 3) := by decide +kernel
theorem dX7_read_14 : decode cX7_read 14 = .ok (.istore_n 1, 1) := by decide +kernel
theorem dX7_read_15 : decode cX7_read 15 = .ok (.iconst 1, 1) := by decide +kernel
theorem dX7_read_16 : decode cX7_read 16 = .ok (.istore_n 2, 1) := by decide +kernel
theorem dX7_read_17 : decode cX7_read 17 = .ok (.iload_n 2, 1) := by decide +kernel
theorem dX7_read_18 : decode cX7_read 18 = .ok (.bipush 12, 2) := by decide +kernel
theorem dX7_read_20 : decode cX7_read 20 = .ok (.if_icmp .ge 49, 3) := by decide +kernel
theorem dX7_read_23 : decode cX7_read 23 = .ok (.iload_n 1, 1) := by decide +kernel
theorem dX7_read_24 : decode cX7_read 24 = .ok (.ifCond .eq 45, 3) := by decide +kernel
theorem dX7_read_27 : decode cX7_read 27 = .ok (.aload_n 0, 1) := by decide +kernel
theorem dX7_read_28 : decode cX7_read 28 = .ok (.getfield 118, 3) := by decide +kernel
theorem dX7_read_31 : decode cX7_read 31 = .ok (.aload_n 0, 1) := by decide +kernel
theorem dX7_read_32 : decode cX7_read 32 = .ok (.getfield 12, 3) := by decide +kernel
theorem dX7_read_35 : decode cX7_read 35 = .ok (.invokevirtual 28, 3) := by decide +kernel
theorem dX7_read_38 : decode cX7_read 38 = .ok (.if_icmp .ge 31, 3) := by decide +kernel
theorem dX7_read_41 : decode cX7_read 41 = .ok (.aload_n 0, 1) := by decide +kernel
theorem dX7_read_42 : decode cX7_read 42 = .ok (.bipush 59, 2) := by decide +kernel
theorem dX7_read_44 : decode cX7_read 44 = .ok (.invokevirtual 129, 3) := by decide +kernel
theorem dX7_read_47 : decode cX7_read 47 = .ok (.ifCond .eq 14, 3) := by decide +kernel
theorem dX7_read_50 : decode cX7_read 50 = .ok (.aload_n 0, 1) := by decide +kernel
theorem dX7_read_51 : decode cX7_read 51 = .ok (.invokevirtual 125, 3) := by decide +kernel
theorem dX7_read_54 : decode cX7_read 54 = .ok (.ifCond .eq 7, 3) := by decide +kernel
theorem dX7_read_57 : decode cX7_read 57 = .ok (.iconst 1, 1) := by decide +kernel
theorem dX7_read_58 : decode cX7_read 58 = .ok (.goto 4, 3) := by decide +kernel
theorem dX7_read_61 : decode cX7_read 61 = .ok (.iconst 0, 1) := by decide +kernel
theorem dX7_read_62 : decode cX7_read 62 = .ok (.istore_n 1, 1) := by decide +kernel
theorem dX7_read_63 : decode cX7_read 63 = .ok (.iinc 2 1, 3) := by decide +kernel
theorem dX7_read_66 : decode cX7_read 66 = .ok (.goto (-49), 3) := by decide +kernel
theorem dX7_read_69 : decode cX7_read 69 = .ok (.iload_n 1, 1) := by decide +kernel
theorem dX7_read_70 : decode cX7_read 70 = .ok (.ifCond .eq 21, 3) := by decide +kernel
theorem dX7_read_73 : decode cX7_read 73 = .ok (.aload_n 0, 1) := by decide +kernel
theorem dX7_read_74 : decode cX7_read 74 = .ok (.getfield 118, 3) := by decide +kernel
theorem dX7_read_77 : decode cX7_read 77 = .ok (.aload_n 0, 1) := by decide +kernel
theorem dX7_read_78 : decode cX7_read 78 = .ok (.getfield 12, 3) := by decide +kernel
theorem dX7_read_81 : decode cX7_read 81 = .ok (.invokevirtual 28, 3) := by decide +kernel
theorem dX7_read_84 : decode cX7_read 84 = .ok (.if_icmp .ne 7, 3) := by decide +kernel
theorem dX7_read_87 : decode cX7_read 87 = .ok (.iconst (-1), 1) := by decide +kernel
theorem dX7_read_88 : decode cX7_read 88 = .ok (.goto 7, 3) := by decide +kernel
theorem dX7_read_91 : decode cX7_read 91 = .ok (.aload_n 0, 1) := by decide +kernel
theorem dX7_read_92 : decode cX7_read 92 = .ok (.getfield 118, 3) := by decide +kernel
theorem dX7_read_95 : decode cX7_read 95 = .ok (.ireturn, 1) := by decide +kernel
set_option maxRecDepth 20000 in
theorem ggX7_readCommand_X7_readForm : GoodIn wsX7_readCommand wsX7_readForm := goodIn_ca (goodIn_r _ [15, 16, 17, 18, 19, 20, 21, 22, 23, 24, 25, 26, 27, 28, 29, 30, 31, 32, 33, 34, 35, 36, 37, 38, 39, 40, 41, 42, 43, 44, 45, 46, 47, 48, 49, 50, 51, 52, 53, 54, 55, 56, 57, 58, 59, 60, 61, 62, 63, 64, 65, 66, 67, 14, 68, 69, 70, 71, 72, 1, 73, 74, 75, 76, 77, 78, 79, 80, 81, 82, 83, 84, 85, 86, 87, 88, 89, 90, 91, 92, 93, 94, 95, 96, 97, 98, 99, 100, 101, 9, 102, 103, 104, 105, 106, 107, 108, 3, 109, 6, 110, 111, 112, 113, 114, 115, 116, 117, 118, 119, 120, 121, 128, 129, 130, 131, 122, 123, 124, 125, 126, 127, 132, 133, 134, 135] (by decide +kernel) (by decide +kernel)) (goodIn_sub (fun _ h => List.mem_cons_of_mem _ (List.mem_append_right _ h)) (by decide +kernel))
set_option maxRecDepth 20000 in
theorem gX7_readCommand_X7_readForm : GoodIn wsX7_readCommand (wsV RX7 143 RX7 yX7_readForm wsX7_readForm) := goodIn_app (goodIn_of _ (by decide +kernel)) ggX7_readCommand_X7_readForm
theorem dX7_readCommand_0 : decode cX7_readCommand 0 = .ok (.aload_n 0, 1) := by decide +kernel
theorem dX7_readCommand_1 : decode cX7_readCommand 1 = .ok (.getfield 118, 3) := by decide +kernel
theorem dX7_readCommand_4 : decode cX7_readCommand 4 = .ok (.istore_n 1, 1) := by decide +kernel
theorem dX7_readCommand_5 : decode cX7_readCommand 5 = .ok (.iload_n 1, 1) := by decide +kernel
theorem dX7_readCommand_6 : decode cX7_readCommand 6 = .ok (.istore_n 2, 1) := by decide +kernel
theorem dX7_readCommand_7 : decode cX7_readCommand 7 = .ok (.getstatic 133, 3) := by decide +kernel
theorem dX7_readCommand_10 : decode cX7_readCommand 10 = .ok (.astore_n 3, 1) := by decide +kernel
theorem dX7_readCommand_11 : decode cX7_readCommand 11 = .ok (.aload_n 3, 1) := by decide +kernel
theorem dX7_readCommand_12 : decode cX7_readCommand 12 = .ok (.arraylength, 1) := by decide +kernel
theorem dX7_readCommand_13 : decode cX7_readCommand 13 = .ok (.istore 4, 2) := by decide +kernel
theorem dX7_readCommand_15 : decode cX7_readCommand 15 = .ok (.iconst 0, 1) := by decide +kernel
theorem dX7_readCommand_16 : decode cX7_readCommand 16 = .ok (.istore 5, 2) := by decide +kernel
theorem dX7_readCommand_18 : decode cX7_readCommand 18 = .ok (.iload 5, 2) := by decide +kernel
theorem dX7_readCommand_20 : decode cX7_readCommand 20 = .ok (.iload 4, 2) := by decide +kernel
theorem dX7_readCommand_22 : decode cX7_readCommand 22 = .ok (.if_icmp .ge 69, 3) := by decide +kernel
theorem dX7_readCommand_25 : decode cX7_readCommand 25 = .ok (.aload_n 3, 1) := by decide +kernel
theorem dX7_readCommand_26 : decode cX7_readCommand 26 = .ok (.iload 5, 2) := by decide +kernel
theorem dX7_readCommand_28 : decode cX7_readCommand 28 = .ok (.aaload, 1) := by decide +kernel
theorem dX7_readCommand_29 : decode cX7_readCommand 29 = .ok (.astore 6, 2) := by decide +kernel
theorem dX7_readCommand_31 : decode cX7_readCommand 31 = .ok (.aload_n 0, 1) := by decide +kernel
theorem dX7_readCommand_32 : decode cX7_readCommand 32 = .ok (.iload_n 1, 1) := by decide +kernel
theorem dX7_readCommand_33 : decode cX7_readCommand 33 = .ok (.putfield 118, 3) := by decide +kernel
theorem dX7_readCommand_36 : decode cX7_readCommand 36 = .ok (.aload_n 0, 1) := by decide +kernel
theorem dX7_readCommand_37 : decode cX7_readCommand 37 = .ok (.iconst 0, 1) := by decide +kernel
theorem dX7_readCommand_38 : decode cX7_readCommand 38 = .ok (.putfield 136, 3) := by decide +kernel
theorem dX7_readCommand_41 : decode cX7_readCommand 41 = .ok (.aload_n 0, 1) := by decide +kernel
theorem dX7_readCommand_42 : decode cX7_readCommand 42 = .ok (.aload 6, 2) := by decide +kernel
theorem dX7_readCommand_44 : decode cX7_readCommand 44 = .ok (.getfield 139, 3) := by decide +kernel
theorem dX7_readCommand_47 : decode cX7_readCommand 47 = .ok (.invokevirtual 143, 3) := by decide +kernel
theorem dX7_readCommand_50 : decode cX7_readCommand 50 = .ok (.ifCond .eq 26, 3) := by decide +kernel
theorem dX7_readCommand_53 : decode cX7_readCommand 53 = .ok (.aload_n 0, 1) := by decide +kernel
theorem dX7_readCommand_54 : decode cX7_readCommand 54 = .ok (.getfield 20, 3) := by decide +kernel
theorem dX7_readCommand_57 : decode cX7_readCommand 57 = .ok (.aload_n 0, 1) := by decide +kernel
theorem dX7_readCommand_58 : decode cX7_readCommand 58 = .ok (.getfield 122, 3) := by decide +kernel
theorem dX7_readCommand_61 : decode cX7_readCommand 61 = .ok (.aload 6, 2) := by decide +kernel
theorem dX7_readCommand_63 : decode cX7_readCommand 63 = .ok (.aastore, 1) := by decide +kernel
theorem dX7_readCommand_64 : decode cX7_readCommand 64 = .ok (.aload_n 0, 1) := by decide +kernel
theorem dX7_readCommand_65 : decode cX7_readCommand 65 = .ok (.dup, 1) := by decide +kernel
theorem dX7_readCommand_66 : decode cX7_readCommand 66 = .ok (.getfield 122, 3) := by decide +kernel
theorem dX7_readCommand_69 : decode cX7_readCommand 69 = .ok (.iconst 1, 1) := by decide +kernel
theorem dX7_readCommand_70 : decode cX7_readCommand 70 = .ok (.iadd, 1) := by decide +kernel
theorem dX7_readCommand_71 : decode cX7_readCommand 71 = .ok (.putfield 122, 3) := by decide +kernel
theorem dX7_readCommand_74 : decode cX7_readCommand 74 = .ok (.iconst 1, 1) := by decide +kernel
theorem dX7_readCommand_75 : decode cX7_readCommand 75 = .ok (.ireturn, 1) := by decide +kernel
theorem dX7_readCommand_76 : decode cX7_readCommand 76 = .ok (.iload_n 2, 1) := by decide +kernel
theorem dX7_readCommand_77 : decode cX7_readCommand 77 = .ok (.aload_n 0, 1) := by decide +kernel
theorem dX7_readCommand_78 : decode cX7_readCommand 78 = .ok (.getfield 118, 3) := by decide +kernel
theorem dX7_readCommand_81 : decode cX7_readCommand 81 = .ok (.invokestatic 147, 3) := by decide +kernel
theorem dX7_readCommand_84 : decode cX7_readCommand 84 = .ok (.istore_n 2, 1) := by decide +kernel
theorem dX7_readCommand_85 : decode cX7_readCommand 85 = .ok (.iinc 5 1, 3) := by decide +kernel
theorem dX7_readCommand_88 : decode cX7_readCommand 88 = .ok (.goto (-70), 3) := by decide +kernel
theorem dX7_readCommand_91 : decode cX7_readCommand 91 = .ok (.aload_n 0, 1) := by decide +kernel
theorem dX7_readCommand_92 : decode cX7_readCommand 92 = .ok (.iload_n 2, 1) := by decide +kernel
theorem dX7_readCommand_93 : decode cX7_readCommand 93 = .ok (.putfield 118, 3) := by decide +kernel
theorem dX7_readCommand_96 : decode cX7_readCommand 96 = .ok (.iconst 0, 1) := by decide +kernel
theorem dX7_readCommand_97 : decode cX7_readCommand 97 = .ok (.ireturn, 1) := by decide +kernel
set_option maxRecDepth 20000 in
theorem ggX7_readForm_J0_length_8abf5 : GoodIn wsX7_readForm wsJ0_length_8abf5 := goodIn_r _ [5, 6, 7, 8, 9, 4, 10, 11, 12, 112, 113, 114, 115] (by decide +kernel) (by decide +kernel)
set_option maxRecDepth 20000 in
theorem gX7_readForm_J0_length_8abf5 : GoodIn wsX7_readForm (wsV RX7 152 RJ0 yJ0_length_8abf5 wsJ0_length_8abf5) := goodIn_app (goodIn_of _ (by decide +kernel)) ggX7_readForm_J0_length_8abf5
set_option maxRecDepth 20000 in
theorem ggX7_readForm_J0_charAt_5068e : GoodIn wsX7_readForm wsJ0_charAt_5068e := goodIn_r _ [16, 6, 17, 18, 19, 4, 20, 11, 12, 21, 22, 23, 24, 25, 26, 27, 28, 29, 30, 31, 32, 33, 34, 35, 36, 37, 38, 39, 40, 41, 42, 43, 44, 45, 46, 47, 48, 49, 112, 113, 114, 115] (by decide +kernel) (by decide +kernel)
set_option maxRecDepth 20000 in
theorem gX7_readForm_J0_charAt_5068e : GoodIn wsX7_readForm (wsV RX7 155 RJ0 yJ0_charAt_5068e wsJ0_charAt_5068e) := goodIn_app (goodIn_of _ (by decide +kernel)) ggX7_readForm_J0_charAt_5068e
set_option maxRecDepth 20000 in
theorem ggX7_readForm_X7_readPart : GoodIn wsX7_readForm wsX7_readPart := goodIn_ca (goodIn_r _ [54, 55, 56, 57, 53, 58, 59, 60, 61, 62, 63, 64, 65, 66, 67, 68, 69, 70, 71, 72, 73, 74, 75, 76, 77, 78, 79, 80, 81, 82, 83, 84, 85, 86, 87, 88, 89, 90, 91, 26, 4, 27, 28, 29, 30, 31, 32, 92, 45, 35, 46, 47, 48, 49, 40, 41, 42, 93, 94, 95, 96, 97, 98, 99, 100, 101, 102, 103, 104, 105, 106, 107, 108, 109, 110, 111, 116, 117, 118, 119, 120, 121, 122, 123, 124, 125] (by decide +kernel) (by decide +kernel)) (goodIn_sub (fun _ h => List.mem_cons_of_mem _ (List.mem_append_right _ h)) (by decide +kernel))
set_option maxRecDepth 20000 in
theorem gX7_readForm_X7_readPart : GoodIn wsX7_readForm (wsV RX7 159 RX7 yX7_readPart wsX7_readPart) := goodIn_app (goodIn_of _ (by decide +kernel)) ggX7_readForm_X7_readPart
theorem dX7_readForm_0 : decode cX7_readForm 0 = .ok (.iconst 0, 1) := by decide +kernel
theorem dX7_readForm_1 : decode cX7_readForm 1 = .ok (.istore_n 2, 1) := by decide +kernel
theorem dX7_readForm_2 : decode cX7_readForm 2 = .ok (.iload_n 2, 1) := by decide +kernel
theorem dX7_readForm_3 : decode cX7_readForm 3 = .ok (.aload_n 1, 1) := by decide +kernel
theorem dX7_readForm_4 : decode cX7_readForm 4 = .ok (.invokevirtual 152, 3) := by decide +kernel
theorem dX7_readForm_7 : decode cX7_readForm 7 = .ok (.if_icmp .ge 23, 3) := by decide +kernel
theorem dX7_readForm_10 : decode cX7_readForm 10 = .ok (.aload_n 0, 1) := by decide +kernel
theorem dX7_readForm_11 : decode cX7_readForm 11 = .ok (.aload_n 1, 1) := by decide +kernel
theorem dX7_readForm_12 : decode cX7_readForm 12 = .ok (.iload_n 2, 1) := by decide +kernel
theorem dX7_readForm_13 : decode cX7_readForm 13 = .ok (.invokevirtual 155, 3) := by decide +kernel
theorem dX7_readForm_16 : decode cX7_readForm 16 = .ok (.invokevirtual 159, 3) := by decide +kernel
theorem dX7_readForm_19 : decode cX7_readForm 19 = .ok (.ifCond .ne 5, 3) := by decide +kernel
theorem dX7_readForm_22 : decode cX7_readForm 22 = .ok (.iconst 0, 1) := by decide +kernel
theorem dX7_readForm_23 : decode cX7_readForm 23 = .ok (.ireturn, 1) := by decide +kernel
theorem dX7_readForm_24 : decode cX7_readForm 24 = .ok (.iinc 2 1, 3) := by decide +kernel
theorem dX7_readForm_27 : decode cX7_readForm 27 = .ok (.goto (-25), 3) := by decide +kernel
theorem dX7_readForm_30 : decode cX7_readForm 30 = .ok (.iconst 1, 1) := by decide +kernel
theorem dX7_readForm_31 : decode cX7_readForm 31 = .ok (.ireturn, 1) := by decide +kernel
set_option maxRecDepth 20000 in
theorem ggX7_readPart_X7_readNumber : GoodIn wsX7_readPart wsX7_readNumber := goodIn_ca (goodIn_r _ [5, 6, 7, 8, 9, 4, 10, 11, 12, 13, 14, 15, 16, 17, 18, 19, 20, 21, 22, 23, 24, 25, 26, 27, 28, 29, 30, 31, 32, 33, 34, 35, 36, 37, 38, 39, 40, 41, 42, 43, 44, 45, 46, 47, 48, 49, 50, 51, 52, 53, 54, 55, 56, 57, 58, 59, 60, 61, 62, 63, 76, 77, 78, 79, 80, 81, 82, 83, 84, 85] (by decide +kernel) (by decide +kernel)) (goodIn_sub (fun _ h => List.mem_cons_of_mem _ (List.mem_append_right _ h)) (by decide +kernel))
set_option maxRecDepth 20000 in
theorem gX7_readPart_X7_readNumber : GoodIn wsX7_readPart (wsV RX7 162 RX7 yX7_readNumber wsX7_readNumber) := goodIn_app (goodIn_of _ (by decide +kernel)) ggX7_readPart_X7_readNumber
set_option maxRecDepth 20000 in
theorem ggX7_readPart_X7_readDigit : GoodIn wsX7_readPart wsX7_readDigit := goodIn_ca (goodIn_r _ [67, 6, 7, 8, 9, 4, 10, 11, 12, 13, 14, 15, 16, 17, 18, 19, 20, 21, 22, 23, 24, 25, 26, 27, 28, 29, 30, 31, 32, 33, 34, 35, 36, 37, 38, 39, 40, 41, 42, 43, 44, 45, 46, 47, 48, 49, 50, 51, 52, 53, 54, 55, 56, 57, 58, 59, 60, 61, 62, 63, 76, 77, 78, 79, 80, 81, 82, 83, 84, 85] (by decide +kernel) (by decide +kernel)) (goodIn_sub (fun _ h => List.mem_cons_of_mem _ (List.mem_append_right _ h)) (by decide +kernel))
set_option maxRecDepth 20000 in
theorem gX7_readPart_X7_readDigit : GoodIn wsX7_readPart (wsV RX7 165 RX7 yX7_readDigit wsX7_readDigit) := goodIn_app (goodIn_of _ (by decide +kernel)) ggX7_readPart_X7_readDigit
set_option maxRecDepth 20000 in
theorem ggX7_readPart_X7_readRisingDigits : GoodIn wsX7_readPart wsX7_readRisingDigits := goodIn_ca (goodIn_r _ [71, 6, 7, 8, 9, 4, 10, 11, 12, 13, 14, 15, 16, 17, 18, 19, 20, 21, 22, 23, 24, 25, 26, 27, 28, 29, 30, 31, 32, 33, 34, 35, 36, 37, 38, 39, 40, 41, 42, 43, 44, 45, 46, 47, 48, 49, 50, 51, 52, 53, 54, 55, 56, 57, 58, 59, 60, 61, 62, 63, 76, 77, 78, 79, 80, 81, 82, 83, 84, 85] (by decide +kernel) (by decide +kernel)) (goodIn_sub (fun _ h => List.mem_cons_of_mem _ (List.mem_append_right _ h)) (by decide +kernel))
set_option maxRecDepth 20000 in
theorem gX7_readPart_X7_readRisingDigits : GoodIn wsX7_readPart (wsV RX7 168 RX7 yX7_readRisingDigits wsX7_readRisingDigits) := goodIn_app (goodIn_of _ (by decide +kernel)) ggX7_readPart_X7_readRisingDigits
set_option maxRecDepth 20000 in
theorem ggX7_readPart_X7_readSign : GoodIn wsX7_readPart wsX7_readSign := goodIn_r _ [75, 6, 11, 12, 13, 14, 15, 16, 17, 18, 19, 20, 21, 22, 23, 24, 25, 26, 27, 28, 29, 30, 31, 32, 33, 34, 35, 36, 37, 38, 39, 40, 41, 42, 43, 44, 45, 46, 47, 48, 49, 50, 51, 52, 53, 54, 55, 56, 76, 77, 78, 79, 80, 81, 82, 83, 84, 85] (by decide +kernel) (by decide +kernel)
set_option maxRecDepth 20000 in
theorem gX7_readPart_X7_readSign : GoodIn wsX7_readPart (wsV RX7 129 RX7 yX7_readSign wsX7_readSign) := goodIn_app (goodIn_of _ (by decide +kernel)) ggX7_readPart_X7_readSign
set_option maxRecDepth 20000 in
theorem ggX7_readPart_X7_addArgument : GoodIn wsX7_readPart wsX7_addArgument := goodIn_ca (goodIn_r _ [60, 61, 62, 63, 76, 77, 78, 79, 80, 81] (by decide +kernel) (by decide +kernel)) (goodIn_sub (fun _ h => List.mem_cons_of_mem _ (List.mem_append_right _ h)) (by decide +kernel))
set_option maxRecDepth 20000 in
theorem gX7_readPart_X7_addArgument : GoodIn wsX7_readPart (wsV RX7 171 RX7 yX7_addArgument wsX7_addArgument) := goodIn_app (goodIn_of _ (by decide +kernel)) ggX7_readPart_X7_addArgument
theorem dX7_readPart_0 : decode cX7_readPart 0 = .ok (.iload_n 1, 1) := by decide +kernel
theorem dX7_readPart_1 : decode cX7_readPart 1 = .ok (.lookupswitch 79 #[(35, 43), (42, 53), (63, 48), (126, 58)], 43) := by decide +kernel
theorem dX7_readPart_44 : decode cX7_readPart 44 = .ok (.aload_n 0, 1) := by decide +kernel
theorem dX7_readPart_45 : decode cX7_readPart 45 = .ok (.invokevirtual 162, 3) := by decide +kernel
theorem dX7_readPart_48 : decode cX7_readPart 48 = .ok (.ireturn, 1) := by decide +kernel
theorem dX7_readPart_49 : decode cX7_readPart 49 = .ok (.aload_n 0, 1) := by decide +kernel
theorem dX7_readPart_50 : decode cX7_readPart 50 = .ok (.invokevirtual 165, 3) := by decide +kernel
theorem dX7_readPart_53 : decode cX7_readPart 53 = .ok (.ireturn, 1) := by decide +kernel
theorem dX7_readPart_54 : decode cX7_readPart 54 = .ok (.aload_n 0, 1) := by decide +kernel
theorem dX7_readPart_55 : decode cX7_readPart 55 = .ok (.invokevirtual 168, 3) := by decide +kernel
theorem dX7_readPart_58 : decode cX7_readPart 58 = .ok (.ireturn, 1) := by decide +kernel
theorem dX7_readPart_59 : decode cX7_readPart 59 = .ok (.aload_n 0, 1) := by decide +kernel
theorem dX7_readPart_60 : decode cX7_readPart 60 = .ok (.bipush 32, 2) := by decide +kernel
theorem dX7_readPart_62 : decode cX7_readPart 62 = .ok (.invokevirtual 129, 3) := by decide +kernel
theorem dX7_readPart_65 : decode cX7_readPart 65 = .ok (.ifCond .eq 8, 3) := by decide +kernel
theorem dX7_readPart_68 : decode cX7_readPart 68 = .ok (.aload_n 0, 1) := by decide +kernel
theorem dX7_readPart_69 : decode cX7_readPart 69 = .ok (.invokevirtual 162, 3) := by decide +kernel
theorem dX7_readPart_72 : decode cX7_readPart 72 = .ok (.ireturn, 1) := by decide +kernel
theorem dX7_readPart_73 : decode cX7_readPart 73 = .ok (.aload_n 0, 1) := by decide +kernel
theorem dX7_readPart_74 : decode cX7_readPart 74 = .ok (.iconst 1, 1) := by decide +kernel
theorem dX7_readPart_75 : decode cX7_readPart 75 = .ok (.invokevirtual 171, 3) := by decide +kernel
theorem dX7_readPart_78 : decode cX7_readPart 78 = .ok (.iconst 1, 1) := by decide +kernel
theorem dX7_readPart_79 : decode cX7_readPart 79 = .ok (.ireturn, 1) := by decide +kernel
theorem dX7_readPart_80 : decode cX7_readPart 80 = .ok (.aload_n 0, 1) := by decide +kernel
theorem dX7_readPart_81 : decode cX7_readPart 81 = .ok (.iload_n 1, 1) := by decide +kernel
theorem dX7_readPart_82 : decode cX7_readPart 82 = .ok (.invokevirtual 129, 3) := by decide +kernel
theorem dX7_readPart_85 : decode cX7_readPart 85 = .ok (.ireturn, 1) := by decide +kernel
set_option maxRecDepth 20000 in
theorem ggX7_readSign_J4_length_8abf5 : GoodIn wsX7_readSign wsJ4_length_8abf5 := goodIn_r _ [7, 8, 9, 10, 11, 12, 13, 14, 54, 55, 56, 57] (by decide +kernel) (by decide +kernel)
set_option maxRecDepth 20000 in
theorem gX7_readSign_J4_length_8abf5 : GoodIn wsX7_readSign (wsV RX7 28 RJ4 yJ4_length_8abf5 wsJ4_length_8abf5) := goodIn_app (goodIn_of _ (by decide +kernel)) ggX7_readSign_J4_length_8abf5
set_option maxRecDepth 20000 in
theorem ggX7_readSign_J4_charAt_5068e : GoodIn wsX7_readSign wsJ4_charAt_5068e := goodIn_r _ [18, 19, 20, 10, 21, 12, 22, 23, 24, 14, 25, 26, 27, 28, 29, 30, 31, 32, 33, 34, 35, 36, 37, 38, 39, 40, 41, 42, 43, 44, 45, 46, 47, 54, 55, 56, 57] (by decide +kernel) (by decide +kernel)
set_option maxRecDepth 20000 in
theorem gX7_readSign_J4_charAt_5068e : GoodIn wsX7_readSign (wsV RX7 174 RJ4 yJ4_charAt_5068e wsJ4_charAt_5068e) := goodIn_app (goodIn_of _ (by decide +kernel)) ggX7_readSign_J4_charAt_5068e
theorem dX7_readSign_0 : decode cX7_readSign 0 = .ok (.aload_n 0, 1) := by decide +kernel
theorem dX7_readSign_1 : decode cX7_readSign 1 = .ok (.getfield 118, 3) := by decide +kernel
theorem dX7_readSign_4 : decode cX7_readSign 4 = .ok (.aload_n 0, 1) := by decide +kernel
theorem dX7_readSign_5 : decode cX7_readSign 5 = .ok (.getfield 12, 3) := by decide +kernel
theorem dX7_readSign_8 : decode cX7_readSign 8 = .ok (.invokevirtual 28, 3) := by decide +kernel
theorem dX7_readSign_11 : decode cX7_readSign 11 = .ok (.if_icmp .ge 22, 3) := by decide +kernel
theorem dX7_readSign_14 : decode cX7_readSign 14 = .ok (.aload_n 0, 1) := by decide +kernel
theorem dX7_readSign_15 : decode cX7_readSign 15 = .ok (.getfield 12, 3) := by decide +kernel
theorem dX7_readSign_18 : decode cX7_readSign 18 = .ok (.aload_n 0, 1) := by decide +kernel
theorem dX7_readSign_19 : decode cX7_readSign 19 = .ok (.getfield 118, 3) := by decide +kernel
theorem dX7_readSign_22 : decode cX7_readSign 22 = .ok (.invokevirtual 174, 3) := by decide +kernel
theorem dX7_readSign_25 : decode cX7_readSign 25 = .ok (.iload_n 1, 1) := by decide +kernel
theorem dX7_readSign_26 : decode cX7_readSign 26 = .ok (.if_icmp .ne 7, 3) := by decide +kernel
theorem dX7_readSign_29 : decode cX7_readSign 29 = .ok (.iconst 1, 1) := by decide +kernel
theorem dX7_readSign_30 : decode cX7_readSign 30 = .ok (.goto 4, 3) := by decide +kernel
theorem dX7_readSign_33 : decode cX7_readSign 33 = .ok (.iconst 0, 1) := by decide +kernel
theorem dX7_readSign_34 : decode cX7_readSign 34 = .ok (.istore_n 2, 1) := by decide +kernel
theorem dX7_readSign_35 : decode cX7_readSign 35 = .ok (.iload_n 2, 1) := by decide +kernel
theorem dX7_readSign_36 : decode cX7_readSign 36 = .ok (.ifCond .eq 13, 3) := by decide +kernel
theorem dX7_readSign_39 : decode cX7_readSign 39 = .ok (.aload_n 0, 1) := by decide +kernel
theorem dX7_readSign_40 : decode cX7_readSign 40 = .ok (.dup, 1) := by decide +kernel
theorem dX7_readSign_41 : decode cX7_readSign 41 = .ok (.getfield 118, 3) := by decide +kernel
theorem dX7_readSign_44 : decode cX7_readSign 44 = .ok (.iconst 1, 1) := by decide +kernel
theorem dX7_readSign_45 : decode cX7_readSign 45 = .ok (.iadd, 1) := by decide +kernel
theorem dX7_readSign_46 : decode cX7_readSign 46 = .ok (.putfield 118, 3) := by decide +kernel
theorem dX7_readSign_49 : decode cX7_readSign 49 = .ok (.iload_n 2, 1) := by decide +kernel
theorem dX7_readSign_50 : decode cX7_readSign 50 = .ok (.ireturn, 1) := by decide +kernel
set_option maxRecDepth 20000 in
theorem ggX7_digitHere_J4_length_8abf5 : GoodIn wsX7_digitHere wsJ4_length_8abf5 := goodIn_r _ [7, 8, 9, 10, 11, 12, 13, 14, 54, 55, 56, 57] (by decide +kernel) (by decide +kernel)
set_option maxRecDepth 20000 in
theorem gX7_digitHere_J4_length_8abf5 : GoodIn wsX7_digitHere (wsV RX7 28 RJ4 yJ4_length_8abf5 wsJ4_length_8abf5) := goodIn_app (goodIn_of _ (by decide +kernel)) ggX7_digitHere_J4_length_8abf5
set_option maxRecDepth 20000 in
theorem ggX7_digitHere_J4_charAt_5068e : GoodIn wsX7_digitHere wsJ4_charAt_5068e := goodIn_r _ [18, 19, 20, 10, 21, 12, 22, 23, 24, 14, 25, 26, 27, 28, 29, 30, 31, 32, 33, 34, 35, 36, 37, 38, 39, 40, 41, 42, 43, 44, 45, 46, 47, 54, 55, 56, 57] (by decide +kernel) (by decide +kernel)
set_option maxRecDepth 20000 in
theorem gX7_digitHere_J4_charAt_5068e : GoodIn wsX7_digitHere (wsV RX7 174 RJ4 yJ4_charAt_5068e wsJ4_charAt_5068e) := goodIn_app (goodIn_of _ (by decide +kernel)) ggX7_digitHere_J4_charAt_5068e
theorem dX7_digitHere_0 : decode cX7_digitHere 0 = .ok (.aload_n 0, 1) := by decide +kernel
theorem dX7_digitHere_1 : decode cX7_digitHere 1 = .ok (.getfield 118, 3) := by decide +kernel
theorem dX7_digitHere_4 : decode cX7_digitHere 4 = .ok (.aload_n 0, 1) := by decide +kernel
theorem dX7_digitHere_5 : decode cX7_digitHere 5 = .ok (.getfield 12, 3) := by decide +kernel
theorem dX7_digitHere_8 : decode cX7_digitHere 8 = .ok (.invokevirtual 28, 3) := by decide +kernel
theorem dX7_digitHere_11 : decode cX7_digitHere 11 = .ok (.if_icmp .ge 17, 3) := by decide +kernel
theorem dX7_digitHere_14 : decode cX7_digitHere 14 = .ok (.aload_n 0, 1) := by decide +kernel
theorem dX7_digitHere_15 : decode cX7_digitHere 15 = .ok (.getfield 12, 3) := by decide +kernel
theorem dX7_digitHere_18 : decode cX7_digitHere 18 = .ok (.aload_n 0, 1) := by decide +kernel
theorem dX7_digitHere_19 : decode cX7_digitHere 19 = .ok (.getfield 118, 3) := by decide +kernel
theorem dX7_digitHere_22 : decode cX7_digitHere 22 = .ok (.invokevirtual 174, 3) := by decide +kernel
theorem dX7_digitHere_25 : decode cX7_digitHere 25 = .ok (.goto 5, 3) := by decide +kernel
theorem dX7_digitHere_28 : decode cX7_digitHere 28 = .ok (.bipush 32, 2) := by decide +kernel
theorem dX7_digitHere_30 : decode cX7_digitHere 30 = .ok (.istore_n 1, 1) := by decide +kernel
theorem dX7_digitHere_31 : decode cX7_digitHere 31 = .ok (.iload_n 1, 1) := by decide +kernel
theorem dX7_digitHere_32 : decode cX7_digitHere 32 = .ok (.bipush 48, 2) := by decide +kernel
theorem dX7_digitHere_34 : decode cX7_digitHere 34 = .ok (.if_icmp .lt 16, 3) := by decide +kernel
theorem dX7_digitHere_37 : decode cX7_digitHere 37 = .ok (.iload_n 1, 1) := by decide +kernel
theorem dX7_digitHere_38 : decode cX7_digitHere 38 = .ok (.bipush 57, 2) := by decide +kernel
theorem dX7_digitHere_40 : decode cX7_digitHere 40 = .ok (.if_icmp .gt 10, 3) := by decide +kernel
theorem dX7_digitHere_43 : decode cX7_digitHere 43 = .ok (.iload_n 1, 1) := by decide +kernel
theorem dX7_digitHere_44 : decode cX7_digitHere 44 = .ok (.bipush 48, 2) := by decide +kernel
theorem dX7_digitHere_46 : decode cX7_digitHere 46 = .ok (.isub, 1) := by decide +kernel
theorem dX7_digitHere_47 : decode cX7_digitHere 47 = .ok (.goto 4, 3) := by decide +kernel
theorem dX7_digitHere_50 : decode cX7_digitHere 50 = .ok (.iconst (-1), 1) := by decide +kernel
theorem dX7_digitHere_51 : decode cX7_digitHere 51 = .ok (.ireturn, 1) := by decide +kernel
set_option maxRecDepth 20000 in
theorem ggX7_readNumber_X7_digitHere : GoodIn wsX7_readNumber wsX7_digitHere := goodIn_r _ [6, 1, 7, 8, 9, 10, 11, 12, 13, 14, 15, 16, 17, 18, 19, 20, 21, 22, 23, 24, 25, 26, 27, 28, 29, 30, 31, 32, 33, 34, 35, 36, 37, 38, 39, 40, 41, 42, 43, 44, 45, 46, 47, 48, 49, 50, 51, 52, 60, 61, 62, 63, 64, 65, 66, 67, 68, 69] (by decide +kernel) (by decide +kernel)
set_option maxRecDepth 20000 in
theorem gX7_readNumber_X7_digitHere : GoodIn wsX7_readNumber (wsV RX7 175 RX7 yX7_digitHere wsX7_digitHere) := goodIn_app (goodIn_of _ (by decide +kernel)) ggX7_readNumber_X7_digitHere
set_option maxRecDepth 20000 in
theorem ggX7_readNumber_X7_addArgument : GoodIn wsX7_readNumber wsX7_addArgument := goodIn_ca (goodIn_r _ [56, 57, 58, 59, 60, 61, 62, 63, 64, 65] (by decide +kernel) (by decide +kernel)) (goodIn_sub (fun _ h => List.mem_cons_of_mem _ (List.mem_append_right _ h)) (by decide +kernel))
set_option maxRecDepth 20000 in
theorem gX7_readNumber_X7_addArgument : GoodIn wsX7_readNumber (wsV RX7 171 RX7 yX7_addArgument wsX7_addArgument) := goodIn_app (goodIn_of _ (by decide +kernel)) ggX7_readNumber_X7_addArgument
theorem dX7_readNumber_0 : decode cX7_readNumber 0 = .ok (.aload_n 0, 1) := by decide +kernel
theorem dX7_readNumber_1 : decode cX7_readNumber 1 = .ok (.getfield 118, 3) := by decide +kernel
theorem dX7_readNumber_4 : decode cX7_readNumber 4 = .ok (.istore_n 1, 1) := by decide +kernel
theorem dX7_readNumber_5 : decode cX7_readNumber 5 = .ok (.iconst 0, 1) := by decide +kernel
theorem dX7_readNumber_6 : decode cX7_readNumber 6 = .ok (.istore_n 2, 1) := by decide +kernel
theorem dX7_readNumber_7 : decode cX7_readNumber 7 = .ok (.iconst 0, 1) := by decide +kernel
theorem dX7_readNumber_8 : decode cX7_readNumber 8 = .ok (.istore_n 3, 1) := by decide +kernel
theorem dX7_readNumber_9 : decode cX7_readNumber 9 = .ok (.iload_n 3, 1) := by decide +kernel
theorem dX7_readNumber_10 : decode cX7_readNumber 10 = .ok (.iconst 4, 1) := by decide +kernel
theorem dX7_readNumber_11 : decode cX7_readNumber 11 = .ok (.if_icmp .ge 37, 3) := by decide +kernel
theorem dX7_readNumber_14 : decode cX7_readNumber 14 = .ok (.aload_n 0, 1) := by decide +kernel
theorem dX7_readNumber_15 : decode cX7_readNumber 15 = .ok (.invokevirtual 175, 3) := by decide +kernel
theorem dX7_readNumber_18 : decode cX7_readNumber 18 = .ok (.iconst (-1), 1) := by decide +kernel
theorem dX7_readNumber_19 : decode cX7_readNumber 19 = .ok (.if_icmp .eq 29, 3) := by decide +kernel
theorem dX7_readNumber_22 : decode cX7_readNumber 22 = .ok (.iload_n 2, 1) := by decide +kernel
theorem dX7_readNumber_23 : decode cX7_readNumber 23 = .ok (.bipush 10, 2) := by decide +kernel
theorem dX7_readNumber_25 : decode cX7_readNumber 25 = .ok (.imul, 1) := by decide +kernel
theorem dX7_readNumber_26 : decode cX7_readNumber 26 = .ok (.aload_n 0, 1) := by decide +kernel
theorem dX7_readNumber_27 : decode cX7_readNumber 27 = .ok (.invokevirtual 175, 3) := by decide +kernel
theorem dX7_readNumber_30 : decode cX7_readNumber 30 = .ok (.iadd, 1) := by decide +kernel
theorem dX7_readNumber_31 : decode cX7_readNumber 31 = .ok (.istore_n 2, 1) := by decide +kernel
theorem dX7_readNumber_32 : decode cX7_readNumber 32 = .ok (.aload_n 0, 1) := by decide +kernel
theorem dX7_readNumber_33 : decode cX7_readNumber 33 = .ok (.dup, 1) := by decide +kernel
theorem dX7_readNumber_34 : decode cX7_readNumber 34 = .ok (.getfield 118, 3) := by decide +kernel
theorem dX7_readNumber_37 : decode cX7_readNumber 37 = .ok (.iconst 1, 1) := by decide +kernel
theorem dX7_readNumber_38 : decode cX7_readNumber 38 = .ok (.iadd, 1) := by decide +kernel
theorem dX7_readNumber_39 : decode cX7_readNumber 39 = .ok (.putfield 118, 3) := by decide +kernel
theorem dX7_readNumber_42 : decode cX7_readNumber 42 = .ok (.iinc 3 1, 3) := by decide +kernel
theorem dX7_readNumber_45 : decode cX7_readNumber 45 = .ok (.goto (-36), 3) := by decide +kernel
theorem dX7_readNumber_48 : decode cX7_readNumber 48 = .ok (.aload_n 0, 1) := by decide +kernel
theorem dX7_readNumber_49 : decode cX7_readNumber 49 = .ok (.iload_n 2, 1) := by decide +kernel
theorem dX7_readNumber_50 : decode cX7_readNumber 50 = .ok (.invokevirtual 171, 3) := by decide +kernel
theorem dX7_readNumber_53 : decode cX7_readNumber 53 = .ok (.aload_n 0, 1) := by decide +kernel
theorem dX7_readNumber_54 : decode cX7_readNumber 54 = .ok (.getfield 118, 3) := by decide +kernel
theorem dX7_readNumber_57 : decode cX7_readNumber 57 = .ok (.iload_n 1, 1) := by decide +kernel
theorem dX7_readNumber_58 : decode cX7_readNumber 58 = .ok (.if_icmp .le 7, 3) := by decide +kernel
theorem dX7_readNumber_61 : decode cX7_readNumber 61 = .ok (.iconst 1, 1) := by decide +kernel
theorem dX7_readNumber_62 : decode cX7_readNumber 62 = .ok (.goto 4, 3) := by decide +kernel
theorem dX7_readNumber_65 : decode cX7_readNumber 65 = .ok (.iconst 0, 1) := by decide +kernel
theorem dX7_readNumber_66 : decode cX7_readNumber 66 = .ok (.ireturn, 1) := by decide +kernel
set_option maxRecDepth 20000 in
theorem ggX7_readDigit_X7_digitHere : GoodIn wsX7_readDigit wsX7_digitHere := goodIn_r _ [6, 1, 7, 8, 9, 10, 11, 12, 13, 14, 15, 16, 17, 18, 19, 20, 21, 22, 23, 24, 25, 26, 27, 28, 29, 30, 31, 32, 33, 34, 35, 36, 37, 38, 39, 40, 41, 42, 43, 44, 45, 46, 47, 48, 49, 50, 51, 52, 60, 61, 62, 63, 64, 65, 66, 67, 68, 69] (by decide +kernel) (by decide +kernel)
set_option maxRecDepth 20000 in
theorem gX7_readDigit_X7_digitHere : GoodIn wsX7_readDigit (wsV RX7 175 RX7 yX7_digitHere wsX7_digitHere) := goodIn_app (goodIn_of _ (by decide +kernel)) ggX7_readDigit_X7_digitHere
set_option maxRecDepth 20000 in
theorem ggX7_readDigit_X7_addArgument : GoodIn wsX7_readDigit wsX7_addArgument := goodIn_ca (goodIn_r _ [56, 57, 58, 59, 60, 61, 62, 63, 64, 65] (by decide +kernel) (by decide +kernel)) (goodIn_sub (fun _ h => List.mem_cons_of_mem _ (List.mem_append_right _ h)) (by decide +kernel))
set_option maxRecDepth 20000 in
theorem gX7_readDigit_X7_addArgument : GoodIn wsX7_readDigit (wsV RX7 171 RX7 yX7_addArgument wsX7_addArgument) := goodIn_app (goodIn_of _ (by decide +kernel)) ggX7_readDigit_X7_addArgument
theorem dX7_readDigit_0 : decode cX7_readDigit 0 = .ok (.aload_n 0, 1) := by decide +kernel
theorem dX7_readDigit_1 : decode cX7_readDigit 1 = .ok (.invokevirtual 175, 3) := by decide +kernel
theorem dX7_readDigit_4 : decode cX7_readDigit 4 = .ok (.istore_n 1, 1) := by decide +kernel
theorem dX7_readDigit_5 : decode cX7_readDigit 5 = .ok (.iload_n 1, 1) := by decide +kernel
theorem dX7_readDigit_6 : decode cX7_readDigit 6 = .ok (.iconst (-1), 1) := by decide +kernel
theorem dX7_readDigit_7 : decode cX7_readDigit 7 = .ok (.if_icmp .ne 5, 3) := by decide +kernel
theorem dX7_readDigit_10 : decode cX7_readDigit 10 = .ok (.iconst 0, 1) := by decide +kernel
theorem dX7_readDigit_11 : decode cX7_readDigit 11 = .ok (.ireturn, 1) := by decide +kernel
theorem dX7_readDigit_12 : decode cX7_readDigit 12 = .ok (.aload_n 0, 1) := by decide +kernel
theorem dX7_readDigit_13 : decode cX7_readDigit 13 = .ok (.iload_n 1, 1) := by decide +kernel
theorem dX7_readDigit_14 : decode cX7_readDigit 14 = .ok (.invokevirtual 171, 3) := by decide +kernel
theorem dX7_readDigit_17 : decode cX7_readDigit 17 = .ok (.aload_n 0, 1) := by decide +kernel
theorem dX7_readDigit_18 : decode cX7_readDigit 18 = .ok (.dup, 1) := by decide +kernel
theorem dX7_readDigit_19 : decode cX7_readDigit 19 = .ok (.getfield 118, 3) := by decide +kernel
theorem dX7_readDigit_22 : decode cX7_readDigit 22 = .ok (.iconst 1, 1) := by decide +kernel
theorem dX7_readDigit_23 : decode cX7_readDigit 23 = .ok (.iadd, 1) := by decide +kernel
theorem dX7_readDigit_24 : decode cX7_readDigit 24 = .ok (.putfield 118, 3) := by decide +kernel
theorem dX7_readDigit_27 : decode cX7_readDigit 27 = .ok (.iconst 1, 1) := by decide +kernel
theorem dX7_readDigit_28 : decode cX7_readDigit 28 = .ok (.ireturn, 1) := by decide +kernel
set_option maxRecDepth 20000 in
theorem ggX7_readRisingDigits_X7_digitHere : GoodIn wsX7_readRisingDigits wsX7_digitHere := goodIn_r _ [6, 1, 7, 8, 9, 10, 11, 12, 13, 14, 15, 16, 17, 18, 19, 20, 21, 22, 23, 24, 25, 26, 27, 28, 29, 30, 31, 32, 33, 34, 35, 36, 37, 38, 39, 40, 41, 42, 43, 44, 45, 46, 47, 48, 49, 50, 51, 52, 60, 61, 62, 63, 64, 65, 66, 67, 68, 69] (by decide +kernel) (by decide +kernel)
set_option maxRecDepth 20000 in
theorem gX7_readRisingDigits_X7_digitHere : GoodIn wsX7_readRisingDigits (wsV RX7 175 RX7 yX7_digitHere wsX7_digitHere) := goodIn_app (goodIn_of _ (by decide +kernel)) ggX7_readRisingDigits_X7_digitHere
set_option maxRecDepth 20000 in
theorem ggX7_readRisingDigits_X7_addArgument : GoodIn wsX7_readRisingDigits wsX7_addArgument := goodIn_ca (goodIn_r _ [56, 57, 58, 59, 60, 61, 62, 63, 64, 65] (by decide +kernel) (by decide +kernel)) (goodIn_sub (fun _ h => List.mem_cons_of_mem _ (List.mem_append_right _ h)) (by decide +kernel))
set_option maxRecDepth 20000 in
theorem gX7_readRisingDigits_X7_addArgument : GoodIn wsX7_readRisingDigits (wsV RX7 171 RX7 yX7_addArgument wsX7_addArgument) := goodIn_app (goodIn_of _ (by decide +kernel)) ggX7_readRisingDigits_X7_addArgument
theorem dX7_readRisingDigits_0 : decode cX7_readRisingDigits 0 = .ok (.iconst 0, 1) := by decide +kernel
theorem dX7_readRisingDigits_1 : decode cX7_readRisingDigits 1 = .ok (.istore_n 1, 1) := by decide +kernel
theorem dX7_readRisingDigits_2 : decode cX7_readRisingDigits 2 = .ok (.iconst (-1), 1) := by decide +kernel
theorem dX7_readRisingDigits_3 : decode cX7_readRisingDigits 3 = .ok (.istore_n 2, 1) := by decide +kernel
theorem dX7_readRisingDigits_4 : decode cX7_readRisingDigits 4 = .ok (.iconst 0, 1) := by decide +kernel
theorem dX7_readRisingDigits_5 : decode cX7_readRisingDigits 5 = .ok (.istore_n 3, 1) := by decide +kernel
theorem dX7_readRisingDigits_6 : decode cX7_readRisingDigits 6 = .ok (.iload_n 3, 1) := by decide +kernel
theorem dX7_readRisingDigits_7 : decode cX7_readRisingDigits 7 = .ok (.bipush 10, 2) := by decide +kernel
theorem dX7_readRisingDigits_9 : decode cX7_readRisingDigits 9 = .ok (.if_icmp .ge 38, 3) := by decide +kernel
theorem dX7_readRisingDigits_12 : decode cX7_readRisingDigits 12 = .ok (.aload_n 0, 1) := by decide +kernel
theorem dX7_readRisingDigits_13 : decode cX7_readRisingDigits 13 = .ok (.invokevirtual 175, 3) := by decide +kernel
theorem dX7_readRisingDigits_16 : decode cX7_readRisingDigits 16 = .ok (.iload_n 2, 1) := by decide +kernel
theorem dX7_readRisingDigits_17 : decode cX7_readRisingDigits 17 = .ok (.if_icmp .le 30, 3) := by decide +kernel
theorem dX7_readRisingDigits_20 : decode cX7_readRisingDigits 20 = .ok (.aload_n 0, 1) := by decide +kernel
theorem dX7_readRisingDigits_21 : decode cX7_readRisingDigits 21 = .ok (.invokevirtual 175, 3) := by decide +kernel
theorem dX7_readRisingDigits_24 : decode cX7_readRisingDigits 24 = .ok (.istore_n 2, 1) := by decide +kernel
theorem dX7_readRisingDigits_25 : decode cX7_readRisingDigits 25 = .ok (.iload_n 1, 1) := by decide +kernel
theorem dX7_readRisingDigits_26 : decode cX7_readRisingDigits 26 = .ok (.iconst 1, 1) := by decide +kernel
theorem dX7_readRisingDigits_27 : decode cX7_readRisingDigits 27 = .ok (.iload_n 2, 1) := by decide +kernel
theorem dX7_readRisingDigits_28 : decode cX7_readRisingDigits 28 = .ok (.ishl, 1) := by decide +kernel
theorem dX7_readRisingDigits_29 : decode cX7_readRisingDigits 29 = .ok (.ior, 1) := by decide +kernel
theorem dX7_readRisingDigits_30 : decode cX7_readRisingDigits 30 = .ok (.istore_n 1, 1) := by decide +kernel
theorem dX7_readRisingDigits_31 : decode cX7_readRisingDigits 31 = .ok (.aload_n 0, 1) := by decide +kernel
theorem dX7_readRisingDigits_32 : decode cX7_readRisingDigits 32 = .ok (.dup, 1) := by decide +kernel
theorem dX7_readRisingDigits_33 : decode cX7_readRisingDigits 33 = .ok (.getfield 118, 3) := by decide +kernel
theorem dX7_readRisingDigits_36 : decode cX7_readRisingDigits 36 = .ok (.iconst 1, 1) := by decide +kernel
theorem dX7_readRisingDigits_37 : decode cX7_readRisingDigits 37 = .ok (.iadd, 1) := by decide +kernel
theorem dX7_readRisingDigits_38 : decode cX7_readRisingDigits 38 = .ok (.putfield 118, 3) := by decide +kernel
theorem dX7_readRisingDigits_41 : decode cX7_readRisingDigits 41 = .ok (.iinc 3 1, 3) := by decide +kernel
theorem dX7_readRisingDigits_44 : decode cX7_readRisingDigits 44 = .ok (.goto (-38), 3) := by decide +kernel
theorem dX7_readRisingDigits_47 : decode cX7_readRisingDigits 47 = .ok (.aload_n 0, 1) := by decide +kernel
theorem dX7_readRisingDigits_48 : decode cX7_readRisingDigits 48 = .ok (.iload_n 1, 1) := by decide +kernel
theorem dX7_readRisingDigits_49 : decode cX7_readRisingDigits 49 = .ok (.invokevirtual 171, 3) := by decide +kernel
theorem dX7_readRisingDigits_52 : decode cX7_readRisingDigits 52 = .ok (.iload_n 1, 1) := by decide +kernel
theorem dX7_readRisingDigits_53 : decode cX7_readRisingDigits 53 = .ok (.ifCond .eq 7, 3) := by decide +kernel
theorem dX7_readRisingDigits_56 : decode cX7_readRisingDigits 56 = .ok (.iconst 1, 1) := by decide +kernel
theorem dX7_readRisingDigits_57 : decode cX7_readRisingDigits 57 = .ok (.goto 4, 3) := by decide +kernel
theorem dX7_readRisingDigits_60 : decode cX7_readRisingDigits 60 = .ok (.iconst 0, 1) := by decide +kernel
theorem dX7_readRisingDigits_61 : decode cX7_readRisingDigits 61 = .ok (.ireturn, 1) := by decide +kernel
theorem dX7_addArgument_0 : decode cX7_addArgument 0 = .ok (.aload_n 0, 1) := by decide +kernel
theorem dX7_addArgument_1 : decode cX7_addArgument 1 = .ok (.getfield 136, 3) := by decide +kernel
theorem dX7_addArgument_4 : decode cX7_addArgument 4 = .ok (.iconst 4, 1) := by decide +kernel
theorem dX7_addArgument_5 : decode cX7_addArgument 5 = .ok (.if_icmp .ge 30, 3) := by decide +kernel
theorem dX7_addArgument_8 : decode cX7_addArgument 8 = .ok (.aload_n 0, 1) := by decide +kernel
theorem dX7_addArgument_9 : decode cX7_addArgument 9 = .ok (.getfield 24, 3) := by decide +kernel
theorem dX7_addArgument_12 : decode cX7_addArgument 12 = .ok (.aload_n 0, 1) := by decide +kernel
theorem dX7_addArgument_13 : decode cX7_addArgument 13 = .ok (.getfield 122, 3) := by decide +kernel
theorem dX7_addArgument_16 : decode cX7_addArgument 16 = .ok (.iconst 4, 1) := by decide +kernel
theorem dX7_addArgument_17 : decode cX7_addArgument 17 = .ok (.imul, 1) := by decide +kernel
theorem dX7_addArgument_18 : decode cX7_addArgument 18 = .ok (.aload_n 0, 1) := by decide +kernel
theorem dX7_addArgument_19 : decode cX7_addArgument 19 = .ok (.getfield 136, 3) := by decide +kernel
theorem dX7_addArgument_22 : decode cX7_addArgument 22 = .ok (.iadd, 1) := by decide +kernel
theorem dX7_addArgument_23 : decode cX7_addArgument 23 = .ok (.iload_n 1, 1) := by decide +kernel
theorem dX7_addArgument_24 : decode cX7_addArgument 24 = .ok (.iastore, 1) := by decide +kernel
theorem dX7_addArgument_25 : decode cX7_addArgument 25 = .ok (.aload_n 0, 1) := by decide +kernel
theorem dX7_addArgument_26 : decode cX7_addArgument 26 = .ok (.dup, 1) := by decide +kernel
theorem dX7_addArgument_27 : decode cX7_addArgument 27 = .ok (.getfield 136, 3) := by decide +kernel
theorem dX7_addArgument_30 : decode cX7_addArgument 30 = .ok (.iconst 1, 1) := by decide +kernel
theorem dX7_addArgument_31 : decode cX7_addArgument 31 = .ok (.iadd, 1) := by decide +kernel
theorem dX7_addArgument_32 : decode cX7_addArgument 32 = .ok (.putfield 136, 3) := by decide +kernel
theorem dX7_addArgument_35 : decode cX7_addArgument 35 = .ok (.return_, 1) := by decide +kernel
theorem dX8_init_0 : decode cX8_init 0 = .ok (.aload_n 0, 1) := by decide +kernel
theorem dX8_init_1 : decode cX8_init 1 = .ok (.invokespecial 3, 3) := by decide +kernel
theorem dX8_init_4 : decode cX8_init 4 = .ok (.aload_n 0, 1) := by decide +kernel
theorem dX8_init_5 : decode cX8_init 5 = .ok (.bipush 11, 2) := by decide +kernel
theorem dX8_init_7 : decode cX8_init 7 = .ok (.newarray .int, 2) := by decide +kernel
theorem dX8_init_9 : decode cX8_init 9 = .ok (.putfield 9, 3) := by decide +kernel
theorem dX8_init_12 : decode cX8_init 12 = .ok (.aload_n 0, 1) := by decide +kernel
theorem dX8_init_13 : decode cX8_init 13 = .ok (.sipush 2048, 3) := by decide +kernel
theorem dX8_init_16 : decode cX8_init 16 = .ok (.newarray .int, 2) := by decide +kernel
theorem dX8_init_18 : decode cX8_init 18 = .ok (.putfield 15, 3) := by decide +kernel
theorem dX8_init_21 : decode cX8_init 21 = .ok (.aload_n 0, 1) := by decide +kernel
theorem dX8_init_22 : decode cX8_init 22 = .ok (.sipush 2048, 3) := by decide +kernel
theorem dX8_init_25 : decode cX8_init 25 = .ok (.newarray .int, 2) := by decide +kernel
theorem dX8_init_27 : decode cX8_init 27 = .ok (.putfield 18, 3) := by decide +kernel
theorem dX8_init_30 : decode cX8_init 30 = .ok (.aload_n 0, 1) := by decide +kernel
theorem dX8_init_31 : decode cX8_init 31 = .ok (.sipush 2048, 3) := by decide +kernel
theorem dX8_init_34 : decode cX8_init 34 = .ok (.newarray .int, 2) := by decide +kernel
theorem dX8_init_36 : decode cX8_init 36 = .ok (.putfield 21, 3) := by decide +kernel
theorem dX8_init_39 : decode cX8_init 39 = .ok (.return_, 1) := by decide +kernel
set_option maxRecDepth 20000 in
theorem ggX8_fewestBySets_X8_takeOpenBalances : GoodIn wsX8_fewestBySets wsX8_takeOpenBalances := goodIn_ca (goodIn_r _ [8, 1, 9, 10, 11, 3, 20, 21, 22, 23, 24, 25, 26, 27, 28, 29, 30, 31] (by decide +kernel) (by decide +kernel)) (goodIn_sub (fun _ h => List.mem_cons_of_mem _ (List.mem_append_right _ h)) (by decide +kernel))
set_option maxRecDepth 20000 in
theorem gX8_fewestBySets_X8_takeOpenBalances : GoodIn wsX8_fewestBySets (wsV RX8 24 RX8 yX8_takeOpenBalances wsX8_takeOpenBalances) := goodIn_app (goodIn_of _ (by decide +kernel)) ggX8_fewestBySets_X8_takeOpenBalances
set_option maxRecDepth 20000 in
theorem ggX8_fewestBySets_X8_mostGroupsWithoutOne : GoodIn wsX8_fewestBySets wsX8_mostGroupsWithoutOne := goodIn_ca (goodIn_r _ [15, 1, 2, 16, 17, 18, 19, 20, 21, 22, 23, 24] (by decide +kernel) (by decide +kernel)) (goodIn_sub (fun _ h => List.mem_cons_of_mem _ (List.mem_append_right _ h)) (by decide +kernel))
set_option maxRecDepth 20000 in
theorem gX8_fewestBySets_X8_mostGroupsWithoutOne : GoodIn wsX8_fewestBySets (wsV RX8 32 RX8 yX8_mostGroupsWithoutOne wsX8_mostGroupsWithoutOne) := goodIn_app (goodIn_of _ (by decide +kernel)) ggX8_fewestBySets_X8_mostGroupsWithoutOne
theorem dX8_fewestBySets_0 : decode cX8_fewestBySets 0 = .ok (.aload_n 0, 1) := by decide +kernel
theorem dX8_fewestBySets_1 : decode cX8_fewestBySets 1 = .ok (.aload_n 1, 1) := by decide +kernel
theorem dX8_fewestBySets_2 : decode cX8_fewestBySets 2 = .ok (.invokevirtual 24, 3) := by decide +kernel
theorem dX8_fewestBySets_5 : decode cX8_fewestBySets 5 = .ok (.iconst 1, 1) := by decide +kernel
theorem dX8_fewestBySets_6 : decode cX8_fewestBySets 6 = .ok (.aload_n 0, 1) := by decide +kernel
theorem dX8_fewestBySets_7 : decode cX8_fewestBySets 7 = .ok (.getfield 28, 3) := by decide +kernel
theorem dX8_fewestBySets_10 : decode cX8_fewestBySets 10 = .ok (.ishl, 1) := by decide +kernel
theorem dX8_fewestBySets_11 : decode cX8_fewestBySets 11 = .ok (.istore_n 2, 1) := by decide +kernel
theorem dX8_fewestBySets_12 : decode cX8_fewestBySets 12 = .ok (.iconst 1, 1) := by decide +kernel
theorem dX8_fewestBySets_13 : decode cX8_fewestBySets 13 = .ok (.istore_n 3, 1) := by decide +kernel
theorem dX8_fewestBySets_14 : decode cX8_fewestBySets 14 = .ok (.iload_n 3, 1) := by decide +kernel
theorem dX8_fewestBySets_15 : decode cX8_fewestBySets 15 = .ok (.iload_n 2, 1) := by decide +kernel
theorem dX8_fewestBySets_16 : decode cX8_fewestBySets 16 = .ok (.if_icmp .ge 35, 3) := by decide +kernel
theorem dX8_fewestBySets_19 : decode cX8_fewestBySets 19 = .ok (.aload_n 0, 1) := by decide +kernel
theorem dX8_fewestBySets_20 : decode cX8_fewestBySets 20 = .ok (.getfield 18, 3) := by decide +kernel
theorem dX8_fewestBySets_23 : decode cX8_fewestBySets 23 = .ok (.iload_n 3, 1) := by decide +kernel
theorem dX8_fewestBySets_24 : decode cX8_fewestBySets 24 = .ok (.aload_n 0, 1) := by decide +kernel
theorem dX8_fewestBySets_25 : decode cX8_fewestBySets 25 = .ok (.iload_n 3, 1) := by decide +kernel
theorem dX8_fewestBySets_26 : decode cX8_fewestBySets 26 = .ok (.invokevirtual 32, 3) := by decide +kernel
theorem dX8_fewestBySets_29 : decode cX8_fewestBySets 29 = .ok (.aload_n 0, 1) := by decide +kernel
theorem dX8_fewestBySets_30 : decode cX8_fewestBySets 30 = .ok (.getfield 15, 3) := by decide +kernel
theorem dX8_fewestBySets_33 : decode cX8_fewestBySets 33 = .ok (.iload_n 3, 1) := by decide +kernel
theorem dX8_fewestBySets_34 : decode cX8_fewestBySets 34 = .ok (.iaload, 1) := by decide +kernel
theorem dX8_fewestBySets_35 : decode cX8_fewestBySets 35 = .ok (.ifCond .ne 7, 3) := by decide +kernel
theorem dX8_fewestBySets_38 : decode cX8_fewestBySets 38 = .ok (.iconst 1, 1) := by decide +kernel
theorem dX8_fewestBySets_39 : decode cX8_fewestBySets 39 = .ok (.goto 4, 3) := by decide +kernel
theorem dX8_fewestBySets_42 : decode cX8_fewestBySets 42 = .ok (.iconst 0, 1) := by decide +kernel
theorem dX8_fewestBySets_43 : decode cX8_fewestBySets 43 = .ok (.iadd, 1) := by decide +kernel
theorem dX8_fewestBySets_44 : decode cX8_fewestBySets 44 = .ok (.iastore, 1) := by decide +kernel
theorem dX8_fewestBySets_45 : decode cX8_fewestBySets 45 = .ok (.iinc 3 1, 3) := by decide +kernel
theorem dX8_fewestBySets_48 : decode cX8_fewestBySets 48 = .ok (.goto (-34), 3) := by decide +kernel
theorem dX8_fewestBySets_51 : decode cX8_fewestBySets 51 = .ok (.aload_n 0, 1) := by decide +kernel
theorem dX8_fewestBySets_52 : decode cX8_fewestBySets 52 = .ok (.getfield 28, 3) := by decide +kernel
theorem dX8_fewestBySets_55 : decode cX8_fewestBySets 55 = .ok (.aload_n 0, 1) := by decide +kernel
theorem dX8_fewestBySets_56 : decode cX8_fewestBySets 56 = .ok (.getfield 18, 3) := by decide +kernel
theorem dX8_fewestBySets_59 : decode cX8_fewestBySets 59 = .ok (.iload_n 2, 1) := by decide +kernel
theorem dX8_fewestBySets_60 : decode cX8_fewestBySets 60 = .ok (.iconst 1, 1) := by decide +kernel
theorem dX8_fewestBySets_61 : decode cX8_fewestBySets 61 = .ok (.isub, 1) := by decide +kernel
theorem dX8_fewestBySets_62 : decode cX8_fewestBySets 62 = .ok (.iaload, 1) := by decide +kernel
theorem dX8_fewestBySets_63 : decode cX8_fewestBySets 63 = .ok (.isub, 1) := by decide +kernel
theorem dX8_fewestBySets_64 : decode cX8_fewestBySets 64 = .ok (.ireturn, 1) := by decide +kernel
set_option maxRecDepth 20000 in
theorem ggX8_fewestBySearch_X8_takeOpenBalances : GoodIn wsX8_fewestBySearch wsX8_takeOpenBalances := goodIn_ca (goodIn_r _ [7, 2, 8, 9, 10, 11, 26, 27, 28, 29, 30, 31, 32, 33, 34, 35, 36, 37] (by decide +kernel) (by decide +kernel)) (goodIn_sub (fun _ h => List.mem_cons_of_mem _ (List.mem_append_right _ h)) (by decide +kernel))
set_option maxRecDepth 20000 in
theorem gX8_fewestBySearch_X8_takeOpenBalances : GoodIn wsX8_fewestBySearch (wsV RX8 24 RX8 yX8_takeOpenBalances wsX8_takeOpenBalances) := goodIn_app (goodIn_of _ (by decide +kernel)) ggX8_fewestBySearch_X8_takeOpenBalances
set_option maxRecDepth 20000 in
theorem ggX8_fewestBySearch_J7_fill_53178 : GoodIn wsX8_fewestBySearch wsJ7_fill_53178 := goodIn_r _ [15] (by decide +kernel) (by decide +kernel)
set_option maxRecDepth 20000 in
theorem gX8_fewestBySearch_J7_fill_53178 : GoodIn wsX8_fewestBySearch (va_wsS RX8 36 yJ7_fill_53178 wsJ7_fill_53178) := goodIn_app (goodIn_of _ (by decide +kernel)) ggX8_fewestBySearch_J7_fill_53178
set_option maxRecDepth 20000 in
theorem ggX8_fewestBySearch_X8_fewestFor : GoodIn wsX8_fewestBySearch wsX8_fewestFor := goodIn_ca (goodIn_r _ [18, 1, 11, 16, 17, 6, 19, 20, 21, 2, 10, 22, 23, 24, 25, 26, 27, 28, 29, 30] (by decide +kernel) (by decide +kernel)) (goodIn_sub (fun _ h => List.mem_cons_of_mem _ (List.mem_append_right _ h)) (by decide +kernel))
set_option maxRecDepth 20000 in
theorem gX8_fewestBySearch_X8_fewestFor : GoodIn wsX8_fewestBySearch (va_wsS RX8 42 yX8_fewestFor wsX8_fewestFor) := goodIn_app (goodIn_of _ (by decide +kernel)) ggX8_fewestBySearch_X8_fewestFor
theorem dX8_fewestBySearch_0 : decode cX8_fewestBySearch 0 = .ok (.aload_n 0, 1) := by decide +kernel
theorem dX8_fewestBySearch_1 : decode cX8_fewestBySearch 1 = .ok (.aload_n 1, 1) := by decide +kernel
theorem dX8_fewestBySearch_2 : decode cX8_fewestBySearch 2 = .ok (.invokevirtual 24, 3) := by decide +kernel
theorem dX8_fewestBySearch_5 : decode cX8_fewestBySearch 5 = .ok (.aload_n 0, 1) := by decide +kernel
theorem dX8_fewestBySearch_6 : decode cX8_fewestBySearch 6 = .ok (.getfield 21, 3) := by decide +kernel
theorem dX8_fewestBySearch_9 : decode cX8_fewestBySearch 9 = .ok (.iconst (-1), 1) := by decide +kernel
theorem dX8_fewestBySearch_10 : decode cX8_fewestBySearch 10 = .ok (.invokestatic 36, 3) := by decide +kernel
theorem dX8_fewestBySearch_13 : decode cX8_fewestBySearch 13 = .ok (.aload_n 0, 1) := by decide +kernel
theorem dX8_fewestBySearch_14 : decode cX8_fewestBySearch 14 = .ok (.iconst 1, 1) := by decide +kernel
theorem dX8_fewestBySearch_15 : decode cX8_fewestBySearch 15 = .ok (.aload_n 0, 1) := by decide +kernel
theorem dX8_fewestBySearch_16 : decode cX8_fewestBySearch 16 = .ok (.getfield 28, 3) := by decide +kernel
theorem dX8_fewestBySearch_19 : decode cX8_fewestBySearch 19 = .ok (.ishl, 1) := by decide +kernel
theorem dX8_fewestBySearch_20 : decode cX8_fewestBySearch 20 = .ok (.iconst 1, 1) := by decide +kernel
theorem dX8_fewestBySearch_21 : decode cX8_fewestBySearch 21 = .ok (.isub, 1) := by decide +kernel
theorem dX8_fewestBySearch_22 : decode cX8_fewestBySearch 22 = .ok (.iconst 0, 1) := by decide +kernel
theorem dX8_fewestBySearch_23 : decode cX8_fewestBySearch 23 = .ok (.invokestatic 42, 3) := by decide +kernel
theorem dX8_fewestBySearch_26 : decode cX8_fewestBySearch 26 = .ok (.ireturn, 1) := by decide +kernel
theorem dX8_takeOpenBalances_0 : decode cX8_takeOpenBalances 0 = .ok (.aload_n 0, 1) := by decide +kernel
theorem dX8_takeOpenBalances_1 : decode cX8_takeOpenBalances 1 = .ok (.iconst 0, 1) := by decide +kernel
theorem dX8_takeOpenBalances_2 : decode cX8_takeOpenBalances 2 = .ok (.putfield 28, 3) := by decide +kernel
theorem dX8_takeOpenBalances_5 : decode cX8_takeOpenBalances 5 = .ok (.iconst 0, 1) := by decide +kernel
theorem dX8_takeOpenBalances_6 : decode cX8_takeOpenBalances 6 = .ok (.istore_n 2, 1) := by decide +kernel
theorem dX8_takeOpenBalances_7 : decode cX8_takeOpenBalances 7 = .ok (.iload_n 2, 1) := by decide +kernel
theorem dX8_takeOpenBalances_8 : decode cX8_takeOpenBalances 8 = .ok (.aload_n 1, 1) := by decide +kernel
theorem dX8_takeOpenBalances_9 : decode cX8_takeOpenBalances 9 = .ok (.getfield 46, 3) := by decide +kernel
theorem dX8_takeOpenBalances_12 : decode cX8_takeOpenBalances 12 = .ok (.if_icmp .ge 43, 3) := by decide +kernel
theorem dX8_takeOpenBalances_15 : decode cX8_takeOpenBalances 15 = .ok (.aload_n 1, 1) := by decide +kernel
theorem dX8_takeOpenBalances_16 : decode cX8_takeOpenBalances 16 = .ok (.getfield 51, 3) := by decide +kernel
theorem dX8_takeOpenBalances_19 : decode cX8_takeOpenBalances 19 = .ok (.iload_n 2, 1) := by decide +kernel
theorem dX8_takeOpenBalances_20 : decode cX8_takeOpenBalances 20 = .ok (.iaload, 1) := by decide +kernel
theorem dX8_takeOpenBalances_21 : decode cX8_takeOpenBalances 21 = .ok (.ifCond .eq 28, 3) := by decide +kernel
theorem dX8_takeOpenBalances_24 : decode cX8_takeOpenBalances 24 = .ok (.aload_n 0, 1) := by decide +kernel
theorem dX8_takeOpenBalances_25 : decode cX8_takeOpenBalances 25 = .ok (.getfield 9, 3) := by decide +kernel
theorem dX8_takeOpenBalances_28 : decode cX8_takeOpenBalances 28 = .ok (.aload_n 0, 1) := by decide +kernel
theorem dX8_takeOpenBalances_29 : decode cX8_takeOpenBalances 29 = .ok (.getfield 28, 3) := by decide +kernel
theorem dX8_takeOpenBalances_32 : decode cX8_takeOpenBalances 32 = .ok (.aload_n 1, 1) := by decide +kernel
theorem dX8_takeOpenBalances_33 : decode cX8_takeOpenBalances 33 = .ok (.getfield 51, 3) := by decide +kernel
theorem dX8_takeOpenBalances_36 : decode cX8_takeOpenBalances 36 = .ok (.iload_n 2, 1) := by decide +kernel
theorem dX8_takeOpenBalances_37 : decode cX8_takeOpenBalances 37 = .ok (.iaload, 1) := by decide +kernel
theorem dX8_takeOpenBalances_38 : decode cX8_takeOpenBalances 38 = .ok (.iastore, 1) := by decide +kernel
theorem dX8_takeOpenBalances_39 : decode cX8_takeOpenBalances 39 = .ok (.aload_n 0, 1) := by decide +kernel
theorem dX8_takeOpenBalances_40 : decode cX8_takeOpenBalances 40 = .ok (.dup, 1) := by decide +kernel
theorem dX8_takeOpenBalances_41 : decode cX8_takeOpenBalances 41 = .ok (.getfield 28, 3) := by decide +kernel
theorem dX8_takeOpenBalances_44 : decode cX8_takeOpenBalances 44 = .ok (.iconst 1, 1) := by decide +kernel
theorem dX8_takeOpenBalances_45 : decode cX8_takeOpenBalances 45 = .ok (.iadd, 1) := by decide +kernel
theorem dX8_takeOpenBalances_46 : decode cX8_takeOpenBalances 46 = .ok (.putfield 28, 3) := by decide +kernel
theorem dX8_takeOpenBalances_49 : decode cX8_takeOpenBalances 49 = .ok (.iinc 2 1, 3) := by decide +kernel
theorem dX8_takeOpenBalances_52 : decode cX8_takeOpenBalances 52 = .ok (.goto (-45), 3) := by decide +kernel
theorem dX8_takeOpenBalances_55 : decode cX8_takeOpenBalances 55 = .ok (.iconst 0, 1) := by decide +kernel
theorem dX8_takeOpenBalances_56 : decode cX8_takeOpenBalances 56 = .ok (.istore_n 2, 1) := by decide +kernel
theorem dX8_takeOpenBalances_57 : decode cX8_takeOpenBalances 57 = .ok (.iload_n 2, 1) := by decide +kernel
theorem dX8_takeOpenBalances_58 : decode cX8_takeOpenBalances 58 = .ok (.aload_n 0, 1) := by decide +kernel
theorem dX8_takeOpenBalances_59 : decode cX8_takeOpenBalances 59 = .ok (.getfield 28, 3) := by decide +kernel
theorem dX8_takeOpenBalances_62 : decode cX8_takeOpenBalances 62 = .ok (.if_icmp .ge 47, 3) := by decide +kernel
theorem dX8_takeOpenBalances_65 : decode cX8_takeOpenBalances 65 = .ok (.iconst 0, 1) := by decide +kernel
theorem dX8_takeOpenBalances_66 : decode cX8_takeOpenBalances 66 = .ok (.istore_n 3, 1) := by decide +kernel
theorem dX8_takeOpenBalances_67 : decode cX8_takeOpenBalances 67 = .ok (.iload_n 3, 1) := by decide +kernel
theorem dX8_takeOpenBalances_68 : decode cX8_takeOpenBalances 68 = .ok (.iconst 1, 1) := by decide +kernel
theorem dX8_takeOpenBalances_69 : decode cX8_takeOpenBalances 69 = .ok (.iload_n 2, 1) := by decide +kernel
theorem dX8_takeOpenBalances_70 : decode cX8_takeOpenBalances 70 = .ok (.ishl, 1) := by decide +kernel
theorem dX8_takeOpenBalances_71 : decode cX8_takeOpenBalances 71 = .ok (.if_icmp .ge 32, 3) := by decide +kernel
theorem dX8_takeOpenBalances_74 : decode cX8_takeOpenBalances 74 = .ok (.aload_n 0, 1) := by decide +kernel
theorem dX8_takeOpenBalances_75 : decode cX8_takeOpenBalances 75 = .ok (.getfield 15, 3) := by decide +kernel
theorem dX8_takeOpenBalances_78 : decode cX8_takeOpenBalances 78 = .ok (.iload_n 3, 1) := by decide +kernel
theorem dX8_takeOpenBalances_79 : decode cX8_takeOpenBalances 79 = .ok (.iconst 1, 1) := by decide +kernel
theorem dX8_takeOpenBalances_80 : decode cX8_takeOpenBalances 80 = .ok (.iload_n 2, 1) := by decide +kernel
theorem dX8_takeOpenBalances_81 : decode cX8_takeOpenBalances 81 = .ok (.ishl, 1) := by decide +kernel
theorem dX8_takeOpenBalances_82 : decode cX8_takeOpenBalances 82 = .ok (.ior, 1) := by decide +kernel
theorem dX8_takeOpenBalances_83 : decode cX8_takeOpenBalances 83 = .ok (.aload_n 0, 1) := by decide +kernel
theorem dX8_takeOpenBalances_84 : decode cX8_takeOpenBalances 84 = .ok (.getfield 15, 3) := by decide +kernel
theorem dX8_takeOpenBalances_87 : decode cX8_takeOpenBalances 87 = .ok (.iload_n 3, 1) := by decide +kernel
theorem dX8_takeOpenBalances_88 : decode cX8_takeOpenBalances 88 = .ok (.iaload, 1) := by decide +kernel
theorem dX8_takeOpenBalances_89 : decode cX8_takeOpenBalances 89 = .ok (.aload_n 0, 1) := by decide +kernel
theorem dX8_takeOpenBalances_90 : decode cX8_takeOpenBalances 90 = .ok (.getfield 9, 3) := by decide +kernel
theorem dX8_takeOpenBalances_93 : decode cX8_takeOpenBalances 93 = .ok (.iload_n 2, 1) := by decide +kernel
theorem dX8_takeOpenBalances_94 : decode cX8_takeOpenBalances 94 = .ok (.iaload, 1) := by decide +kernel
theorem dX8_takeOpenBalances_95 : decode cX8_takeOpenBalances 95 = .ok (.iadd, 1) := by decide +kernel
theorem dX8_takeOpenBalances_96 : decode cX8_takeOpenBalances 96 = .ok (.iastore, 1) := by decide +kernel
theorem dX8_takeOpenBalances_97 : decode cX8_takeOpenBalances 97 = .ok (.iinc 3 1, 3) := by decide +kernel
theorem dX8_takeOpenBalances_100 : decode cX8_takeOpenBalances 100 = .ok (.goto (-33), 3) := by decide +kernel
theorem dX8_takeOpenBalances_103 : decode cX8_takeOpenBalances 103 = .ok (.iinc 2 1, 3) := by decide +kernel
theorem dX8_takeOpenBalances_106 : decode cX8_takeOpenBalances 106 = .ok (.goto (-49), 3) := by decide +kernel
theorem dX8_takeOpenBalances_109 : decode cX8_takeOpenBalances 109 = .ok (.return_, 1) := by decide +kernel
theorem dX8_mostGroupsWithoutOne_0 : decode cX8_mostGroupsWithoutOne 0 = .ok (.iconst 0, 1) := by decide +kernel
theorem dX8_mostGroupsWithoutOne_1 : decode cX8_mostGroupsWithoutOne 1 = .ok (.istore_n 2, 1) := by decide +kernel
theorem dX8_mostGroupsWithoutOne_2 : decode cX8_mostGroupsWithoutOne 2 = .ok (.iconst 0, 1) := by decide +kernel
theorem dX8_mostGroupsWithoutOne_3 : decode cX8_mostGroupsWithoutOne 3 = .ok (.istore_n 3, 1) := by decide +kernel
theorem dX8_mostGroupsWithoutOne_4 : decode cX8_mostGroupsWithoutOne 4 = .ok (.iload_n 3, 1) := by decide +kernel
theorem dX8_mostGroupsWithoutOne_5 : decode cX8_mostGroupsWithoutOne 5 = .ok (.aload_n 0, 1) := by decide +kernel
theorem dX8_mostGroupsWithoutOne_6 : decode cX8_mostGroupsWithoutOne 6 = .ok (.getfield 28, 3) := by decide +kernel
theorem dX8_mostGroupsWithoutOne_9 : decode cX8_mostGroupsWithoutOne 9 = .ok (.if_icmp .ge 35, 3) := by decide +kernel
theorem dX8_mostGroupsWithoutOne_12 : decode cX8_mostGroupsWithoutOne 12 = .ok (.iload_n 1, 1) := by decide +kernel
theorem dX8_mostGroupsWithoutOne_13 : decode cX8_mostGroupsWithoutOne 13 = .ok (.iload_n 3, 1) := by decide +kernel
theorem dX8_mostGroupsWithoutOne_14 : decode cX8_mostGroupsWithoutOne 14 = .ok (.ishr, 1) := by decide +kernel
theorem dX8_mostGroupsWithoutOne_15 : decode cX8_mostGroupsWithoutOne 15 = .ok (.iconst 1, 1) := by decide +kernel
theorem dX8_mostGroupsWithoutOne_16 : decode cX8_mostGroupsWithoutOne 16 = .ok (.iand, 1) := by decide +kernel
theorem dX8_mostGroupsWithoutOne_17 : decode cX8_mostGroupsWithoutOne 17 = .ok (.iconst 1, 1) := by decide +kernel
theorem dX8_mostGroupsWithoutOne_18 : decode cX8_mostGroupsWithoutOne 18 = .ok (.if_icmp .ne 20, 3) := by decide +kernel
theorem dX8_mostGroupsWithoutOne_21 : decode cX8_mostGroupsWithoutOne 21 = .ok (.iload_n 2, 1) := by decide +kernel
theorem dX8_mostGroupsWithoutOne_22 : decode cX8_mostGroupsWithoutOne 22 = .ok (.aload_n 0, 1) := by decide +kernel
theorem dX8_mostGroupsWithoutOne_23 : decode cX8_mostGroupsWithoutOne 23 = .ok (.getfield 18, 3) := by decide +kernel
theorem dX8_mostGroupsWithoutOne_26 : decode cX8_mostGroupsWithoutOne 26 = .ok (.iload_n 1, 1) := by decide +kernel
theorem dX8_mostGroupsWithoutOne_27 : decode cX8_mostGroupsWithoutOne 27 = .ok (.iconst 1, 1) := by decide +kernel
theorem dX8_mostGroupsWithoutOne_28 : decode cX8_mostGroupsWithoutOne 28 = .ok (.iload_n 3, 1) := by decide +kernel
theorem dX8_mostGroupsWithoutOne_29 : decode cX8_mostGroupsWithoutOne 29 = .ok (.ishl, 1) := by decide +kernel
theorem dX8_mostGroupsWithoutOne_30 : decode cX8_mostGroupsWithoutOne 30 = .ok (.iconst (-1), 1) := by decide +kernel
theorem dX8_mostGroupsWithoutOne_31 : decode cX8_mostGroupsWithoutOne 31 = .ok (.ixor, 1) := by decide +kernel
theorem dX8_mostGroupsWithoutOne_32 : decode cX8_mostGroupsWithoutOne 32 = .ok (.iand, 1) := by decide +kernel
theorem dX8_mostGroupsWithoutOne_33 : decode cX8_mostGroupsWithoutOne 33 = .ok (.iaload, 1) := by decide +kernel
theorem dX8_mostGroupsWithoutOne_34 : decode cX8_mostGroupsWithoutOne 34 = .ok (.invokestatic 54, 3) := by decide +kernel
theorem dX8_mostGroupsWithoutOne_37 : decode cX8_mostGroupsWithoutOne 37 = .ok (.istore_n 2, 1) := by decide +kernel
theorem dX8_mostGroupsWithoutOne_38 : decode cX8_mostGroupsWithoutOne 38 = .ok (.iinc 3 1, 3) := by decide +kernel
theorem dX8_mostGroupsWithoutOne_41 : decode cX8_mostGroupsWithoutOne 41 = .ok (.goto (-37), 3) := by decide +kernel
theorem dX8_mostGroupsWithoutOne_44 : decode cX8_mostGroupsWithoutOne 44 = .ok (.iload_n 2, 1) := by decide +kernel
theorem dX8_mostGroupsWithoutOne_45 : decode cX8_mostGroupsWithoutOne 45 = .ok (.ireturn, 1) := by decide +kernel
set_option maxRecDepth 20000 in
theorem ggX8_fewestFor_X8_fewestFor : GoodIn wsX8_fewestFor wsX8_fewestFor := goodIn_ca (goodIn_r _ [0, 1, 2, 3, 4, 5, 6, 7, 8, 9, 10, 11, 12, 13, 14, 15, 16, 17, 18, 19] (by decide +kernel) (by decide +kernel)) (goodIn_sub (fun _ h => List.mem_cons_of_mem _ (List.mem_append_right _ h)) (by decide +kernel))
set_option maxRecDepth 20000 in
theorem gX8_fewestFor_X8_fewestFor : GoodIn wsX8_fewestFor (va_wsS RX8 42 yX8_fewestFor wsX8_fewestFor) := goodIn_app (goodIn_of _ (by decide +kernel)) ggX8_fewestFor_X8_fewestFor
set_option maxRecDepth 20000 in
theorem ggX8_fewestFor_X8_fewestWithEachOther : GoodIn wsX8_fewestFor wsX8_fewestWithEachOther := goodIn_ca (goodIn_r _ [8, 9, 10, 11, 12, 13, 14, 3, 4, 5, 0, 1, 2, 6, 7, 15, 16, 17, 18, 19] (by decide +kernel) (by decide +kernel)) (goodIn_sub (fun _ h => List.mem_cons_of_mem _ (List.mem_append_right _ h)) (by decide +kernel))
set_option maxRecDepth 20000 in
theorem gX8_fewestFor_X8_fewestWithEachOther : GoodIn wsX8_fewestFor (va_wsS RX8 60 yX8_fewestWithEachOther wsX8_fewestWithEachOther) := goodIn_app (goodIn_of _ (by decide +kernel)) ggX8_fewestFor_X8_fewestWithEachOther
theorem dX8_fewestFor_0 : decode cX8_fewestFor 0 = .ok (.iload_n 1, 1) := by decide +kernel
theorem dX8_fewestFor_1 : decode cX8_fewestFor 1 = .ok (.ifCond .eq 9, 3) := by decide +kernel
theorem dX8_fewestFor_4 : decode cX8_fewestFor 4 = .ok (.iload_n 2, 1) := by decide +kernel
theorem dX8_fewestFor_5 : decode cX8_fewestFor 5 = .ok (.bipush 11, 2) := by decide +kernel
theorem dX8_fewestFor_7 : decode cX8_fewestFor 7 = .ok (.if_icmp .le 5, 3) := by decide +kernel
theorem dX8_fewestFor_10 : decode cX8_fewestFor 10 = .ok (.iconst 0, 1) := by decide +kernel
theorem dX8_fewestFor_11 : decode cX8_fewestFor 11 = .ok (.ireturn, 1) := by decide +kernel
theorem dX8_fewestFor_12 : decode cX8_fewestFor 12 = .ok (.aload_n 0, 1) := by decide +kernel
theorem dX8_fewestFor_13 : decode cX8_fewestFor 13 = .ok (.getfield 21, 3) := by decide +kernel
theorem dX8_fewestFor_16 : decode cX8_fewestFor 16 = .ok (.iload_n 1, 1) := by decide +kernel
theorem dX8_fewestFor_17 : decode cX8_fewestFor 17 = .ok (.iaload, 1) := by decide +kernel
theorem dX8_fewestFor_18 : decode cX8_fewestFor 18 = .ok (.iconst (-1), 1) := by decide +kernel
theorem dX8_fewestFor_19 : decode cX8_fewestFor 19 = .ok (.if_icmp .ne 43, 3) := by decide +kernel
theorem dX8_fewestFor_22 : decode cX8_fewestFor 22 = .ok (.aload_n 0, 1) := by decide +kernel
theorem dX8_fewestFor_23 : decode cX8_fewestFor 23 = .ok (.getfield 15, 3) := by decide +kernel
theorem dX8_fewestFor_26 : decode cX8_fewestFor 26 = .ok (.iload_n 1, 1) := by decide +kernel
theorem dX8_fewestFor_27 : decode cX8_fewestFor 27 = .ok (.iaload, 1) := by decide +kernel
theorem dX8_fewestFor_28 : decode cX8_fewestFor 28 = .ok (.ineg, 1) := by decide +kernel
theorem dX8_fewestFor_29 : decode cX8_fewestFor 29 = .ok (.istore_n 3, 1) := by decide +kernel
theorem dX8_fewestFor_30 : decode cX8_fewestFor 30 = .ok (.aload_n 0, 1) := by decide +kernel
theorem dX8_fewestFor_31 : decode cX8_fewestFor 31 = .ok (.getfield 21, 3) := by decide +kernel
theorem dX8_fewestFor_34 : decode cX8_fewestFor 34 = .ok (.iload_n 1, 1) := by decide +kernel
theorem dX8_fewestFor_35 : decode cX8_fewestFor 35 = .ok (.iload_n 3, 1) := by decide +kernel
theorem dX8_fewestFor_36 : decode cX8_fewestFor 36 = .ok (.ifCond .ne 18, 3) := by decide +kernel
theorem dX8_fewestFor_39 : decode cX8_fewestFor 39 = .ok (.aload_n 0, 1) := by decide +kernel
theorem dX8_fewestFor_40 : decode cX8_fewestFor 40 = .ok (.iload_n 1, 1) := by decide +kernel
theorem dX8_fewestFor_41 : decode cX8_fewestFor 41 = .ok (.iload_n 1, 1) := by decide +kernel
theorem dX8_fewestFor_42 : decode cX8_fewestFor 42 = .ok (.iconst 1, 1) := by decide +kernel
theorem dX8_fewestFor_43 : decode cX8_fewestFor 43 = .ok (.isub, 1) := by decide +kernel
theorem dX8_fewestFor_44 : decode cX8_fewestFor 44 = .ok (.iand, 1) := by decide +kernel
theorem dX8_fewestFor_45 : decode cX8_fewestFor 45 = .ok (.iload_n 2, 1) := by decide +kernel
theorem dX8_fewestFor_46 : decode cX8_fewestFor 46 = .ok (.iconst 1, 1) := by decide +kernel
theorem dX8_fewestFor_47 : decode cX8_fewestFor 47 = .ok (.iadd, 1) := by decide +kernel
theorem dX8_fewestFor_48 : decode cX8_fewestFor 48 = .ok (.invokestatic 42, 3) := by decide +kernel
theorem dX8_fewestFor_51 : decode cX8_fewestFor 51 = .ok (.goto 10, 3) := by decide +kernel
theorem dX8_fewestFor_54 : decode cX8_fewestFor 54 = .ok (.aload_n 0, 1) := by decide +kernel
theorem dX8_fewestFor_55 : decode cX8_fewestFor 55 = .ok (.iload_n 1, 1) := by decide +kernel
theorem dX8_fewestFor_56 : decode cX8_fewestFor 56 = .ok (.iload_n 3, 1) := by decide +kernel
theorem dX8_fewestFor_57 : decode cX8_fewestFor 57 = .ok (.iload_n 2, 1) := by decide +kernel
theorem dX8_fewestFor_58 : decode cX8_fewestFor 58 = .ok (.invokestatic 60, 3) := by decide +kernel
theorem dX8_fewestFor_61 : decode cX8_fewestFor 61 = .ok (.iastore, 1) := by decide +kernel
theorem dX8_fewestFor_62 : decode cX8_fewestFor 62 = .ok (.aload_n 0, 1) := by decide +kernel
theorem dX8_fewestFor_63 : decode cX8_fewestFor 63 = .ok (.getfield 21, 3) := by decide +kernel
theorem dX8_fewestFor_66 : decode cX8_fewestFor 66 = .ok (.iload_n 1, 1) := by decide +kernel
theorem dX8_fewestFor_67 : decode cX8_fewestFor 67 = .ok (.iaload, 1) := by decide +kernel
theorem dX8_fewestFor_68 : decode cX8_fewestFor 68 = .ok (.ireturn, 1) := by decide +kernel
set_option maxRecDepth 20000 in
theorem ggX8_fewestWithEachOther_X8_fewestFor : GoodIn wsX8_fewestWithEachOther wsX8_fewestFor := goodIn_ca (goodIn_r _ [10, 11, 12, 7, 8, 9, 13, 14, 0, 1, 2, 3, 4, 5, 6, 15, 16, 17, 18, 19] (by decide +kernel) (by decide +kernel)) (goodIn_sub (fun _ h => List.mem_cons_of_mem _ (List.mem_append_right _ h)) (by decide +kernel))
set_option maxRecDepth 20000 in
theorem gX8_fewestWithEachOther_X8_fewestFor : GoodIn wsX8_fewestWithEachOther (va_wsS RX8 42 yX8_fewestFor wsX8_fewestFor) := goodIn_app (goodIn_of _ (by decide +kernel)) ggX8_fewestWithEachOther_X8_fewestFor
theorem dX8_fewestWithEachOther_0 : decode cX8_fewestWithEachOther 0 = .ok (.bipush 11, 2) := by decide +kernel
theorem dX8_fewestWithEachOther_2 : decode cX8_fewestWithEachOther 2 = .ok (.istore 4, 2) := by decide +kernel
theorem dX8_fewestWithEachOther_4 : decode cX8_fewestWithEachOther 4 = .ok (.iconst 0, 1) := by decide +kernel
theorem dX8_fewestWithEachOther_5 : decode cX8_fewestWithEachOther 5 = .ok (.istore 5, 2) := by decide +kernel
theorem dX8_fewestWithEachOther_7 : decode cX8_fewestWithEachOther 7 = .ok (.iload 5, 2) := by decide +kernel
theorem dX8_fewestWithEachOther_9 : decode cX8_fewestWithEachOther 9 = .ok (.aload_n 0, 1) := by decide +kernel
theorem dX8_fewestWithEachOther_10 : decode cX8_fewestWithEachOther 10 = .ok (.getfield 28, 3) := by decide +kernel
theorem dX8_fewestWithEachOther_13 : decode cX8_fewestWithEachOther 13 = .ok (.if_icmp .ge 82, 3) := by decide +kernel
theorem dX8_fewestWithEachOther_16 : decode cX8_fewestWithEachOther 16 = .ok (.aload_n 0, 1) := by decide +kernel
theorem dX8_fewestWithEachOther_17 : decode cX8_fewestWithEachOther 17 = .ok (.getfield 9, 3) := by decide +kernel
theorem dX8_fewestWithEachOther_20 : decode cX8_fewestWithEachOther 20 = .ok (.iload 5, 2) := by decide +kernel
theorem dX8_fewestWithEachOther_22 : decode cX8_fewestWithEachOther 22 = .ok (.iaload, 1) := by decide +kernel
theorem dX8_fewestWithEachOther_23 : decode cX8_fewestWithEachOther 23 = .ok (.ifCond .le 7, 3) := by decide +kernel
theorem dX8_fewestWithEachOther_26 : decode cX8_fewestWithEachOther 26 = .ok (.iconst 1, 1) := by decide +kernel
theorem dX8_fewestWithEachOther_27 : decode cX8_fewestWithEachOther 27 = .ok (.goto 4, 3) := by decide +kernel
theorem dX8_fewestWithEachOther_30 : decode cX8_fewestWithEachOther 30 = .ok (.iconst 0, 1) := by decide +kernel
theorem dX8_fewestWithEachOther_31 : decode cX8_fewestWithEachOther 31 = .ok (.iload_n 2, 1) := by decide +kernel
theorem dX8_fewestWithEachOther_32 : decode cX8_fewestWithEachOther 32 = .ok (.ifCond .le 7, 3) := by decide +kernel
theorem dX8_fewestWithEachOther_35 : decode cX8_fewestWithEachOther 35 = .ok (.iconst 1, 1) := by decide +kernel
theorem dX8_fewestWithEachOther_36 : decode cX8_fewestWithEachOther 36 = .ok (.goto 4, 3) := by decide +kernel
theorem dX8_fewestWithEachOther_39 : decode cX8_fewestWithEachOther 39 = .ok (.iconst 0, 1) := by decide +kernel
theorem dX8_fewestWithEachOther_40 : decode cX8_fewestWithEachOther 40 = .ok (.if_icmp .eq 7, 3) := by decide +kernel
theorem dX8_fewestWithEachOther_43 : decode cX8_fewestWithEachOther 43 = .ok (.iconst 1, 1) := by decide +kernel
theorem dX8_fewestWithEachOther_44 : decode cX8_fewestWithEachOther 44 = .ok (.goto 4, 3) := by decide +kernel
theorem dX8_fewestWithEachOther_47 : decode cX8_fewestWithEachOther 47 = .ok (.iconst 0, 1) := by decide +kernel
theorem dX8_fewestWithEachOther_48 : decode cX8_fewestWithEachOther 48 = .ok (.istore 6, 2) := by decide +kernel
theorem dX8_fewestWithEachOther_50 : decode cX8_fewestWithEachOther 50 = .ok (.iload_n 1, 1) := by decide +kernel
theorem dX8_fewestWithEachOther_51 : decode cX8_fewestWithEachOther 51 = .ok (.iload 5, 2) := by decide +kernel
theorem dX8_fewestWithEachOther_53 : decode cX8_fewestWithEachOther 53 = .ok (.ishr, 1) := by decide +kernel
theorem dX8_fewestWithEachOther_54 : decode cX8_fewestWithEachOther 54 = .ok (.iconst 1, 1) := by decide +kernel
theorem dX8_fewestWithEachOther_55 : decode cX8_fewestWithEachOther 55 = .ok (.iand, 1) := by decide +kernel
theorem dX8_fewestWithEachOther_56 : decode cX8_fewestWithEachOther 56 = .ok (.iconst 1, 1) := by decide +kernel
theorem dX8_fewestWithEachOther_57 : decode cX8_fewestWithEachOther 57 = .ok (.if_icmp .ne 32, 3) := by decide +kernel
theorem dX8_fewestWithEachOther_60 : decode cX8_fewestWithEachOther 60 = .ok (.iload 6, 2) := by decide +kernel
theorem dX8_fewestWithEachOther_62 : decode cX8_fewestWithEachOther 62 = .ok (.ifCond .eq 27, 3) := by decide +kernel
theorem dX8_fewestWithEachOther_65 : decode cX8_fewestWithEachOther 65 = .ok (.iload 4, 2) := by decide +kernel
theorem dX8_fewestWithEachOther_67 : decode cX8_fewestWithEachOther 67 = .ok (.iconst 1, 1) := by decide +kernel
theorem dX8_fewestWithEachOther_68 : decode cX8_fewestWithEachOther 68 = .ok (.aload_n 0, 1) := by decide +kernel
theorem dX8_fewestWithEachOther_69 : decode cX8_fewestWithEachOther 69 = .ok (.iload_n 1, 1) := by decide +kernel
theorem dX8_fewestWithEachOther_70 : decode cX8_fewestWithEachOther 70 = .ok (.iconst 1, 1) := by decide +kernel
theorem dX8_fewestWithEachOther_71 : decode cX8_fewestWithEachOther 71 = .ok (.iload 5, 2) := by decide +kernel
theorem dX8_fewestWithEachOther_73 : decode cX8_fewestWithEachOther 73 = .ok (.ishl, 1) := by decide +kernel
theorem dX8_fewestWithEachOther_74 : decode cX8_fewestWithEachOther 74 = .ok (.iconst (-1), 1) := by decide +kernel
theorem dX8_fewestWithEachOther_75 : decode cX8_fewestWithEachOther 75 = .ok (.ixor, 1) := by decide +kernel
theorem dX8_fewestWithEachOther_76 : decode cX8_fewestWithEachOther 76 = .ok (.iand, 1) := by decide +kernel
theorem dX8_fewestWithEachOther_77 : decode cX8_fewestWithEachOther 77 = .ok (.iload_n 3, 1) := by decide +kernel
theorem dX8_fewestWithEachOther_78 : decode cX8_fewestWithEachOther 78 = .ok (.iconst 1, 1) := by decide +kernel
theorem dX8_fewestWithEachOther_79 : decode cX8_fewestWithEachOther 79 = .ok (.iadd, 1) := by decide +kernel
theorem dX8_fewestWithEachOther_80 : decode cX8_fewestWithEachOther 80 = .ok (.invokestatic 42, 3) := by decide +kernel
theorem dX8_fewestWithEachOther_83 : decode cX8_fewestWithEachOther 83 = .ok (.iadd, 1) := by decide +kernel
theorem dX8_fewestWithEachOther_84 : decode cX8_fewestWithEachOther 84 = .ok (.invokestatic 64, 3) := by decide +kernel
theorem dX8_fewestWithEachOther_87 : decode cX8_fewestWithEachOther 87 = .ok (.istore 4, 2) := by decide +kernel
theorem dX8_fewestWithEachOther_89 : decode cX8_fewestWithEachOther 89 = .ok (.iinc 5 1, 3) := by decide +kernel
theorem dX8_fewestWithEachOther_92 : decode cX8_fewestWithEachOther 92 = .ok (.goto (-85), 3) := by decide +kernel
theorem dX8_fewestWithEachOther_95 : decode cX8_fewestWithEachOther 95 = .ok (.iload 4, 2) := by decide +kernel
theorem dX8_fewestWithEachOther_97 : decode cX8_fewestWithEachOther 97 = .ok (.ireturn, 1) := by decide +kernel
theorem dX9_init_0 : decode cX9_init 0 = .ok (.aload_n 0, 1) := by decide +kernel
theorem dX9_init_1 : decode cX9_init 1 = .ok (.invokespecial 3, 3) := by decide +kernel
theorem dX9_init_4 : decode cX9_init 4 = .ok (.aload_n 0, 1) := by decide +kernel
theorem dX9_init_5 : decode cX9_init 5 = .ok (.bipush 6, 2) := by decide +kernel
theorem dX9_init_7 : decode cX9_init 7 = .ok (.newarray .int, 2) := by decide +kernel
theorem dX9_init_9 : decode cX9_init 9 = .ok (.putfield 9, 3) := by decide +kernel
theorem dX9_init_12 : decode cX9_init 12 = .ok (.aload_n 0, 1) := by decide +kernel
theorem dX9_init_13 : decode cX9_init 13 = .ok (.bipush 6, 2) := by decide +kernel
theorem dX9_init_15 : decode cX9_init 15 = .ok (.newarray .int, 2) := by decide +kernel
theorem dX9_init_17 : decode cX9_init 17 = .ok (.putfield 15, 3) := by decide +kernel
theorem dX9_init_20 : decode cX9_init 20 = .ok (.aload_n 0, 1) := by decide +kernel
theorem dX9_init_21 : decode cX9_init 21 = .ok (.bipush 6, 2) := by decide +kernel
theorem dX9_init_23 : decode cX9_init 23 = .ok (.newarray .int, 2) := by decide +kernel
theorem dX9_init_25 : decode cX9_init 25 = .ok (.putfield 18, 3) := by decide +kernel
theorem dX9_init_28 : decode cX9_init 28 = .ok (.aload_n 0, 1) := by decide +kernel
theorem dX9_init_29 : decode cX9_init 29 = .ok (.bipush 6, 2) := by decide +kernel
theorem dX9_init_31 : decode cX9_init 31 = .ok (.newarray .int, 2) := by decide +kernel
theorem dX9_init_33 : decode cX9_init 33 = .ok (.putfield 21, 3) := by decide +kernel
theorem dX9_init_36 : decode cX9_init 36 = .ok (.aload_n 0, 1) := by decide +kernel
theorem dX9_init_37 : decode cX9_init 37 = .ok (.bipush 6, 2) := by decide +kernel
theorem dX9_init_39 : decode cX9_init 39 = .ok (.newarray .int, 2) := by decide +kernel
theorem dX9_init_41 : decode cX9_init 41 = .ok (.putfield 24, 3) := by decide +kernel
theorem dX9_init_44 : decode cX9_init 44 = .ok (.return_, 1) := by decide +kernel
theorem dX9_copyFrom_0 : decode cX9_copyFrom 0 = .ok (.aload_n 0, 1) := by decide +kernel
theorem dX9_copyFrom_1 : decode cX9_copyFrom 1 = .ok (.aload_n 1, 1) := by decide +kernel
theorem dX9_copyFrom_2 : decode cX9_copyFrom 2 = .ok (.getfield 27, 3) := by decide +kernel
theorem dX9_copyFrom_5 : decode cX9_copyFrom 5 = .ok (.putfield 27, 3) := by decide +kernel
theorem dX9_copyFrom_8 : decode cX9_copyFrom 8 = .ok (.aload_n 1, 1) := by decide +kernel
theorem dX9_copyFrom_9 : decode cX9_copyFrom 9 = .ok (.getfield 9, 3) := by decide +kernel
theorem dX9_copyFrom_12 : decode cX9_copyFrom 12 = .ok (.iconst 0, 1) := by decide +kernel
theorem dX9_copyFrom_13 : decode cX9_copyFrom 13 = .ok (.aload_n 0, 1) := by decide +kernel
theorem dX9_copyFrom_14 : decode cX9_copyFrom 14 = .ok (.getfield 9, 3) := by decide +kernel
theorem dX9_copyFrom_17 : decode cX9_copyFrom 17 = .ok (.iconst 0, 1) := by decide +kernel
theorem dX9_copyFrom_18 : decode cX9_copyFrom 18 = .ok (.bipush 6, 2) := by decide +kernel
theorem dX9_copyFrom_20 : decode cX9_copyFrom 20 = .ok (.invokestatic 31, 3) := by decide +kernel
theorem dX9_copyFrom_23 : decode cX9_copyFrom 23 = .ok (.aload_n 1, 1) := by decide +kernel
theorem dX9_copyFrom_24 : decode cX9_copyFrom 24 = .ok (.getfield 15, 3) := by decide +kernel
theorem dX9_copyFrom_27 : decode cX9_copyFrom 27 = .ok (.iconst 0, 1) := by decide +kernel
theorem dX9_copyFrom_28 : decode cX9_copyFrom 28 = .ok (.aload_n 0, 1) := by decide +kernel
theorem dX9_copyFrom_29 : decode cX9_copyFrom 29 = .ok (.getfield 15, 3) := by decide +kernel
theorem dX9_copyFrom_32 : decode cX9_copyFrom 32 = .ok (.iconst 0, 1) := by decide +kernel
theorem dX9_copyFrom_33 : decode cX9_copyFrom 33 = .ok (.bipush 6, 2) := by decide +kernel
theorem dX9_copyFrom_35 : decode cX9_copyFrom 35 = .ok (.invokestatic 31, 3) := by decide +kernel
theorem dX9_copyFrom_38 : decode cX9_copyFrom 38 = .ok (.aload_n 1, 1) := by decide +kernel
theorem dX9_copyFrom_39 : decode cX9_copyFrom 39 = .ok (.getfield 18, 3) := by decide +kernel
theorem dX9_copyFrom_42 : decode cX9_copyFrom 42 = .ok (.iconst 0, 1) := by decide +kernel
theorem dX9_copyFrom_43 : decode cX9_copyFrom 43 = .ok (.aload_n 0, 1) := by decide +kernel
theorem dX9_copyFrom_44 : decode cX9_copyFrom 44 = .ok (.getfield 18, 3) := by decide +kernel
theorem dX9_copyFrom_47 : decode cX9_copyFrom 47 = .ok (.iconst 0, 1) := by decide +kernel
theorem dX9_copyFrom_48 : decode cX9_copyFrom 48 = .ok (.bipush 6, 2) := by decide +kernel
theorem dX9_copyFrom_50 : decode cX9_copyFrom 50 = .ok (.invokestatic 31, 3) := by decide +kernel
theorem dX9_copyFrom_53 : decode cX9_copyFrom 53 = .ok (.aload_n 1, 1) := by decide +kernel
theorem dX9_copyFrom_54 : decode cX9_copyFrom 54 = .ok (.getfield 21, 3) := by decide +kernel
theorem dX9_copyFrom_57 : decode cX9_copyFrom 57 = .ok (.iconst 0, 1) := by decide +kernel
theorem dX9_copyFrom_58 : decode cX9_copyFrom 58 = .ok (.aload_n 0, 1) := by decide +kernel
theorem dX9_copyFrom_59 : decode cX9_copyFrom 59 = .ok (.getfield 21, 3) := by decide +kernel
theorem dX9_copyFrom_62 : decode cX9_copyFrom 62 = .ok (.iconst 0, 1) := by decide +kernel
theorem dX9_copyFrom_63 : decode cX9_copyFrom 63 = .ok (.bipush 6, 2) := by decide +kernel
theorem dX9_copyFrom_65 : decode cX9_copyFrom 65 = .ok (.invokestatic 31, 3) := by decide +kernel
theorem dX9_copyFrom_68 : decode cX9_copyFrom 68 = .ok (.aload_n 1, 1) := by decide +kernel
theorem dX9_copyFrom_69 : decode cX9_copyFrom 69 = .ok (.getfield 24, 3) := by decide +kernel
theorem dX9_copyFrom_72 : decode cX9_copyFrom 72 = .ok (.iconst 0, 1) := by decide +kernel
theorem dX9_copyFrom_73 : decode cX9_copyFrom 73 = .ok (.aload_n 0, 1) := by decide +kernel
theorem dX9_copyFrom_74 : decode cX9_copyFrom 74 = .ok (.getfield 24, 3) := by decide +kernel
theorem dX9_copyFrom_77 : decode cX9_copyFrom 77 = .ok (.iconst 0, 1) := by decide +kernel
theorem dX9_copyFrom_78 : decode cX9_copyFrom 78 = .ok (.bipush 6, 2) := by decide +kernel
theorem dX9_copyFrom_80 : decode cX9_copyFrom 80 = .ok (.invokestatic 31, 3) := by decide +kernel
theorem dX9_copyFrom_83 : decode cX9_copyFrom 83 = .ok (.return_, 1) := by decide +kernel
theorem dX9_add_0 : decode cX9_add 0 = .ok (.aload_n 0, 1) := by decide +kernel
theorem dX9_add_1 : decode cX9_add 1 = .ok (.getfield 27, 3) := by decide +kernel
theorem dX9_add_4 : decode cX9_add 4 = .ok (.istore 5, 2) := by decide +kernel
theorem dX9_add_6 : decode cX9_add 6 = .ok (.aload_n 0, 1) := by decide +kernel
theorem dX9_add_7 : decode cX9_add 7 = .ok (.getfield 9, 3) := by decide +kernel
theorem dX9_add_10 : decode cX9_add 10 = .ok (.iload 5, 2) := by decide +kernel
theorem dX9_add_12 : decode cX9_add 12 = .ok (.iload_n 1, 1) := by decide +kernel
theorem dX9_add_13 : decode cX9_add 13 = .ok (.iastore, 1) := by decide +kernel
theorem dX9_add_14 : decode cX9_add 14 = .ok (.aload_n 0, 1) := by decide +kernel
theorem dX9_add_15 : decode cX9_add 15 = .ok (.getfield 15, 3) := by decide +kernel
theorem dX9_add_18 : decode cX9_add 18 = .ok (.iload 5, 2) := by decide +kernel
theorem dX9_add_20 : decode cX9_add 20 = .ok (.iload_n 2, 1) := by decide +kernel
theorem dX9_add_21 : decode cX9_add 21 = .ok (.iastore, 1) := by decide +kernel
theorem dX9_add_22 : decode cX9_add 22 = .ok (.aload_n 0, 1) := by decide +kernel
theorem dX9_add_23 : decode cX9_add 23 = .ok (.getfield 18, 3) := by decide +kernel
theorem dX9_add_26 : decode cX9_add 26 = .ok (.iload 5, 2) := by decide +kernel
theorem dX9_add_28 : decode cX9_add 28 = .ok (.iload_n 3, 1) := by decide +kernel
theorem dX9_add_29 : decode cX9_add 29 = .ok (.iastore, 1) := by decide +kernel
theorem dX9_add_30 : decode cX9_add 30 = .ok (.aload_n 0, 1) := by decide +kernel
theorem dX9_add_31 : decode cX9_add 31 = .ok (.getfield 21, 3) := by decide +kernel
theorem dX9_add_34 : decode cX9_add 34 = .ok (.iload 5, 2) := by decide +kernel
theorem dX9_add_36 : decode cX9_add 36 = .ok (.iload 4, 2) := by decide +kernel
theorem dX9_add_38 : decode cX9_add 38 = .ok (.iastore, 1) := by decide +kernel
theorem dX9_add_39 : decode cX9_add 39 = .ok (.aload_n 0, 1) := by decide +kernel
theorem dX9_add_40 : decode cX9_add 40 = .ok (.dup, 1) := by decide +kernel
theorem dX9_add_41 : decode cX9_add 41 = .ok (.getfield 27, 3) := by decide +kernel
theorem dX9_add_44 : decode cX9_add 44 = .ok (.iconst 1, 1) := by decide +kernel
theorem dX9_add_45 : decode cX9_add 45 = .ok (.iadd, 1) := by decide +kernel
theorem dX9_add_46 : decode cX9_add 46 = .ok (.putfield 27, 3) := by decide +kernel
theorem dX9_add_49 : decode cX9_add 49 = .ok (.iload 5, 2) := by decide +kernel
theorem dX9_add_51 : decode cX9_add 51 = .ok (.ireturn, 1) := by decide +kernel
theorem dX9_has_0 : decode cX9_has 0 = .ok (.iload_n 1, 1) := by decide +kernel
theorem dX9_has_1 : decode cX9_has 1 = .ok (.ifCond .lt 15, 3) := by decide +kernel
theorem dX9_has_4 : decode cX9_has 4 = .ok (.iload_n 1, 1) := by decide +kernel
theorem dX9_has_5 : decode cX9_has 5 = .ok (.aload_n 0, 1) := by decide +kernel
theorem dX9_has_6 : decode cX9_has 6 = .ok (.getfield 27, 3) := by decide +kernel
theorem dX9_has_9 : decode cX9_has 9 = .ok (.if_icmp .ge 7, 3) := by decide +kernel
theorem dX9_has_12 : decode cX9_has 12 = .ok (.iconst 1, 1) := by decide +kernel
theorem dX9_has_13 : decode cX9_has 13 = .ok (.goto 4, 3) := by decide +kernel
theorem dX9_has_16 : decode cX9_has 16 = .ok (.iconst 0, 1) := by decide +kernel
theorem dX9_has_17 : decode cX9_has 17 = .ok (.ireturn, 1) := by decide +kernel
theorem dX9_isSet_0 : decode cX9_isSet 0 = .ok (.iload_n 1, 1) := by decide +kernel
theorem dX9_isSet_1 : decode cX9_isSet 1 = .ok (.ifCond .le 17, 3) := by decide +kernel
theorem dX9_isSet_4 : decode cX9_isSet 4 = .ok (.iload_n 1, 1) := by decide +kernel
theorem dX9_isSet_5 : decode cX9_isSet 5 = .ok (.iconst 1, 1) := by decide +kernel
theorem dX9_isSet_6 : decode cX9_isSet 6 = .ok (.aload_n 0, 1) := by decide +kernel
theorem dX9_isSet_7 : decode cX9_isSet 7 = .ok (.getfield 27, 3) := by decide +kernel
theorem dX9_isSet_10 : decode cX9_isSet 10 = .ok (.ishl, 1) := by decide +kernel
theorem dX9_isSet_11 : decode cX9_isSet 11 = .ok (.if_icmp .ge 7, 3) := by decide +kernel
theorem dX9_isSet_14 : decode cX9_isSet 14 = .ok (.iconst 1, 1) := by decide +kernel
theorem dX9_isSet_15 : decode cX9_isSet 15 = .ok (.goto 4, 3) := by decide +kernel
theorem dX9_isSet_18 : decode cX9_isSet 18 = .ok (.iconst 0, 1) := by decide +kernel
theorem dX9_isSet_19 : decode cX9_isSet 19 = .ok (.ireturn, 1) := by decide +kernel
theorem dX9_isMember_0 : decode cX9_isMember 0 = .ok (.iload_n 2, 1) := by decide +kernel
theorem dX9_isMember_1 : decode cX9_isMember 1 = .ok (.ifCond .lt 24, 3) := by decide +kernel
theorem dX9_isMember_4 : decode cX9_isMember 4 = .ok (.iload_n 2, 1) := by decide +kernel
theorem dX9_isMember_5 : decode cX9_isMember 5 = .ok (.aload_n 0, 1) := by decide +kernel
theorem dX9_isMember_6 : decode cX9_isMember 6 = .ok (.getfield 27, 3) := by decide +kernel
theorem dX9_isMember_9 : decode cX9_isMember 9 = .ok (.if_icmp .ge 16, 3) := by decide +kernel
theorem dX9_isMember_12 : decode cX9_isMember 12 = .ok (.iload_n 1, 1) := by decide +kernel
theorem dX9_isMember_13 : decode cX9_isMember 13 = .ok (.iload_n 2, 1) := by decide +kernel
theorem dX9_isMember_14 : decode cX9_isMember 14 = .ok (.ishr, 1) := by decide +kernel
theorem dX9_isMember_15 : decode cX9_isMember 15 = .ok (.iconst 1, 1) := by decide +kernel
theorem dX9_isMember_16 : decode cX9_isMember 16 = .ok (.iand, 1) := by decide +kernel
theorem dX9_isMember_17 : decode cX9_isMember 17 = .ok (.iconst 1, 1) := by decide +kernel
theorem dX9_isMember_18 : decode cX9_isMember 18 = .ok (.if_icmp .ne 7, 3) := by decide +kernel
theorem dX9_isMember_21 : decode cX9_isMember 21 = .ok (.iconst 1, 1) := by decide +kernel
theorem dX9_isMember_22 : decode cX9_isMember 22 = .ok (.goto 4, 3) := by decide +kernel
theorem dX9_isMember_25 : decode cX9_isMember 25 = .ok (.iconst 0, 1) := by decide +kernel
theorem dX9_isMember_26 : decode cX9_isMember 26 = .ok (.ireturn, 1) := by decide +kernel
theorem dX9_fitSet_0 : decode cX9_fitSet 0 = .ok (.iconst 0, 1) := by decide +kernel
theorem dX9_fitSet_1 : decode cX9_fitSet 1 = .ok (.istore_n 1, 1) := by decide +kernel
theorem dX9_fitSet_2 : decode cX9_fitSet 2 = .ok (.iconst 0, 1) := by decide +kernel
theorem dX9_fitSet_3 : decode cX9_fitSet 3 = .ok (.istore_n 2, 1) := by decide +kernel
theorem dX9_fitSet_4 : decode cX9_fitSet 4 = .ok (.iload_n 2, 1) := by decide +kernel
theorem dX9_fitSet_5 : decode cX9_fitSet 5 = .ok (.aload_n 0, 1) := by decide +kernel
theorem dX9_fitSet_6 : decode cX9_fitSet 6 = .ok (.getfield 27, 3) := by decide +kernel
theorem dX9_fitSet_9 : decode cX9_fitSet 9 = .ok (.if_icmp .ge 24, 3) := by decide +kernel
theorem dX9_fitSet_12 : decode cX9_fitSet 12 = .ok (.aload_n 0, 1) := by decide +kernel
theorem dX9_fitSet_13 : decode cX9_fitSet 13 = .ok (.getfield 24, 3) := by decide +kernel
theorem dX9_fitSet_16 : decode cX9_fitSet 16 = .ok (.iload_n 2, 1) := by decide +kernel
theorem dX9_fitSet_17 : decode cX9_fitSet 17 = .ok (.iaload, 1) := by decide +kernel
theorem dX9_fitSet_18 : decode cX9_fitSet 18 = .ok (.ifCond .ne 9, 3) := by decide +kernel
theorem dX9_fitSet_21 : decode cX9_fitSet 21 = .ok (.iload_n 1, 1) := by decide +kernel
theorem dX9_fitSet_22 : decode cX9_fitSet 22 = .ok (.iconst 1, 1) := by decide +kernel
theorem dX9_fitSet_23 : decode cX9_fitSet 23 = .ok (.iload_n 2, 1) := by decide +kernel
theorem dX9_fitSet_24 : decode cX9_fitSet 24 = .ok (.ishl, 1) := by decide +kernel
theorem dX9_fitSet_25 : decode cX9_fitSet 25 = .ok (.ior, 1) := by decide +kernel
theorem dX9_fitSet_26 : decode cX9_fitSet 26 = .ok (.istore_n 1, 1) := by decide +kernel
theorem dX9_fitSet_27 : decode cX9_fitSet 27 = .ok (.iinc 2 1, 3) := by decide +kernel
theorem dX9_fitSet_30 : decode cX9_fitSet 30 = .ok (.goto (-26), 3) := by decide +kernel
theorem dX9_fitSet_33 : decode cX9_fitSet 33 = .ok (.iload_n 1, 1) := by decide +kernel
theorem dX9_fitSet_34 : decode cX9_fitSet 34 = .ok (.ireturn, 1) := by decide +kernel
theorem dX9_heal_0 : decode cX9_heal 0 = .ok (.iconst 0, 1) := by decide +kernel
theorem dX9_heal_1 : decode cX9_heal 1 = .ok (.istore_n 2, 1) := by decide +kernel
theorem dX9_heal_2 : decode cX9_heal 2 = .ok (.iconst 0, 1) := by decide +kernel
theorem dX9_heal_3 : decode cX9_heal 3 = .ok (.istore_n 3, 1) := by decide +kernel
theorem dX9_heal_4 : decode cX9_heal 4 = .ok (.iload_n 3, 1) := by decide +kernel
theorem dX9_heal_5 : decode cX9_heal 5 = .ok (.aload_n 0, 1) := by decide +kernel
theorem dX9_heal_6 : decode cX9_heal 6 = .ok (.getfield 27, 3) := by decide +kernel
theorem dX9_heal_9 : decode cX9_heal 9 = .ok (.if_icmp .ge 39, 3) := by decide +kernel
theorem dX9_heal_12 : decode cX9_heal 12 = .ok (.aload_n 0, 1) := by decide +kernel
theorem dX9_heal_13 : decode cX9_heal 13 = .ok (.getfield 24, 3) := by decide +kernel
theorem dX9_heal_16 : decode cX9_heal 16 = .ok (.iload_n 3, 1) := by decide +kernel
theorem dX9_heal_17 : decode cX9_heal 17 = .ok (.iconst 0, 1) := by decide +kernel
theorem dX9_heal_18 : decode cX9_heal 18 = .ok (.aload_n 0, 1) := by decide +kernel
theorem dX9_heal_19 : decode cX9_heal 19 = .ok (.getfield 24, 3) := by decide +kernel
theorem dX9_heal_22 : decode cX9_heal 22 = .ok (.iload_n 3, 1) := by decide +kernel
theorem dX9_heal_23 : decode cX9_heal 23 = .ok (.iaload, 1) := by decide +kernel
theorem dX9_heal_24 : decode cX9_heal 24 = .ok (.iload_n 1, 1) := by decide +kernel
theorem dX9_heal_25 : decode cX9_heal 25 = .ok (.isub, 1) := by decide +kernel
theorem dX9_heal_26 : decode cX9_heal 26 = .ok (.invokestatic 37, 3) := by decide +kernel
theorem dX9_heal_29 : decode cX9_heal 29 = .ok (.iastore, 1) := by decide +kernel
theorem dX9_heal_30 : decode cX9_heal 30 = .ok (.aload_n 0, 1) := by decide +kernel
theorem dX9_heal_31 : decode cX9_heal 31 = .ok (.getfield 24, 3) := by decide +kernel
theorem dX9_heal_34 : decode cX9_heal 34 = .ok (.iload_n 3, 1) := by decide +kernel
theorem dX9_heal_35 : decode cX9_heal 35 = .ok (.iaload, 1) := by decide +kernel
theorem dX9_heal_36 : decode cX9_heal 36 = .ok (.ifCond .le 6, 3) := by decide +kernel
theorem dX9_heal_39 : decode cX9_heal 39 = .ok (.iinc 2 1, 3) := by decide +kernel
theorem dX9_heal_42 : decode cX9_heal 42 = .ok (.iinc 3 1, 3) := by decide +kernel
theorem dX9_heal_45 : decode cX9_heal 45 = .ok (.goto (-41), 3) := by decide +kernel
theorem dX9_heal_48 : decode cX9_heal 48 = .ok (.iload_n 2, 1) := by decide +kernel
theorem dX9_heal_49 : decode cX9_heal 49 = .ok (.ireturn, 1) := by decide +kernel
set_option maxRecDepth 20000 in
theorem ggX9_injureBeside_X9_placeOf : GoodIn wsX9_injureBeside wsX9_placeOf := goodIn_ca (goodIn_r _ [7, 1, 8, 9, 10, 6, 11, 12, 13, 14, 15, 16, 17, 18, 19, 20, 21, 22, 23] (by decide +kernel) (by decide +kernel)) (goodIn_sub (fun _ h => List.mem_cons_of_mem _ (List.mem_append_right _ h)) (by decide +kernel))
set_option maxRecDepth 20000 in
theorem gX9_injureBeside_X9_placeOf : GoodIn wsX9_injureBeside (wsV RX9 43 RX9 yX9_placeOf wsX9_placeOf) := goodIn_app (goodIn_of _ (by decide +kernel)) ggX9_injureBeside_X9_placeOf
set_option maxRecDepth 20000 in
theorem ggX9_injureBeside_X9_isMember : GoodIn wsX9_injureBeside wsX9_isMember := goodIn_r _ [11, 1, 18, 19, 20, 21, 22, 23] (by decide +kernel) (by decide +kernel)
set_option maxRecDepth 20000 in
theorem gX9_injureBeside_X9_isMember : GoodIn wsX9_injureBeside (wsV RX9 46 RX9 yX9_isMember wsX9_isMember) := goodIn_app (goodIn_of _ (by decide +kernel)) ggX9_injureBeside_X9_isMember
theorem dX9_injureBeside_0 : decode cX9_injureBeside 0 = .ok (.aload_n 0, 1) := by decide +kernel
theorem dX9_injureBeside_1 : decode cX9_injureBeside 1 = .ok (.iload_n 1, 1) := by decide +kernel
theorem dX9_injureBeside_2 : decode cX9_injureBeside 2 = .ok (.iload_n 2, 1) := by decide +kernel
theorem dX9_injureBeside_3 : decode cX9_injureBeside 3 = .ok (.invokevirtual 43, 3) := by decide +kernel
theorem dX9_injureBeside_6 : decode cX9_injureBeside 6 = .ok (.iload_n 3, 1) := by decide +kernel
theorem dX9_injureBeside_7 : decode cX9_injureBeside 7 = .ok (.iadd, 1) := by decide +kernel
theorem dX9_injureBeside_8 : decode cX9_injureBeside 8 = .ok (.istore 4, 2) := by decide +kernel
theorem dX9_injureBeside_10 : decode cX9_injureBeside 10 = .ok (.iconst 0, 1) := by decide +kernel
theorem dX9_injureBeside_11 : decode cX9_injureBeside 11 = .ok (.istore 5, 2) := by decide +kernel
theorem dX9_injureBeside_13 : decode cX9_injureBeside 13 = .ok (.iload 5, 2) := by decide +kernel
theorem dX9_injureBeside_15 : decode cX9_injureBeside 15 = .ok (.aload_n 0, 1) := by decide +kernel
theorem dX9_injureBeside_16 : decode cX9_injureBeside 16 = .ok (.getfield 27, 3) := by decide +kernel
theorem dX9_injureBeside_19 : decode cX9_injureBeside 19 = .ok (.if_icmp .ge 39, 3) := by decide +kernel
theorem dX9_injureBeside_22 : decode cX9_injureBeside 22 = .ok (.aload_n 0, 1) := by decide +kernel
theorem dX9_injureBeside_23 : decode cX9_injureBeside 23 = .ok (.iload_n 1, 1) := by decide +kernel
theorem dX9_injureBeside_24 : decode cX9_injureBeside 24 = .ok (.iload 5, 2) := by decide +kernel
theorem dX9_injureBeside_26 : decode cX9_injureBeside 26 = .ok (.invokevirtual 46, 3) := by decide +kernel
theorem dX9_injureBeside_29 : decode cX9_injureBeside 29 = .ok (.ifCond .eq 23, 3) := by decide +kernel
theorem dX9_injureBeside_32 : decode cX9_injureBeside 32 = .ok (.aload_n 0, 1) := by decide +kernel
theorem dX9_injureBeside_33 : decode cX9_injureBeside 33 = .ok (.iload_n 1, 1) := by decide +kernel
theorem dX9_injureBeside_34 : decode cX9_injureBeside 34 = .ok (.iload 5, 2) := by decide +kernel
theorem dX9_injureBeside_36 : decode cX9_injureBeside 36 = .ok (.invokevirtual 43, 3) := by decide +kernel
theorem dX9_injureBeside_39 : decode cX9_injureBeside 39 = .ok (.iload 4, 2) := by decide +kernel
theorem dX9_injureBeside_41 : decode cX9_injureBeside 41 = .ok (.if_icmp .le 11, 3) := by decide +kernel
theorem dX9_injureBeside_44 : decode cX9_injureBeside 44 = .ok (.aload_n 0, 1) := by decide +kernel
theorem dX9_injureBeside_45 : decode cX9_injureBeside 45 = .ok (.getfield 24, 3) := by decide +kernel
theorem dX9_injureBeside_48 : decode cX9_injureBeside 48 = .ok (.iload 5, 2) := by decide +kernel
theorem dX9_injureBeside_50 : decode cX9_injureBeside 50 = .ok (.iconst 3, 1) := by decide +kernel
theorem dX9_injureBeside_51 : decode cX9_injureBeside 51 = .ok (.iastore, 1) := by decide +kernel
theorem dX9_injureBeside_52 : decode cX9_injureBeside 52 = .ok (.iinc 5 1, 3) := by decide +kernel
theorem dX9_injureBeside_55 : decode cX9_injureBeside 55 = .ok (.goto (-42), 3) := by decide +kernel
theorem dX9_injureBeside_58 : decode cX9_injureBeside 58 = .ok (.return_, 1) := by decide +kernel
theorem dX9_isBelow_0 : decode cX9_isBelow 0 = .ok (.aload_n 0, 1) := by decide +kernel
theorem dX9_isBelow_1 : decode cX9_isBelow 1 = .ok (.getfield 9, 3) := by decide +kernel
theorem dX9_isBelow_4 : decode cX9_isBelow 4 = .ok (.iload_n 1, 1) := by decide +kernel
theorem dX9_isBelow_5 : decode cX9_isBelow 5 = .ok (.iaload, 1) := by decide +kernel
theorem dX9_isBelow_6 : decode cX9_isBelow 6 = .ok (.aload_n 0, 1) := by decide +kernel
theorem dX9_isBelow_7 : decode cX9_isBelow 7 = .ok (.getfield 15, 3) := by decide +kernel
theorem dX9_isBelow_10 : decode cX9_isBelow 10 = .ok (.iload_n 1, 1) := by decide +kernel
theorem dX9_isBelow_11 : decode cX9_isBelow 11 = .ok (.iaload, 1) := by decide +kernel
theorem dX9_isBelow_12 : decode cX9_isBelow 12 = .ok (.iadd, 1) := by decide +kernel
theorem dX9_isBelow_13 : decode cX9_isBelow 13 = .ok (.istore_n 3, 1) := by decide +kernel
theorem dX9_isBelow_14 : decode cX9_isBelow 14 = .ok (.aload_n 0, 1) := by decide +kernel
theorem dX9_isBelow_15 : decode cX9_isBelow 15 = .ok (.getfield 9, 3) := by decide +kernel
theorem dX9_isBelow_18 : decode cX9_isBelow 18 = .ok (.iload_n 2, 1) := by decide +kernel
theorem dX9_isBelow_19 : decode cX9_isBelow 19 = .ok (.iaload, 1) := by decide +kernel
theorem dX9_isBelow_20 : decode cX9_isBelow 20 = .ok (.aload_n 0, 1) := by decide +kernel
theorem dX9_isBelow_21 : decode cX9_isBelow 21 = .ok (.getfield 15, 3) := by decide +kernel
theorem dX9_isBelow_24 : decode cX9_isBelow 24 = .ok (.iload_n 2, 1) := by decide +kernel
theorem dX9_isBelow_25 : decode cX9_isBelow 25 = .ok (.iaload, 1) := by decide +kernel
theorem dX9_isBelow_26 : decode cX9_isBelow 26 = .ok (.iadd, 1) := by decide +kernel
theorem dX9_isBelow_27 : decode cX9_isBelow 27 = .ok (.istore 4, 2) := by decide +kernel
theorem dX9_isBelow_29 : decode cX9_isBelow 29 = .ok (.iload_n 3, 1) := by decide +kernel
theorem dX9_isBelow_30 : decode cX9_isBelow 30 = .ok (.iload 4, 2) := by decide +kernel
theorem dX9_isBelow_32 : decode cX9_isBelow 32 = .ok (.if_icmp .ne 16, 3) := by decide +kernel
theorem dX9_isBelow_35 : decode cX9_isBelow 35 = .ok (.iload_n 1, 1) := by decide +kernel
theorem dX9_isBelow_36 : decode cX9_isBelow 36 = .ok (.iload_n 2, 1) := by decide +kernel
theorem dX9_isBelow_37 : decode cX9_isBelow 37 = .ok (.if_icmp .ge 7, 3) := by decide +kernel
theorem dX9_isBelow_40 : decode cX9_isBelow 40 = .ok (.iconst 1, 1) := by decide +kernel
theorem dX9_isBelow_41 : decode cX9_isBelow 41 = .ok (.goto 18, 3) := by decide +kernel
theorem dX9_isBelow_44 : decode cX9_isBelow 44 = .ok (.iconst 0, 1) := by decide +kernel
theorem dX9_isBelow_45 : decode cX9_isBelow 45 = .ok (.goto 14, 3) := by decide +kernel
theorem dX9_isBelow_48 : decode cX9_isBelow 48 = .ok (.iload_n 3, 1) := by decide +kernel
theorem dX9_isBelow_49 : decode cX9_isBelow 49 = .ok (.iload 4, 2) := by decide +kernel
theorem dX9_isBelow_51 : decode cX9_isBelow 51 = .ok (.if_icmp .le 7, 3) := by decide +kernel
theorem dX9_isBelow_54 : decode cX9_isBelow 54 = .ok (.iconst 1, 1) := by decide +kernel
theorem dX9_isBelow_55 : decode cX9_isBelow 55 = .ok (.goto 4, 3) := by decide +kernel
theorem dX9_isBelow_58 : decode cX9_isBelow 58 = .ok (.iconst 0, 1) := by decide +kernel
theorem dX9_isBelow_59 : decode cX9_isBelow 59 = .ok (.ireturn, 1) := by decide +kernel
set_option maxRecDepth 20000 in
theorem ggX9_placeOf_X9_isMember : GoodIn wsX9_placeOf wsX9_isMember := goodIn_r _ [6, 1, 13, 14, 15, 16, 17, 18] (by decide +kernel) (by decide +kernel)
set_option maxRecDepth 20000 in
theorem gX9_placeOf_X9_isMember : GoodIn wsX9_placeOf (wsV RX9 46 RX9 yX9_isMember wsX9_isMember) := goodIn_app (goodIn_of _ (by decide +kernel)) ggX9_placeOf_X9_isMember
set_option maxRecDepth 20000 in
theorem ggX9_placeOf_X9_isBelow : GoodIn wsX9_placeOf wsX9_isBelow := goodIn_ca (goodIn_r _ [10, 11, 12, 13, 14, 15, 16, 17, 18] (by decide +kernel) (by decide +kernel)) (goodIn_sub (fun _ h => List.mem_cons_of_mem _ (List.mem_append_right _ h)) (by decide +kernel))
set_option maxRecDepth 20000 in
theorem gX9_placeOf_X9_isBelow : GoodIn wsX9_placeOf (wsV RX9 50 RX9 yX9_isBelow wsX9_isBelow) := goodIn_app (goodIn_of _ (by decide +kernel)) ggX9_placeOf_X9_isBelow
theorem dX9_placeOf_0 : decode cX9_placeOf 0 = .ok (.iconst 0, 1) := by decide +kernel
theorem dX9_placeOf_1 : decode cX9_placeOf 1 = .ok (.istore_n 3, 1) := by decide +kernel
theorem dX9_placeOf_2 : decode cX9_placeOf 2 = .ok (.iconst 0, 1) := by decide +kernel
theorem dX9_placeOf_3 : decode cX9_placeOf 3 = .ok (.istore 4, 2) := by decide +kernel
theorem dX9_placeOf_5 : decode cX9_placeOf 5 = .ok (.iload 4, 2) := by decide +kernel
theorem dX9_placeOf_7 : decode cX9_placeOf 7 = .ok (.aload_n 0, 1) := by decide +kernel
theorem dX9_placeOf_8 : decode cX9_placeOf 8 = .ok (.getfield 27, 3) := by decide +kernel
theorem dX9_placeOf_11 : decode cX9_placeOf 11 = .ok (.if_icmp .ge 32, 3) := by decide +kernel
theorem dX9_placeOf_14 : decode cX9_placeOf 14 = .ok (.aload_n 0, 1) := by decide +kernel
theorem dX9_placeOf_15 : decode cX9_placeOf 15 = .ok (.iload_n 1, 1) := by decide +kernel
theorem dX9_placeOf_16 : decode cX9_placeOf 16 = .ok (.iload 4, 2) := by decide +kernel
theorem dX9_placeOf_18 : decode cX9_placeOf 18 = .ok (.invokevirtual 46, 3) := by decide +kernel
theorem dX9_placeOf_21 : decode cX9_placeOf 21 = .ok (.ifCond .eq 16, 3) := by decide +kernel
theorem dX9_placeOf_24 : decode cX9_placeOf 24 = .ok (.aload_n 0, 1) := by decide +kernel
theorem dX9_placeOf_25 : decode cX9_placeOf 25 = .ok (.iload 4, 2) := by decide +kernel
theorem dX9_placeOf_27 : decode cX9_placeOf 27 = .ok (.iload_n 2, 1) := by decide +kernel
theorem dX9_placeOf_28 : decode cX9_placeOf 28 = .ok (.invokevirtual 50, 3) := by decide +kernel
theorem dX9_placeOf_31 : decode cX9_placeOf 31 = .ok (.ifCond .eq 6, 3) := by decide +kernel
theorem dX9_placeOf_34 : decode cX9_placeOf 34 = .ok (.iinc 3 1, 3) := by decide +kernel
theorem dX9_placeOf_37 : decode cX9_placeOf 37 = .ok (.iinc 4 1, 3) := by decide +kernel
theorem dX9_placeOf_40 : decode cX9_placeOf 40 = .ok (.goto (-35), 3) := by decide +kernel
theorem dX9_placeOf_43 : decode cX9_placeOf 43 = .ok (.iload_n 3, 1) := by decide +kernel
theorem dX9_placeOf_44 : decode cX9_placeOf 44 = .ok (.ireturn, 1) := by decide +kernel
set_option maxRecDepth 20000 in
theorem ggX9_memberAt_X9_isMember : GoodIn wsX9_memberAt wsX9_isMember := goodIn_r _ [6, 1, 17, 18, 19, 20, 21, 22] (by decide +kernel) (by decide +kernel)
set_option maxRecDepth 20000 in
theorem gX9_memberAt_X9_isMember : GoodIn wsX9_memberAt (wsV RX9 46 RX9 yX9_isMember wsX9_isMember) := goodIn_app (goodIn_of _ (by decide +kernel)) ggX9_memberAt_X9_isMember
set_option maxRecDepth 20000 in
theorem ggX9_memberAt_X9_placeOf : GoodIn wsX9_memberAt wsX9_placeOf := goodIn_ca (goodIn_r _ [10, 1, 2, 3, 4, 5, 6, 11, 12, 13, 14, 15, 16, 17, 18, 19, 20, 21, 22] (by decide +kernel) (by decide +kernel)) (goodIn_sub (fun _ h => List.mem_cons_of_mem _ (List.mem_append_right _ h)) (by decide +kernel))
set_option maxRecDepth 20000 in
theorem gX9_memberAt_X9_placeOf : GoodIn wsX9_memberAt (wsV RX9 43 RX9 yX9_placeOf wsX9_placeOf) := goodIn_app (goodIn_of _ (by decide +kernel)) ggX9_memberAt_X9_placeOf
theorem dX9_memberAt_0 : decode cX9_memberAt 0 = .ok (.iconst 0, 1) := by decide +kernel
theorem dX9_memberAt_1 : decode cX9_memberAt 1 = .ok (.istore_n 3, 1) := by decide +kernel
theorem dX9_memberAt_2 : decode cX9_memberAt 2 = .ok (.iload_n 3, 1) := by decide +kernel
theorem dX9_memberAt_3 : decode cX9_memberAt 3 = .ok (.aload_n 0, 1) := by decide +kernel
theorem dX9_memberAt_4 : decode cX9_memberAt 4 = .ok (.getfield 27, 3) := by decide +kernel
theorem dX9_memberAt_7 : decode cX9_memberAt 7 = .ok (.if_icmp .ge 30, 3) := by decide +kernel
theorem dX9_memberAt_10 : decode cX9_memberAt 10 = .ok (.aload_n 0, 1) := by decide +kernel
theorem dX9_memberAt_11 : decode cX9_memberAt 11 = .ok (.iload_n 1, 1) := by decide +kernel
theorem dX9_memberAt_12 : decode cX9_memberAt 12 = .ok (.iload_n 3, 1) := by decide +kernel
theorem dX9_memberAt_13 : decode cX9_memberAt 13 = .ok (.invokevirtual 46, 3) := by decide +kernel
theorem dX9_memberAt_16 : decode cX9_memberAt 16 = .ok (.ifCond .eq 15, 3) := by decide +kernel
theorem dX9_memberAt_19 : decode cX9_memberAt 19 = .ok (.aload_n 0, 1) := by decide +kernel
theorem dX9_memberAt_20 : decode cX9_memberAt 20 = .ok (.iload_n 1, 1) := by decide +kernel
theorem dX9_memberAt_21 : decode cX9_memberAt 21 = .ok (.iload_n 3, 1) := by decide +kernel
theorem dX9_memberAt_22 : decode cX9_memberAt 22 = .ok (.invokevirtual 43, 3) := by decide +kernel
theorem dX9_memberAt_25 : decode cX9_memberAt 25 = .ok (.iload_n 2, 1) := by decide +kernel
theorem dX9_memberAt_26 : decode cX9_memberAt 26 = .ok (.if_icmp .ne 5, 3) := by decide +kernel
theorem dX9_memberAt_29 : decode cX9_memberAt 29 = .ok (.iload_n 3, 1) := by decide +kernel
theorem dX9_memberAt_30 : decode cX9_memberAt 30 = .ok (.ireturn, 1) := by decide +kernel
theorem dX9_memberAt_31 : decode cX9_memberAt 31 = .ok (.iinc 3 1, 3) := by decide +kernel
theorem dX9_memberAt_34 : decode cX9_memberAt 34 = .ok (.goto (-32), 3) := by decide +kernel
theorem dX9_memberAt_37 : decode cX9_memberAt 37 = .ok (.iconst (-1), 1) := by decide +kernel
theorem dX9_memberAt_38 : decode cX9_memberAt 38 = .ok (.ireturn, 1) := by decide +kernel
set_option maxRecDepth 20000 in
theorem ggX9_loadOf_X9_isMember : GoodIn wsX9_loadOf wsX9_isMember := goodIn_r _ [7, 1, 13, 14, 15, 16, 17, 18] (by decide +kernel) (by decide +kernel)
set_option maxRecDepth 20000 in
theorem gX9_loadOf_X9_isMember : GoodIn wsX9_loadOf (wsV RX9 46 RX9 yX9_isMember wsX9_isMember) := goodIn_app (goodIn_of _ (by decide +kernel)) ggX9_loadOf_X9_isMember
set_option maxRecDepth 20000 in
theorem ggX9_loadOf_X9_isBelow : GoodIn wsX9_loadOf wsX9_isBelow := goodIn_ca (goodIn_r _ [11, 2, 12, 13, 14, 15, 16, 17, 18] (by decide +kernel) (by decide +kernel)) (goodIn_sub (fun _ h => List.mem_cons_of_mem _ (List.mem_append_right _ h)) (by decide +kernel))
set_option maxRecDepth 20000 in
theorem gX9_loadOf_X9_isBelow : GoodIn wsX9_loadOf (wsV RX9 50 RX9 yX9_isBelow wsX9_isBelow) := goodIn_app (goodIn_of _ (by decide +kernel)) ggX9_loadOf_X9_isBelow
theorem dX9_loadOf_0 : decode cX9_loadOf 0 = .ok (.iconst 0, 1) := by decide +kernel
theorem dX9_loadOf_1 : decode cX9_loadOf 1 = .ok (.istore_n 3, 1) := by decide +kernel
theorem dX9_loadOf_2 : decode cX9_loadOf 2 = .ok (.iconst 0, 1) := by decide +kernel
theorem dX9_loadOf_3 : decode cX9_loadOf 3 = .ok (.istore 4, 2) := by decide +kernel
theorem dX9_loadOf_5 : decode cX9_loadOf 5 = .ok (.iload 4, 2) := by decide +kernel
theorem dX9_loadOf_7 : decode cX9_loadOf 7 = .ok (.aload_n 0, 1) := by decide +kernel
theorem dX9_loadOf_8 : decode cX9_loadOf 8 = .ok (.getfield 27, 3) := by decide +kernel
theorem dX9_loadOf_11 : decode cX9_loadOf 11 = .ok (.if_icmp .ge 39, 3) := by decide +kernel
theorem dX9_loadOf_14 : decode cX9_loadOf 14 = .ok (.aload_n 0, 1) := by decide +kernel
theorem dX9_loadOf_15 : decode cX9_loadOf 15 = .ok (.iload_n 1, 1) := by decide +kernel
theorem dX9_loadOf_16 : decode cX9_loadOf 16 = .ok (.iload 4, 2) := by decide +kernel
theorem dX9_loadOf_18 : decode cX9_loadOf 18 = .ok (.invokevirtual 46, 3) := by decide +kernel
theorem dX9_loadOf_21 : decode cX9_loadOf 21 = .ok (.ifCond .eq 23, 3) := by decide +kernel
theorem dX9_loadOf_24 : decode cX9_loadOf 24 = .ok (.aload_n 0, 1) := by decide +kernel
theorem dX9_loadOf_25 : decode cX9_loadOf 25 = .ok (.iload_n 2, 1) := by decide +kernel
theorem dX9_loadOf_26 : decode cX9_loadOf 26 = .ok (.iload 4, 2) := by decide +kernel
theorem dX9_loadOf_28 : decode cX9_loadOf 28 = .ok (.invokevirtual 50, 3) := by decide +kernel
theorem dX9_loadOf_31 : decode cX9_loadOf 31 = .ok (.ifCond .eq 13, 3) := by decide +kernel
theorem dX9_loadOf_34 : decode cX9_loadOf 34 = .ok (.iload_n 3, 1) := by decide +kernel
theorem dX9_loadOf_35 : decode cX9_loadOf 35 = .ok (.aload_n 0, 1) := by decide +kernel
theorem dX9_loadOf_36 : decode cX9_loadOf 36 = .ok (.getfield 9, 3) := by decide +kernel
theorem dX9_loadOf_39 : decode cX9_loadOf 39 = .ok (.iload 4, 2) := by decide +kernel
theorem dX9_loadOf_41 : decode cX9_loadOf 41 = .ok (.iaload, 1) := by decide +kernel
theorem dX9_loadOf_42 : decode cX9_loadOf 42 = .ok (.iadd, 1) := by decide +kernel
theorem dX9_loadOf_43 : decode cX9_loadOf 43 = .ok (.istore_n 3, 1) := by decide +kernel
theorem dX9_loadOf_44 : decode cX9_loadOf 44 = .ok (.iinc 4 1, 3) := by decide +kernel
theorem dX9_loadOf_47 : decode cX9_loadOf 47 = .ok (.goto (-42), 3) := by decide +kernel
theorem dX9_loadOf_50 : decode cX9_loadOf 50 = .ok (.iload_n 3, 1) := by decide +kernel
theorem dX9_loadOf_51 : decode cX9_loadOf 51 = .ok (.ireturn, 1) := by decide +kernel
set_option maxRecDepth 20000 in
theorem ggX9_heightOf_X9_isMember : GoodIn wsX9_heightOf wsX9_isMember := goodIn_r _ [7, 1, 8, 9, 10, 11, 12, 13] (by decide +kernel) (by decide +kernel)
set_option maxRecDepth 20000 in
theorem gX9_heightOf_X9_isMember : GoodIn wsX9_heightOf (wsV RX9 46 RX9 yX9_isMember wsX9_isMember) := goodIn_app (goodIn_of _ (by decide +kernel)) ggX9_heightOf_X9_isMember
theorem dX9_heightOf_0 : decode cX9_heightOf 0 = .ok (.iconst 0, 1) := by decide +kernel
theorem dX9_heightOf_1 : decode cX9_heightOf 1 = .ok (.istore_n 2, 1) := by decide +kernel
theorem dX9_heightOf_2 : decode cX9_heightOf 2 = .ok (.iconst 0, 1) := by decide +kernel
theorem dX9_heightOf_3 : decode cX9_heightOf 3 = .ok (.istore_n 3, 1) := by decide +kernel
theorem dX9_heightOf_4 : decode cX9_heightOf 4 = .ok (.iload_n 3, 1) := by decide +kernel
theorem dX9_heightOf_5 : decode cX9_heightOf 5 = .ok (.aload_n 0, 1) := by decide +kernel
theorem dX9_heightOf_6 : decode cX9_heightOf 6 = .ok (.getfield 27, 3) := by decide +kernel
theorem dX9_heightOf_9 : decode cX9_heightOf 9 = .ok (.if_icmp .ge 27, 3) := by decide +kernel
theorem dX9_heightOf_12 : decode cX9_heightOf 12 = .ok (.aload_n 0, 1) := by decide +kernel
theorem dX9_heightOf_13 : decode cX9_heightOf 13 = .ok (.iload_n 1, 1) := by decide +kernel
theorem dX9_heightOf_14 : decode cX9_heightOf 14 = .ok (.iload_n 3, 1) := by decide +kernel
theorem dX9_heightOf_15 : decode cX9_heightOf 15 = .ok (.invokevirtual 46, 3) := by decide +kernel
theorem dX9_heightOf_18 : decode cX9_heightOf 18 = .ok (.ifCond .eq 12, 3) := by decide +kernel
theorem dX9_heightOf_21 : decode cX9_heightOf 21 = .ok (.iload_n 2, 1) := by decide +kernel
theorem dX9_heightOf_22 : decode cX9_heightOf 22 = .ok (.aload_n 0, 1) := by decide +kernel
theorem dX9_heightOf_23 : decode cX9_heightOf 23 = .ok (.getfield 18, 3) := by decide +kernel
theorem dX9_heightOf_26 : decode cX9_heightOf 26 = .ok (.iload_n 3, 1) := by decide +kernel
theorem dX9_heightOf_27 : decode cX9_heightOf 27 = .ok (.iaload, 1) := by decide +kernel
theorem dX9_heightOf_28 : decode cX9_heightOf 28 = .ok (.iadd, 1) := by decide +kernel
theorem dX9_heightOf_29 : decode cX9_heightOf 29 = .ok (.istore_n 2, 1) := by decide +kernel
theorem dX9_heightOf_30 : decode cX9_heightOf 30 = .ok (.iinc 3 1, 3) := by decide +kernel
theorem dX9_heightOf_33 : decode cX9_heightOf 33 = .ok (.goto (-29), 3) := by decide +kernel
theorem dX9_heightOf_36 : decode cX9_heightOf 36 = .ok (.iload_n 2, 1) := by decide +kernel
theorem dX9_heightOf_37 : decode cX9_heightOf 37 = .ok (.ireturn, 1) := by decide +kernel
set_option maxRecDepth 20000 in
theorem ggX9_overloadedOf_X9_isMember : GoodIn wsX9_overloadedOf wsX9_isMember := goodIn_r _ [7, 1, 17, 18, 19, 20, 21, 22] (by decide +kernel) (by decide +kernel)
set_option maxRecDepth 20000 in
theorem gX9_overloadedOf_X9_isMember : GoodIn wsX9_overloadedOf (wsV RX9 46 RX9 yX9_isMember wsX9_isMember) := goodIn_app (goodIn_of _ (by decide +kernel)) ggX9_overloadedOf_X9_isMember
set_option maxRecDepth 20000 in
theorem ggX9_overloadedOf_X9_loadOf : GoodIn wsX9_overloadedOf wsX9_loadOf := goodIn_ca (goodIn_r _ [11, 1, 12, 3, 4, 5, 6, 7, 13, 14, 15, 16, 2, 17, 18, 19, 20, 21, 22] (by decide +kernel) (by decide +kernel)) (goodIn_sub (fun _ h => List.mem_cons_of_mem _ (List.mem_append_right _ h)) (by decide +kernel))
set_option maxRecDepth 20000 in
theorem gX9_overloadedOf_X9_loadOf : GoodIn wsX9_overloadedOf (wsV RX9 53 RX9 yX9_loadOf wsX9_loadOf) := goodIn_app (goodIn_of _ (by decide +kernel)) ggX9_overloadedOf_X9_loadOf
set_option maxRecDepth 20000 in
theorem ggX9_overloadedOf_X9_isBelow : GoodIn wsX9_overloadedOf wsX9_isBelow := goodIn_ca (goodIn_r _ [16, 12, 2, 17, 18, 19, 20, 21, 22] (by decide +kernel) (by decide +kernel)) (goodIn_sub (fun _ h => List.mem_cons_of_mem _ (List.mem_append_right _ h)) (by decide +kernel))
set_option maxRecDepth 20000 in
theorem gX9_overloadedOf_X9_isBelow : GoodIn wsX9_overloadedOf (wsV RX9 50 RX9 yX9_isBelow wsX9_isBelow) := goodIn_app (goodIn_of _ (by decide +kernel)) ggX9_overloadedOf_X9_isBelow
theorem dX9_overloadedOf_0 : decode cX9_overloadedOf 0 = .ok (.iconst (-1), 1) := by decide +kernel
theorem dX9_overloadedOf_1 : decode cX9_overloadedOf 1 = .ok (.istore_n 2, 1) := by decide +kernel
theorem dX9_overloadedOf_2 : decode cX9_overloadedOf 2 = .ok (.iconst 0, 1) := by decide +kernel
theorem dX9_overloadedOf_3 : decode cX9_overloadedOf 3 = .ok (.istore_n 3, 1) := by decide +kernel
theorem dX9_overloadedOf_4 : decode cX9_overloadedOf 4 = .ok (.iload_n 3, 1) := by decide +kernel
theorem dX9_overloadedOf_5 : decode cX9_overloadedOf 5 = .ok (.aload_n 0, 1) := by decide +kernel
theorem dX9_overloadedOf_6 : decode cX9_overloadedOf 6 = .ok (.getfield 27, 3) := by decide +kernel
theorem dX9_overloadedOf_9 : decode cX9_overloadedOf 9 = .ok (.if_icmp .ge 49, 3) := by decide +kernel
theorem dX9_overloadedOf_12 : decode cX9_overloadedOf 12 = .ok (.aload_n 0, 1) := by decide +kernel
theorem dX9_overloadedOf_13 : decode cX9_overloadedOf 13 = .ok (.iload_n 1, 1) := by decide +kernel
theorem dX9_overloadedOf_14 : decode cX9_overloadedOf 14 = .ok (.iload_n 3, 1) := by decide +kernel
theorem dX9_overloadedOf_15 : decode cX9_overloadedOf 15 = .ok (.invokevirtual 46, 3) := by decide +kernel
theorem dX9_overloadedOf_18 : decode cX9_overloadedOf 18 = .ok (.ifCond .eq 34, 3) := by decide +kernel
theorem dX9_overloadedOf_21 : decode cX9_overloadedOf 21 = .ok (.aload_n 0, 1) := by decide +kernel
theorem dX9_overloadedOf_22 : decode cX9_overloadedOf 22 = .ok (.iload_n 1, 1) := by decide +kernel
theorem dX9_overloadedOf_23 : decode cX9_overloadedOf 23 = .ok (.iload_n 3, 1) := by decide +kernel
theorem dX9_overloadedOf_24 : decode cX9_overloadedOf 24 = .ok (.invokevirtual 53, 3) := by decide +kernel
theorem dX9_overloadedOf_27 : decode cX9_overloadedOf 27 = .ok (.aload_n 0, 1) := by decide +kernel
theorem dX9_overloadedOf_28 : decode cX9_overloadedOf 28 = .ok (.getfield 15, 3) := by decide +kernel
theorem dX9_overloadedOf_31 : decode cX9_overloadedOf 31 = .ok (.iload_n 3, 1) := by decide +kernel
theorem dX9_overloadedOf_32 : decode cX9_overloadedOf 32 = .ok (.iaload, 1) := by decide +kernel
theorem dX9_overloadedOf_33 : decode cX9_overloadedOf 33 = .ok (.if_icmp .le 19, 3) := by decide +kernel
theorem dX9_overloadedOf_36 : decode cX9_overloadedOf 36 = .ok (.iload_n 2, 1) := by decide +kernel
theorem dX9_overloadedOf_37 : decode cX9_overloadedOf 37 = .ok (.iconst (-1), 1) := by decide +kernel
theorem dX9_overloadedOf_38 : decode cX9_overloadedOf 38 = .ok (.if_icmp .eq 12, 3) := by decide +kernel
theorem dX9_overloadedOf_41 : decode cX9_overloadedOf 41 = .ok (.aload_n 0, 1) := by decide +kernel
theorem dX9_overloadedOf_42 : decode cX9_overloadedOf 42 = .ok (.iload_n 3, 1) := by decide +kernel
theorem dX9_overloadedOf_43 : decode cX9_overloadedOf 43 = .ok (.iload_n 2, 1) := by decide +kernel
theorem dX9_overloadedOf_44 : decode cX9_overloadedOf 44 = .ok (.invokevirtual 50, 3) := by decide +kernel
theorem dX9_overloadedOf_47 : decode cX9_overloadedOf 47 = .ok (.ifCond .eq 5, 3) := by decide +kernel
theorem dX9_overloadedOf_50 : decode cX9_overloadedOf 50 = .ok (.iload_n 3, 1) := by decide +kernel
theorem dX9_overloadedOf_51 : decode cX9_overloadedOf 51 = .ok (.istore_n 2, 1) := by decide +kernel
theorem dX9_overloadedOf_52 : decode cX9_overloadedOf 52 = .ok (.iinc 3 1, 3) := by decide +kernel
theorem dX9_overloadedOf_55 : decode cX9_overloadedOf 55 = .ok (.goto (-51), 3) := by decide +kernel
theorem dX9_overloadedOf_58 : decode cX9_overloadedOf 58 = .ok (.iload_n 2, 1) := by decide +kernel
theorem dX9_overloadedOf_59 : decode cX9_overloadedOf 59 = .ok (.ireturn, 1) := by decide +kernel
set_option maxRecDepth 20000 in
theorem ggX9_countAbove_J6_bitCount_0f7a4 : GoodIn wsX9_countAbove wsJ6_bitCount_0f7a4 := goodIn_r _ [4, 5, 6, 7] (by decide +kernel) (by decide +kernel)
set_option maxRecDepth 20000 in
theorem gX9_countAbove_J6_bitCount_0f7a4 : GoodIn wsX9_countAbove (va_wsS RX9 56 yJ6_bitCount_0f7a4 wsJ6_bitCount_0f7a4) := goodIn_app (goodIn_of _ (by decide +kernel)) ggX9_countAbove_J6_bitCount_0f7a4
set_option maxRecDepth 20000 in
theorem ggX9_countAbove_X9_placeOf : GoodIn wsX9_countAbove wsX9_placeOf := goodIn_ca (goodIn_r _ [12, 13, 14, 15, 16, 11, 17, 18, 19, 20, 21, 22, 23, 24, 25, 26, 27, 28, 29] (by decide +kernel) (by decide +kernel)) (goodIn_sub (fun _ h => List.mem_cons_of_mem _ (List.mem_append_right _ h)) (by decide +kernel))
set_option maxRecDepth 20000 in
theorem gX9_countAbove_X9_placeOf : GoodIn wsX9_countAbove (wsV RX9 43 RX9 yX9_placeOf wsX9_placeOf) := goodIn_app (goodIn_of _ (by decide +kernel)) ggX9_countAbove_X9_placeOf
theorem dX9_countAbove_0 : decode cX9_countAbove 0 = .ok (.iload_n 1, 1) := by decide +kernel
theorem dX9_countAbove_1 : decode cX9_countAbove 1 = .ok (.invokestatic 56, 3) := by decide +kernel
theorem dX9_countAbove_4 : decode cX9_countAbove 4 = .ok (.iconst 1, 1) := by decide +kernel
theorem dX9_countAbove_5 : decode cX9_countAbove 5 = .ok (.isub, 1) := by decide +kernel
theorem dX9_countAbove_6 : decode cX9_countAbove 6 = .ok (.aload_n 0, 1) := by decide +kernel
theorem dX9_countAbove_7 : decode cX9_countAbove 7 = .ok (.iload_n 1, 1) := by decide +kernel
theorem dX9_countAbove_8 : decode cX9_countAbove 8 = .ok (.iload_n 2, 1) := by decide +kernel
theorem dX9_countAbove_9 : decode cX9_countAbove 9 = .ok (.invokevirtual 43, 3) := by decide +kernel
theorem dX9_countAbove_12 : decode cX9_countAbove 12 = .ok (.isub, 1) := by decide +kernel
theorem dX9_countAbove_13 : decode cX9_countAbove 13 = .ok (.ireturn, 1) := by decide +kernel
set_option maxRecDepth 20000 in
theorem ggX9_damagesOf_X9_overloadedOf : GoodIn wsX9_damagesOf wsX9_overloadedOf := goodIn_ca (goodIn_r _ [5, 6, 7, 8, 9, 10, 4, 11, 12, 13, 14, 15, 16, 17, 18, 19, 20, 36, 37, 38, 39, 40, 41] (by decide +kernel) (by decide +kernel)) (goodIn_sub (fun _ h => List.mem_cons_of_mem _ (List.mem_append_right _ h)) (by decide +kernel))
set_option maxRecDepth 20000 in
theorem gX9_damagesOf_X9_overloadedOf : GoodIn wsX9_damagesOf (wsV RX9 62 RX9 yX9_overloadedOf wsX9_overloadedOf) := goodIn_app (goodIn_of _ (by decide +kernel)) ggX9_damagesOf_X9_overloadedOf
set_option maxRecDepth 20000 in
theorem ggX9_damagesOf_X9_countAbove : GoodIn wsX9_damagesOf wsX9_countAbove := goodIn_ca (goodIn_r _ [24, 25, 26, 27, 28, 29, 30, 31, 32, 33, 34, 4, 35, 6, 8, 9, 10, 11, 17, 18, 19, 20, 16, 7, 36, 37, 38, 39, 40, 41] (by decide +kernel) (by decide +kernel)) (goodIn_sub (fun _ h => List.mem_cons_of_mem _ (List.mem_append_right _ h)) (by decide +kernel))
set_option maxRecDepth 20000 in
theorem gX9_damagesOf_X9_countAbove : GoodIn wsX9_damagesOf (wsV RX9 65 RX9 yX9_countAbove wsX9_countAbove) := goodIn_app (goodIn_of _ (by decide +kernel)) ggX9_damagesOf_X9_countAbove
theorem dX9_damagesOf_0 : decode cX9_damagesOf 0 = .ok (.aload_n 0, 1) := by decide +kernel
theorem dX9_damagesOf_1 : decode cX9_damagesOf 1 = .ok (.iload_n 1, 1) := by decide +kernel
theorem dX9_damagesOf_2 : decode cX9_damagesOf 2 = .ok (.invokevirtual 62, 3) := by decide +kernel
theorem dX9_damagesOf_5 : decode cX9_damagesOf 5 = .ok (.istore_n 2, 1) := by decide +kernel
theorem dX9_damagesOf_6 : decode cX9_damagesOf 6 = .ok (.iload_n 2, 1) := by decide +kernel
theorem dX9_damagesOf_7 : decode cX9_damagesOf 7 = .ok (.iconst (-1), 1) := by decide +kernel
theorem dX9_damagesOf_8 : decode cX9_damagesOf 8 = .ok (.if_icmp .ne 7, 3) := by decide +kernel
theorem dX9_damagesOf_11 : decode cX9_damagesOf 11 = .ok (.iconst 0, 1) := by decide +kernel
theorem dX9_damagesOf_12 : decode cX9_damagesOf 12 = .ok (.goto 12, 3) := by decide +kernel
theorem dX9_damagesOf_15 : decode cX9_damagesOf 15 = .ok (.bipush 10, 2) := by decide +kernel
theorem dX9_damagesOf_17 : decode cX9_damagesOf 17 = .ok (.aload_n 0, 1) := by decide +kernel
theorem dX9_damagesOf_18 : decode cX9_damagesOf 18 = .ok (.iload_n 1, 1) := by decide +kernel
theorem dX9_damagesOf_19 : decode cX9_damagesOf 19 = .ok (.iload_n 2, 1) := by decide +kernel
theorem dX9_damagesOf_20 : decode cX9_damagesOf 20 = .ok (.invokevirtual 65, 3) := by decide +kernel
theorem dX9_damagesOf_23 : decode cX9_damagesOf 23 = .ok (.imul, 1) := by decide +kernel
theorem dX9_damagesOf_24 : decode cX9_damagesOf 24 = .ok (.ireturn, 1) := by decide +kernel
set_option maxRecDepth 20000 in
theorem ggX9_safetyOf_X9_isMember : GoodIn wsX9_safetyOf wsX9_isMember := goodIn_r _ [7, 1, 17, 18, 19, 20, 21, 22] (by decide +kernel) (by decide +kernel)
set_option maxRecDepth 20000 in
theorem gX9_safetyOf_X9_isMember : GoodIn wsX9_safetyOf (wsV RX9 46 RX9 yX9_isMember wsX9_isMember) := goodIn_app (goodIn_of _ (by decide +kernel)) ggX9_safetyOf_X9_isMember
set_option maxRecDepth 20000 in
theorem ggX9_safetyOf_X9_loadOf : GoodIn wsX9_safetyOf wsX9_loadOf := goodIn_ca (goodIn_r _ [11, 1, 12, 3, 4, 5, 6, 7, 13, 14, 15, 16, 2, 17, 18, 19, 20, 21, 22] (by decide +kernel) (by decide +kernel)) (goodIn_sub (fun _ h => List.mem_cons_of_mem _ (List.mem_append_right _ h)) (by decide +kernel))
set_option maxRecDepth 20000 in
theorem gX9_safetyOf_X9_loadOf : GoodIn wsX9_safetyOf (wsV RX9 53 RX9 yX9_loadOf wsX9_loadOf) := goodIn_app (goodIn_of _ (by decide +kernel)) ggX9_safetyOf_X9_loadOf
theorem dX9_safetyOf_0 : decode cX9_safetyOf 0 = .ok (.fconst 0, 1) := by decide +kernel
theorem dX9_safetyOf_1 : decode cX9_safetyOf 1 = .ok (.fstore_n 2, 1) := by decide +kernel
theorem dX9_safetyOf_2 : decode cX9_safetyOf 2 = .ok (.iconst 0, 1) := by decide +kernel
theorem dX9_safetyOf_3 : decode cX9_safetyOf 3 = .ok (.istore_n 3, 1) := by decide +kernel
theorem dX9_safetyOf_4 : decode cX9_safetyOf 4 = .ok (.iconst 0, 1) := by decide +kernel
theorem dX9_safetyOf_5 : decode cX9_safetyOf 5 = .ok (.istore 4, 2) := by decide +kernel
theorem dX9_safetyOf_7 : decode cX9_safetyOf 7 = .ok (.iload 4, 2) := by decide +kernel
theorem dX9_safetyOf_9 : decode cX9_safetyOf 9 = .ok (.aload_n 0, 1) := by decide +kernel
theorem dX9_safetyOf_10 : decode cX9_safetyOf 10 = .ok (.getfield 27, 3) := by decide +kernel
theorem dX9_safetyOf_13 : decode cX9_safetyOf 13 = .ok (.if_icmp .ge 71, 3) := by decide +kernel
theorem dX9_safetyOf_16 : decode cX9_safetyOf 16 = .ok (.aload_n 0, 1) := by decide +kernel
theorem dX9_safetyOf_17 : decode cX9_safetyOf 17 = .ok (.iload_n 1, 1) := by decide +kernel
theorem dX9_safetyOf_18 : decode cX9_safetyOf 18 = .ok (.iload 4, 2) := by decide +kernel
theorem dX9_safetyOf_20 : decode cX9_safetyOf 20 = .ok (.invokevirtual 46, 3) := by decide +kernel
theorem dX9_safetyOf_23 : decode cX9_safetyOf 23 = .ok (.ifCond .eq 13, 3) := by decide +kernel
theorem dX9_safetyOf_26 : decode cX9_safetyOf 26 = .ok (.aload_n 0, 1) := by decide +kernel
theorem dX9_safetyOf_27 : decode cX9_safetyOf 27 = .ok (.iload_n 1, 1) := by decide +kernel
theorem dX9_safetyOf_28 : decode cX9_safetyOf 28 = .ok (.iload 4, 2) := by decide +kernel
theorem dX9_safetyOf_30 : decode cX9_safetyOf 30 = .ok (.invokevirtual 53, 3) := by decide +kernel
theorem dX9_safetyOf_33 : decode cX9_safetyOf 33 = .ok (.goto 4, 3) := by decide +kernel
theorem dX9_safetyOf_36 : decode cX9_safetyOf 36 = .ok (.iconst 0, 1) := by decide +kernel
theorem dX9_safetyOf_37 : decode cX9_safetyOf 37 = .ok (.istore 5, 2) := by decide +kernel
theorem dX9_safetyOf_39 : decode cX9_safetyOf 39 = .ok (.iload 5, 2) := by decide +kernel
theorem dX9_safetyOf_41 : decode cX9_safetyOf 41 = .ok (.ifCond .eq 37, 3) := by decide +kernel
theorem dX9_safetyOf_44 : decode cX9_safetyOf 44 = .ok (.aload_n 0, 1) := by decide +kernel
theorem dX9_safetyOf_45 : decode cX9_safetyOf 45 = .ok (.getfield 15, 3) := by decide +kernel
theorem dX9_safetyOf_48 : decode cX9_safetyOf 48 = .ok (.iload 4, 2) := by decide +kernel
theorem dX9_safetyOf_50 : decode cX9_safetyOf 50 = .ok (.iaload, 1) := by decide +kernel
theorem dX9_safetyOf_51 : decode cX9_safetyOf 51 = .ok (.i2f, 1) := by decide +kernel
theorem dX9_safetyOf_52 : decode cX9_safetyOf 52 = .ok (.iload 5, 2) := by decide +kernel
theorem dX9_safetyOf_54 : decode cX9_safetyOf 54 = .ok (.i2f, 1) := by decide +kernel
theorem dX9_safetyOf_55 : decode cX9_safetyOf 55 = .ok (.fdiv, 1) := by decide +kernel
theorem dX9_safetyOf_56 : decode cX9_safetyOf 56 = .ok (.fstore 6, 2) := by decide +kernel
theorem dX9_safetyOf_58 : decode cX9_safetyOf 58 = .ok (.iload_n 3, 1) := by decide +kernel
theorem dX9_safetyOf_59 : decode cX9_safetyOf 59 = .ok (.ifCond .eq 14, 3) := by decide +kernel
theorem dX9_safetyOf_62 : decode cX9_safetyOf 62 = .ok (.fload_n 2, 1) := by decide +kernel
theorem dX9_safetyOf_63 : decode cX9_safetyOf 63 = .ok (.fload 6, 2) := by decide +kernel
theorem dX9_safetyOf_65 : decode cX9_safetyOf 65 = .ok (.fcmp .g, 1) := by decide +kernel
theorem dX9_safetyOf_66 : decode cX9_safetyOf 66 = .ok (.ifCond .gt 7, 3) := by decide +kernel
theorem dX9_safetyOf_69 : decode cX9_safetyOf 69 = .ok (.fload_n 2, 1) := by decide +kernel
theorem dX9_safetyOf_70 : decode cX9_safetyOf 70 = .ok (.goto 5, 3) := by decide +kernel
theorem dX9_safetyOf_73 : decode cX9_safetyOf 73 = .ok (.fload 6, 2) := by decide +kernel
theorem dX9_safetyOf_75 : decode cX9_safetyOf 75 = .ok (.fstore_n 2, 1) := by decide +kernel
theorem dX9_safetyOf_76 : decode cX9_safetyOf 76 = .ok (.iconst 1, 1) := by decide +kernel
theorem dX9_safetyOf_77 : decode cX9_safetyOf 77 = .ok (.istore_n 3, 1) := by decide +kernel
theorem dX9_safetyOf_78 : decode cX9_safetyOf 78 = .ok (.iinc 4 1, 3) := by decide +kernel
theorem dX9_safetyOf_81 : decode cX9_safetyOf 81 = .ok (.goto (-74), 3) := by decide +kernel
theorem dX9_safetyOf_84 : decode cX9_safetyOf 84 = .ok (.fload_n 2, 1) := by decide +kernel
theorem dX9_safetyOf_85 : decode cX9_safetyOf 85 = .ok (.freturn, 1) := by decide +kernel
set_option maxRecDepth 20000 in
theorem ggX9_highestSet_X9_fitSet : GoodIn wsX9_highestSet wsX9_fitSet := goodIn_ca (goodIn_r _ [6, 1, 7, 31, 32, 33, 34, 35, 36] (by decide +kernel) (by decide +kernel)) (goodIn_sub (fun _ h => List.mem_cons_of_mem _ (List.mem_append_right _ h)) (by decide +kernel))
set_option maxRecDepth 20000 in
theorem gX9_highestSet_X9_fitSet : GoodIn wsX9_highestSet (wsV RX9 68 RX9 yX9_fitSet wsX9_fitSet) := goodIn_app (goodIn_of _ (by decide +kernel)) ggX9_highestSet_X9_fitSet
set_option maxRecDepth 20000 in
theorem ggX9_highestSet_X9_heightOf : GoodIn wsX9_highestSet wsX9_heightOf := goodIn_ca (goodIn_r _ [11, 1, 12, 13, 14, 15, 5, 16, 31, 32, 33, 34, 35, 36] (by decide +kernel) (by decide +kernel)) (goodIn_sub (fun _ h => List.mem_cons_of_mem _ (List.mem_append_right _ h)) (by decide +kernel))
set_option maxRecDepth 20000 in
theorem gX9_highestSet_X9_heightOf : GoodIn wsX9_highestSet (wsV RX9 72 RX9 yX9_heightOf wsX9_heightOf) := goodIn_app (goodIn_of _ (by decide +kernel)) ggX9_highestSet_X9_heightOf
set_option maxRecDepth 20000 in
theorem ggX9_highestSet_X9_overloadedOf : GoodIn wsX9_highestSet wsX9_overloadedOf := goodIn_ca (goodIn_r _ [20, 1, 21, 13, 14, 15, 5, 16, 22, 23, 24, 25, 26, 27, 28, 29, 30, 31, 32, 33, 34, 35, 36] (by decide +kernel) (by decide +kernel)) (goodIn_sub (fun _ h => List.mem_cons_of_mem _ (List.mem_append_right _ h)) (by decide +kernel))
set_option maxRecDepth 20000 in
theorem gX9_highestSet_X9_overloadedOf : GoodIn wsX9_highestSet (wsV RX9 62 RX9 yX9_overloadedOf wsX9_overloadedOf) := goodIn_app (goodIn_of _ (by decide +kernel)) ggX9_highestSet_X9_overloadedOf
theorem dX9_highestSet_0 : decode cX9_highestSet 0 = .ok (.aload_n 0, 1) := by decide +kernel
theorem dX9_highestSet_1 : decode cX9_highestSet 1 = .ok (.invokevirtual 68, 3) := by decide +kernel
theorem dX9_highestSet_4 : decode cX9_highestSet 4 = .ok (.istore_n 1, 1) := by decide +kernel
theorem dX9_highestSet_5 : decode cX9_highestSet 5 = .ok (.iconst 0, 1) := by decide +kernel
theorem dX9_highestSet_6 : decode cX9_highestSet 6 = .ok (.istore_n 2, 1) := by decide +kernel
theorem dX9_highestSet_7 : decode cX9_highestSet 7 = .ok (.iconst 1, 1) := by decide +kernel
theorem dX9_highestSet_8 : decode cX9_highestSet 8 = .ok (.istore_n 3, 1) := by decide +kernel
theorem dX9_highestSet_9 : decode cX9_highestSet 9 = .ok (.iload_n 3, 1) := by decide +kernel
theorem dX9_highestSet_10 : decode cX9_highestSet 10 = .ok (.iconst 1, 1) := by decide +kernel
theorem dX9_highestSet_11 : decode cX9_highestSet 11 = .ok (.aload_n 0, 1) := by decide +kernel
theorem dX9_highestSet_12 : decode cX9_highestSet 12 = .ok (.getfield 27, 3) := by decide +kernel
theorem dX9_highestSet_15 : decode cX9_highestSet 15 = .ok (.ishl, 1) := by decide +kernel
theorem dX9_highestSet_16 : decode cX9_highestSet 16 = .ok (.if_icmp .ge 40, 3) := by decide +kernel
theorem dX9_highestSet_19 : decode cX9_highestSet 19 = .ok (.iload_n 3, 1) := by decide +kernel
theorem dX9_highestSet_20 : decode cX9_highestSet 20 = .ok (.iload_n 1, 1) := by decide +kernel
theorem dX9_highestSet_21 : decode cX9_highestSet 21 = .ok (.iand, 1) := by decide +kernel
theorem dX9_highestSet_22 : decode cX9_highestSet 22 = .ok (.iload_n 3, 1) := by decide +kernel
theorem dX9_highestSet_23 : decode cX9_highestSet 23 = .ok (.if_icmp .ne 27, 3) := by decide +kernel
theorem dX9_highestSet_26 : decode cX9_highestSet 26 = .ok (.aload_n 0, 1) := by decide +kernel
theorem dX9_highestSet_27 : decode cX9_highestSet 27 = .ok (.iload_n 3, 1) := by decide +kernel
theorem dX9_highestSet_28 : decode cX9_highestSet 28 = .ok (.invokevirtual 72, 3) := by decide +kernel
theorem dX9_highestSet_31 : decode cX9_highestSet 31 = .ok (.aload_n 0, 1) := by decide +kernel
theorem dX9_highestSet_32 : decode cX9_highestSet 32 = .ok (.iload_n 2, 1) := by decide +kernel
theorem dX9_highestSet_33 : decode cX9_highestSet 33 = .ok (.invokevirtual 72, 3) := by decide +kernel
theorem dX9_highestSet_36 : decode cX9_highestSet 36 = .ok (.if_icmp .le 14, 3) := by decide +kernel
theorem dX9_highestSet_39 : decode cX9_highestSet 39 = .ok (.aload_n 0, 1) := by decide +kernel
theorem dX9_highestSet_40 : decode cX9_highestSet 40 = .ok (.iload_n 3, 1) := by decide +kernel
theorem dX9_highestSet_41 : decode cX9_highestSet 41 = .ok (.invokevirtual 62, 3) := by decide +kernel
theorem dX9_highestSet_44 : decode cX9_highestSet 44 = .ok (.iconst (-1), 1) := by decide +kernel
theorem dX9_highestSet_45 : decode cX9_highestSet 45 = .ok (.if_icmp .ne 5, 3) := by decide +kernel
theorem dX9_highestSet_48 : decode cX9_highestSet 48 = .ok (.iload_n 3, 1) := by decide +kernel
theorem dX9_highestSet_49 : decode cX9_highestSet 49 = .ok (.istore_n 2, 1) := by decide +kernel
theorem dX9_highestSet_50 : decode cX9_highestSet 50 = .ok (.iinc 3 1, 3) := by decide +kernel
theorem dX9_highestSet_53 : decode cX9_highestSet 53 = .ok (.goto (-44), 3) := by decide +kernel
theorem dX9_highestSet_56 : decode cX9_highestSet 56 = .ok (.iload_n 2, 1) := by decide +kernel
theorem dX9_highestSet_57 : decode cX9_highestSet 57 = .ok (.ireturn, 1) := by decide +kernel
set_option maxRecDepth 20000 in
theorem ggX9_highestBySearch_X9_fitSet : GoodIn wsX9_highestBySearch wsX9_fitSet := goodIn_ca (goodIn_r _ [5, 6, 7, 22, 23, 24, 25, 26, 27] (by decide +kernel) (by decide +kernel)) (goodIn_sub (fun _ h => List.mem_cons_of_mem _ (List.mem_append_right _ h)) (by decide +kernel))
set_option maxRecDepth 20000 in
theorem gX9_highestBySearch_X9_fitSet : GoodIn wsX9_highestBySearch (wsV RX9 68 RX9 yX9_fitSet wsX9_fitSet) := goodIn_app (goodIn_of _ (by decide +kernel)) ggX9_highestBySearch_X9_fitSet
set_option maxRecDepth 20000 in
theorem ggX9_highestBySearch_X9_highestBelow : GoodIn wsX9_highestBySearch wsX9_highestBelow := goodIn_ca (goodIn_r _ [10, 6, 11, 12, 13, 14, 15, 16, 17, 18, 19, 20, 4, 21, 8, 9, 22, 23, 24, 25, 26, 27] (by decide +kernel) (by decide +kernel)) (goodIn_sub (fun _ h => List.mem_cons_of_mem _ (List.mem_append_right _ h)) (by decide +kernel))
set_option maxRecDepth 20000 in
theorem gX9_highestBySearch_X9_highestBelow : GoodIn wsX9_highestBySearch (va_wsS RX9 75 yX9_highestBelow wsX9_highestBelow) := goodIn_app (goodIn_of _ (by decide +kernel)) ggX9_highestBySearch_X9_highestBelow
theorem dX9_highestBySearch_0 : decode cX9_highestBySearch 0 = .ok (.aload_n 0, 1) := by decide +kernel
theorem dX9_highestBySearch_1 : decode cX9_highestBySearch 1 = .ok (.aload_n 0, 1) := by decide +kernel
theorem dX9_highestBySearch_2 : decode cX9_highestBySearch 2 = .ok (.invokevirtual 68, 3) := by decide +kernel
theorem dX9_highestBySearch_5 : decode cX9_highestBySearch 5 = .ok (.iconst 0, 1) := by decide +kernel
theorem dX9_highestBySearch_6 : decode cX9_highestBySearch 6 = .ok (.iconst 0, 1) := by decide +kernel
theorem dX9_highestBySearch_7 : decode cX9_highestBySearch 7 = .ok (.invokestatic 75, 3) := by decide +kernel
theorem dX9_highestBySearch_10 : decode cX9_highestBySearch 10 = .ok (.ireturn, 1) := by decide +kernel
set_option maxRecDepth 20000 in
theorem ggX9_highestBelow_X9_isMember : GoodIn wsX9_highestBelow wsX9_isMember := goodIn_r _ [13, 1, 16, 17, 18, 19, 20, 21] (by decide +kernel) (by decide +kernel)
set_option maxRecDepth 20000 in
theorem gX9_highestBelow_X9_isMember : GoodIn wsX9_highestBelow (wsV RX9 46 RX9 yX9_isMember wsX9_isMember) := goodIn_app (goodIn_of _ (by decide +kernel)) ggX9_highestBelow_X9_isMember
set_option maxRecDepth 20000 in
theorem ggX9_highestBelow_X9_highestBelow : GoodIn wsX9_highestBelow wsX9_highestBelow := goodIn_ca (goodIn_r _ [0, 1, 2, 3, 4, 5, 6, 7, 8, 9, 10, 11, 12, 13, 14, 15, 16, 17, 18, 19, 20, 21] (by decide +kernel) (by decide +kernel)) (goodIn_sub (fun _ h => List.mem_cons_of_mem _ (List.mem_append_right _ h)) (by decide +kernel))
set_option maxRecDepth 20000 in
theorem gX9_highestBelow_X9_highestBelow : GoodIn wsX9_highestBelow (va_wsS RX9 75 yX9_highestBelow wsX9_highestBelow) := goodIn_app (goodIn_of _ (by decide +kernel)) ggX9_highestBelow_X9_highestBelow
theorem dX9_highestBelow_0 : decode cX9_highestBelow 0 = .ok (.iload_n 3, 1) := by decide +kernel
theorem dX9_highestBelow_1 : decode cX9_highestBelow 1 = .ok (.bipush 6, 2) := by decide +kernel
theorem dX9_highestBelow_3 : decode cX9_highestBelow 3 = .ok (.if_icmp .lt 5, 3) := by decide +kernel
theorem dX9_highestBelow_6 : decode cX9_highestBelow 6 = .ok (.iconst 0, 1) := by decide +kernel
theorem dX9_highestBelow_7 : decode cX9_highestBelow 7 = .ok (.ireturn, 1) := by decide +kernel
theorem dX9_highestBelow_8 : decode cX9_highestBelow 8 = .ok (.iconst 0, 1) := by decide +kernel
theorem dX9_highestBelow_9 : decode cX9_highestBelow 9 = .ok (.istore 4, 2) := by decide +kernel
theorem dX9_highestBelow_11 : decode cX9_highestBelow 11 = .ok (.iconst 0, 1) := by decide +kernel
theorem dX9_highestBelow_12 : decode cX9_highestBelow 12 = .ok (.istore 5, 2) := by decide +kernel
theorem dX9_highestBelow_14 : decode cX9_highestBelow 14 = .ok (.iload 5, 2) := by decide +kernel
theorem dX9_highestBelow_16 : decode cX9_highestBelow 16 = .ok (.aload_n 0, 1) := by decide +kernel
theorem dX9_highestBelow_17 : decode cX9_highestBelow 17 = .ok (.getfield 27, 3) := by decide +kernel
theorem dX9_highestBelow_20 : decode cX9_highestBelow 20 = .ok (.if_icmp .ge 73, 3) := by decide +kernel
theorem dX9_highestBelow_23 : decode cX9_highestBelow 23 = .ok (.aload_n 0, 1) := by decide +kernel
theorem dX9_highestBelow_24 : decode cX9_highestBelow 24 = .ok (.iload_n 1, 1) := by decide +kernel
theorem dX9_highestBelow_25 : decode cX9_highestBelow 25 = .ok (.iload 5, 2) := by decide +kernel
theorem dX9_highestBelow_27 : decode cX9_highestBelow 27 = .ok (.invokevirtual 46, 3) := by decide +kernel
theorem dX9_highestBelow_30 : decode cX9_highestBelow 30 = .ok (.ifCond .eq 57, 3) := by decide +kernel
theorem dX9_highestBelow_33 : decode cX9_highestBelow 33 = .ok (.aload_n 0, 1) := by decide +kernel
theorem dX9_highestBelow_34 : decode cX9_highestBelow 34 = .ok (.getfield 15, 3) := by decide +kernel
theorem dX9_highestBelow_37 : decode cX9_highestBelow 37 = .ok (.iload 5, 2) := by decide +kernel
theorem dX9_highestBelow_39 : decode cX9_highestBelow 39 = .ok (.iaload, 1) := by decide +kernel
theorem dX9_highestBelow_40 : decode cX9_highestBelow 40 = .ok (.iload_n 2, 1) := by decide +kernel
theorem dX9_highestBelow_41 : decode cX9_highestBelow 41 = .ok (.if_icmp .lt 46, 3) := by decide +kernel
theorem dX9_highestBelow_44 : decode cX9_highestBelow 44 = .ok (.aload_n 0, 1) := by decide +kernel
theorem dX9_highestBelow_45 : decode cX9_highestBelow 45 = .ok (.iload_n 1, 1) := by decide +kernel
theorem dX9_highestBelow_46 : decode cX9_highestBelow 46 = .ok (.iconst 1, 1) := by decide +kernel
theorem dX9_highestBelow_47 : decode cX9_highestBelow 47 = .ok (.iload 5, 2) := by decide +kernel
theorem dX9_highestBelow_49 : decode cX9_highestBelow 49 = .ok (.ishl, 1) := by decide +kernel
theorem dX9_highestBelow_50 : decode cX9_highestBelow 50 = .ok (.iconst (-1), 1) := by decide +kernel
theorem dX9_highestBelow_51 : decode cX9_highestBelow 51 = .ok (.ixor, 1) := by decide +kernel
theorem dX9_highestBelow_52 : decode cX9_highestBelow 52 = .ok (.iand, 1) := by decide +kernel
theorem dX9_highestBelow_53 : decode cX9_highestBelow 53 = .ok (.iload_n 2, 1) := by decide +kernel
theorem dX9_highestBelow_54 : decode cX9_highestBelow 54 = .ok (.aload_n 0, 1) := by decide +kernel
theorem dX9_highestBelow_55 : decode cX9_highestBelow 55 = .ok (.getfield 9, 3) := by decide +kernel
theorem dX9_highestBelow_58 : decode cX9_highestBelow 58 = .ok (.iload 5, 2) := by decide +kernel
theorem dX9_highestBelow_60 : decode cX9_highestBelow 60 = .ok (.iaload, 1) := by decide +kernel
theorem dX9_highestBelow_61 : decode cX9_highestBelow 61 = .ok (.iadd, 1) := by decide +kernel
theorem dX9_highestBelow_62 : decode cX9_highestBelow 62 = .ok (.iload_n 3, 1) := by decide +kernel
theorem dX9_highestBelow_63 : decode cX9_highestBelow 63 = .ok (.iconst 1, 1) := by decide +kernel
theorem dX9_highestBelow_64 : decode cX9_highestBelow 64 = .ok (.iadd, 1) := by decide +kernel
theorem dX9_highestBelow_65 : decode cX9_highestBelow 65 = .ok (.invokestatic 75, 3) := by decide +kernel
theorem dX9_highestBelow_68 : decode cX9_highestBelow 68 = .ok (.istore 6, 2) := by decide +kernel
theorem dX9_highestBelow_70 : decode cX9_highestBelow 70 = .ok (.iload 4, 2) := by decide +kernel
theorem dX9_highestBelow_72 : decode cX9_highestBelow 72 = .ok (.aload_n 0, 1) := by decide +kernel
theorem dX9_highestBelow_73 : decode cX9_highestBelow 73 = .ok (.getfield 18, 3) := by decide +kernel
theorem dX9_highestBelow_76 : decode cX9_highestBelow 76 = .ok (.iload 5, 2) := by decide +kernel
theorem dX9_highestBelow_78 : decode cX9_highestBelow 78 = .ok (.iaload, 1) := by decide +kernel
theorem dX9_highestBelow_79 : decode cX9_highestBelow 79 = .ok (.iload 6, 2) := by decide +kernel
theorem dX9_highestBelow_81 : decode cX9_highestBelow 81 = .ok (.iadd, 1) := by decide +kernel
theorem dX9_highestBelow_82 : decode cX9_highestBelow 82 = .ok (.invokestatic 37, 3) := by decide +kernel
theorem dX9_highestBelow_85 : decode cX9_highestBelow 85 = .ok (.istore 4, 2) := by decide +kernel
theorem dX9_highestBelow_87 : decode cX9_highestBelow 87 = .ok (.iinc 5 1, 3) := by decide +kernel
theorem dX9_highestBelow_90 : decode cX9_highestBelow 90 = .ok (.goto (-76), 3) := by decide +kernel
theorem dX9_highestBelow_93 : decode cX9_highestBelow 93 = .ok (.iload 4, 2) := by decide +kernel
theorem dX9_highestBelow_95 : decode cX9_highestBelow 95 = .ok (.ireturn, 1) := by decide +kernel
