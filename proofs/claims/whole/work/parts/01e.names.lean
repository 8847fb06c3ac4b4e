theorem dX7_isBrokenBy_72 : decode cX7_isBrokenBy 72 = .ok (.getfield 58, 3) := by decide +kernel
theorem dX7_isBrokenBy_75 : decode cX7_isBrokenBy 75 = .ok (.iload 5, 2) := by decide +kernel
theorem dX7_isBrokenBy_77 : decode cX7_isBrokenBy 77 = .ok (.invokevirtual 153, 3) := by decide +kernel
theorem dX7_isBrokenBy_80 : decode cX7_isBrokenBy 80 = .ok (.aload_n 0, 1) := by decide +kernel
theorem dX7_isBrokenBy_81 : decode cX7_isBrokenBy 81 = .ok (.getfield 62, 3) := by decide +kernel
theorem dX7_isBrokenBy_84 : decode cX7_isBrokenBy 84 = .ok (.invokevirtual 150, 3) := by decide +kernel
theorem dX7_isBrokenBy_87 : decode cX7_isBrokenBy 87 = .ok (.aload_n 0, 1) := by decide +kernel
theorem dX7_isBrokenBy_88 : decode cX7_isBrokenBy 88 = .ok (.getfield 49, 3) := by decide +kernel
theorem dX7_isBrokenBy_91 : decode cX7_isBrokenBy 91 = .ok (.aload_n 0, 1) := by decide +kernel
theorem dX7_isBrokenBy_92 : decode cX7_isBrokenBy 92 = .ok (.getfield 62, 3) := by decide +kernel
theorem dX7_isBrokenBy_95 : decode cX7_isBrokenBy 95 = .ok (.iload_n 2, 1) := by decide +kernel
theorem dX7_isBrokenBy_96 : decode cX7_isBrokenBy 96 = .ok (.iload 4, 2) := by decide +kernel
theorem dX7_isBrokenBy_98 : decode cX7_isBrokenBy 98 = .ok (.irem, 1) := by decide +kernel
theorem dX7_isBrokenBy_99 : decode cX7_isBrokenBy 99 = .ok (.invokevirtual 153, 3) := by decide +kernel
theorem dX7_isBrokenBy_102 : decode cX7_isBrokenBy 102 = .ok (.aload_n 0, 1) := by decide +kernel
theorem dX7_isBrokenBy_103 : decode cX7_isBrokenBy 103 = .ok (.getfield 49, 3) := by decide +kernel
theorem dX7_isBrokenBy_106 : decode cX7_isBrokenBy 106 = .ok (.aload_n 0, 1) := by decide +kernel
theorem dX7_isBrokenBy_107 : decode cX7_isBrokenBy 107 = .ok (.getfield 62, 3) := by decide +kernel
theorem dX7_isBrokenBy_110 : decode cX7_isBrokenBy 110 = .ok (.iload 6, 2) := by decide +kernel
theorem dX7_isBrokenBy_112 : decode cX7_isBrokenBy 112 = .ok (.invokevirtual 153, 3) := by decide +kernel
theorem dX7_isBrokenBy_115 : decode cX7_isBrokenBy 115 = .ok (.aload_n 0, 1) := by decide +kernel
theorem dX7_isBrokenBy_116 : decode cX7_isBrokenBy 116 = .ok (.getfield 58, 3) := by decide +kernel
theorem dX7_isBrokenBy_119 : decode cX7_isBrokenBy 119 = .ok (.aload_n 0, 1) := by decide +kernel
theorem dX7_isBrokenBy_120 : decode cX7_isBrokenBy 120 = .ok (.getfield 62, 3) := by decide +kernel
theorem dX7_isBrokenBy_123 : decode cX7_isBrokenBy 123 = .ok (.invokevirtual 160, 3) := by decide +kernel
theorem dX7_isBrokenBy_126 : decode cX7_isBrokenBy 126 = .ok (.ifCond .ne 7, 3) := by decide +kernel
theorem dX7_isBrokenBy_129 : decode cX7_isBrokenBy 129 = .ok (.iconst 1, 1) := by decide +kernel
theorem dX7_isBrokenBy_130 : decode cX7_isBrokenBy 130 = .ok (.goto 4, 3) := by decide +kernel
theorem dX7_isBrokenBy_133 : decode cX7_isBrokenBy 133 = .ok (.iconst 0, 1) := by decide +kernel
theorem dX7_isBrokenBy_134 : decode cX7_isBrokenBy 134 = .ok (.ireturn, 1) := by decide +kernel
theorem dX7_firstUnit_0 : decode cX7_firstUnit 0 = .ok (.iload_n 0, 1) := by decide +kernel
theorem dX7_firstUnit_1 : decode cX7_firstUnit 1 = .ok (.bipush 100, 2) := by decide +kernel
theorem dX7_firstUnit_3 : decode cX7_firstUnit 3 = .ok (.if_icmp .lt 6, 3) := by decide +kernel
theorem dX7_firstUnit_6 : decode cX7_firstUnit 6 = .ok (.bipush 100, 2) := by decide +kernel
theorem dX7_firstUnit_8 : decode cX7_firstUnit 8 = .ok (.ireturn, 1) := by decide +kernel
theorem dX7_firstUnit_9 : decode cX7_firstUnit 9 = .ok (.iload_n 0, 1) := by decide +kernel
theorem dX7_firstUnit_10 : decode cX7_firstUnit 10 = .ok (.bipush 10, 2) := by decide +kernel
theorem dX7_firstUnit_12 : decode cX7_firstUnit 12 = .ok (.if_icmp .lt 8, 3) := by decide +kernel
theorem dX7_firstUnit_15 : decode cX7_firstUnit 15 = .ok (.bipush 10, 2) := by decide +kernel
theorem dX7_firstUnit_17 : decode cX7_firstUnit 17 = .ok (.goto 4, 3) := by decide +kernel
theorem dX7_firstUnit_20 : decode cX7_firstUnit 20 = .ok (.iconst 1, 1) := by decide +kernel
theorem dX7_firstUnit_21 : decode cX7_firstUnit 21 = .ok (.ireturn, 1) := by decide +kernel
set_option maxRecDepth 20000 in
theorem ggX7_mightFrom_X7_rowInOrder : GoodIn wsX7_mightFrom wsX7_rowInOrder := goodIn_r _ [6] (by decide +kernel) (by decide +kernel)
set_option maxRecDepth 20000 in
theorem gX7_mightFrom_X7_rowInOrder : GoodIn wsX7_mightFrom (va_wsS RX7 129 yX7_rowInOrder wsX7_rowInOrder) := goodIn_app (goodIn_of _ (by decide +kernel)) ggX7_mightFrom_X7_rowInOrder
set_option maxRecDepth 20000 in
theorem ggX7_mightFrom_X6_setClaim : GoodIn wsX7_mightFrom wsX6_setClaim := goodIn_r _ [11, 12, 13, 5, 14, 95, 96] (by decide +kernel) (by decide +kernel)
set_option maxRecDepth 20000 in
theorem gX7_mightFrom_X6_setClaim : GoodIn wsX7_mightFrom (wsV RX7 145 RX6 yX6_setClaim wsX6_setClaim) := goodIn_app (goodIn_of _ (by decide +kernel)) ggX7_mightFrom_X6_setClaim
set_option maxRecDepth 20000 in
theorem ggX7_mightFrom_X1_find : GoodIn wsX7_mightFrom wsX1_find := goodIn_r _ [19, 20, 21, 22, 23, 10, 24, 12, 13, 5, 14, 25, 26, 27, 28, 29, 30, 31, 32, 33, 34, 35, 36, 37, 38, 18, 39, 40, 41, 42, 43, 44, 45, 46, 47, 97, 95, 96, 98, 99] (by decide +kernel) (by decide +kernel)
set_option maxRecDepth 20000 in
theorem gX7_mightFrom_X1_find : GoodIn wsX7_mightFrom (wsV RX7 149 RX1 yX1_find wsX1_find) := goodIn_app (goodIn_of _ (by decide +kernel)) ggX7_mightFrom_X1_find
set_option maxRecDepth 20000 in
theorem ggX7_mightFrom_X7_breakingLetter : GoodIn wsX7_mightFrom wsX7_breakingLetter := goodIn_r _ [51, 1, 52, 22, 23, 10, 24, 12, 13, 5, 14, 53, 54, 55, 56, 57, 2, 58, 59, 60, 61, 62, 63, 64, 65, 66, 67, 68, 69, 26, 27, 28, 29, 30, 70, 37, 38, 18, 39, 20, 40, 41, 42, 43, 35, 44, 45, 46, 47, 71, 72, 73, 74, 75, 76, 77, 78, 79, 80, 81, 82, 83, 84, 85, 86, 87, 88, 89, 90, 91, 92, 93, 94, 95, 96, 98, 99, 97] (by decide +kernel) (by decide +kernel)
set_option maxRecDepth 20000 in
theorem gX7_mightFrom_X7_breakingLetter : GoodIn wsX7_mightFrom (wsV RX7 171 RX7 yX7_breakingLetter wsX7_breakingLetter) := goodIn_app (goodIn_of _ (by decide +kernel)) ggX7_mightFrom_X7_breakingLetter
theorem dX7_mightFrom_0 : decode cX7_mightFrom 0 = .ok (.iconst 0, 1) := by decide +kernel
theorem dX7_mightFrom_1 : decode cX7_mightFrom 1 = .ok (.istore_n 3, 1) := by decide +kernel
theorem dX7_mightFrom_2 : decode cX7_mightFrom 2 = .ok (.iload_n 1, 1) := by decide +kernel
theorem dX7_mightFrom_3 : decode cX7_mightFrom 3 = .ok (.iload_n 1, 1) := by decide +kernel
theorem dX7_mightFrom_4 : decode cX7_mightFrom 4 = .ok (.iload_n 1, 1) := by decide +kernel
theorem dX7_mightFrom_5 : decode cX7_mightFrom 5 = .ok (.imul, 1) := by decide +kernel
theorem dX7_mightFrom_6 : decode cX7_mightFrom 6 = .ok (.iadd, 1) := by decide +kernel
theorem dX7_mightFrom_7 : decode cX7_mightFrom 7 = .ok (.iload_n 1, 1) := by decide +kernel
theorem dX7_mightFrom_8 : decode cX7_mightFrom 8 = .ok (.iload_n 1, 1) := by decide +kernel
theorem dX7_mightFrom_9 : decode cX7_mightFrom 9 = .ok (.imul, 1) := by decide +kernel
theorem dX7_mightFrom_10 : decode cX7_mightFrom 10 = .ok (.iload_n 1, 1) := by decide +kernel
theorem dX7_mightFrom_11 : decode cX7_mightFrom 11 = .ok (.imul, 1) := by decide +kernel
theorem dX7_mightFrom_12 : decode cX7_mightFrom 12 = .ok (.iadd, 1) := by decide +kernel
theorem dX7_mightFrom_13 : decode cX7_mightFrom 13 = .ok (.istore 4, 2) := by decide +kernel
theorem dX7_mightFrom_15 : decode cX7_mightFrom 15 = .ok (.iconst 1, 1) := by decide +kernel
theorem dX7_mightFrom_16 : decode cX7_mightFrom 16 = .ok (.istore 5, 2) := by decide +kernel
theorem dX7_mightFrom_18 : decode cX7_mightFrom 18 = .ok (.iload 5, 2) := by decide +kernel
theorem dX7_mightFrom_20 : decode cX7_mightFrom 20 = .ok (.iload 4, 2) := by decide +kernel
theorem dX7_mightFrom_22 : decode cX7_mightFrom 22 = .ok (.if_icmp .gt 59, 3) := by decide +kernel
theorem dX7_mightFrom_25 : decode cX7_mightFrom 25 = .ok (.iload 5, 2) := by decide +kernel
theorem dX7_mightFrom_27 : decode cX7_mightFrom 27 = .ok (.iload_n 1, 1) := by decide +kernel
theorem dX7_mightFrom_28 : decode cX7_mightFrom 28 = .ok (.invokestatic 129, 3) := by decide +kernel
theorem dX7_mightFrom_31 : decode cX7_mightFrom 31 = .ok (.istore 6, 2) := by decide +kernel
theorem dX7_mightFrom_33 : decode cX7_mightFrom 33 = .ok (.aload_n 0, 1) := by decide +kernel
theorem dX7_mightFrom_34 : decode cX7_mightFrom 34 = .ok (.getfield 12, 3) := by decide +kernel
theorem dX7_mightFrom_37 : decode cX7_mightFrom 37 = .ok (.iload_n 1, 1) := by decide +kernel
theorem dX7_mightFrom_38 : decode cX7_mightFrom 38 = .ok (.iload 6, 2) := by decide +kernel
theorem dX7_mightFrom_40 : decode cX7_mightFrom 40 = .ok (.invokevirtual 145, 3) := by decide +kernel
theorem dX7_mightFrom_43 : decode cX7_mightFrom 43 = .ok (.aload_n 0, 1) := by decide +kernel
theorem dX7_mightFrom_44 : decode cX7_mightFrom 44 = .ok (.getfield 49, 3) := by decide +kernel
theorem dX7_mightFrom_47 : decode cX7_mightFrom 47 = .ok (.aload_n 0, 1) := by decide +kernel
theorem dX7_mightFrom_48 : decode cX7_mightFrom 48 = .ok (.getfield 12, 3) := by decide +kernel
theorem dX7_mightFrom_51 : decode cX7_mightFrom 51 = .ok (.invokevirtual 149, 3) := by decide +kernel
theorem dX7_mightFrom_54 : decode cX7_mightFrom 54 = .ok (.aload_n 0, 1) := by decide +kernel
theorem dX7_mightFrom_55 : decode cX7_mightFrom 55 = .ok (.iload_n 1, 1) := by decide +kernel
theorem dX7_mightFrom_56 : decode cX7_mightFrom 56 = .ok (.invokevirtual 171, 3) := by decide +kernel
theorem dX7_mightFrom_59 : decode cX7_mightFrom 59 = .ok (.bipush (-9), 2) := by decide +kernel
theorem dX7_mightFrom_61 : decode cX7_mightFrom 61 = .ok (.if_icmp .ne 14, 3) := by decide +kernel
theorem dX7_mightFrom_64 : decode cX7_mightFrom 64 = .ok (.iload_n 3, 1) := by decide +kernel
theorem dX7_mightFrom_65 : decode cX7_mightFrom 65 = .ok (.iload_n 2, 1) := by decide +kernel
theorem dX7_mightFrom_66 : decode cX7_mightFrom 66 = .ok (.if_icmp .ne 6, 3) := by decide +kernel
theorem dX7_mightFrom_69 : decode cX7_mightFrom 69 = .ok (.iload 6, 2) := by decide +kernel
theorem dX7_mightFrom_71 : decode cX7_mightFrom 71 = .ok (.ireturn, 1) := by decide +kernel
theorem dX7_mightFrom_72 : decode cX7_mightFrom 72 = .ok (.iinc 3 1, 3) := by decide +kernel
theorem dX7_mightFrom_75 : decode cX7_mightFrom 75 = .ok (.iinc 5 1, 3) := by decide +kernel
theorem dX7_mightFrom_78 : decode cX7_mightFrom 78 = .ok (.goto (-60), 3) := by decide +kernel
theorem dX7_mightFrom_81 : decode cX7_mightFrom 81 = .ok (.iload_n 2, 1) := by decide +kernel
theorem dX7_mightFrom_82 : decode cX7_mightFrom 82 = .ok (.iconst (-1), 1) := by decide +kernel
theorem dX7_mightFrom_83 : decode cX7_mightFrom 83 = .ok (.if_icmp .ne 7, 3) := by decide +kernel
theorem dX7_mightFrom_86 : decode cX7_mightFrom 86 = .ok (.iload_n 3, 1) := by decide +kernel
theorem dX7_mightFrom_87 : decode cX7_mightFrom 87 = .ok (.goto 5, 3) := by decide +kernel
theorem dX7_mightFrom_90 : decode cX7_mightFrom 90 = .ok (.bipush (-9), 2) := by decide +kernel
theorem dX7_mightFrom_92 : decode cX7_mightFrom 92 = .ok (.ireturn, 1) := by decide +kernel
theorem dX8_init_0 : decode cX8_init 0 = .ok (.aload_n 0, 1) := by decide +kernel
theorem dX8_init_1 : decode cX8_init 1 = .ok (.invokespecial 1, 3) := by decide +kernel
theorem dX8_init_4 : decode cX8_init 4 = .ok (.aload_n 0, 1) := by decide +kernel
theorem dX8_init_5 : decode cX8_init 5 = .ok (.bipush 24, 2) := by decide +kernel
theorem dX8_init_7 : decode cX8_init 7 = .ok (.newarray .int, 2) := by decide +kernel
theorem dX8_init_9 : decode cX8_init 9 = .ok (.putfield 7, 3) := by decide +kernel
theorem dX8_init_12 : decode cX8_init 12 = .ok (.aload_n 0, 1) := by decide +kernel
theorem dX8_init_13 : decode cX8_init 13 = .ok (.sipush 480, 3) := by decide +kernel
theorem dX8_init_16 : decode cX8_init 16 = .ok (.newarray .int, 2) := by decide +kernel
theorem dX8_init_18 : decode cX8_init 18 = .ok (.putfield 13, 3) := by decide +kernel
theorem dX8_init_21 : decode cX8_init 21 = .ok (.aload_n 0, 1) := by decide +kernel
theorem dX8_init_22 : decode cX8_init 22 = .ok (.bipush 64, 2) := by decide +kernel
theorem dX8_init_24 : decode cX8_init 24 = .ok (.newarray .int, 2) := by decide +kernel
theorem dX8_init_26 : decode cX8_init 26 = .ok (.putfield 16, 3) := by decide +kernel
theorem dX8_init_29 : decode cX8_init 29 = .ok (.aload_n 0, 1) := by decide +kernel
theorem dX8_init_30 : decode cX8_init 30 = .ok (.bipush 6, 2) := by decide +kernel
theorem dX8_init_32 : decode cX8_init 32 = .ok (.newarray .int, 2) := by decide +kernel
theorem dX8_init_34 : decode cX8_init 34 = .ok (.putfield 19, 3) := by decide +kernel
theorem dX8_init_37 : decode cX8_init 37 = .ok (.aload_n 0, 1) := by decide +kernel
theorem dX8_init_38 : decode cX8_init 38 = .ok (.bipush 78, 2) := by decide +kernel
theorem dX8_init_40 : decode cX8_init 40 = .ok (.newarray .int, 2) := by decide +kernel
theorem dX8_init_42 : decode cX8_init 42 = .ok (.putfield 22, 3) := by decide +kernel
theorem dX8_init_45 : decode cX8_init 45 = .ok (.aload_n 0, 1) := by decide +kernel
theorem dX8_init_46 : decode cX8_init 46 = .ok (.bipush 13, 2) := by decide +kernel
theorem dX8_init_48 : decode cX8_init 48 = .ok (.newarray .int, 2) := by decide +kernel
theorem dX8_init_50 : decode cX8_init 50 = .ok (.putfield 25, 3) := by decide +kernel
theorem dX8_init_53 : decode cX8_init 53 = .ok (.aload_n 0, 1) := by decide +kernel
theorem dX8_init_54 : decode cX8_init 54 = .ok (.bipush 13, 2) := by decide +kernel
theorem dX8_init_56 : decode cX8_init 56 = .ok (.newarray .int, 2) := by decide +kernel
theorem dX8_init_58 : decode cX8_init 58 = .ok (.putfield 28, 3) := by decide +kernel
theorem dX8_init_61 : decode cX8_init 61 = .ok (.aload_n 0, 1) := by decide +kernel
theorem dX8_init_62 : decode cX8_init 62 = .ok (.sipush 2400, 3) := by decide +kernel
theorem dX8_init_65 : decode cX8_init 65 = .ok (.newarray .int, 2) := by decide +kernel
theorem dX8_init_67 : decode cX8_init 67 = .ok (.putfield 31, 3) := by decide +kernel
theorem dX8_init_70 : decode cX8_init 70 = .ok (.aload_n 0, 1) := by decide +kernel
theorem dX8_init_71 : decode cX8_init 71 = .ok (.sipush 2400, 3) := by decide +kernel
theorem dX8_init_74 : decode cX8_init 74 = .ok (.newarray .int, 2) := by decide +kernel
theorem dX8_init_76 : decode cX8_init 76 = .ok (.putfield 34, 3) := by decide +kernel
theorem dX8_init_79 : decode cX8_init 79 = .ok (.aload_n 0, 1) := by decide +kernel
theorem dX8_init_80 : decode cX8_init 80 = .ok (.sipush 2400, 3) := by decide +kernel
theorem dX8_init_83 : decode cX8_init 83 = .ok (.newarray .int, 2) := by decide +kernel
theorem dX8_init_85 : decode cX8_init 85 = .ok (.putfield 37, 3) := by decide +kernel
theorem dX8_init_88 : decode cX8_init 88 = .ok (.iconst 0, 1) := by decide +kernel
theorem dX8_init_89 : decode cX8_init 89 = .ok (.istore_n 1, 1) := by decide +kernel
theorem dX8_init_90 : decode cX8_init 90 = .ok (.iload_n 1, 1) := by decide +kernel
theorem dX8_init_91 : decode cX8_init 91 = .ok (.bipush 24, 2) := by decide +kernel
theorem dX8_init_93 : decode cX8_init 93 = .ok (.if_icmp .ge 17, 3) := by decide +kernel
theorem dX8_init_96 : decode cX8_init 96 = .ok (.aload_n 0, 1) := by decide +kernel
theorem dX8_init_97 : decode cX8_init 97 = .ok (.getfield 7, 3) := by decide +kernel
theorem dX8_init_100 : decode cX8_init 100 = .ok (.iload_n 1, 1) := by decide +kernel
theorem dX8_init_101 : decode cX8_init 101 = .ok (.bipush (-9), 2) := by decide +kernel
theorem dX8_init_103 : decode cX8_init 103 = .ok (.iastore, 1) := by decide +kernel
theorem dX8_init_104 : decode cX8_init 104 = .ok (.iinc 1 1, 3) := by decide +kernel
theorem dX8_init_107 : decode cX8_init 107 = .ok (.goto (-17), 3) := by decide +kernel
theorem dX8_init_110 : decode cX8_init 110 = .ok (.return_, 1) := by decide +kernel
theorem dX8_within_0 : decode cX8_within 0 = .ok (.iload_n 0, 1) := by decide +kernel
theorem dX8_within_1 : decode cX8_within 1 = .ok (.iload_n 1, 1) := by decide +kernel
theorem dX8_within_2 : decode cX8_within 2 = .ok (.if_icmp .lt 12, 3) := by decide +kernel
theorem dX8_within_5 : decode cX8_within 5 = .ok (.iload_n 0, 1) := by decide +kernel
theorem dX8_within_6 : decode cX8_within 6 = .ok (.iload_n 2, 1) := by decide +kernel
theorem dX8_within_7 : decode cX8_within 7 = .ok (.if_icmp .gt 7, 3) := by decide +kernel
theorem dX8_within_10 : decode cX8_within 10 = .ok (.iconst 1, 1) := by decide +kernel
theorem dX8_within_11 : decode cX8_within 11 = .ok (.goto 4, 3) := by decide +kernel
theorem dX8_within_14 : decode cX8_within 14 = .ok (.iconst 0, 1) := by decide +kernel
theorem dX8_within_15 : decode cX8_within 15 = .ok (.ireturn, 1) := by decide +kernel
theorem dX8_has_0 : decode cX8_has 0 = .ok (.iload_n 0, 1) := by decide +kernel
theorem dX8_has_1 : decode cX8_has 1 = .ok (.iload_n 1, 1) := by decide +kernel
theorem dX8_has_2 : decode cX8_has 2 = .ok (.ishr, 1) := by decide +kernel
theorem dX8_has_3 : decode cX8_has 3 = .ok (.iconst 1, 1) := by decide +kernel
theorem dX8_has_4 : decode cX8_has 4 = .ok (.iand, 1) := by decide +kernel
theorem dX8_has_5 : decode cX8_has 5 = .ok (.iconst 1, 1) := by decide +kernel
theorem dX8_has_6 : decode cX8_has 6 = .ok (.if_icmp .ne 7, 3) := by decide +kernel
theorem dX8_has_9 : decode cX8_has 9 = .ok (.iconst 1, 1) := by decide +kernel
theorem dX8_has_10 : decode cX8_has 10 = .ok (.goto 4, 3) := by decide +kernel
theorem dX8_has_13 : decode cX8_has 13 = .ok (.iconst 0, 1) := by decide +kernel
theorem dX8_has_14 : decode cX8_has 14 = .ok (.ireturn, 1) := by decide +kernel
set_option maxRecDepth 20000 in
theorem ggX8_isSign_X8_within : GoodIn wsX8_isSign wsX8_within := goodIn_r _ [4] (by decide +kernel) (by decide +kernel)
set_option maxRecDepth 20000 in
theorem gX8_isSign_X8_within : GoodIn wsX8_isSign (va_wsS RX8 40 yX8_within wsX8_within) := goodIn_app (goodIn_of _ (by decide +kernel)) ggX8_isSign_X8_within
theorem dX8_isSign_0 : decode cX8_isSign 0 = .ok (.iload_n 0, 1) := by decide +kernel
theorem dX8_isSign_1 : decode cX8_isSign 1 = .ok (.iconst 0, 1) := by decide +kernel
theorem dX8_isSign_2 : decode cX8_isSign 2 = .ok (.iconst 5, 1) := by decide +kernel
theorem dX8_isSign_3 : decode cX8_isSign 3 = .ok (.invokestatic 40, 3) := by decide +kernel
theorem dX8_isSign_6 : decode cX8_isSign 6 = .ok (.ireturn, 1) := by decide +kernel
set_option maxRecDepth 20000 in
theorem ggX8_isLetter_X8_within : GoodIn wsX8_isLetter wsX8_within := goodIn_r _ [4] (by decide +kernel) (by decide +kernel)
set_option maxRecDepth 20000 in
theorem gX8_isLetter_X8_within : GoodIn wsX8_isLetter (va_wsS RX8 40 yX8_within wsX8_within) := goodIn_app (goodIn_of _ (by decide +kernel)) ggX8_isLetter_X8_within
theorem dX8_isLetter_0 : decode cX8_isLetter 0 = .ok (.iload_n 0, 1) := by decide +kernel
theorem dX8_isLetter_1 : decode cX8_isLetter 1 = .ok (.iconst 0, 1) := by decide +kernel
theorem dX8_isLetter_2 : decode cX8_isLetter 2 = .ok (.iconst 2, 1) := by decide +kernel
theorem dX8_isLetter_3 : decode cX8_isLetter 3 = .ok (.invokestatic 40, 3) := by decide +kernel
theorem dX8_isLetter_6 : decode cX8_isLetter 6 = .ok (.ireturn, 1) := by decide +kernel
theorem dX8_ruleOf_0 : decode cX8_ruleOf 0 = .ok (.aload_n 0, 1) := by decide +kernel
theorem dX8_ruleOf_1 : decode cX8_ruleOf 1 = .ok (.getfield 7, 3) := by decide +kernel
theorem dX8_ruleOf_4 : decode cX8_ruleOf 4 = .ok (.iconst 3, 1) := by decide +kernel
theorem dX8_ruleOf_5 : decode cX8_ruleOf 5 = .ok (.iload_n 1, 1) := by decide +kernel
theorem dX8_ruleOf_6 : decode cX8_ruleOf 6 = .ok (.imul, 1) := by decide +kernel
theorem dX8_ruleOf_7 : decode cX8_ruleOf 7 = .ok (.iload_n 2, 1) := by decide +kernel
theorem dX8_ruleOf_8 : decode cX8_ruleOf 8 = .ok (.iadd, 1) := by decide +kernel
theorem dX8_ruleOf_9 : decode cX8_ruleOf 9 = .ok (.iaload, 1) := by decide +kernel
theorem dX8_ruleOf_10 : decode cX8_ruleOf 10 = .ok (.ireturn, 1) := by decide +kernel
theorem dX8_claimOf_0 : decode cX8_claimOf 0 = .ok (.aload_n 0, 1) := by decide +kernel
theorem dX8_claimOf_1 : decode cX8_claimOf 1 = .ok (.getfield 7, 3) := by decide +kernel
theorem dX8_claimOf_4 : decode cX8_claimOf 4 = .ok (.bipush 18, 2) := by decide +kernel
theorem dX8_claimOf_6 : decode cX8_claimOf 6 = .ok (.iload_n 1, 1) := by decide +kernel
theorem dX8_claimOf_7 : decode cX8_claimOf 7 = .ok (.iadd, 1) := by decide +kernel
theorem dX8_claimOf_8 : decode cX8_claimOf 8 = .ok (.iaload, 1) := by decide +kernel
theorem dX8_claimOf_9 : decode cX8_claimOf 9 = .ok (.ireturn, 1) := by decide +kernel
set_option maxRecDepth 20000 in
theorem ggX8_digits_X8_within : GoodIn wsX8_digits wsX8_within := goodIn_r _ [5] (by decide +kernel) (by decide +kernel)
set_option maxRecDepth 20000 in
theorem gX8_digits_X8_within : GoodIn wsX8_digits (va_wsS RX8 40 yX8_within wsX8_within) := goodIn_app (goodIn_of _ (by decide +kernel)) ggX8_digits_X8_within
theorem dX8_digits_0 : decode cX8_digits 0 = .ok (.iconst 0, 1) := by decide +kernel
theorem dX8_digits_1 : decode cX8_digits 1 = .ok (.istore_n 3, 1) := by decide +kernel
theorem dX8_digits_2 : decode cX8_digits 2 = .ok (.lload_n 0, 1) := by decide +kernel
theorem dX8_digits_3 : decode cX8_digits 3 = .ok (.lstore 4, 2) := by decide +kernel
theorem dX8_digits_5 : decode cX8_digits 5 = .ok (.lload 4, 2) := by decide +kernel
theorem dX8_digits_7 : decode cX8_digits 7 = .ok (.lconst 0, 1) := by decide +kernel
theorem dX8_digits_8 : decode cX8_digits 8 = .ok (.lcmp, 1) := by decide +kernel
theorem dX8_digits_9 : decode cX8_digits 9 = .ok (.ifCond .le 35, 3) := by decide +kernel
theorem dX8_digits_12 : decode cX8_digits 12 = .ok (.lload 4, 2) := by decide +kernel
theorem dX8_digits_14 : decode cX8_digits 14 = .ok (.ldc2_w 44, 3) := by decide +kernel
theorem dX8_digits_17 : decode cX8_digits 17 = .ok (.lrem, 1) := by decide +kernel
theorem dX8_digits_18 : decode cX8_digits 18 = .ok (.l2i, 1) := by decide +kernel
theorem dX8_digits_19 : decode cX8_digits 19 = .ok (.iconst 1, 1) := by decide +kernel
theorem dX8_digits_20 : decode cX8_digits 20 = .ok (.iload_n 2, 1) := by decide +kernel
theorem dX8_digits_21 : decode cX8_digits 21 = .ok (.invokestatic 40, 3) := by decide +kernel
theorem dX8_digits_24 : decode cX8_digits 24 = .ok (.ifCond .ne 6, 3) := by decide +kernel
theorem dX8_digits_27 : decode cX8_digits 27 = .ok (.bipush (-9), 2) := by decide +kernel
theorem dX8_digits_29 : decode cX8_digits 29 = .ok (.ireturn, 1) := by decide +kernel
theorem dX8_digits_30 : decode cX8_digits 30 = .ok (.iinc 3 1, 3) := by decide +kernel
theorem dX8_digits_33 : decode cX8_digits 33 = .ok (.lload 4, 2) := by decide +kernel
theorem dX8_digits_35 : decode cX8_digits 35 = .ok (.ldc2_w 44, 3) := by decide +kernel
theorem dX8_digits_38 : decode cX8_digits 38 = .ok (.ldiv, 1) := by decide +kernel
theorem dX8_digits_39 : decode cX8_digits 39 = .ok (.lstore 4, 2) := by decide +kernel
theorem dX8_digits_41 : decode cX8_digits 41 = .ok (.goto (-36), 3) := by decide +kernel
theorem dX8_digits_44 : decode cX8_digits 44 = .ok (.lload_n 0, 1) := by decide +kernel
theorem dX8_digits_45 : decode cX8_digits 45 = .ok (.lconst 0, 1) := by decide +kernel
theorem dX8_digits_46 : decode cX8_digits 46 = .ok (.lcmp, 1) := by decide +kernel
theorem dX8_digits_47 : decode cX8_digits 47 = .ok (.ifCond .ge 8, 3) := by decide +kernel
theorem dX8_digits_50 : decode cX8_digits 50 = .ok (.bipush (-9), 2) := by decide +kernel
theorem dX8_digits_52 : decode cX8_digits 52 = .ok (.goto 4, 3) := by decide +kernel
theorem dX8_digits_55 : decode cX8_digits 55 = .ok (.iload_n 3, 1) := by decide +kernel
theorem dX8_digits_56 : decode cX8_digits 56 = .ok (.ireturn, 1) := by decide +kernel
set_option maxRecDepth 20000 in
theorem ggX8_isRow_X8_digits : GoodIn wsX8_isRow wsX8_digits := goodIn_r _ [4, 5, 6, 7, 3, 8] (by decide +kernel) (by decide +kernel)
set_option maxRecDepth 20000 in
theorem gX8_isRow_X8_digits : GoodIn wsX8_isRow (va_wsS RX8 46 yX8_digits wsX8_digits) := goodIn_app (goodIn_of _ (by decide +kernel)) ggX8_isRow_X8_digits
set_option maxRecDepth 20000 in
theorem ggX8_isRow_X8_within : GoodIn wsX8_isRow wsX8_within := goodIn_r _ [8] (by decide +kernel) (by decide +kernel)
set_option maxRecDepth 20000 in
theorem gX8_isRow_X8_within : GoodIn wsX8_isRow (va_wsS RX8 40 yX8_within wsX8_within) := goodIn_app (goodIn_of _ (by decide +kernel)) ggX8_isRow_X8_within
theorem dX8_isRow_0 : decode cX8_isRow 0 = .ok (.iload_n 0, 1) := by decide +kernel
theorem dX8_isRow_1 : decode cX8_isRow 1 = .ok (.i2l, 1) := by decide +kernel
theorem dX8_isRow_2 : decode cX8_isRow 2 = .ok (.bipush 6, 2) := by decide +kernel
theorem dX8_isRow_4 : decode cX8_isRow 4 = .ok (.invokestatic 46, 3) := by decide +kernel
theorem dX8_isRow_7 : decode cX8_isRow 7 = .ok (.iconst 0, 1) := by decide +kernel
theorem dX8_isRow_8 : decode cX8_isRow 8 = .ok (.iload_n 1, 1) := by decide +kernel
theorem dX8_isRow_9 : decode cX8_isRow 9 = .ok (.invokestatic 40, 3) := by decide +kernel
theorem dX8_isRow_12 : decode cX8_isRow 12 = .ok (.ireturn, 1) := by decide +kernel
theorem dX8_digitAt_0 : decode cX8_digitAt 0 = .ok (.lload_n 0, 1) := by decide +kernel
theorem dX8_digitAt_1 : decode cX8_digitAt 1 = .ok (.lstore 4, 2) := by decide +kernel
theorem dX8_digitAt_3 : decode cX8_digitAt 3 = .ok (.iload_n 2, 1) := by decide +kernel
theorem dX8_digitAt_4 : decode cX8_digitAt 4 = .ok (.iconst 1, 1) := by decide +kernel
theorem dX8_digitAt_5 : decode cX8_digitAt 5 = .ok (.isub, 1) := by decide +kernel
theorem dX8_digitAt_6 : decode cX8_digitAt 6 = .ok (.istore 6, 2) := by decide +kernel
theorem dX8_digitAt_8 : decode cX8_digitAt 8 = .ok (.iload 6, 2) := by decide +kernel
theorem dX8_digitAt_10 : decode cX8_digitAt 10 = .ok (.iload_n 3, 1) := by decide +kernel
theorem dX8_digitAt_11 : decode cX8_digitAt 11 = .ok (.if_icmp .le 17, 3) := by decide +kernel
theorem dX8_digitAt_14 : decode cX8_digitAt 14 = .ok (.lload 4, 2) := by decide +kernel
theorem dX8_digitAt_16 : decode cX8_digitAt 16 = .ok (.ldc2_w 44, 3) := by decide +kernel
theorem dX8_digitAt_19 : decode cX8_digitAt 19 = .ok (.ldiv, 1) := by decide +kernel
theorem dX8_digitAt_20 : decode cX8_digitAt 20 = .ok (.lstore 4, 2) := by decide +kernel
theorem dX8_digitAt_22 : decode cX8_digitAt 22 = .ok (.iinc 6 (-1), 3) := by decide +kernel
theorem dX8_digitAt_25 : decode cX8_digitAt 25 = .ok (.goto (-17), 3) := by decide +kernel
theorem dX8_digitAt_28 : decode cX8_digitAt 28 = .ok (.lload 4, 2) := by decide +kernel
theorem dX8_digitAt_30 : decode cX8_digitAt 30 = .ok (.ldc2_w 44, 3) := by decide +kernel
theorem dX8_digitAt_33 : decode cX8_digitAt 33 = .ok (.lrem, 1) := by decide +kernel
theorem dX8_digitAt_34 : decode cX8_digitAt 34 = .ok (.l2i, 1) := by decide +kernel
theorem dX8_digitAt_35 : decode cX8_digitAt 35 = .ok (.iconst 1, 1) := by decide +kernel
theorem dX8_digitAt_36 : decode cX8_digitAt 36 = .ok (.isub, 1) := by decide +kernel
theorem dX8_digitAt_37 : decode cX8_digitAt 37 = .ok (.ireturn, 1) := by decide +kernel
theorem dX8_keeps_0 : decode cX8_keeps 0 = .ok (.aload_n 0, 1) := by decide +kernel
theorem dX8_keeps_1 : decode cX8_keeps 1 = .ok (.getfield 50, 3) := by decide +kernel
theorem dX8_keeps_4 : decode cX8_keeps 4 = .ok (.bipush 20, 2) := by decide +kernel
theorem dX8_keeps_6 : decode cX8_keeps 6 = .ok (.if_icmp .ne 43, 3) := by decide +kernel
theorem dX8_keeps_9 : decode cX8_keeps 9 = .ok (.iconst 0, 1) := by decide +kernel
theorem dX8_keeps_10 : decode cX8_keeps 10 = .ok (.istore_n 1, 1) := by decide +kernel
theorem dX8_keeps_11 : decode cX8_keeps 11 = .ok (.iload_n 1, 1) := by decide +kernel
theorem dX8_keeps_12 : decode cX8_keeps 12 = .ok (.sipush 456, 3) := by decide +kernel
theorem dX8_keeps_15 : decode cX8_keeps 15 = .ok (.if_icmp .ge 24, 3) := by decide +kernel
theorem dX8_keeps_18 : decode cX8_keeps 18 = .ok (.aload_n 0, 1) := by decide +kernel
theorem dX8_keeps_19 : decode cX8_keeps 19 = .ok (.getfield 13, 3) := by decide +kernel
theorem dX8_keeps_22 : decode cX8_keeps 22 = .ok (.iload_n 1, 1) := by decide +kernel
theorem dX8_keeps_23 : decode cX8_keeps 23 = .ok (.aload_n 0, 1) := by decide +kernel
theorem dX8_keeps_24 : decode cX8_keeps 24 = .ok (.getfield 13, 3) := by decide +kernel
theorem dX8_keeps_27 : decode cX8_keeps 27 = .ok (.iload_n 1, 1) := by decide +kernel
theorem dX8_keeps_28 : decode cX8_keeps 28 = .ok (.bipush 24, 2) := by decide +kernel
theorem dX8_keeps_30 : decode cX8_keeps 30 = .ok (.iadd, 1) := by decide +kernel
theorem dX8_keeps_31 : decode cX8_keeps 31 = .ok (.iaload, 1) := by decide +kernel
theorem dX8_keeps_32 : decode cX8_keeps 32 = .ok (.iastore, 1) := by decide +kernel
theorem dX8_keeps_33 : decode cX8_keeps 33 = .ok (.iinc 1 1, 3) := by decide +kernel
theorem dX8_keeps_36 : decode cX8_keeps 36 = .ok (.goto (-25), 3) := by decide +kernel
theorem dX8_keeps_39 : decode cX8_keeps 39 = .ok (.aload_n 0, 1) := by decide +kernel
theorem dX8_keeps_40 : decode cX8_keeps 40 = .ok (.dup, 1) := by decide +kernel
theorem dX8_keeps_41 : decode cX8_keeps 41 = .ok (.getfield 50, 3) := by decide +kernel
theorem dX8_keeps_44 : decode cX8_keeps 44 = .ok (.iconst 1, 1) := by decide +kernel
theorem dX8_keeps_45 : decode cX8_keeps 45 = .ok (.isub, 1) := by decide +kernel
theorem dX8_keeps_46 : decode cX8_keeps 46 = .ok (.putfield 50, 3) := by decide +kernel
theorem dX8_keeps_49 : decode cX8_keeps 49 = .ok (.iconst 0, 1) := by decide +kernel
theorem dX8_keeps_50 : decode cX8_keeps 50 = .ok (.istore_n 1, 1) := by decide +kernel
theorem dX8_keeps_51 : decode cX8_keeps 51 = .ok (.iload_n 1, 1) := by decide +kernel
theorem dX8_keeps_52 : decode cX8_keeps 52 = .ok (.bipush 24, 2) := by decide +kernel
theorem dX8_keeps_54 : decode cX8_keeps 54 = .ok (.if_icmp .ge 29, 3) := by decide +kernel
theorem dX8_keeps_57 : decode cX8_keeps 57 = .ok (.aload_n 0, 1) := by decide +kernel
theorem dX8_keeps_58 : decode cX8_keeps 58 = .ok (.getfield 13, 3) := by decide +kernel
theorem dX8_keeps_61 : decode cX8_keeps 61 = .ok (.bipush 24, 2) := by decide +kernel
theorem dX8_keeps_63 : decode cX8_keeps 63 = .ok (.aload_n 0, 1) := by decide +kernel
theorem dX8_keeps_64 : decode cX8_keeps 64 = .ok (.getfield 50, 3) := by decide +kernel
theorem dX8_keeps_67 : decode cX8_keeps 67 = .ok (.imul, 1) := by decide +kernel
theorem dX8_keeps_68 : decode cX8_keeps 68 = .ok (.iload_n 1, 1) := by decide +kernel
theorem dX8_keeps_69 : decode cX8_keeps 69 = .ok (.iadd, 1) := by decide +kernel
theorem dX8_keeps_70 : decode cX8_keeps 70 = .ok (.aload_n 0, 1) := by decide +kernel
theorem dX8_keeps_71 : decode cX8_keeps 71 = .ok (.getfield 7, 3) := by decide +kernel
theorem dX8_keeps_74 : decode cX8_keeps 74 = .ok (.iload_n 1, 1) := by decide +kernel
theorem dX8_keeps_75 : decode cX8_keeps 75 = .ok (.iaload, 1) := by decide +kernel
theorem dX8_keeps_76 : decode cX8_keeps 76 = .ok (.iastore, 1) := by decide +kernel
theorem dX8_keeps_77 : decode cX8_keeps 77 = .ok (.iinc 1 1, 3) := by decide +kernel
theorem dX8_keeps_80 : decode cX8_keeps 80 = .ok (.goto (-29), 3) := by decide +kernel
theorem dX8_keeps_83 : decode cX8_keeps 83 = .ok (.aload_n 0, 1) := by decide +kernel
theorem dX8_keeps_84 : decode cX8_keeps 84 = .ok (.dup, 1) := by decide +kernel
theorem dX8_keeps_85 : decode cX8_keeps 85 = .ok (.getfield 50, 3) := by decide +kernel
theorem dX8_keeps_88 : decode cX8_keeps 88 = .ok (.iconst 1, 1) := by decide +kernel
theorem dX8_keeps_89 : decode cX8_keeps 89 = .ok (.iadd, 1) := by decide +kernel
theorem dX8_keeps_90 : decode cX8_keeps 90 = .ok (.putfield 50, 3) := by decide +kernel
theorem dX8_keeps_93 : decode cX8_keeps 93 = .ok (.return_, 1) := by decide +kernel
set_option maxRecDepth 20000 in
theorem ggX8_rule_X8_isSign : GoodIn wsX8_rule wsX8_isSign := goodIn_r _ [5, 6, 7, 4, 8] (by decide +kernel) (by decide +kernel)
set_option maxRecDepth 20000 in
theorem gX8_rule_X8_isSign : GoodIn wsX8_rule (va_wsS RX8 54 yX8_isSign wsX8_isSign) := goodIn_app (goodIn_of _ (by decide +kernel)) ggX8_rule_X8_isSign
set_option maxRecDepth 20000 in
theorem ggX8_rule_X8_isLetter : GoodIn wsX8_rule wsX8_isLetter := goodIn_r _ [11, 6, 7, 4, 8] (by decide +kernel) (by decide +kernel)
set_option maxRecDepth 20000 in
theorem gX8_rule_X8_isLetter : GoodIn wsX8_rule (va_wsS RX8 58 yX8_isLetter wsX8_isLetter) := goodIn_app (goodIn_of _ (by decide +kernel)) ggX8_rule_X8_isLetter
set_option maxRecDepth 20000 in
theorem ggX8_rule_X8_isRow : GoodIn wsX8_rule wsX8_isRow := goodIn_r _ [14, 15, 16, 4, 17, 18, 6, 7, 8] (by decide +kernel) (by decide +kernel)
set_option maxRecDepth 20000 in
theorem gX8_rule_X8_isRow : GoodIn wsX8_rule (va_wsS RX8 61 yX8_isRow wsX8_isRow) := goodIn_app (goodIn_of _ (by decide +kernel)) ggX8_rule_X8_isRow
set_option maxRecDepth 20000 in
theorem ggX8_rule_X8_keeps : GoodIn wsX8_rule wsX8_keeps := goodIn_r _ [22, 23, 24, 1, 29, 30, 31, 32, 33, 34, 35, 36, 37, 38, 39, 40, 41, 42] (by decide +kernel) (by decide +kernel)
set_option maxRecDepth 20000 in
theorem gX8_rule_X8_keeps : GoodIn wsX8_rule (wsV RX8 65 RX8 yX8_keeps wsX8_keeps) := goodIn_app (goodIn_of _ (by decide +kernel)) ggX8_rule_X8_keeps
set_option maxRecDepth 20000 in
theorem ggX8_rule_X8_ruleOf : GoodIn wsX8_rule wsX8_ruleOf := goodIn_r _ [28, 1, 29, 30, 31, 32, 33, 34, 35, 36, 37, 38, 39, 40, 41, 42] (by decide +kernel) (by decide +kernel)
set_option maxRecDepth 20000 in
theorem gX8_rule_X8_ruleOf : GoodIn wsX8_rule (wsV RX8 68 RX8 yX8_ruleOf wsX8_ruleOf) := goodIn_app (goodIn_of _ (by decide +kernel)) ggX8_rule_X8_ruleOf
theorem dX8_rule_0 : decode cX8_rule 0 = .ok (.iload_n 1, 1) := by decide +kernel
theorem dX8_rule_1 : decode cX8_rule 1 = .ok (.invokestatic 54, 3) := by decide +kernel
theorem dX8_rule_4 : decode cX8_rule 4 = .ok (.ifCond .eq 10, 3) := by decide +kernel
theorem dX8_rule_7 : decode cX8_rule 7 = .ok (.iload_n 2, 1) := by decide +kernel
theorem dX8_rule_8 : decode cX8_rule 8 = .ok (.invokestatic 58, 3) := by decide +kernel
theorem dX8_rule_11 : decode cX8_rule 11 = .ok (.ifCond .ne 5, 3) := by decide +kernel
theorem dX8_rule_14 : decode cX8_rule 14 = .ok (.iconst (-1), 1) := by decide +kernel
theorem dX8_rule_15 : decode cX8_rule 15 = .ok (.ireturn, 1) := by decide +kernel
theorem dX8_rule_16 : decode cX8_rule 16 = .ok (.iload_n 3, 1) := by decide +kernel
theorem dX8_rule_17 : decode cX8_rule 17 = .ok (.bipush (-9), 2) := by decide +kernel
theorem dX8_rule_19 : decode cX8_rule 19 = .ok (.if_icmp .eq 14, 3) := by decide +kernel
theorem dX8_rule_22 : decode cX8_rule 22 = .ok (.iload_n 3, 1) := by decide +kernel
theorem dX8_rule_23 : decode cX8_rule 23 = .ok (.iconst 3, 1) := by decide +kernel
theorem dX8_rule_24 : decode cX8_rule 24 = .ok (.invokestatic 61, 3) := by decide +kernel
theorem dX8_rule_27 : decode cX8_rule 27 = .ok (.ifCond .ne 6, 3) := by decide +kernel
theorem dX8_rule_30 : decode cX8_rule 30 = .ok (.bipush (-2), 2) := by decide +kernel
theorem dX8_rule_32 : decode cX8_rule 32 = .ok (.ireturn, 1) := by decide +kernel
theorem dX8_rule_33 : decode cX8_rule 33 = .ok (.aload_n 0, 1) := by decide +kernel
theorem dX8_rule_34 : decode cX8_rule 34 = .ok (.invokevirtual 65, 3) := by decide +kernel
theorem dX8_rule_37 : decode cX8_rule 37 = .ok (.aload_n 0, 1) := by decide +kernel
theorem dX8_rule_38 : decode cX8_rule 38 = .ok (.iload_n 1, 1) := by decide +kernel
theorem dX8_rule_39 : decode cX8_rule 39 = .ok (.iload_n 2, 1) := by decide +kernel
theorem dX8_rule_40 : decode cX8_rule 40 = .ok (.invokevirtual 68, 3) := by decide +kernel
theorem dX8_rule_43 : decode cX8_rule 43 = .ok (.istore 4, 2) := by decide +kernel
theorem dX8_rule_45 : decode cX8_rule 45 = .ok (.aload_n 0, 1) := by decide +kernel
theorem dX8_rule_46 : decode cX8_rule 46 = .ok (.getfield 7, 3) := by decide +kernel
theorem dX8_rule_49 : decode cX8_rule 49 = .ok (.iconst 3, 1) := by decide +kernel
theorem dX8_rule_50 : decode cX8_rule 50 = .ok (.iload_n 1, 1) := by decide +kernel
theorem dX8_rule_51 : decode cX8_rule 51 = .ok (.imul, 1) := by decide +kernel
theorem dX8_rule_52 : decode cX8_rule 52 = .ok (.iload_n 2, 1) := by decide +kernel
theorem dX8_rule_53 : decode cX8_rule 53 = .ok (.iadd, 1) := by decide +kernel
theorem dX8_rule_54 : decode cX8_rule 54 = .ok (.iload_n 3, 1) := by decide +kernel
theorem dX8_rule_55 : decode cX8_rule 55 = .ok (.iastore, 1) := by decide +kernel
theorem dX8_rule_56 : decode cX8_rule 56 = .ok (.iload 4, 2) := by decide +kernel
theorem dX8_rule_58 : decode cX8_rule 58 = .ok (.ireturn, 1) := by decide +kernel
set_option maxRecDepth 20000 in
theorem ggX8_ofRule_X8_isSign : GoodIn wsX8_ofRule wsX8_isSign := goodIn_r _ [4, 5, 6, 3, 7] (by decide +kernel) (by decide +kernel)
set_option maxRecDepth 20000 in
theorem gX8_ofRule_X8_isSign : GoodIn wsX8_ofRule (va_wsS RX8 54 yX8_isSign wsX8_isSign) := goodIn_app (goodIn_of _ (by decide +kernel)) ggX8_ofRule_X8_isSign
set_option maxRecDepth 20000 in
theorem ggX8_ofRule_X8_isLetter : GoodIn wsX8_ofRule wsX8_isLetter := goodIn_r _ [10, 5, 6, 3, 7] (by decide +kernel) (by decide +kernel)
set_option maxRecDepth 20000 in
theorem gX8_ofRule_X8_isLetter : GoodIn wsX8_ofRule (va_wsS RX8 58 yX8_isLetter wsX8_isLetter) := goodIn_app (goodIn_of _ (by decide +kernel)) ggX8_ofRule_X8_isLetter
set_option maxRecDepth 20000 in
theorem ggX8_ofRule_X8_ruleOf : GoodIn wsX8_ofRule wsX8_ruleOf := goodIn_r _ [14, 15, 16, 17, 18, 19, 20, 21, 22, 23, 24, 25, 26, 27, 28, 29] (by decide +kernel) (by decide +kernel)
set_option maxRecDepth 20000 in
theorem gX8_ofRule_X8_ruleOf : GoodIn wsX8_ofRule (wsV RX8 68 RX8 yX8_ruleOf wsX8_ruleOf) := goodIn_app (goodIn_of _ (by decide +kernel)) ggX8_ofRule_X8_ruleOf
theorem dX8_ofRule_0 : decode cX8_ofRule 0 = .ok (.iload_n 1, 1) := by decide +kernel
theorem dX8_ofRule_1 : decode cX8_ofRule 1 = .ok (.invokestatic 54, 3) := by decide +kernel
theorem dX8_ofRule_4 : decode cX8_ofRule 4 = .ok (.ifCond .eq 19, 3) := by decide +kernel
theorem dX8_ofRule_7 : decode cX8_ofRule 7 = .ok (.iload_n 2, 1) := by decide +kernel
theorem dX8_ofRule_8 : decode cX8_ofRule 8 = .ok (.invokestatic 58, 3) := by decide +kernel
theorem dX8_ofRule_11 : decode cX8_ofRule 11 = .ok (.ifCond .eq 12, 3) := by decide +kernel
theorem dX8_ofRule_14 : decode cX8_ofRule 14 = .ok (.aload_n 0, 1) := by decide +kernel
theorem dX8_ofRule_15 : decode cX8_ofRule 15 = .ok (.iload_n 1, 1) := by decide +kernel
theorem dX8_ofRule_16 : decode cX8_ofRule 16 = .ok (.iload_n 2, 1) := by decide +kernel
theorem dX8_ofRule_17 : decode cX8_ofRule 17 = .ok (.invokevirtual 68, 3) := by decide +kernel
theorem dX8_ofRule_20 : decode cX8_ofRule 20 = .ok (.goto 4, 3) := by decide +kernel
theorem dX8_ofRule_23 : decode cX8_ofRule 23 = .ok (.iconst (-1), 1) := by decide +kernel
theorem dX8_ofRule_24 : decode cX8_ofRule 24 = .ok (.ireturn, 1) := by decide +kernel
set_option maxRecDepth 20000 in
theorem ggX8_stacks_X8_digits : GoodIn wsX8_stacks wsX8_digits := goodIn_r _ [6, 7, 8, 9, 5, 10] (by decide +kernel) (by decide +kernel)
set_option maxRecDepth 20000 in
theorem gX8_stacks_X8_digits : GoodIn wsX8_stacks (va_wsS RX8 46 yX8_digits wsX8_digits) := goodIn_app (goodIn_of _ (by decide +kernel)) ggX8_stacks_X8_digits
set_option maxRecDepth 20000 in
theorem ggX8_stacks_X8_digitAt : GoodIn wsX8_stacks wsX8_digitAt := goodIn_r _ [13, 7] (by decide +kernel) (by decide +kernel)
set_option maxRecDepth 20000 in
theorem gX8_stacks_X8_digitAt : GoodIn wsX8_stacks (va_wsS RX8 75 yX8_digitAt wsX8_digitAt) := goodIn_app (goodIn_of _ (by decide +kernel)) ggX8_stacks_X8_digitAt
theorem dX8_stacks_0 : decode cX8_stacks 0 = .ok (.iload_n 1, 1) := by decide +kernel
theorem dX8_stacks_1 : decode cX8_stacks 1 = .ok (.i2l, 1) := by decide +kernel
theorem dX8_stacks_2 : decode cX8_stacks 2 = .ok (.bipush 6, 2) := by decide +kernel
theorem dX8_stacks_4 : decode cX8_stacks 4 = .ok (.invokestatic 46, 3) := by decide +kernel
theorem dX8_stacks_7 : decode cX8_stacks 7 = .ok (.istore_n 2, 1) := by decide +kernel
theorem dX8_stacks_8 : decode cX8_stacks 8 = .ok (.iload_n 2, 1) := by decide +kernel
theorem dX8_stacks_9 : decode cX8_stacks 9 = .ok (.iconst 1, 1) := by decide +kernel
theorem dX8_stacks_10 : decode cX8_stacks 10 = .ok (.isub, 1) := by decide +kernel
theorem dX8_stacks_11 : decode cX8_stacks 11 = .ok (.istore_n 3, 1) := by decide +kernel
theorem dX8_stacks_12 : decode cX8_stacks 12 = .ok (.iload_n 3, 1) := by decide +kernel
theorem dX8_stacks_13 : decode cX8_stacks 13 = .ok (.ifCond .lt 35, 3) := by decide +kernel
theorem dX8_stacks_16 : decode cX8_stacks 16 = .ok (.aload_n 0, 1) := by decide +kernel
theorem dX8_stacks_17 : decode cX8_stacks 17 = .ok (.getfield 16, 3) := by decide +kernel
theorem dX8_stacks_20 : decode cX8_stacks 20 = .ok (.aload_n 0, 1) := by decide +kernel
theorem dX8_stacks_21 : decode cX8_stacks 21 = .ok (.getfield 72, 3) := by decide +kernel
theorem dX8_stacks_24 : decode cX8_stacks 24 = .ok (.iload_n 1, 1) := by decide +kernel
theorem dX8_stacks_25 : decode cX8_stacks 25 = .ok (.i2l, 1) := by decide +kernel
theorem dX8_stacks_26 : decode cX8_stacks 26 = .ok (.iload_n 2, 1) := by decide +kernel
theorem dX8_stacks_27 : decode cX8_stacks 27 = .ok (.iload_n 3, 1) := by decide +kernel
theorem dX8_stacks_28 : decode cX8_stacks 28 = .ok (.invokestatic 75, 3) := by decide +kernel
theorem dX8_stacks_31 : decode cX8_stacks 31 = .ok (.iastore, 1) := by decide +kernel
theorem dX8_stacks_32 : decode cX8_stacks 32 = .ok (.aload_n 0, 1) := by decide +kernel
theorem dX8_stacks_33 : decode cX8_stacks 33 = .ok (.dup, 1) := by decide +kernel
theorem dX8_stacks_34 : decode cX8_stacks 34 = .ok (.getfield 72, 3) := by decide +kernel
theorem dX8_stacks_37 : decode cX8_stacks 37 = .ok (.iconst 1, 1) := by decide +kernel
theorem dX8_stacks_38 : decode cX8_stacks 38 = .ok (.iadd, 1) := by decide +kernel
theorem dX8_stacks_39 : decode cX8_stacks 39 = .ok (.putfield 72, 3) := by decide +kernel
theorem dX8_stacks_42 : decode cX8_stacks 42 = .ok (.iinc 3 (-1), 3) := by decide +kernel
theorem dX8_stacks_45 : decode cX8_stacks 45 = .ok (.goto (-33), 3) := by decide +kernel
theorem dX8_stacks_48 : decode cX8_stacks 48 = .ok (.return_, 1) := by decide +kernel
set_option maxRecDepth 20000 in
theorem ggX8_reads_X8_ruleOf : GoodIn wsX8_reads wsX8_ruleOf := goodIn_r _ [7, 8, 23, 24, 25, 26, 27, 28, 29, 30, 31, 32, 33, 34, 35, 36] (by decide +kernel) (by decide +kernel)
set_option maxRecDepth 20000 in
theorem gX8_reads_X8_ruleOf : GoodIn wsX8_reads (wsV RX8 68 RX8 yX8_ruleOf wsX8_ruleOf) := goodIn_app (goodIn_of _ (by decide +kernel)) ggX8_reads_X8_ruleOf
set_option maxRecDepth 20000 in
theorem ggX8_reads_X8_stacks : GoodIn wsX8_reads wsX8_stacks := goodIn_r _ [12, 2, 1, 13, 14, 6, 15, 16, 17, 18, 19, 20, 21, 22, 23, 24, 25, 26, 27, 28, 29, 30, 31, 32, 33, 34, 35, 36] (by decide +kernel) (by decide +kernel)
set_option maxRecDepth 20000 in
theorem gX8_reads_X8_stacks : GoodIn wsX8_reads (wsV RX8 79 RX8 yX8_stacks wsX8_stacks) := goodIn_app (goodIn_of _ (by decide +kernel)) ggX8_reads_X8_stacks
theorem dX8_reads_0 : decode cX8_reads 0 = .ok (.aload_n 0, 1) := by decide +kernel
theorem dX8_reads_1 : decode cX8_reads 1 = .ok (.getfield 72, 3) := by decide +kernel
theorem dX8_reads_4 : decode cX8_reads 4 = .ok (.ifCond .eq 24, 3) := by decide +kernel
theorem dX8_reads_7 : decode cX8_reads 7 = .ok (.aload_n 0, 1) := by decide +kernel
theorem dX8_reads_8 : decode cX8_reads 8 = .ok (.aload_n 0, 1) := by decide +kernel
theorem dX8_reads_9 : decode cX8_reads 9 = .ok (.getfield 16, 3) := by decide +kernel
theorem dX8_reads_12 : decode cX8_reads 12 = .ok (.aload_n 0, 1) := by decide +kernel
theorem dX8_reads_13 : decode cX8_reads 13 = .ok (.getfield 72, 3) := by decide +kernel
theorem dX8_reads_16 : decode cX8_reads 16 = .ok (.iconst 1, 1) := by decide +kernel
theorem dX8_reads_17 : decode cX8_reads 17 = .ok (.isub, 1) := by decide +kernel
theorem dX8_reads_18 : decode cX8_reads 18 = .ok (.iaload, 1) := by decide +kernel
theorem dX8_reads_19 : decode cX8_reads 19 = .ok (.iload_n 1, 1) := by decide +kernel
theorem dX8_reads_20 : decode cX8_reads 20 = .ok (.invokevirtual 68, 3) := by decide +kernel
theorem dX8_reads_23 : decode cX8_reads 23 = .ok (.bipush (-9), 2) := by decide +kernel
theorem dX8_reads_25 : decode cX8_reads 25 = .ok (.if_icmp .ne 5, 3) := by decide +kernel
theorem dX8_reads_28 : decode cX8_reads 28 = .ok (.iconst 0, 1) := by decide +kernel
theorem dX8_reads_29 : decode cX8_reads 29 = .ok (.ireturn, 1) := by decide +kernel
theorem dX8_reads_30 : decode cX8_reads 30 = .ok (.aload_n 0, 1) := by decide +kernel
theorem dX8_reads_31 : decode cX8_reads 31 = .ok (.dup, 1) := by decide +kernel
theorem dX8_reads_32 : decode cX8_reads 32 = .ok (.getfield 72, 3) := by decide +kernel
theorem dX8_reads_35 : decode cX8_reads 35 = .ok (.iconst 1, 1) := by decide +kernel
theorem dX8_reads_36 : decode cX8_reads 36 = .ok (.isub, 1) := by decide +kernel
theorem dX8_reads_37 : decode cX8_reads 37 = .ok (.putfield 72, 3) := by decide +kernel
theorem dX8_reads_40 : decode cX8_reads 40 = .ok (.aload_n 0, 1) := by decide +kernel
theorem dX8_reads_41 : decode cX8_reads 41 = .ok (.aload_n 0, 1) := by decide +kernel
theorem dX8_reads_42 : decode cX8_reads 42 = .ok (.aload_n 0, 1) := by decide +kernel
theorem dX8_reads_43 : decode cX8_reads 43 = .ok (.getfield 16, 3) := by decide +kernel
theorem dX8_reads_46 : decode cX8_reads 46 = .ok (.aload_n 0, 1) := by decide +kernel
theorem dX8_reads_47 : decode cX8_reads 47 = .ok (.getfield 72, 3) := by decide +kernel
theorem dX8_reads_50 : decode cX8_reads 50 = .ok (.iaload, 1) := by decide +kernel
theorem dX8_reads_51 : decode cX8_reads 51 = .ok (.iload_n 1, 1) := by decide +kernel
theorem dX8_reads_52 : decode cX8_reads 52 = .ok (.invokevirtual 68, 3) := by decide +kernel
theorem dX8_reads_55 : decode cX8_reads 55 = .ok (.invokevirtual 79, 3) := by decide +kernel
theorem dX8_reads_58 : decode cX8_reads 58 = .ok (.iconst 1, 1) := by decide +kernel
theorem dX8_reads_59 : decode cX8_reads 59 = .ok (.ireturn, 1) := by decide +kernel
set_option maxRecDepth 20000 in
theorem ggX8_readMany_X8_stacks : GoodIn wsX8_readMany wsX8_stacks := goodIn_r _ [6, 7, 1, 8, 9, 5, 10, 11, 12, 13, 14, 15, 16, 17, 27, 28, 29, 30, 31, 32, 33, 34, 35, 36, 37, 38, 39, 40] (by decide +kernel) (by decide +kernel)
set_option maxRecDepth 20000 in
theorem gX8_readMany_X8_stacks : GoodIn wsX8_readMany (wsV RX8 79 RX8 yX8_stacks wsX8_stacks) := goodIn_app (goodIn_of _ (by decide +kernel)) ggX8_readMany_X8_stacks
set_option maxRecDepth 20000 in
theorem ggX8_readMany_X8_digitAt : GoodIn wsX8_readMany wsX8_digitAt := goodIn_r _ [17, 11] (by decide +kernel) (by decide +kernel)
set_option maxRecDepth 20000 in
theorem gX8_readMany_X8_digitAt : GoodIn wsX8_readMany (va_wsS RX8 75 yX8_digitAt wsX8_digitAt) := goodIn_app (goodIn_of _ (by decide +kernel)) ggX8_readMany_X8_digitAt
set_option maxRecDepth 20000 in
theorem ggX8_readMany_X8_reads : GoodIn wsX8_readMany wsX8_reads := goodIn_r _ [21, 1, 7, 22, 23, 24, 5, 25, 26, 2, 3, 4, 6, 8, 9, 10, 11, 12, 13, 14, 15, 16, 17, 27, 28, 29, 30, 31, 32, 33, 34, 35, 36, 37, 38, 39, 40] (by decide +kernel) (by decide +kernel)
set_option maxRecDepth 20000 in
theorem gX8_readMany_X8_reads : GoodIn wsX8_readMany (wsV RX8 83 RX8 yX8_reads wsX8_reads) := goodIn_app (goodIn_of _ (by decide +kernel)) ggX8_readMany_X8_reads
theorem dX8_readMany_0 : decode cX8_readMany 0 = .ok (.aload_n 0, 1) := by decide +kernel
theorem dX8_readMany_1 : decode cX8_readMany 1 = .ok (.iconst 0, 1) := by decide +kernel
theorem dX8_readMany_2 : decode cX8_readMany 2 = .ok (.putfield 72, 3) := by decide +kernel
theorem dX8_readMany_5 : decode cX8_readMany 5 = .ok (.aload_n 0, 1) := by decide +kernel
theorem dX8_readMany_6 : decode cX8_readMany 6 = .ok (.iload_n 1, 1) := by decide +kernel
theorem dX8_readMany_7 : decode cX8_readMany 7 = .ok (.invokevirtual 79, 3) := by decide +kernel
theorem dX8_readMany_10 : decode cX8_readMany 10 = .ok (.iconst 0, 1) := by decide +kernel
theorem dX8_readMany_11 : decode cX8_readMany 11 = .ok (.istore 5, 2) := by decide +kernel
theorem dX8_readMany_13 : decode cX8_readMany 13 = .ok (.iload 5, 2) := by decide +kernel
theorem dX8_readMany_15 : decode cX8_readMany 15 = .ok (.iload 4, 2) := by decide +kernel
theorem dX8_readMany_17 : decode cX8_readMany 17 = .ok (.if_icmp .ge 24, 3) := by decide +kernel
theorem dX8_readMany_20 : decode cX8_readMany 20 = .ok (.aload_n 0, 1) := by decide +kernel
theorem dX8_readMany_21 : decode cX8_readMany 21 = .ok (.lload_n 2, 1) := by decide +kernel
theorem dX8_readMany_22 : decode cX8_readMany 22 = .ok (.iload 4, 2) := by decide +kernel
theorem dX8_readMany_24 : decode cX8_readMany 24 = .ok (.iload 5, 2) := by decide +kernel
theorem dX8_readMany_26 : decode cX8_readMany 26 = .ok (.invokestatic 75, 3) := by decide +kernel
theorem dX8_readMany_29 : decode cX8_readMany 29 = .ok (.invokevirtual 83, 3) := by decide +kernel
theorem dX8_readMany_32 : decode cX8_readMany 32 = .ok (.ifCond .eq 9, 3) := by decide +kernel
theorem dX8_readMany_35 : decode cX8_readMany 35 = .ok (.iinc 5 1, 3) := by decide +kernel
theorem dX8_readMany_38 : decode cX8_readMany 38 = .ok (.goto (-25), 3) := by decide +kernel
theorem dX8_readMany_41 : decode cX8_readMany 41 = .ok (.iload 5, 2) := by decide +kernel
theorem dX8_readMany_43 : decode cX8_readMany 43 = .ok (.ireturn, 1) := by decide +kernel
set_option maxRecDepth 20000 in
theorem ggX8_read_X8_digits : GoodIn wsX8_read wsX8_digits := goodIn_r _ [6, 7, 8, 9, 5, 10] (by decide +kernel) (by decide +kernel)
set_option maxRecDepth 20000 in
theorem gX8_read_X8_digits : GoodIn wsX8_read (va_wsS RX8 46 yX8_digits wsX8_digits) := goodIn_app (goodIn_of _ (by decide +kernel)) ggX8_read_X8_digits
set_option maxRecDepth 20000 in
theorem ggX8_read_X8_isRow : GoodIn wsX8_read wsX8_isRow := goodIn_r _ [13, 3, 4, 5, 6, 7, 8, 9, 10] (by decide +kernel) (by decide +kernel)
set_option maxRecDepth 20000 in
theorem gX8_read_X8_isRow : GoodIn wsX8_read (va_wsS RX8 61 yX8_isRow wsX8_isRow) := goodIn_app (goodIn_of _ (by decide +kernel)) ggX8_read_X8_isRow
set_option maxRecDepth 20000 in
theorem ggX8_read_X8_within : GoodIn wsX8_read wsX8_within := goodIn_r _ [10] (by decide +kernel) (by decide +kernel)
set_option maxRecDepth 20000 in
theorem gX8_read_X8_within : GoodIn wsX8_read (va_wsS RX8 40 yX8_within wsX8_within) := goodIn_app (goodIn_of _ (by decide +kernel)) ggX8_read_X8_within
set_option maxRecDepth 20000 in
theorem ggX8_read_X8_readMany : GoodIn wsX8_read wsX8_readMany := goodIn_r _ [17, 1, 18, 19, 20, 5, 21, 2, 3, 4, 6, 7, 8, 9, 10, 22, 23, 24, 25, 26, 27, 28, 29, 30, 31, 32, 33, 34, 35, 36, 37, 38, 39, 40, 41, 42, 43, 44, 45, 46, 47] (by decide +kernel) (by decide +kernel)
set_option maxRecDepth 20000 in
theorem gX8_read_X8_readMany : GoodIn wsX8_read (wsV RX8 86 RX8 yX8_readMany wsX8_readMany) := goodIn_app (goodIn_of _ (by decide +kernel)) ggX8_read_X8_readMany
theorem dX8_read_0 : decode cX8_read 0 = .ok (.lload_n 2, 1) := by decide +kernel
theorem dX8_read_1 : decode cX8_read 1 = .ok (.iconst 3, 1) := by decide +kernel
theorem dX8_read_2 : decode cX8_read 2 = .ok (.invokestatic 46, 3) := by decide +kernel
theorem dX8_read_5 : decode cX8_read 5 = .ok (.istore 5, 2) := by decide +kernel
theorem dX8_read_7 : decode cX8_read 7 = .ok (.iload_n 1, 1) := by decide +kernel
theorem dX8_read_8 : decode cX8_read 8 = .ok (.bipush 9, 2) := by decide +kernel
theorem dX8_read_10 : decode cX8_read 10 = .ok (.invokestatic 61, 3) := by decide +kernel
theorem dX8_read_13 : decode cX8_read 13 = .ok (.ifCond .eq 24, 3) := by decide +kernel
theorem dX8_read_16 : decode cX8_read 16 = .ok (.iload 5, 2) := by decide +kernel
theorem dX8_read_18 : decode cX8_read 18 = .ok (.iconst 0, 1) := by decide +kernel
theorem dX8_read_19 : decode cX8_read 19 = .ok (.bipush 12, 2) := by decide +kernel
theorem dX8_read_21 : decode cX8_read 21 = .ok (.invokestatic 40, 3) := by decide +kernel
theorem dX8_read_24 : decode cX8_read 24 = .ok (.ifCond .eq 13, 3) := by decide +kernel
theorem dX8_read_27 : decode cX8_read 27 = .ok (.iload 4, 2) := by decide +kernel
theorem dX8_read_29 : decode cX8_read 29 = .ok (.iconst 0, 1) := by decide +kernel
theorem dX8_read_30 : decode cX8_read 30 = .ok (.iconst 3, 1) := by decide +kernel
theorem dX8_read_31 : decode cX8_read 31 = .ok (.invokestatic 40, 3) := by decide +kernel
theorem dX8_read_34 : decode cX8_read 34 = .ok (.ifCond .ne 6, 3) := by decide +kernel
theorem dX8_read_37 : decode cX8_read 37 = .ok (.bipush (-2), 2) := by decide +kernel
theorem dX8_read_39 : decode cX8_read 39 = .ok (.ireturn, 1) := by decide +kernel
theorem dX8_read_40 : decode cX8_read 40 = .ok (.aload_n 0, 1) := by decide +kernel
theorem dX8_read_41 : decode cX8_read 41 = .ok (.iload_n 1, 1) := by decide +kernel
theorem dX8_read_42 : decode cX8_read 42 = .ok (.lload_n 2, 1) := by decide +kernel
theorem dX8_read_43 : decode cX8_read 43 = .ok (.iload 5, 2) := by decide +kernel
theorem dX8_read_45 : decode cX8_read 45 = .ok (.invokevirtual 86, 3) := by decide +kernel
theorem dX8_read_48 : decode cX8_read 48 = .ok (.istore 6, 2) := by decide +kernel
theorem dX8_read_50 : decode cX8_read 50 = .ok (.iload 4, 2) := by decide +kernel
theorem dX8_read_52 : decode cX8_read 52 = .ok (.tableswitch 60 0 2 #[28, 31, 36], 28) := by decide +kernel
theorem dX8_read_80 : decode cX8_read 80 = .ok (.iload 6, 2) := by decide +kernel
theorem dX8_read_82 : decode cX8_read 82 = .ok (.ireturn, 1) := by decide +kernel
theorem dX8_read_83 : decode cX8_read 83 = .ok (.aload_n 0, 1) := by decide +kernel
theorem dX8_read_84 : decode cX8_read 84 = .ok (.getfield 72, 3) := by decide +kernel
theorem dX8_read_87 : decode cX8_read 87 = .ok (.ireturn, 1) := by decide +kernel
theorem dX8_read_88 : decode cX8_read 88 = .ok (.aload_n 0, 1) := by decide +kernel
theorem dX8_read_89 : decode cX8_read 89 = .ok (.getfield 72, 3) := by decide +kernel
theorem dX8_read_92 : decode cX8_read 92 = .ok (.ifCond .ne 8, 3) := by decide +kernel
theorem dX8_read_95 : decode cX8_read 95 = .ok (.bipush (-9), 2) := by decide +kernel
theorem dX8_read_97 : decode cX8_read 97 = .ok (.goto 14, 3) := by decide +kernel
theorem dX8_read_100 : decode cX8_read 100 = .ok (.aload_n 0, 1) := by decide +kernel
theorem dX8_read_101 : decode cX8_read 101 = .ok (.getfield 16, 3) := by decide +kernel
theorem dX8_read_104 : decode cX8_read 104 = .ok (.aload_n 0, 1) := by decide +kernel
theorem dX8_read_105 : decode cX8_read 105 = .ok (.getfield 72, 3) := by decide +kernel
theorem dX8_read_108 : decode cX8_read 108 = .ok (.iconst 1, 1) := by decide +kernel
theorem dX8_read_109 : decode cX8_read 109 = .ok (.isub, 1) := by decide +kernel
theorem dX8_read_110 : decode cX8_read 110 = .ok (.iaload, 1) := by decide +kernel
theorem dX8_read_111 : decode cX8_read 111 = .ok (.ireturn, 1) := by decide +kernel
theorem dX8_read_112 : decode cX8_read 112 = .ok (.iload 6, 2) := by decide +kernel
theorem dX8_read_114 : decode cX8_read 114 = .ok (.iload 5, 2) := by decide +kernel
theorem dX8_read_116 : decode cX8_read 116 = .ok (.if_icmp .ne 14, 3) := by decide +kernel
theorem dX8_read_119 : decode cX8_read 119 = .ok (.aload_n 0, 1) := by decide +kernel
theorem dX8_read_120 : decode cX8_read 120 = .ok (.getfield 72, 3) := by decide +kernel
theorem dX8_read_123 : decode cX8_read 123 = .ok (.ifCond .ne 7, 3) := by decide +kernel
theorem dX8_read_126 : decode cX8_read 126 = .ok (.iconst 1, 1) := by decide +kernel
theorem dX8_read_127 : decode cX8_read 127 = .ok (.goto 4, 3) := by decide +kernel
theorem dX8_read_130 : decode cX8_read 130 = .ok (.iconst 0, 1) := by decide +kernel
theorem dX8_read_131 : decode cX8_read 131 = .ok (.ireturn, 1) := by decide +kernel
set_option maxRecDepth 20000 in
theorem ggX8_normOf_X8_digits : GoodIn wsX8_normOf wsX8_digits := goodIn_r _ [5, 6, 7, 8, 4, 9] (by decide +kernel) (by decide +kernel)
set_option maxRecDepth 20000 in
theorem gX8_normOf_X8_digits : GoodIn wsX8_normOf (va_wsS RX8 46 yX8_digits wsX8_digits) := goodIn_app (goodIn_of _ (by decide +kernel)) ggX8_normOf_X8_digits
set_option maxRecDepth 20000 in
theorem ggX8_normOf_X8_digitAt : GoodIn wsX8_normOf wsX8_digitAt := goodIn_r _ [12, 6] (by decide +kernel) (by decide +kernel)
set_option maxRecDepth 20000 in
theorem gX8_normOf_X8_digitAt : GoodIn wsX8_normOf (va_wsS RX8 75 yX8_digitAt wsX8_digitAt) := goodIn_app (goodIn_of _ (by decide +kernel)) ggX8_normOf_X8_digitAt
theorem dX8_normOf_0 : decode cX8_normOf 0 = .ok (.iload_n 1, 1) := by decide +kernel
theorem dX8_normOf_1 : decode cX8_normOf 1 = .ok (.i2l, 1) := by decide +kernel
theorem dX8_normOf_2 : decode cX8_normOf 2 = .ok (.bipush 6, 2) := by decide +kernel
theorem dX8_normOf_4 : decode cX8_normOf 4 = .ok (.invokestatic 46, 3) := by decide +kernel
theorem dX8_normOf_7 : decode cX8_normOf 7 = .ok (.istore_n 2, 1) := by decide +kernel
theorem dX8_normOf_8 : decode cX8_normOf 8 = .ok (.iconst 0, 1) := by decide +kernel
theorem dX8_normOf_9 : decode cX8_normOf 9 = .ok (.istore_n 3, 1) := by decide +kernel
theorem dX8_normOf_10 : decode cX8_normOf 10 = .ok (.iconst 0, 1) := by decide +kernel
theorem dX8_normOf_11 : decode cX8_normOf 11 = .ok (.istore 4, 2) := by decide +kernel
theorem dX8_normOf_13 : decode cX8_normOf 13 = .ok (.iload 4, 2) := by decide +kernel
theorem dX8_normOf_15 : decode cX8_normOf 15 = .ok (.iload_n 2, 1) := by decide +kernel
theorem dX8_normOf_16 : decode cX8_normOf 16 = .ok (.if_icmp .ge 39, 3) := by decide +kernel
theorem dX8_normOf_19 : decode cX8_normOf 19 = .ok (.aload_n 0, 1) := by decide +kernel
theorem dX8_normOf_20 : decode cX8_normOf 20 = .ok (.getfield 19, 3) := by decide +kernel
theorem dX8_normOf_23 : decode cX8_normOf 23 = .ok (.iload_n 1, 1) := by decide +kernel
theorem dX8_normOf_24 : decode cX8_normOf 24 = .ok (.i2l, 1) := by decide +kernel
theorem dX8_normOf_25 : decode cX8_normOf 25 = .ok (.iload_n 2, 1) := by decide +kernel
theorem dX8_normOf_26 : decode cX8_normOf 26 = .ok (.iload 4, 2) := by decide +kernel
theorem dX8_normOf_28 : decode cX8_normOf 28 = .ok (.invokestatic 75, 3) := by decide +kernel
theorem dX8_normOf_31 : decode cX8_normOf 31 = .ok (.iaload, 1) := by decide +kernel
theorem dX8_normOf_32 : decode cX8_normOf 32 = .ok (.istore 5, 2) := by decide +kernel
theorem dX8_normOf_34 : decode cX8_normOf 34 = .ok (.iload 5, 2) := by decide +kernel
theorem dX8_normOf_36 : decode cX8_normOf 36 = .ok (.bipush (-9), 2) := by decide +kernel
theorem dX8_normOf_38 : decode cX8_normOf 38 = .ok (.if_icmp .ne 6, 3) := by decide +kernel
theorem dX8_normOf_41 : decode cX8_normOf 41 = .ok (.bipush (-9), 2) := by decide +kernel
theorem dX8_normOf_43 : decode cX8_normOf 43 = .ok (.ireturn, 1) := by decide +kernel
theorem dX8_normOf_44 : decode cX8_normOf 44 = .ok (.iload_n 3, 1) := by decide +kernel
theorem dX8_normOf_45 : decode cX8_normOf 45 = .ok (.iload 5, 2) := by decide +kernel
theorem dX8_normOf_47 : decode cX8_normOf 47 = .ok (.iadd, 1) := by decide +kernel
theorem dX8_normOf_48 : decode cX8_normOf 48 = .ok (.istore_n 3, 1) := by decide +kernel
theorem dX8_normOf_49 : decode cX8_normOf 49 = .ok (.iinc 4 1, 3) := by decide +kernel
theorem dX8_normOf_52 : decode cX8_normOf 52 = .ok (.goto (-39), 3) := by decide +kernel
theorem dX8_normOf_55 : decode cX8_normOf 55 = .ok (.iload_n 3, 1) := by decide +kernel
theorem dX8_normOf_56 : decode cX8_normOf 56 = .ok (.ireturn, 1) := by decide +kernel
set_option maxRecDepth 20000 in
theorem ggX8_findNorms_X8_normOf : GoodIn wsX8_findNorms wsX8_normOf := goodIn_r _ [7, 1, 8, 9, 6, 10, 11, 12, 13, 14, 15, 16, 17, 18, 19, 20, 21, 22, 23, 24, 25, 26, 27, 28, 29, 30, 31] (by decide +kernel) (by decide +kernel)
set_option maxRecDepth 20000 in
theorem gX8_findNorms_X8_normOf : GoodIn wsX8_findNorms (wsV RX8 90 RX8 yX8_normOf wsX8_normOf) := goodIn_app (goodIn_of _ (by decide +kernel)) ggX8_findNorms_X8_normOf
theorem dX8_findNorms_0 : decode cX8_findNorms 0 = .ok (.iconst 0, 1) := by decide +kernel
theorem dX8_findNorms_1 : decode cX8_findNorms 1 = .ok (.istore_n 1, 1) := by decide +kernel
theorem dX8_findNorms_2 : decode cX8_findNorms 2 = .ok (.iload_n 1, 1) := by decide +kernel
theorem dX8_findNorms_3 : decode cX8_findNorms 3 = .ok (.bipush 6, 2) := by decide +kernel
theorem dX8_findNorms_5 : decode cX8_findNorms 5 = .ok (.if_icmp .ge 17, 3) := by decide +kernel
theorem dX8_findNorms_8 : decode cX8_findNorms 8 = .ok (.aload_n 0, 1) := by decide +kernel
theorem dX8_findNorms_9 : decode cX8_findNorms 9 = .ok (.getfield 19, 3) := by decide +kernel
theorem dX8_findNorms_12 : decode cX8_findNorms 12 = .ok (.iload_n 1, 1) := by decide +kernel
theorem dX8_findNorms_13 : decode cX8_findNorms 13 = .ok (.bipush (-9), 2) := by decide +kernel
theorem dX8_findNorms_15 : decode cX8_findNorms 15 = .ok (.iastore, 1) := by decide +kernel
theorem dX8_findNorms_16 : decode cX8_findNorms 16 = .ok (.iinc 1 1, 3) := by decide +kernel
theorem dX8_findNorms_19 : decode cX8_findNorms 19 = .ok (.goto (-17), 3) := by decide +kernel
theorem dX8_findNorms_22 : decode cX8_findNorms 22 = .ok (.iconst 1, 1) := by decide +kernel
theorem dX8_findNorms_23 : decode cX8_findNorms 23 = .ok (.istore_n 1, 1) := by decide +kernel
theorem dX8_findNorms_24 : decode cX8_findNorms 24 = .ok (.iload_n 1, 1) := by decide +kernel
theorem dX8_findNorms_25 : decode cX8_findNorms 25 = .ok (.ifCond .eq 97, 3) := by decide +kernel
theorem dX8_findNorms_28 : decode cX8_findNorms 28 = .ok (.iconst 0, 1) := by decide +kernel
theorem dX8_findNorms_29 : decode cX8_findNorms 29 = .ok (.istore_n 1, 1) := by decide +kernel
theorem dX8_findNorms_30 : decode cX8_findNorms 30 = .ok (.iconst 0, 1) := by decide +kernel
theorem dX8_findNorms_31 : decode cX8_findNorms 31 = .ok (.istore_n 2, 1) := by decide +kernel
theorem dX8_findNorms_32 : decode cX8_findNorms 32 = .ok (.iload_n 2, 1) := by decide +kernel
theorem dX8_findNorms_33 : decode cX8_findNorms 33 = .ok (.bipush 18, 2) := by decide +kernel
theorem dX8_findNorms_35 : decode cX8_findNorms 35 = .ok (.if_icmp .ge 84, 3) := by decide +kernel
theorem dX8_findNorms_38 : decode cX8_findNorms 38 = .ok (.aload_n 0, 1) := by decide +kernel
theorem dX8_findNorms_39 : decode cX8_findNorms 39 = .ok (.getfield 7, 3) := by decide +kernel
theorem dX8_findNorms_42 : decode cX8_findNorms 42 = .ok (.iload_n 2, 1) := by decide +kernel
theorem dX8_findNorms_43 : decode cX8_findNorms 43 = .ok (.iaload, 1) := by decide +kernel
theorem dX8_findNorms_44 : decode cX8_findNorms 44 = .ok (.bipush (-9), 2) := by decide +kernel
theorem dX8_findNorms_46 : decode cX8_findNorms 46 = .ok (.if_icmp .ne 8, 3) := by decide +kernel
theorem dX8_findNorms_49 : decode cX8_findNorms 49 = .ok (.bipush (-9), 2) := by decide +kernel
theorem dX8_findNorms_51 : decode cX8_findNorms 51 = .ok (.goto 13, 3) := by decide +kernel
theorem dX8_findNorms_54 : decode cX8_findNorms 54 = .ok (.aload_n 0, 1) := by decide +kernel
theorem dX8_findNorms_55 : decode cX8_findNorms 55 = .ok (.aload_n 0, 1) := by decide +kernel
theorem dX8_findNorms_56 : decode cX8_findNorms 56 = .ok (.getfield 7, 3) := by decide +kernel
theorem dX8_findNorms_59 : decode cX8_findNorms 59 = .ok (.iload_n 2, 1) := by decide +kernel
theorem dX8_findNorms_60 : decode cX8_findNorms 60 = .ok (.iaload, 1) := by decide +kernel
theorem dX8_findNorms_61 : decode cX8_findNorms 61 = .ok (.invokevirtual 90, 3) := by decide +kernel
theorem dX8_findNorms_64 : decode cX8_findNorms 64 = .ok (.istore_n 3, 1) := by decide +kernel
theorem dX8_findNorms_65 : decode cX8_findNorms 65 = .ok (.iload_n 2, 1) := by decide +kernel
theorem dX8_findNorms_66 : decode cX8_findNorms 66 = .ok (.iconst 3, 1) := by decide +kernel
theorem dX8_findNorms_67 : decode cX8_findNorms 67 = .ok (.idiv, 1) := by decide +kernel
theorem dX8_findNorms_68 : decode cX8_findNorms 68 = .ok (.istore 4, 2) := by decide +kernel
theorem dX8_findNorms_70 : decode cX8_findNorms 70 = .ok (.iload_n 3, 1) := by decide +kernel
theorem dX8_findNorms_71 : decode cX8_findNorms 71 = .ok (.bipush (-9), 2) := by decide +kernel
theorem dX8_findNorms_73 : decode cX8_findNorms 73 = .ok (.if_icmp .eq 40, 3) := by decide +kernel
theorem dX8_findNorms_76 : decode cX8_findNorms 76 = .ok (.aload_n 0, 1) := by decide +kernel
theorem dX8_findNorms_77 : decode cX8_findNorms 77 = .ok (.getfield 19, 3) := by decide +kernel
theorem dX8_findNorms_80 : decode cX8_findNorms 80 = .ok (.iload 4, 2) := by decide +kernel
theorem dX8_findNorms_82 : decode cX8_findNorms 82 = .ok (.iaload, 1) := by decide +kernel
theorem dX8_findNorms_83 : decode cX8_findNorms 83 = .ok (.bipush (-9), 2) := by decide +kernel
theorem dX8_findNorms_85 : decode cX8_findNorms 85 = .ok (.if_icmp .eq 16, 3) := by decide +kernel
theorem dX8_findNorms_88 : decode cX8_findNorms 88 = .ok (.iload_n 3, 1) := by decide +kernel
theorem dX8_findNorms_89 : decode cX8_findNorms 89 = .ok (.iconst 1, 1) := by decide +kernel
theorem dX8_findNorms_90 : decode cX8_findNorms 90 = .ok (.iadd, 1) := by decide +kernel
theorem dX8_findNorms_91 : decode cX8_findNorms 91 = .ok (.aload_n 0, 1) := by decide +kernel
theorem dX8_findNorms_92 : decode cX8_findNorms 92 = .ok (.getfield 19, 3) := by decide +kernel
theorem dX8_findNorms_95 : decode cX8_findNorms 95 = .ok (.iload 4, 2) := by decide +kernel
theorem dX8_findNorms_97 : decode cX8_findNorms 97 = .ok (.iaload, 1) := by decide +kernel
theorem dX8_findNorms_98 : decode cX8_findNorms 98 = .ok (.if_icmp .ge 15, 3) := by decide +kernel
theorem dX8_findNorms_101 : decode cX8_findNorms 101 = .ok (.aload_n 0, 1) := by decide +kernel
theorem dX8_findNorms_102 : decode cX8_findNorms 102 = .ok (.getfield 19, 3) := by decide +kernel
theorem dX8_findNorms_105 : decode cX8_findNorms 105 = .ok (.iload 4, 2) := by decide +kernel
theorem dX8_findNorms_107 : decode cX8_findNorms 107 = .ok (.iload_n 3, 1) := by decide +kernel
theorem dX8_findNorms_108 : decode cX8_findNorms 108 = .ok (.iconst 1, 1) := by decide +kernel
theorem dX8_findNorms_109 : decode cX8_findNorms 109 = .ok (.iadd, 1) := by decide +kernel
theorem dX8_findNorms_110 : decode cX8_findNorms 110 = .ok (.iastore, 1) := by decide +kernel
theorem dX8_findNorms_111 : decode cX8_findNorms 111 = .ok (.iconst 1, 1) := by decide +kernel
theorem dX8_findNorms_112 : decode cX8_findNorms 112 = .ok (.istore_n 1, 1) := by decide +kernel
theorem dX8_findNorms_113 : decode cX8_findNorms 113 = .ok (.iinc 2 1, 3) := by decide +kernel
theorem dX8_findNorms_116 : decode cX8_findNorms 116 = .ok (.goto (-84), 3) := by decide +kernel
theorem dX8_findNorms_119 : decode cX8_findNorms 119 = .ok (.goto (-95), 3) := by decide +kernel
theorem dX8_findNorms_122 : decode cX8_findNorms 122 = .ok (.return_, 1) := by decide +kernel
set_option maxRecDepth 20000 in
theorem ggX8_norm_X8_isRow : GoodIn wsX8_norm wsX8_isRow := goodIn_r _ [4, 5, 6, 3, 7, 8, 9, 10, 11] (by decide +kernel) (by decide +kernel)
set_option maxRecDepth 20000 in
theorem gX8_norm_X8_isRow : GoodIn wsX8_norm (va_wsS RX8 61 yX8_isRow wsX8_isRow) := goodIn_app (goodIn_of _ (by decide +kernel)) ggX8_norm_X8_isRow
set_option maxRecDepth 20000 in
theorem ggX8_norm_X8_findNorms : GoodIn wsX8_norm wsX8_findNorms := goodIn_r _ [15, 16, 17, 18, 19, 20, 3, 21, 5, 6, 7, 8, 9, 10, 11, 22, 23, 24, 25, 26, 27, 28, 29, 30, 31, 32, 33, 34, 35, 36, 37, 38] (by decide +kernel) (by decide +kernel)
set_option maxRecDepth 20000 in
theorem gX8_norm_X8_findNorms : GoodIn wsX8_norm (wsV RX8 94 RX8 yX8_findNorms wsX8_findNorms) := goodIn_app (goodIn_of _ (by decide +kernel)) ggX8_norm_X8_findNorms
set_option maxRecDepth 20000 in
theorem ggX8_norm_X8_normOf : GoodIn wsX8_norm wsX8_normOf := goodIn_r _ [21, 16, 5, 6, 3, 7, 8, 9, 10, 11, 22, 23, 24, 25, 26, 27, 28, 29, 30, 31, 32, 33, 34, 35, 36, 37, 38] (by decide +kernel) (by decide +kernel)
set_option maxRecDepth 20000 in
theorem gX8_norm_X8_normOf : GoodIn wsX8_norm (wsV RX8 90 RX8 yX8_normOf wsX8_normOf) := goodIn_app (goodIn_of _ (by decide +kernel)) ggX8_norm_X8_normOf
theorem dX8_norm_0 : decode cX8_norm 0 = .ok (.iload_n 1, 1) := by decide +kernel
theorem dX8_norm_1 : decode cX8_norm 1 = .ok (.bipush 9, 2) := by decide +kernel
theorem dX8_norm_3 : decode cX8_norm 3 = .ok (.invokestatic 61, 3) := by decide +kernel
theorem dX8_norm_6 : decode cX8_norm 6 = .ok (.ifCond .ne 6, 3) := by decide +kernel
theorem dX8_norm_9 : decode cX8_norm 9 = .ok (.bipush (-2), 2) := by decide +kernel
theorem dX8_norm_11 : decode cX8_norm 11 = .ok (.ireturn, 1) := by decide +kernel
theorem dX8_norm_12 : decode cX8_norm 12 = .ok (.aload_n 0, 1) := by decide +kernel
theorem dX8_norm_13 : decode cX8_norm 13 = .ok (.invokevirtual 94, 3) := by decide +kernel
theorem dX8_norm_16 : decode cX8_norm 16 = .ok (.aload_n 0, 1) := by decide +kernel
theorem dX8_norm_17 : decode cX8_norm 17 = .ok (.iload_n 1, 1) := by decide +kernel
theorem dX8_norm_18 : decode cX8_norm 18 = .ok (.invokevirtual 90, 3) := by decide +kernel
theorem dX8_norm_21 : decode cX8_norm 21 = .ok (.ireturn, 1) := by decide +kernel
set_option maxRecDepth 20000 in
theorem ggX8_least_X8_isRow : GoodIn wsX8_least wsX8_isRow := goodIn_r _ [10, 11, 12, 9, 13, 6, 14, 15, 16] (by decide +kernel) (by decide +kernel)
set_option maxRecDepth 20000 in
theorem gX8_least_X8_isRow : GoodIn wsX8_least (va_wsS RX8 61 yX8_isRow wsX8_isRow) := goodIn_app (goodIn_of _ (by decide +kernel)) ggX8_least_X8_isRow
set_option maxRecDepth 20000 in
theorem ggX8_least_X8_findNorms : GoodIn wsX8_least wsX8_findNorms := goodIn_r _ [20, 5, 21, 22, 23, 24, 9, 25, 11, 12, 13, 6, 14, 15, 16, 26, 27, 28, 41, 42, 43, 44, 45, 46, 47, 48, 49, 50, 51, 52, 53, 54] (by decide +kernel) (by decide +kernel)
set_option maxRecDepth 20000 in
theorem gX8_least_X8_findNorms : GoodIn wsX8_least (wsV RX8 94 RX8 yX8_findNorms wsX8_findNorms) := goodIn_app (goodIn_of _ (by decide +kernel)) ggX8_least_X8_findNorms
set_option maxRecDepth 20000 in
theorem ggX8_least_X8_normOf : GoodIn wsX8_least wsX8_normOf := goodIn_r _ [25, 5, 11, 12, 9, 13, 6, 14, 15, 16, 26, 27, 28, 41, 42, 43, 44, 45, 46, 47, 48, 49, 50, 51, 52, 53, 54] (by decide +kernel) (by decide +kernel)
set_option maxRecDepth 20000 in
theorem gX8_least_X8_normOf : GoodIn wsX8_least (wsV RX8 90 RX8 yX8_normOf wsX8_normOf) := goodIn_app (goodIn_of _ (by decide +kernel)) ggX8_least_X8_normOf
set_option maxRecDepth 20000 in
theorem ggX8_least_X8_stacks : GoodIn wsX8_least wsX8_stacks := goodIn_r _ [32, 4, 3, 11, 12, 9, 13, 6, 14, 15, 16, 26, 27, 28, 41, 42, 43, 44, 45, 46, 47, 48, 49, 50, 51, 52, 53, 54] (by decide +kernel) (by decide +kernel)
set_option maxRecDepth 20000 in
theorem gX8_least_X8_stacks : GoodIn wsX8_least (wsV RX8 79 RX8 yX8_stacks wsX8_stacks) := goodIn_app (goodIn_of _ (by decide +kernel)) ggX8_least_X8_stacks
set_option maxRecDepth 20000 in
theorem ggX8_least_X8_ruleOf : GoodIn wsX8_least wsX8_ruleOf := goodIn_r _ [36, 21, 41, 42, 43, 44, 45, 46, 47, 48, 49, 50, 51, 52, 53, 54] (by decide +kernel) (by decide +kernel)
set_option maxRecDepth 20000 in
theorem gX8_least_X8_ruleOf : GoodIn wsX8_least (wsV RX8 68 RX8 yX8_ruleOf wsX8_ruleOf) := goodIn_app (goodIn_of _ (by decide +kernel)) ggX8_least_X8_ruleOf
