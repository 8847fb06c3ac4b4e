set_option maxRecDepth 20000 in
theorem ggX8_least_X8_reads : GoodIn wsX8_least wsX8_reads := goodIn_r _ [40, 3, 4, 33, 34, 35, 9, 36, 21, 29, 30, 31, 32, 11, 12, 13, 6, 14, 15, 16, 26, 27, 28, 41, 42, 43, 44, 45, 46, 47, 48, 49, 50, 51, 52, 53, 54] (by decide +kernel) (by decide +kernel)
set_option maxRecDepth 20000 in
theorem gX8_least_X8_reads : GoodIn wsX8_least (wsV RX8 83 RX8 yX8_reads wsX8_reads) := goodIn_app (goodIn_of _ (by decide +kernel)) ggX8_least_X8_reads
theorem dX8_least_0 : decode cX8_least 0 = .ok (.iload_n 1, 1) := by decide +kernel
theorem dX8_least_1 : decode cX8_least 1 = .ok (.bipush 9, 2) := by decide +kernel
theorem dX8_least_3 : decode cX8_least 3 = .ok (.invokestatic 61, 3) := by decide +kernel
theorem dX8_least_6 : decode cX8_least 6 = .ok (.ifCond .ne 7, 3) := by decide +kernel
theorem dX8_least_9 : decode cX8_least 9 = .ok (.ldc2_w 97, 3) := by decide +kernel
theorem dX8_least_12 : decode cX8_least 12 = .ok (.lreturn, 1) := by decide +kernel
theorem dX8_least_13 : decode cX8_least 13 = .ok (.aload_n 0, 1) := by decide +kernel
theorem dX8_least_14 : decode cX8_least 14 = .ok (.invokevirtual 94, 3) := by decide +kernel
theorem dX8_least_17 : decode cX8_least 17 = .ok (.aload_n 0, 1) := by decide +kernel
theorem dX8_least_18 : decode cX8_least 18 = .ok (.iload_n 1, 1) := by decide +kernel
theorem dX8_least_19 : decode cX8_least 19 = .ok (.invokevirtual 90, 3) := by decide +kernel
theorem dX8_least_22 : decode cX8_least 22 = .ok (.istore_n 2, 1) := by decide +kernel
theorem dX8_least_23 : decode cX8_least 23 = .ok (.iload_n 2, 1) := by decide +kernel
theorem dX8_least_24 : decode cX8_least 24 = .ok (.bipush (-9), 2) := by decide +kernel
theorem dX8_least_26 : decode cX8_least 26 = .ok (.if_icmp .eq 9, 3) := by decide +kernel
theorem dX8_least_29 : decode cX8_least 29 = .ok (.iload_n 2, 1) := by decide +kernel
theorem dX8_least_30 : decode cX8_least 30 = .ok (.bipush 12, 2) := by decide +kernel
theorem dX8_least_32 : decode cX8_least 32 = .ok (.if_icmp .le 7, 3) := by decide +kernel
theorem dX8_least_35 : decode cX8_least 35 = .ok (.ldc2_w 99, 3) := by decide +kernel
theorem dX8_least_38 : decode cX8_least 38 = .ok (.lreturn, 1) := by decide +kernel
theorem dX8_least_39 : decode cX8_least 39 = .ok (.lconst 0, 1) := by decide +kernel
theorem dX8_least_40 : decode cX8_least 40 = .ok (.lstore_n 3, 1) := by decide +kernel
theorem dX8_least_41 : decode cX8_least 41 = .ok (.aload_n 0, 1) := by decide +kernel
theorem dX8_least_42 : decode cX8_least 42 = .ok (.iconst 0, 1) := by decide +kernel
theorem dX8_least_43 : decode cX8_least 43 = .ok (.putfield 72, 3) := by decide +kernel
theorem dX8_least_46 : decode cX8_least 46 = .ok (.aload_n 0, 1) := by decide +kernel
theorem dX8_least_47 : decode cX8_least 47 = .ok (.iload_n 1, 1) := by decide +kernel
theorem dX8_least_48 : decode cX8_least 48 = .ok (.invokevirtual 79, 3) := by decide +kernel
theorem dX8_least_51 : decode cX8_least 51 = .ok (.aload_n 0, 1) := by decide +kernel
theorem dX8_least_52 : decode cX8_least 52 = .ok (.getfield 72, 3) := by decide +kernel
theorem dX8_least_55 : decode cX8_least 55 = .ok (.ifCond .le 101, 3) := by decide +kernel
theorem dX8_least_58 : decode cX8_least 58 = .ok (.aload_n 0, 1) := by decide +kernel
theorem dX8_least_59 : decode cX8_least 59 = .ok (.getfield 16, 3) := by decide +kernel
theorem dX8_least_62 : decode cX8_least 62 = .ok (.aload_n 0, 1) := by decide +kernel
theorem dX8_least_63 : decode cX8_least 63 = .ok (.getfield 72, 3) := by decide +kernel
theorem dX8_least_66 : decode cX8_least 66 = .ok (.iconst 1, 1) := by decide +kernel
theorem dX8_least_67 : decode cX8_least 67 = .ok (.isub, 1) := by decide +kernel
theorem dX8_least_68 : decode cX8_least 68 = .ok (.iaload, 1) := by decide +kernel
theorem dX8_least_69 : decode cX8_least 69 = .ok (.istore 5, 2) := by decide +kernel
theorem dX8_least_71 : decode cX8_least 71 = .ok (.iconst 0, 1) := by decide +kernel
theorem dX8_least_72 : decode cX8_least 72 = .ok (.istore 6, 2) := by decide +kernel
theorem dX8_least_74 : decode cX8_least 74 = .ok (.aload_n 0, 1) := by decide +kernel
theorem dX8_least_75 : decode cX8_least 75 = .ok (.iload 5, 2) := by decide +kernel
theorem dX8_least_77 : decode cX8_least 77 = .ok (.iload 6, 2) := by decide +kernel
theorem dX8_least_79 : decode cX8_least 79 = .ok (.invokevirtual 68, 3) := by decide +kernel
theorem dX8_least_82 : decode cX8_least 82 = .ok (.bipush (-9), 2) := by decide +kernel
theorem dX8_least_84 : decode cX8_least 84 = .ok (.if_icmp .eq 44, 3) := by decide +kernel
theorem dX8_least_87 : decode cX8_least 87 = .ok (.aload_n 0, 1) := by decide +kernel
theorem dX8_least_88 : decode cX8_least 88 = .ok (.aload_n 0, 1) := by decide +kernel
theorem dX8_least_89 : decode cX8_least 89 = .ok (.iload 5, 2) := by decide +kernel
theorem dX8_least_91 : decode cX8_least 91 = .ok (.iload 6, 2) := by decide +kernel
theorem dX8_least_93 : decode cX8_least 93 = .ok (.invokevirtual 68, 3) := by decide +kernel
theorem dX8_least_96 : decode cX8_least 96 = .ok (.invokevirtual 90, 3) := by decide +kernel
theorem dX8_least_99 : decode cX8_least 99 = .ok (.bipush (-9), 2) := by decide +kernel
theorem dX8_least_101 : decode cX8_least 101 = .ok (.if_icmp .eq 27, 3) := by decide +kernel
theorem dX8_least_104 : decode cX8_least 104 = .ok (.aload_n 0, 1) := by decide +kernel
theorem dX8_least_105 : decode cX8_least 105 = .ok (.aload_n 0, 1) := by decide +kernel
theorem dX8_least_106 : decode cX8_least 106 = .ok (.iload 5, 2) := by decide +kernel
theorem dX8_least_108 : decode cX8_least 108 = .ok (.iload 6, 2) := by decide +kernel
theorem dX8_least_110 : decode cX8_least 110 = .ok (.invokevirtual 68, 3) := by decide +kernel
theorem dX8_least_113 : decode cX8_least 113 = .ok (.invokevirtual 90, 3) := by decide +kernel
theorem dX8_least_116 : decode cX8_least 116 = .ok (.iconst 1, 1) := by decide +kernel
theorem dX8_least_117 : decode cX8_least 117 = .ok (.iadd, 1) := by decide +kernel
theorem dX8_least_118 : decode cX8_least 118 = .ok (.aload_n 0, 1) := by decide +kernel
theorem dX8_least_119 : decode cX8_least 119 = .ok (.getfield 19, 3) := by decide +kernel
theorem dX8_least_122 : decode cX8_least 122 = .ok (.iload 5, 2) := by decide +kernel
theorem dX8_least_124 : decode cX8_least 124 = .ok (.iaload, 1) := by decide +kernel
theorem dX8_least_125 : decode cX8_least 125 = .ok (.if_icmp .eq 9, 3) := by decide +kernel
theorem dX8_least_128 : decode cX8_least 128 = .ok (.iinc 6 1, 3) := by decide +kernel
theorem dX8_least_131 : decode cX8_least 131 = .ok (.goto (-57), 3) := by decide +kernel
theorem dX8_least_134 : decode cX8_least 134 = .ok (.ldc2_w 44, 3) := by decide +kernel
theorem dX8_least_137 : decode cX8_least 137 = .ok (.lload_n 3, 1) := by decide +kernel
theorem dX8_least_138 : decode cX8_least 138 = .ok (.lmul, 1) := by decide +kernel
theorem dX8_least_139 : decode cX8_least 139 = .ok (.iload 6, 2) := by decide +kernel
theorem dX8_least_141 : decode cX8_least 141 = .ok (.i2l, 1) := by decide +kernel
theorem dX8_least_142 : decode cX8_least 142 = .ok (.ladd, 1) := by decide +kernel
theorem dX8_least_143 : decode cX8_least 143 = .ok (.lconst 1, 1) := by decide +kernel
theorem dX8_least_144 : decode cX8_least 144 = .ok (.ladd, 1) := by decide +kernel
theorem dX8_least_145 : decode cX8_least 145 = .ok (.lstore_n 3, 1) := by decide +kernel
theorem dX8_least_146 : decode cX8_least 146 = .ok (.aload_n 0, 1) := by decide +kernel
theorem dX8_least_147 : decode cX8_least 147 = .ok (.iload 6, 2) := by decide +kernel
theorem dX8_least_149 : decode cX8_least 149 = .ok (.invokevirtual 83, 3) := by decide +kernel
theorem dX8_least_152 : decode cX8_least 152 = .ok (.pop, 1) := by decide +kernel
theorem dX8_least_153 : decode cX8_least 153 = .ok (.goto (-102), 3) := by decide +kernel
theorem dX8_least_156 : decode cX8_least 156 = .ok (.lload_n 3, 1) := by decide +kernel
theorem dX8_least_157 : decode cX8_least 157 = .ok (.lreturn, 1) := by decide +kernel
set_option maxRecDepth 20000 in
theorem ggX8_countsRow_X8_digits : GoodIn wsX8_countsRow wsX8_digits := goodIn_r _ [7, 8, 9, 10, 6, 11] (by decide +kernel) (by decide +kernel)
set_option maxRecDepth 20000 in
theorem gX8_countsRow_X8_digits : GoodIn wsX8_countsRow (va_wsS RX8 46 yX8_digits wsX8_digits) := goodIn_app (goodIn_of _ (by decide +kernel)) ggX8_countsRow_X8_digits
set_option maxRecDepth 20000 in
theorem ggX8_countsRow_X8_digitAt : GoodIn wsX8_countsRow wsX8_digitAt := goodIn_r _ [14, 8] (by decide +kernel) (by decide +kernel)
set_option maxRecDepth 20000 in
theorem gX8_countsRow_X8_digitAt : GoodIn wsX8_countsRow (va_wsS RX8 75 yX8_digitAt wsX8_digitAt) := goodIn_app (goodIn_of _ (by decide +kernel)) ggX8_countsRow_X8_digitAt
theorem dX8_countsRow_0 : decode cX8_countsRow 0 = .ok (.iload_n 1, 1) := by decide +kernel
theorem dX8_countsRow_1 : decode cX8_countsRow 1 = .ok (.i2l, 1) := by decide +kernel
theorem dX8_countsRow_2 : decode cX8_countsRow 2 = .ok (.bipush 6, 2) := by decide +kernel
theorem dX8_countsRow_4 : decode cX8_countsRow 4 = .ok (.invokestatic 46, 3) := by decide +kernel
theorem dX8_countsRow_7 : decode cX8_countsRow 7 = .ok (.istore_n 3, 1) := by decide +kernel
theorem dX8_countsRow_8 : decode cX8_countsRow 8 = .ok (.iconst 0, 1) := by decide +kernel
theorem dX8_countsRow_9 : decode cX8_countsRow 9 = .ok (.istore 4, 2) := by decide +kernel
theorem dX8_countsRow_11 : decode cX8_countsRow 11 = .ok (.iload 4, 2) := by decide +kernel
theorem dX8_countsRow_13 : decode cX8_countsRow 13 = .ok (.bipush 12, 2) := by decide +kernel
theorem dX8_countsRow_15 : decode cX8_countsRow 15 = .ok (.if_icmp .gt 26, 3) := by decide +kernel
theorem dX8_countsRow_18 : decode cX8_countsRow 18 = .ok (.aload_n 0, 1) := by decide +kernel
theorem dX8_countsRow_19 : decode cX8_countsRow 19 = .ok (.getfield 25, 3) := by decide +kernel
theorem dX8_countsRow_22 : decode cX8_countsRow 22 = .ok (.iload 4, 2) := by decide +kernel
theorem dX8_countsRow_24 : decode cX8_countsRow 24 = .ok (.iload 4, 2) := by decide +kernel
theorem dX8_countsRow_26 : decode cX8_countsRow 26 = .ok (.ifCond .ne 7, 3) := by decide +kernel
theorem dX8_countsRow_29 : decode cX8_countsRow 29 = .ok (.iconst 1, 1) := by decide +kernel
theorem dX8_countsRow_30 : decode cX8_countsRow 30 = .ok (.goto 4, 3) := by decide +kernel
theorem dX8_countsRow_33 : decode cX8_countsRow 33 = .ok (.iconst 0, 1) := by decide +kernel
theorem dX8_countsRow_34 : decode cX8_countsRow 34 = .ok (.iastore, 1) := by decide +kernel
theorem dX8_countsRow_35 : decode cX8_countsRow 35 = .ok (.iinc 4 1, 3) := by decide +kernel
theorem dX8_countsRow_38 : decode cX8_countsRow 38 = .ok (.goto (-27), 3) := by decide +kernel
theorem dX8_countsRow_41 : decode cX8_countsRow 41 = .ok (.iconst 0, 1) := by decide +kernel
theorem dX8_countsRow_42 : decode cX8_countsRow 42 = .ok (.istore 4, 2) := by decide +kernel
theorem dX8_countsRow_44 : decode cX8_countsRow 44 = .ok (.iload 4, 2) := by decide +kernel
theorem dX8_countsRow_46 : decode cX8_countsRow 46 = .ok (.iload_n 3, 1) := by decide +kernel
theorem dX8_countsRow_47 : decode cX8_countsRow 47 = .ok (.if_icmp .ge 123, 3) := by decide +kernel
theorem dX8_countsRow_50 : decode cX8_countsRow 50 = .ok (.iload_n 1, 1) := by decide +kernel
theorem dX8_countsRow_51 : decode cX8_countsRow 51 = .ok (.i2l, 1) := by decide +kernel
theorem dX8_countsRow_52 : decode cX8_countsRow 52 = .ok (.iload_n 3, 1) := by decide +kernel
theorem dX8_countsRow_53 : decode cX8_countsRow 53 = .ok (.iload 4, 2) := by decide +kernel
theorem dX8_countsRow_55 : decode cX8_countsRow 55 = .ok (.invokestatic 75, 3) := by decide +kernel
theorem dX8_countsRow_58 : decode cX8_countsRow 58 = .ok (.istore 5, 2) := by decide +kernel
theorem dX8_countsRow_60 : decode cX8_countsRow 60 = .ok (.iconst 0, 1) := by decide +kernel
theorem dX8_countsRow_61 : decode cX8_countsRow 61 = .ok (.istore 6, 2) := by decide +kernel
theorem dX8_countsRow_63 : decode cX8_countsRow 63 = .ok (.iload 6, 2) := by decide +kernel
theorem dX8_countsRow_65 : decode cX8_countsRow 65 = .ok (.iload_n 2, 1) := by decide +kernel
theorem dX8_countsRow_66 : decode cX8_countsRow 66 = .ok (.if_icmp .gt 31, 3) := by decide +kernel
theorem dX8_countsRow_69 : decode cX8_countsRow 69 = .ok (.aload_n 0, 1) := by decide +kernel
theorem dX8_countsRow_70 : decode cX8_countsRow 70 = .ok (.getfield 28, 3) := by decide +kernel
theorem dX8_countsRow_73 : decode cX8_countsRow 73 = .ok (.iload 6, 2) := by decide +kernel
theorem dX8_countsRow_75 : decode cX8_countsRow 75 = .ok (.aload_n 0, 1) := by decide +kernel
theorem dX8_countsRow_76 : decode cX8_countsRow 76 = .ok (.getfield 25, 3) := by decide +kernel
theorem dX8_countsRow_79 : decode cX8_countsRow 79 = .ok (.iload 6, 2) := by decide +kernel
theorem dX8_countsRow_81 : decode cX8_countsRow 81 = .ok (.iaload, 1) := by decide +kernel
theorem dX8_countsRow_82 : decode cX8_countsRow 82 = .ok (.iastore, 1) := by decide +kernel
theorem dX8_countsRow_83 : decode cX8_countsRow 83 = .ok (.aload_n 0, 1) := by decide +kernel
theorem dX8_countsRow_84 : decode cX8_countsRow 84 = .ok (.getfield 25, 3) := by decide +kernel
theorem dX8_countsRow_87 : decode cX8_countsRow 87 = .ok (.iload 6, 2) := by decide +kernel
theorem dX8_countsRow_89 : decode cX8_countsRow 89 = .ok (.iconst 0, 1) := by decide +kernel
theorem dX8_countsRow_90 : decode cX8_countsRow 90 = .ok (.iastore, 1) := by decide +kernel
theorem dX8_countsRow_91 : decode cX8_countsRow 91 = .ok (.iinc 6 1, 3) := by decide +kernel
theorem dX8_countsRow_94 : decode cX8_countsRow 94 = .ok (.goto (-31), 3) := by decide +kernel
theorem dX8_countsRow_97 : decode cX8_countsRow 97 = .ok (.iconst 0, 1) := by decide +kernel
theorem dX8_countsRow_98 : decode cX8_countsRow 98 = .ok (.istore 6, 2) := by decide +kernel
theorem dX8_countsRow_100 : decode cX8_countsRow 100 = .ok (.iload 6, 2) := by decide +kernel
theorem dX8_countsRow_102 : decode cX8_countsRow 102 = .ok (.iload_n 2, 1) := by decide +kernel
theorem dX8_countsRow_103 : decode cX8_countsRow 103 = .ok (.if_icmp .gt 61, 3) := by decide +kernel
theorem dX8_countsRow_106 : decode cX8_countsRow 106 = .ok (.iconst 0, 1) := by decide +kernel
theorem dX8_countsRow_107 : decode cX8_countsRow 107 = .ok (.istore 7, 2) := by decide +kernel
theorem dX8_countsRow_109 : decode cX8_countsRow 109 = .ok (.iload 7, 2) := by decide +kernel
theorem dX8_countsRow_111 : decode cX8_countsRow 111 = .ok (.iload 6, 2) := by decide +kernel
theorem dX8_countsRow_113 : decode cX8_countsRow 113 = .ok (.iadd, 1) := by decide +kernel
theorem dX8_countsRow_114 : decode cX8_countsRow 114 = .ok (.iload_n 2, 1) := by decide +kernel
theorem dX8_countsRow_115 : decode cX8_countsRow 115 = .ok (.if_icmp .gt 43, 3) := by decide +kernel
theorem dX8_countsRow_118 : decode cX8_countsRow 118 = .ok (.aload_n 0, 1) := by decide +kernel
theorem dX8_countsRow_119 : decode cX8_countsRow 119 = .ok (.getfield 25, 3) := by decide +kernel
theorem dX8_countsRow_122 : decode cX8_countsRow 122 = .ok (.iload 7, 2) := by decide +kernel
theorem dX8_countsRow_124 : decode cX8_countsRow 124 = .ok (.iload 6, 2) := by decide +kernel
theorem dX8_countsRow_126 : decode cX8_countsRow 126 = .ok (.iadd, 1) := by decide +kernel
theorem dX8_countsRow_127 : decode cX8_countsRow 127 = .ok (.dup2, 1) := by decide +kernel
theorem dX8_countsRow_128 : decode cX8_countsRow 128 = .ok (.iaload, 1) := by decide +kernel
theorem dX8_countsRow_129 : decode cX8_countsRow 129 = .ok (.aload_n 0, 1) := by decide +kernel
theorem dX8_countsRow_130 : decode cX8_countsRow 130 = .ok (.getfield 28, 3) := by decide +kernel
theorem dX8_countsRow_133 : decode cX8_countsRow 133 = .ok (.iload 6, 2) := by decide +kernel
theorem dX8_countsRow_135 : decode cX8_countsRow 135 = .ok (.iaload, 1) := by decide +kernel
theorem dX8_countsRow_136 : decode cX8_countsRow 136 = .ok (.aload_n 0, 1) := by decide +kernel
theorem dX8_countsRow_137 : decode cX8_countsRow 137 = .ok (.getfield 22, 3) := by decide +kernel
theorem dX8_countsRow_140 : decode cX8_countsRow 140 = .ok (.bipush 13, 2) := by decide +kernel
theorem dX8_countsRow_142 : decode cX8_countsRow 142 = .ok (.iload 5, 2) := by decide +kernel
theorem dX8_countsRow_144 : decode cX8_countsRow 144 = .ok (.imul, 1) := by decide +kernel
theorem dX8_countsRow_145 : decode cX8_countsRow 145 = .ok (.iload 7, 2) := by decide +kernel
theorem dX8_countsRow_147 : decode cX8_countsRow 147 = .ok (.iadd, 1) := by decide +kernel
theorem dX8_countsRow_148 : decode cX8_countsRow 148 = .ok (.iaload, 1) := by decide +kernel
theorem dX8_countsRow_149 : decode cX8_countsRow 149 = .ok (.imul, 1) := by decide +kernel
theorem dX8_countsRow_150 : decode cX8_countsRow 150 = .ok (.iadd, 1) := by decide +kernel
theorem dX8_countsRow_151 : decode cX8_countsRow 151 = .ok (.iastore, 1) := by decide +kernel
theorem dX8_countsRow_152 : decode cX8_countsRow 152 = .ok (.iinc 7 1, 3) := by decide +kernel
theorem dX8_countsRow_155 : decode cX8_countsRow 155 = .ok (.goto (-46), 3) := by decide +kernel
theorem dX8_countsRow_158 : decode cX8_countsRow 158 = .ok (.iinc 6 1, 3) := by decide +kernel
theorem dX8_countsRow_161 : decode cX8_countsRow 161 = .ok (.goto (-61), 3) := by decide +kernel
theorem dX8_countsRow_164 : decode cX8_countsRow 164 = .ok (.iinc 4 1, 3) := by decide +kernel
theorem dX8_countsRow_167 : decode cX8_countsRow 167 = .ok (.goto (-123), 3) := by decide +kernel
theorem dX8_countsRow_170 : decode cX8_countsRow 170 = .ok (.return_, 1) := by decide +kernel
set_option maxRecDepth 20000 in
theorem ggX8_countsSigns_X8_countsRow : GoodIn wsX8_countsSigns wsX8_countsRow := goodIn_r _ [8, 3, 9, 1, 10, 11, 7, 12, 13, 14, 15, 16, 17, 18, 19, 20, 21, 22, 23, 24, 25, 26, 27, 28, 29, 30, 31, 32, 33] (by decide +kernel) (by decide +kernel)
set_option maxRecDepth 20000 in
theorem gX8_countsSigns_X8_countsRow : GoodIn wsX8_countsSigns (wsV RX8 101 RX8 yX8_countsRow wsX8_countsRow) := goodIn_app (goodIn_of _ (by decide +kernel)) ggX8_countsSigns_X8_countsRow
theorem dX8_countsSigns_0 : decode cX8_countsSigns 0 = .ok (.iconst 0, 1) := by decide +kernel
theorem dX8_countsSigns_1 : decode cX8_countsSigns 1 = .ok (.istore_n 2, 1) := by decide +kernel
theorem dX8_countsSigns_2 : decode cX8_countsSigns 2 = .ok (.iload_n 2, 1) := by decide +kernel
theorem dX8_countsSigns_3 : decode cX8_countsSigns 3 = .ok (.bipush 78, 2) := by decide +kernel
theorem dX8_countsSigns_5 : decode cX8_countsSigns 5 = .ok (.if_icmp .ge 16, 3) := by decide +kernel
theorem dX8_countsSigns_8 : decode cX8_countsSigns 8 = .ok (.aload_n 0, 1) := by decide +kernel
theorem dX8_countsSigns_9 : decode cX8_countsSigns 9 = .ok (.getfield 22, 3) := by decide +kernel
theorem dX8_countsSigns_12 : decode cX8_countsSigns 12 = .ok (.iload_n 2, 1) := by decide +kernel
theorem dX8_countsSigns_13 : decode cX8_countsSigns 13 = .ok (.iconst 0, 1) := by decide +kernel
theorem dX8_countsSigns_14 : decode cX8_countsSigns 14 = .ok (.iastore, 1) := by decide +kernel
theorem dX8_countsSigns_15 : decode cX8_countsSigns 15 = .ok (.iinc 2 1, 3) := by decide +kernel
theorem dX8_countsSigns_18 : decode cX8_countsSigns 18 = .ok (.goto (-16), 3) := by decide +kernel
theorem dX8_countsSigns_21 : decode cX8_countsSigns 21 = .ok (.iconst 1, 1) := by decide +kernel
theorem dX8_countsSigns_22 : decode cX8_countsSigns 22 = .ok (.istore_n 2, 1) := by decide +kernel
theorem dX8_countsSigns_23 : decode cX8_countsSigns 23 = .ok (.iload_n 2, 1) := by decide +kernel
theorem dX8_countsSigns_24 : decode cX8_countsSigns 24 = .ok (.iload_n 1, 1) := by decide +kernel
theorem dX8_countsSigns_25 : decode cX8_countsSigns 25 = .ok (.if_icmp .gt 71, 3) := by decide +kernel
theorem dX8_countsSigns_28 : decode cX8_countsSigns 28 = .ok (.iconst 0, 1) := by decide +kernel
theorem dX8_countsSigns_29 : decode cX8_countsSigns 29 = .ok (.istore_n 3, 1) := by decide +kernel
theorem dX8_countsSigns_30 : decode cX8_countsSigns 30 = .ok (.iload_n 3, 1) := by decide +kernel
theorem dX8_countsSigns_31 : decode cX8_countsSigns 31 = .ok (.bipush 18, 2) := by decide +kernel
theorem dX8_countsSigns_33 : decode cX8_countsSigns 33 = .ok (.if_icmp .ge 57, 3) := by decide +kernel
theorem dX8_countsSigns_36 : decode cX8_countsSigns 36 = .ok (.aload_n 0, 1) := by decide +kernel
theorem dX8_countsSigns_37 : decode cX8_countsSigns 37 = .ok (.getfield 7, 3) := by decide +kernel
theorem dX8_countsSigns_40 : decode cX8_countsSigns 40 = .ok (.iload_n 3, 1) := by decide +kernel
theorem dX8_countsSigns_41 : decode cX8_countsSigns 41 = .ok (.iaload, 1) := by decide +kernel
theorem dX8_countsSigns_42 : decode cX8_countsSigns 42 = .ok (.bipush (-9), 2) := by decide +kernel
theorem dX8_countsSigns_44 : decode cX8_countsSigns 44 = .ok (.if_icmp .eq 40, 3) := by decide +kernel
theorem dX8_countsSigns_47 : decode cX8_countsSigns 47 = .ok (.aload_n 0, 1) := by decide +kernel
theorem dX8_countsSigns_48 : decode cX8_countsSigns 48 = .ok (.aload_n 0, 1) := by decide +kernel
theorem dX8_countsSigns_49 : decode cX8_countsSigns 49 = .ok (.getfield 7, 3) := by decide +kernel
theorem dX8_countsSigns_52 : decode cX8_countsSigns 52 = .ok (.iload_n 3, 1) := by decide +kernel
theorem dX8_countsSigns_53 : decode cX8_countsSigns 53 = .ok (.iaload, 1) := by decide +kernel
theorem dX8_countsSigns_54 : decode cX8_countsSigns 54 = .ok (.iload_n 2, 1) := by decide +kernel
theorem dX8_countsSigns_55 : decode cX8_countsSigns 55 = .ok (.iconst 1, 1) := by decide +kernel
theorem dX8_countsSigns_56 : decode cX8_countsSigns 56 = .ok (.isub, 1) := by decide +kernel
theorem dX8_countsSigns_57 : decode cX8_countsSigns 57 = .ok (.invokevirtual 101, 3) := by decide +kernel
theorem dX8_countsSigns_60 : decode cX8_countsSigns 60 = .ok (.aload_n 0, 1) := by decide +kernel
theorem dX8_countsSigns_61 : decode cX8_countsSigns 61 = .ok (.getfield 22, 3) := by decide +kernel
theorem dX8_countsSigns_64 : decode cX8_countsSigns 64 = .ok (.bipush 13, 2) := by decide +kernel
theorem dX8_countsSigns_66 : decode cX8_countsSigns 66 = .ok (.iload_n 3, 1) := by decide +kernel
theorem dX8_countsSigns_67 : decode cX8_countsSigns 67 = .ok (.iconst 3, 1) := by decide +kernel
theorem dX8_countsSigns_68 : decode cX8_countsSigns 68 = .ok (.idiv, 1) := by decide +kernel
theorem dX8_countsSigns_69 : decode cX8_countsSigns 69 = .ok (.imul, 1) := by decide +kernel
theorem dX8_countsSigns_70 : decode cX8_countsSigns 70 = .ok (.iload_n 2, 1) := by decide +kernel
theorem dX8_countsSigns_71 : decode cX8_countsSigns 71 = .ok (.iadd, 1) := by decide +kernel
theorem dX8_countsSigns_72 : decode cX8_countsSigns 72 = .ok (.dup2, 1) := by decide +kernel
theorem dX8_countsSigns_73 : decode cX8_countsSigns 73 = .ok (.iaload, 1) := by decide +kernel
theorem dX8_countsSigns_74 : decode cX8_countsSigns 74 = .ok (.aload_n 0, 1) := by decide +kernel
theorem dX8_countsSigns_75 : decode cX8_countsSigns 75 = .ok (.getfield 25, 3) := by decide +kernel
theorem dX8_countsSigns_78 : decode cX8_countsSigns 78 = .ok (.iload_n 2, 1) := by decide +kernel
theorem dX8_countsSigns_79 : decode cX8_countsSigns 79 = .ok (.iconst 1, 1) := by decide +kernel
theorem dX8_countsSigns_80 : decode cX8_countsSigns 80 = .ok (.isub, 1) := by decide +kernel
theorem dX8_countsSigns_81 : decode cX8_countsSigns 81 = .ok (.iaload, 1) := by decide +kernel
theorem dX8_countsSigns_82 : decode cX8_countsSigns 82 = .ok (.iadd, 1) := by decide +kernel
theorem dX8_countsSigns_83 : decode cX8_countsSigns 83 = .ok (.iastore, 1) := by decide +kernel
theorem dX8_countsSigns_84 : decode cX8_countsSigns 84 = .ok (.iinc 3 1, 3) := by decide +kernel
theorem dX8_countsSigns_87 : decode cX8_countsSigns 87 = .ok (.goto (-57), 3) := by decide +kernel
theorem dX8_countsSigns_90 : decode cX8_countsSigns 90 = .ok (.iinc 2 1, 3) := by decide +kernel
theorem dX8_countsSigns_93 : decode cX8_countsSigns 93 = .ok (.goto (-70), 3) := by decide +kernel
theorem dX8_countsSigns_96 : decode cX8_countsSigns 96 = .ok (.return_, 1) := by decide +kernel
set_option maxRecDepth 20000 in
theorem ggX8_words_X8_isRow : GoodIn wsX8_words wsX8_isRow := goodIn_r _ [5, 6, 7, 4, 8, 9, 10, 11, 12] (by decide +kernel) (by decide +kernel)
set_option maxRecDepth 20000 in
theorem gX8_words_X8_isRow : GoodIn wsX8_words (va_wsS RX8 61 yX8_isRow wsX8_isRow) := goodIn_app (goodIn_of _ (by decide +kernel)) ggX8_words_X8_isRow
set_option maxRecDepth 20000 in
theorem ggX8_words_X8_within : GoodIn wsX8_words wsX8_within := goodIn_r _ [12] (by decide +kernel) (by decide +kernel)
set_option maxRecDepth 20000 in
theorem gX8_words_X8_within : GoodIn wsX8_words (va_wsS RX8 40 yX8_within wsX8_within) := goodIn_app (goodIn_of _ (by decide +kernel)) ggX8_words_X8_within
set_option maxRecDepth 20000 in
theorem ggX8_words_X8_countsSigns : GoodIn wsX8_words wsX8_countsSigns := goodIn_r _ [16, 17, 18, 1, 19, 20, 21, 4, 22, 23, 6, 7, 8, 9, 10, 11, 12, 24, 25, 26, 27, 28, 29, 30, 31, 32, 33, 34, 35, 36, 37, 38, 39, 40] (by decide +kernel) (by decide +kernel)
set_option maxRecDepth 20000 in
theorem gX8_words_X8_countsSigns : GoodIn wsX8_words (wsV RX8 105 RX8 yX8_countsSigns wsX8_countsSigns) := goodIn_app (goodIn_of _ (by decide +kernel)) ggX8_words_X8_countsSigns
set_option maxRecDepth 20000 in
theorem ggX8_words_X8_countsRow : GoodIn wsX8_words wsX8_countsRow := goodIn_r _ [22, 1, 23, 17, 6, 7, 4, 8, 9, 10, 11, 12, 24, 25, 26, 27, 28, 29, 30, 31, 32, 33, 34, 35, 36, 37, 38, 39, 40] (by decide +kernel) (by decide +kernel)
set_option maxRecDepth 20000 in
theorem gX8_words_X8_countsRow : GoodIn wsX8_words (wsV RX8 101 RX8 yX8_countsRow wsX8_countsRow) := goodIn_app (goodIn_of _ (by decide +kernel)) ggX8_words_X8_countsRow
theorem dX8_words_0 : decode cX8_words 0 = .ok (.iload_n 1, 1) := by decide +kernel
theorem dX8_words_1 : decode cX8_words 1 = .ok (.bipush 9, 2) := by decide +kernel
theorem dX8_words_3 : decode cX8_words 3 = .ok (.invokestatic 61, 3) := by decide +kernel
theorem dX8_words_6 : decode cX8_words 6 = .ok (.ifCond .eq 13, 3) := by decide +kernel
theorem dX8_words_9 : decode cX8_words 9 = .ok (.iload_n 2, 1) := by decide +kernel
theorem dX8_words_10 : decode cX8_words 10 = .ok (.iconst 0, 1) := by decide +kernel
theorem dX8_words_11 : decode cX8_words 11 = .ok (.bipush 12, 2) := by decide +kernel
theorem dX8_words_13 : decode cX8_words 13 = .ok (.invokestatic 40, 3) := by decide +kernel
theorem dX8_words_16 : decode cX8_words 16 = .ok (.ifCond .ne 6, 3) := by decide +kernel
theorem dX8_words_19 : decode cX8_words 19 = .ok (.bipush (-2), 2) := by decide +kernel
theorem dX8_words_21 : decode cX8_words 21 = .ok (.ireturn, 1) := by decide +kernel
theorem dX8_words_22 : decode cX8_words 22 = .ok (.aload_n 0, 1) := by decide +kernel
theorem dX8_words_23 : decode cX8_words 23 = .ok (.iload_n 2, 1) := by decide +kernel
theorem dX8_words_24 : decode cX8_words 24 = .ok (.invokevirtual 105, 3) := by decide +kernel
theorem dX8_words_27 : decode cX8_words 27 = .ok (.aload_n 0, 1) := by decide +kernel
theorem dX8_words_28 : decode cX8_words 28 = .ok (.iload_n 1, 1) := by decide +kernel
theorem dX8_words_29 : decode cX8_words 29 = .ok (.iload_n 2, 1) := by decide +kernel
theorem dX8_words_30 : decode cX8_words 30 = .ok (.invokevirtual 101, 3) := by decide +kernel
theorem dX8_words_33 : decode cX8_words 33 = .ok (.aload_n 0, 1) := by decide +kernel
theorem dX8_words_34 : decode cX8_words 34 = .ok (.getfield 25, 3) := by decide +kernel
theorem dX8_words_37 : decode cX8_words 37 = .ok (.iload_n 2, 1) := by decide +kernel
theorem dX8_words_38 : decode cX8_words 38 = .ok (.iaload, 1) := by decide +kernel
theorem dX8_words_39 : decode cX8_words 39 = .ok (.ireturn, 1) := by decide +kernel
set_option maxRecDepth 20000 in
theorem ggX8_is_X8_readMany : GoodIn wsX8_is wsX8_readMany := goodIn_r _ [6, 1, 7, 8, 9, 5, 10, 11, 12, 13, 14, 15, 16, 17, 18, 19, 20, 21, 22, 23, 24, 25, 26, 27, 28, 29, 30, 31, 32, 33, 34, 35, 36, 37, 38, 39, 40, 41, 42, 43, 44] (by decide +kernel) (by decide +kernel)
set_option maxRecDepth 20000 in
theorem gX8_is_X8_readMany : GoodIn wsX8_is (wsV RX8 86 RX8 yX8_readMany wsX8_readMany) := goodIn_app (goodIn_of _ (by decide +kernel)) ggX8_is_X8_readMany
theorem dX8_is_0 : decode cX8_is 0 = .ok (.aload_n 0, 1) := by decide +kernel
theorem dX8_is_1 : decode cX8_is 1 = .ok (.iload_n 1, 1) := by decide +kernel
theorem dX8_is_2 : decode cX8_is 2 = .ok (.lload_n 2, 1) := by decide +kernel
theorem dX8_is_3 : decode cX8_is 3 = .ok (.iload 4, 2) := by decide +kernel
theorem dX8_is_5 : decode cX8_is 5 = .ok (.invokevirtual 86, 3) := by decide +kernel
theorem dX8_is_8 : decode cX8_is 8 = .ok (.istore 6, 2) := by decide +kernel
theorem dX8_is_10 : decode cX8_is 10 = .ok (.iload 6, 2) := by decide +kernel
theorem dX8_is_12 : decode cX8_is 12 = .ok (.iload 4, 2) := by decide +kernel
theorem dX8_is_14 : decode cX8_is 14 = .ok (.if_icmp .ne 20, 3) := by decide +kernel
theorem dX8_is_17 : decode cX8_is 17 = .ok (.iload 5, 2) := by decide +kernel
theorem dX8_is_19 : decode cX8_is 19 = .ok (.iconst 1, 1) := by decide +kernel
theorem dX8_is_20 : decode cX8_is 20 = .ok (.if_icmp .eq 10, 3) := by decide +kernel
theorem dX8_is_23 : decode cX8_is 23 = .ok (.aload_n 0, 1) := by decide +kernel
theorem dX8_is_24 : decode cX8_is 24 = .ok (.getfield 72, 3) := by decide +kernel
theorem dX8_is_27 : decode cX8_is 27 = .ok (.ifCond .ne 7, 3) := by decide +kernel
theorem dX8_is_30 : decode cX8_is 30 = .ok (.iconst 1, 1) := by decide +kernel
theorem dX8_is_31 : decode cX8_is 31 = .ok (.goto 4, 3) := by decide +kernel
theorem dX8_is_34 : decode cX8_is 34 = .ok (.iconst 0, 1) := by decide +kernel
theorem dX8_is_35 : decode cX8_is 35 = .ok (.ireturn, 1) := by decide +kernel
theorem dX8_lettersBy_0 : decode cX8_lettersBy 0 = .ok (.lconst 0, 1) := by decide +kernel
theorem dX8_lettersBy_1 : decode cX8_lettersBy 1 = .ok (.lstore_n 2, 1) := by decide +kernel
theorem dX8_lettersBy_2 : decode cX8_lettersBy 2 = .ok (.lconst 1, 1) := by decide +kernel
theorem dX8_lettersBy_3 : decode cX8_lettersBy 3 = .ok (.lstore 4, 2) := by decide +kernel
theorem dX8_lettersBy_5 : decode cX8_lettersBy 5 = .ok (.iload_n 0, 1) := by decide +kernel
theorem dX8_lettersBy_6 : decode cX8_lettersBy 6 = .ok (.istore 6, 2) := by decide +kernel
theorem dX8_lettersBy_8 : decode cX8_lettersBy 8 = .ok (.iconst 0, 1) := by decide +kernel
theorem dX8_lettersBy_9 : decode cX8_lettersBy 9 = .ok (.istore 7, 2) := by decide +kernel
theorem dX8_lettersBy_11 : decode cX8_lettersBy 11 = .ok (.iload 7, 2) := by decide +kernel
theorem dX8_lettersBy_13 : decode cX8_lettersBy 13 = .ok (.iload_n 1, 1) := by decide +kernel
theorem dX8_lettersBy_14 : decode cX8_lettersBy 14 = .ok (.if_icmp .ge 36, 3) := by decide +kernel
theorem dX8_lettersBy_17 : decode cX8_lettersBy 17 = .ok (.lload_n 2, 1) := by decide +kernel
theorem dX8_lettersBy_18 : decode cX8_lettersBy 18 = .ok (.lload 4, 2) := by decide +kernel
theorem dX8_lettersBy_20 : decode cX8_lettersBy 20 = .ok (.iload 6, 2) := by decide +kernel
theorem dX8_lettersBy_22 : decode cX8_lettersBy 22 = .ok (.iconst 3, 1) := by decide +kernel
theorem dX8_lettersBy_23 : decode cX8_lettersBy 23 = .ok (.irem, 1) := by decide +kernel
theorem dX8_lettersBy_24 : decode cX8_lettersBy 24 = .ok (.iconst 1, 1) := by decide +kernel
theorem dX8_lettersBy_25 : decode cX8_lettersBy 25 = .ok (.iadd, 1) := by decide +kernel
theorem dX8_lettersBy_26 : decode cX8_lettersBy 26 = .ok (.i2l, 1) := by decide +kernel
theorem dX8_lettersBy_27 : decode cX8_lettersBy 27 = .ok (.lmul, 1) := by decide +kernel
theorem dX8_lettersBy_28 : decode cX8_lettersBy 28 = .ok (.ladd, 1) := by decide +kernel
theorem dX8_lettersBy_29 : decode cX8_lettersBy 29 = .ok (.lstore_n 2, 1) := by decide +kernel
theorem dX8_lettersBy_30 : decode cX8_lettersBy 30 = .ok (.iload 6, 2) := by decide +kernel
theorem dX8_lettersBy_32 : decode cX8_lettersBy 32 = .ok (.iconst 3, 1) := by decide +kernel
theorem dX8_lettersBy_33 : decode cX8_lettersBy 33 = .ok (.idiv, 1) := by decide +kernel
theorem dX8_lettersBy_34 : decode cX8_lettersBy 34 = .ok (.istore 6, 2) := by decide +kernel
theorem dX8_lettersBy_36 : decode cX8_lettersBy 36 = .ok (.lload 4, 2) := by decide +kernel
theorem dX8_lettersBy_38 : decode cX8_lettersBy 38 = .ok (.ldc2_w 44, 3) := by decide +kernel
theorem dX8_lettersBy_41 : decode cX8_lettersBy 41 = .ok (.lmul, 1) := by decide +kernel
theorem dX8_lettersBy_42 : decode cX8_lettersBy 42 = .ok (.lstore 4, 2) := by decide +kernel
theorem dX8_lettersBy_44 : decode cX8_lettersBy 44 = .ok (.iinc 7 1, 3) := by decide +kernel
theorem dX8_lettersBy_47 : decode cX8_lettersBy 47 = .ok (.goto (-36), 3) := by decide +kernel
theorem dX8_lettersBy_50 : decode cX8_lettersBy 50 = .ok (.lload_n 2, 1) := by decide +kernel
theorem dX8_lettersBy_51 : decode cX8_lettersBy 51 = .ok (.lreturn, 1) := by decide +kernel
set_option maxRecDepth 20000 in
theorem ggX8_parts_X8_isRow : GoodIn wsX8_parts wsX8_isRow := goodIn_r _ [6, 7, 8, 5, 9, 10, 11, 12, 13] (by decide +kernel) (by decide +kernel)
set_option maxRecDepth 20000 in
theorem gX8_parts_X8_isRow : GoodIn wsX8_parts (va_wsS RX8 61 yX8_isRow wsX8_isRow) := goodIn_app (goodIn_of _ (by decide +kernel)) ggX8_parts_X8_isRow
set_option maxRecDepth 20000 in
theorem ggX8_parts_X8_within : GoodIn wsX8_parts wsX8_within := goodIn_r _ [13] (by decide +kernel) (by decide +kernel)
set_option maxRecDepth 20000 in
theorem gX8_parts_X8_within : GoodIn wsX8_parts (va_wsS RX8 40 yX8_within wsX8_within) := goodIn_app (goodIn_of _ (by decide +kernel)) ggX8_parts_X8_within
set_option maxRecDepth 20000 in
theorem ggX8_parts_X8_lettersBy : GoodIn wsX8_parts wsX8_lettersBy := goodIn_r _ [16, 10] (by decide +kernel) (by decide +kernel)
set_option maxRecDepth 20000 in
theorem gX8_parts_X8_lettersBy : GoodIn wsX8_parts (va_wsS RX8 108 yX8_lettersBy wsX8_lettersBy) := goodIn_app (goodIn_of _ (by decide +kernel)) ggX8_parts_X8_lettersBy
set_option maxRecDepth 20000 in
theorem ggX8_parts_X8_is : GoodIn wsX8_parts wsX8_is := goodIn_r _ [20, 21, 22, 23, 24, 5, 25, 26, 27, 28, 29, 30, 7, 8, 9, 10, 11, 12, 13, 31, 32, 33, 34, 35, 36, 37, 38, 39, 40, 41, 42, 43, 44, 45, 46, 47, 48, 49, 50, 51, 52, 53, 54, 55, 56] (by decide +kernel) (by decide +kernel)
set_option maxRecDepth 20000 in
theorem gX8_parts_X8_is : GoodIn wsX8_parts (wsV RX8 112 RX8 yX8_is wsX8_is) := goodIn_app (goodIn_of _ (by decide +kernel)) ggX8_parts_X8_is
theorem dX8_parts_0 : decode cX8_parts 0 = .ok (.iload_n 1, 1) := by decide +kernel
theorem dX8_parts_1 : decode cX8_parts 1 = .ok (.bipush 9, 2) := by decide +kernel
theorem dX8_parts_3 : decode cX8_parts 3 = .ok (.invokestatic 61, 3) := by decide +kernel
theorem dX8_parts_6 : decode cX8_parts 6 = .ok (.ifCond .eq 21, 3) := by decide +kernel
theorem dX8_parts_9 : decode cX8_parts 9 = .ok (.iload_n 2, 1) := by decide +kernel
theorem dX8_parts_10 : decode cX8_parts 10 = .ok (.bipush 9, 2) := by decide +kernel
theorem dX8_parts_12 : decode cX8_parts 12 = .ok (.invokestatic 61, 3) := by decide +kernel
theorem dX8_parts_15 : decode cX8_parts 15 = .ok (.ifCond .eq 12, 3) := by decide +kernel
theorem dX8_parts_18 : decode cX8_parts 18 = .ok (.iload_n 3, 1) := by decide +kernel
theorem dX8_parts_19 : decode cX8_parts 19 = .ok (.iconst 0, 1) := by decide +kernel
theorem dX8_parts_20 : decode cX8_parts 20 = .ok (.iconst 1, 1) := by decide +kernel
theorem dX8_parts_21 : decode cX8_parts 21 = .ok (.invokestatic 40, 3) := by decide +kernel
theorem dX8_parts_24 : decode cX8_parts 24 = .ok (.ifCond .ne 7, 3) := by decide +kernel
theorem dX8_parts_27 : decode cX8_parts 27 = .ok (.ldc2_w 97, 3) := by decide +kernel
theorem dX8_parts_30 : decode cX8_parts 30 = .ok (.lreturn, 1) := by decide +kernel
theorem dX8_parts_31 : decode cX8_parts 31 = .ok (.iconst 1, 1) := by decide +kernel
theorem dX8_parts_32 : decode cX8_parts 32 = .ok (.istore 4, 2) := by decide +kernel
theorem dX8_parts_34 : decode cX8_parts 34 = .ok (.iconst 0, 1) := by decide +kernel
theorem dX8_parts_35 : decode cX8_parts 35 = .ok (.istore 5, 2) := by decide +kernel
theorem dX8_parts_37 : decode cX8_parts 37 = .ok (.iload 5, 2) := by decide +kernel
theorem dX8_parts_39 : decode cX8_parts 39 = .ok (.bipush 6, 2) := by decide +kernel
theorem dX8_parts_41 : decode cX8_parts 41 = .ok (.if_icmp .gt 66, 3) := by decide +kernel
theorem dX8_parts_44 : decode cX8_parts 44 = .ok (.iconst 0, 1) := by decide +kernel
theorem dX8_parts_45 : decode cX8_parts 45 = .ok (.istore 6, 2) := by decide +kernel
theorem dX8_parts_47 : decode cX8_parts 47 = .ok (.iload 6, 2) := by decide +kernel
theorem dX8_parts_49 : decode cX8_parts 49 = .ok (.iload 4, 2) := by decide +kernel
theorem dX8_parts_51 : decode cX8_parts 51 = .ok (.if_icmp .ge 44, 3) := by decide +kernel
theorem dX8_parts_54 : decode cX8_parts 54 = .ok (.iload 6, 2) := by decide +kernel
theorem dX8_parts_56 : decode cX8_parts 56 = .ok (.iload 5, 2) := by decide +kernel
theorem dX8_parts_58 : decode cX8_parts 58 = .ok (.invokestatic 108, 3) := by decide +kernel
theorem dX8_parts_61 : decode cX8_parts 61 = .ok (.lstore 7, 2) := by decide +kernel
theorem dX8_parts_63 : decode cX8_parts 63 = .ok (.aload_n 0, 1) := by decide +kernel
theorem dX8_parts_64 : decode cX8_parts 64 = .ok (.iload_n 1, 1) := by decide +kernel
theorem dX8_parts_65 : decode cX8_parts 65 = .ok (.lload 7, 2) := by decide +kernel
theorem dX8_parts_67 : decode cX8_parts 67 = .ok (.iload 5, 2) := by decide +kernel
theorem dX8_parts_69 : decode cX8_parts 69 = .ok (.iload_n 3, 1) := by decide +kernel
theorem dX8_parts_70 : decode cX8_parts 70 = .ok (.invokevirtual 112, 3) := by decide +kernel
theorem dX8_parts_73 : decode cX8_parts 73 = .ok (.aload_n 0, 1) := by decide +kernel
theorem dX8_parts_74 : decode cX8_parts 74 = .ok (.iload_n 2, 1) := by decide +kernel
theorem dX8_parts_75 : decode cX8_parts 75 = .ok (.lload 7, 2) := by decide +kernel
theorem dX8_parts_77 : decode cX8_parts 77 = .ok (.iload 5, 2) := by decide +kernel
theorem dX8_parts_79 : decode cX8_parts 79 = .ok (.iload_n 3, 1) := by decide +kernel
theorem dX8_parts_80 : decode cX8_parts 80 = .ok (.invokevirtual 112, 3) := by decide +kernel
theorem dX8_parts_83 : decode cX8_parts 83 = .ok (.if_icmp .eq 6, 3) := by decide +kernel
theorem dX8_parts_86 : decode cX8_parts 86 = .ok (.lload 7, 2) := by decide +kernel
theorem dX8_parts_88 : decode cX8_parts 88 = .ok (.lreturn, 1) := by decide +kernel
theorem dX8_parts_89 : decode cX8_parts 89 = .ok (.iinc 6 1, 3) := by decide +kernel
theorem dX8_parts_92 : decode cX8_parts 92 = .ok (.goto (-45), 3) := by decide +kernel
theorem dX8_parts_95 : decode cX8_parts 95 = .ok (.iload 4, 2) := by decide +kernel
theorem dX8_parts_97 : decode cX8_parts 97 = .ok (.iconst 3, 1) := by decide +kernel
theorem dX8_parts_98 : decode cX8_parts 98 = .ok (.imul, 1) := by decide +kernel
theorem dX8_parts_99 : decode cX8_parts 99 = .ok (.istore 4, 2) := by decide +kernel
theorem dX8_parts_101 : decode cX8_parts 101 = .ok (.iinc 5 1, 3) := by decide +kernel
theorem dX8_parts_104 : decode cX8_parts 104 = .ok (.goto (-67), 3) := by decide +kernel
theorem dX8_parts_107 : decode cX8_parts 107 = .ok (.ldc2_w 99, 3) := by decide +kernel
theorem dX8_parts_110 : decode cX8_parts 110 = .ok (.lreturn, 1) := by decide +kernel
set_option maxRecDepth 20000 in
theorem ggX8_comesFirst_X8_digits : GoodIn wsX8_comesFirst wsX8_digits := goodIn_r _ [5, 6, 7, 8, 4, 9] (by decide +kernel) (by decide +kernel)
set_option maxRecDepth 20000 in
theorem gX8_comesFirst_X8_digits : GoodIn wsX8_comesFirst (va_wsS RX8 46 yX8_digits wsX8_digits) := goodIn_app (goodIn_of _ (by decide +kernel)) ggX8_comesFirst_X8_digits
set_option maxRecDepth 20000 in
theorem ggX8_comesFirst_X8_digitAt : GoodIn wsX8_comesFirst wsX8_digitAt := goodIn_r _ [12, 6] (by decide +kernel) (by decide +kernel)
set_option maxRecDepth 20000 in
theorem gX8_comesFirst_X8_digitAt : GoodIn wsX8_comesFirst (va_wsS RX8 75 yX8_digitAt wsX8_digitAt) := goodIn_app (goodIn_of _ (by decide +kernel)) ggX8_comesFirst_X8_digitAt
theorem dX8_comesFirst_0 : decode cX8_comesFirst 0 = .ok (.iload_n 1, 1) := by decide +kernel
theorem dX8_comesFirst_1 : decode cX8_comesFirst 1 = .ok (.i2l, 1) := by decide +kernel
theorem dX8_comesFirst_2 : decode cX8_comesFirst 2 = .ok (.bipush 6, 2) := by decide +kernel
theorem dX8_comesFirst_4 : decode cX8_comesFirst 4 = .ok (.invokestatic 46, 3) := by decide +kernel
theorem dX8_comesFirst_7 : decode cX8_comesFirst 7 = .ok (.istore_n 2, 1) := by decide +kernel
theorem dX8_comesFirst_8 : decode cX8_comesFirst 8 = .ok (.iconst 0, 1) := by decide +kernel
theorem dX8_comesFirst_9 : decode cX8_comesFirst 9 = .ok (.istore_n 3, 1) := by decide +kernel
theorem dX8_comesFirst_10 : decode cX8_comesFirst 10 = .ok (.iconst 0, 1) := by decide +kernel
theorem dX8_comesFirst_11 : decode cX8_comesFirst 11 = .ok (.istore 4, 2) := by decide +kernel
theorem dX8_comesFirst_13 : decode cX8_comesFirst 13 = .ok (.iload 4, 2) := by decide +kernel
theorem dX8_comesFirst_15 : decode cX8_comesFirst 15 = .ok (.iload_n 2, 1) := by decide +kernel
theorem dX8_comesFirst_16 : decode cX8_comesFirst 16 = .ok (.if_icmp .ge 40, 3) := by decide +kernel
theorem dX8_comesFirst_19 : decode cX8_comesFirst 19 = .ok (.iload_n 1, 1) := by decide +kernel
theorem dX8_comesFirst_20 : decode cX8_comesFirst 20 = .ok (.i2l, 1) := by decide +kernel
theorem dX8_comesFirst_21 : decode cX8_comesFirst 21 = .ok (.iload_n 2, 1) := by decide +kernel
theorem dX8_comesFirst_22 : decode cX8_comesFirst 22 = .ok (.iload 4, 2) := by decide +kernel
theorem dX8_comesFirst_24 : decode cX8_comesFirst 24 = .ok (.invokestatic 75, 3) := by decide +kernel
theorem dX8_comesFirst_27 : decode cX8_comesFirst 27 = .ok (.istore 5, 2) := by decide +kernel
theorem dX8_comesFirst_29 : decode cX8_comesFirst 29 = .ok (.iload_n 3, 1) := by decide +kernel
theorem dX8_comesFirst_30 : decode cX8_comesFirst 30 = .ok (.iconst 1, 1) := by decide +kernel
theorem dX8_comesFirst_31 : decode cX8_comesFirst 31 = .ok (.iload 5, 2) := by decide +kernel
theorem dX8_comesFirst_33 : decode cX8_comesFirst 33 = .ok (.ishl, 1) := by decide +kernel
theorem dX8_comesFirst_34 : decode cX8_comesFirst 34 = .ok (.ior, 1) := by decide +kernel
theorem dX8_comesFirst_35 : decode cX8_comesFirst 35 = .ok (.istore_n 3, 1) := by decide +kernel
theorem dX8_comesFirst_36 : decode cX8_comesFirst 36 = .ok (.aload_n 0, 1) := by decide +kernel
theorem dX8_comesFirst_37 : decode cX8_comesFirst 37 = .ok (.getfield 19, 3) := by decide +kernel
theorem dX8_comesFirst_40 : decode cX8_comesFirst 40 = .ok (.iload 5, 2) := by decide +kernel
theorem dX8_comesFirst_42 : decode cX8_comesFirst 42 = .ok (.iaload, 1) := by decide +kernel
theorem dX8_comesFirst_43 : decode cX8_comesFirst 43 = .ok (.bipush (-9), 2) := by decide +kernel
theorem dX8_comesFirst_45 : decode cX8_comesFirst 45 = .ok (.if_icmp .ne 5, 3) := by decide +kernel
theorem dX8_comesFirst_48 : decode cX8_comesFirst 48 = .ok (.iload_n 3, 1) := by decide +kernel
theorem dX8_comesFirst_49 : decode cX8_comesFirst 49 = .ok (.ireturn, 1) := by decide +kernel
theorem dX8_comesFirst_50 : decode cX8_comesFirst 50 = .ok (.iinc 4 1, 3) := by decide +kernel
theorem dX8_comesFirst_53 : decode cX8_comesFirst 53 = .ok (.goto (-40), 3) := by decide +kernel
theorem dX8_comesFirst_56 : decode cX8_comesFirst 56 = .ok (.iload_n 3, 1) := by decide +kernel
theorem dX8_comesFirst_57 : decode cX8_comesFirst 57 = .ok (.ireturn, 1) := by decide +kernel
set_option maxRecDepth 20000 in
theorem ggX8_firsts_X8_isRow : GoodIn wsX8_firsts wsX8_isRow := goodIn_r _ [5, 6, 7, 4, 8, 9, 10, 11, 12] (by decide +kernel) (by decide +kernel)
set_option maxRecDepth 20000 in
theorem gX8_firsts_X8_isRow : GoodIn wsX8_firsts (va_wsS RX8 61 yX8_isRow wsX8_isRow) := goodIn_app (goodIn_of _ (by decide +kernel)) ggX8_firsts_X8_isRow
set_option maxRecDepth 20000 in
theorem ggX8_firsts_X8_findNorms : GoodIn wsX8_firsts wsX8_findNorms := goodIn_r _ [16, 17, 1, 18, 19, 20, 4, 21, 6, 7, 8, 9, 10, 11, 12, 22, 23, 24, 32, 33, 34, 35, 36, 37, 38, 39, 40, 41, 42, 43, 44, 45] (by decide +kernel) (by decide +kernel)
set_option maxRecDepth 20000 in
theorem gX8_firsts_X8_findNorms : GoodIn wsX8_firsts (wsV RX8 94 RX8 yX8_findNorms wsX8_findNorms) := goodIn_app (goodIn_of _ (by decide +kernel)) ggX8_firsts_X8_findNorms
set_option maxRecDepth 20000 in
theorem ggX8_firsts_X8_comesFirst : GoodIn wsX8_firsts wsX8_comesFirst := goodIn_r _ [28, 17, 6, 7, 4, 8, 9, 10, 11, 12, 22, 23, 24, 32, 33, 34, 35, 36, 37, 38, 39, 40, 41, 42, 43, 44, 45] (by decide +kernel) (by decide +kernel)
set_option maxRecDepth 20000 in
theorem gX8_firsts_X8_comesFirst : GoodIn wsX8_firsts (wsV RX8 116 RX8 yX8_comesFirst wsX8_comesFirst) := goodIn_app (goodIn_of _ (by decide +kernel)) ggX8_firsts_X8_comesFirst
set_option maxRecDepth 20000 in
theorem ggX8_firsts_X8_has : GoodIn wsX8_firsts wsX8_has := goodIn_r _ [31] (by decide +kernel) (by decide +kernel)
set_option maxRecDepth 20000 in
theorem gX8_firsts_X8_has : GoodIn wsX8_firsts (va_wsS RX8 119 yX8_has wsX8_has) := goodIn_app (goodIn_of _ (by decide +kernel)) ggX8_firsts_X8_has
theorem dX8_firsts_0 : decode cX8_firsts 0 = .ok (.iload_n 1, 1) := by decide +kernel
theorem dX8_firsts_1 : decode cX8_firsts 1 = .ok (.bipush 9, 2) := by decide +kernel
theorem dX8_firsts_3 : decode cX8_firsts 3 = .ok (.invokestatic 61, 3) := by decide +kernel
theorem dX8_firsts_6 : decode cX8_firsts 6 = .ok (.ifCond .ne 6, 3) := by decide +kernel
theorem dX8_firsts_9 : decode cX8_firsts 9 = .ok (.bipush (-2), 2) := by decide +kernel
theorem dX8_firsts_11 : decode cX8_firsts 11 = .ok (.ireturn, 1) := by decide +kernel
theorem dX8_firsts_12 : decode cX8_firsts 12 = .ok (.aload_n 0, 1) := by decide +kernel
theorem dX8_firsts_13 : decode cX8_firsts 13 = .ok (.invokevirtual 94, 3) := by decide +kernel
theorem dX8_firsts_16 : decode cX8_firsts 16 = .ok (.aload_n 0, 1) := by decide +kernel
theorem dX8_firsts_17 : decode cX8_firsts 17 = .ok (.iload_n 1, 1) := by decide +kernel
theorem dX8_firsts_18 : decode cX8_firsts 18 = .ok (.invokevirtual 116, 3) := by decide +kernel
theorem dX8_firsts_21 : decode cX8_firsts 21 = .ok (.istore_n 2, 1) := by decide +kernel
theorem dX8_firsts_22 : decode cX8_firsts 22 = .ok (.iconst (-1), 1) := by decide +kernel
theorem dX8_firsts_23 : decode cX8_firsts 23 = .ok (.istore_n 3, 1) := by decide +kernel
theorem dX8_firsts_24 : decode cX8_firsts 24 = .ok (.iload_n 3, 1) := by decide +kernel
theorem dX8_firsts_25 : decode cX8_firsts 25 = .ok (.iload_n 2, 1) := by decide +kernel
theorem dX8_firsts_26 : decode cX8_firsts 26 = .ok (.if_icmp .eq 65, 3) := by decide +kernel
theorem dX8_firsts_29 : decode cX8_firsts 29 = .ok (.iload_n 2, 1) := by decide +kernel
theorem dX8_firsts_30 : decode cX8_firsts 30 = .ok (.istore_n 3, 1) := by decide +kernel
theorem dX8_firsts_31 : decode cX8_firsts 31 = .ok (.iconst 0, 1) := by decide +kernel
theorem dX8_firsts_32 : decode cX8_firsts 32 = .ok (.istore 4, 2) := by decide +kernel
theorem dX8_firsts_34 : decode cX8_firsts 34 = .ok (.iload 4, 2) := by decide +kernel
theorem dX8_firsts_36 : decode cX8_firsts 36 = .ok (.bipush 18, 2) := by decide +kernel
theorem dX8_firsts_38 : decode cX8_firsts 38 = .ok (.if_icmp .ge 50, 3) := by decide +kernel
theorem dX8_firsts_41 : decode cX8_firsts 41 = .ok (.iload_n 2, 1) := by decide +kernel
theorem dX8_firsts_42 : decode cX8_firsts 42 = .ok (.iload_n 3, 1) := by decide +kernel
theorem dX8_firsts_43 : decode cX8_firsts 43 = .ok (.iload 4, 2) := by decide +kernel
theorem dX8_firsts_45 : decode cX8_firsts 45 = .ok (.iconst 3, 1) := by decide +kernel
theorem dX8_firsts_46 : decode cX8_firsts 46 = .ok (.idiv, 1) := by decide +kernel
theorem dX8_firsts_47 : decode cX8_firsts 47 = .ok (.invokestatic 119, 3) := by decide +kernel
theorem dX8_firsts_50 : decode cX8_firsts 50 = .ok (.ifCond .eq 29, 3) := by decide +kernel
theorem dX8_firsts_53 : decode cX8_firsts 53 = .ok (.aload_n 0, 1) := by decide +kernel
theorem dX8_firsts_54 : decode cX8_firsts 54 = .ok (.getfield 7, 3) := by decide +kernel
theorem dX8_firsts_57 : decode cX8_firsts 57 = .ok (.iload 4, 2) := by decide +kernel
theorem dX8_firsts_59 : decode cX8_firsts 59 = .ok (.iaload, 1) := by decide +kernel
theorem dX8_firsts_60 : decode cX8_firsts 60 = .ok (.bipush (-9), 2) := by decide +kernel
theorem dX8_firsts_62 : decode cX8_firsts 62 = .ok (.if_icmp .eq 17, 3) := by decide +kernel
theorem dX8_firsts_65 : decode cX8_firsts 65 = .ok (.aload_n 0, 1) := by decide +kernel
theorem dX8_firsts_66 : decode cX8_firsts 66 = .ok (.aload_n 0, 1) := by decide +kernel
theorem dX8_firsts_67 : decode cX8_firsts 67 = .ok (.getfield 7, 3) := by decide +kernel
theorem dX8_firsts_70 : decode cX8_firsts 70 = .ok (.iload 4, 2) := by decide +kernel
theorem dX8_firsts_72 : decode cX8_firsts 72 = .ok (.iaload, 1) := by decide +kernel
theorem dX8_firsts_73 : decode cX8_firsts 73 = .ok (.invokevirtual 116, 3) := by decide +kernel
theorem dX8_firsts_76 : decode cX8_firsts 76 = .ok (.goto 4, 3) := by decide +kernel
theorem dX8_firsts_79 : decode cX8_firsts 79 = .ok (.iconst 0, 1) := by decide +kernel
theorem dX8_firsts_80 : decode cX8_firsts 80 = .ok (.ior, 1) := by decide +kernel
theorem dX8_firsts_81 : decode cX8_firsts 81 = .ok (.istore_n 2, 1) := by decide +kernel
theorem dX8_firsts_82 : decode cX8_firsts 82 = .ok (.iinc 4 1, 3) := by decide +kernel
theorem dX8_firsts_85 : decode cX8_firsts 85 = .ok (.goto (-51), 3) := by decide +kernel
theorem dX8_firsts_88 : decode cX8_firsts 88 = .ok (.goto (-64), 3) := by decide +kernel
theorem dX8_firsts_91 : decode cX8_firsts 91 = .ok (.iload_n 2, 1) := by decide +kernel
theorem dX8_firsts_92 : decode cX8_firsts 92 = .ok (.ireturn, 1) := by decide +kernel
set_option maxRecDepth 20000 in
theorem ggX8_isClaim_X8_digits : GoodIn wsX8_isClaim wsX8_digits := goodIn_r _ [4, 5, 6, 7, 3, 8] (by decide +kernel) (by decide +kernel)
set_option maxRecDepth 20000 in
theorem gX8_isClaim_X8_digits : GoodIn wsX8_isClaim (va_wsS RX8 46 yX8_digits wsX8_digits) := goodIn_app (goodIn_of _ (by decide +kernel)) ggX8_isClaim_X8_digits
set_option maxRecDepth 20000 in
theorem ggX8_isClaim_X8_within : GoodIn wsX8_isClaim wsX8_within := goodIn_r _ [8] (by decide +kernel) (by decide +kernel)
set_option maxRecDepth 20000 in
theorem gX8_isClaim_X8_within : GoodIn wsX8_isClaim (va_wsS RX8 40 yX8_within wsX8_within) := goodIn_app (goodIn_of _ (by decide +kernel)) ggX8_isClaim_X8_within
theorem dX8_isClaim_0 : decode cX8_isClaim 0 = .ok (.iload_n 1, 1) := by decide +kernel
theorem dX8_isClaim_1 : decode cX8_isClaim 1 = .ok (.i2l, 1) := by decide +kernel
theorem dX8_isClaim_2 : decode cX8_isClaim 2 = .ok (.iload_n 0, 1) := by decide +kernel
theorem dX8_isClaim_3 : decode cX8_isClaim 3 = .ok (.invokestatic 46, 3) := by decide +kernel
theorem dX8_isClaim_6 : decode cX8_isClaim 6 = .ok (.istore_n 2, 1) := by decide +kernel
theorem dX8_isClaim_7 : decode cX8_isClaim 7 = .ok (.iload_n 2, 1) := by decide +kernel
theorem dX8_isClaim_8 : decode cX8_isClaim 8 = .ok (.iconst 1, 1) := by decide +kernel
theorem dX8_isClaim_9 : decode cX8_isClaim 9 = .ok (.iconst 3, 1) := by decide +kernel
theorem dX8_isClaim_10 : decode cX8_isClaim 10 = .ok (.invokestatic 40, 3) := by decide +kernel
theorem dX8_isClaim_13 : decode cX8_isClaim 13 = .ok (.ireturn, 1) := by decide +kernel
set_option maxRecDepth 20000 in
theorem ggX8_claim_X8_isSign : GoodIn wsX8_claim wsX8_isSign := goodIn_r _ [5, 6, 7, 4, 8] (by decide +kernel) (by decide +kernel)
set_option maxRecDepth 20000 in
theorem gX8_claim_X8_isSign : GoodIn wsX8_claim (va_wsS RX8 54 yX8_isSign wsX8_isSign) := goodIn_app (goodIn_of _ (by decide +kernel)) ggX8_claim_X8_isSign
set_option maxRecDepth 20000 in
theorem ggX8_claim_X8_isClaim : GoodIn wsX8_claim wsX8_isClaim := goodIn_r _ [11, 12, 13, 4, 14, 15, 6, 7, 8] (by decide +kernel) (by decide +kernel)
set_option maxRecDepth 20000 in
theorem gX8_claim_X8_isClaim : GoodIn wsX8_claim (va_wsS RX8 122 yX8_isClaim wsX8_isClaim) := goodIn_app (goodIn_of _ (by decide +kernel)) ggX8_claim_X8_isClaim
set_option maxRecDepth 20000 in
theorem ggX8_claim_X8_keeps : GoodIn wsX8_claim wsX8_keeps := goodIn_r _ [19, 20, 21, 1, 26, 27, 28, 29, 30, 31, 32, 33, 34, 35, 36, 37, 38, 39] (by decide +kernel) (by decide +kernel)
set_option maxRecDepth 20000 in
theorem gX8_claim_X8_keeps : GoodIn wsX8_claim (wsV RX8 65 RX8 yX8_keeps wsX8_keeps) := goodIn_app (goodIn_of _ (by decide +kernel)) ggX8_claim_X8_keeps
set_option maxRecDepth 20000 in
theorem ggX8_claim_X8_claimOf : GoodIn wsX8_claim wsX8_claimOf := goodIn_r _ [25, 1, 26, 27, 28, 29, 30, 31, 32, 33, 34, 35, 36, 37, 38, 39] (by decide +kernel) (by decide +kernel)
set_option maxRecDepth 20000 in
theorem gX8_claim_X8_claimOf : GoodIn wsX8_claim (wsV RX8 125 RX8 yX8_claimOf wsX8_claimOf) := goodIn_app (goodIn_of _ (by decide +kernel)) ggX8_claim_X8_claimOf
theorem dX8_claim_0 : decode cX8_claim 0 = .ok (.iload_n 1, 1) := by decide +kernel
theorem dX8_claim_1 : decode cX8_claim 1 = .ok (.invokestatic 54, 3) := by decide +kernel
theorem dX8_claim_4 : decode cX8_claim 4 = .ok (.ifCond .ne 5, 3) := by decide +kernel
theorem dX8_claim_7 : decode cX8_claim 7 = .ok (.iconst (-1), 1) := by decide +kernel
theorem dX8_claim_8 : decode cX8_claim 8 = .ok (.ireturn, 1) := by decide +kernel
theorem dX8_claim_9 : decode cX8_claim 9 = .ok (.iload_n 2, 1) := by decide +kernel
theorem dX8_claim_10 : decode cX8_claim 10 = .ok (.bipush (-9), 2) := by decide +kernel
theorem dX8_claim_12 : decode cX8_claim 12 = .ok (.if_icmp .eq 14, 3) := by decide +kernel
theorem dX8_claim_15 : decode cX8_claim 15 = .ok (.iload_n 1, 1) := by decide +kernel
theorem dX8_claim_16 : decode cX8_claim 16 = .ok (.iload_n 2, 1) := by decide +kernel
theorem dX8_claim_17 : decode cX8_claim 17 = .ok (.invokestatic 122, 3) := by decide +kernel
theorem dX8_claim_20 : decode cX8_claim 20 = .ok (.ifCond .ne 6, 3) := by decide +kernel
theorem dX8_claim_23 : decode cX8_claim 23 = .ok (.bipush (-2), 2) := by decide +kernel
theorem dX8_claim_25 : decode cX8_claim 25 = .ok (.ireturn, 1) := by decide +kernel
theorem dX8_claim_26 : decode cX8_claim 26 = .ok (.aload_n 0, 1) := by decide +kernel
theorem dX8_claim_27 : decode cX8_claim 27 = .ok (.invokevirtual 65, 3) := by decide +kernel
theorem dX8_claim_30 : decode cX8_claim 30 = .ok (.aload_n 0, 1) := by decide +kernel
theorem dX8_claim_31 : decode cX8_claim 31 = .ok (.iload_n 1, 1) := by decide +kernel
theorem dX8_claim_32 : decode cX8_claim 32 = .ok (.invokevirtual 125, 3) := by decide +kernel
theorem dX8_claim_35 : decode cX8_claim 35 = .ok (.istore_n 3, 1) := by decide +kernel
theorem dX8_claim_36 : decode cX8_claim 36 = .ok (.aload_n 0, 1) := by decide +kernel
theorem dX8_claim_37 : decode cX8_claim 37 = .ok (.getfield 7, 3) := by decide +kernel
theorem dX8_claim_40 : decode cX8_claim 40 = .ok (.bipush 18, 2) := by decide +kernel
theorem dX8_claim_42 : decode cX8_claim 42 = .ok (.iload_n 1, 1) := by decide +kernel
theorem dX8_claim_43 : decode cX8_claim 43 = .ok (.iadd, 1) := by decide +kernel
theorem dX8_claim_44 : decode cX8_claim 44 = .ok (.iload_n 2, 1) := by decide +kernel
theorem dX8_claim_45 : decode cX8_claim 45 = .ok (.iastore, 1) := by decide +kernel
theorem dX8_claim_46 : decode cX8_claim 46 = .ok (.iload_n 3, 1) := by decide +kernel
theorem dX8_claim_47 : decode cX8_claim 47 = .ok (.ireturn, 1) := by decide +kernel
set_option maxRecDepth 20000 in
theorem ggX8_ofClaim_X8_isSign : GoodIn wsX8_ofClaim wsX8_isSign := goodIn_r _ [4, 5, 6, 3, 7] (by decide +kernel) (by decide +kernel)
set_option maxRecDepth 20000 in
theorem gX8_ofClaim_X8_isSign : GoodIn wsX8_ofClaim (va_wsS RX8 54 yX8_isSign wsX8_isSign) := goodIn_app (goodIn_of _ (by decide +kernel)) ggX8_ofClaim_X8_isSign
set_option maxRecDepth 20000 in
theorem ggX8_ofClaim_X8_claimOf : GoodIn wsX8_ofClaim wsX8_claimOf := goodIn_r _ [11, 12, 13, 14, 15, 16, 17, 18, 19, 20, 21, 22, 23, 24, 25, 26] (by decide +kernel) (by decide +kernel)
set_option maxRecDepth 20000 in
theorem gX8_ofClaim_X8_claimOf : GoodIn wsX8_ofClaim (wsV RX8 125 RX8 yX8_claimOf wsX8_claimOf) := goodIn_app (goodIn_of _ (by decide +kernel)) ggX8_ofClaim_X8_claimOf
theorem dX8_ofClaim_0 : decode cX8_ofClaim 0 = .ok (.iload_n 1, 1) := by decide +kernel
theorem dX8_ofClaim_1 : decode cX8_ofClaim 1 = .ok (.invokestatic 54, 3) := by decide +kernel
theorem dX8_ofClaim_4 : decode cX8_ofClaim 4 = .ok (.ifCond .eq 11, 3) := by decide +kernel
theorem dX8_ofClaim_7 : decode cX8_ofClaim 7 = .ok (.aload_n 0, 1) := by decide +kernel
theorem dX8_ofClaim_8 : decode cX8_ofClaim 8 = .ok (.iload_n 1, 1) := by decide +kernel
theorem dX8_ofClaim_9 : decode cX8_ofClaim 9 = .ok (.invokevirtual 125, 3) := by decide +kernel
theorem dX8_ofClaim_12 : decode cX8_ofClaim 12 = .ok (.goto 4, 3) := by decide +kernel
theorem dX8_ofClaim_15 : decode cX8_ofClaim 15 = .ok (.iconst (-1), 1) := by decide +kernel
theorem dX8_ofClaim_16 : decode cX8_ofClaim 16 = .ok (.ireturn, 1) := by decide +kernel
set_option maxRecDepth 20000 in
theorem ggX8_lays_X8_digits : GoodIn wsX8_lays wsX8_digits := goodIn_r _ [4, 5, 6, 7, 3, 8] (by decide +kernel) (by decide +kernel)
set_option maxRecDepth 20000 in
theorem gX8_lays_X8_digits : GoodIn wsX8_lays (va_wsS RX8 46 yX8_digits wsX8_digits) := goodIn_app (goodIn_of _ (by decide +kernel)) ggX8_lays_X8_digits
set_option maxRecDepth 20000 in
theorem ggX8_lays_X8_digitAt : GoodIn wsX8_lays wsX8_digitAt := goodIn_r _ [11, 5] (by decide +kernel) (by decide +kernel)
set_option maxRecDepth 20000 in
theorem gX8_lays_X8_digitAt : GoodIn wsX8_lays (va_wsS RX8 75 yX8_digitAt wsX8_digitAt) := goodIn_app (goodIn_of _ (by decide +kernel)) ggX8_lays_X8_digitAt
theorem dX8_lays_0 : decode cX8_lays 0 = .ok (.iload_n 0, 1) := by decide +kernel
theorem dX8_lays_1 : decode cX8_lays 1 = .ok (.i2l, 1) := by decide +kernel
theorem dX8_lays_2 : decode cX8_lays 2 = .ok (.bipush 6, 2) := by decide +kernel
theorem dX8_lays_4 : decode cX8_lays 4 = .ok (.invokestatic 46, 3) := by decide +kernel
theorem dX8_lays_7 : decode cX8_lays 7 = .ok (.istore_n 3, 1) := by decide +kernel
theorem dX8_lays_8 : decode cX8_lays 8 = .ok (.iconst 0, 1) := by decide +kernel
theorem dX8_lays_9 : decode cX8_lays 9 = .ok (.istore 4, 2) := by decide +kernel
theorem dX8_lays_11 : decode cX8_lays 11 = .ok (.iload 4, 2) := by decide +kernel
theorem dX8_lays_13 : decode cX8_lays 13 = .ok (.iload_n 3, 1) := by decide +kernel
theorem dX8_lays_14 : decode cX8_lays 14 = .ok (.if_icmp .ge 23, 3) := by decide +kernel
theorem dX8_lays_17 : decode cX8_lays 17 = .ok (.aload_n 1, 1) := by decide +kernel
theorem dX8_lays_18 : decode cX8_lays 18 = .ok (.iload_n 2, 1) := by decide +kernel
theorem dX8_lays_19 : decode cX8_lays 19 = .ok (.iload 4, 2) := by decide +kernel
theorem dX8_lays_21 : decode cX8_lays 21 = .ok (.iadd, 1) := by decide +kernel
theorem dX8_lays_22 : decode cX8_lays 22 = .ok (.iload_n 0, 1) := by decide +kernel
theorem dX8_lays_23 : decode cX8_lays 23 = .ok (.i2l, 1) := by decide +kernel
theorem dX8_lays_24 : decode cX8_lays 24 = .ok (.iload_n 3, 1) := by decide +kernel
theorem dX8_lays_25 : decode cX8_lays 25 = .ok (.iload 4, 2) := by decide +kernel
theorem dX8_lays_27 : decode cX8_lays 27 = .ok (.invokestatic 75, 3) := by decide +kernel
theorem dX8_lays_30 : decode cX8_lays 30 = .ok (.iastore, 1) := by decide +kernel
theorem dX8_lays_31 : decode cX8_lays 31 = .ok (.iinc 4 1, 3) := by decide +kernel
theorem dX8_lays_34 : decode cX8_lays 34 = .ok (.goto (-23), 3) := by decide +kernel
theorem dX8_lays_37 : decode cX8_lays 37 = .ok (.iload_n 2, 1) := by decide +kernel
theorem dX8_lays_38 : decode cX8_lays 38 = .ok (.iload_n 3, 1) := by decide +kernel
theorem dX8_lays_39 : decode cX8_lays 39 = .ok (.iadd, 1) := by decide +kernel
theorem dX8_lays_40 : decode cX8_lays 40 = .ok (.ireturn, 1) := by decide +kernel
set_option maxRecDepth 20000 in
theorem ggX8_reduces_X8_claimOf : GoodIn wsX8_reduces wsX8_claimOf := goodIn_r _ [6, 7, 21, 22, 23, 24, 25, 26, 27, 28, 29, 30, 31, 32, 33, 34] (by decide +kernel) (by decide +kernel)
set_option maxRecDepth 20000 in
theorem gX8_reduces_X8_claimOf : GoodIn wsX8_reduces (wsV RX8 125 RX8 yX8_claimOf wsX8_claimOf) := goodIn_app (goodIn_of _ (by decide +kernel)) ggX8_reduces_X8_claimOf
set_option maxRecDepth 20000 in
theorem ggX8_reduces_X8_lays : GoodIn wsX8_reduces wsX8_lays := goodIn_r _ [10, 11, 12, 5, 13, 14, 15, 16, 17, 18, 19, 20] (by decide +kernel) (by decide +kernel)
set_option maxRecDepth 20000 in
theorem gX8_reduces_X8_lays : GoodIn wsX8_reduces (va_wsS RX8 128 yX8_lays wsX8_lays) := goodIn_app (goodIn_of _ (by decide +kernel)) ggX8_reduces_X8_lays
theorem dX8_reduces_0 : decode cX8_reduces 0 = .ok (.iload_n 2, 1) := by decide +kernel
theorem dX8_reduces_1 : decode cX8_reduces 1 = .ok (.istore_n 3, 1) := by decide +kernel
theorem dX8_reduces_2 : decode cX8_reduces 2 = .ok (.iconst 5, 1) := by decide +kernel
theorem dX8_reduces_3 : decode cX8_reduces 3 = .ok (.istore 4, 2) := by decide +kernel
theorem dX8_reduces_5 : decode cX8_reduces 5 = .ok (.iload 4, 2) := by decide +kernel
theorem dX8_reduces_7 : decode cX8_reduces 7 = .ok (.ifCond .le 111, 3) := by decide +kernel
theorem dX8_reduces_10 : decode cX8_reduces 10 = .ok (.aload_n 0, 1) := by decide +kernel
theorem dX8_reduces_11 : decode cX8_reduces 11 = .ok (.iload 4, 2) := by decide +kernel
theorem dX8_reduces_13 : decode cX8_reduces 13 = .ok (.invokevirtual 125, 3) := by decide +kernel
theorem dX8_reduces_16 : decode cX8_reduces 16 = .ok (.bipush (-9), 2) := by decide +kernel
theorem dX8_reduces_18 : decode cX8_reduces 18 = .ok (.if_icmp .eq 94, 3) := by decide +kernel
theorem dX8_reduces_21 : decode cX8_reduces 21 = .ok (.iconst 0, 1) := by decide +kernel
theorem dX8_reduces_22 : decode cX8_reduces 22 = .ok (.istore 5, 2) := by decide +kernel
theorem dX8_reduces_24 : decode cX8_reduces 24 = .ok (.iconst 0, 1) := by decide +kernel
theorem dX8_reduces_25 : decode cX8_reduces 25 = .ok (.istore 6, 2) := by decide +kernel
theorem dX8_reduces_27 : decode cX8_reduces 27 = .ok (.iload 6, 2) := by decide +kernel
theorem dX8_reduces_29 : decode cX8_reduces 29 = .ok (.iload_n 3, 1) := by decide +kernel
theorem dX8_reduces_30 : decode cX8_reduces 30 = .ok (.if_icmp .ge 52, 3) := by decide +kernel
theorem dX8_reduces_33 : decode cX8_reduces 33 = .ok (.aload_n 1, 1) := by decide +kernel
theorem dX8_reduces_34 : decode cX8_reduces 34 = .ok (.iload 6, 2) := by decide +kernel
theorem dX8_reduces_36 : decode cX8_reduces 36 = .ok (.iaload, 1) := by decide +kernel
theorem dX8_reduces_37 : decode cX8_reduces 37 = .ok (.iload 4, 2) := by decide +kernel
theorem dX8_reduces_39 : decode cX8_reduces 39 = .ok (.if_icmp .ne 23, 3) := by decide +kernel
theorem dX8_reduces_42 : decode cX8_reduces 42 = .ok (.aload_n 0, 1) := by decide +kernel
theorem dX8_reduces_43 : decode cX8_reduces 43 = .ok (.iload 4, 2) := by decide +kernel
theorem dX8_reduces_45 : decode cX8_reduces 45 = .ok (.invokevirtual 125, 3) := by decide +kernel
theorem dX8_reduces_48 : decode cX8_reduces 48 = .ok (.aload_n 0, 1) := by decide +kernel
theorem dX8_reduces_49 : decode cX8_reduces 49 = .ok (.getfield 37, 3) := by decide +kernel
theorem dX8_reduces_52 : decode cX8_reduces 52 = .ok (.iload 5, 2) := by decide +kernel
theorem dX8_reduces_54 : decode cX8_reduces 54 = .ok (.invokestatic 128, 3) := by decide +kernel
theorem dX8_reduces_57 : decode cX8_reduces 57 = .ok (.istore 5, 2) := by decide +kernel
theorem dX8_reduces_59 : decode cX8_reduces 59 = .ok (.goto 17, 3) := by decide +kernel
theorem dX8_reduces_62 : decode cX8_reduces 62 = .ok (.aload_n 0, 1) := by decide +kernel
theorem dX8_reduces_63 : decode cX8_reduces 63 = .ok (.getfield 37, 3) := by decide +kernel
theorem dX8_reduces_66 : decode cX8_reduces 66 = .ok (.iload 5, 2) := by decide +kernel
theorem dX8_reduces_68 : decode cX8_reduces 68 = .ok (.aload_n 1, 1) := by decide +kernel
theorem dX8_reduces_69 : decode cX8_reduces 69 = .ok (.iload 6, 2) := by decide +kernel
theorem dX8_reduces_71 : decode cX8_reduces 71 = .ok (.iaload, 1) := by decide +kernel
theorem dX8_reduces_72 : decode cX8_reduces 72 = .ok (.iastore, 1) := by decide +kernel
theorem dX8_reduces_73 : decode cX8_reduces 73 = .ok (.iinc 5 1, 3) := by decide +kernel
theorem dX8_reduces_76 : decode cX8_reduces 76 = .ok (.iinc 6 1, 3) := by decide +kernel
theorem dX8_reduces_79 : decode cX8_reduces 79 = .ok (.goto (-52), 3) := by decide +kernel
theorem dX8_reduces_82 : decode cX8_reduces 82 = .ok (.iconst 0, 1) := by decide +kernel
theorem dX8_reduces_83 : decode cX8_reduces 83 = .ok (.istore 6, 2) := by decide +kernel
theorem dX8_reduces_85 : decode cX8_reduces 85 = .ok (.iload 6, 2) := by decide +kernel
theorem dX8_reduces_87 : decode cX8_reduces 87 = .ok (.iload 5, 2) := by decide +kernel
theorem dX8_reduces_89 : decode cX8_reduces 89 = .ok (.if_icmp .ge 20, 3) := by decide +kernel
theorem dX8_reduces_92 : decode cX8_reduces 92 = .ok (.aload_n 1, 1) := by decide +kernel
theorem dX8_reduces_93 : decode cX8_reduces 93 = .ok (.iload 6, 2) := by decide +kernel
theorem dX8_reduces_95 : decode cX8_reduces 95 = .ok (.aload_n 0, 1) := by decide +kernel
theorem dX8_reduces_96 : decode cX8_reduces 96 = .ok (.getfield 37, 3) := by decide +kernel
theorem dX8_reduces_99 : decode cX8_reduces 99 = .ok (.iload 6, 2) := by decide +kernel
theorem dX8_reduces_101 : decode cX8_reduces 101 = .ok (.iaload, 1) := by decide +kernel
theorem dX8_reduces_102 : decode cX8_reduces 102 = .ok (.iastore, 1) := by decide +kernel
theorem dX8_reduces_103 : decode cX8_reduces 103 = .ok (.iinc 6 1, 3) := by decide +kernel
theorem dX8_reduces_106 : decode cX8_reduces 106 = .ok (.goto (-21), 3) := by decide +kernel
theorem dX8_reduces_109 : decode cX8_reduces 109 = .ok (.iload 5, 2) := by decide +kernel
theorem dX8_reduces_111 : decode cX8_reduces 111 = .ok (.istore_n 3, 1) := by decide +kernel
theorem dX8_reduces_112 : decode cX8_reduces 112 = .ok (.iinc 4 (-1), 3) := by decide +kernel
theorem dX8_reduces_115 : decode cX8_reduces 115 = .ok (.goto (-110), 3) := by decide +kernel
theorem dX8_reduces_118 : decode cX8_reduces 118 = .ok (.iload_n 3, 1) := by decide +kernel
theorem dX8_reduces_119 : decode cX8_reduces 119 = .ok (.ireturn, 1) := by decide +kernel
set_option maxRecDepth 20000 in
theorem ggX8_reducesBoth_X8_lays : GoodIn wsX8_reducesBoth wsX8_lays := goodIn_r _ [8, 9, 10, 7, 11, 12, 13, 14, 15, 16, 17, 18] (by decide +kernel) (by decide +kernel)
set_option maxRecDepth 20000 in
theorem gX8_reducesBoth_X8_lays : GoodIn wsX8_reducesBoth (va_wsS RX8 128 yX8_lays wsX8_lays) := goodIn_app (goodIn_of _ (by decide +kernel)) ggX8_reducesBoth_X8_lays
set_option maxRecDepth 20000 in
theorem ggX8_reducesBoth_X8_reduces : GoodIn wsX8_reducesBoth wsX8_reduces := goodIn_r _ [22, 23, 24, 25, 26, 7, 27, 28, 5, 6, 8, 9, 10, 11, 12, 13, 14, 15, 16, 17, 18, 29, 30, 31, 32, 33, 34, 35, 36, 37, 38, 39, 40, 41, 42] (by decide +kernel) (by decide +kernel)
set_option maxRecDepth 20000 in
theorem gX8_reducesBoth_X8_reduces : GoodIn wsX8_reducesBoth (wsV RX8 132 RX8 yX8_reduces wsX8_reduces) := goodIn_app (goodIn_of _ (by decide +kernel)) ggX8_reducesBoth_X8_reduces
theorem dX8_reducesBoth_0 : decode cX8_reducesBoth 0 = .ok (.aload_n 0, 1) := by decide +kernel
theorem dX8_reducesBoth_1 : decode cX8_reducesBoth 1 = .ok (.aload_n 0, 1) := by decide +kernel
theorem dX8_reducesBoth_2 : decode cX8_reducesBoth 2 = .ok (.aload_n 0, 1) := by decide +kernel
theorem dX8_reducesBoth_3 : decode cX8_reducesBoth 3 = .ok (.getfield 31, 3) := by decide +kernel
theorem dX8_reducesBoth_6 : decode cX8_reducesBoth 6 = .ok (.iload_n 1, 1) := by decide +kernel
theorem dX8_reducesBoth_7 : decode cX8_reducesBoth 7 = .ok (.aload_n 0, 1) := by decide +kernel
theorem dX8_reducesBoth_8 : decode cX8_reducesBoth 8 = .ok (.getfield 31, 3) := by decide +kernel
theorem dX8_reducesBoth_11 : decode cX8_reducesBoth 11 = .ok (.iconst 0, 1) := by decide +kernel
theorem dX8_reducesBoth_12 : decode cX8_reducesBoth 12 = .ok (.invokestatic 128, 3) := by decide +kernel
theorem dX8_reducesBoth_15 : decode cX8_reducesBoth 15 = .ok (.invokevirtual 132, 3) := by decide +kernel
theorem dX8_reducesBoth_18 : decode cX8_reducesBoth 18 = .ok (.putfield 136, 3) := by decide +kernel
theorem dX8_reducesBoth_21 : decode cX8_reducesBoth 21 = .ok (.aload_n 0, 1) := by decide +kernel
theorem dX8_reducesBoth_22 : decode cX8_reducesBoth 22 = .ok (.aload_n 0, 1) := by decide +kernel
theorem dX8_reducesBoth_23 : decode cX8_reducesBoth 23 = .ok (.aload_n 0, 1) := by decide +kernel
theorem dX8_reducesBoth_24 : decode cX8_reducesBoth 24 = .ok (.getfield 34, 3) := by decide +kernel
theorem dX8_reducesBoth_27 : decode cX8_reducesBoth 27 = .ok (.iload_n 2, 1) := by decide +kernel
theorem dX8_reducesBoth_28 : decode cX8_reducesBoth 28 = .ok (.aload_n 0, 1) := by decide +kernel
theorem dX8_reducesBoth_29 : decode cX8_reducesBoth 29 = .ok (.getfield 34, 3) := by decide +kernel
theorem dX8_reducesBoth_32 : decode cX8_reducesBoth 32 = .ok (.iconst 0, 1) := by decide +kernel
theorem dX8_reducesBoth_33 : decode cX8_reducesBoth 33 = .ok (.invokestatic 128, 3) := by decide +kernel
theorem dX8_reducesBoth_36 : decode cX8_reducesBoth 36 = .ok (.invokevirtual 132, 3) := by decide +kernel
theorem dX8_reducesBoth_39 : decode cX8_reducesBoth 39 = .ok (.putfield 139, 3) := by decide +kernel
theorem dX8_reducesBoth_42 : decode cX8_reducesBoth 42 = .ok (.return_, 1) := by decide +kernel
theorem dX8_alikeFrom_0 : decode cX8_alikeFrom 0 = .ok (.iconst 0, 1) := by decide +kernel
theorem dX8_alikeFrom_1 : decode cX8_alikeFrom 1 = .ok (.istore_n 2, 1) := by decide +kernel
theorem dX8_alikeFrom_2 : decode cX8_alikeFrom 2 = .ok (.iload_n 2, 1) := by decide +kernel
theorem dX8_alikeFrom_3 : decode cX8_alikeFrom 3 = .ok (.aload_n 0, 1) := by decide +kernel
theorem dX8_alikeFrom_4 : decode cX8_alikeFrom 4 = .ok (.getfield 136, 3) := by decide +kernel
theorem dX8_alikeFrom_7 : decode cX8_alikeFrom 7 = .ok (.if_icmp .ge 70, 3) := by decide +kernel
theorem dX8_alikeFrom_10 : decode cX8_alikeFrom 10 = .ok (.iload_n 2, 1) := by decide +kernel
theorem dX8_alikeFrom_11 : decode cX8_alikeFrom 11 = .ok (.aload_n 0, 1) := by decide +kernel
theorem dX8_alikeFrom_12 : decode cX8_alikeFrom 12 = .ok (.getfield 139, 3) := by decide +kernel
theorem dX8_alikeFrom_15 : decode cX8_alikeFrom 15 = .ok (.if_icmp .ge 62, 3) := by decide +kernel
theorem dX8_alikeFrom_18 : decode cX8_alikeFrom 18 = .ok (.aload_n 0, 1) := by decide +kernel
theorem dX8_alikeFrom_19 : decode cX8_alikeFrom 19 = .ok (.getfield 31, 3) := by decide +kernel
theorem dX8_alikeFrom_22 : decode cX8_alikeFrom 22 = .ok (.iload_n 1, 1) := by decide +kernel
theorem dX8_alikeFrom_23 : decode cX8_alikeFrom 23 = .ok (.ifCond .eq 14, 3) := by decide +kernel
theorem dX8_alikeFrom_26 : decode cX8_alikeFrom 26 = .ok (.aload_n 0, 1) := by decide +kernel
