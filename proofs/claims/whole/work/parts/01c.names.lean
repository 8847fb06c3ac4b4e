theorem dX5_fromLast_4 : decode cX5_fromLast 4 = .ok (.iload_n 1, 1) := by decide +kernel
theorem dX5_fromLast_5 : decode cX5_fromLast 5 = .ok (.aload_n 0, 1) := by decide +kernel
theorem dX5_fromLast_6 : decode cX5_fromLast 6 = .ok (.getfield 21, 3) := by decide +kernel
theorem dX5_fromLast_9 : decode cX5_fromLast 9 = .ok (.if_icmp .ge 12, 3) := by decide +kernel
theorem dX5_fromLast_12 : decode cX5_fromLast 12 = .ok (.iload_n 1, 1) := by decide +kernel
theorem dX5_fromLast_13 : decode cX5_fromLast 13 = .ok (.aload_n 0, 1) := by decide +kernel
theorem dX5_fromLast_14 : decode cX5_fromLast 14 = .ok (.getfield 15, 3) := by decide +kernel
theorem dX5_fromLast_17 : decode cX5_fromLast 17 = .ok (.arraylength, 1) := by decide +kernel
theorem dX5_fromLast_18 : decode cX5_fromLast 18 = .ok (.if_icmp .lt 8, 3) := by decide +kernel
theorem dX5_fromLast_21 : decode cX5_fromLast 21 = .ok (.bipush (-9), 2) := by decide +kernel
theorem dX5_fromLast_23 : decode cX5_fromLast 23 = .ok (.goto 9, 3) := by decide +kernel
theorem dX5_fromLast_26 : decode cX5_fromLast 26 = .ok (.aload_n 0, 1) := by decide +kernel
theorem dX5_fromLast_27 : decode cX5_fromLast 27 = .ok (.getfield 15, 3) := by decide +kernel
theorem dX5_fromLast_30 : decode cX5_fromLast 30 = .ok (.iload_n 1, 1) := by decide +kernel
theorem dX5_fromLast_31 : decode cX5_fromLast 31 = .ok (.iaload, 1) := by decide +kernel
theorem dX5_fromLast_32 : decode cX5_fromLast 32 = .ok (.ireturn, 1) := by decide +kernel
theorem dX5_dropFirst_0 : decode cX5_dropFirst 0 = .ok (.aload_n 0, 1) := by decide +kernel
theorem dX5_dropFirst_1 : decode cX5_dropFirst 1 = .ok (.aload_n 0, 1) := by decide +kernel
theorem dX5_dropFirst_2 : decode cX5_dropFirst 2 = .ok (.getfield 21, 3) := by decide +kernel
theorem dX5_dropFirst_5 : decode cX5_dropFirst 5 = .ok (.iconst 1, 1) := by decide +kernel
theorem dX5_dropFirst_6 : decode cX5_dropFirst 6 = .ok (.isub, 1) := by decide +kernel
theorem dX5_dropFirst_7 : decode cX5_dropFirst 7 = .ok (.iconst 0, 1) := by decide +kernel
theorem dX5_dropFirst_8 : decode cX5_dropFirst 8 = .ok (.invokestatic 9, 3) := by decide +kernel
theorem dX5_dropFirst_11 : decode cX5_dropFirst 11 = .ok (.putfield 21, 3) := by decide +kernel
theorem dX5_dropFirst_14 : decode cX5_dropFirst 14 = .ok (.return_, 1) := by decide +kernel
theorem dX5_putFirst_0 : decode cX5_putFirst 0 = .ok (.aload_n 0, 1) := by decide +kernel
theorem dX5_putFirst_1 : decode cX5_putFirst 1 = .ok (.getfield 21, 3) := by decide +kernel
theorem dX5_putFirst_4 : decode cX5_putFirst 4 = .ok (.aload_n 0, 1) := by decide +kernel
theorem dX5_putFirst_5 : decode cX5_putFirst 5 = .ok (.getfield 15, 3) := by decide +kernel
theorem dX5_putFirst_8 : decode cX5_putFirst 8 = .ok (.arraylength, 1) := by decide +kernel
theorem dX5_putFirst_9 : decode cX5_putFirst 9 = .ok (.if_icmp .ge 23, 3) := by decide +kernel
theorem dX5_putFirst_12 : decode cX5_putFirst 12 = .ok (.aload_n 0, 1) := by decide +kernel
theorem dX5_putFirst_13 : decode cX5_putFirst 13 = .ok (.getfield 15, 3) := by decide +kernel
theorem dX5_putFirst_16 : decode cX5_putFirst 16 = .ok (.aload_n 0, 1) := by decide +kernel
theorem dX5_putFirst_17 : decode cX5_putFirst 17 = .ok (.getfield 21, 3) := by decide +kernel
theorem dX5_putFirst_20 : decode cX5_putFirst 20 = .ok (.iload_n 1, 1) := by decide +kernel
theorem dX5_putFirst_21 : decode cX5_putFirst 21 = .ok (.iastore, 1) := by decide +kernel
theorem dX5_putFirst_22 : decode cX5_putFirst 22 = .ok (.aload_n 0, 1) := by decide +kernel
theorem dX5_putFirst_23 : decode cX5_putFirst 23 = .ok (.dup, 1) := by decide +kernel
theorem dX5_putFirst_24 : decode cX5_putFirst 24 = .ok (.getfield 21, 3) := by decide +kernel
theorem dX5_putFirst_27 : decode cX5_putFirst 27 = .ok (.iconst 1, 1) := by decide +kernel
theorem dX5_putFirst_28 : decode cX5_putFirst 28 = .ok (.iadd, 1) := by decide +kernel
theorem dX5_putFirst_29 : decode cX5_putFirst 29 = .ok (.putfield 21, 3) := by decide +kernel
theorem dX5_putFirst_32 : decode cX5_putFirst 32 = .ok (.return_, 1) := by decide +kernel
set_option maxRecDepth 20000 in
theorem ggX5_putRowAhead_X5_putFirst : GoodIn wsX5_putRowAhead wsX5_putFirst := goodIn_r _ [6, 7, 8, 9, 10] (by decide +kernel) (by decide +kernel)
set_option maxRecDepth 20000 in
theorem gX5_putRowAhead_X5_putFirst : GoodIn wsX5_putRowAhead (wsV RX5 31 RX5 yX5_putFirst wsX5_putFirst) := goodIn_app (goodIn_of _ (by decide +kernel)) ggX5_putRowAhead_X5_putFirst
theorem dX5_putRowAhead_0 : decode cX5_putRowAhead 0 = .ok (.lload_n 1, 1) := by decide +kernel
theorem dX5_putRowAhead_1 : decode cX5_putRowAhead 1 = .ok (.lstore_n 3, 1) := by decide +kernel
theorem dX5_putRowAhead_2 : decode cX5_putRowAhead 2 = .ok (.lload_n 3, 1) := by decide +kernel
theorem dX5_putRowAhead_3 : decode cX5_putRowAhead 3 = .ok (.lconst 0, 1) := by decide +kernel
theorem dX5_putRowAhead_4 : decode cX5_putRowAhead 4 = .ok (.lcmp, 1) := by decide +kernel
theorem dX5_putRowAhead_5 : decode cX5_putRowAhead 5 = .ok (.ifCond .le 24, 3) := by decide +kernel
theorem dX5_putRowAhead_8 : decode cX5_putRowAhead 8 = .ok (.aload_n 0, 1) := by decide +kernel
theorem dX5_putRowAhead_9 : decode cX5_putRowAhead 9 = .ok (.lload_n 3, 1) := by decide +kernel
theorem dX5_putRowAhead_10 : decode cX5_putRowAhead 10 = .ok (.ldc2_w 29, 3) := by decide +kernel
theorem dX5_putRowAhead_13 : decode cX5_putRowAhead 13 = .ok (.lrem, 1) := by decide +kernel
theorem dX5_putRowAhead_14 : decode cX5_putRowAhead 14 = .ok (.l2i, 1) := by decide +kernel
theorem dX5_putRowAhead_15 : decode cX5_putRowAhead 15 = .ok (.iconst 1, 1) := by decide +kernel
theorem dX5_putRowAhead_16 : decode cX5_putRowAhead 16 = .ok (.isub, 1) := by decide +kernel
theorem dX5_putRowAhead_17 : decode cX5_putRowAhead 17 = .ok (.invokevirtual 31, 3) := by decide +kernel
theorem dX5_putRowAhead_20 : decode cX5_putRowAhead 20 = .ok (.lload_n 3, 1) := by decide +kernel
theorem dX5_putRowAhead_21 : decode cX5_putRowAhead 21 = .ok (.ldc2_w 29, 3) := by decide +kernel
theorem dX5_putRowAhead_24 : decode cX5_putRowAhead 24 = .ok (.ldiv, 1) := by decide +kernel
theorem dX5_putRowAhead_25 : decode cX5_putRowAhead 25 = .ok (.lstore_n 3, 1) := by decide +kernel
theorem dX5_putRowAhead_26 : decode cX5_putRowAhead 26 = .ok (.goto (-24), 3) := by decide +kernel
theorem dX5_putRowAhead_29 : decode cX5_putRowAhead 29 = .ok (.return_, 1) := by decide +kernel
theorem dX5_putAllAhead_0 : decode cX5_putAllAhead 0 = .ok (.aload_n 1, 1) := by decide +kernel
theorem dX5_putAllAhead_1 : decode cX5_putAllAhead 1 = .ok (.getfield 21, 3) := by decide +kernel
theorem dX5_putAllAhead_4 : decode cX5_putAllAhead 4 = .ok (.aload_n 0, 1) := by decide +kernel
theorem dX5_putAllAhead_5 : decode cX5_putAllAhead 5 = .ok (.getfield 15, 3) := by decide +kernel
theorem dX5_putAllAhead_8 : decode cX5_putAllAhead 8 = .ok (.arraylength, 1) := by decide +kernel
theorem dX5_putAllAhead_9 : decode cX5_putAllAhead 9 = .ok (.aload_n 0, 1) := by decide +kernel
theorem dX5_putAllAhead_10 : decode cX5_putAllAhead 10 = .ok (.getfield 21, 3) := by decide +kernel
theorem dX5_putAllAhead_13 : decode cX5_putAllAhead 13 = .ok (.isub, 1) := by decide +kernel
theorem dX5_putAllAhead_14 : decode cX5_putAllAhead 14 = .ok (.if_icmp .gt 36, 3) := by decide +kernel
theorem dX5_putAllAhead_17 : decode cX5_putAllAhead 17 = .ok (.aload_n 1, 1) := by decide +kernel
theorem dX5_putAllAhead_18 : decode cX5_putAllAhead 18 = .ok (.getfield 15, 3) := by decide +kernel
theorem dX5_putAllAhead_21 : decode cX5_putAllAhead 21 = .ok (.iconst 0, 1) := by decide +kernel
theorem dX5_putAllAhead_22 : decode cX5_putAllAhead 22 = .ok (.aload_n 0, 1) := by decide +kernel
theorem dX5_putAllAhead_23 : decode cX5_putAllAhead 23 = .ok (.getfield 15, 3) := by decide +kernel
theorem dX5_putAllAhead_26 : decode cX5_putAllAhead 26 = .ok (.aload_n 0, 1) := by decide +kernel
theorem dX5_putAllAhead_27 : decode cX5_putAllAhead 27 = .ok (.getfield 21, 3) := by decide +kernel
theorem dX5_putAllAhead_30 : decode cX5_putAllAhead 30 = .ok (.aload_n 1, 1) := by decide +kernel
theorem dX5_putAllAhead_31 : decode cX5_putAllAhead 31 = .ok (.getfield 21, 3) := by decide +kernel
theorem dX5_putAllAhead_34 : decode cX5_putAllAhead 34 = .ok (.invokestatic 35, 3) := by decide +kernel
theorem dX5_putAllAhead_37 : decode cX5_putAllAhead 37 = .ok (.aload_n 0, 1) := by decide +kernel
theorem dX5_putAllAhead_38 : decode cX5_putAllAhead 38 = .ok (.dup, 1) := by decide +kernel
theorem dX5_putAllAhead_39 : decode cX5_putAllAhead 39 = .ok (.getfield 21, 3) := by decide +kernel
theorem dX5_putAllAhead_42 : decode cX5_putAllAhead 42 = .ok (.aload_n 1, 1) := by decide +kernel
theorem dX5_putAllAhead_43 : decode cX5_putAllAhead 43 = .ok (.getfield 21, 3) := by decide +kernel
theorem dX5_putAllAhead_46 : decode cX5_putAllAhead 46 = .ok (.iadd, 1) := by decide +kernel
theorem dX5_putAllAhead_47 : decode cX5_putAllAhead 47 = .ok (.putfield 21, 3) := by decide +kernel
theorem dX5_putAllAhead_50 : decode cX5_putAllAhead 50 = .ok (.return_, 1) := by decide +kernel
set_option maxRecDepth 20000 in
theorem ggX5_sameFromFirst_X5_fromFirst : GoodIn wsX5_sameFromFirst wsX5_fromFirst := goodIn_r _ [10, 1, 11, 12, 13, 9, 14, 15, 16, 17] (by decide +kernel) (by decide +kernel)
set_option maxRecDepth 20000 in
theorem gX5_sameFromFirst_X5_fromFirst : GoodIn wsX5_sameFromFirst (wsV RX5 44 RX5 yX5_fromFirst wsX5_fromFirst) := goodIn_app (goodIn_of _ (by decide +kernel)) ggX5_sameFromFirst_X5_fromFirst
theorem dX5_sameFromFirst_0 : decode cX5_sameFromFirst 0 = .ok (.aload_n 0, 1) := by decide +kernel
theorem dX5_sameFromFirst_1 : decode cX5_sameFromFirst 1 = .ok (.getfield 21, 3) := by decide +kernel
theorem dX5_sameFromFirst_4 : decode cX5_sameFromFirst 4 = .ok (.aload_n 1, 1) := by decide +kernel
theorem dX5_sameFromFirst_5 : decode cX5_sameFromFirst 5 = .ok (.getfield 21, 3) := by decide +kernel
theorem dX5_sameFromFirst_8 : decode cX5_sameFromFirst 8 = .ok (.invokestatic 41, 3) := by decide +kernel
theorem dX5_sameFromFirst_11 : decode cX5_sameFromFirst 11 = .ok (.istore_n 2, 1) := by decide +kernel
theorem dX5_sameFromFirst_12 : decode cX5_sameFromFirst 12 = .ok (.iconst 0, 1) := by decide +kernel
theorem dX5_sameFromFirst_13 : decode cX5_sameFromFirst 13 = .ok (.istore_n 3, 1) := by decide +kernel
theorem dX5_sameFromFirst_14 : decode cX5_sameFromFirst 14 = .ok (.iload_n 3, 1) := by decide +kernel
theorem dX5_sameFromFirst_15 : decode cX5_sameFromFirst 15 = .ok (.iload_n 2, 1) := by decide +kernel
theorem dX5_sameFromFirst_16 : decode cX5_sameFromFirst 16 = .ok (.if_icmp .ge 22, 3) := by decide +kernel
theorem dX5_sameFromFirst_19 : decode cX5_sameFromFirst 19 = .ok (.aload_n 0, 1) := by decide +kernel
theorem dX5_sameFromFirst_20 : decode cX5_sameFromFirst 20 = .ok (.iload_n 3, 1) := by decide +kernel
theorem dX5_sameFromFirst_21 : decode cX5_sameFromFirst 21 = .ok (.invokevirtual 44, 3) := by decide +kernel
theorem dX5_sameFromFirst_24 : decode cX5_sameFromFirst 24 = .ok (.aload_n 1, 1) := by decide +kernel
theorem dX5_sameFromFirst_25 : decode cX5_sameFromFirst 25 = .ok (.iload_n 3, 1) := by decide +kernel
theorem dX5_sameFromFirst_26 : decode cX5_sameFromFirst 26 = .ok (.invokevirtual 44, 3) := by decide +kernel
theorem dX5_sameFromFirst_29 : decode cX5_sameFromFirst 29 = .ok (.if_icmp .ne 9, 3) := by decide +kernel
theorem dX5_sameFromFirst_32 : decode cX5_sameFromFirst 32 = .ok (.iinc 3 1, 3) := by decide +kernel
theorem dX5_sameFromFirst_35 : decode cX5_sameFromFirst 35 = .ok (.goto (-21), 3) := by decide +kernel
theorem dX5_sameFromFirst_38 : decode cX5_sameFromFirst 38 = .ok (.iload_n 3, 1) := by decide +kernel
theorem dX5_sameFromFirst_39 : decode cX5_sameFromFirst 39 = .ok (.ireturn, 1) := by decide +kernel
set_option maxRecDepth 20000 in
theorem ggX5_sameFromLast_X5_fromLast : GoodIn wsX5_sameFromLast wsX5_fromLast := goodIn_r _ [10, 1, 11, 12, 13] (by decide +kernel) (by decide +kernel)
set_option maxRecDepth 20000 in
theorem gX5_sameFromLast_X5_fromLast : GoodIn wsX5_sameFromLast (wsV RX5 25 RX5 yX5_fromLast wsX5_fromLast) := goodIn_app (goodIn_of _ (by decide +kernel)) ggX5_sameFromLast_X5_fromLast
theorem dX5_sameFromLast_0 : decode cX5_sameFromLast 0 = .ok (.aload_n 0, 1) := by decide +kernel
theorem dX5_sameFromLast_1 : decode cX5_sameFromLast 1 = .ok (.getfield 21, 3) := by decide +kernel
theorem dX5_sameFromLast_4 : decode cX5_sameFromLast 4 = .ok (.aload_n 1, 1) := by decide +kernel
theorem dX5_sameFromLast_5 : decode cX5_sameFromLast 5 = .ok (.getfield 21, 3) := by decide +kernel
theorem dX5_sameFromLast_8 : decode cX5_sameFromLast 8 = .ok (.invokestatic 41, 3) := by decide +kernel
theorem dX5_sameFromLast_11 : decode cX5_sameFromLast 11 = .ok (.istore_n 2, 1) := by decide +kernel
theorem dX5_sameFromLast_12 : decode cX5_sameFromLast 12 = .ok (.iconst 0, 1) := by decide +kernel
theorem dX5_sameFromLast_13 : decode cX5_sameFromLast 13 = .ok (.istore_n 3, 1) := by decide +kernel
theorem dX5_sameFromLast_14 : decode cX5_sameFromLast 14 = .ok (.iload_n 3, 1) := by decide +kernel
theorem dX5_sameFromLast_15 : decode cX5_sameFromLast 15 = .ok (.iload_n 2, 1) := by decide +kernel
theorem dX5_sameFromLast_16 : decode cX5_sameFromLast 16 = .ok (.if_icmp .ge 22, 3) := by decide +kernel
theorem dX5_sameFromLast_19 : decode cX5_sameFromLast 19 = .ok (.aload_n 0, 1) := by decide +kernel
theorem dX5_sameFromLast_20 : decode cX5_sameFromLast 20 = .ok (.iload_n 3, 1) := by decide +kernel
theorem dX5_sameFromLast_21 : decode cX5_sameFromLast 21 = .ok (.invokevirtual 25, 3) := by decide +kernel
theorem dX5_sameFromLast_24 : decode cX5_sameFromLast 24 = .ok (.aload_n 1, 1) := by decide +kernel
theorem dX5_sameFromLast_25 : decode cX5_sameFromLast 25 = .ok (.iload_n 3, 1) := by decide +kernel
theorem dX5_sameFromLast_26 : decode cX5_sameFromLast 26 = .ok (.invokevirtual 25, 3) := by decide +kernel
theorem dX5_sameFromLast_29 : decode cX5_sameFromLast 29 = .ok (.if_icmp .ne 9, 3) := by decide +kernel
theorem dX5_sameFromLast_32 : decode cX5_sameFromLast 32 = .ok (.iinc 3 1, 3) := by decide +kernel
theorem dX5_sameFromLast_35 : decode cX5_sameFromLast 35 = .ok (.goto (-21), 3) := by decide +kernel
theorem dX5_sameFromLast_38 : decode cX5_sameFromLast 38 = .ok (.iload_n 3, 1) := by decide +kernel
theorem dX5_sameFromLast_39 : decode cX5_sameFromLast 39 = .ok (.ireturn, 1) := by decide +kernel
set_option maxRecDepth 20000 in
theorem ggX5_isSame_X5_sameFromLast : GoodIn wsX5_isSame wsX5_sameFromLast := goodIn_r _ [6, 1, 7, 8, 9, 10, 11, 12, 13, 5, 14, 15, 16, 17] (by decide +kernel) (by decide +kernel)
set_option maxRecDepth 20000 in
theorem gX5_isSame_X5_sameFromLast : GoodIn wsX5_isSame (wsV RX5 47 RX5 yX5_sameFromLast wsX5_sameFromLast) := goodIn_app (goodIn_of _ (by decide +kernel)) ggX5_isSame_X5_sameFromLast
theorem dX5_isSame_0 : decode cX5_isSame 0 = .ok (.aload_n 0, 1) := by decide +kernel
theorem dX5_isSame_1 : decode cX5_isSame 1 = .ok (.getfield 21, 3) := by decide +kernel
theorem dX5_isSame_4 : decode cX5_isSame 4 = .ok (.aload_n 1, 1) := by decide +kernel
theorem dX5_isSame_5 : decode cX5_isSame 5 = .ok (.getfield 21, 3) := by decide +kernel
theorem dX5_isSame_8 : decode cX5_isSame 8 = .ok (.if_icmp .ne 19, 3) := by decide +kernel
theorem dX5_isSame_11 : decode cX5_isSame 11 = .ok (.aload_n 0, 1) := by decide +kernel
theorem dX5_isSame_12 : decode cX5_isSame 12 = .ok (.aload_n 1, 1) := by decide +kernel
theorem dX5_isSame_13 : decode cX5_isSame 13 = .ok (.invokevirtual 47, 3) := by decide +kernel
theorem dX5_isSame_16 : decode cX5_isSame 16 = .ok (.aload_n 0, 1) := by decide +kernel
theorem dX5_isSame_17 : decode cX5_isSame 17 = .ok (.getfield 21, 3) := by decide +kernel
theorem dX5_isSame_20 : decode cX5_isSame 20 = .ok (.if_icmp .ne 7, 3) := by decide +kernel
theorem dX5_isSame_23 : decode cX5_isSame 23 = .ok (.iconst 1, 1) := by decide +kernel
theorem dX5_isSame_24 : decode cX5_isSame 24 = .ok (.goto 4, 3) := by decide +kernel
theorem dX5_isSame_27 : decode cX5_isSame 27 = .ok (.iconst 0, 1) := by decide +kernel
theorem dX5_isSame_28 : decode cX5_isSame 28 = .ok (.ireturn, 1) := by decide +kernel
set_option maxRecDepth 20000 in
theorem ggX6_init_J7_fill_53178 : GoodIn wsX6_init wsJ7_fill_53178 := goodIn_r _ [10] (by decide +kernel) (by decide +kernel)
set_option maxRecDepth 20000 in
theorem gX6_init_J7_fill_53178 : GoodIn wsX6_init (va_wsS RX6 18 yJ7_fill_53178 wsJ7_fill_53178) := goodIn_app (goodIn_of _ (by decide +kernel)) ggX6_init_J7_fill_53178
theorem dX6_init_0 : decode cX6_init 0 = .ok (.aload_n 0, 1) := by decide +kernel
theorem dX6_init_1 : decode cX6_init 1 = .ok (.invokespecial 3, 3) := by decide +kernel
theorem dX6_init_4 : decode cX6_init 4 = .ok (.aload_n 0, 1) := by decide +kernel
theorem dX6_init_5 : decode cX6_init 5 = .ok (.bipush 18, 2) := by decide +kernel
theorem dX6_init_7 : decode cX6_init 7 = .ok (.newarray .int, 2) := by decide +kernel
theorem dX6_init_9 : decode cX6_init 9 = .ok (.putfield 9, 3) := by decide +kernel
theorem dX6_init_12 : decode cX6_init 12 = .ok (.aload_n 0, 1) := by decide +kernel
theorem dX6_init_13 : decode cX6_init 13 = .ok (.bipush 6, 2) := by decide +kernel
theorem dX6_init_15 : decode cX6_init 15 = .ok (.newarray .int, 2) := by decide +kernel
theorem dX6_init_17 : decode cX6_init 17 = .ok (.putfield 15, 3) := by decide +kernel
theorem dX6_init_20 : decode cX6_init 20 = .ok (.aload_n 0, 1) := by decide +kernel
theorem dX6_init_21 : decode cX6_init 21 = .ok (.getfield 9, 3) := by decide +kernel
theorem dX6_init_24 : decode cX6_init 24 = .ok (.bipush (-9), 2) := by decide +kernel
theorem dX6_init_26 : decode cX6_init 26 = .ok (.invokestatic 18, 3) := by decide +kernel
theorem dX6_init_29 : decode cX6_init 29 = .ok (.aload_n 0, 1) := by decide +kernel
theorem dX6_init_30 : decode cX6_init 30 = .ok (.getfield 15, 3) := by decide +kernel
theorem dX6_init_33 : decode cX6_init 33 = .ok (.bipush (-9), 2) := by decide +kernel
theorem dX6_init_35 : decode cX6_init 35 = .ok (.invokestatic 18, 3) := by decide +kernel
theorem dX6_init_38 : decode cX6_init 38 = .ok (.return_, 1) := by decide +kernel
set_option maxRecDepth 20000 in
theorem ggX6_ruleOf_X7_isSign : GoodIn wsX6_ruleOf wsX7_isSign := goodIn_r _ [4] (by decide +kernel) (by decide +kernel)
set_option maxRecDepth 20000 in
theorem gX6_ruleOf_X7_isSign_n24 : GoodIn wsX6_ruleOf (wsX7_isSign) := ggX6_ruleOf_X7_isSign
set_option maxRecDepth 20000 in
theorem ggX6_ruleOf_X7_isLetter : GoodIn wsX6_ruleOf wsX7_isLetter := goodIn_r _ [6] (by decide +kernel) (by decide +kernel)
set_option maxRecDepth 20000 in
theorem gX6_ruleOf_X7_isLetter_n28 : GoodIn wsX6_ruleOf (wsX7_isLetter) := ggX6_ruleOf_X7_isLetter
theorem dX6_ruleOf_0 : decode cX6_ruleOf 0 = .ok (.iload_n 1, 1) := by decide +kernel
theorem dX6_ruleOf_1 : decode cX6_ruleOf 1 = .ok (.invokestatic 24, 3) := by decide +kernel
theorem dX6_ruleOf_4 : decode cX6_ruleOf 4 = .ok (.ifCond .eq 23, 3) := by decide +kernel
theorem dX6_ruleOf_7 : decode cX6_ruleOf 7 = .ok (.iload_n 2, 1) := by decide +kernel
theorem dX6_ruleOf_8 : decode cX6_ruleOf 8 = .ok (.invokestatic 28, 3) := by decide +kernel
theorem dX6_ruleOf_11 : decode cX6_ruleOf 11 = .ok (.ifCond .eq 16, 3) := by decide +kernel
theorem dX6_ruleOf_14 : decode cX6_ruleOf 14 = .ok (.aload_n 0, 1) := by decide +kernel
theorem dX6_ruleOf_15 : decode cX6_ruleOf 15 = .ok (.getfield 9, 3) := by decide +kernel
theorem dX6_ruleOf_18 : decode cX6_ruleOf 18 = .ok (.iload_n 1, 1) := by decide +kernel
theorem dX6_ruleOf_19 : decode cX6_ruleOf 19 = .ok (.iconst 3, 1) := by decide +kernel
theorem dX6_ruleOf_20 : decode cX6_ruleOf 20 = .ok (.imul, 1) := by decide +kernel
theorem dX6_ruleOf_21 : decode cX6_ruleOf 21 = .ok (.iload_n 2, 1) := by decide +kernel
theorem dX6_ruleOf_22 : decode cX6_ruleOf 22 = .ok (.iadd, 1) := by decide +kernel
theorem dX6_ruleOf_23 : decode cX6_ruleOf 23 = .ok (.iaload, 1) := by decide +kernel
theorem dX6_ruleOf_24 : decode cX6_ruleOf 24 = .ok (.goto 5, 3) := by decide +kernel
theorem dX6_ruleOf_27 : decode cX6_ruleOf 27 = .ok (.bipush (-9), 2) := by decide +kernel
theorem dX6_ruleOf_29 : decode cX6_ruleOf 29 = .ok (.ireturn, 1) := by decide +kernel
set_option maxRecDepth 20000 in
theorem ggX6_setRule_X7_isSign : GoodIn wsX6_setRule wsX7_isSign := goodIn_r _ [4] (by decide +kernel) (by decide +kernel)
set_option maxRecDepth 20000 in
theorem gX6_setRule_X7_isSign_n24 : GoodIn wsX6_setRule (wsX7_isSign) := ggX6_setRule_X7_isSign
set_option maxRecDepth 20000 in
theorem ggX6_setRule_X7_isLetter : GoodIn wsX6_setRule wsX7_isLetter := goodIn_r _ [6] (by decide +kernel) (by decide +kernel)
set_option maxRecDepth 20000 in
theorem gX6_setRule_X7_isLetter_n28 : GoodIn wsX6_setRule (wsX7_isLetter) := ggX6_setRule_X7_isLetter
theorem dX6_setRule_0 : decode cX6_setRule 0 = .ok (.iload_n 1, 1) := by decide +kernel
theorem dX6_setRule_1 : decode cX6_setRule 1 = .ok (.invokestatic 24, 3) := by decide +kernel
theorem dX6_setRule_4 : decode cX6_setRule 4 = .ok (.ifCond .eq 21, 3) := by decide +kernel
theorem dX6_setRule_7 : decode cX6_setRule 7 = .ok (.iload_n 2, 1) := by decide +kernel
theorem dX6_setRule_8 : decode cX6_setRule 8 = .ok (.invokestatic 28, 3) := by decide +kernel
theorem dX6_setRule_11 : decode cX6_setRule 11 = .ok (.ifCond .eq 14, 3) := by decide +kernel
theorem dX6_setRule_14 : decode cX6_setRule 14 = .ok (.aload_n 0, 1) := by decide +kernel
theorem dX6_setRule_15 : decode cX6_setRule 15 = .ok (.getfield 9, 3) := by decide +kernel
theorem dX6_setRule_18 : decode cX6_setRule 18 = .ok (.iload_n 1, 1) := by decide +kernel
theorem dX6_setRule_19 : decode cX6_setRule 19 = .ok (.iconst 3, 1) := by decide +kernel
theorem dX6_setRule_20 : decode cX6_setRule 20 = .ok (.imul, 1) := by decide +kernel
theorem dX6_setRule_21 : decode cX6_setRule 21 = .ok (.iload_n 2, 1) := by decide +kernel
theorem dX6_setRule_22 : decode cX6_setRule 22 = .ok (.iadd, 1) := by decide +kernel
theorem dX6_setRule_23 : decode cX6_setRule 23 = .ok (.iload_n 3, 1) := by decide +kernel
theorem dX6_setRule_24 : decode cX6_setRule 24 = .ok (.iastore, 1) := by decide +kernel
theorem dX6_setRule_25 : decode cX6_setRule 25 = .ok (.return_, 1) := by decide +kernel
set_option maxRecDepth 20000 in
theorem ggX6_claimOf_X7_isSign : GoodIn wsX6_claimOf wsX7_isSign := goodIn_r _ [4] (by decide +kernel) (by decide +kernel)
set_option maxRecDepth 20000 in
theorem gX6_claimOf_X7_isSign_n24 : GoodIn wsX6_claimOf (wsX7_isSign) := ggX6_claimOf_X7_isSign
theorem dX6_claimOf_0 : decode cX6_claimOf 0 = .ok (.iload_n 1, 1) := by decide +kernel
theorem dX6_claimOf_1 : decode cX6_claimOf 1 = .ok (.invokestatic 24, 3) := by decide +kernel
theorem dX6_claimOf_4 : decode cX6_claimOf 4 = .ok (.ifCond .eq 12, 3) := by decide +kernel
theorem dX6_claimOf_7 : decode cX6_claimOf 7 = .ok (.aload_n 0, 1) := by decide +kernel
theorem dX6_claimOf_8 : decode cX6_claimOf 8 = .ok (.getfield 15, 3) := by decide +kernel
theorem dX6_claimOf_11 : decode cX6_claimOf 11 = .ok (.iload_n 1, 1) := by decide +kernel
theorem dX6_claimOf_12 : decode cX6_claimOf 12 = .ok (.iaload, 1) := by decide +kernel
theorem dX6_claimOf_13 : decode cX6_claimOf 13 = .ok (.goto 5, 3) := by decide +kernel
theorem dX6_claimOf_16 : decode cX6_claimOf 16 = .ok (.bipush (-9), 2) := by decide +kernel
theorem dX6_claimOf_18 : decode cX6_claimOf 18 = .ok (.ireturn, 1) := by decide +kernel
set_option maxRecDepth 20000 in
theorem ggX6_setClaim_X7_isSign : GoodIn wsX6_setClaim wsX7_isSign := goodIn_r _ [4] (by decide +kernel) (by decide +kernel)
set_option maxRecDepth 20000 in
theorem gX6_setClaim_X7_isSign_n24 : GoodIn wsX6_setClaim (wsX7_isSign) := ggX6_setClaim_X7_isSign
theorem dX6_setClaim_0 : decode cX6_setClaim 0 = .ok (.iload_n 1, 1) := by decide +kernel
theorem dX6_setClaim_1 : decode cX6_setClaim 1 = .ok (.invokestatic 24, 3) := by decide +kernel
theorem dX6_setClaim_4 : decode cX6_setClaim 4 = .ok (.ifCond .eq 10, 3) := by decide +kernel
theorem dX6_setClaim_7 : decode cX6_setClaim 7 = .ok (.aload_n 0, 1) := by decide +kernel
theorem dX6_setClaim_8 : decode cX6_setClaim 8 = .ok (.getfield 15, 3) := by decide +kernel
theorem dX6_setClaim_11 : decode cX6_setClaim 11 = .ok (.iload_n 1, 1) := by decide +kernel
theorem dX6_setClaim_12 : decode cX6_setClaim 12 = .ok (.iload_n 2, 1) := by decide +kernel
theorem dX6_setClaim_13 : decode cX6_setClaim 13 = .ok (.iastore, 1) := by decide +kernel
theorem dX6_setClaim_14 : decode cX6_setClaim 14 = .ok (.return_, 1) := by decide +kernel
set_option maxRecDepth 20000 in
theorem ggX6_countRules_X6_countPresent : GoodIn wsX6_countRules wsX6_countPresent := goodIn_r _ [5] (by decide +kernel) (by decide +kernel)
set_option maxRecDepth 20000 in
theorem gX6_countRules_X6_countPresent : GoodIn wsX6_countRules (va_wsS RX6 31 yX6_countPresent wsX6_countPresent) := goodIn_app (goodIn_of _ (by decide +kernel)) ggX6_countRules_X6_countPresent
theorem dX6_countRules_0 : decode cX6_countRules 0 = .ok (.aload_n 0, 1) := by decide +kernel
theorem dX6_countRules_1 : decode cX6_countRules 1 = .ok (.getfield 9, 3) := by decide +kernel
theorem dX6_countRules_4 : decode cX6_countRules 4 = .ok (.invokestatic 31, 3) := by decide +kernel
theorem dX6_countRules_7 : decode cX6_countRules 7 = .ok (.ireturn, 1) := by decide +kernel
set_option maxRecDepth 20000 in
theorem ggX6_countClaims_X6_countPresent : GoodIn wsX6_countClaims wsX6_countPresent := goodIn_r _ [5] (by decide +kernel) (by decide +kernel)
set_option maxRecDepth 20000 in
theorem gX6_countClaims_X6_countPresent : GoodIn wsX6_countClaims (va_wsS RX6 31 yX6_countPresent wsX6_countPresent) := goodIn_app (goodIn_of _ (by decide +kernel)) ggX6_countClaims_X6_countPresent
theorem dX6_countClaims_0 : decode cX6_countClaims 0 = .ok (.aload_n 0, 1) := by decide +kernel
theorem dX6_countClaims_1 : decode cX6_countClaims 1 = .ok (.getfield 15, 3) := by decide +kernel
theorem dX6_countClaims_4 : decode cX6_countClaims 4 = .ok (.invokestatic 31, 3) := by decide +kernel
theorem dX6_countClaims_7 : decode cX6_countClaims 7 = .ok (.ireturn, 1) := by decide +kernel
theorem dX6_countPresent_0 : decode cX6_countPresent 0 = .ok (.iconst 0, 1) := by decide +kernel
theorem dX6_countPresent_1 : decode cX6_countPresent 1 = .ok (.istore_n 1, 1) := by decide +kernel
theorem dX6_countPresent_2 : decode cX6_countPresent 2 = .ok (.aload_n 0, 1) := by decide +kernel
theorem dX6_countPresent_3 : decode cX6_countPresent 3 = .ok (.astore_n 2, 1) := by decide +kernel
theorem dX6_countPresent_4 : decode cX6_countPresent 4 = .ok (.aload_n 2, 1) := by decide +kernel
theorem dX6_countPresent_5 : decode cX6_countPresent 5 = .ok (.arraylength, 1) := by decide +kernel
theorem dX6_countPresent_6 : decode cX6_countPresent 6 = .ok (.istore_n 3, 1) := by decide +kernel
theorem dX6_countPresent_7 : decode cX6_countPresent 7 = .ok (.iconst 0, 1) := by decide +kernel
theorem dX6_countPresent_8 : decode cX6_countPresent 8 = .ok (.istore 4, 2) := by decide +kernel
theorem dX6_countPresent_10 : decode cX6_countPresent 10 = .ok (.iload 4, 2) := by decide +kernel
theorem dX6_countPresent_12 : decode cX6_countPresent 12 = .ok (.iload_n 3, 1) := by decide +kernel
theorem dX6_countPresent_13 : decode cX6_countPresent 13 = .ok (.if_icmp .ge 25, 3) := by decide +kernel
theorem dX6_countPresent_16 : decode cX6_countPresent 16 = .ok (.aload_n 2, 1) := by decide +kernel
theorem dX6_countPresent_17 : decode cX6_countPresent 17 = .ok (.iload 4, 2) := by decide +kernel
theorem dX6_countPresent_19 : decode cX6_countPresent 19 = .ok (.iaload, 1) := by decide +kernel
theorem dX6_countPresent_20 : decode cX6_countPresent 20 = .ok (.istore 5, 2) := by decide +kernel
theorem dX6_countPresent_22 : decode cX6_countPresent 22 = .ok (.iload 5, 2) := by decide +kernel
theorem dX6_countPresent_24 : decode cX6_countPresent 24 = .ok (.bipush (-9), 2) := by decide +kernel
theorem dX6_countPresent_26 : decode cX6_countPresent 26 = .ok (.if_icmp .eq 6, 3) := by decide +kernel
theorem dX6_countPresent_29 : decode cX6_countPresent 29 = .ok (.iinc 1 1, 3) := by decide +kernel
theorem dX6_countPresent_32 : decode cX6_countPresent 32 = .ok (.iinc 4 1, 3) := by decide +kernel
theorem dX6_countPresent_35 : decode cX6_countPresent 35 = .ok (.goto (-25), 3) := by decide +kernel
theorem dX6_countPresent_38 : decode cX6_countPresent 38 = .ok (.iload_n 1, 1) := by decide +kernel
theorem dX6_countPresent_39 : decode cX6_countPresent 39 = .ok (.ireturn, 1) := by decide +kernel
theorem dX6_copyFrom_0 : decode cX6_copyFrom 0 = .ok (.aload_n 1, 1) := by decide +kernel
theorem dX6_copyFrom_1 : decode cX6_copyFrom 1 = .ok (.getfield 9, 3) := by decide +kernel
theorem dX6_copyFrom_4 : decode cX6_copyFrom 4 = .ok (.iconst 0, 1) := by decide +kernel
theorem dX6_copyFrom_5 : decode cX6_copyFrom 5 = .ok (.aload_n 0, 1) := by decide +kernel
theorem dX6_copyFrom_6 : decode cX6_copyFrom 6 = .ok (.getfield 9, 3) := by decide +kernel
theorem dX6_copyFrom_9 : decode cX6_copyFrom 9 = .ok (.iconst 0, 1) := by decide +kernel
theorem dX6_copyFrom_10 : decode cX6_copyFrom 10 = .ok (.aload_n 0, 1) := by decide +kernel
theorem dX6_copyFrom_11 : decode cX6_copyFrom 11 = .ok (.getfield 9, 3) := by decide +kernel
theorem dX6_copyFrom_14 : decode cX6_copyFrom 14 = .ok (.arraylength, 1) := by decide +kernel
theorem dX6_copyFrom_15 : decode cX6_copyFrom 15 = .ok (.invokestatic 35, 3) := by decide +kernel
theorem dX6_copyFrom_18 : decode cX6_copyFrom 18 = .ok (.aload_n 1, 1) := by decide +kernel
theorem dX6_copyFrom_19 : decode cX6_copyFrom 19 = .ok (.getfield 15, 3) := by decide +kernel
theorem dX6_copyFrom_22 : decode cX6_copyFrom 22 = .ok (.iconst 0, 1) := by decide +kernel
theorem dX6_copyFrom_23 : decode cX6_copyFrom 23 = .ok (.aload_n 0, 1) := by decide +kernel
theorem dX6_copyFrom_24 : decode cX6_copyFrom 24 = .ok (.getfield 15, 3) := by decide +kernel
theorem dX6_copyFrom_27 : decode cX6_copyFrom 27 = .ok (.iconst 0, 1) := by decide +kernel
theorem dX6_copyFrom_28 : decode cX6_copyFrom 28 = .ok (.aload_n 0, 1) := by decide +kernel
theorem dX6_copyFrom_29 : decode cX6_copyFrom 29 = .ok (.getfield 15, 3) := by decide +kernel
theorem dX6_copyFrom_32 : decode cX6_copyFrom 32 = .ok (.arraylength, 1) := by decide +kernel
theorem dX6_copyFrom_33 : decode cX6_copyFrom 33 = .ok (.invokestatic 35, 3) := by decide +kernel
theorem dX6_copyFrom_36 : decode cX6_copyFrom 36 = .ok (.return_, 1) := by decide +kernel
set_option maxRecDepth 20000 in
theorem ggX7_init_X6_init : GoodIn wsX7_init wsX6_init := goodIn_r _ [35, 36, 2, 3, 37, 38, 39, 40, 41, 42, 43, 84, 85] (by decide +kernel) (by decide +kernel)
set_option maxRecDepth 20000 in
theorem gX7_init_X6_init : GoodIn wsX7_init (wsX6_init) := ggX7_init_X6_init
set_option maxRecDepth 20000 in
theorem ggX7_init_X3_init : GoodIn wsX7_init wsX3_init := goodIn_r _ [46, 47, 2, 3, 48, 49, 5, 6, 50, 34, 35, 36, 37, 38, 39, 40, 41, 42, 43, 94, 95, 96, 84, 85] (by decide +kernel) (by decide +kernel)
set_option maxRecDepth 20000 in
theorem gX7_init_X3_init : GoodIn wsX7_init (wsX3_init) := ggX7_init_X3_init
set_option maxRecDepth 20000 in
theorem ggX7_init_X4_init : GoodIn wsX7_init wsX4_init := goodIn_r _ [52, 53, 2, 3, 54, 29, 30, 55, 56, 57, 58, 59, 60, 61, 62, 63, 64, 37, 65, 103, 104, 97, 98] (by decide +kernel) (by decide +kernel)
set_option maxRecDepth 20000 in
theorem gX7_init_X4_init_n27 : GoodIn wsX7_init (wsX4_init) := ggX7_init_X4_init
set_option maxRecDepth 20000 in
theorem ggX7_init_X2_init : GoodIn wsX7_init wsX2_init := goodIn_r _ [67, 68, 2, 3, 37, 69, 99] (by decide +kernel) (by decide +kernel)
set_option maxRecDepth 20000 in
theorem gX7_init_X2_init_n34 : GoodIn wsX7_init (wsX2_init) := ggX7_init_X2_init
set_option maxRecDepth 20000 in
theorem ggX7_init_X0_init : GoodIn wsX7_init wsX0_init := goodIn_r _ [71, 72, 2, 3, 73, 37, 74, 75, 100, 101] (by decide +kernel) (by decide +kernel)
set_option maxRecDepth 20000 in
theorem gX7_init_X0_init_n41 : GoodIn wsX7_init (wsX0_init) := ggX7_init_X0_init
set_option maxRecDepth 20000 in
theorem ggX7_init_X1_init : GoodIn wsX7_init wsX1_init := goodIn_r _ [78, 79, 2, 3, 80, 81, 29, 30, 82, 58, 59, 60, 61, 62, 63, 64, 37, 65, 102, 103, 104] (by decide +kernel) (by decide +kernel)
set_option maxRecDepth 20000 in
theorem gX7_init_X1_init : GoodIn wsX7_init (wsX1_init) := ggX7_init_X1_init
set_option maxRecDepth 20000 in
theorem ggX7_init_X5_init : GoodIn wsX7_init wsX5_init := goodIn_r _ [59, 60, 2, 3, 61, 62, 63, 64, 37, 65, 103, 104] (by decide +kernel) (by decide +kernel)
set_option maxRecDepth 20000 in
theorem gX7_init_X5_init : GoodIn wsX7_init (wsX5_init) := ggX7_init_X5_init
theorem dX7_init_0 : decode cX7_init 0 = .ok (.aload_n 0, 1) := by decide +kernel
theorem dX7_init_1 : decode cX7_init 1 = .ok (.invokespecial 3, 3) := by decide +kernel
theorem dX7_init_4 : decode cX7_init 4 = .ok (.aload_n 0, 1) := by decide +kernel
theorem dX7_init_5 : decode cX7_init 5 = .ok (.new 9, 3) := by decide +kernel
theorem dX7_init_8 : decode cX7_init 8 = .ok (.dup, 1) := by decide +kernel
theorem dX7_init_9 : decode cX7_init 9 = .ok (.invokespecial 11, 3) := by decide +kernel
theorem dX7_init_12 : decode cX7_init 12 = .ok (.putfield 12, 3) := by decide +kernel
theorem dX7_init_15 : decode cX7_init 15 = .ok (.aload_n 0, 1) := by decide +kernel
theorem dX7_init_16 : decode cX7_init 16 = .ok (.new 18, 3) := by decide +kernel
theorem dX7_init_19 : decode cX7_init 19 = .ok (.dup, 1) := by decide +kernel
theorem dX7_init_20 : decode cX7_init 20 = .ok (.invokespecial 20, 3) := by decide +kernel
theorem dX7_init_23 : decode cX7_init 23 = .ok (.putfield 21, 3) := by decide +kernel
theorem dX7_init_26 : decode cX7_init 26 = .ok (.aload_n 0, 1) := by decide +kernel
theorem dX7_init_27 : decode cX7_init 27 = .ok (.new 25, 3) := by decide +kernel
theorem dX7_init_30 : decode cX7_init 30 = .ok (.dup, 1) := by decide +kernel
theorem dX7_init_31 : decode cX7_init 31 = .ok (.invokespecial 27, 3) := by decide +kernel
theorem dX7_init_34 : decode cX7_init 34 = .ok (.putfield 28, 3) := by decide +kernel
theorem dX7_init_37 : decode cX7_init 37 = .ok (.aload_n 0, 1) := by decide +kernel
theorem dX7_init_38 : decode cX7_init 38 = .ok (.new 32, 3) := by decide +kernel
theorem dX7_init_41 : decode cX7_init 41 = .ok (.dup, 1) := by decide +kernel
theorem dX7_init_42 : decode cX7_init 42 = .ok (.invokespecial 34, 3) := by decide +kernel
theorem dX7_init_45 : decode cX7_init 45 = .ok (.putfield 35, 3) := by decide +kernel
theorem dX7_init_48 : decode cX7_init 48 = .ok (.aload_n 0, 1) := by decide +kernel
theorem dX7_init_49 : decode cX7_init 49 = .ok (.new 39, 3) := by decide +kernel
theorem dX7_init_52 : decode cX7_init 52 = .ok (.dup, 1) := by decide +kernel
theorem dX7_init_53 : decode cX7_init 53 = .ok (.invokespecial 41, 3) := by decide +kernel
theorem dX7_init_56 : decode cX7_init 56 = .ok (.putfield 42, 3) := by decide +kernel
theorem dX7_init_59 : decode cX7_init 59 = .ok (.aload_n 0, 1) := by decide +kernel
theorem dX7_init_60 : decode cX7_init 60 = .ok (.new 46, 3) := by decide +kernel
theorem dX7_init_63 : decode cX7_init 63 = .ok (.dup, 1) := by decide +kernel
theorem dX7_init_64 : decode cX7_init 64 = .ok (.invokespecial 48, 3) := by decide +kernel
theorem dX7_init_67 : decode cX7_init 67 = .ok (.putfield 49, 3) := by decide +kernel
theorem dX7_init_70 : decode cX7_init 70 = .ok (.aload_n 0, 1) := by decide +kernel
theorem dX7_init_71 : decode cX7_init 71 = .ok (.new 53, 3) := by decide +kernel
theorem dX7_init_74 : decode cX7_init 74 = .ok (.dup, 1) := by decide +kernel
theorem dX7_init_75 : decode cX7_init 75 = .ok (.sipush 2187, 3) := by decide +kernel
theorem dX7_init_78 : decode cX7_init 78 = .ok (.invokespecial 55, 3) := by decide +kernel
theorem dX7_init_81 : decode cX7_init 81 = .ok (.putfield 58, 3) := by decide +kernel
theorem dX7_init_84 : decode cX7_init 84 = .ok (.aload_n 0, 1) := by decide +kernel
theorem dX7_init_85 : decode cX7_init 85 = .ok (.new 53, 3) := by decide +kernel
theorem dX7_init_88 : decode cX7_init 88 = .ok (.dup, 1) := by decide +kernel
theorem dX7_init_89 : decode cX7_init 89 = .ok (.sipush 2187, 3) := by decide +kernel
theorem dX7_init_92 : decode cX7_init 92 = .ok (.invokespecial 55, 3) := by decide +kernel
theorem dX7_init_95 : decode cX7_init 95 = .ok (.putfield 62, 3) := by decide +kernel
theorem dX7_init_98 : decode cX7_init 98 = .ok (.return_, 1) := by decide +kernel
set_option maxRecDepth 20000 in
theorem ggX7_rule_X7_isSign : GoodIn wsX7_rule wsX7_isSign := goodIn_r _ [6] (by decide +kernel) (by decide +kernel)
set_option maxRecDepth 20000 in
theorem gX7_rule_X7_isSign : GoodIn wsX7_rule (va_wsS RX7 65 yX7_isSign wsX7_isSign) := goodIn_app (goodIn_of _ (by decide +kernel)) ggX7_rule_X7_isSign
set_option maxRecDepth 20000 in
theorem ggX7_rule_X7_isLetter : GoodIn wsX7_rule wsX7_isLetter := goodIn_r _ [9] (by decide +kernel) (by decide +kernel)
set_option maxRecDepth 20000 in
theorem gX7_rule_X7_isLetter : GoodIn wsX7_rule (va_wsS RX7 69 yX7_isLetter wsX7_isLetter) := goodIn_app (goodIn_of _ (by decide +kernel)) ggX7_rule_X7_isLetter
set_option maxRecDepth 20000 in
theorem ggX7_rule_X7_isRow : GoodIn wsX7_rule wsX7_isRow := goodIn_r _ [12, 13] (by decide +kernel) (by decide +kernel)
set_option maxRecDepth 20000 in
theorem gX7_rule_X7_isRow : GoodIn wsX7_rule (va_wsS RX7 72 yX7_isRow wsX7_isRow) := goodIn_app (goodIn_of _ (by decide +kernel)) ggX7_rule_X7_isRow
set_option maxRecDepth 20000 in
theorem ggX7_rule_X3_keep : GoodIn wsX7_rule wsX3_keep := goodIn_r _ [18, 19, 20, 21, 22, 23, 24, 25, 26, 27, 28, 17, 29, 30, 31, 32, 33, 34, 35, 36, 37, 38, 39, 40, 41, 42, 43, 44, 61, 62, 63, 64, 65] (by decide +kernel) (by decide +kernel)
set_option maxRecDepth 20000 in
theorem gX7_rule_X3_keep : GoodIn wsX7_rule (wsV RX7 76 RX3 yX3_keep wsX3_keep) := goodIn_app (goodIn_of _ (by decide +kernel)) ggX7_rule_X3_keep
set_option maxRecDepth 20000 in
theorem ggX7_rule_X6_ruleOf : GoodIn wsX7_rule wsX6_ruleOf := goodIn_r _ [48, 39, 4, 5, 6, 8, 9, 64, 65] (by decide +kernel) (by decide +kernel)
set_option maxRecDepth 20000 in
theorem gX7_rule_X6_ruleOf : GoodIn wsX7_rule (wsV RX7 80 RX6 yX6_ruleOf wsX6_ruleOf) := goodIn_app (goodIn_of _ (by decide +kernel)) ggX7_rule_X6_ruleOf
set_option maxRecDepth 20000 in
theorem ggX7_rule_X6_setRule : GoodIn wsX7_rule wsX6_setRule := goodIn_r _ [52, 39, 4, 5, 6, 8, 9, 64, 65] (by decide +kernel) (by decide +kernel)
set_option maxRecDepth 20000 in
theorem gX7_rule_X6_setRule : GoodIn wsX7_rule (wsV RX7 84 RX6 yX6_setRule wsX6_setRule) := goodIn_app (goodIn_of _ (by decide +kernel)) ggX7_rule_X6_setRule
theorem dX7_rule_0 : decode cX7_rule 0 = .ok (.iload_n 1, 1) := by decide +kernel
theorem dX7_rule_1 : decode cX7_rule 1 = .ok (.invokestatic 65, 3) := by decide +kernel
theorem dX7_rule_4 : decode cX7_rule 4 = .ok (.ifCond .eq 10, 3) := by decide +kernel
theorem dX7_rule_7 : decode cX7_rule 7 = .ok (.iload_n 2, 1) := by decide +kernel
theorem dX7_rule_8 : decode cX7_rule 8 = .ok (.invokestatic 69, 3) := by decide +kernel
theorem dX7_rule_11 : decode cX7_rule 11 = .ok (.ifCond .ne 5, 3) := by decide +kernel
theorem dX7_rule_14 : decode cX7_rule 14 = .ok (.iconst (-1), 1) := by decide +kernel
theorem dX7_rule_15 : decode cX7_rule 15 = .ok (.ireturn, 1) := by decide +kernel
theorem dX7_rule_16 : decode cX7_rule 16 = .ok (.iload_n 3, 1) := by decide +kernel
theorem dX7_rule_17 : decode cX7_rule 17 = .ok (.bipush (-9), 2) := by decide +kernel
theorem dX7_rule_19 : decode cX7_rule 19 = .ok (.if_icmp .eq 17, 3) := by decide +kernel
theorem dX7_rule_22 : decode cX7_rule 22 = .ok (.iload_n 3, 1) := by decide +kernel
theorem dX7_rule_23 : decode cX7_rule 23 = .ok (.i2l, 1) := by decide +kernel
theorem dX7_rule_24 : decode cX7_rule 24 = .ok (.bipush 6, 2) := by decide +kernel
theorem dX7_rule_26 : decode cX7_rule 26 = .ok (.iconst 3, 1) := by decide +kernel
theorem dX7_rule_27 : decode cX7_rule 27 = .ok (.invokestatic 72, 3) := by decide +kernel
theorem dX7_rule_30 : decode cX7_rule 30 = .ok (.ifCond .ne 6, 3) := by decide +kernel
theorem dX7_rule_33 : decode cX7_rule 33 = .ok (.bipush (-2), 2) := by decide +kernel
theorem dX7_rule_35 : decode cX7_rule 35 = .ok (.ireturn, 1) := by decide +kernel
theorem dX7_rule_36 : decode cX7_rule 36 = .ok (.aload_n 0, 1) := by decide +kernel
theorem dX7_rule_37 : decode cX7_rule 37 = .ok (.getfield 21, 3) := by decide +kernel
theorem dX7_rule_40 : decode cX7_rule 40 = .ok (.aload_n 0, 1) := by decide +kernel
theorem dX7_rule_41 : decode cX7_rule 41 = .ok (.getfield 12, 3) := by decide +kernel
theorem dX7_rule_44 : decode cX7_rule 44 = .ok (.invokevirtual 76, 3) := by decide +kernel
theorem dX7_rule_47 : decode cX7_rule 47 = .ok (.aload_n 0, 1) := by decide +kernel
theorem dX7_rule_48 : decode cX7_rule 48 = .ok (.getfield 12, 3) := by decide +kernel
theorem dX7_rule_51 : decode cX7_rule 51 = .ok (.iload_n 1, 1) := by decide +kernel
theorem dX7_rule_52 : decode cX7_rule 52 = .ok (.iload_n 2, 1) := by decide +kernel
theorem dX7_rule_53 : decode cX7_rule 53 = .ok (.invokevirtual 80, 3) := by decide +kernel
theorem dX7_rule_56 : decode cX7_rule 56 = .ok (.istore 4, 2) := by decide +kernel
theorem dX7_rule_58 : decode cX7_rule 58 = .ok (.aload_n 0, 1) := by decide +kernel
theorem dX7_rule_59 : decode cX7_rule 59 = .ok (.getfield 12, 3) := by decide +kernel
theorem dX7_rule_62 : decode cX7_rule 62 = .ok (.iload_n 1, 1) := by decide +kernel
theorem dX7_rule_63 : decode cX7_rule 63 = .ok (.iload_n 2, 1) := by decide +kernel
theorem dX7_rule_64 : decode cX7_rule 64 = .ok (.iload_n 3, 1) := by decide +kernel
theorem dX7_rule_65 : decode cX7_rule 65 = .ok (.invokevirtual 84, 3) := by decide +kernel
theorem dX7_rule_68 : decode cX7_rule 68 = .ok (.iload 4, 2) := by decide +kernel
theorem dX7_rule_70 : decode cX7_rule 70 = .ok (.ireturn, 1) := by decide +kernel
set_option maxRecDepth 20000 in
theorem ggX7_ofRule_X7_isSign : GoodIn wsX7_ofRule wsX7_isSign := goodIn_r _ [5] (by decide +kernel) (by decide +kernel)
set_option maxRecDepth 20000 in
theorem gX7_ofRule_X7_isSign : GoodIn wsX7_ofRule (va_wsS RX7 65 yX7_isSign wsX7_isSign) := goodIn_app (goodIn_of _ (by decide +kernel)) ggX7_ofRule_X7_isSign
set_option maxRecDepth 20000 in
theorem ggX7_ofRule_X7_isLetter : GoodIn wsX7_ofRule wsX7_isLetter := goodIn_r _ [8] (by decide +kernel) (by decide +kernel)
set_option maxRecDepth 20000 in
theorem gX7_ofRule_X7_isLetter : GoodIn wsX7_ofRule (va_wsS RX7 69 yX7_isLetter wsX7_isLetter) := goodIn_app (goodIn_of _ (by decide +kernel)) ggX7_ofRule_X7_isLetter
set_option maxRecDepth 20000 in
theorem ggX7_ofRule_X6_ruleOf : GoodIn wsX7_ofRule wsX6_ruleOf := goodIn_r _ [13, 14, 3, 4, 5, 7, 8, 23, 24] (by decide +kernel) (by decide +kernel)
set_option maxRecDepth 20000 in
theorem gX7_ofRule_X6_ruleOf : GoodIn wsX7_ofRule (wsV RX7 80 RX6 yX6_ruleOf wsX6_ruleOf) := goodIn_app (goodIn_of _ (by decide +kernel)) ggX7_ofRule_X6_ruleOf
theorem dX7_ofRule_0 : decode cX7_ofRule 0 = .ok (.iload_n 1, 1) := by decide +kernel
theorem dX7_ofRule_1 : decode cX7_ofRule 1 = .ok (.invokestatic 65, 3) := by decide +kernel
theorem dX7_ofRule_4 : decode cX7_ofRule 4 = .ok (.ifCond .eq 22, 3) := by decide +kernel
theorem dX7_ofRule_7 : decode cX7_ofRule 7 = .ok (.iload_n 2, 1) := by decide +kernel
theorem dX7_ofRule_8 : decode cX7_ofRule 8 = .ok (.invokestatic 69, 3) := by decide +kernel
theorem dX7_ofRule_11 : decode cX7_ofRule 11 = .ok (.ifCond .eq 15, 3) := by decide +kernel
theorem dX7_ofRule_14 : decode cX7_ofRule 14 = .ok (.aload_n 0, 1) := by decide +kernel
theorem dX7_ofRule_15 : decode cX7_ofRule 15 = .ok (.getfield 12, 3) := by decide +kernel
theorem dX7_ofRule_18 : decode cX7_ofRule 18 = .ok (.iload_n 1, 1) := by decide +kernel
theorem dX7_ofRule_19 : decode cX7_ofRule 19 = .ok (.iload_n 2, 1) := by decide +kernel
theorem dX7_ofRule_20 : decode cX7_ofRule 20 = .ok (.invokevirtual 80, 3) := by decide +kernel
theorem dX7_ofRule_23 : decode cX7_ofRule 23 = .ok (.goto 4, 3) := by decide +kernel
theorem dX7_ofRule_26 : decode cX7_ofRule 26 = .ok (.iconst (-1), 1) := by decide +kernel
theorem dX7_ofRule_27 : decode cX7_ofRule 27 = .ok (.ireturn, 1) := by decide +kernel
set_option maxRecDepth 20000 in
theorem ggX7_read_X7_isRowOfSigns : GoodIn wsX7_read wsX7_isRowOfSigns := goodIn_r _ [7, 8, 9, 6, 10, 11] (by decide +kernel) (by decide +kernel)
set_option maxRecDepth 20000 in
theorem gX7_read_X7_isRowOfSigns : GoodIn wsX7_read (va_wsS RX7 88 yX7_isRowOfSigns wsX7_isRowOfSigns) := goodIn_app (goodIn_of _ (by decide +kernel)) ggX7_read_X7_isRowOfSigns
set_option maxRecDepth 20000 in
theorem ggX7_read_X7_isRow : GoodIn wsX7_read wsX7_isRow := goodIn_r _ [10, 11] (by decide +kernel) (by decide +kernel)
set_option maxRecDepth 20000 in
theorem gX7_read_X7_isRow : GoodIn wsX7_read (va_wsS RX7 72 yX7_isRow wsX7_isRow) := goodIn_app (goodIn_of _ (by decide +kernel)) ggX7_read_X7_isRow
set_option maxRecDepth 20000 in
theorem ggX7_read_X4_countRead : GoodIn wsX7_read wsX4_countRead := goodIn_r _ [16, 17, 18, 19, 20, 15, 21, 22, 23, 24, 25, 26, 27, 28, 29, 30, 31, 32, 33, 34, 35, 36, 37, 38, 39, 40, 41, 42, 43, 44, 45, 46, 47, 48, 49, 50, 51, 52, 53, 54, 55, 56, 57, 58, 59, 60, 61, 6, 62, 63, 64, 65, 66, 67, 68, 69, 70, 71, 72, 87, 88, 89, 90, 91, 92] (by decide +kernel) (by decide +kernel)
set_option maxRecDepth 20000 in
theorem gX7_read_X4_countRead : GoodIn wsX7_read (wsV RX7 91 RX4 yX4_countRead wsX4_countRead) := goodIn_app (goodIn_of _ (by decide +kernel)) ggX7_read_X4_countRead
set_option maxRecDepth 20000 in
theorem ggX7_read_X5_size : GoodIn wsX7_read wsX5_size := goodIn_r _ [42, 28, 89, 90] (by decide +kernel) (by decide +kernel)
set_option maxRecDepth 20000 in
theorem gX7_read_X5_size : GoodIn wsX7_read (wsV RX7 98 RX5 yX5_size wsX5_size) := goodIn_app (goodIn_of _ (by decide +kernel)) ggX7_read_X5_size
set_option maxRecDepth 20000 in
theorem ggX7_read_X5_fromFirst : GoodIn wsX7_read wsX5_fromFirst := goodIn_r _ [46, 28, 47, 48, 49, 26, 50, 38, 89, 90] (by decide +kernel) (by decide +kernel)
set_option maxRecDepth 20000 in
theorem gX7_read_X5_fromFirst : GoodIn wsX7_read (wsV RX7 102 RX5 yX5_fromFirst wsX5_fromFirst) := goodIn_app (goodIn_of _ (by decide +kernel)) ggX7_read_X5_fromFirst
set_option maxRecDepth 20000 in
theorem ggX7_read_X4_readsToEnd : GoodIn wsX7_read wsX4_readsToEnd := goodIn_r _ [78, 17, 39, 40, 41, 26, 42, 28, 87, 88, 89, 90] (by decide +kernel) (by decide +kernel)
set_option maxRecDepth 20000 in
theorem gX7_read_X4_readsToEnd : GoodIn wsX7_read (wsV RX7 106 RX4 yX4_readsToEnd wsX4_readsToEnd) := goodIn_app (goodIn_of _ (by decide +kernel)) ggX7_read_X4_readsToEnd
theorem dX7_read_0 : decode cX7_read 0 = .ok (.iload_n 1, 1) := by decide +kernel
theorem dX7_read_1 : decode cX7_read 1 = .ok (.invokestatic 88, 3) := by decide +kernel
theorem dX7_read_4 : decode cX7_read 4 = .ok (.ifCond .eq 24, 3) := by decide +kernel
theorem dX7_read_7 : decode cX7_read 7 = .ok (.lload_n 2, 1) := by decide +kernel
theorem dX7_read_8 : decode cX7_read 8 = .ok (.iconst 3, 1) := by decide +kernel
theorem dX7_read_9 : decode cX7_read 9 = .ok (.bipush 12, 2) := by decide +kernel
theorem dX7_read_11 : decode cX7_read 11 = .ok (.invokestatic 72, 3) := by decide +kernel
theorem dX7_read_14 : decode cX7_read 14 = .ok (.ifCond .eq 14, 3) := by decide +kernel
theorem dX7_read_17 : decode cX7_read 17 = .ok (.iload 4, 2) := by decide +kernel
theorem dX7_read_19 : decode cX7_read 19 = .ok (.ifCond .lt 9, 3) := by decide +kernel
theorem dX7_read_22 : decode cX7_read 22 = .ok (.iload 4, 2) := by decide +kernel
theorem dX7_read_24 : decode cX7_read 24 = .ok (.iconst 3, 1) := by decide +kernel
theorem dX7_read_25 : decode cX7_read 25 = .ok (.if_icmp .le 6, 3) := by decide +kernel
theorem dX7_read_28 : decode cX7_read 28 = .ok (.bipush (-2), 2) := by decide +kernel
theorem dX7_read_30 : decode cX7_read 30 = .ok (.ireturn, 1) := by decide +kernel
theorem dX7_read_31 : decode cX7_read 31 = .ok (.aload_n 0, 1) := by decide +kernel
theorem dX7_read_32 : decode cX7_read 32 = .ok (.getfield 28, 3) := by decide +kernel
theorem dX7_read_35 : decode cX7_read 35 = .ok (.aload_n 0, 1) := by decide +kernel
theorem dX7_read_36 : decode cX7_read 36 = .ok (.getfield 12, 3) := by decide +kernel
theorem dX7_read_39 : decode cX7_read 39 = .ok (.iload_n 1, 1) := by decide +kernel
theorem dX7_read_40 : decode cX7_read 40 = .ok (.lload_n 2, 1) := by decide +kernel
theorem dX7_read_41 : decode cX7_read 41 = .ok (.invokevirtual 91, 3) := by decide +kernel
theorem dX7_read_44 : decode cX7_read 44 = .ok (.istore 5, 2) := by decide +kernel
theorem dX7_read_46 : decode cX7_read 46 = .ok (.iload 4, 2) := by decide +kernel
theorem dX7_read_48 : decode cX7_read 48 = .ok (.tableswitch 54 0 2 #[28, 31, 42], 28) := by decide +kernel
theorem dX7_read_76 : decode cX7_read 76 = .ok (.iload 5, 2) := by decide +kernel
theorem dX7_read_78 : decode cX7_read 78 = .ok (.ireturn, 1) := by decide +kernel
theorem dX7_read_79 : decode cX7_read 79 = .ok (.aload_n 0, 1) := by decide +kernel
theorem dX7_read_80 : decode cX7_read 80 = .ok (.getfield 28, 3) := by decide +kernel
theorem dX7_read_83 : decode cX7_read 83 = .ok (.getfield 95, 3) := by decide +kernel
theorem dX7_read_86 : decode cX7_read 86 = .ok (.invokevirtual 98, 3) := by decide +kernel
theorem dX7_read_89 : decode cX7_read 89 = .ok (.ireturn, 1) := by decide +kernel
theorem dX7_read_90 : decode cX7_read 90 = .ok (.aload_n 0, 1) := by decide +kernel
theorem dX7_read_91 : decode cX7_read 91 = .ok (.getfield 28, 3) := by decide +kernel
theorem dX7_read_94 : decode cX7_read 94 = .ok (.getfield 95, 3) := by decide +kernel
theorem dX7_read_97 : decode cX7_read 97 = .ok (.iconst 0, 1) := by decide +kernel
theorem dX7_read_98 : decode cX7_read 98 = .ok (.invokevirtual 102, 3) := by decide +kernel
theorem dX7_read_101 : decode cX7_read 101 = .ok (.ireturn, 1) := by decide +kernel
theorem dX7_read_102 : decode cX7_read 102 = .ok (.aload_n 0, 1) := by decide +kernel
theorem dX7_read_103 : decode cX7_read 103 = .ok (.getfield 28, 3) := by decide +kernel
theorem dX7_read_106 : decode cX7_read 106 = .ok (.invokevirtual 106, 3) := by decide +kernel
theorem dX7_read_109 : decode cX7_read 109 = .ok (.ifCond .eq 20, 3) := by decide +kernel
theorem dX7_read_112 : decode cX7_read 112 = .ok (.aload_n 0, 1) := by decide +kernel
theorem dX7_read_113 : decode cX7_read 113 = .ok (.getfield 28, 3) := by decide +kernel
theorem dX7_read_116 : decode cX7_read 116 = .ok (.getfield 95, 3) := by decide +kernel
theorem dX7_read_119 : decode cX7_read 119 = .ok (.invokevirtual 98, 3) := by decide +kernel
theorem dX7_read_122 : decode cX7_read 122 = .ok (.ifCond .ne 7, 3) := by decide +kernel
theorem dX7_read_125 : decode cX7_read 125 = .ok (.iconst 1, 1) := by decide +kernel
theorem dX7_read_126 : decode cX7_read 126 = .ok (.goto 4, 3) := by decide +kernel
theorem dX7_read_129 : decode cX7_read 129 = .ok (.iconst 0, 1) := by decide +kernel
theorem dX7_read_130 : decode cX7_read 130 = .ok (.ireturn, 1) := by decide +kernel
set_option maxRecDepth 20000 in
theorem ggX7_norm_X7_isRowOfSigns : GoodIn wsX7_norm wsX7_isRowOfSigns := goodIn_r _ [6, 7, 8, 5, 9, 10] (by decide +kernel) (by decide +kernel)
set_option maxRecDepth 20000 in
theorem gX7_norm_X7_isRowOfSigns : GoodIn wsX7_norm (va_wsS RX7 88 yX7_isRowOfSigns wsX7_isRowOfSigns) := goodIn_app (goodIn_of _ (by decide +kernel)) ggX7_norm_X7_isRowOfSigns
set_option maxRecDepth 20000 in
theorem ggX7_norm_X2_find : GoodIn wsX7_norm wsX2_find := goodIn_r _ [15, 16, 17, 18, 19, 20, 21, 22, 23, 14, 24, 25, 26, 27, 28, 29, 30, 31, 32, 33, 34, 35, 5, 36, 37, 38, 39, 40, 41, 42, 43, 44, 45, 46, 56, 57, 58] (by decide +kernel) (by decide +kernel)
set_option maxRecDepth 20000 in
theorem gX7_norm_X2_find : GoodIn wsX7_norm (wsV RX7 110 RX2 yX2_find wsX2_find) := goodIn_app (goodIn_of _ (by decide +kernel)) ggX7_norm_X2_find
set_option maxRecDepth 20000 in
theorem ggX7_norm_X2_ofRow : GoodIn wsX7_norm wsX2_ofRow := goodIn_r _ [42, 43, 44, 45, 14, 46, 16, 35, 5, 36, 56] (by decide +kernel) (by decide +kernel)
set_option maxRecDepth 20000 in
theorem gX7_norm_X2_ofRow : GoodIn wsX7_norm (wsV RX7 113 RX2 yX2_ofRow wsX2_ofRow) := goodIn_app (goodIn_of _ (by decide +kernel)) ggX7_norm_X2_ofRow
theorem dX7_norm_0 : decode cX7_norm 0 = .ok (.iload_n 1, 1) := by decide +kernel
theorem dX7_norm_1 : decode cX7_norm 1 = .ok (.invokestatic 88, 3) := by decide +kernel
theorem dX7_norm_4 : decode cX7_norm 4 = .ok (.ifCond .ne 6, 3) := by decide +kernel
theorem dX7_norm_7 : decode cX7_norm 7 = .ok (.bipush (-2), 2) := by decide +kernel
theorem dX7_norm_9 : decode cX7_norm 9 = .ok (.ireturn, 1) := by decide +kernel
theorem dX7_norm_10 : decode cX7_norm 10 = .ok (.aload_n 0, 1) := by decide +kernel
theorem dX7_norm_11 : decode cX7_norm 11 = .ok (.getfield 35, 3) := by decide +kernel
theorem dX7_norm_14 : decode cX7_norm 14 = .ok (.aload_n 0, 1) := by decide +kernel
theorem dX7_norm_15 : decode cX7_norm 15 = .ok (.getfield 12, 3) := by decide +kernel
theorem dX7_norm_18 : decode cX7_norm 18 = .ok (.invokevirtual 110, 3) := by decide +kernel
theorem dX7_norm_21 : decode cX7_norm 21 = .ok (.aload_n 0, 1) := by decide +kernel
theorem dX7_norm_22 : decode cX7_norm 22 = .ok (.getfield 35, 3) := by decide +kernel
theorem dX7_norm_25 : decode cX7_norm 25 = .ok (.iload_n 1, 1) := by decide +kernel
theorem dX7_norm_26 : decode cX7_norm 26 = .ok (.invokevirtual 113, 3) := by decide +kernel
theorem dX7_norm_29 : decode cX7_norm 29 = .ok (.ireturn, 1) := by decide +kernel
set_option maxRecDepth 20000 in
theorem ggX7_least_X7_isRowOfSigns : GoodIn wsX7_least wsX7_isRowOfSigns := goodIn_r _ [8, 9, 10, 7, 11, 12] (by decide +kernel) (by decide +kernel)
set_option maxRecDepth 20000 in
theorem gX7_least_X7_isRowOfSigns : GoodIn wsX7_least (va_wsS RX7 88 yX7_isRowOfSigns wsX7_isRowOfSigns) := goodIn_app (goodIn_of _ (by decide +kernel)) ggX7_least_X7_isRowOfSigns
set_option maxRecDepth 20000 in
theorem ggX7_least_X2_find : GoodIn wsX7_least wsX2_find := goodIn_r _ [17, 18, 19, 20, 21, 22, 23, 24, 25, 16, 26, 27, 28, 29, 30, 31, 32, 33, 34, 35, 36, 37, 7, 38, 39, 40, 41, 42, 43, 44, 45, 46, 47, 48, 109, 110, 111] (by decide +kernel) (by decide +kernel)
set_option maxRecDepth 20000 in
theorem gX7_least_X2_find : GoodIn wsX7_least (wsV RX7 110 RX2 yX2_find wsX2_find) := goodIn_app (goodIn_of _ (by decide +kernel)) ggX7_least_X2_find
set_option maxRecDepth 20000 in
theorem ggX7_least_X2_ofRow : GoodIn wsX7_least wsX2_ofRow := goodIn_r _ [44, 45, 46, 47, 16, 48, 18, 37, 7, 38, 109] (by decide +kernel) (by decide +kernel)
set_option maxRecDepth 20000 in
theorem gX7_least_X2_ofRow : GoodIn wsX7_least (wsV RX7 113 RX2 yX2_ofRow wsX2_ofRow) := goodIn_app (goodIn_of _ (by decide +kernel)) ggX7_least_X2_ofRow
set_option maxRecDepth 20000 in
theorem ggX7_least_X7_leastWord : GoodIn wsX7_least wsX7_leastWord := goodIn_r _ [53, 54, 2, 3, 55, 12, 56, 57, 58, 59, 60, 61, 62, 63, 64, 65, 66, 67, 68, 69, 70, 71, 72, 73, 74, 75, 76, 77, 78, 79, 80, 81, 82, 83, 84, 85, 86, 24, 25, 16, 26, 27, 28, 29, 30, 31, 32, 33, 34, 35, 36, 37, 7, 38, 39, 40, 41, 42, 43, 44, 45, 46, 47, 48, 18, 87, 88, 89, 90, 91, 92, 93, 94, 95, 96, 97, 98, 99, 100, 101, 102, 103, 104, 105, 106, 107, 108, 112, 113, 114, 115, 110, 111, 109] (by decide +kernel) (by decide +kernel)
set_option maxRecDepth 20000 in
theorem gX7_least_X7_leastWord : GoodIn wsX7_least (wsV RX7 120 RX7 yX7_leastWord wsX7_leastWord) := goodIn_app (goodIn_of _ (by decide +kernel)) ggX7_least_X7_leastWord
theorem dX7_least_0 : decode cX7_least 0 = .ok (.iload_n 1, 1) := by decide +kernel
theorem dX7_least_1 : decode cX7_least 1 = .ok (.invokestatic 88, 3) := by decide +kernel
theorem dX7_least_4 : decode cX7_least 4 = .ok (.ifCond .ne 7, 3) := by decide +kernel
theorem dX7_least_7 : decode cX7_least 7 = .ok (.ldc2_w 116, 3) := by decide +kernel
theorem dX7_least_10 : decode cX7_least 10 = .ok (.lreturn, 1) := by decide +kernel
theorem dX7_least_11 : decode cX7_least 11 = .ok (.aload_n 0, 1) := by decide +kernel
theorem dX7_least_12 : decode cX7_least 12 = .ok (.getfield 35, 3) := by decide +kernel
theorem dX7_least_15 : decode cX7_least 15 = .ok (.aload_n 0, 1) := by decide +kernel
theorem dX7_least_16 : decode cX7_least 16 = .ok (.getfield 12, 3) := by decide +kernel
theorem dX7_least_19 : decode cX7_least 19 = .ok (.invokevirtual 110, 3) := by decide +kernel
theorem dX7_least_22 : decode cX7_least 22 = .ok (.aload_n 0, 1) := by decide +kernel
theorem dX7_least_23 : decode cX7_least 23 = .ok (.getfield 35, 3) := by decide +kernel
theorem dX7_least_26 : decode cX7_least 26 = .ok (.iload_n 1, 1) := by decide +kernel
theorem dX7_least_27 : decode cX7_least 27 = .ok (.invokevirtual 113, 3) := by decide +kernel
theorem dX7_least_30 : decode cX7_least 30 = .ok (.istore_n 2, 1) := by decide +kernel
theorem dX7_least_31 : decode cX7_least 31 = .ok (.iload_n 2, 1) := by decide +kernel
theorem dX7_least_32 : decode cX7_least 32 = .ok (.bipush (-9), 2) := by decide +kernel
theorem dX7_least_34 : decode cX7_least 34 = .ok (.if_icmp .eq 9, 3) := by decide +kernel
theorem dX7_least_37 : decode cX7_least 37 = .ok (.iload_n 2, 1) := by decide +kernel
theorem dX7_least_38 : decode cX7_least 38 = .ok (.bipush 12, 2) := by decide +kernel
theorem dX7_least_40 : decode cX7_least 40 = .ok (.if_icmp .le 9, 3) := by decide +kernel
theorem dX7_least_43 : decode cX7_least 43 = .ok (.ldc2_w 118, 3) := by decide +kernel
theorem dX7_least_46 : decode cX7_least 46 = .ok (.goto 9, 3) := by decide +kernel
theorem dX7_least_49 : decode cX7_least 49 = .ok (.aload_n 0, 1) := by decide +kernel
theorem dX7_least_50 : decode cX7_least 50 = .ok (.iload_n 1, 1) := by decide +kernel
theorem dX7_least_51 : decode cX7_least 51 = .ok (.iload_n 2, 1) := by decide +kernel
theorem dX7_least_52 : decode cX7_least 52 = .ok (.invokevirtual 120, 3) := by decide +kernel
theorem dX7_least_55 : decode cX7_least 55 = .ok (.lreturn, 1) := by decide +kernel
set_option maxRecDepth 20000 in
theorem ggX7_words_X7_isRowOfSigns : GoodIn wsX7_words wsX7_isRowOfSigns := goodIn_r _ [6, 7, 8, 5, 9, 10] (by decide +kernel) (by decide +kernel)
set_option maxRecDepth 20000 in
theorem gX7_words_X7_isRowOfSigns : GoodIn wsX7_words (va_wsS RX7 88 yX7_isRowOfSigns wsX7_isRowOfSigns) := goodIn_app (goodIn_of _ (by decide +kernel)) ggX7_words_X7_isRowOfSigns
set_option maxRecDepth 20000 in
theorem ggX7_words_X0_find : GoodIn wsX7_words wsX0_find := goodIn_r _ [15, 16, 17, 18, 19, 14, 20, 21, 22, 23, 24, 25, 26, 27, 5, 28, 29, 30, 31, 32, 33, 34, 35, 36, 37, 38, 39, 40, 41, 42, 43, 53, 54, 55, 56] (by decide +kernel) (by decide +kernel)
set_option maxRecDepth 20000 in
theorem gX7_words_X0_find : GoodIn wsX7_words (wsV RX7 124 RX0 yX0_find wsX0_find) := goodIn_app (goodIn_of _ (by decide +kernel)) ggX7_words_X0_find
set_option maxRecDepth 20000 in
theorem ggX7_words_X0_ofRow : GoodIn wsX7_words wsX0_ofRow := goodIn_r _ [34, 35, 36, 37, 38, 39, 40, 41, 42, 14, 43, 16, 27, 5, 28, 53, 54] (by decide +kernel) (by decide +kernel)
set_option maxRecDepth 20000 in
theorem gX7_words_X0_ofRow : GoodIn wsX7_words (wsV RX7 127 RX0 yX0_ofRow wsX0_ofRow) := goodIn_app (goodIn_of _ (by decide +kernel)) ggX7_words_X0_ofRow
theorem dX7_words_0 : decode cX7_words 0 = .ok (.iload_n 1, 1) := by decide +kernel
theorem dX7_words_1 : decode cX7_words 1 = .ok (.invokestatic 88, 3) := by decide +kernel
theorem dX7_words_4 : decode cX7_words 4 = .ok (.ifCond .eq 13, 3) := by decide +kernel
theorem dX7_words_7 : decode cX7_words 7 = .ok (.iload_n 2, 1) := by decide +kernel
theorem dX7_words_8 : decode cX7_words 8 = .ok (.ifCond .lt 9, 3) := by decide +kernel
theorem dX7_words_11 : decode cX7_words 11 = .ok (.iload_n 2, 1) := by decide +kernel
theorem dX7_words_12 : decode cX7_words 12 = .ok (.bipush 12, 2) := by decide +kernel
theorem dX7_words_14 : decode cX7_words 14 = .ok (.if_icmp .le 6, 3) := by decide +kernel
theorem dX7_words_17 : decode cX7_words 17 = .ok (.bipush (-2), 2) := by decide +kernel
theorem dX7_words_19 : decode cX7_words 19 = .ok (.ireturn, 1) := by decide +kernel
theorem dX7_words_20 : decode cX7_words 20 = .ok (.aload_n 0, 1) := by decide +kernel
theorem dX7_words_21 : decode cX7_words 21 = .ok (.getfield 42, 3) := by decide +kernel
theorem dX7_words_24 : decode cX7_words 24 = .ok (.aload_n 0, 1) := by decide +kernel
theorem dX7_words_25 : decode cX7_words 25 = .ok (.getfield 12, 3) := by decide +kernel
theorem dX7_words_28 : decode cX7_words 28 = .ok (.iload_n 2, 1) := by decide +kernel
theorem dX7_words_29 : decode cX7_words 29 = .ok (.invokevirtual 124, 3) := by decide +kernel
theorem dX7_words_32 : decode cX7_words 32 = .ok (.aload_n 0, 1) := by decide +kernel
theorem dX7_words_33 : decode cX7_words 33 = .ok (.getfield 42, 3) := by decide +kernel
theorem dX7_words_36 : decode cX7_words 36 = .ok (.iload_n 1, 1) := by decide +kernel
theorem dX7_words_37 : decode cX7_words 37 = .ok (.iload_n 2, 1) := by decide +kernel
theorem dX7_words_38 : decode cX7_words 38 = .ok (.invokevirtual 127, 3) := by decide +kernel
theorem dX7_words_41 : decode cX7_words 41 = .ok (.ireturn, 1) := by decide +kernel
set_option maxRecDepth 20000 in
theorem ggX7_parts_X7_isRowOfSigns : GoodIn wsX7_parts wsX7_isRowOfSigns := goodIn_r _ [6, 7, 8, 5, 9, 10] (by decide +kernel) (by decide +kernel)
set_option maxRecDepth 20000 in
theorem gX7_parts_X7_isRowOfSigns : GoodIn wsX7_parts (va_wsS RX7 88 yX7_isRowOfSigns wsX7_isRowOfSigns) := goodIn_app (goodIn_of _ (by decide +kernel)) ggX7_parts_X7_isRowOfSigns
set_option maxRecDepth 20000 in
theorem ggX7_parts_X7_rowInOrder : GoodIn wsX7_parts wsX7_rowInOrder := goodIn_r _ [13] (by decide +kernel) (by decide +kernel)
set_option maxRecDepth 20000 in
theorem gX7_parts_X7_rowInOrder : GoodIn wsX7_parts (va_wsS RX7 129 yX7_rowInOrder wsX7_rowInOrder) := goodIn_app (goodIn_of _ (by decide +kernel)) ggX7_parts_X7_rowInOrder
set_option maxRecDepth 20000 in
theorem ggX7_parts_X7_goesThrough : GoodIn wsX7_parts wsX7_goesThrough := goodIn_r _ [17, 18, 19, 20, 21, 22, 23, 24, 25, 26, 27, 28, 29, 30, 31, 32, 33, 34, 35, 36, 37, 38, 39, 40, 41, 42, 43, 44, 45, 46, 47, 48, 49, 50, 51, 52, 53, 54, 55, 56, 57, 58, 59, 60, 61, 62, 63, 64, 65, 66, 67, 68, 69, 70, 5, 71, 72, 73, 74, 75, 76, 77, 78, 79, 80, 81, 82, 83, 84, 85, 86, 87, 88, 89, 90, 91, 92, 93, 94, 95, 96, 97, 98, 99, 100] (by decide +kernel) (by decide +kernel)
set_option maxRecDepth 20000 in
theorem gX7_parts_X7_goesThrough : GoodIn wsX7_parts (wsV RX7 132 RX7 yX7_goesThrough wsX7_goesThrough) := goodIn_app (goodIn_of _ (by decide +kernel)) ggX7_parts_X7_goesThrough
theorem dX7_parts_0 : decode cX7_parts 0 = .ok (.iload_n 1, 1) := by decide +kernel
theorem dX7_parts_1 : decode cX7_parts 1 = .ok (.invokestatic 88, 3) := by decide +kernel
theorem dX7_parts_4 : decode cX7_parts 4 = .ok (.ifCond .eq 19, 3) := by decide +kernel
theorem dX7_parts_7 : decode cX7_parts 7 = .ok (.iload_n 2, 1) := by decide +kernel
theorem dX7_parts_8 : decode cX7_parts 8 = .ok (.invokestatic 88, 3) := by decide +kernel
theorem dX7_parts_11 : decode cX7_parts 11 = .ok (.ifCond .eq 12, 3) := by decide +kernel
theorem dX7_parts_14 : decode cX7_parts 14 = .ok (.iload_n 3, 1) := by decide +kernel
theorem dX7_parts_15 : decode cX7_parts 15 = .ok (.ifCond .lt 8, 3) := by decide +kernel
theorem dX7_parts_18 : decode cX7_parts 18 = .ok (.iload_n 3, 1) := by decide +kernel
theorem dX7_parts_19 : decode cX7_parts 19 = .ok (.iconst 1, 1) := by decide +kernel
theorem dX7_parts_20 : decode cX7_parts 20 = .ok (.if_icmp .le 7, 3) := by decide +kernel
theorem dX7_parts_23 : decode cX7_parts 23 = .ok (.ldc2_w 116, 3) := by decide +kernel
theorem dX7_parts_26 : decode cX7_parts 26 = .ok (.lreturn, 1) := by decide +kernel
theorem dX7_parts_27 : decode cX7_parts 27 = .ok (.iconst 0, 1) := by decide +kernel
theorem dX7_parts_28 : decode cX7_parts 28 = .ok (.istore 4, 2) := by decide +kernel
theorem dX7_parts_30 : decode cX7_parts 30 = .ok (.iload 4, 2) := by decide +kernel
theorem dX7_parts_32 : decode cX7_parts 32 = .ok (.sipush 1093, 3) := by decide +kernel
theorem dX7_parts_35 : decode cX7_parts 35 = .ok (.if_icmp .ge 40, 3) := by decide +kernel
theorem dX7_parts_38 : decode cX7_parts 38 = .ok (.iload 4, 2) := by decide +kernel
theorem dX7_parts_40 : decode cX7_parts 40 = .ok (.iconst 3, 1) := by decide +kernel
theorem dX7_parts_41 : decode cX7_parts 41 = .ok (.invokestatic 129, 3) := by decide +kernel
theorem dX7_parts_44 : decode cX7_parts 44 = .ok (.istore 5, 2) := by decide +kernel
theorem dX7_parts_46 : decode cX7_parts 46 = .ok (.aload_n 0, 1) := by decide +kernel
theorem dX7_parts_47 : decode cX7_parts 47 = .ok (.iload_n 1, 1) := by decide +kernel
theorem dX7_parts_48 : decode cX7_parts 48 = .ok (.iload 5, 2) := by decide +kernel
theorem dX7_parts_50 : decode cX7_parts 50 = .ok (.iload_n 3, 1) := by decide +kernel
theorem dX7_parts_51 : decode cX7_parts 51 = .ok (.invokevirtual 132, 3) := by decide +kernel
theorem dX7_parts_54 : decode cX7_parts 54 = .ok (.aload_n 0, 1) := by decide +kernel
theorem dX7_parts_55 : decode cX7_parts 55 = .ok (.iload_n 2, 1) := by decide +kernel
theorem dX7_parts_56 : decode cX7_parts 56 = .ok (.iload 5, 2) := by decide +kernel
theorem dX7_parts_58 : decode cX7_parts 58 = .ok (.iload_n 3, 1) := by decide +kernel
theorem dX7_parts_59 : decode cX7_parts 59 = .ok (.invokevirtual 132, 3) := by decide +kernel
theorem dX7_parts_62 : decode cX7_parts 62 = .ok (.if_icmp .eq 7, 3) := by decide +kernel
theorem dX7_parts_65 : decode cX7_parts 65 = .ok (.iload 5, 2) := by decide +kernel
theorem dX7_parts_67 : decode cX7_parts 67 = .ok (.i2l, 1) := by decide +kernel
theorem dX7_parts_68 : decode cX7_parts 68 = .ok (.lreturn, 1) := by decide +kernel
theorem dX7_parts_69 : decode cX7_parts 69 = .ok (.iinc 4 1, 3) := by decide +kernel
theorem dX7_parts_72 : decode cX7_parts 72 = .ok (.goto (-42), 3) := by decide +kernel
theorem dX7_parts_75 : decode cX7_parts 75 = .ok (.ldc2_w 118, 3) := by decide +kernel
theorem dX7_parts_78 : decode cX7_parts 78 = .ok (.lreturn, 1) := by decide +kernel
set_option maxRecDepth 20000 in
theorem ggX7_firsts_X7_isRowOfSigns : GoodIn wsX7_firsts wsX7_isRowOfSigns := goodIn_r _ [6, 7, 8, 5, 9, 10] (by decide +kernel) (by decide +kernel)
set_option maxRecDepth 20000 in
theorem gX7_firsts_X7_isRowOfSigns : GoodIn wsX7_firsts (va_wsS RX7 88 yX7_isRowOfSigns wsX7_isRowOfSigns) := goodIn_app (goodIn_of _ (by decide +kernel)) ggX7_firsts_X7_isRowOfSigns
set_option maxRecDepth 20000 in
theorem ggX7_firsts_X2_find : GoodIn wsX7_firsts wsX2_find := goodIn_r _ [15, 16, 17, 18, 19, 20, 21, 22, 23, 14, 24, 25, 26, 27, 28, 29, 30, 31, 32, 33, 34, 35, 5, 36, 37, 38, 39, 40, 41, 42, 43, 44, 45, 46, 64, 65, 66] (by decide +kernel) (by decide +kernel)
set_option maxRecDepth 20000 in
theorem gX7_firsts_X2_find : GoodIn wsX7_firsts (wsV RX7 110 RX2 yX2_find wsX2_find) := goodIn_app (goodIn_of _ (by decide +kernel)) ggX7_firsts_X2_find
set_option maxRecDepth 20000 in
theorem ggX7_firsts_X2_firstsWithin : GoodIn wsX7_firsts wsX2_firstsWithin := goodIn_r _ [50, 43, 44, 45, 14, 46, 16, 35, 5, 36, 64] (by decide +kernel) (by decide +kernel)
set_option maxRecDepth 20000 in
theorem gX7_firsts_X2_firstsWithin : GoodIn wsX7_firsts (wsV RX7 136 RX2 yX2_firstsWithin wsX2_firstsWithin) := goodIn_app (goodIn_of _ (by decide +kernel)) ggX7_firsts_X2_firstsWithin
set_option maxRecDepth 20000 in
theorem ggX7_firsts_X7_firstsOfRules : GoodIn wsX7_firsts wsX7_firstsOfRules := goodIn_r _ [54, 1, 2, 55, 30, 31, 32, 33, 34, 35, 5, 36, 37, 38, 47, 48, 49, 14, 50, 43, 44, 45, 46, 16, 56, 57, 58, 59, 60, 61, 62, 63, 65, 66, 64] (by decide +kernel) (by decide +kernel)
set_option maxRecDepth 20000 in
theorem gX7_firsts_X7_firstsOfRules : GoodIn wsX7_firsts (wsV RX7 139 RX7 yX7_firstsOfRules wsX7_firstsOfRules) := goodIn_app (goodIn_of _ (by decide +kernel)) ggX7_firsts_X7_firstsOfRules
theorem dX7_firsts_0 : decode cX7_firsts 0 = .ok (.iload_n 1, 1) := by decide +kernel
theorem dX7_firsts_1 : decode cX7_firsts 1 = .ok (.invokestatic 88, 3) := by decide +kernel
theorem dX7_firsts_4 : decode cX7_firsts 4 = .ok (.ifCond .ne 6, 3) := by decide +kernel
theorem dX7_firsts_7 : decode cX7_firsts 7 = .ok (.bipush (-2), 2) := by decide +kernel
theorem dX7_firsts_9 : decode cX7_firsts 9 = .ok (.ireturn, 1) := by decide +kernel
theorem dX7_firsts_10 : decode cX7_firsts 10 = .ok (.aload_n 0, 1) := by decide +kernel
theorem dX7_firsts_11 : decode cX7_firsts 11 = .ok (.getfield 35, 3) := by decide +kernel
theorem dX7_firsts_14 : decode cX7_firsts 14 = .ok (.aload_n 0, 1) := by decide +kernel
theorem dX7_firsts_15 : decode cX7_firsts 15 = .ok (.getfield 12, 3) := by decide +kernel
theorem dX7_firsts_18 : decode cX7_firsts 18 = .ok (.invokevirtual 110, 3) := by decide +kernel
theorem dX7_firsts_21 : decode cX7_firsts 21 = .ok (.aload_n 0, 1) := by decide +kernel
theorem dX7_firsts_22 : decode cX7_firsts 22 = .ok (.getfield 35, 3) := by decide +kernel
theorem dX7_firsts_25 : decode cX7_firsts 25 = .ok (.iload_n 1, 1) := by decide +kernel
theorem dX7_firsts_26 : decode cX7_firsts 26 = .ok (.invokevirtual 136, 3) := by decide +kernel
theorem dX7_firsts_29 : decode cX7_firsts 29 = .ok (.istore_n 2, 1) := by decide +kernel
theorem dX7_firsts_30 : decode cX7_firsts 30 = .ok (.iconst 0, 1) := by decide +kernel
theorem dX7_firsts_31 : decode cX7_firsts 31 = .ok (.istore_n 3, 1) := by decide +kernel
theorem dX7_firsts_32 : decode cX7_firsts 32 = .ok (.iload_n 3, 1) := by decide +kernel
theorem dX7_firsts_33 : decode cX7_firsts 33 = .ok (.bipush 6, 2) := by decide +kernel
theorem dX7_firsts_35 : decode cX7_firsts 35 = .ok (.if_icmp .ge 17, 3) := by decide +kernel
theorem dX7_firsts_38 : decode cX7_firsts 38 = .ok (.iload_n 2, 1) := by decide +kernel
theorem dX7_firsts_39 : decode cX7_firsts 39 = .ok (.aload_n 0, 1) := by decide +kernel
theorem dX7_firsts_40 : decode cX7_firsts 40 = .ok (.iload_n 2, 1) := by decide +kernel
theorem dX7_firsts_41 : decode cX7_firsts 41 = .ok (.invokevirtual 139, 3) := by decide +kernel
theorem dX7_firsts_44 : decode cX7_firsts 44 = .ok (.ior, 1) := by decide +kernel
theorem dX7_firsts_45 : decode cX7_firsts 45 = .ok (.istore_n 2, 1) := by decide +kernel
theorem dX7_firsts_46 : decode cX7_firsts 46 = .ok (.iinc 3 1, 3) := by decide +kernel
theorem dX7_firsts_49 : decode cX7_firsts 49 = .ok (.goto (-17), 3) := by decide +kernel
theorem dX7_firsts_52 : decode cX7_firsts 52 = .ok (.iload_n 2, 1) := by decide +kernel
theorem dX7_firsts_53 : decode cX7_firsts 53 = .ok (.ireturn, 1) := by decide +kernel
set_option maxRecDepth 20000 in
theorem ggX7_claim_X7_isSign : GoodIn wsX7_claim wsX7_isSign := goodIn_r _ [6] (by decide +kernel) (by decide +kernel)
set_option maxRecDepth 20000 in
theorem gX7_claim_X7_isSign : GoodIn wsX7_claim (va_wsS RX7 65 yX7_isSign wsX7_isSign) := goodIn_app (goodIn_of _ (by decide +kernel)) ggX7_claim_X7_isSign
set_option maxRecDepth 20000 in
theorem ggX7_claim_X7_isRow : GoodIn wsX7_claim wsX7_isRow := goodIn_r _ [9, 10] (by decide +kernel) (by decide +kernel)
set_option maxRecDepth 20000 in
theorem gX7_claim_X7_isRow : GoodIn wsX7_claim (va_wsS RX7 72 yX7_isRow wsX7_isRow) := goodIn_app (goodIn_of _ (by decide +kernel)) ggX7_claim_X7_isRow
set_option maxRecDepth 20000 in
theorem ggX7_claim_X3_keep : GoodIn wsX7_claim wsX3_keep := goodIn_r _ [15, 16, 17, 18, 19, 20, 21, 22, 23, 24, 25, 14, 26, 27, 28, 29, 30, 31, 32, 33, 34, 35, 36, 37, 38, 39, 40, 41, 58, 59, 60, 61, 62] (by decide +kernel) (by decide +kernel)
set_option maxRecDepth 20000 in
theorem gX7_claim_X3_keep : GoodIn wsX7_claim (wsV RX7 76 RX3 yX3_keep wsX3_keep) := goodIn_app (goodIn_of _ (by decide +kernel)) ggX7_claim_X3_keep
set_option maxRecDepth 20000 in
theorem ggX7_claim_X6_claimOf : GoodIn wsX7_claim wsX6_claimOf := goodIn_r _ [45, 41, 4, 5, 6, 61, 62] (by decide +kernel) (by decide +kernel)
set_option maxRecDepth 20000 in
theorem gX7_claim_X6_claimOf : GoodIn wsX7_claim (wsV RX7 142 RX6 yX6_claimOf wsX6_claimOf) := goodIn_app (goodIn_of _ (by decide +kernel)) ggX7_claim_X6_claimOf
set_option maxRecDepth 20000 in
theorem ggX7_claim_X6_setClaim : GoodIn wsX7_claim wsX6_setClaim := goodIn_r _ [49, 41, 4, 5, 6, 61, 62] (by decide +kernel) (by decide +kernel)
set_option maxRecDepth 20000 in
theorem gX7_claim_X6_setClaim : GoodIn wsX7_claim (wsV RX7 145 RX6 yX6_setClaim wsX6_setClaim) := goodIn_app (goodIn_of _ (by decide +kernel)) ggX7_claim_X6_setClaim
theorem dX7_claim_0 : decode cX7_claim 0 = .ok (.iload_n 1, 1) := by decide +kernel
theorem dX7_claim_1 : decode cX7_claim 1 = .ok (.invokestatic 65, 3) := by decide +kernel
theorem dX7_claim_4 : decode cX7_claim 4 = .ok (.ifCond .ne 5, 3) := by decide +kernel
theorem dX7_claim_7 : decode cX7_claim 7 = .ok (.iconst (-1), 1) := by decide +kernel
theorem dX7_claim_8 : decode cX7_claim 8 = .ok (.ireturn, 1) := by decide +kernel
theorem dX7_claim_9 : decode cX7_claim 9 = .ok (.iload_n 2, 1) := by decide +kernel
theorem dX7_claim_10 : decode cX7_claim 10 = .ok (.bipush (-9), 2) := by decide +kernel
theorem dX7_claim_12 : decode cX7_claim 12 = .ok (.if_icmp .eq 20, 3) := by decide +kernel
theorem dX7_claim_15 : decode cX7_claim 15 = .ok (.iload_n 2, 1) := by decide +kernel
theorem dX7_claim_16 : decode cX7_claim 16 = .ok (.ifCond .eq 13, 3) := by decide +kernel
theorem dX7_claim_19 : decode cX7_claim 19 = .ok (.iload_n 2, 1) := by decide +kernel
theorem dX7_claim_20 : decode cX7_claim 20 = .ok (.i2l, 1) := by decide +kernel
theorem dX7_claim_21 : decode cX7_claim 21 = .ok (.iload_n 1, 1) := by decide +kernel
theorem dX7_claim_22 : decode cX7_claim 22 = .ok (.iconst 3, 1) := by decide +kernel
theorem dX7_claim_23 : decode cX7_claim 23 = .ok (.invokestatic 72, 3) := by decide +kernel
theorem dX7_claim_26 : decode cX7_claim 26 = .ok (.ifCond .ne 6, 3) := by decide +kernel
theorem dX7_claim_29 : decode cX7_claim 29 = .ok (.bipush (-2), 2) := by decide +kernel
theorem dX7_claim_31 : decode cX7_claim 31 = .ok (.ireturn, 1) := by decide +kernel
theorem dX7_claim_32 : decode cX7_claim 32 = .ok (.aload_n 0, 1) := by decide +kernel
theorem dX7_claim_33 : decode cX7_claim 33 = .ok (.getfield 21, 3) := by decide +kernel
theorem dX7_claim_36 : decode cX7_claim 36 = .ok (.aload_n 0, 1) := by decide +kernel
theorem dX7_claim_37 : decode cX7_claim 37 = .ok (.getfield 12, 3) := by decide +kernel
theorem dX7_claim_40 : decode cX7_claim 40 = .ok (.invokevirtual 76, 3) := by decide +kernel
theorem dX7_claim_43 : decode cX7_claim 43 = .ok (.aload_n 0, 1) := by decide +kernel
theorem dX7_claim_44 : decode cX7_claim 44 = .ok (.getfield 12, 3) := by decide +kernel
theorem dX7_claim_47 : decode cX7_claim 47 = .ok (.iload_n 1, 1) := by decide +kernel
theorem dX7_claim_48 : decode cX7_claim 48 = .ok (.invokevirtual 142, 3) := by decide +kernel
theorem dX7_claim_51 : decode cX7_claim 51 = .ok (.istore_n 3, 1) := by decide +kernel
theorem dX7_claim_52 : decode cX7_claim 52 = .ok (.aload_n 0, 1) := by decide +kernel
