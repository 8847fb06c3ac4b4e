theorem dX0_init_0 : decode cX0_init 0 = .ok (.aload_n 0, 1) := by decide +kernel
theorem dX0_init_1 : decode cX0_init 1 = .ok (.invokespecial 3, 3) := by decide +kernel
theorem dX0_init_4 : decode cX0_init 4 = .ok (.aload_n 0, 1) := by decide +kernel
theorem dX0_init_5 : decode cX0_init 5 = .ok (.bipush 6, 2) := by decide +kernel
theorem dX0_init_7 : decode cX0_init 7 = .ok (.bipush 13, 2) := by decide +kernel
theorem dX0_init_9 : decode cX0_init 9 = .ok (.multianewarray 9 2, 4) := by decide +kernel
theorem dX0_init_13 : decode cX0_init 13 = .ok (.putfield 11, 3) := by decide +kernel
theorem dX0_init_16 : decode cX0_init 16 = .ok (.aload_n 0, 1) := by decide +kernel
theorem dX0_init_17 : decode cX0_init 17 = .ok (.bipush 13, 2) := by decide +kernel
theorem dX0_init_19 : decode cX0_init 19 = .ok (.newarray .int, 2) := by decide +kernel
theorem dX0_init_21 : decode cX0_init 21 = .ok (.putfield 16, 3) := by decide +kernel
theorem dX0_init_24 : decode cX0_init 24 = .ok (.return_, 1) := by decide +kernel
set_option maxRecDepth 20000 in
theorem ggX0_find_X0_byRules : GoodIn wsX0_find wsX0_byRules := goodIn_r _ [6, 7, 8, 9, 10, 11, 12, 13, 14, 15, 16, 17, 18, 19, 20, 5, 21, 22, 23, 24, 25, 26, 27, 28, 29, 30, 1, 33, 34, 31, 32] (by decide +kernel) (by decide +kernel)
set_option maxRecDepth 20000 in
theorem gX0_find_X0_byRules : GoodIn wsX0_find (wsV RX0 20 RX0 yX0_byRules wsX0_byRules) := goodIn_app (goodIn_of _ (by decide +kernel)) ggX0_find_X0_byRules
theorem dX0_find_0 : decode cX0_find 0 = .ok (.iconst 0, 1) := by decide +kernel
theorem dX0_find_1 : decode cX0_find 1 = .ok (.istore_n 3, 1) := by decide +kernel
theorem dX0_find_2 : decode cX0_find 2 = .ok (.iload_n 3, 1) := by decide +kernel
theorem dX0_find_3 : decode cX0_find 3 = .ok (.iload_n 2, 1) := by decide +kernel
theorem dX0_find_4 : decode cX0_find 4 = .ok (.if_icmp .gt 50, 3) := by decide +kernel
theorem dX0_find_7 : decode cX0_find 7 = .ok (.iload_n 3, 1) := by decide +kernel
theorem dX0_find_8 : decode cX0_find 8 = .ok (.bipush 12, 2) := by decide +kernel
theorem dX0_find_10 : decode cX0_find 10 = .ok (.if_icmp .gt 44, 3) := by decide +kernel
theorem dX0_find_13 : decode cX0_find 13 = .ok (.iconst 0, 1) := by decide +kernel
theorem dX0_find_14 : decode cX0_find 14 = .ok (.istore 4, 2) := by decide +kernel
theorem dX0_find_16 : decode cX0_find 16 = .ok (.iload 4, 2) := by decide +kernel
theorem dX0_find_18 : decode cX0_find 18 = .ok (.bipush 6, 2) := by decide +kernel
theorem dX0_find_20 : decode cX0_find 20 = .ok (.if_icmp .ge 28, 3) := by decide +kernel
theorem dX0_find_23 : decode cX0_find 23 = .ok (.aload_n 0, 1) := by decide +kernel
theorem dX0_find_24 : decode cX0_find 24 = .ok (.getfield 11, 3) := by decide +kernel
theorem dX0_find_27 : decode cX0_find 27 = .ok (.iload 4, 2) := by decide +kernel
theorem dX0_find_29 : decode cX0_find 29 = .ok (.aaload, 1) := by decide +kernel
theorem dX0_find_30 : decode cX0_find 30 = .ok (.iload_n 3, 1) := by decide +kernel
theorem dX0_find_31 : decode cX0_find 31 = .ok (.aload_n 0, 1) := by decide +kernel
theorem dX0_find_32 : decode cX0_find 32 = .ok (.aload_n 1, 1) := by decide +kernel
theorem dX0_find_33 : decode cX0_find 33 = .ok (.iload 4, 2) := by decide +kernel
theorem dX0_find_35 : decode cX0_find 35 = .ok (.iload_n 3, 1) := by decide +kernel
theorem dX0_find_36 : decode cX0_find 36 = .ok (.iconst 1, 1) := by decide +kernel
theorem dX0_find_37 : decode cX0_find 37 = .ok (.isub, 1) := by decide +kernel
theorem dX0_find_38 : decode cX0_find 38 = .ok (.invokevirtual 20, 3) := by decide +kernel
theorem dX0_find_41 : decode cX0_find 41 = .ok (.iastore, 1) := by decide +kernel
theorem dX0_find_42 : decode cX0_find 42 = .ok (.iinc 4 1, 3) := by decide +kernel
theorem dX0_find_45 : decode cX0_find 45 = .ok (.goto (-29), 3) := by decide +kernel
theorem dX0_find_48 : decode cX0_find 48 = .ok (.iinc 3 1, 3) := by decide +kernel
theorem dX0_find_51 : decode cX0_find 51 = .ok (.goto (-49), 3) := by decide +kernel
theorem dX0_find_54 : decode cX0_find 54 = .ok (.return_, 1) := by decide +kernel
set_option maxRecDepth 20000 in
theorem ggX0_ofRow_J7_fill_53178 : GoodIn wsX0_ofRow wsJ7_fill_53178 := goodIn_r _ [5] (by decide +kernel) (by decide +kernel)
set_option maxRecDepth 20000 in
theorem gX0_ofRow_J7_fill_53178 : GoodIn wsX0_ofRow (va_wsS RX0 24 yJ7_fill_53178 wsJ7_fill_53178) := goodIn_app (goodIn_of _ (by decide +kernel)) ggX0_ofRow_J7_fill_53178
set_option maxRecDepth 20000 in
theorem ggX0_ofRow_X0_addSign : GoodIn wsX0_ofRow wsX0_addSign := goodIn_r _ [10, 11, 1, 12, 13, 14, 15, 16] (by decide +kernel) (by decide +kernel)
set_option maxRecDepth 20000 in
theorem gX0_ofRow_X0_addSign : GoodIn wsX0_ofRow (wsV RX0 30 RX0 yX0_addSign wsX0_addSign) := goodIn_app (goodIn_of _ (by decide +kernel)) ggX0_ofRow_X0_addSign
theorem dX0_ofRow_0 : decode cX0_ofRow 0 = .ok (.iload_n 2, 1) := by decide +kernel
theorem dX0_ofRow_1 : decode cX0_ofRow 1 = .ok (.ifCond .lt 9, 3) := by decide +kernel
theorem dX0_ofRow_4 : decode cX0_ofRow 4 = .ok (.iload_n 2, 1) := by decide +kernel
theorem dX0_ofRow_5 : decode cX0_ofRow 5 = .ok (.bipush 12, 2) := by decide +kernel
theorem dX0_ofRow_7 : decode cX0_ofRow 7 = .ok (.if_icmp .le 5, 3) := by decide +kernel
theorem dX0_ofRow_10 : decode cX0_ofRow 10 = .ok (.iconst 0, 1) := by decide +kernel
theorem dX0_ofRow_11 : decode cX0_ofRow 11 = .ok (.ireturn, 1) := by decide +kernel
theorem dX0_ofRow_12 : decode cX0_ofRow 12 = .ok (.aload_n 0, 1) := by decide +kernel
theorem dX0_ofRow_13 : decode cX0_ofRow 13 = .ok (.getfield 16, 3) := by decide +kernel
theorem dX0_ofRow_16 : decode cX0_ofRow 16 = .ok (.iconst 0, 1) := by decide +kernel
theorem dX0_ofRow_17 : decode cX0_ofRow 17 = .ok (.invokestatic 24, 3) := by decide +kernel
theorem dX0_ofRow_20 : decode cX0_ofRow 20 = .ok (.aload_n 0, 1) := by decide +kernel
theorem dX0_ofRow_21 : decode cX0_ofRow 21 = .ok (.getfield 16, 3) := by decide +kernel
theorem dX0_ofRow_24 : decode cX0_ofRow 24 = .ok (.iconst 0, 1) := by decide +kernel
theorem dX0_ofRow_25 : decode cX0_ofRow 25 = .ok (.iconst 1, 1) := by decide +kernel
theorem dX0_ofRow_26 : decode cX0_ofRow 26 = .ok (.iastore, 1) := by decide +kernel
theorem dX0_ofRow_27 : decode cX0_ofRow 27 = .ok (.iload_n 1, 1) := by decide +kernel
theorem dX0_ofRow_28 : decode cX0_ofRow 28 = .ok (.istore_n 3, 1) := by decide +kernel
theorem dX0_ofRow_29 : decode cX0_ofRow 29 = .ok (.iload_n 3, 1) := by decide +kernel
theorem dX0_ofRow_30 : decode cX0_ofRow 30 = .ok (.ifCond .le 22, 3) := by decide +kernel
theorem dX0_ofRow_33 : decode cX0_ofRow 33 = .ok (.aload_n 0, 1) := by decide +kernel
theorem dX0_ofRow_34 : decode cX0_ofRow 34 = .ok (.iload_n 3, 1) := by decide +kernel
theorem dX0_ofRow_35 : decode cX0_ofRow 35 = .ok (.bipush 10, 2) := by decide +kernel
theorem dX0_ofRow_37 : decode cX0_ofRow 37 = .ok (.irem, 1) := by decide +kernel
theorem dX0_ofRow_38 : decode cX0_ofRow 38 = .ok (.iconst 1, 1) := by decide +kernel
theorem dX0_ofRow_39 : decode cX0_ofRow 39 = .ok (.isub, 1) := by decide +kernel
theorem dX0_ofRow_40 : decode cX0_ofRow 40 = .ok (.iload_n 2, 1) := by decide +kernel
theorem dX0_ofRow_41 : decode cX0_ofRow 41 = .ok (.invokevirtual 30, 3) := by decide +kernel
theorem dX0_ofRow_44 : decode cX0_ofRow 44 = .ok (.iload_n 3, 1) := by decide +kernel
theorem dX0_ofRow_45 : decode cX0_ofRow 45 = .ok (.bipush 10, 2) := by decide +kernel
theorem dX0_ofRow_47 : decode cX0_ofRow 47 = .ok (.idiv, 1) := by decide +kernel
theorem dX0_ofRow_48 : decode cX0_ofRow 48 = .ok (.istore_n 3, 1) := by decide +kernel
theorem dX0_ofRow_49 : decode cX0_ofRow 49 = .ok (.goto (-20), 3) := by decide +kernel
theorem dX0_ofRow_52 : decode cX0_ofRow 52 = .ok (.aload_n 0, 1) := by decide +kernel
theorem dX0_ofRow_53 : decode cX0_ofRow 53 = .ok (.getfield 16, 3) := by decide +kernel
theorem dX0_ofRow_56 : decode cX0_ofRow 56 = .ok (.iload_n 2, 1) := by decide +kernel
theorem dX0_ofRow_57 : decode cX0_ofRow 57 = .ok (.iaload, 1) := by decide +kernel
theorem dX0_ofRow_58 : decode cX0_ofRow 58 = .ok (.ireturn, 1) := by decide +kernel
set_option maxRecDepth 20000 in
theorem ggX0_byRules_X6_ruleOf : GoodIn wsX0_byRules wsX6_ruleOf := goodIn_r _ [5, 6, 7, 8, 9, 10, 11, 27, 28] (by decide +kernel) (by decide +kernel)
set_option maxRecDepth 20000 in
theorem gX0_byRules_X6_ruleOf : GoodIn wsX0_byRules (wsV RX0 34 RX6 yX6_ruleOf wsX6_ruleOf) := goodIn_app (goodIn_of _ (by decide +kernel)) ggX0_byRules_X6_ruleOf
set_option maxRecDepth 20000 in
theorem ggX0_byRules_X0_ofRow : GoodIn wsX0_byRules wsX0_ofRow := goodIn_r _ [16, 17, 18, 19, 20, 21, 22, 23, 24, 15, 25, 26, 7, 8, 9, 29, 30] (by decide +kernel) (by decide +kernel)
set_option maxRecDepth 20000 in
theorem gX0_byRules_X0_ofRow : GoodIn wsX0_byRules (wsV RX0 40 RX0 yX0_ofRow wsX0_ofRow) := goodIn_app (goodIn_of _ (by decide +kernel)) ggX0_byRules_X0_ofRow
theorem dX0_byRules_0 : decode cX0_byRules 0 = .ok (.iconst 0, 1) := by decide +kernel
theorem dX0_byRules_1 : decode cX0_byRules 1 = .ok (.istore 4, 2) := by decide +kernel
theorem dX0_byRules_3 : decode cX0_byRules 3 = .ok (.iconst 0, 1) := by decide +kernel
theorem dX0_byRules_4 : decode cX0_byRules 4 = .ok (.istore 5, 2) := by decide +kernel
theorem dX0_byRules_6 : decode cX0_byRules 6 = .ok (.iload 5, 2) := by decide +kernel
theorem dX0_byRules_8 : decode cX0_byRules 8 = .ok (.iconst 3, 1) := by decide +kernel
theorem dX0_byRules_9 : decode cX0_byRules 9 = .ok (.if_icmp .ge 37, 3) := by decide +kernel
theorem dX0_byRules_12 : decode cX0_byRules 12 = .ok (.aload_n 1, 1) := by decide +kernel
theorem dX0_byRules_13 : decode cX0_byRules 13 = .ok (.iload_n 2, 1) := by decide +kernel
theorem dX0_byRules_14 : decode cX0_byRules 14 = .ok (.iload 5, 2) := by decide +kernel
theorem dX0_byRules_16 : decode cX0_byRules 16 = .ok (.invokevirtual 34, 3) := by decide +kernel
theorem dX0_byRules_19 : decode cX0_byRules 19 = .ok (.istore 6, 2) := by decide +kernel
theorem dX0_byRules_21 : decode cX0_byRules 21 = .ok (.iload 6, 2) := by decide +kernel
theorem dX0_byRules_23 : decode cX0_byRules 23 = .ok (.bipush (-9), 2) := by decide +kernel
theorem dX0_byRules_25 : decode cX0_byRules 25 = .ok (.if_icmp .eq 15, 3) := by decide +kernel
theorem dX0_byRules_28 : decode cX0_byRules 28 = .ok (.iload 4, 2) := by decide +kernel
theorem dX0_byRules_30 : decode cX0_byRules 30 = .ok (.aload_n 0, 1) := by decide +kernel
theorem dX0_byRules_31 : decode cX0_byRules 31 = .ok (.iload 6, 2) := by decide +kernel
theorem dX0_byRules_33 : decode cX0_byRules 33 = .ok (.iload_n 3, 1) := by decide +kernel
theorem dX0_byRules_34 : decode cX0_byRules 34 = .ok (.invokevirtual 40, 3) := by decide +kernel
theorem dX0_byRules_37 : decode cX0_byRules 37 = .ok (.iadd, 1) := by decide +kernel
theorem dX0_byRules_38 : decode cX0_byRules 38 = .ok (.istore 4, 2) := by decide +kernel
theorem dX0_byRules_40 : decode cX0_byRules 40 = .ok (.iinc 5 1, 3) := by decide +kernel
theorem dX0_byRules_43 : decode cX0_byRules 43 = .ok (.goto (-37), 3) := by decide +kernel
theorem dX0_byRules_46 : decode cX0_byRules 46 = .ok (.iload 4, 2) := by decide +kernel
theorem dX0_byRules_48 : decode cX0_byRules 48 = .ok (.ireturn, 1) := by decide +kernel
set_option maxRecDepth 20000 in
theorem ggX0_addSign_X7_isSign : GoodIn wsX0_addSign wsX7_isSign := goodIn_r _ [5] (by decide +kernel) (by decide +kernel)
set_option maxRecDepth 20000 in
theorem gX0_addSign_X7_isSign_n43 : GoodIn wsX0_addSign (wsX7_isSign) := ggX0_addSign_X7_isSign
theorem dX0_addSign_0 : decode cX0_addSign 0 = .ok (.iload_n 2, 1) := by decide +kernel
theorem dX0_addSign_1 : decode cX0_addSign 1 = .ok (.istore_n 3, 1) := by decide +kernel
theorem dX0_addSign_2 : decode cX0_addSign 2 = .ok (.iload_n 3, 1) := by decide +kernel
theorem dX0_addSign_3 : decode cX0_addSign 3 = .ok (.ifCond .lt 66, 3) := by decide +kernel
theorem dX0_addSign_6 : decode cX0_addSign 6 = .ok (.iconst 0, 1) := by decide +kernel
theorem dX0_addSign_7 : decode cX0_addSign 7 = .ok (.istore 4, 2) := by decide +kernel
theorem dX0_addSign_9 : decode cX0_addSign 9 = .ok (.iconst 1, 1) := by decide +kernel
theorem dX0_addSign_10 : decode cX0_addSign 10 = .ok (.istore 5, 2) := by decide +kernel
theorem dX0_addSign_12 : decode cX0_addSign 12 = .ok (.iload 5, 2) := by decide +kernel
theorem dX0_addSign_14 : decode cX0_addSign 14 = .ok (.iload_n 3, 1) := by decide +kernel
theorem dX0_addSign_15 : decode cX0_addSign 15 = .ok (.if_icmp .gt 40, 3) := by decide +kernel
theorem dX0_addSign_18 : decode cX0_addSign 18 = .ok (.iload_n 1, 1) := by decide +kernel
theorem dX0_addSign_19 : decode cX0_addSign 19 = .ok (.invokestatic 43, 3) := by decide +kernel
theorem dX0_addSign_22 : decode cX0_addSign 22 = .ok (.ifCond .eq 33, 3) := by decide +kernel
theorem dX0_addSign_25 : decode cX0_addSign 25 = .ok (.iload 4, 2) := by decide +kernel
theorem dX0_addSign_27 : decode cX0_addSign 27 = .ok (.aload_n 0, 1) := by decide +kernel
theorem dX0_addSign_28 : decode cX0_addSign 28 = .ok (.getfield 11, 3) := by decide +kernel
theorem dX0_addSign_31 : decode cX0_addSign 31 = .ok (.iload_n 1, 1) := by decide +kernel
theorem dX0_addSign_32 : decode cX0_addSign 32 = .ok (.aaload, 1) := by decide +kernel
theorem dX0_addSign_33 : decode cX0_addSign 33 = .ok (.iload 5, 2) := by decide +kernel
theorem dX0_addSign_35 : decode cX0_addSign 35 = .ok (.iaload, 1) := by decide +kernel
theorem dX0_addSign_36 : decode cX0_addSign 36 = .ok (.aload_n 0, 1) := by decide +kernel
theorem dX0_addSign_37 : decode cX0_addSign 37 = .ok (.getfield 16, 3) := by decide +kernel
theorem dX0_addSign_40 : decode cX0_addSign 40 = .ok (.iload_n 3, 1) := by decide +kernel
theorem dX0_addSign_41 : decode cX0_addSign 41 = .ok (.iload 5, 2) := by decide +kernel
theorem dX0_addSign_43 : decode cX0_addSign 43 = .ok (.isub, 1) := by decide +kernel
theorem dX0_addSign_44 : decode cX0_addSign 44 = .ok (.iaload, 1) := by decide +kernel
theorem dX0_addSign_45 : decode cX0_addSign 45 = .ok (.imul, 1) := by decide +kernel
theorem dX0_addSign_46 : decode cX0_addSign 46 = .ok (.iadd, 1) := by decide +kernel
theorem dX0_addSign_47 : decode cX0_addSign 47 = .ok (.istore 4, 2) := by decide +kernel
theorem dX0_addSign_49 : decode cX0_addSign 49 = .ok (.iinc 5 1, 3) := by decide +kernel
theorem dX0_addSign_52 : decode cX0_addSign 52 = .ok (.goto (-40), 3) := by decide +kernel
theorem dX0_addSign_55 : decode cX0_addSign 55 = .ok (.aload_n 0, 1) := by decide +kernel
theorem dX0_addSign_56 : decode cX0_addSign 56 = .ok (.getfield 16, 3) := by decide +kernel
theorem dX0_addSign_59 : decode cX0_addSign 59 = .ok (.iload_n 3, 1) := by decide +kernel
theorem dX0_addSign_60 : decode cX0_addSign 60 = .ok (.iload 4, 2) := by decide +kernel
theorem dX0_addSign_62 : decode cX0_addSign 62 = .ok (.iastore, 1) := by decide +kernel
theorem dX0_addSign_63 : decode cX0_addSign 63 = .ok (.iinc 3 (-1), 3) := by decide +kernel
theorem dX0_addSign_66 : decode cX0_addSign 66 = .ok (.goto (-64), 3) := by decide +kernel
theorem dX0_addSign_69 : decode cX0_addSign 69 = .ok (.return_, 1) := by decide +kernel
set_option maxRecDepth 20000 in
theorem ggX1_init_X5_init : GoodIn wsX1_init wsX5_init := goodIn_r _ [10, 11, 2, 3, 12, 13, 14, 15, 16, 17, 19, 20] (by decide +kernel) (by decide +kernel)
set_option maxRecDepth 20000 in
theorem gX1_init_X5_init : GoodIn wsX1_init (wsX5_init) := ggX1_init_X5_init
theorem dX1_init_0 : decode cX1_init 0 = .ok (.aload_n 0, 1) := by decide +kernel
theorem dX1_init_1 : decode cX1_init 1 = .ok (.invokespecial 3, 3) := by decide +kernel
theorem dX1_init_4 : decode cX1_init 4 = .ok (.aload_n 0, 1) := by decide +kernel
theorem dX1_init_5 : decode cX1_init 5 = .ok (.bipush 6, 2) := by decide +kernel
theorem dX1_init_7 : decode cX1_init 7 = .ok (.anewarray 9, 3) := by decide +kernel
theorem dX1_init_10 : decode cX1_init 10 = .ok (.putfield 11, 3) := by decide +kernel
theorem dX1_init_13 : decode cX1_init 13 = .ok (.iconst 0, 1) := by decide +kernel
theorem dX1_init_14 : decode cX1_init 14 = .ok (.istore_n 1, 1) := by decide +kernel
theorem dX1_init_15 : decode cX1_init 15 = .ok (.iload_n 1, 1) := by decide +kernel
theorem dX1_init_16 : decode cX1_init 16 = .ok (.bipush 6, 2) := by decide +kernel
theorem dX1_init_18 : decode cX1_init 18 = .ok (.if_icmp .ge 25, 3) := by decide +kernel
theorem dX1_init_21 : decode cX1_init 21 = .ok (.aload_n 0, 1) := by decide +kernel
theorem dX1_init_22 : decode cX1_init 22 = .ok (.getfield 11, 3) := by decide +kernel
theorem dX1_init_25 : decode cX1_init 25 = .ok (.iload_n 1, 1) := by decide +kernel
theorem dX1_init_26 : decode cX1_init 26 = .ok (.new 9, 3) := by decide +kernel
theorem dX1_init_29 : decode cX1_init 29 = .ok (.dup, 1) := by decide +kernel
theorem dX1_init_30 : decode cX1_init 30 = .ok (.sipush 243, 3) := by decide +kernel
theorem dX1_init_33 : decode cX1_init 33 = .ok (.invokespecial 17, 3) := by decide +kernel
theorem dX1_init_36 : decode cX1_init 36 = .ok (.aastore, 1) := by decide +kernel
theorem dX1_init_37 : decode cX1_init 37 = .ok (.iinc 1 1, 3) := by decide +kernel
theorem dX1_init_40 : decode cX1_init 40 = .ok (.goto (-25), 3) := by decide +kernel
theorem dX1_init_43 : decode cX1_init 43 = .ok (.return_, 1) := by decide +kernel
set_option maxRecDepth 20000 in
theorem ggX1_find_X6_claimOf : GoodIn wsX1_find wsX6_claimOf := goodIn_r _ [6, 7, 8, 9, 10, 36, 37] (by decide +kernel) (by decide +kernel)
set_option maxRecDepth 20000 in
theorem gX1_find_X6_claimOf : GoodIn wsX1_find (wsV RX1 20 RX6 yX6_claimOf wsX6_claimOf) := goodIn_app (goodIn_of _ (by decide +kernel)) ggX1_find_X6_claimOf
set_option maxRecDepth 20000 in
theorem ggX1_find_X5_clear : GoodIn wsX1_find wsX5_clear := goodIn_r _ [15, 16, 38, 39] (by decide +kernel) (by decide +kernel)
set_option maxRecDepth 20000 in
theorem gX1_find_X5_clear : GoodIn wsX1_find (wsV RX1 26 RX5 yX5_clear wsX5_clear) := goodIn_app (goodIn_of _ (by decide +kernel)) ggX1_find_X5_clear
set_option maxRecDepth 20000 in
theorem ggX1_find_X5_putFirst : GoodIn wsX1_find wsX5_putFirst := goodIn_r _ [20, 16, 21, 38, 39] (by decide +kernel) (by decide +kernel)
set_option maxRecDepth 20000 in
theorem gX1_find_X5_putFirst : GoodIn wsX1_find (wsV RX1 29 RX5 yX5_putFirst wsX5_putFirst) := goodIn_app (goodIn_of _ (by decide +kernel)) ggX1_find_X5_putFirst
set_option maxRecDepth 20000 in
theorem ggX1_find_X1_putAhead : GoodIn wsX1_find wsX1_putAhead := goodIn_r _ [26, 1, 8, 9, 10, 27, 28, 29, 14, 30, 16, 21, 31, 32, 33, 34, 35, 38, 39] (by decide +kernel) (by decide +kernel)
set_option maxRecDepth 20000 in
theorem gX1_find_X1_putAhead : GoodIn wsX1_find (wsV RX1 32 RX1 yX1_putAhead wsX1_putAhead) := goodIn_app (goodIn_of _ (by decide +kernel)) ggX1_find_X1_putAhead
theorem dX1_find_0 : decode cX1_find 0 = .ok (.iconst 0, 1) := by decide +kernel
theorem dX1_find_1 : decode cX1_find 1 = .ok (.istore_n 2, 1) := by decide +kernel
theorem dX1_find_2 : decode cX1_find 2 = .ok (.iload_n 2, 1) := by decide +kernel
theorem dX1_find_3 : decode cX1_find 3 = .ok (.bipush 6, 2) := by decide +kernel
theorem dX1_find_5 : decode cX1_find 5 = .ok (.if_icmp .ge 49, 3) := by decide +kernel
theorem dX1_find_8 : decode cX1_find 8 = .ok (.aload_n 0, 1) := by decide +kernel
theorem dX1_find_9 : decode cX1_find 9 = .ok (.getfield 11, 3) := by decide +kernel
theorem dX1_find_12 : decode cX1_find 12 = .ok (.iload_n 2, 1) := by decide +kernel
theorem dX1_find_13 : decode cX1_find 13 = .ok (.aaload, 1) := by decide +kernel
theorem dX1_find_14 : decode cX1_find 14 = .ok (.astore_n 3, 1) := by decide +kernel
theorem dX1_find_15 : decode cX1_find 15 = .ok (.aload_n 1, 1) := by decide +kernel
theorem dX1_find_16 : decode cX1_find 16 = .ok (.iload_n 2, 1) := by decide +kernel
theorem dX1_find_17 : decode cX1_find 17 = .ok (.invokevirtual 20, 3) := by decide +kernel
theorem dX1_find_20 : decode cX1_find 20 = .ok (.istore 4, 2) := by decide +kernel
theorem dX1_find_22 : decode cX1_find 22 = .ok (.aload_n 3, 1) := by decide +kernel
theorem dX1_find_23 : decode cX1_find 23 = .ok (.invokevirtual 26, 3) := by decide +kernel
theorem dX1_find_26 : decode cX1_find 26 = .ok (.iload 4, 2) := by decide +kernel
theorem dX1_find_28 : decode cX1_find 28 = .ok (.bipush (-9), 2) := by decide +kernel
theorem dX1_find_30 : decode cX1_find 30 = .ok (.if_icmp .ne 11, 3) := by decide +kernel
theorem dX1_find_33 : decode cX1_find 33 = .ok (.aload_n 3, 1) := by decide +kernel
theorem dX1_find_34 : decode cX1_find 34 = .ok (.iload_n 2, 1) := by decide +kernel
theorem dX1_find_35 : decode cX1_find 35 = .ok (.invokevirtual 29, 3) := by decide +kernel
theorem dX1_find_38 : decode cX1_find 38 = .ok (.goto 10, 3) := by decide +kernel
theorem dX1_find_41 : decode cX1_find 41 = .ok (.aload_n 0, 1) := by decide +kernel
theorem dX1_find_42 : decode cX1_find 42 = .ok (.aload_n 3, 1) := by decide +kernel
theorem dX1_find_43 : decode cX1_find 43 = .ok (.iload 4, 2) := by decide +kernel
theorem dX1_find_45 : decode cX1_find 45 = .ok (.invokevirtual 32, 3) := by decide +kernel
theorem dX1_find_48 : decode cX1_find 48 = .ok (.iinc 2 1, 3) := by decide +kernel
theorem dX1_find_51 : decode cX1_find 51 = .ok (.goto (-49), 3) := by decide +kernel
theorem dX1_find_54 : decode cX1_find 54 = .ok (.return_, 1) := by decide +kernel
set_option maxRecDepth 20000 in
theorem ggX1_putAhead_X7_isSign : GoodIn wsX1_putAhead wsX7_isSign := goodIn_r _ [4] (by decide +kernel) (by decide +kernel)
set_option maxRecDepth 20000 in
theorem gX1_putAhead_X7_isSign_n36 : GoodIn wsX1_putAhead (wsX7_isSign) := ggX1_putAhead_X7_isSign
set_option maxRecDepth 20000 in
theorem ggX1_putAhead_X5_putAllAhead : GoodIn wsX1_putAhead wsX5_putAllAhead := goodIn_r _ [9, 10, 11, 12, 13, 14, 15, 17, 18] (by decide +kernel) (by decide +kernel)
set_option maxRecDepth 20000 in
theorem gX1_putAhead_X5_putAllAhead : GoodIn wsX1_putAhead (wsV RX1 40 RX5 yX5_putAllAhead wsX5_putAllAhead) := goodIn_app (goodIn_of _ (by decide +kernel)) ggX1_putAhead_X5_putAllAhead
theorem dX1_putAhead_0 : decode cX1_putAhead 0 = .ok (.iload_n 2, 1) := by decide +kernel
theorem dX1_putAhead_1 : decode cX1_putAhead 1 = .ok (.istore_n 3, 1) := by decide +kernel
theorem dX1_putAhead_2 : decode cX1_putAhead 2 = .ok (.iload_n 3, 1) := by decide +kernel
theorem dX1_putAhead_3 : decode cX1_putAhead 3 = .ok (.ifCond .le 38, 3) := by decide +kernel
theorem dX1_putAhead_6 : decode cX1_putAhead 6 = .ok (.iload_n 3, 1) := by decide +kernel
theorem dX1_putAhead_7 : decode cX1_putAhead 7 = .ok (.bipush 10, 2) := by decide +kernel
theorem dX1_putAhead_9 : decode cX1_putAhead 9 = .ok (.irem, 1) := by decide +kernel
theorem dX1_putAhead_10 : decode cX1_putAhead 10 = .ok (.iconst 1, 1) := by decide +kernel
theorem dX1_putAhead_11 : decode cX1_putAhead 11 = .ok (.isub, 1) := by decide +kernel
theorem dX1_putAhead_12 : decode cX1_putAhead 12 = .ok (.istore 4, 2) := by decide +kernel
theorem dX1_putAhead_14 : decode cX1_putAhead 14 = .ok (.iload 4, 2) := by decide +kernel
theorem dX1_putAhead_16 : decode cX1_putAhead 16 = .ok (.invokestatic 36, 3) := by decide +kernel
theorem dX1_putAhead_19 : decode cX1_putAhead 19 = .ok (.ifCond .eq 14, 3) := by decide +kernel
theorem dX1_putAhead_22 : decode cX1_putAhead 22 = .ok (.aload_n 1, 1) := by decide +kernel
theorem dX1_putAhead_23 : decode cX1_putAhead 23 = .ok (.aload_n 0, 1) := by decide +kernel
theorem dX1_putAhead_24 : decode cX1_putAhead 24 = .ok (.getfield 11, 3) := by decide +kernel
theorem dX1_putAhead_27 : decode cX1_putAhead 27 = .ok (.iload 4, 2) := by decide +kernel
theorem dX1_putAhead_29 : decode cX1_putAhead 29 = .ok (.aaload, 1) := by decide +kernel
theorem dX1_putAhead_30 : decode cX1_putAhead 30 = .ok (.invokevirtual 40, 3) := by decide +kernel
theorem dX1_putAhead_33 : decode cX1_putAhead 33 = .ok (.iload_n 3, 1) := by decide +kernel
theorem dX1_putAhead_34 : decode cX1_putAhead 34 = .ok (.bipush 10, 2) := by decide +kernel
theorem dX1_putAhead_36 : decode cX1_putAhead 36 = .ok (.idiv, 1) := by decide +kernel
theorem dX1_putAhead_37 : decode cX1_putAhead 37 = .ok (.istore_n 3, 1) := by decide +kernel
theorem dX1_putAhead_38 : decode cX1_putAhead 38 = .ok (.goto (-36), 3) := by decide +kernel
theorem dX1_putAhead_41 : decode cX1_putAhead 41 = .ok (.return_, 1) := by decide +kernel
theorem dX2_init_0 : decode cX2_init 0 = .ok (.aload_n 0, 1) := by decide +kernel
theorem dX2_init_1 : decode cX2_init 1 = .ok (.invokespecial 3, 3) := by decide +kernel
theorem dX2_init_4 : decode cX2_init 4 = .ok (.aload_n 0, 1) := by decide +kernel
theorem dX2_init_5 : decode cX2_init 5 = .ok (.bipush 6, 2) := by decide +kernel
theorem dX2_init_7 : decode cX2_init 7 = .ok (.newarray .int, 2) := by decide +kernel
theorem dX2_init_9 : decode cX2_init 9 = .ok (.putfield 9, 3) := by decide +kernel
theorem dX2_init_12 : decode cX2_init 12 = .ok (.return_, 1) := by decide +kernel
set_option maxRecDepth 20000 in
theorem ggX2_find_J7_fill_53178 : GoodIn wsX2_find wsJ7_fill_53178 := goodIn_r _ [5] (by decide +kernel) (by decide +kernel)
set_option maxRecDepth 20000 in
theorem gX2_find_J7_fill_53178 : GoodIn wsX2_find (va_wsS RX2 15 yJ7_fill_53178 wsJ7_fill_53178) := goodIn_app (goodIn_of _ (by decide +kernel)) ggX2_find_J7_fill_53178
set_option maxRecDepth 20000 in
theorem ggX2_find_X2_leastLetter : GoodIn wsX2_find wsX2_leastLetter := goodIn_r _ [10, 11, 12, 13, 9, 14, 15, 16, 17, 18, 19, 20, 21, 22, 23, 24, 25, 26, 27, 28, 29, 30, 31, 32, 33, 1, 35, 36, 34] (by decide +kernel) (by decide +kernel)
set_option maxRecDepth 20000 in
theorem gX2_find_X2_leastLetter : GoodIn wsX2_find (wsV RX2 21 RX2 yX2_leastLetter wsX2_leastLetter) := goodIn_app (goodIn_of _ (by decide +kernel)) ggX2_find_X2_leastLetter
set_option maxRecDepth 20000 in
theorem ggX2_find_X2_byLetter : GoodIn wsX2_find wsX2_byLetter := goodIn_r _ [14, 15, 16, 17, 18, 19, 20, 21, 22, 23, 24, 25, 26, 27, 28, 9, 29, 30, 31, 32, 33, 1, 35, 36, 34] (by decide +kernel) (by decide +kernel)
set_option maxRecDepth 20000 in
theorem gX2_find_X2_byLetter : GoodIn wsX2_find (wsV RX2 25 RX2 yX2_byLetter wsX2_byLetter) := goodIn_app (goodIn_of _ (by decide +kernel)) ggX2_find_X2_byLetter
theorem dX2_find_0 : decode cX2_find 0 = .ok (.aload_n 0, 1) := by decide +kernel
theorem dX2_find_1 : decode cX2_find 1 = .ok (.getfield 9, 3) := by decide +kernel
theorem dX2_find_4 : decode cX2_find 4 = .ok (.bipush (-9), 2) := by decide +kernel
theorem dX2_find_6 : decode cX2_find 6 = .ok (.invokestatic 15, 3) := by decide +kernel
theorem dX2_find_9 : decode cX2_find 9 = .ok (.iconst 0, 1) := by decide +kernel
theorem dX2_find_10 : decode cX2_find 10 = .ok (.istore_n 2, 1) := by decide +kernel
theorem dX2_find_11 : decode cX2_find 11 = .ok (.iload_n 2, 1) := by decide +kernel
theorem dX2_find_12 : decode cX2_find 12 = .ok (.bipush 6, 2) := by decide +kernel
theorem dX2_find_14 : decode cX2_find 14 = .ok (.if_icmp .ge 41, 3) := by decide +kernel
theorem dX2_find_17 : decode cX2_find 17 = .ok (.iconst 0, 1) := by decide +kernel
theorem dX2_find_18 : decode cX2_find 18 = .ok (.istore_n 3, 1) := by decide +kernel
theorem dX2_find_19 : decode cX2_find 19 = .ok (.iload_n 3, 1) := by decide +kernel
theorem dX2_find_20 : decode cX2_find 20 = .ok (.bipush 6, 2) := by decide +kernel
theorem dX2_find_22 : decode cX2_find 22 = .ok (.if_icmp .ge 27, 3) := by decide +kernel
theorem dX2_find_25 : decode cX2_find 25 = .ok (.aload_n 0, 1) := by decide +kernel
theorem dX2_find_26 : decode cX2_find 26 = .ok (.getfield 9, 3) := by decide +kernel
theorem dX2_find_29 : decode cX2_find 29 = .ok (.iload_n 3, 1) := by decide +kernel
theorem dX2_find_30 : decode cX2_find 30 = .ok (.aload_n 0, 1) := by decide +kernel
theorem dX2_find_31 : decode cX2_find 31 = .ok (.aload_n 1, 1) := by decide +kernel
theorem dX2_find_32 : decode cX2_find 32 = .ok (.iload_n 3, 1) := by decide +kernel
theorem dX2_find_33 : decode cX2_find 33 = .ok (.aload_n 0, 1) := by decide +kernel
theorem dX2_find_34 : decode cX2_find 34 = .ok (.aload_n 1, 1) := by decide +kernel
theorem dX2_find_35 : decode cX2_find 35 = .ok (.iload_n 3, 1) := by decide +kernel
theorem dX2_find_36 : decode cX2_find 36 = .ok (.invokevirtual 21, 3) := by decide +kernel
theorem dX2_find_39 : decode cX2_find 39 = .ok (.invokevirtual 25, 3) := by decide +kernel
theorem dX2_find_42 : decode cX2_find 42 = .ok (.iastore, 1) := by decide +kernel
theorem dX2_find_43 : decode cX2_find 43 = .ok (.iinc 3 1, 3) := by decide +kernel
theorem dX2_find_46 : decode cX2_find 46 = .ok (.goto (-27), 3) := by decide +kernel
theorem dX2_find_49 : decode cX2_find 49 = .ok (.iinc 2 1, 3) := by decide +kernel
theorem dX2_find_52 : decode cX2_find 52 = .ok (.goto (-41), 3) := by decide +kernel
theorem dX2_find_55 : decode cX2_find 55 = .ok (.return_, 1) := by decide +kernel
set_option maxRecDepth 20000 in
theorem ggX2_ofRow_X2_of : GoodIn wsX2_ofRow wsX2_of := goodIn_r _ [5, 6, 7, 8, 9, 10] (by decide +kernel) (by decide +kernel)
set_option maxRecDepth 20000 in
theorem gX2_ofRow_X2_of : GoodIn wsX2_ofRow (wsV RX2 29 RX2 yX2_of wsX2_of) := goodIn_app (goodIn_of _ (by decide +kernel)) ggX2_ofRow_X2_of
theorem dX2_ofRow_0 : decode cX2_ofRow 0 = .ok (.iconst 0, 1) := by decide +kernel
theorem dX2_ofRow_1 : decode cX2_ofRow 1 = .ok (.istore_n 2, 1) := by decide +kernel
theorem dX2_ofRow_2 : decode cX2_ofRow 2 = .ok (.iload_n 1, 1) := by decide +kernel
theorem dX2_ofRow_3 : decode cX2_ofRow 3 = .ok (.istore_n 3, 1) := by decide +kernel
theorem dX2_ofRow_4 : decode cX2_ofRow 4 = .ok (.iload_n 3, 1) := by decide +kernel
theorem dX2_ofRow_5 : decode cX2_ofRow 5 = .ok (.ifCond .le 38, 3) := by decide +kernel
theorem dX2_ofRow_8 : decode cX2_ofRow 8 = .ok (.aload_n 0, 1) := by decide +kernel
theorem dX2_ofRow_9 : decode cX2_ofRow 9 = .ok (.iload_n 3, 1) := by decide +kernel
theorem dX2_ofRow_10 : decode cX2_ofRow 10 = .ok (.bipush 10, 2) := by decide +kernel
theorem dX2_ofRow_12 : decode cX2_ofRow 12 = .ok (.irem, 1) := by decide +kernel
theorem dX2_ofRow_13 : decode cX2_ofRow 13 = .ok (.iconst 1, 1) := by decide +kernel
theorem dX2_ofRow_14 : decode cX2_ofRow 14 = .ok (.isub, 1) := by decide +kernel
theorem dX2_ofRow_15 : decode cX2_ofRow 15 = .ok (.invokevirtual 29, 3) := by decide +kernel
theorem dX2_ofRow_18 : decode cX2_ofRow 18 = .ok (.istore 4, 2) := by decide +kernel
theorem dX2_ofRow_20 : decode cX2_ofRow 20 = .ok (.iload 4, 2) := by decide +kernel
theorem dX2_ofRow_22 : decode cX2_ofRow 22 = .ok (.bipush (-9), 2) := by decide +kernel
theorem dX2_ofRow_24 : decode cX2_ofRow 24 = .ok (.if_icmp .ne 6, 3) := by decide +kernel
theorem dX2_ofRow_27 : decode cX2_ofRow 27 = .ok (.bipush (-9), 2) := by decide +kernel
theorem dX2_ofRow_29 : decode cX2_ofRow 29 = .ok (.ireturn, 1) := by decide +kernel
theorem dX2_ofRow_30 : decode cX2_ofRow 30 = .ok (.iload_n 2, 1) := by decide +kernel
theorem dX2_ofRow_31 : decode cX2_ofRow 31 = .ok (.iload 4, 2) := by decide +kernel
theorem dX2_ofRow_33 : decode cX2_ofRow 33 = .ok (.iadd, 1) := by decide +kernel
theorem dX2_ofRow_34 : decode cX2_ofRow 34 = .ok (.istore_n 2, 1) := by decide +kernel
theorem dX2_ofRow_35 : decode cX2_ofRow 35 = .ok (.iload_n 3, 1) := by decide +kernel
theorem dX2_ofRow_36 : decode cX2_ofRow 36 = .ok (.bipush 10, 2) := by decide +kernel
theorem dX2_ofRow_38 : decode cX2_ofRow 38 = .ok (.idiv, 1) := by decide +kernel
theorem dX2_ofRow_39 : decode cX2_ofRow 39 = .ok (.istore_n 3, 1) := by decide +kernel
theorem dX2_ofRow_40 : decode cX2_ofRow 40 = .ok (.goto (-36), 3) := by decide +kernel
theorem dX2_ofRow_43 : decode cX2_ofRow 43 = .ok (.iload_n 2, 1) := by decide +kernel
theorem dX2_ofRow_44 : decode cX2_ofRow 44 = .ok (.ireturn, 1) := by decide +kernel
theorem dX2_countFound_0 : decode cX2_countFound 0 = .ok (.iconst 0, 1) := by decide +kernel
theorem dX2_countFound_1 : decode cX2_countFound 1 = .ok (.istore_n 1, 1) := by decide +kernel
theorem dX2_countFound_2 : decode cX2_countFound 2 = .ok (.aload_n 0, 1) := by decide +kernel
theorem dX2_countFound_3 : decode cX2_countFound 3 = .ok (.getfield 9, 3) := by decide +kernel
theorem dX2_countFound_6 : decode cX2_countFound 6 = .ok (.astore_n 2, 1) := by decide +kernel
theorem dX2_countFound_7 : decode cX2_countFound 7 = .ok (.aload_n 2, 1) := by decide +kernel
theorem dX2_countFound_8 : decode cX2_countFound 8 = .ok (.arraylength, 1) := by decide +kernel
theorem dX2_countFound_9 : decode cX2_countFound 9 = .ok (.istore_n 3, 1) := by decide +kernel
theorem dX2_countFound_10 : decode cX2_countFound 10 = .ok (.iconst 0, 1) := by decide +kernel
theorem dX2_countFound_11 : decode cX2_countFound 11 = .ok (.istore 4, 2) := by decide +kernel
theorem dX2_countFound_13 : decode cX2_countFound 13 = .ok (.iload 4, 2) := by decide +kernel
theorem dX2_countFound_15 : decode cX2_countFound 15 = .ok (.iload_n 3, 1) := by decide +kernel
theorem dX2_countFound_16 : decode cX2_countFound 16 = .ok (.if_icmp .ge 25, 3) := by decide +kernel
theorem dX2_countFound_19 : decode cX2_countFound 19 = .ok (.aload_n 2, 1) := by decide +kernel
theorem dX2_countFound_20 : decode cX2_countFound 20 = .ok (.iload 4, 2) := by decide +kernel
theorem dX2_countFound_22 : decode cX2_countFound 22 = .ok (.iaload, 1) := by decide +kernel
theorem dX2_countFound_23 : decode cX2_countFound 23 = .ok (.istore 5, 2) := by decide +kernel
theorem dX2_countFound_25 : decode cX2_countFound 25 = .ok (.iload 5, 2) := by decide +kernel
theorem dX2_countFound_27 : decode cX2_countFound 27 = .ok (.bipush (-9), 2) := by decide +kernel
theorem dX2_countFound_29 : decode cX2_countFound 29 = .ok (.if_icmp .eq 6, 3) := by decide +kernel
theorem dX2_countFound_32 : decode cX2_countFound 32 = .ok (.iinc 1 1, 3) := by decide +kernel
theorem dX2_countFound_35 : decode cX2_countFound 35 = .ok (.iinc 4 1, 3) := by decide +kernel
theorem dX2_countFound_38 : decode cX2_countFound 38 = .ok (.goto (-25), 3) := by decide +kernel
theorem dX2_countFound_41 : decode cX2_countFound 41 = .ok (.iload_n 1, 1) := by decide +kernel
theorem dX2_countFound_42 : decode cX2_countFound 42 = .ok (.ireturn, 1) := by decide +kernel
set_option maxRecDepth 20000 in
theorem ggX2_leastLetter_X2_byLetter : GoodIn wsX2_leastLetter wsX2_byLetter := goodIn_r _ [5, 6, 7, 8, 9, 10, 11, 12, 13, 14, 15, 16, 17, 18, 19, 4, 20, 21, 22, 23, 24, 25, 26, 27, 28] (by decide +kernel) (by decide +kernel)
set_option maxRecDepth 20000 in
theorem gX2_leastLetter_X2_byLetter : GoodIn wsX2_leastLetter (wsV RX2 25 RX2 yX2_byLetter wsX2_byLetter) := goodIn_app (goodIn_of _ (by decide +kernel)) ggX2_leastLetter_X2_byLetter
theorem dX2_leastLetter_0 : decode cX2_leastLetter 0 = .ok (.bipush (-9), 2) := by decide +kernel
theorem dX2_leastLetter_2 : decode cX2_leastLetter 2 = .ok (.istore_n 3, 1) := by decide +kernel
theorem dX2_leastLetter_3 : decode cX2_leastLetter 3 = .ok (.bipush (-9), 2) := by decide +kernel
theorem dX2_leastLetter_5 : decode cX2_leastLetter 5 = .ok (.istore 4, 2) := by decide +kernel
theorem dX2_leastLetter_7 : decode cX2_leastLetter 7 = .ok (.iconst 0, 1) := by decide +kernel
theorem dX2_leastLetter_8 : decode cX2_leastLetter 8 = .ok (.istore 5, 2) := by decide +kernel
theorem dX2_leastLetter_10 : decode cX2_leastLetter 10 = .ok (.iload 5, 2) := by decide +kernel
theorem dX2_leastLetter_12 : decode cX2_leastLetter 12 = .ok (.iconst 3, 1) := by decide +kernel
theorem dX2_leastLetter_13 : decode cX2_leastLetter 13 = .ok (.if_icmp .ge 47, 3) := by decide +kernel
theorem dX2_leastLetter_16 : decode cX2_leastLetter 16 = .ok (.aload_n 0, 1) := by decide +kernel
theorem dX2_leastLetter_17 : decode cX2_leastLetter 17 = .ok (.aload_n 1, 1) := by decide +kernel
theorem dX2_leastLetter_18 : decode cX2_leastLetter 18 = .ok (.iload_n 2, 1) := by decide +kernel
theorem dX2_leastLetter_19 : decode cX2_leastLetter 19 = .ok (.iload 5, 2) := by decide +kernel
theorem dX2_leastLetter_21 : decode cX2_leastLetter 21 = .ok (.invokevirtual 25, 3) := by decide +kernel
theorem dX2_leastLetter_24 : decode cX2_leastLetter 24 = .ok (.istore 6, 2) := by decide +kernel
theorem dX2_leastLetter_26 : decode cX2_leastLetter 26 = .ok (.iload 6, 2) := by decide +kernel
theorem dX2_leastLetter_28 : decode cX2_leastLetter 28 = .ok (.bipush (-9), 2) := by decide +kernel
theorem dX2_leastLetter_30 : decode cX2_leastLetter 30 = .ok (.if_icmp .eq 24, 3) := by decide +kernel
theorem dX2_leastLetter_33 : decode cX2_leastLetter 33 = .ok (.iload 4, 2) := by decide +kernel
theorem dX2_leastLetter_35 : decode cX2_leastLetter 35 = .ok (.bipush (-9), 2) := by decide +kernel
theorem dX2_leastLetter_37 : decode cX2_leastLetter 37 = .ok (.if_icmp .eq 10, 3) := by decide +kernel
theorem dX2_leastLetter_40 : decode cX2_leastLetter 40 = .ok (.iload 6, 2) := by decide +kernel
theorem dX2_leastLetter_42 : decode cX2_leastLetter 42 = .ok (.iload 4, 2) := by decide +kernel
theorem dX2_leastLetter_44 : decode cX2_leastLetter 44 = .ok (.if_icmp .ge 10, 3) := by decide +kernel
theorem dX2_leastLetter_47 : decode cX2_leastLetter 47 = .ok (.iload 5, 2) := by decide +kernel
theorem dX2_leastLetter_49 : decode cX2_leastLetter 49 = .ok (.istore_n 3, 1) := by decide +kernel
theorem dX2_leastLetter_50 : decode cX2_leastLetter 50 = .ok (.iload 6, 2) := by decide +kernel
theorem dX2_leastLetter_52 : decode cX2_leastLetter 52 = .ok (.istore 4, 2) := by decide +kernel
theorem dX2_leastLetter_54 : decode cX2_leastLetter 54 = .ok (.iinc 5 1, 3) := by decide +kernel
theorem dX2_leastLetter_57 : decode cX2_leastLetter 57 = .ok (.goto (-47), 3) := by decide +kernel
theorem dX2_leastLetter_60 : decode cX2_leastLetter 60 = .ok (.iload_n 3, 1) := by decide +kernel
theorem dX2_leastLetter_61 : decode cX2_leastLetter 61 = .ok (.ireturn, 1) := by decide +kernel
set_option maxRecDepth 20000 in
theorem ggX2_firstsWithin_X2_of : GoodIn wsX2_firstsWithin wsX2_of := goodIn_r _ [5, 6, 7, 8, 9, 10] (by decide +kernel) (by decide +kernel)
set_option maxRecDepth 20000 in
theorem gX2_firstsWithin_X2_of : GoodIn wsX2_firstsWithin (wsV RX2 29 RX2 yX2_of wsX2_of) := goodIn_app (goodIn_of _ (by decide +kernel)) ggX2_firstsWithin_X2_of
theorem dX2_firstsWithin_0 : decode cX2_firstsWithin 0 = .ok (.iconst 0, 1) := by decide +kernel
theorem dX2_firstsWithin_1 : decode cX2_firstsWithin 1 = .ok (.istore_n 2, 1) := by decide +kernel
theorem dX2_firstsWithin_2 : decode cX2_firstsWithin 2 = .ok (.iload_n 1, 1) := by decide +kernel
theorem dX2_firstsWithin_3 : decode cX2_firstsWithin 3 = .ok (.istore_n 3, 1) := by decide +kernel
theorem dX2_firstsWithin_4 : decode cX2_firstsWithin 4 = .ok (.iload_n 3, 1) := by decide +kernel
theorem dX2_firstsWithin_5 : decode cX2_firstsWithin 5 = .ok (.ifCond .le 44, 3) := by decide +kernel
theorem dX2_firstsWithin_8 : decode cX2_firstsWithin 8 = .ok (.iload_n 3, 1) := by decide +kernel
theorem dX2_firstsWithin_9 : decode cX2_firstsWithin 9 = .ok (.bipush 10, 2) := by decide +kernel
theorem dX2_firstsWithin_11 : decode cX2_firstsWithin 11 = .ok (.irem, 1) := by decide +kernel
theorem dX2_firstsWithin_12 : decode cX2_firstsWithin 12 = .ok (.iconst 1, 1) := by decide +kernel
theorem dX2_firstsWithin_13 : decode cX2_firstsWithin 13 = .ok (.isub, 1) := by decide +kernel
theorem dX2_firstsWithin_14 : decode cX2_firstsWithin 14 = .ok (.istore 4, 2) := by decide +kernel
theorem dX2_firstsWithin_16 : decode cX2_firstsWithin 16 = .ok (.aload_n 0, 1) := by decide +kernel
theorem dX2_firstsWithin_17 : decode cX2_firstsWithin 17 = .ok (.iload 4, 2) := by decide +kernel
theorem dX2_firstsWithin_19 : decode cX2_firstsWithin 19 = .ok (.invokevirtual 29, 3) := by decide +kernel
theorem dX2_firstsWithin_22 : decode cX2_firstsWithin 22 = .ok (.bipush (-9), 2) := by decide +kernel
theorem dX2_firstsWithin_24 : decode cX2_firstsWithin 24 = .ok (.if_icmp .ne 10, 3) := by decide +kernel
theorem dX2_firstsWithin_27 : decode cX2_firstsWithin 27 = .ok (.iconst 1, 1) := by decide +kernel
theorem dX2_firstsWithin_28 : decode cX2_firstsWithin 28 = .ok (.iload 4, 2) := by decide +kernel
theorem dX2_firstsWithin_30 : decode cX2_firstsWithin 30 = .ok (.ishl, 1) := by decide +kernel
theorem dX2_firstsWithin_31 : decode cX2_firstsWithin 31 = .ok (.goto 9, 3) := by decide +kernel
theorem dX2_firstsWithin_34 : decode cX2_firstsWithin 34 = .ok (.iload_n 2, 1) := by decide +kernel
theorem dX2_firstsWithin_35 : decode cX2_firstsWithin 35 = .ok (.iconst 1, 1) := by decide +kernel
theorem dX2_firstsWithin_36 : decode cX2_firstsWithin 36 = .ok (.iload 4, 2) := by decide +kernel
theorem dX2_firstsWithin_38 : decode cX2_firstsWithin 38 = .ok (.ishl, 1) := by decide +kernel
theorem dX2_firstsWithin_39 : decode cX2_firstsWithin 39 = .ok (.ior, 1) := by decide +kernel
theorem dX2_firstsWithin_40 : decode cX2_firstsWithin 40 = .ok (.istore_n 2, 1) := by decide +kernel
theorem dX2_firstsWithin_41 : decode cX2_firstsWithin 41 = .ok (.iload_n 3, 1) := by decide +kernel
theorem dX2_firstsWithin_42 : decode cX2_firstsWithin 42 = .ok (.bipush 10, 2) := by decide +kernel
theorem dX2_firstsWithin_44 : decode cX2_firstsWithin 44 = .ok (.idiv, 1) := by decide +kernel
theorem dX2_firstsWithin_45 : decode cX2_firstsWithin 45 = .ok (.istore_n 3, 1) := by decide +kernel
theorem dX2_firstsWithin_46 : decode cX2_firstsWithin 46 = .ok (.goto (-42), 3) := by decide +kernel
theorem dX2_firstsWithin_49 : decode cX2_firstsWithin 49 = .ok (.iload_n 2, 1) := by decide +kernel
theorem dX2_firstsWithin_50 : decode cX2_firstsWithin 50 = .ok (.ireturn, 1) := by decide +kernel
set_option maxRecDepth 20000 in
theorem ggX2_byLetter_X6_ruleOf : GoodIn wsX2_byLetter wsX6_ruleOf := goodIn_r _ [5, 6, 7, 8, 9, 10, 11, 22, 23] (by decide +kernel) (by decide +kernel)
set_option maxRecDepth 20000 in
theorem gX2_byLetter_X6_ruleOf : GoodIn wsX2_byLetter (wsV RX2 33 RX6 yX6_ruleOf wsX6_ruleOf) := goodIn_app (goodIn_of _ (by decide +kernel)) ggX2_byLetter_X6_ruleOf
set_option maxRecDepth 20000 in
theorem ggX2_byLetter_X2_ofRow : GoodIn wsX2_byLetter wsX2_ofRow := goodIn_r _ [16, 17, 18, 19, 15, 20, 21, 7, 8, 9, 24] (by decide +kernel) (by decide +kernel)
set_option maxRecDepth 20000 in
theorem gX2_byLetter_X2_ofRow : GoodIn wsX2_byLetter (wsV RX2 39 RX2 yX2_ofRow wsX2_ofRow) := goodIn_app (goodIn_of _ (by decide +kernel)) ggX2_byLetter_X2_ofRow
theorem dX2_byLetter_0 : decode cX2_byLetter 0 = .ok (.aload_n 1, 1) := by decide +kernel
theorem dX2_byLetter_1 : decode cX2_byLetter 1 = .ok (.iload_n 2, 1) := by decide +kernel
theorem dX2_byLetter_2 : decode cX2_byLetter 2 = .ok (.iload_n 3, 1) := by decide +kernel
theorem dX2_byLetter_3 : decode cX2_byLetter 3 = .ok (.invokevirtual 33, 3) := by decide +kernel
theorem dX2_byLetter_6 : decode cX2_byLetter 6 = .ok (.istore 4, 2) := by decide +kernel
theorem dX2_byLetter_8 : decode cX2_byLetter 8 = .ok (.iload 4, 2) := by decide +kernel
theorem dX2_byLetter_10 : decode cX2_byLetter 10 = .ok (.bipush (-9), 2) := by decide +kernel
theorem dX2_byLetter_12 : decode cX2_byLetter 12 = .ok (.if_icmp .ne 8, 3) := by decide +kernel
theorem dX2_byLetter_15 : decode cX2_byLetter 15 = .ok (.bipush (-9), 2) := by decide +kernel
theorem dX2_byLetter_17 : decode cX2_byLetter 17 = .ok (.goto 9, 3) := by decide +kernel
theorem dX2_byLetter_20 : decode cX2_byLetter 20 = .ok (.aload_n 0, 1) := by decide +kernel
theorem dX2_byLetter_21 : decode cX2_byLetter 21 = .ok (.iload 4, 2) := by decide +kernel
theorem dX2_byLetter_23 : decode cX2_byLetter 23 = .ok (.invokevirtual 39, 3) := by decide +kernel
theorem dX2_byLetter_26 : decode cX2_byLetter 26 = .ok (.istore 5, 2) := by decide +kernel
theorem dX2_byLetter_28 : decode cX2_byLetter 28 = .ok (.iload 5, 2) := by decide +kernel
theorem dX2_byLetter_30 : decode cX2_byLetter 30 = .ok (.bipush (-9), 2) := by decide +kernel
theorem dX2_byLetter_32 : decode cX2_byLetter 32 = .ok (.if_icmp .ne 8, 3) := by decide +kernel
theorem dX2_byLetter_35 : decode cX2_byLetter 35 = .ok (.bipush (-9), 2) := by decide +kernel
theorem dX2_byLetter_37 : decode cX2_byLetter 37 = .ok (.goto 7, 3) := by decide +kernel
theorem dX2_byLetter_40 : decode cX2_byLetter 40 = .ok (.iload 5, 2) := by decide +kernel
theorem dX2_byLetter_42 : decode cX2_byLetter 42 = .ok (.iconst 1, 1) := by decide +kernel
theorem dX2_byLetter_43 : decode cX2_byLetter 43 = .ok (.iadd, 1) := by decide +kernel
theorem dX2_byLetter_44 : decode cX2_byLetter 44 = .ok (.ireturn, 1) := by decide +kernel
set_option maxRecDepth 20000 in
theorem ggX2_of_X7_isSign : GoodIn wsX2_of wsX7_isSign := goodIn_r _ [4] (by decide +kernel) (by decide +kernel)
set_option maxRecDepth 20000 in
theorem gX2_of_X7_isSign_n42 : GoodIn wsX2_of (wsX7_isSign) := ggX2_of_X7_isSign
theorem dX2_of_0 : decode cX2_of 0 = .ok (.iload_n 1, 1) := by decide +kernel
theorem dX2_of_1 : decode cX2_of 1 = .ok (.invokestatic 42, 3) := by decide +kernel
theorem dX2_of_4 : decode cX2_of 4 = .ok (.ifCond .eq 12, 3) := by decide +kernel
theorem dX2_of_7 : decode cX2_of 7 = .ok (.aload_n 0, 1) := by decide +kernel
theorem dX2_of_8 : decode cX2_of 8 = .ok (.getfield 9, 3) := by decide +kernel
theorem dX2_of_11 : decode cX2_of 11 = .ok (.iload_n 1, 1) := by decide +kernel
theorem dX2_of_12 : decode cX2_of 12 = .ok (.iaload, 1) := by decide +kernel
theorem dX2_of_13 : decode cX2_of 13 = .ok (.goto 5, 3) := by decide +kernel
theorem dX2_of_16 : decode cX2_of 16 = .ok (.bipush (-9), 2) := by decide +kernel
theorem dX2_of_18 : decode cX2_of 18 = .ok (.ireturn, 1) := by decide +kernel
set_option maxRecDepth 20000 in
theorem ggX3_init_X6_init : GoodIn wsX3_init wsX6_init := goodIn_r _ [10, 11, 2, 3, 12, 13, 14, 15, 16, 17, 18, 22, 23] (by decide +kernel) (by decide +kernel)
set_option maxRecDepth 20000 in
theorem gX3_init_X6_init : GoodIn wsX3_init (wsX6_init) := ggX3_init_X6_init
theorem dX3_init_0 : decode cX3_init 0 = .ok (.aload_n 0, 1) := by decide +kernel
theorem dX3_init_1 : decode cX3_init 1 = .ok (.invokespecial 3, 3) := by decide +kernel
theorem dX3_init_4 : decode cX3_init 4 = .ok (.aload_n 0, 1) := by decide +kernel
theorem dX3_init_5 : decode cX3_init 5 = .ok (.bipush 20, 2) := by decide +kernel
theorem dX3_init_7 : decode cX3_init 7 = .ok (.anewarray 9, 3) := by decide +kernel
theorem dX3_init_10 : decode cX3_init 10 = .ok (.putfield 11, 3) := by decide +kernel
theorem dX3_init_13 : decode cX3_init 13 = .ok (.iconst 0, 1) := by decide +kernel
theorem dX3_init_14 : decode cX3_init 14 = .ok (.istore_n 1, 1) := by decide +kernel
theorem dX3_init_15 : decode cX3_init 15 = .ok (.iload_n 1, 1) := by decide +kernel
theorem dX3_init_16 : decode cX3_init 16 = .ok (.bipush 20, 2) := by decide +kernel
theorem dX3_init_18 : decode cX3_init 18 = .ok (.if_icmp .ge 22, 3) := by decide +kernel
theorem dX3_init_21 : decode cX3_init 21 = .ok (.aload_n 0, 1) := by decide +kernel
theorem dX3_init_22 : decode cX3_init 22 = .ok (.getfield 11, 3) := by decide +kernel
theorem dX3_init_25 : decode cX3_init 25 = .ok (.iload_n 1, 1) := by decide +kernel
theorem dX3_init_26 : decode cX3_init 26 = .ok (.new 9, 3) := by decide +kernel
theorem dX3_init_29 : decode cX3_init 29 = .ok (.dup, 1) := by decide +kernel
theorem dX3_init_30 : decode cX3_init 30 = .ok (.invokespecial 17, 3) := by decide +kernel
theorem dX3_init_33 : decode cX3_init 33 = .ok (.aastore, 1) := by decide +kernel
theorem dX3_init_34 : decode cX3_init 34 = .ok (.iinc 1 1, 3) := by decide +kernel
theorem dX3_init_37 : decode cX3_init 37 = .ok (.goto (-22), 3) := by decide +kernel
theorem dX3_init_40 : decode cX3_init 40 = .ok (.return_, 1) := by decide +kernel
theorem dX3_kept_0 : decode cX3_kept 0 = .ok (.aload_n 0, 1) := by decide +kernel
theorem dX3_kept_1 : decode cX3_kept 1 = .ok (.getfield 18, 3) := by decide +kernel
theorem dX3_kept_4 : decode cX3_kept 4 = .ok (.ireturn, 1) := by decide +kernel
set_option maxRecDepth 20000 in
theorem ggX3_keep_X3_place : GoodIn wsX3_keep wsX3_place := goodIn_r _ [12, 2, 13, 14, 15, 16, 28, 29, 30] (by decide +kernel) (by decide +kernel)
set_option maxRecDepth 20000 in
theorem gX3_keep_X3_place : GoodIn wsX3_keep (wsV RX3 22 RX3 yX3_place wsX3_place) := goodIn_app (goodIn_of _ (by decide +kernel)) ggX3_keep_X3_place
set_option maxRecDepth 20000 in
theorem ggX3_keep_X6_copyFrom : GoodIn wsX3_keep wsX6_copyFrom := goodIn_r _ [21, 22, 23, 24, 25, 26, 27, 31, 32] (by decide +kernel) (by decide +kernel)
set_option maxRecDepth 20000 in
theorem gX3_keep_X6_copyFrom : GoodIn wsX3_keep (wsV RX3 26 RX6 yX6_copyFrom wsX6_copyFrom) := goodIn_app (goodIn_of _ (by decide +kernel)) ggX3_keep_X6_copyFrom
theorem dX3_keep_0 : decode cX3_keep 0 = .ok (.aload_n 0, 1) := by decide +kernel
theorem dX3_keep_1 : decode cX3_keep 1 = .ok (.getfield 11, 3) := by decide +kernel
theorem dX3_keep_4 : decode cX3_keep 4 = .ok (.aload_n 0, 1) := by decide +kernel
theorem dX3_keep_5 : decode cX3_keep 5 = .ok (.iconst 0, 1) := by decide +kernel
theorem dX3_keep_6 : decode cX3_keep 6 = .ok (.invokevirtual 22, 3) := by decide +kernel
theorem dX3_keep_9 : decode cX3_keep 9 = .ok (.aaload, 1) := by decide +kernel
theorem dX3_keep_10 : decode cX3_keep 10 = .ok (.aload_n 1, 1) := by decide +kernel
theorem dX3_keep_11 : decode cX3_keep 11 = .ok (.invokevirtual 26, 3) := by decide +kernel
theorem dX3_keep_14 : decode cX3_keep 14 = .ok (.aload_n 0, 1) := by decide +kernel
theorem dX3_keep_15 : decode cX3_keep 15 = .ok (.aload_n 0, 1) := by decide +kernel
theorem dX3_keep_16 : decode cX3_keep 16 = .ok (.iconst 1, 1) := by decide +kernel
theorem dX3_keep_17 : decode cX3_keep 17 = .ok (.invokevirtual 22, 3) := by decide +kernel
theorem dX3_keep_20 : decode cX3_keep 20 = .ok (.putfield 30, 3) := by decide +kernel
theorem dX3_keep_23 : decode cX3_keep 23 = .ok (.aload_n 0, 1) := by decide +kernel
theorem dX3_keep_24 : decode cX3_keep 24 = .ok (.aload_n 0, 1) := by decide +kernel
theorem dX3_keep_25 : decode cX3_keep 25 = .ok (.getfield 18, 3) := by decide +kernel
theorem dX3_keep_28 : decode cX3_keep 28 = .ok (.iconst 1, 1) := by decide +kernel
theorem dX3_keep_29 : decode cX3_keep 29 = .ok (.iadd, 1) := by decide +kernel
theorem dX3_keep_30 : decode cX3_keep 30 = .ok (.bipush 20, 2) := by decide +kernel
theorem dX3_keep_32 : decode cX3_keep 32 = .ok (.invokestatic 33, 3) := by decide +kernel
theorem dX3_keep_35 : decode cX3_keep 35 = .ok (.putfield 18, 3) := by decide +kernel
theorem dX3_keep_38 : decode cX3_keep 38 = .ok (.return_, 1) := by decide +kernel
set_option maxRecDepth 20000 in
theorem ggX3_bringBack_X3_place : GoodIn wsX3_bringBack wsX3_place := goodIn_r _ [8, 2, 9, 10, 11, 12, 24, 25, 26] (by decide +kernel) (by decide +kernel)
set_option maxRecDepth 20000 in
theorem gX3_bringBack_X3_place : GoodIn wsX3_bringBack (wsV RX3 22 RX3 yX3_place wsX3_place) := goodIn_app (goodIn_of _ (by decide +kernel)) ggX3_bringBack_X3_place
set_option maxRecDepth 20000 in
theorem ggX3_bringBack_X6_copyFrom : GoodIn wsX3_bringBack wsX6_copyFrom := goodIn_r _ [17, 18, 19, 20, 21, 22, 23, 27, 28] (by decide +kernel) (by decide +kernel)
set_option maxRecDepth 20000 in
theorem gX3_bringBack_X6_copyFrom : GoodIn wsX3_bringBack (wsV RX3 26 RX6 yX6_copyFrom wsX6_copyFrom) := goodIn_app (goodIn_of _ (by decide +kernel)) ggX3_bringBack_X6_copyFrom
theorem dX3_bringBack_0 : decode cX3_bringBack 0 = .ok (.iload_n 2, 1) := by decide +kernel
theorem dX3_bringBack_1 : decode cX3_bringBack 1 = .ok (.ifCond .le 45, 3) := by decide +kernel
theorem dX3_bringBack_4 : decode cX3_bringBack 4 = .ok (.iload_n 2, 1) := by decide +kernel
theorem dX3_bringBack_5 : decode cX3_bringBack 5 = .ok (.aload_n 0, 1) := by decide +kernel
theorem dX3_bringBack_6 : decode cX3_bringBack 6 = .ok (.getfield 18, 3) := by decide +kernel
theorem dX3_bringBack_9 : decode cX3_bringBack 9 = .ok (.if_icmp .gt 37, 3) := by decide +kernel
theorem dX3_bringBack_12 : decode cX3_bringBack 12 = .ok (.aload_n 0, 1) := by decide +kernel
theorem dX3_bringBack_13 : decode cX3_bringBack 13 = .ok (.aload_n 0, 1) := by decide +kernel
theorem dX3_bringBack_14 : decode cX3_bringBack 14 = .ok (.iload_n 2, 1) := by decide +kernel
theorem dX3_bringBack_15 : decode cX3_bringBack 15 = .ok (.ineg, 1) := by decide +kernel
theorem dX3_bringBack_16 : decode cX3_bringBack 16 = .ok (.invokevirtual 22, 3) := by decide +kernel
theorem dX3_bringBack_19 : decode cX3_bringBack 19 = .ok (.putfield 30, 3) := by decide +kernel
theorem dX3_bringBack_22 : decode cX3_bringBack 22 = .ok (.aload_n 0, 1) := by decide +kernel
theorem dX3_bringBack_23 : decode cX3_bringBack 23 = .ok (.dup, 1) := by decide +kernel
theorem dX3_bringBack_24 : decode cX3_bringBack 24 = .ok (.getfield 18, 3) := by decide +kernel
theorem dX3_bringBack_27 : decode cX3_bringBack 27 = .ok (.iload_n 2, 1) := by decide +kernel
theorem dX3_bringBack_28 : decode cX3_bringBack 28 = .ok (.isub, 1) := by decide +kernel
theorem dX3_bringBack_29 : decode cX3_bringBack 29 = .ok (.putfield 18, 3) := by decide +kernel
theorem dX3_bringBack_32 : decode cX3_bringBack 32 = .ok (.aload_n 1, 1) := by decide +kernel
theorem dX3_bringBack_33 : decode cX3_bringBack 33 = .ok (.aload_n 0, 1) := by decide +kernel
theorem dX3_bringBack_34 : decode cX3_bringBack 34 = .ok (.getfield 11, 3) := by decide +kernel
theorem dX3_bringBack_37 : decode cX3_bringBack 37 = .ok (.aload_n 0, 1) := by decide +kernel
theorem dX3_bringBack_38 : decode cX3_bringBack 38 = .ok (.iconst 0, 1) := by decide +kernel
theorem dX3_bringBack_39 : decode cX3_bringBack 39 = .ok (.invokevirtual 22, 3) := by decide +kernel
theorem dX3_bringBack_42 : decode cX3_bringBack 42 = .ok (.aaload, 1) := by decide +kernel
theorem dX3_bringBack_43 : decode cX3_bringBack 43 = .ok (.invokevirtual 26, 3) := by decide +kernel
theorem dX3_bringBack_46 : decode cX3_bringBack 46 = .ok (.return_, 1) := by decide +kernel
set_option maxRecDepth 20000 in
theorem ggX3_place_J9_floorMod_7cf53 : GoodIn wsX3_place wsJ9_floorMod_7cf53 := goodIn_r _ [5] (by decide +kernel) (by decide +kernel)
set_option maxRecDepth 20000 in
theorem gX3_place_J9_floorMod_7cf53 : GoodIn wsX3_place (va_wsS RX3 39 yJ9_floorMod_7cf53 wsJ9_floorMod_7cf53) := goodIn_app (goodIn_of _ (by decide +kernel)) ggX3_place_J9_floorMod_7cf53
theorem dX3_place_0 : decode cX3_place 0 = .ok (.aload_n 0, 1) := by decide +kernel
theorem dX3_place_1 : decode cX3_place 1 = .ok (.getfield 30, 3) := by decide +kernel
theorem dX3_place_4 : decode cX3_place 4 = .ok (.iload_n 1, 1) := by decide +kernel
theorem dX3_place_5 : decode cX3_place 5 = .ok (.iadd, 1) := by decide +kernel
theorem dX3_place_6 : decode cX3_place 6 = .ok (.bipush 20, 2) := by decide +kernel
theorem dX3_place_8 : decode cX3_place 8 = .ok (.invokestatic 39, 3) := by decide +kernel
theorem dX3_place_11 : decode cX3_place 11 = .ok (.ireturn, 1) := by decide +kernel
set_option maxRecDepth 20000 in
theorem ggX4_init_X5_init : GoodIn wsX4_init wsX5_init := goodIn_r _ [11, 12, 2, 3, 13, 14, 15, 16, 17, 18, 19, 20] (by decide +kernel) (by decide +kernel)
set_option maxRecDepth 20000 in
theorem gX4_init_X5_init : GoodIn wsX4_init (wsX5_init) := ggX4_init_X5_init
theorem dX4_init_0 : decode cX4_init 0 = .ok (.aload_n 0, 1) := by decide +kernel
theorem dX4_init_1 : decode cX4_init 1 = .ok (.invokespecial 3, 3) := by decide +kernel
theorem dX4_init_4 : decode cX4_init 4 = .ok (.aload_n 0, 1) := by decide +kernel
theorem dX4_init_5 : decode cX4_init 5 = .ok (.new 9, 3) := by decide +kernel
theorem dX4_init_8 : decode cX4_init 8 = .ok (.dup, 1) := by decide +kernel
theorem dX4_init_9 : decode cX4_init 9 = .ok (.bipush 33, 2) := by decide +kernel
theorem dX4_init_11 : decode cX4_init 11 = .ok (.invokespecial 11, 3) := by decide +kernel
theorem dX4_init_14 : decode cX4_init 14 = .ok (.putfield 14, 3) := by decide +kernel
theorem dX4_init_17 : decode cX4_init 17 = .ok (.aload_n 0, 1) := by decide +kernel
theorem dX4_init_18 : decode cX4_init 18 = .ok (.new 9, 3) := by decide +kernel
theorem dX4_init_21 : decode cX4_init 21 = .ok (.dup, 1) := by decide +kernel
theorem dX4_init_22 : decode cX4_init 22 = .ok (.bipush 12, 2) := by decide +kernel
theorem dX4_init_24 : decode cX4_init 24 = .ok (.invokespecial 11, 3) := by decide +kernel
theorem dX4_init_27 : decode cX4_init 27 = .ok (.putfield 20, 3) := by decide +kernel
theorem dX4_init_30 : decode cX4_init 30 = .ok (.return_, 1) := by decide +kernel
set_option maxRecDepth 20000 in
theorem ggX4_start_X5_clear : GoodIn wsX4_start wsX5_clear := goodIn_r _ [6, 7, 20, 21] (by decide +kernel) (by decide +kernel)
set_option maxRecDepth 20000 in
theorem gX4_start_X5_clear : GoodIn wsX4_start (wsV RX4 23 RX5 yX5_clear wsX5_clear) := goodIn_app (goodIn_of _ (by decide +kernel)) ggX4_start_X5_clear
set_option maxRecDepth 20000 in
theorem ggX4_start_X5_putRowAhead : GoodIn wsX4_start wsX5_putRowAhead := goodIn_r _ [11, 12, 13, 14, 15, 5, 16, 7, 17, 20, 21] (by decide +kernel) (by decide +kernel)
set_option maxRecDepth 20000 in
theorem gX4_start_X5_putRowAhead : GoodIn wsX4_start (wsV RX4 26 RX5 yX5_putRowAhead wsX5_putRowAhead) := goodIn_app (goodIn_of _ (by decide +kernel)) ggX4_start_X5_putRowAhead
theorem dX4_start_0 : decode cX4_start 0 = .ok (.aload_n 0, 1) := by decide +kernel
theorem dX4_start_1 : decode cX4_start 1 = .ok (.getfield 14, 3) := by decide +kernel
theorem dX4_start_4 : decode cX4_start 4 = .ok (.invokevirtual 23, 3) := by decide +kernel
theorem dX4_start_7 : decode cX4_start 7 = .ok (.aload_n 0, 1) := by decide +kernel
theorem dX4_start_8 : decode cX4_start 8 = .ok (.getfield 14, 3) := by decide +kernel
theorem dX4_start_11 : decode cX4_start 11 = .ok (.iload_n 1, 1) := by decide +kernel
theorem dX4_start_12 : decode cX4_start 12 = .ok (.i2l, 1) := by decide +kernel
theorem dX4_start_13 : decode cX4_start 13 = .ok (.invokevirtual 26, 3) := by decide +kernel
theorem dX4_start_16 : decode cX4_start 16 = .ok (.return_, 1) := by decide +kernel
set_option maxRecDepth 20000 in
theorem ggX4_step_X5_fromFirst : GoodIn wsX4_step wsX5_fromFirst := goodIn_r _ [6, 7, 8, 9, 10, 5, 11, 12, 43, 44] (by decide +kernel) (by decide +kernel)
set_option maxRecDepth 20000 in
theorem gX4_step_X5_fromFirst : GoodIn wsX4_step (wsV RX4 30 RX5 yX5_fromFirst wsX5_fromFirst) := goodIn_app (goodIn_of _ (by decide +kernel)) ggX4_step_X5_fromFirst
set_option maxRecDepth 20000 in
theorem ggX4_step_X6_ruleOf : GoodIn wsX4_step wsX6_ruleOf := goodIn_r _ [17, 18, 19, 20, 21, 22, 23, 45, 46] (by decide +kernel) (by decide +kernel)
set_option maxRecDepth 20000 in
theorem gX4_step_X6_ruleOf : GoodIn wsX4_step (wsV RX4 34 RX6 yX6_ruleOf wsX6_ruleOf) := goodIn_app (goodIn_of _ (by decide +kernel)) ggX4_step_X6_ruleOf
set_option maxRecDepth 20000 in
theorem ggX4_step_X5_dropFirst : GoodIn wsX4_step wsX5_dropFirst := goodIn_r _ [27, 7, 28, 29, 30, 31, 43, 44] (by decide +kernel) (by decide +kernel)
set_option maxRecDepth 20000 in
theorem gX4_step_X5_dropFirst : GoodIn wsX4_step (wsV RX4 40 RX5 yX5_dropFirst wsX5_dropFirst) := goodIn_app (goodIn_of _ (by decide +kernel)) ggX4_step_X5_dropFirst
set_option maxRecDepth 20000 in
theorem ggX4_step_X5_putRowAhead : GoodIn wsX4_step wsX5_putRowAhead := goodIn_r _ [35, 36, 37, 38, 39, 5, 40, 7, 12, 43, 44] (by decide +kernel) (by decide +kernel)
set_option maxRecDepth 20000 in
theorem gX4_step_X5_putRowAhead : GoodIn wsX4_step (wsV RX4 26 RX5 yX5_putRowAhead wsX5_putRowAhead) := goodIn_app (goodIn_of _ (by decide +kernel)) ggX4_step_X5_putRowAhead
theorem dX4_step_0 : decode cX4_step 0 = .ok (.aload_n 1, 1) := by decide +kernel
theorem dX4_step_1 : decode cX4_step 1 = .ok (.aload_n 0, 1) := by decide +kernel
theorem dX4_step_2 : decode cX4_step 2 = .ok (.getfield 14, 3) := by decide +kernel
theorem dX4_step_5 : decode cX4_step 5 = .ok (.iconst 0, 1) := by decide +kernel
theorem dX4_step_6 : decode cX4_step 6 = .ok (.invokevirtual 30, 3) := by decide +kernel
theorem dX4_step_9 : decode cX4_step 9 = .ok (.iload_n 2, 1) := by decide +kernel
theorem dX4_step_10 : decode cX4_step 10 = .ok (.invokevirtual 34, 3) := by decide +kernel
theorem dX4_step_13 : decode cX4_step 13 = .ok (.istore_n 3, 1) := by decide +kernel
theorem dX4_step_14 : decode cX4_step 14 = .ok (.iload_n 3, 1) := by decide +kernel
theorem dX4_step_15 : decode cX4_step 15 = .ok (.bipush (-9), 2) := by decide +kernel
theorem dX4_step_17 : decode cX4_step 17 = .ok (.if_icmp .ne 5, 3) := by decide +kernel
theorem dX4_step_20 : decode cX4_step 20 = .ok (.iconst 0, 1) := by decide +kernel
theorem dX4_step_21 : decode cX4_step 21 = .ok (.ireturn, 1) := by decide +kernel
theorem dX4_step_22 : decode cX4_step 22 = .ok (.aload_n 0, 1) := by decide +kernel
theorem dX4_step_23 : decode cX4_step 23 = .ok (.getfield 14, 3) := by decide +kernel
theorem dX4_step_26 : decode cX4_step 26 = .ok (.invokevirtual 40, 3) := by decide +kernel
theorem dX4_step_29 : decode cX4_step 29 = .ok (.aload_n 0, 1) := by decide +kernel
theorem dX4_step_30 : decode cX4_step 30 = .ok (.getfield 14, 3) := by decide +kernel
theorem dX4_step_33 : decode cX4_step 33 = .ok (.iload_n 3, 1) := by decide +kernel
theorem dX4_step_34 : decode cX4_step 34 = .ok (.i2l, 1) := by decide +kernel
theorem dX4_step_35 : decode cX4_step 35 = .ok (.invokevirtual 26, 3) := by decide +kernel
theorem dX4_step_38 : decode cX4_step 38 = .ok (.iconst 1, 1) := by decide +kernel
theorem dX4_step_39 : decode cX4_step 39 = .ok (.ireturn, 1) := by decide +kernel
set_option maxRecDepth 20000 in
theorem ggX4_countRead_X4_start : GoodIn wsX4_countRead wsX4_start := goodIn_r _ [6, 7, 8, 9, 10, 11, 12, 13, 14, 15, 16, 17, 18, 19, 20, 21, 22, 23, 59, 60, 61, 62] (by decide +kernel) (by decide +kernel)
set_option maxRecDepth 20000 in
theorem gX4_countRead_X4_start : GoodIn wsX4_countRead (wsV RX4 43 RX4 yX4_start wsX4_start) := goodIn_app (goodIn_of _ (by decide +kernel)) ggX4_countRead_X4_start
set_option maxRecDepth 20000 in
theorem ggX4_countRead_X5_clear : GoodIn wsX4_countRead wsX5_clear := goodIn_r _ [12, 13, 61, 62] (by decide +kernel) (by decide +kernel)
set_option maxRecDepth 20000 in
theorem gX4_countRead_X5_clear : GoodIn wsX4_countRead (wsV RX4 23 RX5 yX5_clear wsX5_clear) := goodIn_app (goodIn_of _ (by decide +kernel)) ggX4_countRead_X5_clear
set_option maxRecDepth 20000 in
theorem ggX4_countRead_X5_putRowAhead : GoodIn wsX4_countRead wsX5_putRowAhead := goodIn_r _ [17, 18, 19, 20, 21, 11, 22, 13, 23, 61, 62] (by decide +kernel) (by decide +kernel)
set_option maxRecDepth 20000 in
theorem gX4_countRead_X5_putRowAhead : GoodIn wsX4_countRead (wsV RX4 26 RX5 yX5_putRowAhead wsX5_putRowAhead) := goodIn_app (goodIn_of _ (by decide +kernel)) ggX4_countRead_X5_putRowAhead
set_option maxRecDepth 20000 in
theorem ggX4_countRead_X5_size : GoodIn wsX4_countRead wsX5_size := goodIn_r _ [27, 13, 61, 62] (by decide +kernel) (by decide +kernel)
set_option maxRecDepth 20000 in
theorem gX4_countRead_X5_size : GoodIn wsX4_countRead (wsV RX4 46 RX5 yX5_size wsX5_size) := goodIn_app (goodIn_of _ (by decide +kernel)) ggX4_countRead_X5_size
set_option maxRecDepth 20000 in
theorem ggX4_countRead_X5_fromFirst : GoodIn wsX4_countRead wsX5_fromFirst := goodIn_r _ [31, 13, 32, 33, 34, 11, 35, 23, 61, 62] (by decide +kernel) (by decide +kernel)
set_option maxRecDepth 20000 in
theorem gX4_countRead_X5_fromFirst : GoodIn wsX4_countRead (wsV RX4 30 RX5 yX5_fromFirst wsX5_fromFirst) := goodIn_app (goodIn_of _ (by decide +kernel)) ggX4_countRead_X5_fromFirst
set_option maxRecDepth 20000 in
theorem ggX4_countRead_X4_step : GoodIn wsX4_countRead wsX4_step := goodIn_r _ [39, 7, 28, 29, 30, 11, 31, 13, 32, 33, 34, 35, 23, 40, 41, 42, 43, 44, 45, 46, 47, 48, 49, 50, 51, 52, 53, 54, 55, 56, 57, 58, 14, 15, 16, 17, 18, 19, 20, 21, 22, 59, 60, 61, 62, 63, 64] (by decide +kernel) (by decide +kernel)
set_option maxRecDepth 20000 in
theorem gX4_countRead_X4_step : GoodIn wsX4_countRead (wsV RX4 50 RX4 yX4_step wsX4_step) := goodIn_app (goodIn_of _ (by decide +kernel)) ggX4_countRead_X4_step
set_option maxRecDepth 20000 in
theorem ggX4_countRead_X5_dropFirst : GoodIn wsX4_countRead wsX5_dropFirst := goodIn_r _ [54, 13, 55, 56, 57, 58, 61, 62] (by decide +kernel) (by decide +kernel)
set_option maxRecDepth 20000 in
theorem gX4_countRead_X5_dropFirst : GoodIn wsX4_countRead (wsV RX4 40 RX5 yX5_dropFirst wsX5_dropFirst) := goodIn_app (goodIn_of _ (by decide +kernel)) ggX4_countRead_X5_dropFirst
theorem dX4_countRead_0 : decode cX4_countRead 0 = .ok (.aload_n 0, 1) := by decide +kernel
theorem dX4_countRead_1 : decode cX4_countRead 1 = .ok (.iload_n 2, 1) := by decide +kernel
theorem dX4_countRead_2 : decode cX4_countRead 2 = .ok (.invokevirtual 43, 3) := by decide +kernel
theorem dX4_countRead_5 : decode cX4_countRead 5 = .ok (.aload_n 0, 1) := by decide +kernel
theorem dX4_countRead_6 : decode cX4_countRead 6 = .ok (.getfield 20, 3) := by decide +kernel
theorem dX4_countRead_9 : decode cX4_countRead 9 = .ok (.invokevirtual 23, 3) := by decide +kernel
theorem dX4_countRead_12 : decode cX4_countRead 12 = .ok (.aload_n 0, 1) := by decide +kernel
theorem dX4_countRead_13 : decode cX4_countRead 13 = .ok (.getfield 20, 3) := by decide +kernel
theorem dX4_countRead_16 : decode cX4_countRead 16 = .ok (.lload_n 3, 1) := by decide +kernel
theorem dX4_countRead_17 : decode cX4_countRead 17 = .ok (.invokevirtual 26, 3) := by decide +kernel
theorem dX4_countRead_20 : decode cX4_countRead 20 = .ok (.iconst 0, 1) := by decide +kernel
theorem dX4_countRead_21 : decode cX4_countRead 21 = .ok (.istore 5, 2) := by decide +kernel
theorem dX4_countRead_23 : decode cX4_countRead 23 = .ok (.iload 5, 2) := by decide +kernel
theorem dX4_countRead_25 : decode cX4_countRead 25 = .ok (.bipush 12, 2) := by decide +kernel
theorem dX4_countRead_27 : decode cX4_countRead 27 = .ok (.if_icmp .ge 42, 3) := by decide +kernel
theorem dX4_countRead_30 : decode cX4_countRead 30 = .ok (.aload_n 0, 1) := by decide +kernel
theorem dX4_countRead_31 : decode cX4_countRead 31 = .ok (.getfield 20, 3) := by decide +kernel
theorem dX4_countRead_34 : decode cX4_countRead 34 = .ok (.invokevirtual 46, 3) := by decide +kernel
theorem dX4_countRead_37 : decode cX4_countRead 37 = .ok (.ifCond .le 32, 3) := by decide +kernel
theorem dX4_countRead_40 : decode cX4_countRead 40 = .ok (.aload_n 0, 1) := by decide +kernel
theorem dX4_countRead_41 : decode cX4_countRead 41 = .ok (.aload_n 1, 1) := by decide +kernel
theorem dX4_countRead_42 : decode cX4_countRead 42 = .ok (.aload_n 0, 1) := by decide +kernel
theorem dX4_countRead_43 : decode cX4_countRead 43 = .ok (.getfield 20, 3) := by decide +kernel
theorem dX4_countRead_46 : decode cX4_countRead 46 = .ok (.iconst 0, 1) := by decide +kernel
theorem dX4_countRead_47 : decode cX4_countRead 47 = .ok (.invokevirtual 30, 3) := by decide +kernel
theorem dX4_countRead_50 : decode cX4_countRead 50 = .ok (.invokevirtual 50, 3) := by decide +kernel
theorem dX4_countRead_53 : decode cX4_countRead 53 = .ok (.ifCond .eq 16, 3) := by decide +kernel
theorem dX4_countRead_56 : decode cX4_countRead 56 = .ok (.aload_n 0, 1) := by decide +kernel
theorem dX4_countRead_57 : decode cX4_countRead 57 = .ok (.getfield 20, 3) := by decide +kernel
theorem dX4_countRead_60 : decode cX4_countRead 60 = .ok (.invokevirtual 40, 3) := by decide +kernel
theorem dX4_countRead_63 : decode cX4_countRead 63 = .ok (.iinc 5 1, 3) := by decide +kernel
theorem dX4_countRead_66 : decode cX4_countRead 66 = .ok (.goto (-43), 3) := by decide +kernel
theorem dX4_countRead_69 : decode cX4_countRead 69 = .ok (.iload 5, 2) := by decide +kernel
theorem dX4_countRead_71 : decode cX4_countRead 71 = .ok (.ireturn, 1) := by decide +kernel
set_option maxRecDepth 20000 in
theorem ggX4_readsToEnd_X5_size : GoodIn wsX4_readsToEnd wsX5_size := goodIn_r _ [6, 7, 10, 11] (by decide +kernel) (by decide +kernel)
set_option maxRecDepth 20000 in
theorem gX4_readsToEnd_X5_size : GoodIn wsX4_readsToEnd (wsV RX4 46 RX5 yX5_size wsX5_size) := goodIn_app (goodIn_of _ (by decide +kernel)) ggX4_readsToEnd_X5_size
theorem dX4_readsToEnd_0 : decode cX4_readsToEnd 0 = .ok (.aload_n 0, 1) := by decide +kernel
theorem dX4_readsToEnd_1 : decode cX4_readsToEnd 1 = .ok (.getfield 20, 3) := by decide +kernel
theorem dX4_readsToEnd_4 : decode cX4_readsToEnd 4 = .ok (.invokevirtual 46, 3) := by decide +kernel
theorem dX4_readsToEnd_7 : decode cX4_readsToEnd 7 = .ok (.ifCond .ne 7, 3) := by decide +kernel
theorem dX4_readsToEnd_10 : decode cX4_readsToEnd 10 = .ok (.iconst 1, 1) := by decide +kernel
theorem dX4_readsToEnd_11 : decode cX4_readsToEnd 11 = .ok (.goto 4, 3) := by decide +kernel
theorem dX4_readsToEnd_14 : decode cX4_readsToEnd 14 = .ok (.iconst 0, 1) := by decide +kernel
theorem dX4_readsToEnd_15 : decode cX4_readsToEnd 15 = .ok (.ireturn, 1) := by decide +kernel
theorem dX5_init_0 : decode cX5_init 0 = .ok (.aload_n 0, 1) := by decide +kernel
theorem dX5_init_1 : decode cX5_init 1 = .ok (.invokespecial 3, 3) := by decide +kernel
theorem dX5_init_4 : decode cX5_init 4 = .ok (.aload_n 0, 1) := by decide +kernel
theorem dX5_init_5 : decode cX5_init 5 = .ok (.iload_n 1, 1) := by decide +kernel
theorem dX5_init_6 : decode cX5_init 6 = .ok (.iconst 0, 1) := by decide +kernel
theorem dX5_init_7 : decode cX5_init 7 = .ok (.invokestatic 9, 3) := by decide +kernel
theorem dX5_init_10 : decode cX5_init 10 = .ok (.newarray .int, 2) := by decide +kernel
theorem dX5_init_12 : decode cX5_init 12 = .ok (.putfield 15, 3) := by decide +kernel
theorem dX5_init_15 : decode cX5_init 15 = .ok (.return_, 1) := by decide +kernel
theorem dX5_clear_0 : decode cX5_clear 0 = .ok (.aload_n 0, 1) := by decide +kernel
theorem dX5_clear_1 : decode cX5_clear 1 = .ok (.iconst 0, 1) := by decide +kernel
theorem dX5_clear_2 : decode cX5_clear 2 = .ok (.putfield 21, 3) := by decide +kernel
theorem dX5_clear_5 : decode cX5_clear 5 = .ok (.return_, 1) := by decide +kernel
theorem dX5_size_0 : decode cX5_size 0 = .ok (.aload_n 0, 1) := by decide +kernel
theorem dX5_size_1 : decode cX5_size 1 = .ok (.getfield 21, 3) := by decide +kernel
theorem dX5_size_4 : decode cX5_size 4 = .ok (.ireturn, 1) := by decide +kernel
set_option maxRecDepth 20000 in
theorem ggX5_fromFirst_X5_fromLast : GoodIn wsX5_fromFirst wsX5_fromLast := goodIn_r _ [6, 1, 7, 8, 9] (by decide +kernel) (by decide +kernel)
set_option maxRecDepth 20000 in
theorem gX5_fromFirst_X5_fromLast : GoodIn wsX5_fromFirst (wsV RX5 25 RX5 yX5_fromLast wsX5_fromLast) := goodIn_app (goodIn_of _ (by decide +kernel)) ggX5_fromFirst_X5_fromLast
theorem dX5_fromFirst_0 : decode cX5_fromFirst 0 = .ok (.aload_n 0, 1) := by decide +kernel
theorem dX5_fromFirst_1 : decode cX5_fromFirst 1 = .ok (.aload_n 0, 1) := by decide +kernel
theorem dX5_fromFirst_2 : decode cX5_fromFirst 2 = .ok (.getfield 21, 3) := by decide +kernel
theorem dX5_fromFirst_5 : decode cX5_fromFirst 5 = .ok (.iconst 1, 1) := by decide +kernel
theorem dX5_fromFirst_6 : decode cX5_fromFirst 6 = .ok (.isub, 1) := by decide +kernel
theorem dX5_fromFirst_7 : decode cX5_fromFirst 7 = .ok (.iload_n 1, 1) := by decide +kernel
theorem dX5_fromFirst_8 : decode cX5_fromFirst 8 = .ok (.isub, 1) := by decide +kernel
theorem dX5_fromFirst_9 : decode cX5_fromFirst 9 = .ok (.invokevirtual 25, 3) := by decide +kernel
theorem dX5_fromFirst_12 : decode cX5_fromFirst 12 = .ok (.ireturn, 1) := by decide +kernel
theorem dX5_fromLast_0 : decode cX5_fromLast 0 = .ok (.iload_n 1, 1) := by decide +kernel
theorem dX5_fromLast_1 : decode cX5_fromLast 1 = .ok (.ifCond .lt 20, 3) := by decide +kernel
