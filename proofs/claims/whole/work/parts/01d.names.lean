theorem dX7_claim_53 : decode cX7_claim 53 = .ok (.getfield 12, 3) := by decide +kernel
theorem dX7_claim_56 : decode cX7_claim 56 = .ok (.iload_n 1, 1) := by decide +kernel
theorem dX7_claim_57 : decode cX7_claim 57 = .ok (.iload_n 2, 1) := by decide +kernel
theorem dX7_claim_58 : decode cX7_claim 58 = .ok (.invokevirtual 145, 3) := by decide +kernel
theorem dX7_claim_61 : decode cX7_claim 61 = .ok (.iload_n 3, 1) := by decide +kernel
theorem dX7_claim_62 : decode cX7_claim 62 = .ok (.ireturn, 1) := by decide +kernel
set_option maxRecDepth 20000 in
theorem ggX7_ofClaim_X7_isSign : GoodIn wsX7_ofClaim wsX7_isSign := goodIn_r _ [5] (by decide +kernel) (by decide +kernel)
set_option maxRecDepth 20000 in
theorem gX7_ofClaim_X7_isSign : GoodIn wsX7_ofClaim (va_wsS RX7 65 yX7_isSign wsX7_isSign) := goodIn_app (goodIn_of _ (by decide +kernel)) ggX7_ofClaim_X7_isSign
set_option maxRecDepth 20000 in
theorem ggX7_ofClaim_X6_claimOf : GoodIn wsX7_ofClaim wsX6_claimOf := goodIn_r _ [10, 11, 3, 4, 5, 20, 21] (by decide +kernel) (by decide +kernel)
set_option maxRecDepth 20000 in
theorem gX7_ofClaim_X6_claimOf : GoodIn wsX7_ofClaim (wsV RX7 142 RX6 yX6_claimOf wsX6_claimOf) := goodIn_app (goodIn_of _ (by decide +kernel)) ggX7_ofClaim_X6_claimOf
theorem dX7_ofClaim_0 : decode cX7_ofClaim 0 = .ok (.iload_n 1, 1) := by decide +kernel
theorem dX7_ofClaim_1 : decode cX7_ofClaim 1 = .ok (.invokestatic 65, 3) := by decide +kernel
theorem dX7_ofClaim_4 : decode cX7_ofClaim 4 = .ok (.ifCond .eq 14, 3) := by decide +kernel
theorem dX7_ofClaim_7 : decode cX7_ofClaim 7 = .ok (.aload_n 0, 1) := by decide +kernel
theorem dX7_ofClaim_8 : decode cX7_ofClaim 8 = .ok (.getfield 12, 3) := by decide +kernel
theorem dX7_ofClaim_11 : decode cX7_ofClaim 11 = .ok (.iload_n 1, 1) := by decide +kernel
theorem dX7_ofClaim_12 : decode cX7_ofClaim 12 = .ok (.invokevirtual 142, 3) := by decide +kernel
theorem dX7_ofClaim_15 : decode cX7_ofClaim 15 = .ok (.goto 4, 3) := by decide +kernel
theorem dX7_ofClaim_18 : decode cX7_ofClaim 18 = .ok (.iconst (-1), 1) := by decide +kernel
theorem dX7_ofClaim_19 : decode cX7_ofClaim 19 = .ok (.ireturn, 1) := by decide +kernel
set_option maxRecDepth 20000 in
theorem ggX7_reduced_X7_isRowOfSigns : GoodIn wsX7_reduced wsX7_isRowOfSigns := goodIn_r _ [7, 8, 9, 6, 10, 11] (by decide +kernel) (by decide +kernel)
set_option maxRecDepth 20000 in
theorem gX7_reduced_X7_isRowOfSigns : GoodIn wsX7_reduced (va_wsS RX7 88 yX7_isRowOfSigns wsX7_isRowOfSigns) := goodIn_app (goodIn_of _ (by decide +kernel)) ggX7_reduced_X7_isRowOfSigns
set_option maxRecDepth 20000 in
theorem ggX7_reduced_X1_find : GoodIn wsX7_reduced wsX1_find := goodIn_r _ [16, 17, 18, 19, 20, 21, 22, 23, 24, 6, 25, 26, 27, 28, 29, 30, 31, 32, 33, 34, 35, 36, 37, 38, 39, 15, 40, 41, 42, 43, 44, 45, 46, 47, 48, 71, 72, 73, 74, 75] (by decide +kernel) (by decide +kernel)
set_option maxRecDepth 20000 in
theorem gX7_reduced_X1_find : GoodIn wsX7_reduced (wsV RX7 149 RX1 yX1_find wsX1_find) := goodIn_app (goodIn_of _ (by decide +kernel)) ggX7_reduced_X1_find
set_option maxRecDepth 20000 in
theorem ggX7_reduced_X5_clear : GoodIn wsX7_reduced wsX5_clear := goodIn_r _ [30, 31, 74, 75] (by decide +kernel) (by decide +kernel)
set_option maxRecDepth 20000 in
theorem gX7_reduced_X5_clear : GoodIn wsX7_reduced (wsV RX7 150 RX5 yX5_clear wsX5_clear) := goodIn_app (goodIn_of _ (by decide +kernel)) ggX7_reduced_X5_clear
set_option maxRecDepth 20000 in
theorem ggX7_reduced_X1_putAhead : GoodIn wsX7_reduced wsX1_putAhead := goodIn_r _ [40, 17, 24, 6, 25, 41, 42, 43, 29, 44, 31, 36, 45, 46, 47, 48, 71, 74, 75] (by decide +kernel) (by decide +kernel)
set_option maxRecDepth 20000 in
theorem gX7_reduced_X1_putAhead : GoodIn wsX7_reduced (wsV RX7 153 RX1 yX1_putAhead wsX1_putAhead) := goodIn_app (goodIn_of _ (by decide +kernel)) ggX7_reduced_X1_putAhead
set_option maxRecDepth 20000 in
theorem ggX7_reduced_X5_size : GoodIn wsX7_reduced wsX5_size := goodIn_r _ [54, 31, 74, 75] (by decide +kernel) (by decide +kernel)
set_option maxRecDepth 20000 in
theorem gX7_reduced_X5_size : GoodIn wsX7_reduced (wsV RX7 98 RX5 yX5_size wsX5_size) := goodIn_app (goodIn_of _ (by decide +kernel)) ggX7_reduced_X5_size
set_option maxRecDepth 20000 in
theorem ggX7_reduced_X5_fromFirst : GoodIn wsX7_reduced wsX5_fromFirst := goodIn_r _ [58, 31, 59, 60, 61, 29, 62, 36, 74, 75] (by decide +kernel) (by decide +kernel)
set_option maxRecDepth 20000 in
theorem gX7_reduced_X5_fromFirst : GoodIn wsX7_reduced (wsV RX7 102 RX5 yX5_fromFirst wsX5_fromFirst) := goodIn_app (goodIn_of _ (by decide +kernel)) ggX7_reduced_X5_fromFirst
theorem dX7_reduced_0 : decode cX7_reduced 0 = .ok (.iload_n 1, 1) := by decide +kernel
theorem dX7_reduced_1 : decode cX7_reduced 1 = .ok (.invokestatic 88, 3) := by decide +kernel
theorem dX7_reduced_4 : decode cX7_reduced 4 = .ok (.ifCond .eq 8, 3) := by decide +kernel
theorem dX7_reduced_7 : decode cX7_reduced 7 = .ok (.iload_n 2, 1) := by decide +kernel
theorem dX7_reduced_8 : decode cX7_reduced 8 = .ok (.iconst (-1), 1) := by decide +kernel
theorem dX7_reduced_9 : decode cX7_reduced 9 = .ok (.if_icmp .ge 6, 3) := by decide +kernel
theorem dX7_reduced_12 : decode cX7_reduced 12 = .ok (.bipush (-2), 2) := by decide +kernel
theorem dX7_reduced_14 : decode cX7_reduced 14 = .ok (.ireturn, 1) := by decide +kernel
theorem dX7_reduced_15 : decode cX7_reduced 15 = .ok (.aload_n 0, 1) := by decide +kernel
theorem dX7_reduced_16 : decode cX7_reduced 16 = .ok (.getfield 49, 3) := by decide +kernel
theorem dX7_reduced_19 : decode cX7_reduced 19 = .ok (.aload_n 0, 1) := by decide +kernel
theorem dX7_reduced_20 : decode cX7_reduced 20 = .ok (.getfield 12, 3) := by decide +kernel
theorem dX7_reduced_23 : decode cX7_reduced 23 = .ok (.invokevirtual 149, 3) := by decide +kernel
theorem dX7_reduced_26 : decode cX7_reduced 26 = .ok (.aload_n 0, 1) := by decide +kernel
theorem dX7_reduced_27 : decode cX7_reduced 27 = .ok (.getfield 58, 3) := by decide +kernel
theorem dX7_reduced_30 : decode cX7_reduced 30 = .ok (.invokevirtual 150, 3) := by decide +kernel
theorem dX7_reduced_33 : decode cX7_reduced 33 = .ok (.aload_n 0, 1) := by decide +kernel
theorem dX7_reduced_34 : decode cX7_reduced 34 = .ok (.getfield 49, 3) := by decide +kernel
theorem dX7_reduced_37 : decode cX7_reduced 37 = .ok (.aload_n 0, 1) := by decide +kernel
theorem dX7_reduced_38 : decode cX7_reduced 38 = .ok (.getfield 58, 3) := by decide +kernel
theorem dX7_reduced_41 : decode cX7_reduced 41 = .ok (.iload_n 1, 1) := by decide +kernel
theorem dX7_reduced_42 : decode cX7_reduced 42 = .ok (.invokevirtual 153, 3) := by decide +kernel
theorem dX7_reduced_45 : decode cX7_reduced 45 = .ok (.iload_n 2, 1) := by decide +kernel
theorem dX7_reduced_46 : decode cX7_reduced 46 = .ok (.iconst (-1), 1) := by decide +kernel
theorem dX7_reduced_47 : decode cX7_reduced 47 = .ok (.if_icmp .ne 13, 3) := by decide +kernel
theorem dX7_reduced_50 : decode cX7_reduced 50 = .ok (.aload_n 0, 1) := by decide +kernel
theorem dX7_reduced_51 : decode cX7_reduced 51 = .ok (.getfield 58, 3) := by decide +kernel
theorem dX7_reduced_54 : decode cX7_reduced 54 = .ok (.invokevirtual 98, 3) := by decide +kernel
theorem dX7_reduced_57 : decode cX7_reduced 57 = .ok (.goto 11, 3) := by decide +kernel
theorem dX7_reduced_60 : decode cX7_reduced 60 = .ok (.aload_n 0, 1) := by decide +kernel
theorem dX7_reduced_61 : decode cX7_reduced 61 = .ok (.getfield 58, 3) := by decide +kernel
theorem dX7_reduced_64 : decode cX7_reduced 64 = .ok (.iload_n 2, 1) := by decide +kernel
theorem dX7_reduced_65 : decode cX7_reduced 65 = .ok (.invokevirtual 102, 3) := by decide +kernel
theorem dX7_reduced_68 : decode cX7_reduced 68 = .ok (.ireturn, 1) := by decide +kernel
set_option maxRecDepth 20000 in
theorem ggX7_alike_X7_isRowOfSigns : GoodIn wsX7_alike wsX7_isRowOfSigns := goodIn_r _ [6, 7, 8, 5, 9, 10] (by decide +kernel) (by decide +kernel)
set_option maxRecDepth 20000 in
theorem gX7_alike_X7_isRowOfSigns : GoodIn wsX7_alike (va_wsS RX7 88 yX7_isRowOfSigns wsX7_isRowOfSigns) := goodIn_app (goodIn_of _ (by decide +kernel)) ggX7_alike_X7_isRowOfSigns
set_option maxRecDepth 20000 in
theorem ggX7_alike_X7_reduceBoth : GoodIn wsX7_alike wsX7_reduceBoth := goodIn_r _ [14, 15, 16, 1, 2, 17, 18, 19, 20, 21, 22, 23, 24, 25, 26, 27, 28, 29, 5, 30, 31, 32, 33, 34, 35, 36, 37, 38, 39, 40, 41, 42, 43, 44, 45, 46, 47, 48, 49, 50, 51, 52, 53, 54, 55, 72, 73, 74, 75, 76, 77, 78, 79, 80, 81, 82, 83, 84] (by decide +kernel) (by decide +kernel)
set_option maxRecDepth 20000 in
theorem gX7_alike_X7_reduceBoth : GoodIn wsX7_alike (wsV RX7 157 RX7 yX7_reduceBoth wsX7_reduceBoth) := goodIn_app (goodIn_of _ (by decide +kernel)) ggX7_alike_X7_reduceBoth
set_option maxRecDepth 20000 in
theorem ggX7_alike_X5_isSame : GoodIn wsX7_alike wsX5_isSame := goodIn_r _ [59, 36, 60, 61, 62, 34, 63, 64, 65, 66, 67, 68, 69, 70, 71, 41, 83, 84] (by decide +kernel) (by decide +kernel)
set_option maxRecDepth 20000 in
theorem gX7_alike_X5_isSame : GoodIn wsX7_alike (wsV RX7 160 RX5 yX5_isSame wsX5_isSame) := goodIn_app (goodIn_of _ (by decide +kernel)) ggX7_alike_X5_isSame
theorem dX7_alike_0 : decode cX7_alike 0 = .ok (.iload_n 1, 1) := by decide +kernel
theorem dX7_alike_1 : decode cX7_alike 1 = .ok (.invokestatic 88, 3) := by decide +kernel
theorem dX7_alike_4 : decode cX7_alike 4 = .ok (.ifCond .eq 10, 3) := by decide +kernel
theorem dX7_alike_7 : decode cX7_alike 7 = .ok (.iload_n 2, 1) := by decide +kernel
theorem dX7_alike_8 : decode cX7_alike 8 = .ok (.invokestatic 88, 3) := by decide +kernel
theorem dX7_alike_11 : decode cX7_alike 11 = .ok (.ifCond .ne 6, 3) := by decide +kernel
theorem dX7_alike_14 : decode cX7_alike 14 = .ok (.bipush (-2), 2) := by decide +kernel
theorem dX7_alike_16 : decode cX7_alike 16 = .ok (.ireturn, 1) := by decide +kernel
theorem dX7_alike_17 : decode cX7_alike 17 = .ok (.aload_n 0, 1) := by decide +kernel
theorem dX7_alike_18 : decode cX7_alike 18 = .ok (.iload_n 1, 1) := by decide +kernel
theorem dX7_alike_19 : decode cX7_alike 19 = .ok (.iload_n 2, 1) := by decide +kernel
theorem dX7_alike_20 : decode cX7_alike 20 = .ok (.invokevirtual 157, 3) := by decide +kernel
theorem dX7_alike_23 : decode cX7_alike 23 = .ok (.aload_n 0, 1) := by decide +kernel
theorem dX7_alike_24 : decode cX7_alike 24 = .ok (.getfield 58, 3) := by decide +kernel
theorem dX7_alike_27 : decode cX7_alike 27 = .ok (.aload_n 0, 1) := by decide +kernel
theorem dX7_alike_28 : decode cX7_alike 28 = .ok (.getfield 62, 3) := by decide +kernel
theorem dX7_alike_31 : decode cX7_alike 31 = .ok (.invokevirtual 160, 3) := by decide +kernel
theorem dX7_alike_34 : decode cX7_alike 34 = .ok (.ifCond .eq 7, 3) := by decide +kernel
theorem dX7_alike_37 : decode cX7_alike 37 = .ok (.iconst 1, 1) := by decide +kernel
theorem dX7_alike_38 : decode cX7_alike 38 = .ok (.goto 4, 3) := by decide +kernel
theorem dX7_alike_41 : decode cX7_alike 41 = .ok (.iconst 0, 1) := by decide +kernel
theorem dX7_alike_42 : decode cX7_alike 42 = .ok (.ireturn, 1) := by decide +kernel
set_option maxRecDepth 20000 in
theorem ggX7_common_X7_isRowOfSigns : GoodIn wsX7_common wsX7_isRowOfSigns := goodIn_r _ [6, 7, 8, 5, 9, 10] (by decide +kernel) (by decide +kernel)
set_option maxRecDepth 20000 in
theorem gX7_common_X7_isRowOfSigns : GoodIn wsX7_common (va_wsS RX7 88 yX7_isRowOfSigns wsX7_isRowOfSigns) := goodIn_app (goodIn_of _ (by decide +kernel)) ggX7_common_X7_isRowOfSigns
set_option maxRecDepth 20000 in
theorem ggX7_common_X7_reduceBoth : GoodIn wsX7_common wsX7_reduceBoth := goodIn_r _ [14, 15, 16, 1, 2, 17, 18, 19, 20, 21, 22, 23, 24, 25, 26, 27, 28, 29, 5, 30, 31, 32, 33, 34, 35, 36, 37, 38, 39, 40, 41, 42, 43, 44, 45, 46, 47, 48, 49, 50, 51, 52, 53, 54, 55, 76, 77, 78, 79, 80, 81, 82, 83, 84, 85, 86, 87, 88] (by decide +kernel) (by decide +kernel)
set_option maxRecDepth 20000 in
theorem gX7_common_X7_reduceBoth : GoodIn wsX7_common (wsV RX7 157 RX7 yX7_reduceBoth wsX7_reduceBoth) := goodIn_app (goodIn_of _ (by decide +kernel)) ggX7_common_X7_reduceBoth
set_option maxRecDepth 20000 in
theorem ggX7_common_X5_sameFromFirst : GoodIn wsX7_common wsX5_sameFromFirst := goodIn_r _ [59, 36, 60, 61, 62, 63, 64, 65, 66, 34, 67, 68, 69, 70, 71, 41, 87, 88] (by decide +kernel) (by decide +kernel)
set_option maxRecDepth 20000 in
theorem gX7_common_X5_sameFromFirst : GoodIn wsX7_common (wsV RX7 164 RX5 yX5_sameFromFirst wsX5_sameFromFirst) := goodIn_app (goodIn_of _ (by decide +kernel)) ggX7_common_X5_sameFromFirst
set_option maxRecDepth 20000 in
theorem ggX7_common_X5_sameFromLast : GoodIn wsX7_common wsX5_sameFromLast := goodIn_r _ [75, 36, 60, 61, 62, 63, 68, 69, 70, 34, 71, 41, 87, 88] (by decide +kernel) (by decide +kernel)
set_option maxRecDepth 20000 in
theorem gX7_common_X5_sameFromLast : GoodIn wsX7_common (wsV RX7 168 RX5 yX5_sameFromLast wsX5_sameFromLast) := goodIn_app (goodIn_of _ (by decide +kernel)) ggX7_common_X5_sameFromLast
theorem dX7_common_0 : decode cX7_common 0 = .ok (.iload_n 1, 1) := by decide +kernel
theorem dX7_common_1 : decode cX7_common 1 = .ok (.invokestatic 88, 3) := by decide +kernel
theorem dX7_common_4 : decode cX7_common 4 = .ok (.ifCond .eq 19, 3) := by decide +kernel
theorem dX7_common_7 : decode cX7_common 7 = .ok (.iload_n 2, 1) := by decide +kernel
theorem dX7_common_8 : decode cX7_common 8 = .ok (.invokestatic 88, 3) := by decide +kernel
theorem dX7_common_11 : decode cX7_common 11 = .ok (.ifCond .eq 12, 3) := by decide +kernel
theorem dX7_common_14 : decode cX7_common 14 = .ok (.iload_n 3, 1) := by decide +kernel
theorem dX7_common_15 : decode cX7_common 15 = .ok (.ifCond .lt 8, 3) := by decide +kernel
theorem dX7_common_18 : decode cX7_common 18 = .ok (.iload_n 3, 1) := by decide +kernel
theorem dX7_common_19 : decode cX7_common 19 = .ok (.iconst 1, 1) := by decide +kernel
theorem dX7_common_20 : decode cX7_common 20 = .ok (.if_icmp .le 6, 3) := by decide +kernel
theorem dX7_common_23 : decode cX7_common 23 = .ok (.bipush (-2), 2) := by decide +kernel
theorem dX7_common_25 : decode cX7_common 25 = .ok (.ireturn, 1) := by decide +kernel
theorem dX7_common_26 : decode cX7_common 26 = .ok (.aload_n 0, 1) := by decide +kernel
theorem dX7_common_27 : decode cX7_common 27 = .ok (.iload_n 1, 1) := by decide +kernel
theorem dX7_common_28 : decode cX7_common 28 = .ok (.iload_n 2, 1) := by decide +kernel
theorem dX7_common_29 : decode cX7_common 29 = .ok (.invokevirtual 157, 3) := by decide +kernel
theorem dX7_common_32 : decode cX7_common 32 = .ok (.iload_n 3, 1) := by decide +kernel
theorem dX7_common_33 : decode cX7_common 33 = .ok (.ifCond .ne 17, 3) := by decide +kernel
theorem dX7_common_36 : decode cX7_common 36 = .ok (.aload_n 0, 1) := by decide +kernel
theorem dX7_common_37 : decode cX7_common 37 = .ok (.getfield 58, 3) := by decide +kernel
theorem dX7_common_40 : decode cX7_common 40 = .ok (.aload_n 0, 1) := by decide +kernel
theorem dX7_common_41 : decode cX7_common 41 = .ok (.getfield 62, 3) := by decide +kernel
theorem dX7_common_44 : decode cX7_common 44 = .ok (.invokevirtual 164, 3) := by decide +kernel
theorem dX7_common_47 : decode cX7_common 47 = .ok (.goto 14, 3) := by decide +kernel
theorem dX7_common_50 : decode cX7_common 50 = .ok (.aload_n 0, 1) := by decide +kernel
theorem dX7_common_51 : decode cX7_common 51 = .ok (.getfield 58, 3) := by decide +kernel
theorem dX7_common_54 : decode cX7_common 54 = .ok (.aload_n 0, 1) := by decide +kernel
theorem dX7_common_55 : decode cX7_common 55 = .ok (.getfield 62, 3) := by decide +kernel
theorem dX7_common_58 : decode cX7_common 58 = .ok (.invokevirtual 168, 3) := by decide +kernel
theorem dX7_common_61 : decode cX7_common 61 = .ok (.ireturn, 1) := by decide +kernel
set_option maxRecDepth 20000 in
theorem ggX7_broken_X1_find : GoodIn wsX7_broken wsX1_find := goodIn_r _ [7, 8, 9, 10, 11, 12, 13, 14, 15, 16, 17, 18, 19, 20, 21, 22, 23, 24, 25, 26, 27, 28, 29, 30, 31, 6, 32, 33, 34, 35, 36, 37, 38, 39, 40, 88, 89, 90, 91, 92] (by decide +kernel) (by decide +kernel)
set_option maxRecDepth 20000 in
theorem gX7_broken_X1_find : GoodIn wsX7_broken (wsV RX7 149 RX1 yX1_find wsX1_find) := goodIn_app (goodIn_of _ (by decide +kernel)) ggX7_broken_X1_find
set_option maxRecDepth 20000 in
theorem ggX7_broken_X7_breakingLetter : GoodIn wsX7_broken wsX7_breakingLetter := goodIn_r _ [44, 2, 45, 10, 11, 12, 13, 14, 15, 16, 17, 46, 47, 48, 49, 50, 1, 51, 52, 53, 54, 55, 56, 57, 58, 59, 60, 61, 62, 19, 20, 21, 22, 23, 63, 30, 31, 6, 32, 8, 33, 34, 35, 36, 28, 37, 38, 39, 40, 64, 65, 66, 67, 68, 69, 70, 71, 72, 73, 74, 75, 76, 77, 78, 79, 80, 81, 82, 83, 84, 85, 86, 87, 89, 90, 91, 92, 88] (by decide +kernel) (by decide +kernel)
set_option maxRecDepth 20000 in
theorem gX7_broken_X7_breakingLetter : GoodIn wsX7_broken (wsV RX7 171 RX7 yX7_breakingLetter wsX7_breakingLetter) := goodIn_app (goodIn_of _ (by decide +kernel)) ggX7_broken_X7_breakingLetter
theorem dX7_broken_0 : decode cX7_broken 0 = .ok (.iload_n 1, 1) := by decide +kernel
theorem dX7_broken_1 : decode cX7_broken 1 = .ok (.ifCond .lt 8, 3) := by decide +kernel
theorem dX7_broken_4 : decode cX7_broken 4 = .ok (.iload_n 1, 1) := by decide +kernel
theorem dX7_broken_5 : decode cX7_broken 5 = .ok (.iconst 1, 1) := by decide +kernel
theorem dX7_broken_6 : decode cX7_broken 6 = .ok (.if_icmp .le 6, 3) := by decide +kernel
theorem dX7_broken_9 : decode cX7_broken 9 = .ok (.bipush (-2), 2) := by decide +kernel
theorem dX7_broken_11 : decode cX7_broken 11 = .ok (.ireturn, 1) := by decide +kernel
theorem dX7_broken_12 : decode cX7_broken 12 = .ok (.aload_n 0, 1) := by decide +kernel
theorem dX7_broken_13 : decode cX7_broken 13 = .ok (.getfield 49, 3) := by decide +kernel
theorem dX7_broken_16 : decode cX7_broken 16 = .ok (.aload_n 0, 1) := by decide +kernel
theorem dX7_broken_17 : decode cX7_broken 17 = .ok (.getfield 12, 3) := by decide +kernel
theorem dX7_broken_20 : decode cX7_broken 20 = .ok (.invokevirtual 149, 3) := by decide +kernel
theorem dX7_broken_23 : decode cX7_broken 23 = .ok (.iconst 0, 1) := by decide +kernel
theorem dX7_broken_24 : decode cX7_broken 24 = .ok (.istore_n 2, 1) := by decide +kernel
theorem dX7_broken_25 : decode cX7_broken 25 = .ok (.iload_n 2, 1) := by decide +kernel
theorem dX7_broken_26 : decode cX7_broken 26 = .ok (.bipush 6, 2) := by decide +kernel
theorem dX7_broken_28 : decode cX7_broken 28 = .ok (.if_icmp .ge 31, 3) := by decide +kernel
theorem dX7_broken_31 : decode cX7_broken 31 = .ok (.aload_n 0, 1) := by decide +kernel
theorem dX7_broken_32 : decode cX7_broken 32 = .ok (.iload_n 2, 1) := by decide +kernel
theorem dX7_broken_33 : decode cX7_broken 33 = .ok (.invokevirtual 171, 3) := by decide +kernel
theorem dX7_broken_36 : decode cX7_broken 36 = .ok (.istore_n 3, 1) := by decide +kernel
theorem dX7_broken_37 : decode cX7_broken 37 = .ok (.iload_n 3, 1) := by decide +kernel
theorem dX7_broken_38 : decode cX7_broken 38 = .ok (.bipush (-9), 2) := by decide +kernel
theorem dX7_broken_40 : decode cX7_broken 40 = .ok (.if_icmp .eq 13, 3) := by decide +kernel
theorem dX7_broken_43 : decode cX7_broken 43 = .ok (.iload_n 1, 1) := by decide +kernel
theorem dX7_broken_44 : decode cX7_broken 44 = .ok (.ifCond .ne 7, 3) := by decide +kernel
theorem dX7_broken_47 : decode cX7_broken 47 = .ok (.iload_n 2, 1) := by decide +kernel
theorem dX7_broken_48 : decode cX7_broken 48 = .ok (.goto 4, 3) := by decide +kernel
theorem dX7_broken_51 : decode cX7_broken 51 = .ok (.iload_n 3, 1) := by decide +kernel
theorem dX7_broken_52 : decode cX7_broken 52 = .ok (.ireturn, 1) := by decide +kernel
theorem dX7_broken_53 : decode cX7_broken 53 = .ok (.iinc 2 1, 3) := by decide +kernel
theorem dX7_broken_56 : decode cX7_broken 56 = .ok (.goto (-31), 3) := by decide +kernel
theorem dX7_broken_59 : decode cX7_broken 59 = .ok (.bipush (-9), 2) := by decide +kernel
theorem dX7_broken_61 : decode cX7_broken 61 = .ok (.ireturn, 1) := by decide +kernel
set_option maxRecDepth 20000 in
theorem ggX7_settle_X3_keep : GoodIn wsX7_settle wsX3_keep := goodIn_r _ [7, 8, 9, 10, 11, 12, 13, 14, 15, 16, 17, 6, 18, 19, 20, 21, 22, 23, 24, 25, 26, 27, 28, 29, 30, 31, 32, 33, 130, 131, 132, 133, 134] (by decide +kernel) (by decide +kernel)
set_option maxRecDepth 20000 in
theorem gX7_settle_X3_keep : GoodIn wsX7_settle (wsV RX7 76 RX3 yX3_keep wsX3_keep) := goodIn_app (goodIn_of _ (by decide +kernel)) ggX7_settle_X3_keep
set_option maxRecDepth 20000 in
theorem ggX7_settle_X7_brokenClaims : GoodIn wsX7_settle wsX7_brokenClaims := goodIn_r _ [38, 39, 2, 40, 41, 42, 43, 44, 45, 46, 47, 48, 26, 49, 33, 50, 37, 51, 52, 53, 54, 55, 56, 57, 58, 59, 60, 61, 62, 63, 64, 65, 66, 67, 68, 69, 70, 71, 30, 31, 32, 72, 73, 74, 75, 76, 77, 78, 79, 80, 81, 82, 83, 84, 85, 86, 87, 88, 89, 28, 90, 91, 92, 93, 94, 95, 96, 97, 98, 99, 100, 101, 102, 12, 13, 14, 103, 104, 105, 106, 122, 123, 124, 125, 126, 127, 128, 129, 135, 133, 134, 136, 137] (by decide +kernel) (by decide +kernel)
set_option maxRecDepth 20000 in
theorem gX7_settle_X7_brokenClaims : GoodIn wsX7_settle (wsV RX7 174 RX7 yX7_brokenClaims wsX7_brokenClaims) := goodIn_app (goodIn_of _ (by decide +kernel)) ggX7_settle_X7_brokenClaims
set_option maxRecDepth 20000 in
theorem ggX7_settle_X7_removeClaims : GoodIn wsX7_settle wsX7_removeClaims := goodIn_r _ [110, 2, 111, 112, 113, 26, 114, 33, 50, 37, 51, 122, 123, 124, 125, 126, 127, 128, 129, 133, 134] (by decide +kernel) (by decide +kernel)
set_option maxRecDepth 20000 in
theorem gX7_settle_X7_removeClaims : GoodIn wsX7_settle (wsV RX7 177 RX7 yX7_removeClaims wsX7_removeClaims) := goodIn_app (goodIn_of _ (by decide +kernel)) ggX7_settle_X7_removeClaims
set_option maxRecDepth 20000 in
theorem ggX7_settle_J6_bitCount_0f7a4 : GoodIn wsX7_settle wsJ6_bitCount_0f7a4 := goodIn_r _ [118, 119, 120, 121] (by decide +kernel) (by decide +kernel)
set_option maxRecDepth 20000 in
theorem gX7_settle_J6_bitCount_0f7a4 : GoodIn wsX7_settle (va_wsS RX7 180 yJ6_bitCount_0f7a4 wsJ6_bitCount_0f7a4) := goodIn_app (goodIn_of _ (by decide +kernel)) ggX7_settle_J6_bitCount_0f7a4
theorem dX7_settle_0 : decode cX7_settle 0 = .ok (.aload_n 0, 1) := by decide +kernel
theorem dX7_settle_1 : decode cX7_settle 1 = .ok (.getfield 21, 3) := by decide +kernel
theorem dX7_settle_4 : decode cX7_settle 4 = .ok (.aload_n 0, 1) := by decide +kernel
theorem dX7_settle_5 : decode cX7_settle 5 = .ok (.getfield 12, 3) := by decide +kernel
theorem dX7_settle_8 : decode cX7_settle 8 = .ok (.invokevirtual 76, 3) := by decide +kernel
theorem dX7_settle_11 : decode cX7_settle 11 = .ok (.iconst 0, 1) := by decide +kernel
theorem dX7_settle_12 : decode cX7_settle 12 = .ok (.istore_n 1, 1) := by decide +kernel
theorem dX7_settle_13 : decode cX7_settle 13 = .ok (.aload_n 0, 1) := by decide +kernel
theorem dX7_settle_14 : decode cX7_settle 14 = .ok (.invokevirtual 174, 3) := by decide +kernel
theorem dX7_settle_17 : decode cX7_settle 17 = .ok (.istore_n 2, 1) := by decide +kernel
theorem dX7_settle_18 : decode cX7_settle 18 = .ok (.iconst 0, 1) := by decide +kernel
theorem dX7_settle_19 : decode cX7_settle 19 = .ok (.istore_n 3, 1) := by decide +kernel
theorem dX7_settle_20 : decode cX7_settle 20 = .ok (.iload_n 3, 1) := by decide +kernel
theorem dX7_settle_21 : decode cX7_settle 21 = .ok (.bipush 6, 2) := by decide +kernel
theorem dX7_settle_23 : decode cX7_settle 23 = .ok (.if_icmp .ge 30, 3) := by decide +kernel
theorem dX7_settle_26 : decode cX7_settle 26 = .ok (.iload_n 2, 1) := by decide +kernel
theorem dX7_settle_27 : decode cX7_settle 27 = .ok (.ifCond .eq 26, 3) := by decide +kernel
theorem dX7_settle_30 : decode cX7_settle 30 = .ok (.aload_n 0, 1) := by decide +kernel
theorem dX7_settle_31 : decode cX7_settle 31 = .ok (.iload_n 2, 1) := by decide +kernel
theorem dX7_settle_32 : decode cX7_settle 32 = .ok (.invokevirtual 177, 3) := by decide +kernel
theorem dX7_settle_35 : decode cX7_settle 35 = .ok (.iload_n 1, 1) := by decide +kernel
theorem dX7_settle_36 : decode cX7_settle 36 = .ok (.iload_n 2, 1) := by decide +kernel
theorem dX7_settle_37 : decode cX7_settle 37 = .ok (.invokestatic 180, 3) := by decide +kernel
theorem dX7_settle_40 : decode cX7_settle 40 = .ok (.iadd, 1) := by decide +kernel
theorem dX7_settle_41 : decode cX7_settle 41 = .ok (.istore_n 1, 1) := by decide +kernel
theorem dX7_settle_42 : decode cX7_settle 42 = .ok (.aload_n 0, 1) := by decide +kernel
theorem dX7_settle_43 : decode cX7_settle 43 = .ok (.invokevirtual 174, 3) := by decide +kernel
theorem dX7_settle_46 : decode cX7_settle 46 = .ok (.istore_n 2, 1) := by decide +kernel
theorem dX7_settle_47 : decode cX7_settle 47 = .ok (.iinc 3 1, 3) := by decide +kernel
theorem dX7_settle_50 : decode cX7_settle 50 = .ok (.goto (-30), 3) := by decide +kernel
theorem dX7_settle_53 : decode cX7_settle 53 = .ok (.iload_n 1, 1) := by decide +kernel
theorem dX7_settle_54 : decode cX7_settle 54 = .ok (.ireturn, 1) := by decide +kernel
set_option maxRecDepth 20000 in
theorem ggX7_might_X7_isSign : GoodIn wsX7_might wsX7_isSign := goodIn_r _ [5] (by decide +kernel) (by decide +kernel)
set_option maxRecDepth 20000 in
theorem gX7_might_X7_isSign : GoodIn wsX7_might (va_wsS RX7 65 yX7_isSign wsX7_isSign) := goodIn_app (goodIn_of _ (by decide +kernel)) ggX7_might_X7_isSign
set_option maxRecDepth 20000 in
theorem ggX7_might_X6_claimOf : GoodIn wsX7_might wsX6_claimOf := goodIn_r _ [10, 11, 3, 4, 5, 100, 101] (by decide +kernel) (by decide +kernel)
set_option maxRecDepth 20000 in
theorem gX7_might_X6_claimOf : GoodIn wsX7_might (wsV RX7 142 RX6 yX6_claimOf wsX6_claimOf) := goodIn_app (goodIn_of _ (by decide +kernel)) ggX7_might_X6_claimOf
set_option maxRecDepth 20000 in
theorem ggX7_might_X7_mightFrom : GoodIn wsX7_might wsX7_mightFrom := goodIn_r _ [15, 1, 16, 17, 18, 4, 19, 20, 21, 22, 9, 23, 11, 3, 5, 24, 25, 26, 27, 28, 29, 30, 7, 8, 10, 31, 32, 33, 34, 35, 36, 37, 38, 39, 40, 41, 42, 43, 44, 45, 46, 47, 48, 49, 50, 51, 52, 53, 54, 55, 56, 57, 6, 58, 59, 60, 61, 62, 63, 64, 65, 66, 67, 68, 69, 70, 71, 72, 73, 74, 75, 76, 77, 78, 79, 80, 81, 82, 83, 84, 85, 86, 87, 88, 89, 90, 91, 92, 93, 94, 95, 96, 97, 98, 99, 100, 101, 102, 103, 104] (by decide +kernel) (by decide +kernel)
set_option maxRecDepth 20000 in
theorem gX7_might_X7_mightFrom : GoodIn wsX7_might (wsV RX7 185 RX7 yX7_mightFrom wsX7_mightFrom) := goodIn_app (goodIn_of _ (by decide +kernel)) ggX7_might_X7_mightFrom
set_option maxRecDepth 20000 in
theorem ggX7_might_X6_setClaim : GoodIn wsX7_might wsX6_setClaim := goodIn_r _ [23, 11, 3, 4, 5, 100, 101] (by decide +kernel) (by decide +kernel)
set_option maxRecDepth 20000 in
theorem gX7_might_X6_setClaim : GoodIn wsX7_might (wsV RX7 145 RX6 yX6_setClaim wsX6_setClaim) := goodIn_app (goodIn_of _ (by decide +kernel)) ggX7_might_X6_setClaim
theorem dX7_might_0 : decode cX7_might 0 = .ok (.iload_n 1, 1) := by decide +kernel
theorem dX7_might_1 : decode cX7_might 1 = .ok (.invokestatic 65, 3) := by decide +kernel
theorem dX7_might_4 : decode cX7_might 4 = .ok (.ifCond .ne 5, 3) := by decide +kernel
theorem dX7_might_7 : decode cX7_might 7 = .ok (.iconst (-1), 1) := by decide +kernel
theorem dX7_might_8 : decode cX7_might 8 = .ok (.ireturn, 1) := by decide +kernel
theorem dX7_might_9 : decode cX7_might 9 = .ok (.iload_n 2, 1) := by decide +kernel
theorem dX7_might_10 : decode cX7_might 10 = .ok (.iconst (-1), 1) := by decide +kernel
theorem dX7_might_11 : decode cX7_might 11 = .ok (.if_icmp .ge 6, 3) := by decide +kernel
theorem dX7_might_14 : decode cX7_might 14 = .ok (.bipush (-2), 2) := by decide +kernel
theorem dX7_might_16 : decode cX7_might 16 = .ok (.ireturn, 1) := by decide +kernel
theorem dX7_might_17 : decode cX7_might 17 = .ok (.aload_n 0, 1) := by decide +kernel
theorem dX7_might_18 : decode cX7_might 18 = .ok (.getfield 12, 3) := by decide +kernel
theorem dX7_might_21 : decode cX7_might 21 = .ok (.iload_n 1, 1) := by decide +kernel
theorem dX7_might_22 : decode cX7_might 22 = .ok (.invokevirtual 142, 3) := by decide +kernel
theorem dX7_might_25 : decode cX7_might 25 = .ok (.istore_n 3, 1) := by decide +kernel
theorem dX7_might_26 : decode cX7_might 26 = .ok (.aload_n 0, 1) := by decide +kernel
theorem dX7_might_27 : decode cX7_might 27 = .ok (.iload_n 1, 1) := by decide +kernel
theorem dX7_might_28 : decode cX7_might 28 = .ok (.iload_n 2, 1) := by decide +kernel
theorem dX7_might_29 : decode cX7_might 29 = .ok (.invokevirtual 185, 3) := by decide +kernel
theorem dX7_might_32 : decode cX7_might 32 = .ok (.istore 4, 2) := by decide +kernel
theorem dX7_might_34 : decode cX7_might 34 = .ok (.aload_n 0, 1) := by decide +kernel
theorem dX7_might_35 : decode cX7_might 35 = .ok (.getfield 12, 3) := by decide +kernel
theorem dX7_might_38 : decode cX7_might 38 = .ok (.iload_n 1, 1) := by decide +kernel
theorem dX7_might_39 : decode cX7_might 39 = .ok (.iload_n 3, 1) := by decide +kernel
theorem dX7_might_40 : decode cX7_might 40 = .ok (.invokevirtual 145, 3) := by decide +kernel
theorem dX7_might_43 : decode cX7_might 43 = .ok (.iload 4, 2) := by decide +kernel
theorem dX7_might_45 : decode cX7_might 45 = .ok (.ireturn, 1) := by decide +kernel
set_option maxRecDepth 20000 in
theorem ggX7_undo_X3_kept : GoodIn wsX7_undo wsX3_kept := goodIn_r _ [7, 8, 42, 43, 44] (by decide +kernel) (by decide +kernel)
set_option maxRecDepth 20000 in
theorem gX7_undo_X3_kept : GoodIn wsX7_undo (wsV RX7 188 RX3 yX3_kept wsX3_kept) := goodIn_app (goodIn_of _ (by decide +kernel)) ggX7_undo_X3_kept
set_option maxRecDepth 20000 in
theorem ggX7_undo_X3_bringBack : GoodIn wsX7_undo wsX3_bringBack := goodIn_r _ [12, 8, 13, 14, 15, 16, 17, 6, 18, 19, 20, 21, 22, 23, 24, 25, 26, 27, 28, 29, 30, 31, 32, 33, 42, 43, 44, 45, 46] (by decide +kernel) (by decide +kernel)
set_option maxRecDepth 20000 in
theorem gX7_undo_X3_bringBack : GoodIn wsX7_undo (wsV RX7 191 RX3 yX3_bringBack wsX3_bringBack) := goodIn_app (goodIn_of _ (by decide +kernel)) ggX7_undo_X3_bringBack
theorem dX7_undo_0 : decode cX7_undo 0 = .ok (.iload_n 1, 1) := by decide +kernel
theorem dX7_undo_1 : decode cX7_undo 1 = .ok (.ifCond .lt 14, 3) := by decide +kernel
theorem dX7_undo_4 : decode cX7_undo 4 = .ok (.iload_n 1, 1) := by decide +kernel
theorem dX7_undo_5 : decode cX7_undo 5 = .ok (.aload_n 0, 1) := by decide +kernel
theorem dX7_undo_6 : decode cX7_undo 6 = .ok (.getfield 21, 3) := by decide +kernel
theorem dX7_undo_9 : decode cX7_undo 9 = .ok (.invokevirtual 188, 3) := by decide +kernel
theorem dX7_undo_12 : decode cX7_undo 12 = .ok (.if_icmp .le 6, 3) := by decide +kernel
theorem dX7_undo_15 : decode cX7_undo 15 = .ok (.bipush (-2), 2) := by decide +kernel
theorem dX7_undo_17 : decode cX7_undo 17 = .ok (.ireturn, 1) := by decide +kernel
theorem dX7_undo_18 : decode cX7_undo 18 = .ok (.aload_n 0, 1) := by decide +kernel
theorem dX7_undo_19 : decode cX7_undo 19 = .ok (.getfield 21, 3) := by decide +kernel
theorem dX7_undo_22 : decode cX7_undo 22 = .ok (.aload_n 0, 1) := by decide +kernel
theorem dX7_undo_23 : decode cX7_undo 23 = .ok (.getfield 12, 3) := by decide +kernel
theorem dX7_undo_26 : decode cX7_undo 26 = .ok (.iload_n 1, 1) := by decide +kernel
theorem dX7_undo_27 : decode cX7_undo 27 = .ok (.invokevirtual 191, 3) := by decide +kernel
theorem dX7_undo_30 : decode cX7_undo 30 = .ok (.aload_n 0, 1) := by decide +kernel
theorem dX7_undo_31 : decode cX7_undo 31 = .ok (.getfield 21, 3) := by decide +kernel
theorem dX7_undo_34 : decode cX7_undo 34 = .ok (.invokevirtual 188, 3) := by decide +kernel
theorem dX7_undo_37 : decode cX7_undo 37 = .ok (.ireturn, 1) := by decide +kernel
set_option maxRecDepth 20000 in
theorem ggX7_many_X6_countRules : GoodIn wsX7_many wsX6_countRules := goodIn_r _ [8, 9, 10, 11, 7, 12, 149, 150] (by decide +kernel) (by decide +kernel)
set_option maxRecDepth 20000 in
theorem gX7_many_X6_countRules : GoodIn wsX7_many (wsV RX7 194 RX6 yX6_countRules wsX6_countRules) := goodIn_app (goodIn_of _ (by decide +kernel)) ggX7_many_X6_countRules
set_option maxRecDepth 20000 in
theorem ggX7_many_X6_countClaims : GoodIn wsX7_many wsX6_countClaims := goodIn_r _ [16, 17, 10, 11, 7, 12, 149, 150] (by decide +kernel) (by decide +kernel)
set_option maxRecDepth 20000 in
theorem gX7_many_X6_countClaims : GoodIn wsX7_many (wsV RX7 197 RX6 yX6_countClaims wsX6_countClaims) := goodIn_app (goodIn_of _ (by decide +kernel)) ggX7_many_X6_countClaims
set_option maxRecDepth 20000 in
theorem ggX7_many_X2_find : GoodIn wsX7_many wsX2_find := goodIn_r _ [22, 23, 24, 25, 26, 27, 28, 29, 30, 21, 31, 32, 33, 34, 35, 36, 37, 38, 7, 39, 9, 40, 41, 42, 43, 44, 45, 46, 47, 48, 49, 50, 51, 52, 151, 149, 150] (by decide +kernel) (by decide +kernel)
set_option maxRecDepth 20000 in
theorem gX7_many_X2_find : GoodIn wsX7_many (wsV RX7 110 RX2 yX2_find wsX2_find) := goodIn_app (goodIn_of _ (by decide +kernel)) ggX7_many_X2_find
set_option maxRecDepth 20000 in
theorem ggX7_many_X2_countFound : GoodIn wsX7_many wsX2_countFound := goodIn_r _ [56, 23, 151] (by decide +kernel) (by decide +kernel)
set_option maxRecDepth 20000 in
theorem gX7_many_X2_countFound : GoodIn wsX7_many (wsV RX7 200 RX2 yX2_countFound wsX2_countFound) := goodIn_app (goodIn_of _ (by decide +kernel)) ggX7_many_X2_countFound
set_option maxRecDepth 20000 in
theorem ggX7_many_X3_kept : GoodIn wsX7_many wsX3_kept := goodIn_r _ [61, 62, 152, 153, 154] (by decide +kernel) (by decide +kernel)
set_option maxRecDepth 20000 in
theorem gX7_many_X3_kept : GoodIn wsX7_many (wsV RX7 188 RX3 yX3_kept wsX3_kept) := goodIn_app (goodIn_of _ (by decide +kernel)) ggX7_many_X3_kept
set_option maxRecDepth 20000 in
theorem ggX7_many_X7_brokenClaims : GoodIn wsX7_many wsX7_brokenClaims := goodIn_r _ [66, 67, 1, 68, 69, 70, 71, 72, 73, 74, 75, 76, 7, 77, 17, 40, 41, 42, 78, 79, 80, 81, 82, 83, 84, 85, 86, 87, 88, 89, 90, 91, 92, 93, 94, 95, 96, 97, 98, 99, 100, 101, 102, 103, 104, 105, 106, 107, 108, 109, 110, 111, 112, 113, 114, 115, 37, 38, 39, 9, 43, 44, 116, 117, 118, 119, 120, 121, 122, 123, 124, 125, 126, 127, 128, 129, 130, 131, 132, 133, 141, 142, 143, 144, 145, 146, 147, 148, 155, 149, 150, 156, 157] (by decide +kernel) (by decide +kernel)
set_option maxRecDepth 20000 in
theorem gX7_many_X7_brokenClaims : GoodIn wsX7_many (wsV RX7 174 RX7 yX7_brokenClaims wsX7_brokenClaims) := goodIn_app (goodIn_of _ (by decide +kernel)) ggX7_many_X7_brokenClaims
set_option maxRecDepth 20000 in
theorem ggX7_many_J6_bitCount_0f7a4 : GoodIn wsX7_many wsJ6_bitCount_0f7a4 := goodIn_r _ [137, 138, 139, 140] (by decide +kernel) (by decide +kernel)
set_option maxRecDepth 20000 in
theorem gX7_many_J6_bitCount_0f7a4 : GoodIn wsX7_many (va_wsS RX7 180 yJ6_bitCount_0f7a4 wsJ6_bitCount_0f7a4) := goodIn_app (goodIn_of _ (by decide +kernel)) ggX7_many_J6_bitCount_0f7a4
theorem dX7_many_0 : decode cX7_many 0 = .ok (.iload_n 1, 1) := by decide +kernel
theorem dX7_many_1 : decode cX7_many 1 = .ok (.tableswitch 86 0 4 #[35, 43, 51, 70, 78], 35) := by decide +kernel
theorem dX7_many_36 : decode cX7_many 36 = .ok (.aload_n 0, 1) := by decide +kernel
theorem dX7_many_37 : decode cX7_many 37 = .ok (.getfield 12, 3) := by decide +kernel
theorem dX7_many_40 : decode cX7_many 40 = .ok (.invokevirtual 194, 3) := by decide +kernel
theorem dX7_many_43 : decode cX7_many 43 = .ok (.ireturn, 1) := by decide +kernel
theorem dX7_many_44 : decode cX7_many 44 = .ok (.aload_n 0, 1) := by decide +kernel
theorem dX7_many_45 : decode cX7_many 45 = .ok (.getfield 12, 3) := by decide +kernel
theorem dX7_many_48 : decode cX7_many 48 = .ok (.invokevirtual 197, 3) := by decide +kernel
theorem dX7_many_51 : decode cX7_many 51 = .ok (.ireturn, 1) := by decide +kernel
theorem dX7_many_52 : decode cX7_many 52 = .ok (.aload_n 0, 1) := by decide +kernel
theorem dX7_many_53 : decode cX7_many 53 = .ok (.getfield 35, 3) := by decide +kernel
theorem dX7_many_56 : decode cX7_many 56 = .ok (.aload_n 0, 1) := by decide +kernel
theorem dX7_many_57 : decode cX7_many 57 = .ok (.getfield 12, 3) := by decide +kernel
theorem dX7_many_60 : decode cX7_many 60 = .ok (.invokevirtual 110, 3) := by decide +kernel
theorem dX7_many_63 : decode cX7_many 63 = .ok (.aload_n 0, 1) := by decide +kernel
theorem dX7_many_64 : decode cX7_many 64 = .ok (.getfield 35, 3) := by decide +kernel
theorem dX7_many_67 : decode cX7_many 67 = .ok (.invokevirtual 200, 3) := by decide +kernel
theorem dX7_many_70 : decode cX7_many 70 = .ok (.ireturn, 1) := by decide +kernel
theorem dX7_many_71 : decode cX7_many 71 = .ok (.aload_n 0, 1) := by decide +kernel
theorem dX7_many_72 : decode cX7_many 72 = .ok (.getfield 21, 3) := by decide +kernel
theorem dX7_many_75 : decode cX7_many 75 = .ok (.invokevirtual 188, 3) := by decide +kernel
theorem dX7_many_78 : decode cX7_many 78 = .ok (.ireturn, 1) := by decide +kernel
theorem dX7_many_79 : decode cX7_many 79 = .ok (.aload_n 0, 1) := by decide +kernel
theorem dX7_many_80 : decode cX7_many 80 = .ok (.invokevirtual 174, 3) := by decide +kernel
theorem dX7_many_83 : decode cX7_many 83 = .ok (.invokestatic 180, 3) := by decide +kernel
theorem dX7_many_86 : decode cX7_many 86 = .ok (.ireturn, 1) := by decide +kernel
theorem dX7_many_87 : decode cX7_many 87 = .ok (.bipush (-2), 2) := by decide +kernel
theorem dX7_many_89 : decode cX7_many 89 = .ok (.ireturn, 1) := by decide +kernel
theorem dX7_isSign_0 : decode cX7_isSign 0 = .ok (.iload_n 0, 1) := by decide +kernel
theorem dX7_isSign_1 : decode cX7_isSign 1 = .ok (.ifCond .lt 13, 3) := by decide +kernel
theorem dX7_isSign_4 : decode cX7_isSign 4 = .ok (.iload_n 0, 1) := by decide +kernel
theorem dX7_isSign_5 : decode cX7_isSign 5 = .ok (.bipush 6, 2) := by decide +kernel
theorem dX7_isSign_7 : decode cX7_isSign 7 = .ok (.if_icmp .ge 7, 3) := by decide +kernel
theorem dX7_isSign_10 : decode cX7_isSign 10 = .ok (.iconst 1, 1) := by decide +kernel
theorem dX7_isSign_11 : decode cX7_isSign 11 = .ok (.goto 4, 3) := by decide +kernel
theorem dX7_isSign_14 : decode cX7_isSign 14 = .ok (.iconst 0, 1) := by decide +kernel
theorem dX7_isSign_15 : decode cX7_isSign 15 = .ok (.ireturn, 1) := by decide +kernel
theorem dX7_isLetter_0 : decode cX7_isLetter 0 = .ok (.iload_n 0, 1) := by decide +kernel
theorem dX7_isLetter_1 : decode cX7_isLetter 1 = .ok (.ifCond .lt 12, 3) := by decide +kernel
theorem dX7_isLetter_4 : decode cX7_isLetter 4 = .ok (.iload_n 0, 1) := by decide +kernel
theorem dX7_isLetter_5 : decode cX7_isLetter 5 = .ok (.iconst 3, 1) := by decide +kernel
theorem dX7_isLetter_6 : decode cX7_isLetter 6 = .ok (.if_icmp .ge 7, 3) := by decide +kernel
theorem dX7_isLetter_9 : decode cX7_isLetter 9 = .ok (.iconst 1, 1) := by decide +kernel
theorem dX7_isLetter_10 : decode cX7_isLetter 10 = .ok (.goto 4, 3) := by decide +kernel
theorem dX7_isLetter_13 : decode cX7_isLetter 13 = .ok (.iconst 0, 1) := by decide +kernel
theorem dX7_isLetter_14 : decode cX7_isLetter 14 = .ok (.ireturn, 1) := by decide +kernel
set_option maxRecDepth 20000 in
theorem ggX7_isRowOfSigns_X7_isRow : GoodIn wsX7_isRowOfSigns wsX7_isRow := goodIn_r _ [4, 5] (by decide +kernel) (by decide +kernel)
set_option maxRecDepth 20000 in
theorem gX7_isRowOfSigns_X7_isRow : GoodIn wsX7_isRowOfSigns (va_wsS RX7 72 yX7_isRow wsX7_isRow) := goodIn_app (goodIn_of _ (by decide +kernel)) ggX7_isRowOfSigns_X7_isRow
theorem dX7_isRowOfSigns_0 : decode cX7_isRowOfSigns 0 = .ok (.iload_n 0, 1) := by decide +kernel
theorem dX7_isRowOfSigns_1 : decode cX7_isRowOfSigns 1 = .ok (.i2l, 1) := by decide +kernel
theorem dX7_isRowOfSigns_2 : decode cX7_isRowOfSigns 2 = .ok (.bipush 6, 2) := by decide +kernel
theorem dX7_isRowOfSigns_4 : decode cX7_isRowOfSigns 4 = .ok (.bipush 9, 2) := by decide +kernel
theorem dX7_isRowOfSigns_6 : decode cX7_isRowOfSigns 6 = .ok (.invokestatic 72, 3) := by decide +kernel
theorem dX7_isRowOfSigns_9 : decode cX7_isRowOfSigns 9 = .ok (.ireturn, 1) := by decide +kernel
theorem dX7_isRow_0 : decode cX7_isRow 0 = .ok (.lload_n 0, 1) := by decide +kernel
theorem dX7_isRow_1 : decode cX7_isRow 1 = .ok (.lstore 4, 2) := by decide +kernel
theorem dX7_isRow_3 : decode cX7_isRow 3 = .ok (.iconst 0, 1) := by decide +kernel
theorem dX7_isRow_4 : decode cX7_isRow 4 = .ok (.istore 6, 2) := by decide +kernel
theorem dX7_isRow_6 : decode cX7_isRow 6 = .ok (.iload 6, 2) := by decide +kernel
theorem dX7_isRow_8 : decode cX7_isRow 8 = .ok (.iload_n 3, 1) := by decide +kernel
theorem dX7_isRow_9 : decode cX7_isRow 9 = .ok (.if_icmp .ge 49, 3) := by decide +kernel
theorem dX7_isRow_12 : decode cX7_isRow 12 = .ok (.lload 4, 2) := by decide +kernel
theorem dX7_isRow_14 : decode cX7_isRow 14 = .ok (.lconst 0, 1) := by decide +kernel
theorem dX7_isRow_15 : decode cX7_isRow 15 = .ok (.lcmp, 1) := by decide +kernel
theorem dX7_isRow_16 : decode cX7_isRow 16 = .ok (.ifCond .le 42, 3) := by decide +kernel
theorem dX7_isRow_19 : decode cX7_isRow 19 = .ok (.lload 4, 2) := by decide +kernel
theorem dX7_isRow_21 : decode cX7_isRow 21 = .ok (.ldc2_w 203, 3) := by decide +kernel
theorem dX7_isRow_24 : decode cX7_isRow 24 = .ok (.lrem, 1) := by decide +kernel
theorem dX7_isRow_25 : decode cX7_isRow 25 = .ok (.lstore 7, 2) := by decide +kernel
theorem dX7_isRow_27 : decode cX7_isRow 27 = .ok (.lload 7, 2) := by decide +kernel
theorem dX7_isRow_29 : decode cX7_isRow 29 = .ok (.lconst 1, 1) := by decide +kernel
theorem dX7_isRow_30 : decode cX7_isRow 30 = .ok (.lcmp, 1) := by decide +kernel
theorem dX7_isRow_31 : decode cX7_isRow 31 = .ok (.ifCond .lt 11, 3) := by decide +kernel
theorem dX7_isRow_34 : decode cX7_isRow 34 = .ok (.lload 7, 2) := by decide +kernel
theorem dX7_isRow_36 : decode cX7_isRow 36 = .ok (.iload_n 2, 1) := by decide +kernel
theorem dX7_isRow_37 : decode cX7_isRow 37 = .ok (.i2l, 1) := by decide +kernel
theorem dX7_isRow_38 : decode cX7_isRow 38 = .ok (.lcmp, 1) := by decide +kernel
theorem dX7_isRow_39 : decode cX7_isRow 39 = .ok (.ifCond .le 5, 3) := by decide +kernel
theorem dX7_isRow_42 : decode cX7_isRow 42 = .ok (.iconst 0, 1) := by decide +kernel
theorem dX7_isRow_43 : decode cX7_isRow 43 = .ok (.ireturn, 1) := by decide +kernel
theorem dX7_isRow_44 : decode cX7_isRow 44 = .ok (.lload 4, 2) := by decide +kernel
theorem dX7_isRow_46 : decode cX7_isRow 46 = .ok (.ldc2_w 203, 3) := by decide +kernel
theorem dX7_isRow_49 : decode cX7_isRow 49 = .ok (.ldiv, 1) := by decide +kernel
theorem dX7_isRow_50 : decode cX7_isRow 50 = .ok (.lstore 4, 2) := by decide +kernel
theorem dX7_isRow_52 : decode cX7_isRow 52 = .ok (.iinc 6 1, 3) := by decide +kernel
theorem dX7_isRow_55 : decode cX7_isRow 55 = .ok (.goto (-49), 3) := by decide +kernel
theorem dX7_isRow_58 : decode cX7_isRow 58 = .ok (.lload 4, 2) := by decide +kernel
theorem dX7_isRow_60 : decode cX7_isRow 60 = .ok (.lconst 0, 1) := by decide +kernel
theorem dX7_isRow_61 : decode cX7_isRow 61 = .ok (.lcmp, 1) := by decide +kernel
theorem dX7_isRow_62 : decode cX7_isRow 62 = .ok (.ifCond .ne 7, 3) := by decide +kernel
theorem dX7_isRow_65 : decode cX7_isRow 65 = .ok (.iconst 1, 1) := by decide +kernel
theorem dX7_isRow_66 : decode cX7_isRow 66 = .ok (.goto 4, 3) := by decide +kernel
theorem dX7_isRow_69 : decode cX7_isRow 69 = .ok (.iconst 0, 1) := by decide +kernel
theorem dX7_isRow_70 : decode cX7_isRow 70 = .ok (.ireturn, 1) := by decide +kernel
theorem dX7_rowInOrder_0 : decode cX7_rowInOrder 0 = .ok (.iconst 0, 1) := by decide +kernel
theorem dX7_rowInOrder_1 : decode cX7_rowInOrder 1 = .ok (.istore_n 2, 1) := by decide +kernel
theorem dX7_rowInOrder_2 : decode cX7_rowInOrder 2 = .ok (.iconst 1, 1) := by decide +kernel
theorem dX7_rowInOrder_3 : decode cX7_rowInOrder 3 = .ok (.istore_n 3, 1) := by decide +kernel
theorem dX7_rowInOrder_4 : decode cX7_rowInOrder 4 = .ok (.iload_n 0, 1) := by decide +kernel
theorem dX7_rowInOrder_5 : decode cX7_rowInOrder 5 = .ok (.istore 4, 2) := by decide +kernel
theorem dX7_rowInOrder_7 : decode cX7_rowInOrder 7 = .ok (.iconst 0, 1) := by decide +kernel
theorem dX7_rowInOrder_8 : decode cX7_rowInOrder 8 = .ok (.istore 5, 2) := by decide +kernel
theorem dX7_rowInOrder_10 : decode cX7_rowInOrder 10 = .ok (.iload 5, 2) := by decide +kernel
theorem dX7_rowInOrder_12 : decode cX7_rowInOrder 12 = .ok (.bipush 9, 2) := by decide +kernel
theorem dX7_rowInOrder_14 : decode cX7_rowInOrder 14 = .ok (.if_icmp .ge 44, 3) := by decide +kernel
theorem dX7_rowInOrder_17 : decode cX7_rowInOrder 17 = .ok (.iload 4, 2) := by decide +kernel
theorem dX7_rowInOrder_19 : decode cX7_rowInOrder 19 = .ok (.ifCond .le 39, 3) := by decide +kernel
theorem dX7_rowInOrder_22 : decode cX7_rowInOrder 22 = .ok (.iload_n 1, 1) := by decide +kernel
theorem dX7_rowInOrder_23 : decode cX7_rowInOrder 23 = .ok (.ifCond .le 35, 3) := by decide +kernel
theorem dX7_rowInOrder_26 : decode cX7_rowInOrder 26 = .ok (.iload_n 2, 1) := by decide +kernel
theorem dX7_rowInOrder_27 : decode cX7_rowInOrder 27 = .ok (.iload 4, 2) := by decide +kernel
theorem dX7_rowInOrder_29 : decode cX7_rowInOrder 29 = .ok (.iconst 1, 1) := by decide +kernel
theorem dX7_rowInOrder_30 : decode cX7_rowInOrder 30 = .ok (.isub, 1) := by decide +kernel
theorem dX7_rowInOrder_31 : decode cX7_rowInOrder 31 = .ok (.iload_n 1, 1) := by decide +kernel
theorem dX7_rowInOrder_32 : decode cX7_rowInOrder 32 = .ok (.irem, 1) := by decide +kernel
theorem dX7_rowInOrder_33 : decode cX7_rowInOrder 33 = .ok (.iconst 1, 1) := by decide +kernel
theorem dX7_rowInOrder_34 : decode cX7_rowInOrder 34 = .ok (.iadd, 1) := by decide +kernel
theorem dX7_rowInOrder_35 : decode cX7_rowInOrder 35 = .ok (.iload_n 3, 1) := by decide +kernel
theorem dX7_rowInOrder_36 : decode cX7_rowInOrder 36 = .ok (.imul, 1) := by decide +kernel
theorem dX7_rowInOrder_37 : decode cX7_rowInOrder 37 = .ok (.iadd, 1) := by decide +kernel
theorem dX7_rowInOrder_38 : decode cX7_rowInOrder 38 = .ok (.istore_n 2, 1) := by decide +kernel
theorem dX7_rowInOrder_39 : decode cX7_rowInOrder 39 = .ok (.iload_n 3, 1) := by decide +kernel
theorem dX7_rowInOrder_40 : decode cX7_rowInOrder 40 = .ok (.bipush 10, 2) := by decide +kernel
theorem dX7_rowInOrder_42 : decode cX7_rowInOrder 42 = .ok (.imul, 1) := by decide +kernel
theorem dX7_rowInOrder_43 : decode cX7_rowInOrder 43 = .ok (.istore_n 3, 1) := by decide +kernel
theorem dX7_rowInOrder_44 : decode cX7_rowInOrder 44 = .ok (.iload 4, 2) := by decide +kernel
theorem dX7_rowInOrder_46 : decode cX7_rowInOrder 46 = .ok (.iconst 1, 1) := by decide +kernel
theorem dX7_rowInOrder_47 : decode cX7_rowInOrder 47 = .ok (.isub, 1) := by decide +kernel
theorem dX7_rowInOrder_48 : decode cX7_rowInOrder 48 = .ok (.iload_n 1, 1) := by decide +kernel
theorem dX7_rowInOrder_49 : decode cX7_rowInOrder 49 = .ok (.idiv, 1) := by decide +kernel
theorem dX7_rowInOrder_50 : decode cX7_rowInOrder 50 = .ok (.istore 4, 2) := by decide +kernel
theorem dX7_rowInOrder_52 : decode cX7_rowInOrder 52 = .ok (.iinc 5 1, 3) := by decide +kernel
theorem dX7_rowInOrder_55 : decode cX7_rowInOrder 55 = .ok (.goto (-45), 3) := by decide +kernel
theorem dX7_rowInOrder_58 : decode cX7_rowInOrder 58 = .ok (.iload_n 2, 1) := by decide +kernel
theorem dX7_rowInOrder_59 : decode cX7_rowInOrder 59 = .ok (.ireturn, 1) := by decide +kernel
set_option maxRecDepth 20000 in
theorem ggX7_leastWord_X4_start : GoodIn wsX7_leastWord wsX4_start := goodIn_r _ [10, 11, 12, 13, 14, 15, 16, 17, 18, 19, 20, 21, 22, 23, 24, 25, 26, 27, 87, 88, 89, 90] (by decide +kernel) (by decide +kernel)
set_option maxRecDepth 20000 in
theorem gX7_leastWord_X4_start : GoodIn wsX7_leastWord (wsV RX7 205 RX4 yX4_start wsX4_start) := goodIn_app (goodIn_of _ (by decide +kernel)) ggX7_leastWord_X4_start
set_option maxRecDepth 20000 in
theorem ggX7_leastWord_X5_fromFirst : GoodIn wsX7_leastWord wsX5_fromFirst := goodIn_r _ [31, 17, 32, 33, 34, 15, 35, 27, 89, 90] (by decide +kernel) (by decide +kernel)
set_option maxRecDepth 20000 in
theorem gX7_leastWord_X5_fromFirst : GoodIn wsX7_leastWord (wsV RX7 102 RX5 yX5_fromFirst wsX5_fromFirst) := goodIn_app (goodIn_of _ (by decide +kernel)) ggX7_leastWord_X5_fromFirst
set_option maxRecDepth 20000 in
theorem ggX7_leastWord_X2_leastLetter : GoodIn wsX7_leastWord wsX2_leastLetter := goodIn_r _ [40, 41, 42, 43, 39, 44, 45, 46, 47, 48, 49, 50, 51, 52, 53, 54, 55, 56, 57, 58, 59, 60, 61, 62, 63, 64, 91, 92, 93] (by decide +kernel) (by decide +kernel)
set_option maxRecDepth 20000 in
theorem gX7_leastWord_X2_leastLetter : GoodIn wsX7_leastWord (wsV RX7 208 RX2 yX2_leastLetter wsX2_leastLetter) := goodIn_app (goodIn_of _ (by decide +kernel)) ggX7_leastWord_X2_leastLetter
set_option maxRecDepth 20000 in
theorem ggX7_leastWord_X4_step : GoodIn wsX7_leastWord wsX4_step := goodIn_r _ [68, 11, 69, 29, 30, 15, 31, 17, 32, 33, 34, 35, 27, 70, 46, 47, 48, 49, 50, 51, 52, 53, 54, 55, 71, 72, 73, 74, 75, 76, 77, 78, 18, 19, 20, 21, 22, 23, 24, 25, 26, 87, 88, 89, 90, 91, 92] (by decide +kernel) (by decide +kernel)
set_option maxRecDepth 20000 in
theorem gX7_leastWord_X4_step : GoodIn wsX7_leastWord (wsV RX7 212 RX4 yX4_step wsX4_step) := goodIn_app (goodIn_of _ (by decide +kernel)) ggX7_leastWord_X4_step
theorem dX7_leastWord_0 : decode cX7_leastWord 0 = .ok (.aload_n 0, 1) := by decide +kernel
theorem dX7_leastWord_1 : decode cX7_leastWord 1 = .ok (.getfield 28, 3) := by decide +kernel
theorem dX7_leastWord_4 : decode cX7_leastWord 4 = .ok (.iload_n 1, 1) := by decide +kernel
theorem dX7_leastWord_5 : decode cX7_leastWord 5 = .ok (.invokevirtual 205, 3) := by decide +kernel
theorem dX7_leastWord_8 : decode cX7_leastWord 8 = .ok (.lconst 0, 1) := by decide +kernel
theorem dX7_leastWord_9 : decode cX7_leastWord 9 = .ok (.lstore_n 3, 1) := by decide +kernel
theorem dX7_leastWord_10 : decode cX7_leastWord 10 = .ok (.iconst 0, 1) := by decide +kernel
theorem dX7_leastWord_11 : decode cX7_leastWord 11 = .ok (.istore 5, 2) := by decide +kernel
theorem dX7_leastWord_13 : decode cX7_leastWord 13 = .ok (.iload 5, 2) := by decide +kernel
theorem dX7_leastWord_15 : decode cX7_leastWord 15 = .ok (.iload_n 2, 1) := by decide +kernel
theorem dX7_leastWord_16 : decode cX7_leastWord 16 = .ok (.if_icmp .ge 59, 3) := by decide +kernel
theorem dX7_leastWord_19 : decode cX7_leastWord 19 = .ok (.aload_n 0, 1) := by decide +kernel
theorem dX7_leastWord_20 : decode cX7_leastWord 20 = .ok (.getfield 35, 3) := by decide +kernel
theorem dX7_leastWord_23 : decode cX7_leastWord 23 = .ok (.aload_n 0, 1) := by decide +kernel
theorem dX7_leastWord_24 : decode cX7_leastWord 24 = .ok (.getfield 12, 3) := by decide +kernel
theorem dX7_leastWord_27 : decode cX7_leastWord 27 = .ok (.aload_n 0, 1) := by decide +kernel
theorem dX7_leastWord_28 : decode cX7_leastWord 28 = .ok (.getfield 28, 3) := by decide +kernel
theorem dX7_leastWord_31 : decode cX7_leastWord 31 = .ok (.getfield 95, 3) := by decide +kernel
theorem dX7_leastWord_34 : decode cX7_leastWord 34 = .ok (.iconst 0, 1) := by decide +kernel
theorem dX7_leastWord_35 : decode cX7_leastWord 35 = .ok (.invokevirtual 102, 3) := by decide +kernel
theorem dX7_leastWord_38 : decode cX7_leastWord 38 = .ok (.invokevirtual 208, 3) := by decide +kernel
theorem dX7_leastWord_41 : decode cX7_leastWord 41 = .ok (.istore 6, 2) := by decide +kernel
theorem dX7_leastWord_43 : decode cX7_leastWord 43 = .ok (.aload_n 0, 1) := by decide +kernel
theorem dX7_leastWord_44 : decode cX7_leastWord 44 = .ok (.getfield 28, 3) := by decide +kernel
theorem dX7_leastWord_47 : decode cX7_leastWord 47 = .ok (.aload_n 0, 1) := by decide +kernel
theorem dX7_leastWord_48 : decode cX7_leastWord 48 = .ok (.getfield 12, 3) := by decide +kernel
theorem dX7_leastWord_51 : decode cX7_leastWord 51 = .ok (.iload 6, 2) := by decide +kernel
theorem dX7_leastWord_53 : decode cX7_leastWord 53 = .ok (.invokevirtual 212, 3) := by decide +kernel
theorem dX7_leastWord_56 : decode cX7_leastWord 56 = .ok (.pop, 1) := by decide +kernel
theorem dX7_leastWord_57 : decode cX7_leastWord 57 = .ok (.lload_n 3, 1) := by decide +kernel
theorem dX7_leastWord_58 : decode cX7_leastWord 58 = .ok (.ldc2_w 203, 3) := by decide +kernel
theorem dX7_leastWord_61 : decode cX7_leastWord 61 = .ok (.lmul, 1) := by decide +kernel
theorem dX7_leastWord_62 : decode cX7_leastWord 62 = .ok (.iload 6, 2) := by decide +kernel
theorem dX7_leastWord_64 : decode cX7_leastWord 64 = .ok (.i2l, 1) := by decide +kernel
theorem dX7_leastWord_65 : decode cX7_leastWord 65 = .ok (.ladd, 1) := by decide +kernel
theorem dX7_leastWord_66 : decode cX7_leastWord 66 = .ok (.lconst 1, 1) := by decide +kernel
theorem dX7_leastWord_67 : decode cX7_leastWord 67 = .ok (.ladd, 1) := by decide +kernel
theorem dX7_leastWord_68 : decode cX7_leastWord 68 = .ok (.lstore_n 3, 1) := by decide +kernel
theorem dX7_leastWord_69 : decode cX7_leastWord 69 = .ok (.iinc 5 1, 3) := by decide +kernel
theorem dX7_leastWord_72 : decode cX7_leastWord 72 = .ok (.goto (-59), 3) := by decide +kernel
theorem dX7_leastWord_75 : decode cX7_leastWord 75 = .ok (.lload_n 3, 1) := by decide +kernel
theorem dX7_leastWord_76 : decode cX7_leastWord 76 = .ok (.lreturn, 1) := by decide +kernel
set_option maxRecDepth 20000 in
theorem ggX7_goesThrough_X4_countRead : GoodIn wsX7_goesThrough wsX4_countRead := goodIn_r _ [8, 9, 10, 11, 12, 7, 13, 14, 15, 16, 17, 18, 19, 20, 21, 22, 23, 24, 25, 26, 27, 28, 29, 30, 31, 32, 33, 34, 35, 36, 37, 38, 39, 40, 41, 42, 43, 44, 45, 46, 47, 48, 49, 50, 51, 52, 53, 54, 55, 56, 57, 58, 59, 60, 61, 62, 63, 64, 65, 79, 80, 81, 82, 83, 84] (by decide +kernel) (by decide +kernel)
set_option maxRecDepth 20000 in
theorem gX7_goesThrough_X4_countRead : GoodIn wsX7_goesThrough (wsV RX7 91 RX4 yX4_countRead wsX4_countRead) := goodIn_app (goodIn_of _ (by decide +kernel)) ggX7_goesThrough_X4_countRead
set_option maxRecDepth 20000 in
theorem ggX7_goesThrough_X4_readsToEnd : GoodIn wsX7_goesThrough wsX4_readsToEnd := goodIn_r _ [69, 9, 31, 32, 33, 18, 34, 20, 79, 80, 81, 82] (by decide +kernel) (by decide +kernel)
set_option maxRecDepth 20000 in
theorem gX7_goesThrough_X4_readsToEnd : GoodIn wsX7_goesThrough (wsV RX7 106 RX4 yX4_readsToEnd wsX4_readsToEnd) := goodIn_app (goodIn_of _ (by decide +kernel)) ggX7_goesThrough_X4_readsToEnd
set_option maxRecDepth 20000 in
theorem ggX7_goesThrough_X5_size : GoodIn wsX7_goesThrough wsX5_size := goodIn_r _ [34, 20, 81, 82] (by decide +kernel) (by decide +kernel)
set_option maxRecDepth 20000 in
theorem gX7_goesThrough_X5_size : GoodIn wsX7_goesThrough (wsV RX7 98 RX5 yX5_size wsX5_size) := goodIn_app (goodIn_of _ (by decide +kernel)) ggX7_goesThrough_X5_size
theorem dX7_goesThrough_0 : decode cX7_goesThrough 0 = .ok (.aload_n 0, 1) := by decide +kernel
theorem dX7_goesThrough_1 : decode cX7_goesThrough 1 = .ok (.getfield 28, 3) := by decide +kernel
theorem dX7_goesThrough_4 : decode cX7_goesThrough 4 = .ok (.aload_n 0, 1) := by decide +kernel
theorem dX7_goesThrough_5 : decode cX7_goesThrough 5 = .ok (.getfield 12, 3) := by decide +kernel
theorem dX7_goesThrough_8 : decode cX7_goesThrough 8 = .ok (.iload_n 1, 1) := by decide +kernel
theorem dX7_goesThrough_9 : decode cX7_goesThrough 9 = .ok (.iload_n 2, 1) := by decide +kernel
theorem dX7_goesThrough_10 : decode cX7_goesThrough 10 = .ok (.i2l, 1) := by decide +kernel
theorem dX7_goesThrough_11 : decode cX7_goesThrough 11 = .ok (.invokevirtual 91, 3) := by decide +kernel
theorem dX7_goesThrough_14 : decode cX7_goesThrough 14 = .ok (.pop, 1) := by decide +kernel
theorem dX7_goesThrough_15 : decode cX7_goesThrough 15 = .ok (.aload_n 0, 1) := by decide +kernel
theorem dX7_goesThrough_16 : decode cX7_goesThrough 16 = .ok (.getfield 28, 3) := by decide +kernel
theorem dX7_goesThrough_19 : decode cX7_goesThrough 19 = .ok (.invokevirtual 106, 3) := by decide +kernel
theorem dX7_goesThrough_22 : decode cX7_goesThrough 22 = .ok (.ifCond .eq 25, 3) := by decide +kernel
theorem dX7_goesThrough_25 : decode cX7_goesThrough 25 = .ok (.iload_n 3, 1) := by decide +kernel
theorem dX7_goesThrough_26 : decode cX7_goesThrough 26 = .ok (.iconst 1, 1) := by decide +kernel
theorem dX7_goesThrough_27 : decode cX7_goesThrough 27 = .ok (.if_icmp .eq 16, 3) := by decide +kernel
theorem dX7_goesThrough_30 : decode cX7_goesThrough 30 = .ok (.aload_n 0, 1) := by decide +kernel
theorem dX7_goesThrough_31 : decode cX7_goesThrough 31 = .ok (.getfield 28, 3) := by decide +kernel
theorem dX7_goesThrough_34 : decode cX7_goesThrough 34 = .ok (.getfield 95, 3) := by decide +kernel
theorem dX7_goesThrough_37 : decode cX7_goesThrough 37 = .ok (.invokevirtual 98, 3) := by decide +kernel
theorem dX7_goesThrough_40 : decode cX7_goesThrough 40 = .ok (.ifCond .ne 7, 3) := by decide +kernel
theorem dX7_goesThrough_43 : decode cX7_goesThrough 43 = .ok (.iconst 1, 1) := by decide +kernel
theorem dX7_goesThrough_44 : decode cX7_goesThrough 44 = .ok (.goto 4, 3) := by decide +kernel
theorem dX7_goesThrough_47 : decode cX7_goesThrough 47 = .ok (.iconst 0, 1) := by decide +kernel
theorem dX7_goesThrough_48 : decode cX7_goesThrough 48 = .ok (.ireturn, 1) := by decide +kernel
set_option maxRecDepth 20000 in
theorem ggX7_firstsOfRules_X6_ruleOf : GoodIn wsX7_firstsOfRules wsX6_ruleOf := goodIn_r _ [7, 8, 9, 10, 11, 12, 13, 32, 33] (by decide +kernel) (by decide +kernel)
set_option maxRecDepth 20000 in
theorem gX7_firstsOfRules_X6_ruleOf : GoodIn wsX7_firstsOfRules (wsV RX7 80 RX6 yX6_ruleOf wsX6_ruleOf) := goodIn_app (goodIn_of _ (by decide +kernel)) ggX7_firstsOfRules_X6_ruleOf
set_option maxRecDepth 20000 in
theorem ggX7_firstsOfRules_X2_firstsWithin : GoodIn wsX7_firstsOfRules wsX2_firstsWithin := goodIn_r _ [18, 19, 20, 21, 17, 22, 23, 9, 10, 11, 34] (by decide +kernel) (by decide +kernel)
set_option maxRecDepth 20000 in
theorem gX7_firstsOfRules_X2_firstsWithin : GoodIn wsX7_firstsOfRules (wsV RX7 136 RX2 yX2_firstsWithin wsX2_firstsWithin) := goodIn_app (goodIn_of _ (by decide +kernel)) ggX7_firstsOfRules_X2_firstsWithin
theorem dX7_firstsOfRules_0 : decode cX7_firstsOfRules 0 = .ok (.iconst 0, 1) := by decide +kernel
theorem dX7_firstsOfRules_1 : decode cX7_firstsOfRules 1 = .ok (.istore_n 2, 1) := by decide +kernel
theorem dX7_firstsOfRules_2 : decode cX7_firstsOfRules 2 = .ok (.iconst 0, 1) := by decide +kernel
theorem dX7_firstsOfRules_3 : decode cX7_firstsOfRules 3 = .ok (.istore_n 3, 1) := by decide +kernel
theorem dX7_firstsOfRules_4 : decode cX7_firstsOfRules 4 = .ok (.iload_n 3, 1) := by decide +kernel
theorem dX7_firstsOfRules_5 : decode cX7_firstsOfRules 5 = .ok (.bipush 6, 2) := by decide +kernel
theorem dX7_firstsOfRules_7 : decode cX7_firstsOfRules 7 = .ok (.if_icmp .ge 53, 3) := by decide +kernel
theorem dX7_firstsOfRules_10 : decode cX7_firstsOfRules 10 = .ok (.iconst 0, 1) := by decide +kernel
theorem dX7_firstsOfRules_11 : decode cX7_firstsOfRules 11 = .ok (.istore 4, 2) := by decide +kernel
theorem dX7_firstsOfRules_13 : decode cX7_firstsOfRules 13 = .ok (.iload 4, 2) := by decide +kernel
theorem dX7_firstsOfRules_15 : decode cX7_firstsOfRules 15 = .ok (.iconst 3, 1) := by decide +kernel
theorem dX7_firstsOfRules_16 : decode cX7_firstsOfRules 16 = .ok (.if_icmp .ge 38, 3) := by decide +kernel
theorem dX7_firstsOfRules_19 : decode cX7_firstsOfRules 19 = .ok (.iload_n 1, 1) := by decide +kernel
theorem dX7_firstsOfRules_20 : decode cX7_firstsOfRules 20 = .ok (.iload_n 3, 1) := by decide +kernel
theorem dX7_firstsOfRules_21 : decode cX7_firstsOfRules 21 = .ok (.ishr, 1) := by decide +kernel
theorem dX7_firstsOfRules_22 : decode cX7_firstsOfRules 22 = .ok (.iconst 1, 1) := by decide +kernel
theorem dX7_firstsOfRules_23 : decode cX7_firstsOfRules 23 = .ok (.iand, 1) := by decide +kernel
theorem dX7_firstsOfRules_24 : decode cX7_firstsOfRules 24 = .ok (.iconst 1, 1) := by decide +kernel
theorem dX7_firstsOfRules_25 : decode cX7_firstsOfRules 25 = .ok (.if_icmp .ne 23, 3) := by decide +kernel
theorem dX7_firstsOfRules_28 : decode cX7_firstsOfRules 28 = .ok (.iload_n 2, 1) := by decide +kernel
theorem dX7_firstsOfRules_29 : decode cX7_firstsOfRules 29 = .ok (.aload_n 0, 1) := by decide +kernel
theorem dX7_firstsOfRules_30 : decode cX7_firstsOfRules 30 = .ok (.getfield 35, 3) := by decide +kernel
theorem dX7_firstsOfRules_33 : decode cX7_firstsOfRules 33 = .ok (.aload_n 0, 1) := by decide +kernel
theorem dX7_firstsOfRules_34 : decode cX7_firstsOfRules 34 = .ok (.getfield 12, 3) := by decide +kernel
theorem dX7_firstsOfRules_37 : decode cX7_firstsOfRules 37 = .ok (.iload_n 3, 1) := by decide +kernel
theorem dX7_firstsOfRules_38 : decode cX7_firstsOfRules 38 = .ok (.iload 4, 2) := by decide +kernel
theorem dX7_firstsOfRules_40 : decode cX7_firstsOfRules 40 = .ok (.invokevirtual 80, 3) := by decide +kernel
theorem dX7_firstsOfRules_43 : decode cX7_firstsOfRules 43 = .ok (.invokevirtual 136, 3) := by decide +kernel
theorem dX7_firstsOfRules_46 : decode cX7_firstsOfRules 46 = .ok (.ior, 1) := by decide +kernel
theorem dX7_firstsOfRules_47 : decode cX7_firstsOfRules 47 = .ok (.istore_n 2, 1) := by decide +kernel
theorem dX7_firstsOfRules_48 : decode cX7_firstsOfRules 48 = .ok (.iinc 4 1, 3) := by decide +kernel
theorem dX7_firstsOfRules_51 : decode cX7_firstsOfRules 51 = .ok (.goto (-38), 3) := by decide +kernel
theorem dX7_firstsOfRules_54 : decode cX7_firstsOfRules 54 = .ok (.iinc 3 1, 3) := by decide +kernel
theorem dX7_firstsOfRules_57 : decode cX7_firstsOfRules 57 = .ok (.goto (-53), 3) := by decide +kernel
theorem dX7_firstsOfRules_60 : decode cX7_firstsOfRules 60 = .ok (.iload_n 2, 1) := by decide +kernel
theorem dX7_firstsOfRules_61 : decode cX7_firstsOfRules 61 = .ok (.ireturn, 1) := by decide +kernel
set_option maxRecDepth 20000 in
theorem ggX7_reduceBoth_X1_find : GoodIn wsX7_reduceBoth wsX1_find := goodIn_r _ [9, 10, 11, 12, 13, 14, 15, 16, 17, 18, 19, 20, 21, 22, 23, 24, 25, 26, 27, 28, 29, 30, 31, 32, 33, 8, 34, 35, 36, 37, 38, 39, 40, 41, 42, 53, 54, 55, 56, 57] (by decide +kernel) (by decide +kernel)
set_option maxRecDepth 20000 in
theorem gX7_reduceBoth_X1_find : GoodIn wsX7_reduceBoth (wsV RX7 149 RX1 yX1_find wsX1_find) := goodIn_app (goodIn_of _ (by decide +kernel)) ggX7_reduceBoth_X1_find
set_option maxRecDepth 20000 in
theorem ggX7_reduceBoth_X5_clear : GoodIn wsX7_reduceBoth wsX5_clear := goodIn_r _ [24, 25, 56, 57] (by decide +kernel) (by decide +kernel)
set_option maxRecDepth 20000 in
theorem gX7_reduceBoth_X5_clear : GoodIn wsX7_reduceBoth (wsV RX7 150 RX5 yX5_clear wsX5_clear) := goodIn_app (goodIn_of _ (by decide +kernel)) ggX7_reduceBoth_X5_clear
set_option maxRecDepth 20000 in
theorem ggX7_reduceBoth_X1_putAhead : GoodIn wsX7_reduceBoth wsX1_putAhead := goodIn_r _ [34, 10, 17, 18, 19, 35, 36, 37, 23, 38, 25, 30, 39, 40, 41, 42, 53, 56, 57] (by decide +kernel) (by decide +kernel)
set_option maxRecDepth 20000 in
theorem gX7_reduceBoth_X1_putAhead : GoodIn wsX7_reduceBoth (wsV RX7 153 RX1 yX1_putAhead wsX1_putAhead) := goodIn_app (goodIn_of _ (by decide +kernel)) ggX7_reduceBoth_X1_putAhead
theorem dX7_reduceBoth_0 : decode cX7_reduceBoth 0 = .ok (.aload_n 0, 1) := by decide +kernel
theorem dX7_reduceBoth_1 : decode cX7_reduceBoth 1 = .ok (.getfield 49, 3) := by decide +kernel
theorem dX7_reduceBoth_4 : decode cX7_reduceBoth 4 = .ok (.aload_n 0, 1) := by decide +kernel
theorem dX7_reduceBoth_5 : decode cX7_reduceBoth 5 = .ok (.getfield 12, 3) := by decide +kernel
theorem dX7_reduceBoth_8 : decode cX7_reduceBoth 8 = .ok (.invokevirtual 149, 3) := by decide +kernel
theorem dX7_reduceBoth_11 : decode cX7_reduceBoth 11 = .ok (.aload_n 0, 1) := by decide +kernel
theorem dX7_reduceBoth_12 : decode cX7_reduceBoth 12 = .ok (.getfield 58, 3) := by decide +kernel
theorem dX7_reduceBoth_15 : decode cX7_reduceBoth 15 = .ok (.invokevirtual 150, 3) := by decide +kernel
theorem dX7_reduceBoth_18 : decode cX7_reduceBoth 18 = .ok (.aload_n 0, 1) := by decide +kernel
theorem dX7_reduceBoth_19 : decode cX7_reduceBoth 19 = .ok (.getfield 49, 3) := by decide +kernel
theorem dX7_reduceBoth_22 : decode cX7_reduceBoth 22 = .ok (.aload_n 0, 1) := by decide +kernel
theorem dX7_reduceBoth_23 : decode cX7_reduceBoth 23 = .ok (.getfield 58, 3) := by decide +kernel
theorem dX7_reduceBoth_26 : decode cX7_reduceBoth 26 = .ok (.iload_n 1, 1) := by decide +kernel
theorem dX7_reduceBoth_27 : decode cX7_reduceBoth 27 = .ok (.invokevirtual 153, 3) := by decide +kernel
theorem dX7_reduceBoth_30 : decode cX7_reduceBoth 30 = .ok (.aload_n 0, 1) := by decide +kernel
theorem dX7_reduceBoth_31 : decode cX7_reduceBoth 31 = .ok (.getfield 62, 3) := by decide +kernel
theorem dX7_reduceBoth_34 : decode cX7_reduceBoth 34 = .ok (.invokevirtual 150, 3) := by decide +kernel
theorem dX7_reduceBoth_37 : decode cX7_reduceBoth 37 = .ok (.aload_n 0, 1) := by decide +kernel
theorem dX7_reduceBoth_38 : decode cX7_reduceBoth 38 = .ok (.getfield 49, 3) := by decide +kernel
theorem dX7_reduceBoth_41 : decode cX7_reduceBoth 41 = .ok (.aload_n 0, 1) := by decide +kernel
theorem dX7_reduceBoth_42 : decode cX7_reduceBoth 42 = .ok (.getfield 62, 3) := by decide +kernel
theorem dX7_reduceBoth_45 : decode cX7_reduceBoth 45 = .ok (.iload_n 2, 1) := by decide +kernel
theorem dX7_reduceBoth_46 : decode cX7_reduceBoth 46 = .ok (.invokevirtual 153, 3) := by decide +kernel
theorem dX7_reduceBoth_49 : decode cX7_reduceBoth 49 = .ok (.return_, 1) := by decide +kernel
set_option maxRecDepth 20000 in
theorem ggX7_brokenClaims_X1_find : GoodIn wsX7_brokenClaims wsX1_find := goodIn_r _ [7, 8, 9, 10, 11, 12, 13, 14, 15, 16, 17, 18, 19, 20, 21, 22, 23, 24, 25, 26, 27, 28, 29, 30, 31, 6, 32, 33, 34, 35, 36, 37, 38, 39, 40, 88, 89, 90, 91, 92] (by decide +kernel) (by decide +kernel)
set_option maxRecDepth 20000 in
theorem gX7_brokenClaims_X1_find : GoodIn wsX7_brokenClaims (wsV RX7 149 RX1 yX1_find wsX1_find) := goodIn_app (goodIn_of _ (by decide +kernel)) ggX7_brokenClaims_X1_find
set_option maxRecDepth 20000 in
theorem ggX7_brokenClaims_X7_breakingLetter : GoodIn wsX7_brokenClaims wsX7_breakingLetter := goodIn_r _ [44, 2, 45, 10, 11, 12, 13, 14, 15, 16, 17, 46, 47, 48, 49, 50, 1, 51, 52, 53, 54, 55, 56, 57, 58, 59, 60, 61, 62, 19, 20, 21, 22, 23, 63, 30, 31, 6, 32, 8, 33, 34, 35, 36, 28, 37, 38, 39, 40, 64, 65, 66, 67, 68, 69, 70, 71, 72, 73, 74, 75, 76, 77, 78, 79, 80, 81, 82, 83, 84, 85, 86, 87, 89, 90, 91, 92, 88] (by decide +kernel) (by decide +kernel)
set_option maxRecDepth 20000 in
theorem gX7_brokenClaims_X7_breakingLetter : GoodIn wsX7_brokenClaims (wsV RX7 171 RX7 yX7_breakingLetter wsX7_breakingLetter) := goodIn_app (goodIn_of _ (by decide +kernel)) ggX7_brokenClaims_X7_breakingLetter
theorem dX7_brokenClaims_0 : decode cX7_brokenClaims 0 = .ok (.aload_n 0, 1) := by decide +kernel
theorem dX7_brokenClaims_1 : decode cX7_brokenClaims 1 = .ok (.getfield 49, 3) := by decide +kernel
theorem dX7_brokenClaims_4 : decode cX7_brokenClaims 4 = .ok (.aload_n 0, 1) := by decide +kernel
theorem dX7_brokenClaims_5 : decode cX7_brokenClaims 5 = .ok (.getfield 12, 3) := by decide +kernel
theorem dX7_brokenClaims_8 : decode cX7_brokenClaims 8 = .ok (.invokevirtual 149, 3) := by decide +kernel
theorem dX7_brokenClaims_11 : decode cX7_brokenClaims 11 = .ok (.iconst 0, 1) := by decide +kernel
theorem dX7_brokenClaims_12 : decode cX7_brokenClaims 12 = .ok (.istore_n 1, 1) := by decide +kernel
theorem dX7_brokenClaims_13 : decode cX7_brokenClaims 13 = .ok (.iconst 0, 1) := by decide +kernel
theorem dX7_brokenClaims_14 : decode cX7_brokenClaims 14 = .ok (.istore_n 2, 1) := by decide +kernel
theorem dX7_brokenClaims_15 : decode cX7_brokenClaims 15 = .ok (.iload_n 2, 1) := by decide +kernel
theorem dX7_brokenClaims_16 : decode cX7_brokenClaims 16 = .ok (.bipush 6, 2) := by decide +kernel
theorem dX7_brokenClaims_18 : decode cX7_brokenClaims 18 = .ok (.if_icmp .ge 25, 3) := by decide +kernel
theorem dX7_brokenClaims_21 : decode cX7_brokenClaims 21 = .ok (.aload_n 0, 1) := by decide +kernel
theorem dX7_brokenClaims_22 : decode cX7_brokenClaims 22 = .ok (.iload_n 2, 1) := by decide +kernel
theorem dX7_brokenClaims_23 : decode cX7_brokenClaims 23 = .ok (.invokevirtual 171, 3) := by decide +kernel
theorem dX7_brokenClaims_26 : decode cX7_brokenClaims 26 = .ok (.bipush (-9), 2) := by decide +kernel
theorem dX7_brokenClaims_28 : decode cX7_brokenClaims 28 = .ok (.if_icmp .eq 9, 3) := by decide +kernel
theorem dX7_brokenClaims_31 : decode cX7_brokenClaims 31 = .ok (.iload_n 1, 1) := by decide +kernel
theorem dX7_brokenClaims_32 : decode cX7_brokenClaims 32 = .ok (.iconst 1, 1) := by decide +kernel
theorem dX7_brokenClaims_33 : decode cX7_brokenClaims 33 = .ok (.iload_n 2, 1) := by decide +kernel
theorem dX7_brokenClaims_34 : decode cX7_brokenClaims 34 = .ok (.ishl, 1) := by decide +kernel
theorem dX7_brokenClaims_35 : decode cX7_brokenClaims 35 = .ok (.ior, 1) := by decide +kernel
theorem dX7_brokenClaims_36 : decode cX7_brokenClaims 36 = .ok (.istore_n 1, 1) := by decide +kernel
theorem dX7_brokenClaims_37 : decode cX7_brokenClaims 37 = .ok (.iinc 2 1, 3) := by decide +kernel
theorem dX7_brokenClaims_40 : decode cX7_brokenClaims 40 = .ok (.goto (-25), 3) := by decide +kernel
theorem dX7_brokenClaims_43 : decode cX7_brokenClaims 43 = .ok (.iload_n 1, 1) := by decide +kernel
theorem dX7_brokenClaims_44 : decode cX7_brokenClaims 44 = .ok (.ireturn, 1) := by decide +kernel
set_option maxRecDepth 20000 in
theorem ggX7_removeClaims_X6_setClaim : GoodIn wsX7_removeClaims wsX6_setClaim := goodIn_r _ [6, 7, 8, 9, 10, 19, 20] (by decide +kernel) (by decide +kernel)
set_option maxRecDepth 20000 in
theorem gX7_removeClaims_X6_setClaim : GoodIn wsX7_removeClaims (wsV RX7 145 RX6 yX6_setClaim wsX6_setClaim) := goodIn_app (goodIn_of _ (by decide +kernel)) ggX7_removeClaims_X6_setClaim
theorem dX7_removeClaims_0 : decode cX7_removeClaims 0 = .ok (.iconst 0, 1) := by decide +kernel
theorem dX7_removeClaims_1 : decode cX7_removeClaims 1 = .ok (.istore_n 2, 1) := by decide +kernel
theorem dX7_removeClaims_2 : decode cX7_removeClaims 2 = .ok (.iload_n 2, 1) := by decide +kernel
theorem dX7_removeClaims_3 : decode cX7_removeClaims 3 = .ok (.bipush 6, 2) := by decide +kernel
theorem dX7_removeClaims_5 : decode cX7_removeClaims 5 = .ok (.if_icmp .ge 28, 3) := by decide +kernel
theorem dX7_removeClaims_8 : decode cX7_removeClaims 8 = .ok (.iload_n 1, 1) := by decide +kernel
theorem dX7_removeClaims_9 : decode cX7_removeClaims 9 = .ok (.iload_n 2, 1) := by decide +kernel
theorem dX7_removeClaims_10 : decode cX7_removeClaims 10 = .ok (.ishr, 1) := by decide +kernel
theorem dX7_removeClaims_11 : decode cX7_removeClaims 11 = .ok (.iconst 1, 1) := by decide +kernel
theorem dX7_removeClaims_12 : decode cX7_removeClaims 12 = .ok (.iand, 1) := by decide +kernel
theorem dX7_removeClaims_13 : decode cX7_removeClaims 13 = .ok (.iconst 1, 1) := by decide +kernel
theorem dX7_removeClaims_14 : decode cX7_removeClaims 14 = .ok (.if_icmp .ne 13, 3) := by decide +kernel
theorem dX7_removeClaims_17 : decode cX7_removeClaims 17 = .ok (.aload_n 0, 1) := by decide +kernel
theorem dX7_removeClaims_18 : decode cX7_removeClaims 18 = .ok (.getfield 12, 3) := by decide +kernel
theorem dX7_removeClaims_21 : decode cX7_removeClaims 21 = .ok (.iload_n 2, 1) := by decide +kernel
theorem dX7_removeClaims_22 : decode cX7_removeClaims 22 = .ok (.bipush (-9), 2) := by decide +kernel
theorem dX7_removeClaims_24 : decode cX7_removeClaims 24 = .ok (.invokevirtual 145, 3) := by decide +kernel
theorem dX7_removeClaims_27 : decode cX7_removeClaims 27 = .ok (.iinc 2 1, 3) := by decide +kernel
theorem dX7_removeClaims_30 : decode cX7_removeClaims 30 = .ok (.goto (-28), 3) := by decide +kernel
theorem dX7_removeClaims_33 : decode cX7_removeClaims 33 = .ok (.return_, 1) := by decide +kernel
set_option maxRecDepth 20000 in
theorem ggX7_breakingLetter_X6_claimOf : GoodIn wsX7_breakingLetter wsX6_claimOf := goodIn_r _ [6, 7, 8, 9, 10, 73, 74] (by decide +kernel) (by decide +kernel)
set_option maxRecDepth 20000 in
theorem gX7_breakingLetter_X6_claimOf : GoodIn wsX7_breakingLetter (wsV RX7 142 RX6 yX6_claimOf wsX6_claimOf) := goodIn_app (goodIn_of _ (by decide +kernel)) ggX7_breakingLetter_X6_claimOf
set_option maxRecDepth 20000 in
theorem ggX7_breakingLetter_X7_isBrokenBy : GoodIn wsX7_breakingLetter wsX7_isBrokenBy := goodIn_r _ [14, 1, 15, 16, 17, 18, 19, 9, 20, 21, 22, 23, 5, 24, 25, 8, 10, 26, 27, 28, 29, 30, 31, 32, 33, 34, 35, 36, 37, 38, 39, 40, 41, 42, 43, 44, 45, 46, 47, 48, 49, 50, 51, 52, 53, 54, 55, 56, 57, 58, 59, 60, 61, 62, 63, 64, 65, 66, 67, 68, 69, 70, 71, 72, 73, 74, 75, 76, 77] (by decide +kernel) (by decide +kernel)
set_option maxRecDepth 20000 in
theorem gX7_breakingLetter_X7_isBrokenBy : GoodIn wsX7_breakingLetter (wsV RX7 216 RX7 yX7_isBrokenBy wsX7_isBrokenBy) := goodIn_app (goodIn_of _ (by decide +kernel)) ggX7_breakingLetter_X7_isBrokenBy
theorem dX7_breakingLetter_0 : decode cX7_breakingLetter 0 = .ok (.aload_n 0, 1) := by decide +kernel
theorem dX7_breakingLetter_1 : decode cX7_breakingLetter 1 = .ok (.getfield 12, 3) := by decide +kernel
theorem dX7_breakingLetter_4 : decode cX7_breakingLetter 4 = .ok (.iload_n 1, 1) := by decide +kernel
theorem dX7_breakingLetter_5 : decode cX7_breakingLetter 5 = .ok (.invokevirtual 142, 3) := by decide +kernel
theorem dX7_breakingLetter_8 : decode cX7_breakingLetter 8 = .ok (.istore_n 2, 1) := by decide +kernel
theorem dX7_breakingLetter_9 : decode cX7_breakingLetter 9 = .ok (.iconst 0, 1) := by decide +kernel
theorem dX7_breakingLetter_10 : decode cX7_breakingLetter 10 = .ok (.istore_n 3, 1) := by decide +kernel
theorem dX7_breakingLetter_11 : decode cX7_breakingLetter 11 = .ok (.iload_n 3, 1) := by decide +kernel
theorem dX7_breakingLetter_12 : decode cX7_breakingLetter 12 = .ok (.iconst 3, 1) := by decide +kernel
theorem dX7_breakingLetter_13 : decode cX7_breakingLetter 13 = .ok (.if_icmp .ge 27, 3) := by decide +kernel
theorem dX7_breakingLetter_16 : decode cX7_breakingLetter 16 = .ok (.iload_n 2, 1) := by decide +kernel
theorem dX7_breakingLetter_17 : decode cX7_breakingLetter 17 = .ok (.bipush (-9), 2) := by decide +kernel
theorem dX7_breakingLetter_19 : decode cX7_breakingLetter 19 = .ok (.if_icmp .eq 21, 3) := by decide +kernel
theorem dX7_breakingLetter_22 : decode cX7_breakingLetter 22 = .ok (.aload_n 0, 1) := by decide +kernel
theorem dX7_breakingLetter_23 : decode cX7_breakingLetter 23 = .ok (.iload_n 1, 1) := by decide +kernel
theorem dX7_breakingLetter_24 : decode cX7_breakingLetter 24 = .ok (.iload_n 2, 1) := by decide +kernel
theorem dX7_breakingLetter_25 : decode cX7_breakingLetter 25 = .ok (.iload_n 3, 1) := by decide +kernel
theorem dX7_breakingLetter_26 : decode cX7_breakingLetter 26 = .ok (.invokevirtual 216, 3) := by decide +kernel
theorem dX7_breakingLetter_29 : decode cX7_breakingLetter 29 = .ok (.ifCond .eq 5, 3) := by decide +kernel
theorem dX7_breakingLetter_32 : decode cX7_breakingLetter 32 = .ok (.iload_n 3, 1) := by decide +kernel
theorem dX7_breakingLetter_33 : decode cX7_breakingLetter 33 = .ok (.ireturn, 1) := by decide +kernel
theorem dX7_breakingLetter_34 : decode cX7_breakingLetter 34 = .ok (.iinc 3 1, 3) := by decide +kernel
theorem dX7_breakingLetter_37 : decode cX7_breakingLetter 37 = .ok (.goto (-26), 3) := by decide +kernel
theorem dX7_breakingLetter_40 : decode cX7_breakingLetter 40 = .ok (.bipush (-9), 2) := by decide +kernel
theorem dX7_breakingLetter_42 : decode cX7_breakingLetter 42 = .ok (.ireturn, 1) := by decide +kernel
set_option maxRecDepth 20000 in
theorem ggX7_isBrokenBy_X7_firstUnit : GoodIn wsX7_isBrokenBy wsX7_firstUnit := goodIn_r _ [8] (by decide +kernel) (by decide +kernel)
set_option maxRecDepth 20000 in
theorem gX7_isBrokenBy_X7_firstUnit : GoodIn wsX7_isBrokenBy (va_wsS RX7 219 yX7_firstUnit wsX7_firstUnit) := goodIn_app (goodIn_of _ (by decide +kernel)) ggX7_isBrokenBy_X7_firstUnit
set_option maxRecDepth 20000 in
theorem ggX7_isBrokenBy_X6_ruleOf : GoodIn wsX7_isBrokenBy wsX6_ruleOf := goodIn_r _ [13, 14, 15, 7, 16, 17, 18, 64, 65] (by decide +kernel) (by decide +kernel)
set_option maxRecDepth 20000 in
theorem gX7_isBrokenBy_X6_ruleOf : GoodIn wsX7_isBrokenBy (wsV RX7 80 RX6 yX6_ruleOf wsX6_ruleOf) := goodIn_app (goodIn_of _ (by decide +kernel)) ggX7_isBrokenBy_X6_ruleOf
set_option maxRecDepth 20000 in
theorem ggX7_isBrokenBy_X5_clear : GoodIn wsX7_isBrokenBy wsX5_clear := goodIn_r _ [23, 24, 66, 67] (by decide +kernel) (by decide +kernel)
set_option maxRecDepth 20000 in
theorem gX7_isBrokenBy_X5_clear : GoodIn wsX7_isBrokenBy (wsV RX7 150 RX5 yX5_clear wsX5_clear) := goodIn_app (goodIn_of _ (by decide +kernel)) ggX7_isBrokenBy_X5_clear
set_option maxRecDepth 20000 in
theorem ggX7_isBrokenBy_X1_putAhead : GoodIn wsX7_isBrokenBy wsX1_putAhead := goodIn_r _ [29, 30, 15, 7, 16, 31, 32, 33, 22, 34, 24, 35, 36, 37, 38, 39, 68, 66, 67] (by decide +kernel) (by decide +kernel)
set_option maxRecDepth 20000 in
theorem gX7_isBrokenBy_X1_putAhead : GoodIn wsX7_isBrokenBy (wsV RX7 153 RX1 yX1_putAhead wsX1_putAhead) := goodIn_app (goodIn_of _ (by decide +kernel)) ggX7_isBrokenBy_X1_putAhead
set_option maxRecDepth 20000 in
theorem ggX7_isBrokenBy_X5_isSame : GoodIn wsX7_isBrokenBy wsX5_isSame := goodIn_r _ [43, 24, 44, 45, 46, 22, 47, 48, 49, 50, 51, 52, 53, 54, 55, 35, 66, 67] (by decide +kernel) (by decide +kernel)
set_option maxRecDepth 20000 in
theorem gX7_isBrokenBy_X5_isSame : GoodIn wsX7_isBrokenBy (wsV RX7 160 RX5 yX5_isSame wsX5_isSame) := goodIn_app (goodIn_of _ (by decide +kernel)) ggX7_isBrokenBy_X5_isSame
theorem dX7_isBrokenBy_0 : decode cX7_isBrokenBy 0 = .ok (.iload_n 2, 1) := by decide +kernel
theorem dX7_isBrokenBy_1 : decode cX7_isBrokenBy 1 = .ok (.invokestatic 219, 3) := by decide +kernel
theorem dX7_isBrokenBy_4 : decode cX7_isBrokenBy 4 = .ok (.istore 4, 2) := by decide +kernel
theorem dX7_isBrokenBy_6 : decode cX7_isBrokenBy 6 = .ok (.aload_n 0, 1) := by decide +kernel
theorem dX7_isBrokenBy_7 : decode cX7_isBrokenBy 7 = .ok (.getfield 12, 3) := by decide +kernel
theorem dX7_isBrokenBy_10 : decode cX7_isBrokenBy 10 = .ok (.iload_n 1, 1) := by decide +kernel
theorem dX7_isBrokenBy_11 : decode cX7_isBrokenBy 11 = .ok (.iload_n 3, 1) := by decide +kernel
theorem dX7_isBrokenBy_12 : decode cX7_isBrokenBy 12 = .ok (.invokevirtual 80, 3) := by decide +kernel
theorem dX7_isBrokenBy_15 : decode cX7_isBrokenBy 15 = .ok (.istore 5, 2) := by decide +kernel
theorem dX7_isBrokenBy_17 : decode cX7_isBrokenBy 17 = .ok (.aload_n 0, 1) := by decide +kernel
theorem dX7_isBrokenBy_18 : decode cX7_isBrokenBy 18 = .ok (.getfield 12, 3) := by decide +kernel
theorem dX7_isBrokenBy_21 : decode cX7_isBrokenBy 21 = .ok (.iload_n 2, 1) := by decide +kernel
theorem dX7_isBrokenBy_22 : decode cX7_isBrokenBy 22 = .ok (.iload 4, 2) := by decide +kernel
theorem dX7_isBrokenBy_24 : decode cX7_isBrokenBy 24 = .ok (.idiv, 1) := by decide +kernel
theorem dX7_isBrokenBy_25 : decode cX7_isBrokenBy 25 = .ok (.iconst 1, 1) := by decide +kernel
theorem dX7_isBrokenBy_26 : decode cX7_isBrokenBy 26 = .ok (.isub, 1) := by decide +kernel
theorem dX7_isBrokenBy_27 : decode cX7_isBrokenBy 27 = .ok (.iload_n 3, 1) := by decide +kernel
theorem dX7_isBrokenBy_28 : decode cX7_isBrokenBy 28 = .ok (.invokevirtual 80, 3) := by decide +kernel
theorem dX7_isBrokenBy_31 : decode cX7_isBrokenBy 31 = .ok (.istore 6, 2) := by decide +kernel
theorem dX7_isBrokenBy_33 : decode cX7_isBrokenBy 33 = .ok (.iload 5, 2) := by decide +kernel
theorem dX7_isBrokenBy_35 : decode cX7_isBrokenBy 35 = .ok (.bipush (-9), 2) := by decide +kernel
theorem dX7_isBrokenBy_37 : decode cX7_isBrokenBy 37 = .ok (.if_icmp .eq 10, 3) := by decide +kernel
theorem dX7_isBrokenBy_40 : decode cX7_isBrokenBy 40 = .ok (.iload 6, 2) := by decide +kernel
theorem dX7_isBrokenBy_42 : decode cX7_isBrokenBy 42 = .ok (.bipush (-9), 2) := by decide +kernel
theorem dX7_isBrokenBy_44 : decode cX7_isBrokenBy 44 = .ok (.if_icmp .ne 16, 3) := by decide +kernel
theorem dX7_isBrokenBy_47 : decode cX7_isBrokenBy 47 = .ok (.iload 5, 2) := by decide +kernel
theorem dX7_isBrokenBy_49 : decode cX7_isBrokenBy 49 = .ok (.iload 6, 2) := by decide +kernel
theorem dX7_isBrokenBy_51 : decode cX7_isBrokenBy 51 = .ok (.if_icmp .eq 7, 3) := by decide +kernel
theorem dX7_isBrokenBy_54 : decode cX7_isBrokenBy 54 = .ok (.iconst 1, 1) := by decide +kernel
theorem dX7_isBrokenBy_55 : decode cX7_isBrokenBy 55 = .ok (.goto 4, 3) := by decide +kernel
theorem dX7_isBrokenBy_58 : decode cX7_isBrokenBy 58 = .ok (.iconst 0, 1) := by decide +kernel
theorem dX7_isBrokenBy_59 : decode cX7_isBrokenBy 59 = .ok (.ireturn, 1) := by decide +kernel
theorem dX7_isBrokenBy_60 : decode cX7_isBrokenBy 60 = .ok (.aload_n 0, 1) := by decide +kernel
theorem dX7_isBrokenBy_61 : decode cX7_isBrokenBy 61 = .ok (.getfield 58, 3) := by decide +kernel
theorem dX7_isBrokenBy_64 : decode cX7_isBrokenBy 64 = .ok (.invokevirtual 150, 3) := by decide +kernel
theorem dX7_isBrokenBy_67 : decode cX7_isBrokenBy 67 = .ok (.aload_n 0, 1) := by decide +kernel
theorem dX7_isBrokenBy_68 : decode cX7_isBrokenBy 68 = .ok (.getfield 49, 3) := by decide +kernel
theorem dX7_isBrokenBy_71 : decode cX7_isBrokenBy 71 = .ok (.aload_n 0, 1) := by decide +kernel
