theorem dX8_alikeFrom_27 : decode cX8_alikeFrom 27 = .ok (.getfield 136, 3) := by decide +kernel
theorem dX8_alikeFrom_30 : decode cX8_alikeFrom 30 = .ok (.iconst 1, 1) := by decide +kernel
theorem dX8_alikeFrom_31 : decode cX8_alikeFrom 31 = .ok (.isub, 1) := by decide +kernel
theorem dX8_alikeFrom_32 : decode cX8_alikeFrom 32 = .ok (.iload_n 2, 1) := by decide +kernel
theorem dX8_alikeFrom_33 : decode cX8_alikeFrom 33 = .ok (.isub, 1) := by decide +kernel
theorem dX8_alikeFrom_34 : decode cX8_alikeFrom 34 = .ok (.goto 4, 3) := by decide +kernel
theorem dX8_alikeFrom_37 : decode cX8_alikeFrom 37 = .ok (.iload_n 2, 1) := by decide +kernel
theorem dX8_alikeFrom_38 : decode cX8_alikeFrom 38 = .ok (.iaload, 1) := by decide +kernel
theorem dX8_alikeFrom_39 : decode cX8_alikeFrom 39 = .ok (.istore_n 3, 1) := by decide +kernel
theorem dX8_alikeFrom_40 : decode cX8_alikeFrom 40 = .ok (.aload_n 0, 1) := by decide +kernel
theorem dX8_alikeFrom_41 : decode cX8_alikeFrom 41 = .ok (.getfield 34, 3) := by decide +kernel
theorem dX8_alikeFrom_44 : decode cX8_alikeFrom 44 = .ok (.iload_n 1, 1) := by decide +kernel
theorem dX8_alikeFrom_45 : decode cX8_alikeFrom 45 = .ok (.ifCond .eq 14, 3) := by decide +kernel
theorem dX8_alikeFrom_48 : decode cX8_alikeFrom 48 = .ok (.aload_n 0, 1) := by decide +kernel
theorem dX8_alikeFrom_49 : decode cX8_alikeFrom 49 = .ok (.getfield 139, 3) := by decide +kernel
theorem dX8_alikeFrom_52 : decode cX8_alikeFrom 52 = .ok (.iconst 1, 1) := by decide +kernel
theorem dX8_alikeFrom_53 : decode cX8_alikeFrom 53 = .ok (.isub, 1) := by decide +kernel
theorem dX8_alikeFrom_54 : decode cX8_alikeFrom 54 = .ok (.iload_n 2, 1) := by decide +kernel
theorem dX8_alikeFrom_55 : decode cX8_alikeFrom 55 = .ok (.isub, 1) := by decide +kernel
theorem dX8_alikeFrom_56 : decode cX8_alikeFrom 56 = .ok (.goto 4, 3) := by decide +kernel
theorem dX8_alikeFrom_59 : decode cX8_alikeFrom 59 = .ok (.iload_n 2, 1) := by decide +kernel
theorem dX8_alikeFrom_60 : decode cX8_alikeFrom 60 = .ok (.iaload, 1) := by decide +kernel
theorem dX8_alikeFrom_61 : decode cX8_alikeFrom 61 = .ok (.istore 4, 2) := by decide +kernel
theorem dX8_alikeFrom_63 : decode cX8_alikeFrom 63 = .ok (.iload_n 3, 1) := by decide +kernel
theorem dX8_alikeFrom_64 : decode cX8_alikeFrom 64 = .ok (.iload 4, 2) := by decide +kernel
theorem dX8_alikeFrom_66 : decode cX8_alikeFrom 66 = .ok (.if_icmp .eq 5, 3) := by decide +kernel
theorem dX8_alikeFrom_69 : decode cX8_alikeFrom 69 = .ok (.iload_n 2, 1) := by decide +kernel
theorem dX8_alikeFrom_70 : decode cX8_alikeFrom 70 = .ok (.ireturn, 1) := by decide +kernel
theorem dX8_alikeFrom_71 : decode cX8_alikeFrom 71 = .ok (.iinc 2 1, 3) := by decide +kernel
theorem dX8_alikeFrom_74 : decode cX8_alikeFrom 74 = .ok (.goto (-72), 3) := by decide +kernel
theorem dX8_alikeFrom_77 : decode cX8_alikeFrom 77 = .ok (.iload_n 2, 1) := by decide +kernel
theorem dX8_alikeFrom_78 : decode cX8_alikeFrom 78 = .ok (.ireturn, 1) := by decide +kernel
set_option maxRecDepth 20000 in
theorem ggX8_areAlike_X8_alikeFrom : GoodIn wsX8_areAlike wsX8_alikeFrom := goodIn_r _ [7, 1, 2, 8, 9, 10, 11, 12, 13, 14, 15, 16, 17, 18, 19, 20, 21, 22, 23] (by decide +kernel) (by decide +kernel)
set_option maxRecDepth 20000 in
theorem gX8_areAlike_X8_alikeFrom : GoodIn wsX8_areAlike (wsV RX8 142 RX8 yX8_alikeFrom wsX8_alikeFrom) := goodIn_app (goodIn_of _ (by decide +kernel)) ggX8_areAlike_X8_alikeFrom
theorem dX8_areAlike_0 : decode cX8_areAlike 0 = .ok (.aload_n 0, 1) := by decide +kernel
theorem dX8_areAlike_1 : decode cX8_areAlike 1 = .ok (.getfield 136, 3) := by decide +kernel
theorem dX8_areAlike_4 : decode cX8_areAlike 4 = .ok (.aload_n 0, 1) := by decide +kernel
theorem dX8_areAlike_5 : decode cX8_areAlike 5 = .ok (.getfield 139, 3) := by decide +kernel
theorem dX8_areAlike_8 : decode cX8_areAlike 8 = .ok (.if_icmp .ne 19, 3) := by decide +kernel
theorem dX8_areAlike_11 : decode cX8_areAlike 11 = .ok (.aload_n 0, 1) := by decide +kernel
theorem dX8_areAlike_12 : decode cX8_areAlike 12 = .ok (.iconst 0, 1) := by decide +kernel
theorem dX8_areAlike_13 : decode cX8_areAlike 13 = .ok (.invokevirtual 142, 3) := by decide +kernel
theorem dX8_areAlike_16 : decode cX8_areAlike 16 = .ok (.aload_n 0, 1) := by decide +kernel
theorem dX8_areAlike_17 : decode cX8_areAlike 17 = .ok (.getfield 136, 3) := by decide +kernel
theorem dX8_areAlike_20 : decode cX8_areAlike 20 = .ok (.if_icmp .ne 7, 3) := by decide +kernel
theorem dX8_areAlike_23 : decode cX8_areAlike 23 = .ok (.iconst 1, 1) := by decide +kernel
theorem dX8_areAlike_24 : decode cX8_areAlike 24 = .ok (.goto 4, 3) := by decide +kernel
theorem dX8_areAlike_27 : decode cX8_areAlike 27 = .ok (.iconst 0, 1) := by decide +kernel
theorem dX8_areAlike_28 : decode cX8_areAlike 28 = .ok (.ireturn, 1) := by decide +kernel
set_option maxRecDepth 20000 in
theorem ggX8_reduced_X8_isRow : GoodIn wsX8_reduced wsX8_isRow := goodIn_r _ [6, 7, 8, 5, 9, 10, 11, 12, 13] (by decide +kernel) (by decide +kernel)
set_option maxRecDepth 20000 in
theorem gX8_reduced_X8_isRow : GoodIn wsX8_reduced (va_wsS RX8 61 yX8_isRow wsX8_isRow) := goodIn_app (goodIn_of _ (by decide +kernel)) ggX8_reduced_X8_isRow
set_option maxRecDepth 20000 in
theorem ggX8_reduced_X8_reducesBoth : GoodIn wsX8_reduced wsX8_reducesBoth := goodIn_r _ [17, 2, 1, 18, 19, 20, 21, 5, 22, 7, 8, 9, 10, 11, 12, 13, 23, 24, 25, 26, 27, 28, 29, 30, 31, 32, 33, 34, 35, 36, 37, 38, 39, 40, 41, 42, 43, 44, 45, 46, 47, 48, 49] (by decide +kernel) (by decide +kernel)
set_option maxRecDepth 20000 in
theorem gX8_reduced_X8_reducesBoth : GoodIn wsX8_reduced (wsV RX8 146 RX8 yX8_reducesBoth wsX8_reducesBoth) := goodIn_app (goodIn_of _ (by decide +kernel)) ggX8_reduced_X8_reducesBoth
theorem dX8_reduced_0 : decode cX8_reduced 0 = .ok (.iload_n 1, 1) := by decide +kernel
theorem dX8_reduced_1 : decode cX8_reduced 1 = .ok (.bipush 9, 2) := by decide +kernel
theorem dX8_reduced_3 : decode cX8_reduced 3 = .ok (.invokestatic 61, 3) := by decide +kernel
theorem dX8_reduced_6 : decode cX8_reduced 6 = .ok (.ifCond .eq 8, 3) := by decide +kernel
theorem dX8_reduced_9 : decode cX8_reduced 9 = .ok (.iload_n 2, 1) := by decide +kernel
theorem dX8_reduced_10 : decode cX8_reduced 10 = .ok (.iconst (-1), 1) := by decide +kernel
theorem dX8_reduced_11 : decode cX8_reduced 11 = .ok (.if_icmp .ge 6, 3) := by decide +kernel
theorem dX8_reduced_14 : decode cX8_reduced 14 = .ok (.bipush (-2), 2) := by decide +kernel
theorem dX8_reduced_16 : decode cX8_reduced 16 = .ok (.ireturn, 1) := by decide +kernel
theorem dX8_reduced_17 : decode cX8_reduced 17 = .ok (.aload_n 0, 1) := by decide +kernel
theorem dX8_reduced_18 : decode cX8_reduced 18 = .ok (.iload_n 1, 1) := by decide +kernel
theorem dX8_reduced_19 : decode cX8_reduced 19 = .ok (.iconst 0, 1) := by decide +kernel
theorem dX8_reduced_20 : decode cX8_reduced 20 = .ok (.invokevirtual 146, 3) := by decide +kernel
theorem dX8_reduced_23 : decode cX8_reduced 23 = .ok (.iload_n 2, 1) := by decide +kernel
theorem dX8_reduced_24 : decode cX8_reduced 24 = .ok (.iconst (-1), 1) := by decide +kernel
theorem dX8_reduced_25 : decode cX8_reduced 25 = .ok (.if_icmp .ne 10, 3) := by decide +kernel
theorem dX8_reduced_28 : decode cX8_reduced 28 = .ok (.aload_n 0, 1) := by decide +kernel
theorem dX8_reduced_29 : decode cX8_reduced 29 = .ok (.getfield 136, 3) := by decide +kernel
theorem dX8_reduced_32 : decode cX8_reduced 32 = .ok (.goto 22, 3) := by decide +kernel
theorem dX8_reduced_35 : decode cX8_reduced 35 = .ok (.iload_n 2, 1) := by decide +kernel
theorem dX8_reduced_36 : decode cX8_reduced 36 = .ok (.aload_n 0, 1) := by decide +kernel
theorem dX8_reduced_37 : decode cX8_reduced 37 = .ok (.getfield 136, 3) := by decide +kernel
theorem dX8_reduced_40 : decode cX8_reduced 40 = .ok (.if_icmp .ge 12, 3) := by decide +kernel
theorem dX8_reduced_43 : decode cX8_reduced 43 = .ok (.aload_n 0, 1) := by decide +kernel
theorem dX8_reduced_44 : decode cX8_reduced 44 = .ok (.getfield 31, 3) := by decide +kernel
theorem dX8_reduced_47 : decode cX8_reduced 47 = .ok (.iload_n 2, 1) := by decide +kernel
theorem dX8_reduced_48 : decode cX8_reduced 48 = .ok (.iaload, 1) := by decide +kernel
theorem dX8_reduced_49 : decode cX8_reduced 49 = .ok (.goto 5, 3) := by decide +kernel
theorem dX8_reduced_52 : decode cX8_reduced 52 = .ok (.bipush (-9), 2) := by decide +kernel
theorem dX8_reduced_54 : decode cX8_reduced 54 = .ok (.ireturn, 1) := by decide +kernel
set_option maxRecDepth 20000 in
theorem ggX8_alike_X8_isRow : GoodIn wsX8_alike wsX8_isRow := goodIn_r _ [4, 5, 6, 3, 7, 8, 9, 10, 11] (by decide +kernel) (by decide +kernel)
set_option maxRecDepth 20000 in
theorem gX8_alike_X8_isRow : GoodIn wsX8_alike (va_wsS RX8 61 yX8_isRow wsX8_isRow) := goodIn_app (goodIn_of _ (by decide +kernel)) ggX8_alike_X8_isRow
set_option maxRecDepth 20000 in
theorem ggX8_alike_X8_reducesBoth : GoodIn wsX8_alike wsX8_reducesBoth := goodIn_r _ [15, 16, 17, 18, 19, 20, 21, 3, 22, 5, 6, 7, 8, 9, 10, 11, 23, 24, 25, 26, 27, 28, 29, 30, 31, 32, 33, 34, 35, 44, 45, 46, 47, 48, 49, 50, 51, 52, 53, 54, 55, 56, 57] (by decide +kernel) (by decide +kernel)
set_option maxRecDepth 20000 in
theorem gX8_alike_X8_reducesBoth : GoodIn wsX8_alike (wsV RX8 146 RX8 yX8_reducesBoth wsX8_reducesBoth) := goodIn_app (goodIn_of _ (by decide +kernel)) ggX8_alike_X8_reducesBoth
set_option maxRecDepth 20000 in
theorem ggX8_alike_X8_areAlike : GoodIn wsX8_alike wsX8_areAlike := goodIn_r _ [39, 17, 19, 40, 41, 42, 3, 43, 16, 18, 44, 45, 46, 47, 48, 49, 50, 51, 52, 53, 54, 55, 56, 57] (by decide +kernel) (by decide +kernel)
set_option maxRecDepth 20000 in
theorem gX8_alike_X8_areAlike : GoodIn wsX8_alike (wsV RX8 149 RX8 yX8_areAlike wsX8_areAlike) := goodIn_app (goodIn_of _ (by decide +kernel)) ggX8_alike_X8_areAlike
theorem dX8_alike_0 : decode cX8_alike 0 = .ok (.iload_n 1, 1) := by decide +kernel
theorem dX8_alike_1 : decode cX8_alike 1 = .ok (.bipush 9, 2) := by decide +kernel
theorem dX8_alike_3 : decode cX8_alike 3 = .ok (.invokestatic 61, 3) := by decide +kernel
theorem dX8_alike_6 : decode cX8_alike 6 = .ok (.ifCond .eq 12, 3) := by decide +kernel
theorem dX8_alike_9 : decode cX8_alike 9 = .ok (.iload_n 2, 1) := by decide +kernel
theorem dX8_alike_10 : decode cX8_alike 10 = .ok (.bipush 9, 2) := by decide +kernel
theorem dX8_alike_12 : decode cX8_alike 12 = .ok (.invokestatic 61, 3) := by decide +kernel
theorem dX8_alike_15 : decode cX8_alike 15 = .ok (.ifCond .ne 6, 3) := by decide +kernel
theorem dX8_alike_18 : decode cX8_alike 18 = .ok (.bipush (-2), 2) := by decide +kernel
theorem dX8_alike_20 : decode cX8_alike 20 = .ok (.ireturn, 1) := by decide +kernel
theorem dX8_alike_21 : decode cX8_alike 21 = .ok (.aload_n 0, 1) := by decide +kernel
theorem dX8_alike_22 : decode cX8_alike 22 = .ok (.iload_n 1, 1) := by decide +kernel
theorem dX8_alike_23 : decode cX8_alike 23 = .ok (.iload_n 2, 1) := by decide +kernel
theorem dX8_alike_24 : decode cX8_alike 24 = .ok (.invokevirtual 146, 3) := by decide +kernel
theorem dX8_alike_27 : decode cX8_alike 27 = .ok (.aload_n 0, 1) := by decide +kernel
theorem dX8_alike_28 : decode cX8_alike 28 = .ok (.invokevirtual 149, 3) := by decide +kernel
theorem dX8_alike_31 : decode cX8_alike 31 = .ok (.ifCond .eq 7, 3) := by decide +kernel
theorem dX8_alike_34 : decode cX8_alike 34 = .ok (.iconst 1, 1) := by decide +kernel
theorem dX8_alike_35 : decode cX8_alike 35 = .ok (.goto 4, 3) := by decide +kernel
theorem dX8_alike_38 : decode cX8_alike 38 = .ok (.iconst 0, 1) := by decide +kernel
theorem dX8_alike_39 : decode cX8_alike 39 = .ok (.ireturn, 1) := by decide +kernel
set_option maxRecDepth 20000 in
theorem ggX8_common_X8_isRow : GoodIn wsX8_common wsX8_isRow := goodIn_r _ [4, 5, 6, 3, 7, 8, 9, 10, 11] (by decide +kernel) (by decide +kernel)
set_option maxRecDepth 20000 in
theorem gX8_common_X8_isRow : GoodIn wsX8_common (va_wsS RX8 61 yX8_isRow wsX8_isRow) := goodIn_app (goodIn_of _ (by decide +kernel)) ggX8_common_X8_isRow
set_option maxRecDepth 20000 in
theorem ggX8_common_X8_within : GoodIn wsX8_common wsX8_within := goodIn_r _ [11] (by decide +kernel) (by decide +kernel)
set_option maxRecDepth 20000 in
theorem gX8_common_X8_within : GoodIn wsX8_common (va_wsS RX8 40 yX8_within wsX8_within) := goodIn_app (goodIn_of _ (by decide +kernel)) ggX8_common_X8_within
set_option maxRecDepth 20000 in
theorem ggX8_common_X8_reducesBoth : GoodIn wsX8_common wsX8_reducesBoth := goodIn_r _ [15, 16, 17, 18, 19, 20, 21, 3, 22, 5, 6, 7, 8, 9, 10, 11, 23, 24, 25, 26, 27, 28, 29, 30, 31, 32, 33, 34, 35, 40, 41, 42, 43, 44, 45, 46, 47, 48, 49, 50, 51, 52, 53] (by decide +kernel) (by decide +kernel)
set_option maxRecDepth 20000 in
theorem gX8_common_X8_reducesBoth : GoodIn wsX8_common (wsV RX8 146 RX8 yX8_reducesBoth wsX8_reducesBoth) := goodIn_app (goodIn_of _ (by decide +kernel)) ggX8_common_X8_reducesBoth
set_option maxRecDepth 20000 in
theorem ggX8_common_X8_alikeFrom : GoodIn wsX8_common wsX8_alikeFrom := goodIn_r _ [39, 17, 19, 16, 18, 40, 41, 42, 43, 44, 45, 46, 47, 48, 49, 50, 51, 52, 53] (by decide +kernel) (by decide +kernel)
set_option maxRecDepth 20000 in
theorem gX8_common_X8_alikeFrom : GoodIn wsX8_common (wsV RX8 142 RX8 yX8_alikeFrom wsX8_alikeFrom) := goodIn_app (goodIn_of _ (by decide +kernel)) ggX8_common_X8_alikeFrom
theorem dX8_common_0 : decode cX8_common 0 = .ok (.iload_n 1, 1) := by decide +kernel
theorem dX8_common_1 : decode cX8_common 1 = .ok (.bipush 9, 2) := by decide +kernel
theorem dX8_common_3 : decode cX8_common 3 = .ok (.invokestatic 61, 3) := by decide +kernel
theorem dX8_common_6 : decode cX8_common 6 = .ok (.ifCond .eq 21, 3) := by decide +kernel
theorem dX8_common_9 : decode cX8_common 9 = .ok (.iload_n 2, 1) := by decide +kernel
theorem dX8_common_10 : decode cX8_common 10 = .ok (.bipush 9, 2) := by decide +kernel
theorem dX8_common_12 : decode cX8_common 12 = .ok (.invokestatic 61, 3) := by decide +kernel
theorem dX8_common_15 : decode cX8_common 15 = .ok (.ifCond .eq 12, 3) := by decide +kernel
theorem dX8_common_18 : decode cX8_common 18 = .ok (.iload_n 3, 1) := by decide +kernel
theorem dX8_common_19 : decode cX8_common 19 = .ok (.iconst 0, 1) := by decide +kernel
theorem dX8_common_20 : decode cX8_common 20 = .ok (.iconst 1, 1) := by decide +kernel
theorem dX8_common_21 : decode cX8_common 21 = .ok (.invokestatic 40, 3) := by decide +kernel
theorem dX8_common_24 : decode cX8_common 24 = .ok (.ifCond .ne 6, 3) := by decide +kernel
theorem dX8_common_27 : decode cX8_common 27 = .ok (.bipush (-2), 2) := by decide +kernel
theorem dX8_common_29 : decode cX8_common 29 = .ok (.ireturn, 1) := by decide +kernel
theorem dX8_common_30 : decode cX8_common 30 = .ok (.aload_n 0, 1) := by decide +kernel
theorem dX8_common_31 : decode cX8_common 31 = .ok (.iload_n 1, 1) := by decide +kernel
theorem dX8_common_32 : decode cX8_common 32 = .ok (.iload_n 2, 1) := by decide +kernel
theorem dX8_common_33 : decode cX8_common 33 = .ok (.invokevirtual 146, 3) := by decide +kernel
theorem dX8_common_36 : decode cX8_common 36 = .ok (.aload_n 0, 1) := by decide +kernel
theorem dX8_common_37 : decode cX8_common 37 = .ok (.iload_n 3, 1) := by decide +kernel
theorem dX8_common_38 : decode cX8_common 38 = .ok (.iconst 1, 1) := by decide +kernel
theorem dX8_common_39 : decode cX8_common 39 = .ok (.if_icmp .ne 7, 3) := by decide +kernel
theorem dX8_common_42 : decode cX8_common 42 = .ok (.iconst 1, 1) := by decide +kernel
theorem dX8_common_43 : decode cX8_common 43 = .ok (.goto 4, 3) := by decide +kernel
theorem dX8_common_46 : decode cX8_common 46 = .ok (.iconst 0, 1) := by decide +kernel
theorem dX8_common_47 : decode cX8_common 47 = .ok (.invokevirtual 142, 3) := by decide +kernel
theorem dX8_common_50 : decode cX8_common 50 = .ok (.ireturn, 1) := by decide +kernel
set_option maxRecDepth 20000 in
theorem ggX8_breaks_X8_claimOf : GoodIn wsX8_breaks wsX8_claimOf := goodIn_r _ [9, 10, 41, 42, 43, 44, 45, 46, 47, 48, 49, 50, 51, 52, 53, 54] (by decide +kernel) (by decide +kernel)
set_option maxRecDepth 20000 in
theorem gX8_breaks_X8_claimOf : GoodIn wsX8_breaks (wsV RX8 125 RX8 yX8_claimOf wsX8_claimOf) := goodIn_app (goodIn_of _ (by decide +kernel)) ggX8_breaks_X8_claimOf
set_option maxRecDepth 20000 in
theorem ggX8_breaks_X8_digits : GoodIn wsX8_breaks wsX8_digits := goodIn_r _ [13, 14, 15, 16, 8, 17] (by decide +kernel) (by decide +kernel)
set_option maxRecDepth 20000 in
theorem gX8_breaks_X8_digits : GoodIn wsX8_breaks (va_wsS RX8 46 yX8_digits wsX8_digits) := goodIn_app (goodIn_of _ (by decide +kernel)) ggX8_breaks_X8_digits
set_option maxRecDepth 20000 in
theorem ggX8_breaks_X8_ruleOf : GoodIn wsX8_breaks wsX8_ruleOf := goodIn_r _ [21, 10, 41, 42, 43, 44, 45, 46, 47, 48, 49, 50, 51, 52, 53, 54] (by decide +kernel) (by decide +kernel)
set_option maxRecDepth 20000 in
theorem gX8_breaks_X8_ruleOf : GoodIn wsX8_breaks (wsV RX8 68 RX8 yX8_ruleOf wsX8_ruleOf) := goodIn_app (goodIn_of _ (by decide +kernel)) ggX8_breaks_X8_ruleOf
set_option maxRecDepth 20000 in
theorem ggX8_breaks_X8_digitAt : GoodIn wsX8_breaks wsX8_digitAt := goodIn_r _ [24, 14] (by decide +kernel) (by decide +kernel)
set_option maxRecDepth 20000 in
theorem gX8_breaks_X8_digitAt : GoodIn wsX8_breaks (va_wsS RX8 75 yX8_digitAt wsX8_digitAt) := goodIn_app (goodIn_of _ (by decide +kernel)) ggX8_breaks_X8_digitAt
set_option maxRecDepth 20000 in
theorem ggX8_breaks_X8_lays : GoodIn wsX8_breaks wsX8_lays := goodIn_r _ [27, 11, 12, 8, 13, 14, 15, 16, 17, 22, 23, 24] (by decide +kernel) (by decide +kernel)
set_option maxRecDepth 20000 in
theorem gX8_breaks_X8_lays : GoodIn wsX8_breaks (va_wsS RX8 128 yX8_lays wsX8_lays) := goodIn_app (goodIn_of _ (by decide +kernel)) ggX8_breaks_X8_lays
set_option maxRecDepth 20000 in
theorem ggX8_breaks_X8_reduces : GoodIn wsX8_breaks wsX8_reduces := goodIn_r _ [31, 32, 5, 6, 7, 8, 9, 10, 25, 26, 27, 11, 12, 13, 14, 15, 16, 17, 22, 23, 24, 41, 42, 43, 44, 45, 46, 47, 48, 49, 50, 51, 52, 53, 54] (by decide +kernel) (by decide +kernel)
set_option maxRecDepth 20000 in
theorem gX8_breaks_X8_reduces : GoodIn wsX8_breaks (wsV RX8 132 RX8 yX8_reduces wsX8_reduces) := goodIn_app (goodIn_of _ (by decide +kernel)) ggX8_breaks_X8_reduces
set_option maxRecDepth 20000 in
theorem ggX8_breaks_X8_areAlike : GoodIn wsX8_breaks wsX8_areAlike := goodIn_r _ [36, 2, 4, 37, 38, 39, 8, 40, 1, 3, 41, 42, 43, 44, 45, 46, 47, 48, 49, 50, 51, 52, 53, 54] (by decide +kernel) (by decide +kernel)
set_option maxRecDepth 20000 in
theorem gX8_breaks_X8_areAlike : GoodIn wsX8_breaks (wsV RX8 149 RX8 yX8_areAlike wsX8_areAlike) := goodIn_app (goodIn_of _ (by decide +kernel)) ggX8_breaks_X8_areAlike
theorem dX8_breaks_0 : decode cX8_breaks 0 = .ok (.aload_n 0, 1) := by decide +kernel
theorem dX8_breaks_1 : decode cX8_breaks 1 = .ok (.iload_n 1, 1) := by decide +kernel
theorem dX8_breaks_2 : decode cX8_breaks 2 = .ok (.invokevirtual 125, 3) := by decide +kernel
theorem dX8_breaks_5 : decode cX8_breaks 5 = .ok (.istore_n 3, 1) := by decide +kernel
theorem dX8_breaks_6 : decode cX8_breaks 6 = .ok (.iload_n 3, 1) := by decide +kernel
theorem dX8_breaks_7 : decode cX8_breaks 7 = .ok (.i2l, 1) := by decide +kernel
theorem dX8_breaks_8 : decode cX8_breaks 8 = .ok (.bipush 6, 2) := by decide +kernel
theorem dX8_breaks_10 : decode cX8_breaks 10 = .ok (.invokestatic 46, 3) := by decide +kernel
theorem dX8_breaks_13 : decode cX8_breaks 13 = .ok (.istore 4, 2) := by decide +kernel
theorem dX8_breaks_15 : decode cX8_breaks 15 = .ok (.aload_n 0, 1) := by decide +kernel
theorem dX8_breaks_16 : decode cX8_breaks 16 = .ok (.iload_n 1, 1) := by decide +kernel
theorem dX8_breaks_17 : decode cX8_breaks 17 = .ok (.iload_n 2, 1) := by decide +kernel
theorem dX8_breaks_18 : decode cX8_breaks 18 = .ok (.invokevirtual 68, 3) := by decide +kernel
theorem dX8_breaks_21 : decode cX8_breaks 21 = .ok (.istore 5, 2) := by decide +kernel
theorem dX8_breaks_23 : decode cX8_breaks 23 = .ok (.aload_n 0, 1) := by decide +kernel
theorem dX8_breaks_24 : decode cX8_breaks 24 = .ok (.iload_n 3, 1) := by decide +kernel
theorem dX8_breaks_25 : decode cX8_breaks 25 = .ok (.i2l, 1) := by decide +kernel
theorem dX8_breaks_26 : decode cX8_breaks 26 = .ok (.iload 4, 2) := by decide +kernel
theorem dX8_breaks_28 : decode cX8_breaks 28 = .ok (.iconst 0, 1) := by decide +kernel
theorem dX8_breaks_29 : decode cX8_breaks 29 = .ok (.invokestatic 75, 3) := by decide +kernel
theorem dX8_breaks_32 : decode cX8_breaks 32 = .ok (.iload_n 2, 1) := by decide +kernel
theorem dX8_breaks_33 : decode cX8_breaks 33 = .ok (.invokevirtual 68, 3) := by decide +kernel
theorem dX8_breaks_36 : decode cX8_breaks 36 = .ok (.istore 6, 2) := by decide +kernel
theorem dX8_breaks_38 : decode cX8_breaks 38 = .ok (.iload 5, 2) := by decide +kernel
theorem dX8_breaks_40 : decode cX8_breaks 40 = .ok (.bipush (-9), 2) := by decide +kernel
theorem dX8_breaks_42 : decode cX8_breaks 42 = .ok (.if_icmp .eq 10, 3) := by decide +kernel
theorem dX8_breaks_45 : decode cX8_breaks 45 = .ok (.iload 6, 2) := by decide +kernel
theorem dX8_breaks_47 : decode cX8_breaks 47 = .ok (.bipush (-9), 2) := by decide +kernel
theorem dX8_breaks_49 : decode cX8_breaks 49 = .ok (.if_icmp .ne 16, 3) := by decide +kernel
theorem dX8_breaks_52 : decode cX8_breaks 52 = .ok (.iload 5, 2) := by decide +kernel
theorem dX8_breaks_54 : decode cX8_breaks 54 = .ok (.iload 6, 2) := by decide +kernel
theorem dX8_breaks_56 : decode cX8_breaks 56 = .ok (.if_icmp .eq 7, 3) := by decide +kernel
theorem dX8_breaks_59 : decode cX8_breaks 59 = .ok (.iconst 1, 1) := by decide +kernel
theorem dX8_breaks_60 : decode cX8_breaks 60 = .ok (.goto 4, 3) := by decide +kernel
theorem dX8_breaks_63 : decode cX8_breaks 63 = .ok (.iconst 0, 1) := by decide +kernel
theorem dX8_breaks_64 : decode cX8_breaks 64 = .ok (.ireturn, 1) := by decide +kernel
theorem dX8_breaks_65 : decode cX8_breaks 65 = .ok (.aload_n 0, 1) := by decide +kernel
theorem dX8_breaks_66 : decode cX8_breaks 66 = .ok (.aload_n 0, 1) := by decide +kernel
theorem dX8_breaks_67 : decode cX8_breaks 67 = .ok (.aload_n 0, 1) := by decide +kernel
theorem dX8_breaks_68 : decode cX8_breaks 68 = .ok (.getfield 31, 3) := by decide +kernel
theorem dX8_breaks_71 : decode cX8_breaks 71 = .ok (.iload 5, 2) := by decide +kernel
theorem dX8_breaks_73 : decode cX8_breaks 73 = .ok (.aload_n 0, 1) := by decide +kernel
theorem dX8_breaks_74 : decode cX8_breaks 74 = .ok (.getfield 31, 3) := by decide +kernel
theorem dX8_breaks_77 : decode cX8_breaks 77 = .ok (.iconst 0, 1) := by decide +kernel
theorem dX8_breaks_78 : decode cX8_breaks 78 = .ok (.invokestatic 128, 3) := by decide +kernel
theorem dX8_breaks_81 : decode cX8_breaks 81 = .ok (.invokevirtual 132, 3) := by decide +kernel
theorem dX8_breaks_84 : decode cX8_breaks 84 = .ok (.putfield 136, 3) := by decide +kernel
theorem dX8_breaks_87 : decode cX8_breaks 87 = .ok (.iload 6, 2) := by decide +kernel
theorem dX8_breaks_89 : decode cX8_breaks 89 = .ok (.aload_n 0, 1) := by decide +kernel
theorem dX8_breaks_90 : decode cX8_breaks 90 = .ok (.getfield 34, 3) := by decide +kernel
theorem dX8_breaks_93 : decode cX8_breaks 93 = .ok (.iconst 0, 1) := by decide +kernel
theorem dX8_breaks_94 : decode cX8_breaks 94 = .ok (.invokestatic 128, 3) := by decide +kernel
theorem dX8_breaks_97 : decode cX8_breaks 97 = .ok (.istore 7, 2) := by decide +kernel
theorem dX8_breaks_99 : decode cX8_breaks 99 = .ok (.iconst 1, 1) := by decide +kernel
theorem dX8_breaks_100 : decode cX8_breaks 100 = .ok (.istore 8, 2) := by decide +kernel
theorem dX8_breaks_102 : decode cX8_breaks 102 = .ok (.iload 8, 2) := by decide +kernel
theorem dX8_breaks_104 : decode cX8_breaks 104 = .ok (.iload 4, 2) := by decide +kernel
theorem dX8_breaks_106 : decode cX8_breaks 106 = .ok (.if_icmp .ge 28, 3) := by decide +kernel
theorem dX8_breaks_109 : decode cX8_breaks 109 = .ok (.aload_n 0, 1) := by decide +kernel
theorem dX8_breaks_110 : decode cX8_breaks 110 = .ok (.getfield 34, 3) := by decide +kernel
theorem dX8_breaks_113 : decode cX8_breaks 113 = .ok (.iload 7, 2) := by decide +kernel
theorem dX8_breaks_115 : decode cX8_breaks 115 = .ok (.iload_n 3, 1) := by decide +kernel
theorem dX8_breaks_116 : decode cX8_breaks 116 = .ok (.i2l, 1) := by decide +kernel
theorem dX8_breaks_117 : decode cX8_breaks 117 = .ok (.iload 4, 2) := by decide +kernel
theorem dX8_breaks_119 : decode cX8_breaks 119 = .ok (.iload 8, 2) := by decide +kernel
theorem dX8_breaks_121 : decode cX8_breaks 121 = .ok (.invokestatic 75, 3) := by decide +kernel
theorem dX8_breaks_124 : decode cX8_breaks 124 = .ok (.iastore, 1) := by decide +kernel
theorem dX8_breaks_125 : decode cX8_breaks 125 = .ok (.iinc 7 1, 3) := by decide +kernel
theorem dX8_breaks_128 : decode cX8_breaks 128 = .ok (.iinc 8 1, 3) := by decide +kernel
theorem dX8_breaks_131 : decode cX8_breaks 131 = .ok (.goto (-29), 3) := by decide +kernel
theorem dX8_breaks_134 : decode cX8_breaks 134 = .ok (.aload_n 0, 1) := by decide +kernel
theorem dX8_breaks_135 : decode cX8_breaks 135 = .ok (.aload_n 0, 1) := by decide +kernel
theorem dX8_breaks_136 : decode cX8_breaks 136 = .ok (.aload_n 0, 1) := by decide +kernel
theorem dX8_breaks_137 : decode cX8_breaks 137 = .ok (.getfield 34, 3) := by decide +kernel
theorem dX8_breaks_140 : decode cX8_breaks 140 = .ok (.iload 7, 2) := by decide +kernel
theorem dX8_breaks_142 : decode cX8_breaks 142 = .ok (.invokevirtual 132, 3) := by decide +kernel
theorem dX8_breaks_145 : decode cX8_breaks 145 = .ok (.putfield 139, 3) := by decide +kernel
theorem dX8_breaks_148 : decode cX8_breaks 148 = .ok (.aload_n 0, 1) := by decide +kernel
theorem dX8_breaks_149 : decode cX8_breaks 149 = .ok (.invokevirtual 149, 3) := by decide +kernel
theorem dX8_breaks_152 : decode cX8_breaks 152 = .ok (.ifCond .ne 7, 3) := by decide +kernel
theorem dX8_breaks_155 : decode cX8_breaks 155 = .ok (.iconst 1, 1) := by decide +kernel
theorem dX8_breaks_156 : decode cX8_breaks 156 = .ok (.goto 4, 3) := by decide +kernel
theorem dX8_breaks_159 : decode cX8_breaks 159 = .ok (.iconst 0, 1) := by decide +kernel
theorem dX8_breaks_160 : decode cX8_breaks 160 = .ok (.ireturn, 1) := by decide +kernel
set_option maxRecDepth 20000 in
theorem ggX8_brokenBy_X8_claimOf : GoodIn wsX8_brokenBy wsX8_claimOf := goodIn_r _ [5, 6, 45, 46, 47, 48, 49, 50, 51, 52, 53, 54, 55, 56, 57, 58] (by decide +kernel) (by decide +kernel)
set_option maxRecDepth 20000 in
theorem gX8_brokenBy_X8_claimOf : GoodIn wsX8_brokenBy (wsV RX8 125 RX8 yX8_claimOf wsX8_claimOf) := goodIn_app (goodIn_of _ (by decide +kernel)) ggX8_brokenBy_X8_claimOf
set_option maxRecDepth 20000 in
theorem ggX8_brokenBy_X8_breaks : GoodIn wsX8_brokenBy wsX8_breaks := goodIn_r _ [10, 11, 12, 13, 14, 1, 2, 3, 4, 5, 6, 15, 16, 17, 18, 19, 20, 21, 22, 23, 24, 25, 26, 27, 28, 29, 30, 31, 32, 33, 34, 35, 36, 37, 38, 39, 40, 41, 42, 43, 44, 45, 46, 47, 48, 49, 50, 51, 52, 53, 54, 55, 56, 57, 58] (by decide +kernel) (by decide +kernel)
set_option maxRecDepth 20000 in
theorem gX8_brokenBy_X8_breaks : GoodIn wsX8_brokenBy (wsV RX8 153 RX8 yX8_breaks wsX8_breaks) := goodIn_app (goodIn_of _ (by decide +kernel)) ggX8_brokenBy_X8_breaks
theorem dX8_brokenBy_0 : decode cX8_brokenBy 0 = .ok (.iconst 0, 1) := by decide +kernel
theorem dX8_brokenBy_1 : decode cX8_brokenBy 1 = .ok (.istore_n 2, 1) := by decide +kernel
theorem dX8_brokenBy_2 : decode cX8_brokenBy 2 = .ok (.iload_n 2, 1) := by decide +kernel
theorem dX8_brokenBy_3 : decode cX8_brokenBy 3 = .ok (.iconst 3, 1) := by decide +kernel
theorem dX8_brokenBy_4 : decode cX8_brokenBy 4 = .ok (.if_icmp .ge 30, 3) := by decide +kernel
theorem dX8_brokenBy_7 : decode cX8_brokenBy 7 = .ok (.aload_n 0, 1) := by decide +kernel
theorem dX8_brokenBy_8 : decode cX8_brokenBy 8 = .ok (.iload_n 1, 1) := by decide +kernel
theorem dX8_brokenBy_9 : decode cX8_brokenBy 9 = .ok (.invokevirtual 125, 3) := by decide +kernel
theorem dX8_brokenBy_12 : decode cX8_brokenBy 12 = .ok (.bipush (-9), 2) := by decide +kernel
theorem dX8_brokenBy_14 : decode cX8_brokenBy 14 = .ok (.if_icmp .eq 20, 3) := by decide +kernel
theorem dX8_brokenBy_17 : decode cX8_brokenBy 17 = .ok (.aload_n 0, 1) := by decide +kernel
theorem dX8_brokenBy_18 : decode cX8_brokenBy 18 = .ok (.iload_n 1, 1) := by decide +kernel
theorem dX8_brokenBy_19 : decode cX8_brokenBy 19 = .ok (.iload_n 2, 1) := by decide +kernel
theorem dX8_brokenBy_20 : decode cX8_brokenBy 20 = .ok (.invokevirtual 153, 3) := by decide +kernel
theorem dX8_brokenBy_23 : decode cX8_brokenBy 23 = .ok (.ifCond .eq 5, 3) := by decide +kernel
theorem dX8_brokenBy_26 : decode cX8_brokenBy 26 = .ok (.iload_n 2, 1) := by decide +kernel
theorem dX8_brokenBy_27 : decode cX8_brokenBy 27 = .ok (.ireturn, 1) := by decide +kernel
theorem dX8_brokenBy_28 : decode cX8_brokenBy 28 = .ok (.iinc 2 1, 3) := by decide +kernel
theorem dX8_brokenBy_31 : decode cX8_brokenBy 31 = .ok (.goto (-29), 3) := by decide +kernel
theorem dX8_brokenBy_34 : decode cX8_brokenBy 34 = .ok (.bipush (-9), 2) := by decide +kernel
theorem dX8_brokenBy_36 : decode cX8_brokenBy 36 = .ok (.ireturn, 1) := by decide +kernel
set_option maxRecDepth 20000 in
theorem ggX8_brokenNow_X8_brokenBy : GoodIn wsX8_brokenNow wsX8_brokenBy := goodIn_r _ [5, 6, 7, 8, 4, 9, 10, 11, 12, 13, 14, 15, 16, 17, 18, 19, 20, 21, 22, 23, 24, 25, 26, 27, 28, 29, 30, 31, 32, 33, 34, 35, 36, 37, 38, 39, 40, 41, 42, 43, 44, 45, 46, 47, 48, 49, 50, 51, 52, 53, 54, 55, 56, 57, 58, 59, 60, 61, 62] (by decide +kernel) (by decide +kernel)
set_option maxRecDepth 20000 in
theorem gX8_brokenNow_X8_brokenBy : GoodIn wsX8_brokenNow (wsV RX8 156 RX8 yX8_brokenBy wsX8_brokenBy) := goodIn_app (goodIn_of _ (by decide +kernel)) ggX8_brokenNow_X8_brokenBy
theorem dX8_brokenNow_0 : decode cX8_brokenNow 0 = .ok (.iconst 0, 1) := by decide +kernel
theorem dX8_brokenNow_1 : decode cX8_brokenNow 1 = .ok (.istore_n 1, 1) := by decide +kernel
theorem dX8_brokenNow_2 : decode cX8_brokenNow 2 = .ok (.iconst 0, 1) := by decide +kernel
theorem dX8_brokenNow_3 : decode cX8_brokenNow 3 = .ok (.istore_n 2, 1) := by decide +kernel
theorem dX8_brokenNow_4 : decode cX8_brokenNow 4 = .ok (.iload_n 2, 1) := by decide +kernel
theorem dX8_brokenNow_5 : decode cX8_brokenNow 5 = .ok (.bipush 6, 2) := by decide +kernel
theorem dX8_brokenNow_7 : decode cX8_brokenNow 7 = .ok (.if_icmp .ge 29, 3) := by decide +kernel
theorem dX8_brokenNow_10 : decode cX8_brokenNow 10 = .ok (.iload_n 1, 1) := by decide +kernel
theorem dX8_brokenNow_11 : decode cX8_brokenNow 11 = .ok (.aload_n 0, 1) := by decide +kernel
theorem dX8_brokenNow_12 : decode cX8_brokenNow 12 = .ok (.iload_n 2, 1) := by decide +kernel
theorem dX8_brokenNow_13 : decode cX8_brokenNow 13 = .ok (.invokevirtual 156, 3) := by decide +kernel
theorem dX8_brokenNow_16 : decode cX8_brokenNow 16 = .ok (.bipush (-9), 2) := by decide +kernel
theorem dX8_brokenNow_18 : decode cX8_brokenNow 18 = .ok (.if_icmp .eq 9, 3) := by decide +kernel
theorem dX8_brokenNow_21 : decode cX8_brokenNow 21 = .ok (.iconst 1, 1) := by decide +kernel
theorem dX8_brokenNow_22 : decode cX8_brokenNow 22 = .ok (.iload_n 2, 1) := by decide +kernel
theorem dX8_brokenNow_23 : decode cX8_brokenNow 23 = .ok (.ishl, 1) := by decide +kernel
theorem dX8_brokenNow_24 : decode cX8_brokenNow 24 = .ok (.goto 4, 3) := by decide +kernel
theorem dX8_brokenNow_27 : decode cX8_brokenNow 27 = .ok (.iconst 0, 1) := by decide +kernel
theorem dX8_brokenNow_28 : decode cX8_brokenNow 28 = .ok (.ior, 1) := by decide +kernel
theorem dX8_brokenNow_29 : decode cX8_brokenNow 29 = .ok (.istore_n 1, 1) := by decide +kernel
theorem dX8_brokenNow_30 : decode cX8_brokenNow 30 = .ok (.iinc 2 1, 3) := by decide +kernel
theorem dX8_brokenNow_33 : decode cX8_brokenNow 33 = .ok (.goto (-29), 3) := by decide +kernel
theorem dX8_brokenNow_36 : decode cX8_brokenNow 36 = .ok (.iload_n 1, 1) := by decide +kernel
theorem dX8_brokenNow_37 : decode cX8_brokenNow 37 = .ok (.ireturn, 1) := by decide +kernel
set_option maxRecDepth 20000 in
theorem ggX8_broken_X8_within : GoodIn wsX8_broken wsX8_within := goodIn_r _ [4] (by decide +kernel) (by decide +kernel)
set_option maxRecDepth 20000 in
theorem gX8_broken_X8_within : GoodIn wsX8_broken (va_wsS RX8 40 yX8_within wsX8_within) := goodIn_app (goodIn_of _ (by decide +kernel)) ggX8_broken_X8_within
set_option maxRecDepth 20000 in
theorem ggX8_broken_X8_brokenBy : GoodIn wsX8_broken wsX8_brokenBy := goodIn_r _ [8, 9, 10, 11, 3, 12, 13, 14, 15, 16, 17, 18, 19, 20, 21, 22, 23, 24, 25, 1, 2, 4, 26, 27, 28, 29, 30, 31, 32, 33, 34, 35, 36, 37, 38, 39, 40, 41, 42, 43, 44, 45, 46, 47, 48, 49, 50, 51, 52, 53, 54, 55, 56, 57, 58, 59, 60, 61, 62] (by decide +kernel) (by decide +kernel)
set_option maxRecDepth 20000 in
theorem gX8_broken_X8_brokenBy : GoodIn wsX8_broken (wsV RX8 156 RX8 yX8_brokenBy wsX8_brokenBy) := goodIn_app (goodIn_of _ (by decide +kernel)) ggX8_broken_X8_brokenBy
theorem dX8_broken_0 : decode cX8_broken 0 = .ok (.iload_n 1, 1) := by decide +kernel
theorem dX8_broken_1 : decode cX8_broken 1 = .ok (.iconst 0, 1) := by decide +kernel
theorem dX8_broken_2 : decode cX8_broken 2 = .ok (.iconst 1, 1) := by decide +kernel
theorem dX8_broken_3 : decode cX8_broken 3 = .ok (.invokestatic 40, 3) := by decide +kernel
theorem dX8_broken_6 : decode cX8_broken 6 = .ok (.ifCond .ne 6, 3) := by decide +kernel
theorem dX8_broken_9 : decode cX8_broken 9 = .ok (.bipush (-2), 2) := by decide +kernel
theorem dX8_broken_11 : decode cX8_broken 11 = .ok (.ireturn, 1) := by decide +kernel
theorem dX8_broken_12 : decode cX8_broken 12 = .ok (.iconst 0, 1) := by decide +kernel
theorem dX8_broken_13 : decode cX8_broken 13 = .ok (.istore_n 2, 1) := by decide +kernel
theorem dX8_broken_14 : decode cX8_broken 14 = .ok (.iload_n 2, 1) := by decide +kernel
theorem dX8_broken_15 : decode cX8_broken 15 = .ok (.bipush 6, 2) := by decide +kernel
theorem dX8_broken_17 : decode cX8_broken 17 = .ok (.if_icmp .ge 31, 3) := by decide +kernel
theorem dX8_broken_20 : decode cX8_broken 20 = .ok (.aload_n 0, 1) := by decide +kernel
theorem dX8_broken_21 : decode cX8_broken 21 = .ok (.iload_n 2, 1) := by decide +kernel
theorem dX8_broken_22 : decode cX8_broken 22 = .ok (.invokevirtual 156, 3) := by decide +kernel
theorem dX8_broken_25 : decode cX8_broken 25 = .ok (.istore_n 3, 1) := by decide +kernel
theorem dX8_broken_26 : decode cX8_broken 26 = .ok (.iload_n 3, 1) := by decide +kernel
theorem dX8_broken_27 : decode cX8_broken 27 = .ok (.bipush (-9), 2) := by decide +kernel
theorem dX8_broken_29 : decode cX8_broken 29 = .ok (.if_icmp .eq 13, 3) := by decide +kernel
theorem dX8_broken_32 : decode cX8_broken 32 = .ok (.iload_n 1, 1) := by decide +kernel
theorem dX8_broken_33 : decode cX8_broken 33 = .ok (.ifCond .ne 7, 3) := by decide +kernel
theorem dX8_broken_36 : decode cX8_broken 36 = .ok (.iload_n 2, 1) := by decide +kernel
theorem dX8_broken_37 : decode cX8_broken 37 = .ok (.goto 4, 3) := by decide +kernel
theorem dX8_broken_40 : decode cX8_broken 40 = .ok (.iload_n 3, 1) := by decide +kernel
theorem dX8_broken_41 : decode cX8_broken 41 = .ok (.ireturn, 1) := by decide +kernel
theorem dX8_broken_42 : decode cX8_broken 42 = .ok (.iinc 2 1, 3) := by decide +kernel
theorem dX8_broken_45 : decode cX8_broken 45 = .ok (.goto (-31), 3) := by decide +kernel
theorem dX8_broken_48 : decode cX8_broken 48 = .ok (.bipush (-9), 2) := by decide +kernel
theorem dX8_broken_50 : decode cX8_broken 50 = .ok (.ireturn, 1) := by decide +kernel
theorem dX8_sizeOf_0 : decode cX8_sizeOf 0 = .ok (.iconst 0, 1) := by decide +kernel
theorem dX8_sizeOf_1 : decode cX8_sizeOf 1 = .ok (.istore_n 1, 1) := by decide +kernel
theorem dX8_sizeOf_2 : decode cX8_sizeOf 2 = .ok (.iload_n 0, 1) := by decide +kernel
theorem dX8_sizeOf_3 : decode cX8_sizeOf 3 = .ok (.istore_n 2, 1) := by decide +kernel
theorem dX8_sizeOf_4 : decode cX8_sizeOf 4 = .ok (.iload_n 2, 1) := by decide +kernel
theorem dX8_sizeOf_5 : decode cX8_sizeOf 5 = .ok (.ifCond .le 16, 3) := by decide +kernel
theorem dX8_sizeOf_8 : decode cX8_sizeOf 8 = .ok (.iload_n 1, 1) := by decide +kernel
theorem dX8_sizeOf_9 : decode cX8_sizeOf 9 = .ok (.iload_n 2, 1) := by decide +kernel
theorem dX8_sizeOf_10 : decode cX8_sizeOf 10 = .ok (.iconst 1, 1) := by decide +kernel
theorem dX8_sizeOf_11 : decode cX8_sizeOf 11 = .ok (.iand, 1) := by decide +kernel
theorem dX8_sizeOf_12 : decode cX8_sizeOf 12 = .ok (.iadd, 1) := by decide +kernel
theorem dX8_sizeOf_13 : decode cX8_sizeOf 13 = .ok (.istore_n 1, 1) := by decide +kernel
theorem dX8_sizeOf_14 : decode cX8_sizeOf 14 = .ok (.iload_n 2, 1) := by decide +kernel
theorem dX8_sizeOf_15 : decode cX8_sizeOf 15 = .ok (.iconst 1, 1) := by decide +kernel
theorem dX8_sizeOf_16 : decode cX8_sizeOf 16 = .ok (.ishr, 1) := by decide +kernel
theorem dX8_sizeOf_17 : decode cX8_sizeOf 17 = .ok (.istore_n 2, 1) := by decide +kernel
theorem dX8_sizeOf_18 : decode cX8_sizeOf 18 = .ok (.goto (-14), 3) := by decide +kernel
theorem dX8_sizeOf_21 : decode cX8_sizeOf 21 = .ok (.iload_n 1, 1) := by decide +kernel
theorem dX8_sizeOf_22 : decode cX8_sizeOf 22 = .ok (.ireturn, 1) := by decide +kernel
set_option maxRecDepth 20000 in
theorem ggX8_settle_X8_keeps : GoodIn wsX8_settle wsX8_keeps := goodIn_r _ [6, 7, 8, 1, 65, 66, 67, 68, 69, 70, 71, 72, 73, 74, 75, 76, 77, 78] (by decide +kernel) (by decide +kernel)
set_option maxRecDepth 20000 in
theorem gX8_settle_X8_keeps : GoodIn wsX8_settle (wsV RX8 65 RX8 yX8_keeps wsX8_keeps) := goodIn_app (goodIn_of _ (by decide +kernel)) ggX8_settle_X8_keeps
set_option maxRecDepth 20000 in
theorem ggX8_settle_X8_brokenNow : GoodIn wsX8_settle wsX8_brokenNow := goodIn_r _ [12, 13, 14, 15, 5, 16, 17, 18, 19, 20, 1, 21, 22, 23, 24, 25, 26, 27, 28, 29, 30, 31, 32, 33, 34, 35, 36, 37, 38, 39, 40, 41, 42, 43, 44, 45, 46, 47, 48, 49, 50, 51, 52, 53, 54, 55, 56, 57, 58, 65, 66, 67, 68, 69, 70, 71, 72, 73, 74, 75, 76, 77, 78] (by decide +kernel) (by decide +kernel)
set_option maxRecDepth 20000 in
theorem gX8_settle_X8_brokenNow : GoodIn wsX8_settle (wsV RX8 159 RX8 yX8_brokenNow wsX8_brokenNow) := goodIn_app (goodIn_of _ (by decide +kernel)) ggX8_settle_X8_brokenNow
set_option maxRecDepth 20000 in
theorem ggX8_settle_X8_has : GoodIn wsX8_settle wsX8_has := goodIn_r _ [61] (by decide +kernel) (by decide +kernel)
set_option maxRecDepth 20000 in
theorem gX8_settle_X8_has : GoodIn wsX8_settle (va_wsS RX8 119 yX8_has wsX8_has) := goodIn_app (goodIn_of _ (by decide +kernel)) ggX8_settle_X8_has
set_option maxRecDepth 20000 in
theorem ggX8_settle_X8_claimOf : GoodIn wsX8_settle wsX8_claimOf := goodIn_r _ [20, 1, 65, 66, 67, 68, 69, 70, 71, 72, 73, 74, 75, 76, 77, 78] (by decide +kernel) (by decide +kernel)
set_option maxRecDepth 20000 in
theorem gX8_settle_X8_claimOf : GoodIn wsX8_settle (wsV RX8 125 RX8 yX8_claimOf wsX8_claimOf) := goodIn_app (goodIn_of _ (by decide +kernel)) ggX8_settle_X8_claimOf
set_option maxRecDepth 20000 in
theorem ggX8_settle_X8_sizeOf : GoodIn wsX8_settle wsX8_sizeOf := goodIn_r _ [64] (by decide +kernel) (by decide +kernel)
set_option maxRecDepth 20000 in
theorem gX8_settle_X8_sizeOf : GoodIn wsX8_settle (va_wsS RX8 163 yX8_sizeOf wsX8_sizeOf) := goodIn_app (goodIn_of _ (by decide +kernel)) ggX8_settle_X8_sizeOf
theorem dX8_settle_0 : decode cX8_settle 0 = .ok (.aload_n 0, 1) := by decide +kernel
theorem dX8_settle_1 : decode cX8_settle 1 = .ok (.invokevirtual 65, 3) := by decide +kernel
theorem dX8_settle_4 : decode cX8_settle 4 = .ok (.iconst 0, 1) := by decide +kernel
theorem dX8_settle_5 : decode cX8_settle 5 = .ok (.istore_n 1, 1) := by decide +kernel
theorem dX8_settle_6 : decode cX8_settle 6 = .ok (.aload_n 0, 1) := by decide +kernel
theorem dX8_settle_7 : decode cX8_settle 7 = .ok (.invokevirtual 159, 3) := by decide +kernel
theorem dX8_settle_10 : decode cX8_settle 10 = .ok (.istore_n 2, 1) := by decide +kernel
theorem dX8_settle_11 : decode cX8_settle 11 = .ok (.iload_n 2, 1) := by decide +kernel
theorem dX8_settle_12 : decode cX8_settle 12 = .ok (.ifCond .eq 59, 3) := by decide +kernel
theorem dX8_settle_15 : decode cX8_settle 15 = .ok (.iconst 0, 1) := by decide +kernel
theorem dX8_settle_16 : decode cX8_settle 16 = .ok (.istore_n 3, 1) := by decide +kernel
theorem dX8_settle_17 : decode cX8_settle 17 = .ok (.iload_n 3, 1) := by decide +kernel
theorem dX8_settle_18 : decode cX8_settle 18 = .ok (.bipush 6, 2) := by decide +kernel
theorem dX8_settle_20 : decode cX8_settle 20 = .ok (.if_icmp .ge 36, 3) := by decide +kernel
theorem dX8_settle_23 : decode cX8_settle 23 = .ok (.aload_n 0, 1) := by decide +kernel
theorem dX8_settle_24 : decode cX8_settle 24 = .ok (.getfield 7, 3) := by decide +kernel
theorem dX8_settle_27 : decode cX8_settle 27 = .ok (.bipush 18, 2) := by decide +kernel
theorem dX8_settle_29 : decode cX8_settle 29 = .ok (.iload_n 3, 1) := by decide +kernel
theorem dX8_settle_30 : decode cX8_settle 30 = .ok (.iadd, 1) := by decide +kernel
theorem dX8_settle_31 : decode cX8_settle 31 = .ok (.iload_n 2, 1) := by decide +kernel
theorem dX8_settle_32 : decode cX8_settle 32 = .ok (.iload_n 3, 1) := by decide +kernel
theorem dX8_settle_33 : decode cX8_settle 33 = .ok (.invokestatic 119, 3) := by decide +kernel
theorem dX8_settle_36 : decode cX8_settle 36 = .ok (.ifCond .eq 8, 3) := by decide +kernel
theorem dX8_settle_39 : decode cX8_settle 39 = .ok (.bipush (-9), 2) := by decide +kernel
theorem dX8_settle_41 : decode cX8_settle 41 = .ok (.goto 8, 3) := by decide +kernel
theorem dX8_settle_44 : decode cX8_settle 44 = .ok (.aload_n 0, 1) := by decide +kernel
theorem dX8_settle_45 : decode cX8_settle 45 = .ok (.iload_n 3, 1) := by decide +kernel
theorem dX8_settle_46 : decode cX8_settle 46 = .ok (.invokevirtual 125, 3) := by decide +kernel
theorem dX8_settle_49 : decode cX8_settle 49 = .ok (.iastore, 1) := by decide +kernel
theorem dX8_settle_50 : decode cX8_settle 50 = .ok (.iinc 3 1, 3) := by decide +kernel
theorem dX8_settle_53 : decode cX8_settle 53 = .ok (.goto (-36), 3) := by decide +kernel
theorem dX8_settle_56 : decode cX8_settle 56 = .ok (.iload_n 1, 1) := by decide +kernel
theorem dX8_settle_57 : decode cX8_settle 57 = .ok (.iload_n 2, 1) := by decide +kernel
theorem dX8_settle_58 : decode cX8_settle 58 = .ok (.invokestatic 163, 3) := by decide +kernel
theorem dX8_settle_61 : decode cX8_settle 61 = .ok (.iadd, 1) := by decide +kernel
theorem dX8_settle_62 : decode cX8_settle 62 = .ok (.istore_n 1, 1) := by decide +kernel
theorem dX8_settle_63 : decode cX8_settle 63 = .ok (.aload_n 0, 1) := by decide +kernel
theorem dX8_settle_64 : decode cX8_settle 64 = .ok (.invokevirtual 159, 3) := by decide +kernel
theorem dX8_settle_67 : decode cX8_settle 67 = .ok (.istore_n 2, 1) := by decide +kernel
theorem dX8_settle_68 : decode cX8_settle 68 = .ok (.goto (-57), 3) := by decide +kernel
theorem dX8_settle_71 : decode cX8_settle 71 = .ok (.iload_n 1, 1) := by decide +kernel
theorem dX8_settle_72 : decode cX8_settle 72 = .ok (.ireturn, 1) := by decide +kernel
set_option maxRecDepth 20000 in
theorem ggX8_might_X8_isSign : GoodIn wsX8_might wsX8_isSign := goodIn_r _ [5, 6, 7, 4, 8] (by decide +kernel) (by decide +kernel)
set_option maxRecDepth 20000 in
theorem gX8_might_X8_isSign : GoodIn wsX8_might (va_wsS RX8 54 yX8_isSign wsX8_isSign) := goodIn_app (goodIn_of _ (by decide +kernel)) ggX8_might_X8_isSign
set_option maxRecDepth 20000 in
theorem ggX8_might_X8_claimOf : GoodIn wsX8_might wsX8_claimOf := goodIn_r _ [12, 1, 55, 56, 57, 58, 59, 60, 61, 62, 63, 64, 65, 66, 67, 68] (by decide +kernel) (by decide +kernel)
set_option maxRecDepth 20000 in
theorem gX8_might_X8_claimOf : GoodIn wsX8_might (wsV RX8 125 RX8 yX8_claimOf wsX8_claimOf) := goodIn_app (goodIn_of _ (by decide +kernel)) ggX8_might_X8_claimOf
set_option maxRecDepth 20000 in
theorem ggX8_might_X8_isClaim : GoodIn wsX8_might wsX8_isClaim := goodIn_r _ [15, 16, 17, 4, 18, 19, 6, 7, 8] (by decide +kernel) (by decide +kernel)
set_option maxRecDepth 20000 in
theorem gX8_might_X8_isClaim : GoodIn wsX8_might (va_wsS RX8 122 yX8_isClaim wsX8_isClaim) := goodIn_app (goodIn_of _ (by decide +kernel)) ggX8_might_X8_isClaim
set_option maxRecDepth 20000 in
theorem ggX8_might_X8_brokenBy : GoodIn wsX8_might wsX8_brokenBy := goodIn_r _ [23, 9, 10, 11, 4, 12, 1, 24, 25, 26, 27, 28, 29, 30, 31, 16, 17, 18, 19, 6, 7, 8, 32, 33, 34, 35, 36, 37, 38, 39, 40, 41, 42, 43, 44, 45, 46, 47, 48, 49, 50, 51, 52, 53, 54, 55, 56, 57, 58, 59, 60, 61, 62, 63, 64, 65, 66, 67, 68] (by decide +kernel) (by decide +kernel)
set_option maxRecDepth 20000 in
theorem gX8_might_X8_brokenBy : GoodIn wsX8_might (wsV RX8 156 RX8 yX8_brokenBy wsX8_brokenBy) := goodIn_app (goodIn_of _ (by decide +kernel)) ggX8_might_X8_brokenBy
theorem dX8_might_0 : decode cX8_might 0 = .ok (.iload_n 1, 1) := by decide +kernel
theorem dX8_might_1 : decode cX8_might 1 = .ok (.invokestatic 54, 3) := by decide +kernel
theorem dX8_might_4 : decode cX8_might 4 = .ok (.ifCond .ne 5, 3) := by decide +kernel
theorem dX8_might_7 : decode cX8_might 7 = .ok (.iconst (-1), 1) := by decide +kernel
theorem dX8_might_8 : decode cX8_might 8 = .ok (.ireturn, 1) := by decide +kernel
theorem dX8_might_9 : decode cX8_might 9 = .ok (.iload_n 2, 1) := by decide +kernel
theorem dX8_might_10 : decode cX8_might 10 = .ok (.iconst (-1), 1) := by decide +kernel
theorem dX8_might_11 : decode cX8_might 11 = .ok (.if_icmp .ge 6, 3) := by decide +kernel
theorem dX8_might_14 : decode cX8_might 14 = .ok (.bipush (-2), 2) := by decide +kernel
theorem dX8_might_16 : decode cX8_might 16 = .ok (.ireturn, 1) := by decide +kernel
theorem dX8_might_17 : decode cX8_might 17 = .ok (.aload_n 0, 1) := by decide +kernel
theorem dX8_might_18 : decode cX8_might 18 = .ok (.iload_n 1, 1) := by decide +kernel
theorem dX8_might_19 : decode cX8_might 19 = .ok (.invokevirtual 125, 3) := by decide +kernel
theorem dX8_might_22 : decode cX8_might 22 = .ok (.istore_n 3, 1) := by decide +kernel
theorem dX8_might_23 : decode cX8_might 23 = .ok (.iconst 0, 1) := by decide +kernel
theorem dX8_might_24 : decode cX8_might 24 = .ok (.istore 4, 2) := by decide +kernel
theorem dX8_might_26 : decode cX8_might 26 = .ok (.bipush (-9), 2) := by decide +kernel
theorem dX8_might_28 : decode cX8_might 28 = .ok (.istore 5, 2) := by decide +kernel
theorem dX8_might_30 : decode cX8_might 30 = .ok (.iconst 1, 1) := by decide +kernel
theorem dX8_might_31 : decode cX8_might 31 = .ok (.istore 6, 2) := by decide +kernel
theorem dX8_might_33 : decode cX8_might 33 = .ok (.iload 6, 2) := by decide +kernel
theorem dX8_might_35 : decode cX8_might 35 = .ok (.sipush 1000, 3) := by decide +kernel
theorem dX8_might_38 : decode cX8_might 38 = .ok (.if_icmp .ge 57, 3) := by decide +kernel
theorem dX8_might_41 : decode cX8_might 41 = .ok (.iload_n 1, 1) := by decide +kernel
theorem dX8_might_42 : decode cX8_might 42 = .ok (.iload 6, 2) := by decide +kernel
theorem dX8_might_44 : decode cX8_might 44 = .ok (.invokestatic 122, 3) := by decide +kernel
theorem dX8_might_47 : decode cX8_might 47 = .ok (.ifCond .eq 42, 3) := by decide +kernel
theorem dX8_might_50 : decode cX8_might 50 = .ok (.aload_n 0, 1) := by decide +kernel
theorem dX8_might_51 : decode cX8_might 51 = .ok (.getfield 7, 3) := by decide +kernel
theorem dX8_might_54 : decode cX8_might 54 = .ok (.bipush 18, 2) := by decide +kernel
theorem dX8_might_56 : decode cX8_might 56 = .ok (.iload_n 1, 1) := by decide +kernel
theorem dX8_might_57 : decode cX8_might 57 = .ok (.iadd, 1) := by decide +kernel
theorem dX8_might_58 : decode cX8_might 58 = .ok (.iload 6, 2) := by decide +kernel
theorem dX8_might_60 : decode cX8_might 60 = .ok (.iastore, 1) := by decide +kernel
theorem dX8_might_61 : decode cX8_might 61 = .ok (.aload_n 0, 1) := by decide +kernel
theorem dX8_might_62 : decode cX8_might 62 = .ok (.iload_n 1, 1) := by decide +kernel
theorem dX8_might_63 : decode cX8_might 63 = .ok (.invokevirtual 156, 3) := by decide +kernel
theorem dX8_might_66 : decode cX8_might 66 = .ok (.bipush (-9), 2) := by decide +kernel
theorem dX8_might_68 : decode cX8_might 68 = .ok (.if_icmp .ne 21, 3) := by decide +kernel
theorem dX8_might_71 : decode cX8_might 71 = .ok (.iload 4, 2) := by decide +kernel
theorem dX8_might_73 : decode cX8_might 73 = .ok (.iload_n 2, 1) := by decide +kernel
theorem dX8_might_74 : decode cX8_might 74 = .ok (.if_icmp .ne 8, 3) := by decide +kernel
theorem dX8_might_77 : decode cX8_might 77 = .ok (.iload 6, 2) := by decide +kernel
theorem dX8_might_79 : decode cX8_might 79 = .ok (.goto 5, 3) := by decide +kernel
theorem dX8_might_82 : decode cX8_might 82 = .ok (.iload 5, 2) := by decide +kernel
theorem dX8_might_84 : decode cX8_might 84 = .ok (.istore 5, 2) := by decide +kernel
theorem dX8_might_86 : decode cX8_might 86 = .ok (.iinc 4 1, 3) := by decide +kernel
theorem dX8_might_89 : decode cX8_might 89 = .ok (.iinc 6 1, 3) := by decide +kernel
theorem dX8_might_92 : decode cX8_might 92 = .ok (.goto (-59), 3) := by decide +kernel
theorem dX8_might_95 : decode cX8_might 95 = .ok (.aload_n 0, 1) := by decide +kernel
theorem dX8_might_96 : decode cX8_might 96 = .ok (.getfield 7, 3) := by decide +kernel
theorem dX8_might_99 : decode cX8_might 99 = .ok (.bipush 18, 2) := by decide +kernel
theorem dX8_might_101 : decode cX8_might 101 = .ok (.iload_n 1, 1) := by decide +kernel
theorem dX8_might_102 : decode cX8_might 102 = .ok (.iadd, 1) := by decide +kernel
theorem dX8_might_103 : decode cX8_might 103 = .ok (.iload_n 3, 1) := by decide +kernel
theorem dX8_might_104 : decode cX8_might 104 = .ok (.iastore, 1) := by decide +kernel
theorem dX8_might_105 : decode cX8_might 105 = .ok (.iload_n 2, 1) := by decide +kernel
theorem dX8_might_106 : decode cX8_might 106 = .ok (.iconst (-1), 1) := by decide +kernel
theorem dX8_might_107 : decode cX8_might 107 = .ok (.if_icmp .ne 8, 3) := by decide +kernel
theorem dX8_might_110 : decode cX8_might 110 = .ok (.iload 4, 2) := by decide +kernel
theorem dX8_might_112 : decode cX8_might 112 = .ok (.goto 5, 3) := by decide +kernel
theorem dX8_might_115 : decode cX8_might 115 = .ok (.iload 5, 2) := by decide +kernel
theorem dX8_might_117 : decode cX8_might 117 = .ok (.ireturn, 1) := by decide +kernel
set_option maxRecDepth 20000 in
theorem ggX8_undo_X8_within : GoodIn wsX8_undo wsX8_within := goodIn_r _ [7] (by decide +kernel) (by decide +kernel)
set_option maxRecDepth 20000 in
theorem gX8_undo_X8_within : GoodIn wsX8_undo (va_wsS RX8 40 yX8_within wsX8_within) := goodIn_app (goodIn_of _ (by decide +kernel)) ggX8_undo_X8_within
theorem dX8_undo_0 : decode cX8_undo 0 = .ok (.iload_n 1, 1) := by decide +kernel
theorem dX8_undo_1 : decode cX8_undo 1 = .ok (.iconst 0, 1) := by decide +kernel
theorem dX8_undo_2 : decode cX8_undo 2 = .ok (.aload_n 0, 1) := by decide +kernel
theorem dX8_undo_3 : decode cX8_undo 3 = .ok (.getfield 50, 3) := by decide +kernel
theorem dX8_undo_6 : decode cX8_undo 6 = .ok (.invokestatic 40, 3) := by decide +kernel
theorem dX8_undo_9 : decode cX8_undo 9 = .ok (.ifCond .ne 6, 3) := by decide +kernel
theorem dX8_undo_12 : decode cX8_undo 12 = .ok (.bipush (-2), 2) := by decide +kernel
theorem dX8_undo_14 : decode cX8_undo 14 = .ok (.ireturn, 1) := by decide +kernel
theorem dX8_undo_15 : decode cX8_undo 15 = .ok (.aload_n 0, 1) := by decide +kernel
theorem dX8_undo_16 : decode cX8_undo 16 = .ok (.dup, 1) := by decide +kernel
theorem dX8_undo_17 : decode cX8_undo 17 = .ok (.getfield 50, 3) := by decide +kernel
theorem dX8_undo_20 : decode cX8_undo 20 = .ok (.iload_n 1, 1) := by decide +kernel
theorem dX8_undo_21 : decode cX8_undo 21 = .ok (.isub, 1) := by decide +kernel
theorem dX8_undo_22 : decode cX8_undo 22 = .ok (.putfield 50, 3) := by decide +kernel
theorem dX8_undo_25 : decode cX8_undo 25 = .ok (.iconst 0, 1) := by decide +kernel
theorem dX8_undo_26 : decode cX8_undo 26 = .ok (.istore_n 2, 1) := by decide +kernel
theorem dX8_undo_27 : decode cX8_undo 27 = .ok (.iload_n 2, 1) := by decide +kernel
theorem dX8_undo_28 : decode cX8_undo 28 = .ok (.bipush 24, 2) := by decide +kernel
theorem dX8_undo_30 : decode cX8_undo 30 = .ok (.if_icmp .ge 33, 3) := by decide +kernel
theorem dX8_undo_33 : decode cX8_undo 33 = .ok (.iload_n 1, 1) := by decide +kernel
theorem dX8_undo_34 : decode cX8_undo 34 = .ok (.ifCond .le 29, 3) := by decide +kernel
theorem dX8_undo_37 : decode cX8_undo 37 = .ok (.aload_n 0, 1) := by decide +kernel
theorem dX8_undo_38 : decode cX8_undo 38 = .ok (.getfield 7, 3) := by decide +kernel
theorem dX8_undo_41 : decode cX8_undo 41 = .ok (.iload_n 2, 1) := by decide +kernel
theorem dX8_undo_42 : decode cX8_undo 42 = .ok (.aload_n 0, 1) := by decide +kernel
theorem dX8_undo_43 : decode cX8_undo 43 = .ok (.getfield 13, 3) := by decide +kernel
theorem dX8_undo_46 : decode cX8_undo 46 = .ok (.bipush 24, 2) := by decide +kernel
theorem dX8_undo_48 : decode cX8_undo 48 = .ok (.aload_n 0, 1) := by decide +kernel
theorem dX8_undo_49 : decode cX8_undo 49 = .ok (.getfield 50, 3) := by decide +kernel
theorem dX8_undo_52 : decode cX8_undo 52 = .ok (.imul, 1) := by decide +kernel
theorem dX8_undo_53 : decode cX8_undo 53 = .ok (.iload_n 2, 1) := by decide +kernel
theorem dX8_undo_54 : decode cX8_undo 54 = .ok (.iadd, 1) := by decide +kernel
theorem dX8_undo_55 : decode cX8_undo 55 = .ok (.iaload, 1) := by decide +kernel
theorem dX8_undo_56 : decode cX8_undo 56 = .ok (.iastore, 1) := by decide +kernel
theorem dX8_undo_57 : decode cX8_undo 57 = .ok (.iinc 2 1, 3) := by decide +kernel
theorem dX8_undo_60 : decode cX8_undo 60 = .ok (.goto (-33), 3) := by decide +kernel
theorem dX8_undo_63 : decode cX8_undo 63 = .ok (.aload_n 0, 1) := by decide +kernel
theorem dX8_undo_64 : decode cX8_undo 64 = .ok (.getfield 50, 3) := by decide +kernel
theorem dX8_undo_67 : decode cX8_undo 67 = .ok (.ireturn, 1) := by decide +kernel
theorem dX8_manyTold_0 : decode cX8_manyTold 0 = .ok (.iconst 0, 1) := by decide +kernel
theorem dX8_manyTold_1 : decode cX8_manyTold 1 = .ok (.istore_n 3, 1) := by decide +kernel
theorem dX8_manyTold_2 : decode cX8_manyTold 2 = .ok (.iload_n 1, 1) := by decide +kernel
theorem dX8_manyTold_3 : decode cX8_manyTold 3 = .ok (.istore 4, 2) := by decide +kernel
theorem dX8_manyTold_5 : decode cX8_manyTold 5 = .ok (.iload 4, 2) := by decide +kernel
theorem dX8_manyTold_7 : decode cX8_manyTold 7 = .ok (.iload_n 2, 1) := by decide +kernel
theorem dX8_manyTold_8 : decode cX8_manyTold 8 = .ok (.if_icmp .ge 29, 3) := by decide +kernel
theorem dX8_manyTold_11 : decode cX8_manyTold 11 = .ok (.iload_n 3, 1) := by decide +kernel
theorem dX8_manyTold_12 : decode cX8_manyTold 12 = .ok (.aload_n 0, 1) := by decide +kernel
theorem dX8_manyTold_13 : decode cX8_manyTold 13 = .ok (.getfield 7, 3) := by decide +kernel
theorem dX8_manyTold_16 : decode cX8_manyTold 16 = .ok (.iload 4, 2) := by decide +kernel
theorem dX8_manyTold_18 : decode cX8_manyTold 18 = .ok (.iaload, 1) := by decide +kernel
theorem dX8_manyTold_19 : decode cX8_manyTold 19 = .ok (.bipush (-9), 2) := by decide +kernel
theorem dX8_manyTold_21 : decode cX8_manyTold 21 = .ok (.if_icmp .eq 7, 3) := by decide +kernel
theorem dX8_manyTold_24 : decode cX8_manyTold 24 = .ok (.iconst 1, 1) := by decide +kernel
theorem dX8_manyTold_25 : decode cX8_manyTold 25 = .ok (.goto 4, 3) := by decide +kernel
theorem dX8_manyTold_28 : decode cX8_manyTold 28 = .ok (.iconst 0, 1) := by decide +kernel
theorem dX8_manyTold_29 : decode cX8_manyTold 29 = .ok (.iadd, 1) := by decide +kernel
theorem dX8_manyTold_30 : decode cX8_manyTold 30 = .ok (.istore_n 3, 1) := by decide +kernel
theorem dX8_manyTold_31 : decode cX8_manyTold 31 = .ok (.iinc 4 1, 3) := by decide +kernel
theorem dX8_manyTold_34 : decode cX8_manyTold 34 = .ok (.goto (-29), 3) := by decide +kernel
theorem dX8_manyTold_37 : decode cX8_manyTold 37 = .ok (.iload_n 3, 1) := by decide +kernel
theorem dX8_manyTold_38 : decode cX8_manyTold 38 = .ok (.ireturn, 1) := by decide +kernel
set_option maxRecDepth 20000 in
theorem ggX8_manyWithWord_X8_findNorms : GoodIn wsX8_manyWithWord wsX8_findNorms := goodIn_r _ [6, 1, 7, 8, 9, 10, 5, 11, 12, 13, 14, 15, 16, 17, 18, 19, 20, 21, 22, 23, 24, 25, 26, 27, 28, 29, 30, 31, 32, 33, 34, 35] (by decide +kernel) (by decide +kernel)
set_option maxRecDepth 20000 in
theorem gX8_manyWithWord_X8_findNorms : GoodIn wsX8_manyWithWord (wsV RX8 94 RX8 yX8_findNorms wsX8_findNorms) := goodIn_app (goodIn_of _ (by decide +kernel)) ggX8_manyWithWord_X8_findNorms
theorem dX8_manyWithWord_0 : decode cX8_manyWithWord 0 = .ok (.aload_n 0, 1) := by decide +kernel
theorem dX8_manyWithWord_1 : decode cX8_manyWithWord 1 = .ok (.invokevirtual 94, 3) := by decide +kernel
theorem dX8_manyWithWord_4 : decode cX8_manyWithWord 4 = .ok (.iconst 0, 1) := by decide +kernel
theorem dX8_manyWithWord_5 : decode cX8_manyWithWord 5 = .ok (.istore_n 1, 1) := by decide +kernel
theorem dX8_manyWithWord_6 : decode cX8_manyWithWord 6 = .ok (.iconst 0, 1) := by decide +kernel
theorem dX8_manyWithWord_7 : decode cX8_manyWithWord 7 = .ok (.istore_n 2, 1) := by decide +kernel
theorem dX8_manyWithWord_8 : decode cX8_manyWithWord 8 = .ok (.iload_n 2, 1) := by decide +kernel
theorem dX8_manyWithWord_9 : decode cX8_manyWithWord 9 = .ok (.bipush 6, 2) := by decide +kernel
theorem dX8_manyWithWord_11 : decode cX8_manyWithWord 11 = .ok (.if_icmp .ge 28, 3) := by decide +kernel
theorem dX8_manyWithWord_14 : decode cX8_manyWithWord 14 = .ok (.iload_n 1, 1) := by decide +kernel
theorem dX8_manyWithWord_15 : decode cX8_manyWithWord 15 = .ok (.aload_n 0, 1) := by decide +kernel
theorem dX8_manyWithWord_16 : decode cX8_manyWithWord 16 = .ok (.getfield 19, 3) := by decide +kernel
theorem dX8_manyWithWord_19 : decode cX8_manyWithWord 19 = .ok (.iload_n 2, 1) := by decide +kernel
theorem dX8_manyWithWord_20 : decode cX8_manyWithWord 20 = .ok (.iaload, 1) := by decide +kernel
theorem dX8_manyWithWord_21 : decode cX8_manyWithWord 21 = .ok (.bipush (-9), 2) := by decide +kernel
theorem dX8_manyWithWord_23 : decode cX8_manyWithWord 23 = .ok (.if_icmp .eq 7, 3) := by decide +kernel
theorem dX8_manyWithWord_26 : decode cX8_manyWithWord 26 = .ok (.iconst 1, 1) := by decide +kernel
theorem dX8_manyWithWord_27 : decode cX8_manyWithWord 27 = .ok (.goto 4, 3) := by decide +kernel
theorem dX8_manyWithWord_30 : decode cX8_manyWithWord 30 = .ok (.iconst 0, 1) := by decide +kernel
theorem dX8_manyWithWord_31 : decode cX8_manyWithWord 31 = .ok (.iadd, 1) := by decide +kernel
theorem dX8_manyWithWord_32 : decode cX8_manyWithWord 32 = .ok (.istore_n 1, 1) := by decide +kernel
theorem dX8_manyWithWord_33 : decode cX8_manyWithWord 33 = .ok (.iinc 2 1, 3) := by decide +kernel
theorem dX8_manyWithWord_36 : decode cX8_manyWithWord 36 = .ok (.goto (-28), 3) := by decide +kernel
theorem dX8_manyWithWord_39 : decode cX8_manyWithWord 39 = .ok (.iload_n 1, 1) := by decide +kernel
theorem dX8_manyWithWord_40 : decode cX8_manyWithWord 40 = .ok (.ireturn, 1) := by decide +kernel
set_option maxRecDepth 20000 in
theorem ggX8_many_X8_manyTold : GoodIn wsX8_many wsX8_manyTold := goodIn_r _ [6, 7, 74, 75, 76, 77, 78, 79, 80, 81, 82, 83, 84, 85, 86, 87] (by decide +kernel) (by decide +kernel)
set_option maxRecDepth 20000 in
theorem gX8_many_X8_manyTold : GoodIn wsX8_many (wsV RX8 166 RX8 yX8_manyTold wsX8_manyTold) := goodIn_app (goodIn_of _ (by decide +kernel)) ggX8_many_X8_manyTold
set_option maxRecDepth 20000 in
theorem ggX8_many_X8_manyWithWord : GoodIn wsX8_many wsX8_manyWithWord := goodIn_r _ [11, 12, 13, 14, 15, 5, 16, 7, 17, 18, 19, 20, 21, 22, 23, 24, 25, 26, 27, 28, 29, 30, 74, 75, 76, 77, 78, 79, 80, 81, 82, 83, 84, 85, 86, 87] (by decide +kernel) (by decide +kernel)
set_option maxRecDepth 20000 in
theorem gX8_many_X8_manyWithWord : GoodIn wsX8_many (wsV RX8 169 RX8 yX8_manyWithWord wsX8_manyWithWord) := goodIn_app (goodIn_of _ (by decide +kernel)) ggX8_many_X8_manyWithWord
set_option maxRecDepth 20000 in
theorem ggX8_many_X8_brokenNow : GoodIn wsX8_many wsX8_brokenNow := goodIn_r _ [34, 35, 36, 37, 5, 38, 39, 40, 41, 42, 7, 43, 44, 45, 46, 47, 48, 49, 50, 21, 22, 23, 24, 25, 26, 27, 51, 52, 53, 54, 28, 29, 30, 55, 56, 57, 58, 59, 60, 61, 62, 63, 64, 65, 66, 67, 68, 69, 70, 74, 75, 76, 77, 78, 79, 80, 81, 82, 83, 84, 85, 86, 87] (by decide +kernel) (by decide +kernel)
set_option maxRecDepth 20000 in
theorem gX8_many_X8_brokenNow : GoodIn wsX8_many (wsV RX8 159 RX8 yX8_brokenNow wsX8_brokenNow) := goodIn_app (goodIn_of _ (by decide +kernel)) ggX8_many_X8_brokenNow
set_option maxRecDepth 20000 in
theorem ggX8_many_X8_sizeOf : GoodIn wsX8_many wsX8_sizeOf := goodIn_r _ [73] (by decide +kernel) (by decide +kernel)
set_option maxRecDepth 20000 in
theorem gX8_many_X8_sizeOf : GoodIn wsX8_many (va_wsS RX8 163 yX8_sizeOf wsX8_sizeOf) := goodIn_app (goodIn_of _ (by decide +kernel)) ggX8_many_X8_sizeOf
theorem dX8_many_0 : decode cX8_many 0 = .ok (.iload_n 1, 1) := by decide +kernel
theorem dX8_many_1 : decode cX8_many 1 = .ok (.tableswitch 70 0 4 #[35, 43, 52, 57, 62], 35) := by decide +kernel
theorem dX8_many_36 : decode cX8_many 36 = .ok (.aload_n 0, 1) := by decide +kernel
theorem dX8_many_37 : decode cX8_many 37 = .ok (.iconst 0, 1) := by decide +kernel
theorem dX8_many_38 : decode cX8_many 38 = .ok (.bipush 18, 2) := by decide +kernel
theorem dX8_many_40 : decode cX8_many 40 = .ok (.invokevirtual 166, 3) := by decide +kernel
theorem dX8_many_43 : decode cX8_many 43 = .ok (.ireturn, 1) := by decide +kernel
theorem dX8_many_44 : decode cX8_many 44 = .ok (.aload_n 0, 1) := by decide +kernel
theorem dX8_many_45 : decode cX8_many 45 = .ok (.bipush 18, 2) := by decide +kernel
theorem dX8_many_47 : decode cX8_many 47 = .ok (.bipush 24, 2) := by decide +kernel
theorem dX8_many_49 : decode cX8_many 49 = .ok (.invokevirtual 166, 3) := by decide +kernel
theorem dX8_many_52 : decode cX8_many 52 = .ok (.ireturn, 1) := by decide +kernel
theorem dX8_many_53 : decode cX8_many 53 = .ok (.aload_n 0, 1) := by decide +kernel
theorem dX8_many_54 : decode cX8_many 54 = .ok (.invokevirtual 169, 3) := by decide +kernel
theorem dX8_many_57 : decode cX8_many 57 = .ok (.ireturn, 1) := by decide +kernel
theorem dX8_many_58 : decode cX8_many 58 = .ok (.aload_n 0, 1) := by decide +kernel
theorem dX8_many_59 : decode cX8_many 59 = .ok (.getfield 50, 3) := by decide +kernel
theorem dX8_many_62 : decode cX8_many 62 = .ok (.ireturn, 1) := by decide +kernel
theorem dX8_many_63 : decode cX8_many 63 = .ok (.aload_n 0, 1) := by decide +kernel
theorem dX8_many_64 : decode cX8_many 64 = .ok (.invokevirtual 159, 3) := by decide +kernel
theorem dX8_many_67 : decode cX8_many 67 = .ok (.invokestatic 163, 3) := by decide +kernel
theorem dX8_many_70 : decode cX8_many 70 = .ok (.ireturn, 1) := by decide +kernel
theorem dX8_many_71 : decode cX8_many 71 = .ok (.bipush (-2), 2) := by decide +kernel
theorem dX8_many_73 : decode cX8_many 73 = .ok (.ireturn, 1) := by decide +kernel
theorem dJ6_bitCount_0f7a4_0 : decode cJ6_bitCount_0f7a4 0 = .ok (.iload_n 0, 1) := by decide +kernel
theorem dJ6_bitCount_0f7a4_1 : decode cJ6_bitCount_0f7a4 1 = .ok (.iload_n 0, 1) := by decide +kernel
theorem dJ6_bitCount_0f7a4_2 : decode cJ6_bitCount_0f7a4 2 = .ok (.iconst 1, 1) := by decide +kernel
theorem dJ6_bitCount_0f7a4_3 : decode cJ6_bitCount_0f7a4 3 = .ok (.iushr, 1) := by decide +kernel
theorem dJ6_bitCount_0f7a4_4 : decode cJ6_bitCount_0f7a4 4 = .ok (.ldc_w 265, 3) := by decide +kernel
theorem dJ6_bitCount_0f7a4_7 : decode cJ6_bitCount_0f7a4 7 = .ok (.iand, 1) := by decide +kernel
theorem dJ6_bitCount_0f7a4_8 : decode cJ6_bitCount_0f7a4 8 = .ok (.isub, 1) := by decide +kernel
theorem dJ6_bitCount_0f7a4_9 : decode cJ6_bitCount_0f7a4 9 = .ok (.istore_n 0, 1) := by decide +kernel
theorem dJ6_bitCount_0f7a4_10 : decode cJ6_bitCount_0f7a4 10 = .ok (.iload_n 0, 1) := by decide +kernel
theorem dJ6_bitCount_0f7a4_11 : decode cJ6_bitCount_0f7a4 11 = .ok (.ldc_w 266, 3) := by decide +kernel
theorem dJ6_bitCount_0f7a4_14 : decode cJ6_bitCount_0f7a4 14 = .ok (.iand, 1) := by decide +kernel
theorem dJ6_bitCount_0f7a4_15 : decode cJ6_bitCount_0f7a4 15 = .ok (.iload_n 0, 1) := by decide +kernel
theorem dJ6_bitCount_0f7a4_16 : decode cJ6_bitCount_0f7a4 16 = .ok (.iconst 2, 1) := by decide +kernel
theorem dJ6_bitCount_0f7a4_17 : decode cJ6_bitCount_0f7a4 17 = .ok (.iushr, 1) := by decide +kernel
theorem dJ6_bitCount_0f7a4_18 : decode cJ6_bitCount_0f7a4 18 = .ok (.ldc_w 266, 3) := by decide +kernel
theorem dJ6_bitCount_0f7a4_21 : decode cJ6_bitCount_0f7a4 21 = .ok (.iand, 1) := by decide +kernel
theorem dJ6_bitCount_0f7a4_22 : decode cJ6_bitCount_0f7a4 22 = .ok (.iadd, 1) := by decide +kernel
theorem dJ6_bitCount_0f7a4_23 : decode cJ6_bitCount_0f7a4 23 = .ok (.istore_n 0, 1) := by decide +kernel
theorem dJ6_bitCount_0f7a4_24 : decode cJ6_bitCount_0f7a4 24 = .ok (.iload_n 0, 1) := by decide +kernel
theorem dJ6_bitCount_0f7a4_25 : decode cJ6_bitCount_0f7a4 25 = .ok (.iload_n 0, 1) := by decide +kernel
theorem dJ6_bitCount_0f7a4_26 : decode cJ6_bitCount_0f7a4 26 = .ok (.iconst 4, 1) := by decide +kernel
theorem dJ6_bitCount_0f7a4_27 : decode cJ6_bitCount_0f7a4 27 = .ok (.iushr, 1) := by decide +kernel
theorem dJ6_bitCount_0f7a4_28 : decode cJ6_bitCount_0f7a4 28 = .ok (.iadd, 1) := by decide +kernel
theorem dJ6_bitCount_0f7a4_29 : decode cJ6_bitCount_0f7a4 29 = .ok (.ldc_w 267, 3) := by decide +kernel
theorem dJ6_bitCount_0f7a4_32 : decode cJ6_bitCount_0f7a4 32 = .ok (.iand, 1) := by decide +kernel
theorem dJ6_bitCount_0f7a4_33 : decode cJ6_bitCount_0f7a4 33 = .ok (.istore_n 0, 1) := by decide +kernel
theorem dJ6_bitCount_0f7a4_34 : decode cJ6_bitCount_0f7a4 34 = .ok (.iload_n 0, 1) := by decide +kernel
theorem dJ6_bitCount_0f7a4_35 : decode cJ6_bitCount_0f7a4 35 = .ok (.iload_n 0, 1) := by decide +kernel
theorem dJ6_bitCount_0f7a4_36 : decode cJ6_bitCount_0f7a4 36 = .ok (.bipush 8, 2) := by decide +kernel
theorem dJ6_bitCount_0f7a4_38 : decode cJ6_bitCount_0f7a4 38 = .ok (.iushr, 1) := by decide +kernel
theorem dJ6_bitCount_0f7a4_39 : decode cJ6_bitCount_0f7a4 39 = .ok (.iadd, 1) := by decide +kernel
theorem dJ6_bitCount_0f7a4_40 : decode cJ6_bitCount_0f7a4 40 = .ok (.istore_n 0, 1) := by decide +kernel
theorem dJ6_bitCount_0f7a4_41 : decode cJ6_bitCount_0f7a4 41 = .ok (.iload_n 0, 1) := by decide +kernel
theorem dJ6_bitCount_0f7a4_42 : decode cJ6_bitCount_0f7a4 42 = .ok (.iload_n 0, 1) := by decide +kernel
theorem dJ6_bitCount_0f7a4_43 : decode cJ6_bitCount_0f7a4 43 = .ok (.bipush 16, 2) := by decide +kernel
theorem dJ6_bitCount_0f7a4_45 : decode cJ6_bitCount_0f7a4 45 = .ok (.iushr, 1) := by decide +kernel
theorem dJ6_bitCount_0f7a4_46 : decode cJ6_bitCount_0f7a4 46 = .ok (.iadd, 1) := by decide +kernel
theorem dJ6_bitCount_0f7a4_47 : decode cJ6_bitCount_0f7a4 47 = .ok (.istore_n 0, 1) := by decide +kernel
theorem dJ6_bitCount_0f7a4_48 : decode cJ6_bitCount_0f7a4 48 = .ok (.iload_n 0, 1) := by decide +kernel
theorem dJ6_bitCount_0f7a4_49 : decode cJ6_bitCount_0f7a4 49 = .ok (.bipush 63, 2) := by decide +kernel
theorem dJ6_bitCount_0f7a4_51 : decode cJ6_bitCount_0f7a4 51 = .ok (.iand, 1) := by decide +kernel
theorem dJ6_bitCount_0f7a4_52 : decode cJ6_bitCount_0f7a4 52 = .ok (.ireturn, 1) := by decide +kernel
theorem dJ9_floorMod_7cf53_0 : decode cJ9_floorMod_7cf53 0 = .ok (.iload_n 0, 1) := by decide +kernel
theorem dJ9_floorMod_7cf53_1 : decode cJ9_floorMod_7cf53 1 = .ok (.iload_n 1, 1) := by decide +kernel
theorem dJ9_floorMod_7cf53_2 : decode cJ9_floorMod_7cf53 2 = .ok (.irem, 1) := by decide +kernel
theorem dJ9_floorMod_7cf53_3 : decode cJ9_floorMod_7cf53 3 = .ok (.istore_n 2, 1) := by decide +kernel
theorem dJ9_floorMod_7cf53_4 : decode cJ9_floorMod_7cf53 4 = .ok (.iload_n 0, 1) := by decide +kernel
theorem dJ9_floorMod_7cf53_5 : decode cJ9_floorMod_7cf53 5 = .ok (.iload_n 1, 1) := by decide +kernel
theorem dJ9_floorMod_7cf53_6 : decode cJ9_floorMod_7cf53 6 = .ok (.ixor, 1) := by decide +kernel
theorem dJ9_floorMod_7cf53_7 : decode cJ9_floorMod_7cf53 7 = .ok (.ifCond .ge 11, 3) := by decide +kernel
theorem dJ9_floorMod_7cf53_10 : decode cJ9_floorMod_7cf53 10 = .ok (.iload_n 2, 1) := by decide +kernel
theorem dJ9_floorMod_7cf53_11 : decode cJ9_floorMod_7cf53 11 = .ok (.ifCond .eq 7, 3) := by decide +kernel
theorem dJ9_floorMod_7cf53_14 : decode cJ9_floorMod_7cf53 14 = .ok (.iload_n 2, 1) := by decide +kernel
theorem dJ9_floorMod_7cf53_15 : decode cJ9_floorMod_7cf53 15 = .ok (.iload_n 1, 1) := by decide +kernel
theorem dJ9_floorMod_7cf53_16 : decode cJ9_floorMod_7cf53 16 = .ok (.iadd, 1) := by decide +kernel
theorem dJ9_floorMod_7cf53_17 : decode cJ9_floorMod_7cf53 17 = .ok (.ireturn, 1) := by decide +kernel
theorem dJ9_floorMod_7cf53_18 : decode cJ9_floorMod_7cf53 18 = .ok (.iload_n 2, 1) := by decide +kernel
theorem dJ9_floorMod_7cf53_19 : decode cJ9_floorMod_7cf53 19 = .ok (.ireturn, 1) := by decide +kernel
theorem dJ9_max_7cf53_0 : decode cJ9_max_7cf53 0 = .ok (.iload_n 0, 1) := by decide +kernel
theorem dJ9_max_7cf53_1 : decode cJ9_max_7cf53 1 = .ok (.iload_n 1, 1) := by decide +kernel
theorem dJ9_max_7cf53_2 : decode cJ9_max_7cf53 2 = .ok (.if_icmp .lt 7, 3) := by decide +kernel
theorem dJ9_max_7cf53_5 : decode cJ9_max_7cf53 5 = .ok (.iload_n 0, 1) := by decide +kernel
theorem dJ9_max_7cf53_6 : decode cJ9_max_7cf53 6 = .ok (.goto 4, 3) := by decide +kernel
theorem dJ9_max_7cf53_9 : decode cJ9_max_7cf53 9 = .ok (.iload_n 1, 1) := by decide +kernel
theorem dJ9_max_7cf53_10 : decode cJ9_max_7cf53 10 = .ok (.ireturn, 1) := by decide +kernel
theorem dJ9_min_7cf53_0 : decode cJ9_min_7cf53 0 = .ok (.iload_n 0, 1) := by decide +kernel
theorem dJ9_min_7cf53_1 : decode cJ9_min_7cf53 1 = .ok (.iload_n 1, 1) := by decide +kernel
theorem dJ9_min_7cf53_2 : decode cJ9_min_7cf53 2 = .ok (.if_icmp .gt 7, 3) := by decide +kernel
theorem dJ9_min_7cf53_5 : decode cJ9_min_7cf53 5 = .ok (.iload_n 0, 1) := by decide +kernel
theorem dJ9_min_7cf53_6 : decode cJ9_min_7cf53 6 = .ok (.goto 4, 3) := by decide +kernel
theorem dJ9_min_7cf53_9 : decode cJ9_min_7cf53 9 = .ok (.iload_n 1, 1) := by decide +kernel
theorem dJ9_min_7cf53_10 : decode cJ9_min_7cf53 10 = .ok (.ireturn, 1) := by decide +kernel
theorem dJ7_fill_53178_0 : decode cJ7_fill_53178 0 = .ok (.iconst 0, 1) := by decide +kernel
theorem dJ7_fill_53178_1 : decode cJ7_fill_53178 1 = .ok (.istore_n 2, 1) := by decide +kernel
theorem dJ7_fill_53178_2 : decode cJ7_fill_53178 2 = .ok (.aload_n 0, 1) := by decide +kernel
theorem dJ7_fill_53178_3 : decode cJ7_fill_53178 3 = .ok (.arraylength, 1) := by decide +kernel
theorem dJ7_fill_53178_4 : decode cJ7_fill_53178 4 = .ok (.istore_n 3, 1) := by decide +kernel
theorem dJ7_fill_53178_5 : decode cJ7_fill_53178 5 = .ok (.iload_n 2, 1) := by decide +kernel
theorem dJ7_fill_53178_6 : decode cJ7_fill_53178 6 = .ok (.iload_n 3, 1) := by decide +kernel
theorem dJ7_fill_53178_7 : decode cJ7_fill_53178 7 = .ok (.if_icmp .ge 13, 3) := by decide +kernel
theorem dJ7_fill_53178_10 : decode cJ7_fill_53178 10 = .ok (.aload_n 0, 1) := by decide +kernel
theorem dJ7_fill_53178_11 : decode cJ7_fill_53178 11 = .ok (.iload_n 2, 1) := by decide +kernel
theorem dJ7_fill_53178_12 : decode cJ7_fill_53178 12 = .ok (.iload_n 1, 1) := by decide +kernel
theorem dJ7_fill_53178_13 : decode cJ7_fill_53178 13 = .ok (.iastore, 1) := by decide +kernel
theorem dJ7_fill_53178_14 : decode cJ7_fill_53178 14 = .ok (.iinc 2 1, 3) := by decide +kernel
theorem dJ7_fill_53178_17 : decode cJ7_fill_53178 17 = .ok (.goto (-12), 3) := by decide +kernel
theorem dJ7_fill_53178_20 : decode cJ7_fill_53178 20 = .ok (.return_, 1) := by decide +kernel
