theorem dX8_placeOf_24 : decode cX8_placeOf 24 = .ok (.iadd, 1) := by decide +kernel
theorem dX8_placeOf_25 : decode cX8_placeOf 25 = .ok (.iaload, 1) := by decide +kernel
theorem dX8_placeOf_26 : decode cX8_placeOf 26 = .ok (.iload_n 1, 1) := by decide +kernel
theorem dX8_placeOf_27 : decode cX8_placeOf 27 = .ok (.if_icmp .ne 5, 3) := by decide +kernel
theorem dX8_placeOf_30 : decode cX8_placeOf 30 = .ok (.iload_n 3, 1) := by decide +kernel
theorem dX8_placeOf_31 : decode cX8_placeOf 31 = .ok (.ireturn, 1) := by decide +kernel
theorem dX8_placeOf_32 : decode cX8_placeOf 32 = .ok (.iinc 3 1, 3) := by decide +kernel
theorem dX8_placeOf_35 : decode cX8_placeOf 35 = .ok (.goto (-33), 3) := by decide +kernel
theorem dX8_placeOf_38 : decode cX8_placeOf 38 = .ok (.iconst (-1), 1) := by decide +kernel
theorem dX8_placeOf_39 : decode cX8_placeOf 39 = .ok (.ireturn, 1) := by decide +kernel
set_option maxRecDepth 20000 in
theorem ggX8_isHome_X8_placeOf : GoodIn wsX8_isHome wsX8_placeOf := goodIn_r _ [5, 6, 7, 8, 9, 10, 11, 12, 13, 14, 15, 16, 17, 18, 19, 20, 21] (by decide +kernel) (by decide +kernel)
set_option maxRecDepth 20000 in
theorem gX8_isHome_X8_placeOf : GoodIn wsX8_isHome (wsV RX8 169 RX8 yX8_placeOf wsX8_placeOf) := goodIn_app (goodIn_of _ (by decide +kernel)) ggX8_isHome_X8_placeOf
theorem dX8_isHome_0 : decode cX8_isHome 0 = .ok (.aload_n 0, 1) := by decide +kernel
theorem dX8_isHome_1 : decode cX8_isHome 1 = .ok (.iload_n 1, 1) := by decide +kernel
theorem dX8_isHome_2 : decode cX8_isHome 2 = .ok (.iload_n 2, 1) := by decide +kernel
theorem dX8_isHome_3 : decode cX8_isHome 3 = .ok (.invokevirtual 169, 3) := by decide +kernel
theorem dX8_isHome_6 : decode cX8_isHome 6 = .ok (.iconst 2, 1) := by decide +kernel
theorem dX8_isHome_7 : decode cX8_isHome 7 = .ok (.irem, 1) := by decide +kernel
theorem dX8_isHome_8 : decode cX8_isHome 8 = .ok (.ifCond .ne 7, 3) := by decide +kernel
theorem dX8_isHome_11 : decode cX8_isHome 11 = .ok (.iconst 1, 1) := by decide +kernel
theorem dX8_isHome_12 : decode cX8_isHome 12 = .ok (.goto 4, 3) := by decide +kernel
theorem dX8_isHome_15 : decode cX8_isHome 15 = .ok (.iconst 0, 1) := by decide +kernel
theorem dX8_isHome_16 : decode cX8_isHome 16 = .ok (.ireturn, 1) := by decide +kernel
set_option maxRecDepth 20000 in
theorem ggX8_meets_X8_placeOf : GoodIn wsX8_meets wsX8_placeOf := goodIn_r _ [6, 1, 7, 8, 9, 10, 11, 12, 13, 14, 15, 16, 17, 18, 19, 20, 21] (by decide +kernel) (by decide +kernel)
set_option maxRecDepth 20000 in
theorem gX8_meets_X8_placeOf : GoodIn wsX8_meets (wsV RX8 169 RX8 yX8_placeOf wsX8_placeOf) := goodIn_app (goodIn_of _ (by decide +kernel)) ggX8_meets_X8_placeOf
theorem dX8_meets_0 : decode cX8_meets 0 = .ok (.aload_n 0, 1) := by decide +kernel
theorem dX8_meets_1 : decode cX8_meets 1 = .ok (.iload_n 1, 1) := by decide +kernel
theorem dX8_meets_2 : decode cX8_meets 2 = .ok (.iload_n 2, 1) := by decide +kernel
theorem dX8_meets_3 : decode cX8_meets 3 = .ok (.invokevirtual 169, 3) := by decide +kernel
theorem dX8_meets_6 : decode cX8_meets 6 = .ok (.istore_n 3, 1) := by decide +kernel
theorem dX8_meets_7 : decode cX8_meets 7 = .ok (.aload_n 0, 1) := by decide +kernel
theorem dX8_meets_8 : decode cX8_meets 8 = .ok (.getfield 11, 3) := by decide +kernel
theorem dX8_meets_11 : decode cX8_meets 11 = .ok (.bipush 57, 2) := by decide +kernel
theorem dX8_meets_13 : decode cX8_meets 13 = .ok (.bipush 6, 2) := by decide +kernel
theorem dX8_meets_15 : decode cX8_meets 15 = .ok (.iload_n 2, 1) := by decide +kernel
theorem dX8_meets_16 : decode cX8_meets 16 = .ok (.imul, 1) := by decide +kernel
theorem dX8_meets_17 : decode cX8_meets 17 = .ok (.iadd, 1) := by decide +kernel
theorem dX8_meets_18 : decode cX8_meets 18 = .ok (.iload_n 3, 1) := by decide +kernel
theorem dX8_meets_19 : decode cX8_meets 19 = .ok (.iconst 2, 1) := by decide +kernel
theorem dX8_meets_20 : decode cX8_meets 20 = .ok (.irem, 1) := by decide +kernel
theorem dX8_meets_21 : decode cX8_meets 21 = .ok (.ifCond .ne 9, 3) := by decide +kernel
theorem dX8_meets_24 : decode cX8_meets 24 = .ok (.iload_n 3, 1) := by decide +kernel
theorem dX8_meets_25 : decode cX8_meets 25 = .ok (.iconst 1, 1) := by decide +kernel
theorem dX8_meets_26 : decode cX8_meets 26 = .ok (.iadd, 1) := by decide +kernel
theorem dX8_meets_27 : decode cX8_meets 27 = .ok (.goto 6, 3) := by decide +kernel
theorem dX8_meets_30 : decode cX8_meets 30 = .ok (.iload_n 3, 1) := by decide +kernel
theorem dX8_meets_31 : decode cX8_meets 31 = .ok (.iconst 1, 1) := by decide +kernel
theorem dX8_meets_32 : decode cX8_meets 32 = .ok (.isub, 1) := by decide +kernel
theorem dX8_meets_33 : decode cX8_meets 33 = .ok (.iadd, 1) := by decide +kernel
theorem dX8_meets_34 : decode cX8_meets 34 = .ok (.iaload, 1) := by decide +kernel
theorem dX8_meets_35 : decode cX8_meets 35 = .ok (.ireturn, 1) := by decide +kernel
set_option maxRecDepth 20000 in
theorem ggX8_breaksOf_X8_rounds : GoodIn wsX8_breaksOf wsX8_rounds := goodIn_r _ [5, 6, 15, 16, 17, 18, 19, 20, 21, 22, 23, 24, 25, 26, 27, 28, 29] (by decide +kernel) (by decide +kernel)
set_option maxRecDepth 20000 in
theorem gX8_breaksOf_X8_rounds : GoodIn wsX8_breaksOf (wsV RX8 51 RX8 yX8_rounds wsX8_rounds) := goodIn_app (goodIn_of _ (by decide +kernel)) ggX8_breaksOf_X8_rounds
set_option maxRecDepth 20000 in
theorem ggX8_breaksOf_X8_isHome : GoodIn wsX8_breaksOf wsX8_isHome := goodIn_r _ [10, 11, 12, 13, 4, 14, 6, 15, 16, 17, 18, 19, 20, 21, 22, 23, 24, 25, 26, 27, 28, 29] (by decide +kernel) (by decide +kernel)
set_option maxRecDepth 20000 in
theorem gX8_breaksOf_X8_isHome : GoodIn wsX8_breaksOf (wsV RX8 172 RX8 yX8_isHome wsX8_isHome) := goodIn_app (goodIn_of _ (by decide +kernel)) ggX8_breaksOf_X8_isHome
theorem dX8_breaksOf_0 : decode cX8_breaksOf 0 = .ok (.iconst 0, 1) := by decide +kernel
theorem dX8_breaksOf_1 : decode cX8_breaksOf 1 = .ok (.istore_n 2, 1) := by decide +kernel
theorem dX8_breaksOf_2 : decode cX8_breaksOf 2 = .ok (.iconst 1, 1) := by decide +kernel
theorem dX8_breaksOf_3 : decode cX8_breaksOf 3 = .ok (.istore_n 3, 1) := by decide +kernel
theorem dX8_breaksOf_4 : decode cX8_breaksOf 4 = .ok (.iload_n 3, 1) := by decide +kernel
theorem dX8_breaksOf_5 : decode cX8_breaksOf 5 = .ok (.aload_n 0, 1) := by decide +kernel
theorem dX8_breaksOf_6 : decode cX8_breaksOf 6 = .ok (.invokevirtual 51, 3) := by decide +kernel
theorem dX8_breaksOf_9 : decode cX8_breaksOf 9 = .ok (.if_icmp .ge 34, 3) := by decide +kernel
theorem dX8_breaksOf_12 : decode cX8_breaksOf 12 = .ok (.iload_n 2, 1) := by decide +kernel
theorem dX8_breaksOf_13 : decode cX8_breaksOf 13 = .ok (.aload_n 0, 1) := by decide +kernel
theorem dX8_breaksOf_14 : decode cX8_breaksOf 14 = .ok (.iload_n 1, 1) := by decide +kernel
theorem dX8_breaksOf_15 : decode cX8_breaksOf 15 = .ok (.iload_n 3, 1) := by decide +kernel
theorem dX8_breaksOf_16 : decode cX8_breaksOf 16 = .ok (.invokevirtual 172, 3) := by decide +kernel
theorem dX8_breaksOf_19 : decode cX8_breaksOf 19 = .ok (.aload_n 0, 1) := by decide +kernel
theorem dX8_breaksOf_20 : decode cX8_breaksOf 20 = .ok (.iload_n 1, 1) := by decide +kernel
theorem dX8_breaksOf_21 : decode cX8_breaksOf 21 = .ok (.iload_n 3, 1) := by decide +kernel
theorem dX8_breaksOf_22 : decode cX8_breaksOf 22 = .ok (.iconst 1, 1) := by decide +kernel
theorem dX8_breaksOf_23 : decode cX8_breaksOf 23 = .ok (.isub, 1) := by decide +kernel
theorem dX8_breaksOf_24 : decode cX8_breaksOf 24 = .ok (.invokevirtual 172, 3) := by decide +kernel
theorem dX8_breaksOf_27 : decode cX8_breaksOf 27 = .ok (.if_icmp .ne 7, 3) := by decide +kernel
theorem dX8_breaksOf_30 : decode cX8_breaksOf 30 = .ok (.iconst 1, 1) := by decide +kernel
theorem dX8_breaksOf_31 : decode cX8_breaksOf 31 = .ok (.goto 4, 3) := by decide +kernel
theorem dX8_breaksOf_34 : decode cX8_breaksOf 34 = .ok (.iconst 0, 1) := by decide +kernel
theorem dX8_breaksOf_35 : decode cX8_breaksOf 35 = .ok (.iadd, 1) := by decide +kernel
theorem dX8_breaksOf_36 : decode cX8_breaksOf 36 = .ok (.istore_n 2, 1) := by decide +kernel
theorem dX8_breaksOf_37 : decode cX8_breaksOf 37 = .ok (.iinc 3 1, 3) := by decide +kernel
theorem dX8_breaksOf_40 : decode cX8_breaksOf 40 = .ok (.goto (-36), 3) := by decide +kernel
theorem dX8_breaksOf_43 : decode cX8_breaksOf 43 = .ok (.iload_n 2, 1) := by decide +kernel
theorem dX8_breaksOf_44 : decode cX8_breaksOf 44 = .ok (.ireturn, 1) := by decide +kernel
set_option maxRecDepth 20000 in
theorem ggX8_allBreaks_X8_breaksOf : GoodIn wsX8_allBreaks wsX8_breaksOf := goodIn_r _ [6, 7, 8, 9, 5, 10, 1, 11, 12, 13, 14, 15, 16, 17, 18, 19, 20, 21, 22, 23, 24, 25, 26, 27, 28, 29, 30, 31, 32, 33] (by decide +kernel) (by decide +kernel)
set_option maxRecDepth 20000 in
theorem gX8_allBreaks_X8_breaksOf : GoodIn wsX8_allBreaks (wsV RX8 176 RX8 yX8_breaksOf wsX8_breaksOf) := goodIn_app (goodIn_of _ (by decide +kernel)) ggX8_allBreaks_X8_breaksOf
theorem dX8_allBreaks_0 : decode cX8_allBreaks 0 = .ok (.iconst 0, 1) := by decide +kernel
theorem dX8_allBreaks_1 : decode cX8_allBreaks 1 = .ok (.istore_n 1, 1) := by decide +kernel
theorem dX8_allBreaks_2 : decode cX8_allBreaks 2 = .ok (.iconst 0, 1) := by decide +kernel
theorem dX8_allBreaks_3 : decode cX8_allBreaks 3 = .ok (.istore_n 2, 1) := by decide +kernel
theorem dX8_allBreaks_4 : decode cX8_allBreaks 4 = .ok (.iload_n 2, 1) := by decide +kernel
theorem dX8_allBreaks_5 : decode cX8_allBreaks 5 = .ok (.aload_n 0, 1) := by decide +kernel
theorem dX8_allBreaks_6 : decode cX8_allBreaks 6 = .ok (.getfield 11, 3) := by decide +kernel
theorem dX8_allBreaks_9 : decode cX8_allBreaks 9 = .ok (.iconst 0, 1) := by decide +kernel
theorem dX8_allBreaks_10 : decode cX8_allBreaks 10 = .ok (.iaload, 1) := by decide +kernel
theorem dX8_allBreaks_11 : decode cX8_allBreaks 11 = .ok (.if_icmp .ge 17, 3) := by decide +kernel
theorem dX8_allBreaks_14 : decode cX8_allBreaks 14 = .ok (.iload_n 1, 1) := by decide +kernel
theorem dX8_allBreaks_15 : decode cX8_allBreaks 15 = .ok (.aload_n 0, 1) := by decide +kernel
theorem dX8_allBreaks_16 : decode cX8_allBreaks 16 = .ok (.iload_n 2, 1) := by decide +kernel
theorem dX8_allBreaks_17 : decode cX8_allBreaks 17 = .ok (.invokevirtual 176, 3) := by decide +kernel
theorem dX8_allBreaks_20 : decode cX8_allBreaks 20 = .ok (.iadd, 1) := by decide +kernel
theorem dX8_allBreaks_21 : decode cX8_allBreaks 21 = .ok (.istore_n 1, 1) := by decide +kernel
theorem dX8_allBreaks_22 : decode cX8_allBreaks 22 = .ok (.iinc 2 1, 3) := by decide +kernel
theorem dX8_allBreaks_25 : decode cX8_allBreaks 25 = .ok (.goto (-21), 3) := by decide +kernel
theorem dX8_allBreaks_28 : decode cX8_allBreaks 28 = .ok (.iload_n 1, 1) := by decide +kernel
theorem dX8_allBreaks_29 : decode cX8_allBreaks 29 = .ok (.ireturn, 1) := by decide +kernel
set_option maxRecDepth 20000 in
theorem ggX8_violated_X8_rounds : GoodIn wsX8_violated wsX8_rounds := goodIn_r _ [6, 1, 15, 16, 17, 18, 19, 20, 21, 22, 23, 24, 25, 26, 27, 28, 29] (by decide +kernel) (by decide +kernel)
set_option maxRecDepth 20000 in
theorem gX8_violated_X8_rounds : GoodIn wsX8_violated (wsV RX8 51 RX8 yX8_rounds wsX8_rounds) := goodIn_app (goodIn_of _ (by decide +kernel)) ggX8_violated_X8_rounds
set_option maxRecDepth 20000 in
theorem ggX8_violated_X8_isHome : GoodIn wsX8_violated wsX8_isHome := goodIn_r _ [10, 11, 12, 13, 5, 14, 1, 15, 16, 17, 18, 19, 20, 21, 22, 23, 24, 25, 26, 27, 28, 29] (by decide +kernel) (by decide +kernel)
set_option maxRecDepth 20000 in
theorem gX8_violated_X8_isHome : GoodIn wsX8_violated (wsV RX8 172 RX8 yX8_isHome wsX8_isHome) := goodIn_app (goodIn_of _ (by decide +kernel)) ggX8_violated_X8_isHome
theorem dX8_violated_0 : decode cX8_violated 0 = .ok (.iconst 0, 1) := by decide +kernel
theorem dX8_violated_1 : decode cX8_violated 1 = .ok (.istore_n 1, 1) := by decide +kernel
theorem dX8_violated_2 : decode cX8_violated 2 = .ok (.iconst 0, 1) := by decide +kernel
theorem dX8_violated_3 : decode cX8_violated 3 = .ok (.istore_n 2, 1) := by decide +kernel
theorem dX8_violated_4 : decode cX8_violated 4 = .ok (.iload_n 2, 1) := by decide +kernel
theorem dX8_violated_5 : decode cX8_violated 5 = .ok (.aload_n 0, 1) := by decide +kernel
theorem dX8_violated_6 : decode cX8_violated 6 = .ok (.getfield 11, 3) := by decide +kernel
theorem dX8_violated_9 : decode cX8_violated 9 = .ok (.iconst 0, 1) := by decide +kernel
theorem dX8_violated_10 : decode cX8_violated 10 = .ok (.iaload, 1) := by decide +kernel
theorem dX8_violated_11 : decode cX8_violated 11 = .ok (.if_icmp .ge 60, 3) := by decide +kernel
theorem dX8_violated_14 : decode cX8_violated 14 = .ok (.iconst 0, 1) := by decide +kernel
theorem dX8_violated_15 : decode cX8_violated 15 = .ok (.istore_n 3, 1) := by decide +kernel
theorem dX8_violated_16 : decode cX8_violated 16 = .ok (.iload_n 3, 1) := by decide +kernel
theorem dX8_violated_17 : decode cX8_violated 17 = .ok (.aload_n 0, 1) := by decide +kernel
theorem dX8_violated_18 : decode cX8_violated 18 = .ok (.invokevirtual 51, 3) := by decide +kernel
theorem dX8_violated_21 : decode cX8_violated 21 = .ok (.if_icmp .ge 44, 3) := by decide +kernel
theorem dX8_violated_24 : decode cX8_violated 24 = .ok (.iload_n 1, 1) := by decide +kernel
theorem dX8_violated_25 : decode cX8_violated 25 = .ok (.aload_n 0, 1) := by decide +kernel
theorem dX8_violated_26 : decode cX8_violated 26 = .ok (.getfield 11, 3) := by decide +kernel
theorem dX8_violated_29 : decode cX8_violated 29 = .ok (.bipush 21, 2) := by decide +kernel
theorem dX8_violated_31 : decode cX8_violated 31 = .ok (.bipush 6, 2) := by decide +kernel
theorem dX8_violated_33 : decode cX8_violated 33 = .ok (.iload_n 2, 1) := by decide +kernel
theorem dX8_violated_34 : decode cX8_violated 34 = .ok (.imul, 1) := by decide +kernel
theorem dX8_violated_35 : decode cX8_violated 35 = .ok (.iadd, 1) := by decide +kernel
theorem dX8_violated_36 : decode cX8_violated 36 = .ok (.iload_n 3, 1) := by decide +kernel
theorem dX8_violated_37 : decode cX8_violated 37 = .ok (.iadd, 1) := by decide +kernel
theorem dX8_violated_38 : decode cX8_violated 38 = .ok (.iaload, 1) := by decide +kernel
theorem dX8_violated_39 : decode cX8_violated 39 = .ok (.iconst 1, 1) := by decide +kernel
theorem dX8_violated_40 : decode cX8_violated 40 = .ok (.if_icmp .ne 16, 3) := by decide +kernel
theorem dX8_violated_43 : decode cX8_violated 43 = .ok (.aload_n 0, 1) := by decide +kernel
theorem dX8_violated_44 : decode cX8_violated 44 = .ok (.iload_n 2, 1) := by decide +kernel
theorem dX8_violated_45 : decode cX8_violated 45 = .ok (.iload_n 3, 1) := by decide +kernel
theorem dX8_violated_46 : decode cX8_violated 46 = .ok (.invokevirtual 172, 3) := by decide +kernel
theorem dX8_violated_49 : decode cX8_violated 49 = .ok (.ifCond .eq 7, 3) := by decide +kernel
theorem dX8_violated_52 : decode cX8_violated 52 = .ok (.iconst 1, 1) := by decide +kernel
theorem dX8_violated_53 : decode cX8_violated 53 = .ok (.goto 4, 3) := by decide +kernel
theorem dX8_violated_56 : decode cX8_violated 56 = .ok (.iconst 0, 1) := by decide +kernel
theorem dX8_violated_57 : decode cX8_violated 57 = .ok (.iadd, 1) := by decide +kernel
theorem dX8_violated_58 : decode cX8_violated 58 = .ok (.istore_n 1, 1) := by decide +kernel
theorem dX8_violated_59 : decode cX8_violated 59 = .ok (.iinc 3 1, 3) := by decide +kernel
theorem dX8_violated_62 : decode cX8_violated 62 = .ok (.goto (-46), 3) := by decide +kernel
theorem dX8_violated_65 : decode cX8_violated 65 = .ok (.iinc 2 1, 3) := by decide +kernel
theorem dX8_violated_68 : decode cX8_violated 68 = .ok (.goto (-64), 3) := by decide +kernel
theorem dX8_violated_71 : decode cX8_violated 71 = .ok (.iload_n 1, 1) := by decide +kernel
theorem dX8_violated_72 : decode cX8_violated 72 = .ok (.ireturn, 1) := by decide +kernel
set_option maxRecDepth 20000 in
theorem ggX8_carriedBy_X8_rounds : GoodIn wsX8_carriedBy wsX8_rounds := goodIn_r _ [5, 6, 15, 16, 17, 18, 19, 20, 21, 22, 23, 24, 25, 26, 27, 28, 29] (by decide +kernel) (by decide +kernel)
set_option maxRecDepth 20000 in
theorem gX8_carriedBy_X8_rounds : GoodIn wsX8_carriedBy (wsV RX8 51 RX8 yX8_rounds wsX8_rounds) := goodIn_app (goodIn_of _ (by decide +kernel)) ggX8_carriedBy_X8_rounds
set_option maxRecDepth 20000 in
theorem ggX8_carriedBy_X8_meets : GoodIn wsX8_carriedBy wsX8_meets := goodIn_r _ [10, 6, 11, 12, 13, 4, 14, 15, 16, 17, 18, 19, 20, 21, 22, 23, 24, 25, 26, 27, 28, 29] (by decide +kernel) (by decide +kernel)
set_option maxRecDepth 20000 in
theorem gX8_carriedBy_X8_meets : GoodIn wsX8_carriedBy (wsV RX8 179 RX8 yX8_meets wsX8_meets) := goodIn_app (goodIn_of _ (by decide +kernel)) ggX8_carriedBy_X8_meets
theorem dX8_carriedBy_0 : decode cX8_carriedBy 0 = .ok (.iconst 0, 1) := by decide +kernel
theorem dX8_carriedBy_1 : decode cX8_carriedBy 1 = .ok (.istore_n 3, 1) := by decide +kernel
theorem dX8_carriedBy_2 : decode cX8_carriedBy 2 = .ok (.iconst 0, 1) := by decide +kernel
theorem dX8_carriedBy_3 : decode cX8_carriedBy 3 = .ok (.istore 4, 2) := by decide +kernel
theorem dX8_carriedBy_5 : decode cX8_carriedBy 5 = .ok (.iload 4, 2) := by decide +kernel
theorem dX8_carriedBy_7 : decode cX8_carriedBy 7 = .ok (.iconst 1, 1) := by decide +kernel
theorem dX8_carriedBy_8 : decode cX8_carriedBy 8 = .ok (.iadd, 1) := by decide +kernel
theorem dX8_carriedBy_9 : decode cX8_carriedBy 9 = .ok (.aload_n 0, 1) := by decide +kernel
theorem dX8_carriedBy_10 : decode cX8_carriedBy 10 = .ok (.invokevirtual 51, 3) := by decide +kernel
theorem dX8_carriedBy_13 : decode cX8_carriedBy 13 = .ok (.if_icmp .ge 36, 3) := by decide +kernel
theorem dX8_carriedBy_16 : decode cX8_carriedBy 16 = .ok (.iload_n 3, 1) := by decide +kernel
theorem dX8_carriedBy_17 : decode cX8_carriedBy 17 = .ok (.aload_n 0, 1) := by decide +kernel
theorem dX8_carriedBy_18 : decode cX8_carriedBy 18 = .ok (.aload_n 0, 1) := by decide +kernel
theorem dX8_carriedBy_19 : decode cX8_carriedBy 19 = .ok (.iload_n 1, 1) := by decide +kernel
theorem dX8_carriedBy_20 : decode cX8_carriedBy 20 = .ok (.iload 4, 2) := by decide +kernel
theorem dX8_carriedBy_22 : decode cX8_carriedBy 22 = .ok (.invokevirtual 179, 3) := by decide +kernel
theorem dX8_carriedBy_25 : decode cX8_carriedBy 25 = .ok (.iload 4, 2) := by decide +kernel
theorem dX8_carriedBy_27 : decode cX8_carriedBy 27 = .ok (.iconst 1, 1) := by decide +kernel
theorem dX8_carriedBy_28 : decode cX8_carriedBy 28 = .ok (.iadd, 1) := by decide +kernel
theorem dX8_carriedBy_29 : decode cX8_carriedBy 29 = .ok (.invokevirtual 179, 3) := by decide +kernel
theorem dX8_carriedBy_32 : decode cX8_carriedBy 32 = .ok (.iload_n 2, 1) := by decide +kernel
theorem dX8_carriedBy_33 : decode cX8_carriedBy 33 = .ok (.if_icmp .ne 7, 3) := by decide +kernel
theorem dX8_carriedBy_36 : decode cX8_carriedBy 36 = .ok (.iconst 1, 1) := by decide +kernel
theorem dX8_carriedBy_37 : decode cX8_carriedBy 37 = .ok (.goto 4, 3) := by decide +kernel
theorem dX8_carriedBy_40 : decode cX8_carriedBy 40 = .ok (.iconst 0, 1) := by decide +kernel
theorem dX8_carriedBy_41 : decode cX8_carriedBy 41 = .ok (.iadd, 1) := by decide +kernel
theorem dX8_carriedBy_42 : decode cX8_carriedBy 42 = .ok (.istore_n 3, 1) := by decide +kernel
theorem dX8_carriedBy_43 : decode cX8_carriedBy 43 = .ok (.iinc 4 1, 3) := by decide +kernel
theorem dX8_carriedBy_46 : decode cX8_carriedBy 46 = .ok (.goto (-41), 3) := by decide +kernel
theorem dX8_carriedBy_49 : decode cX8_carriedBy 49 = .ok (.iload_n 3, 1) := by decide +kernel
theorem dX8_carriedBy_50 : decode cX8_carriedBy 50 = .ok (.ireturn, 1) := by decide +kernel
set_option maxRecDepth 20000 in
theorem ggX8_carry_X8_carriedBy : GoodIn wsX8_carry wsX8_carriedBy := goodIn_r _ [6, 7, 8, 9, 5, 10, 1, 11, 12, 13, 14, 15, 16, 17, 18, 19, 20, 21, 22, 23, 24, 25, 26, 27, 28, 29, 30, 31, 32, 33] (by decide +kernel) (by decide +kernel)
set_option maxRecDepth 20000 in
theorem gX8_carry_X8_carriedBy : GoodIn wsX8_carry (wsV RX8 182 RX8 yX8_carriedBy wsX8_carriedBy) := goodIn_app (goodIn_of _ (by decide +kernel)) ggX8_carry_X8_carriedBy
theorem dX8_carry_0 : decode cX8_carry 0 = .ok (.iconst 0, 1) := by decide +kernel
theorem dX8_carry_1 : decode cX8_carry 1 = .ok (.istore_n 1, 1) := by decide +kernel
theorem dX8_carry_2 : decode cX8_carry 2 = .ok (.iconst 0, 1) := by decide +kernel
theorem dX8_carry_3 : decode cX8_carry 3 = .ok (.istore_n 2, 1) := by decide +kernel
theorem dX8_carry_4 : decode cX8_carry 4 = .ok (.iload_n 2, 1) := by decide +kernel
theorem dX8_carry_5 : decode cX8_carry 5 = .ok (.aload_n 0, 1) := by decide +kernel
theorem dX8_carry_6 : decode cX8_carry 6 = .ok (.getfield 11, 3) := by decide +kernel
theorem dX8_carry_9 : decode cX8_carry 9 = .ok (.iconst 0, 1) := by decide +kernel
theorem dX8_carry_10 : decode cX8_carry 10 = .ok (.iaload, 1) := by decide +kernel
theorem dX8_carry_11 : decode cX8_carry 11 = .ok (.if_icmp .ge 52, 3) := by decide +kernel
theorem dX8_carry_14 : decode cX8_carry 14 = .ok (.iconst 0, 1) := by decide +kernel
theorem dX8_carry_15 : decode cX8_carry 15 = .ok (.istore_n 3, 1) := by decide +kernel
theorem dX8_carry_16 : decode cX8_carry 16 = .ok (.iload_n 3, 1) := by decide +kernel
theorem dX8_carry_17 : decode cX8_carry 17 = .ok (.aload_n 0, 1) := by decide +kernel
theorem dX8_carry_18 : decode cX8_carry 18 = .ok (.getfield 11, 3) := by decide +kernel
theorem dX8_carry_21 : decode cX8_carry 21 = .ok (.iconst 0, 1) := by decide +kernel
theorem dX8_carry_22 : decode cX8_carry 22 = .ok (.iaload, 1) := by decide +kernel
theorem dX8_carry_23 : decode cX8_carry 23 = .ok (.if_icmp .ge 34, 3) := by decide +kernel
theorem dX8_carry_26 : decode cX8_carry 26 = .ok (.iload_n 2, 1) := by decide +kernel
theorem dX8_carry_27 : decode cX8_carry 27 = .ok (.iload_n 3, 1) := by decide +kernel
theorem dX8_carry_28 : decode cX8_carry 28 = .ok (.if_icmp .ne 7, 3) := by decide +kernel
theorem dX8_carry_31 : decode cX8_carry 31 = .ok (.iconst 0, 1) := by decide +kernel
theorem dX8_carry_32 : decode cX8_carry 32 = .ok (.goto 9, 3) := by decide +kernel
theorem dX8_carry_35 : decode cX8_carry 35 = .ok (.aload_n 0, 1) := by decide +kernel
theorem dX8_carry_36 : decode cX8_carry 36 = .ok (.iload_n 2, 1) := by decide +kernel
theorem dX8_carry_37 : decode cX8_carry 37 = .ok (.iload_n 3, 1) := by decide +kernel
theorem dX8_carry_38 : decode cX8_carry 38 = .ok (.invokevirtual 182, 3) := by decide +kernel
theorem dX8_carry_41 : decode cX8_carry 41 = .ok (.istore 4, 2) := by decide +kernel
theorem dX8_carry_43 : decode cX8_carry 43 = .ok (.iload_n 1, 1) := by decide +kernel
theorem dX8_carry_44 : decode cX8_carry 44 = .ok (.iload 4, 2) := by decide +kernel
theorem dX8_carry_46 : decode cX8_carry 46 = .ok (.iload 4, 2) := by decide +kernel
theorem dX8_carry_48 : decode cX8_carry 48 = .ok (.imul, 1) := by decide +kernel
theorem dX8_carry_49 : decode cX8_carry 49 = .ok (.iadd, 1) := by decide +kernel
theorem dX8_carry_50 : decode cX8_carry 50 = .ok (.istore_n 1, 1) := by decide +kernel
theorem dX8_carry_51 : decode cX8_carry 51 = .ok (.iinc 3 1, 3) := by decide +kernel
theorem dX8_carry_54 : decode cX8_carry 54 = .ok (.goto (-38), 3) := by decide +kernel
theorem dX8_carry_57 : decode cX8_carry 57 = .ok (.iinc 2 1, 3) := by decide +kernel
theorem dX8_carry_60 : decode cX8_carry 60 = .ok (.goto (-56), 3) := by decide +kernel
theorem dX8_carry_63 : decode cX8_carry 63 = .ok (.iload_n 1, 1) := by decide +kernel
theorem dX8_carry_64 : decode cX8_carry 64 = .ok (.ireturn, 1) := by decide +kernel
theorem dX8_far_0 : decode cX8_far 0 = .ok (.aload_n 0, 1) := by decide +kernel
theorem dX8_far_1 : decode cX8_far 1 = .ok (.getfield 11, 3) := by decide +kernel
theorem dX8_far_4 : decode cX8_far 4 = .ok (.bipush 9, 2) := by decide +kernel
theorem dX8_far_6 : decode cX8_far 6 = .ok (.iconst 2, 1) := by decide +kernel
theorem dX8_far_7 : decode cX8_far 7 = .ok (.iload_n 1, 1) := by decide +kernel
theorem dX8_far_8 : decode cX8_far 8 = .ok (.imul, 1) := by decide +kernel
theorem dX8_far_9 : decode cX8_far 9 = .ok (.iadd, 1) := by decide +kernel
theorem dX8_far_10 : decode cX8_far 10 = .ok (.iaload, 1) := by decide +kernel
theorem dX8_far_11 : decode cX8_far 11 = .ok (.aload_n 0, 1) := by decide +kernel
theorem dX8_far_12 : decode cX8_far 12 = .ok (.getfield 11, 3) := by decide +kernel
theorem dX8_far_15 : decode cX8_far 15 = .ok (.bipush 9, 2) := by decide +kernel
theorem dX8_far_17 : decode cX8_far 17 = .ok (.iconst 2, 1) := by decide +kernel
theorem dX8_far_18 : decode cX8_far 18 = .ok (.iload_n 2, 1) := by decide +kernel
theorem dX8_far_19 : decode cX8_far 19 = .ok (.imul, 1) := by decide +kernel
theorem dX8_far_20 : decode cX8_far 20 = .ok (.iadd, 1) := by decide +kernel
theorem dX8_far_21 : decode cX8_far 21 = .ok (.iaload, 1) := by decide +kernel
theorem dX8_far_22 : decode cX8_far 22 = .ok (.isub, 1) := by decide +kernel
theorem dX8_far_23 : decode cX8_far 23 = .ok (.invokestatic 185, 3) := by decide +kernel
theorem dX8_far_26 : decode cX8_far 26 = .ok (.aload_n 0, 1) := by decide +kernel
theorem dX8_far_27 : decode cX8_far 27 = .ok (.getfield 11, 3) := by decide +kernel
theorem dX8_far_30 : decode cX8_far 30 = .ok (.bipush 9, 2) := by decide +kernel
theorem dX8_far_32 : decode cX8_far 32 = .ok (.iconst 2, 1) := by decide +kernel
theorem dX8_far_33 : decode cX8_far 33 = .ok (.iload_n 1, 1) := by decide +kernel
theorem dX8_far_34 : decode cX8_far 34 = .ok (.imul, 1) := by decide +kernel
theorem dX8_far_35 : decode cX8_far 35 = .ok (.iadd, 1) := by decide +kernel
theorem dX8_far_36 : decode cX8_far 36 = .ok (.iconst 1, 1) := by decide +kernel
theorem dX8_far_37 : decode cX8_far 37 = .ok (.iadd, 1) := by decide +kernel
theorem dX8_far_38 : decode cX8_far 38 = .ok (.iaload, 1) := by decide +kernel
theorem dX8_far_39 : decode cX8_far 39 = .ok (.aload_n 0, 1) := by decide +kernel
theorem dX8_far_40 : decode cX8_far 40 = .ok (.getfield 11, 3) := by decide +kernel
theorem dX8_far_43 : decode cX8_far 43 = .ok (.bipush 9, 2) := by decide +kernel
theorem dX8_far_45 : decode cX8_far 45 = .ok (.iconst 2, 1) := by decide +kernel
theorem dX8_far_46 : decode cX8_far 46 = .ok (.iload_n 2, 1) := by decide +kernel
theorem dX8_far_47 : decode cX8_far 47 = .ok (.imul, 1) := by decide +kernel
theorem dX8_far_48 : decode cX8_far 48 = .ok (.iadd, 1) := by decide +kernel
theorem dX8_far_49 : decode cX8_far 49 = .ok (.iconst 1, 1) := by decide +kernel
theorem dX8_far_50 : decode cX8_far 50 = .ok (.iadd, 1) := by decide +kernel
theorem dX8_far_51 : decode cX8_far 51 = .ok (.iaload, 1) := by decide +kernel
theorem dX8_far_52 : decode cX8_far 52 = .ok (.isub, 1) := by decide +kernel
theorem dX8_far_53 : decode cX8_far 53 = .ok (.invokestatic 185, 3) := by decide +kernel
theorem dX8_far_56 : decode cX8_far 56 = .ok (.iadd, 1) := by decide +kernel
theorem dX8_far_57 : decode cX8_far 57 = .ok (.ireturn, 1) := by decide +kernel
set_option maxRecDepth 20000 in
theorem ggX8_whereBehind_X8_isHome : GoodIn wsX8_whereBehind wsX8_isHome := goodIn_r _ [5, 6, 7, 8, 4, 9, 10, 15, 16, 17, 18, 19, 20, 21, 22, 23, 24, 25, 26, 27, 28, 29] (by decide +kernel) (by decide +kernel)
set_option maxRecDepth 20000 in
theorem gX8_whereBehind_X8_isHome : GoodIn wsX8_whereBehind (wsV RX8 172 RX8 yX8_isHome wsX8_isHome) := goodIn_app (goodIn_of _ (by decide +kernel)) ggX8_whereBehind_X8_isHome
set_option maxRecDepth 20000 in
theorem ggX8_whereBehind_X8_meets : GoodIn wsX8_whereBehind wsX8_meets := goodIn_r _ [14, 10, 6, 7, 8, 4, 9, 15, 16, 17, 18, 19, 20, 21, 22, 23, 24, 25, 26, 27, 28, 29] (by decide +kernel) (by decide +kernel)
set_option maxRecDepth 20000 in
theorem gX8_whereBehind_X8_meets : GoodIn wsX8_whereBehind (wsV RX8 179 RX8 yX8_meets wsX8_meets) := goodIn_app (goodIn_of _ (by decide +kernel)) ggX8_whereBehind_X8_meets
theorem dX8_whereBehind_0 : decode cX8_whereBehind 0 = .ok (.iload_n 2, 1) := by decide +kernel
theorem dX8_whereBehind_1 : decode cX8_whereBehind 1 = .ok (.ifCond .eq 14, 3) := by decide +kernel
theorem dX8_whereBehind_4 : decode cX8_whereBehind 4 = .ok (.aload_n 0, 1) := by decide +kernel
theorem dX8_whereBehind_5 : decode cX8_whereBehind 5 = .ok (.iload_n 1, 1) := by decide +kernel
theorem dX8_whereBehind_6 : decode cX8_whereBehind 6 = .ok (.iload_n 2, 1) := by decide +kernel
theorem dX8_whereBehind_7 : decode cX8_whereBehind 7 = .ok (.iconst 1, 1) := by decide +kernel
theorem dX8_whereBehind_8 : decode cX8_whereBehind 8 = .ok (.isub, 1) := by decide +kernel
theorem dX8_whereBehind_9 : decode cX8_whereBehind 9 = .ok (.invokevirtual 172, 3) := by decide +kernel
theorem dX8_whereBehind_12 : decode cX8_whereBehind 12 = .ok (.ifCond .eq 7, 3) := by decide +kernel
theorem dX8_whereBehind_15 : decode cX8_whereBehind 15 = .ok (.iload_n 1, 1) := by decide +kernel
theorem dX8_whereBehind_16 : decode cX8_whereBehind 16 = .ok (.goto 11, 3) := by decide +kernel
theorem dX8_whereBehind_19 : decode cX8_whereBehind 19 = .ok (.aload_n 0, 1) := by decide +kernel
theorem dX8_whereBehind_20 : decode cX8_whereBehind 20 = .ok (.iload_n 1, 1) := by decide +kernel
theorem dX8_whereBehind_21 : decode cX8_whereBehind 21 = .ok (.iload_n 2, 1) := by decide +kernel
theorem dX8_whereBehind_22 : decode cX8_whereBehind 22 = .ok (.iconst 1, 1) := by decide +kernel
theorem dX8_whereBehind_23 : decode cX8_whereBehind 23 = .ok (.isub, 1) := by decide +kernel
theorem dX8_whereBehind_24 : decode cX8_whereBehind 24 = .ok (.invokevirtual 179, 3) := by decide +kernel
theorem dX8_whereBehind_27 : decode cX8_whereBehind 27 = .ok (.ireturn, 1) := by decide +kernel
set_option maxRecDepth 20000 in
theorem ggX8_wayOf_X8_whereBehind : GoodIn wsX8_wayOf wsX8_whereBehind := goodIn_r _ [5, 6, 7, 8, 4, 9, 10, 11, 12, 13, 14, 15, 16, 17, 18, 27, 28, 29, 30, 31, 32, 33, 34, 35, 36, 37, 38, 39, 40, 41] (by decide +kernel) (by decide +kernel)
set_option maxRecDepth 20000 in
theorem gX8_wayOf_X8_whereBehind : GoodIn wsX8_wayOf (wsV RX8 190 RX8 yX8_whereBehind wsX8_whereBehind) := goodIn_app (goodIn_of _ (by decide +kernel)) ggX8_wayOf_X8_whereBehind
set_option maxRecDepth 20000 in
theorem ggX8_wayOf_X8_far : GoodIn wsX8_wayOf wsX8_far := goodIn_r _ [22, 14, 23, 24, 25, 26, 27, 28, 29, 30, 31, 32, 33, 34, 35, 36, 37, 38, 39, 40, 41] (by decide +kernel) (by decide +kernel)
set_option maxRecDepth 20000 in
theorem gX8_wayOf_X8_far : GoodIn wsX8_wayOf (wsV RX8 193 RX8 yX8_far wsX8_far) := goodIn_app (goodIn_of _ (by decide +kernel)) ggX8_wayOf_X8_far
theorem dX8_wayOf_0 : decode cX8_wayOf 0 = .ok (.aload_n 0, 1) := by decide +kernel
theorem dX8_wayOf_1 : decode cX8_wayOf 1 = .ok (.aload_n 0, 1) := by decide +kernel
theorem dX8_wayOf_2 : decode cX8_wayOf 2 = .ok (.iload_n 1, 1) := by decide +kernel
theorem dX8_wayOf_3 : decode cX8_wayOf 3 = .ok (.iload_n 2, 1) := by decide +kernel
theorem dX8_wayOf_4 : decode cX8_wayOf 4 = .ok (.invokevirtual 190, 3) := by decide +kernel
theorem dX8_wayOf_7 : decode cX8_wayOf 7 = .ok (.aload_n 0, 1) := by decide +kernel
theorem dX8_wayOf_8 : decode cX8_wayOf 8 = .ok (.iload_n 1, 1) := by decide +kernel
theorem dX8_wayOf_9 : decode cX8_wayOf 9 = .ok (.iload_n 2, 1) := by decide +kernel
theorem dX8_wayOf_10 : decode cX8_wayOf 10 = .ok (.iconst 1, 1) := by decide +kernel
theorem dX8_wayOf_11 : decode cX8_wayOf 11 = .ok (.iadd, 1) := by decide +kernel
theorem dX8_wayOf_12 : decode cX8_wayOf 12 = .ok (.invokevirtual 190, 3) := by decide +kernel
theorem dX8_wayOf_15 : decode cX8_wayOf 15 = .ok (.invokevirtual 193, 3) := by decide +kernel
theorem dX8_wayOf_18 : decode cX8_wayOf 18 = .ok (.ireturn, 1) := by decide +kernel
set_option maxRecDepth 20000 in
theorem ggX8_milesOf_X8_rounds : GoodIn wsX8_milesOf wsX8_rounds := goodIn_r _ [5, 6, 35, 36, 37, 38, 39, 40, 41, 42, 43, 44, 45, 46, 47, 48, 49] (by decide +kernel) (by decide +kernel)
set_option maxRecDepth 20000 in
theorem gX8_milesOf_X8_rounds : GoodIn wsX8_milesOf (wsV RX8 51 RX8 yX8_rounds wsX8_rounds) := goodIn_app (goodIn_of _ (by decide +kernel)) ggX8_milesOf_X8_rounds
set_option maxRecDepth 20000 in
theorem ggX8_milesOf_X8_whereBehind : GoodIn wsX8_milesOf wsX8_whereBehind := goodIn_r _ [10, 11, 12, 13, 4, 14, 15, 16, 17, 18, 6, 19, 20, 21, 22, 35, 36, 37, 38, 39, 40, 41, 42, 43, 44, 45, 46, 47, 48, 49] (by decide +kernel) (by decide +kernel)
set_option maxRecDepth 20000 in
theorem gX8_milesOf_X8_whereBehind : GoodIn wsX8_milesOf (wsV RX8 190 RX8 yX8_whereBehind wsX8_whereBehind) := goodIn_app (goodIn_of _ (by decide +kernel)) ggX8_milesOf_X8_whereBehind
set_option maxRecDepth 20000 in
theorem ggX8_milesOf_X8_far : GoodIn wsX8_milesOf wsX8_far := goodIn_r _ [26, 6, 27, 28, 29, 30, 35, 36, 37, 38, 39, 40, 41, 42, 43, 44, 45, 46, 47, 48, 49] (by decide +kernel) (by decide +kernel)
set_option maxRecDepth 20000 in
theorem gX8_milesOf_X8_far : GoodIn wsX8_milesOf (wsV RX8 193 RX8 yX8_far wsX8_far) := goodIn_app (goodIn_of _ (by decide +kernel)) ggX8_milesOf_X8_far
set_option maxRecDepth 20000 in
theorem ggX8_milesOf_X8_wayOf : GoodIn wsX8_milesOf wsX8_wayOf := goodIn_r _ [34, 7, 8, 9, 4, 10, 11, 12, 13, 14, 15, 16, 17, 18, 6, 19, 20, 21, 22, 23, 24, 25, 26, 27, 28, 29, 30, 35, 36, 37, 38, 39, 40, 41, 42, 43, 44, 45, 46, 47, 48, 49] (by decide +kernel) (by decide +kernel)
set_option maxRecDepth 20000 in
theorem gX8_milesOf_X8_wayOf : GoodIn wsX8_milesOf (wsV RX8 196 RX8 yX8_wayOf wsX8_wayOf) := goodIn_app (goodIn_of _ (by decide +kernel)) ggX8_milesOf_X8_wayOf
theorem dX8_milesOf_0 : decode cX8_milesOf 0 = .ok (.aload_n 0, 1) := by decide +kernel
theorem dX8_milesOf_1 : decode cX8_milesOf 1 = .ok (.aload_n 0, 1) := by decide +kernel
theorem dX8_milesOf_2 : decode cX8_milesOf 2 = .ok (.iload_n 1, 1) := by decide +kernel
theorem dX8_milesOf_3 : decode cX8_milesOf 3 = .ok (.aload_n 0, 1) := by decide +kernel
theorem dX8_milesOf_4 : decode cX8_milesOf 4 = .ok (.invokevirtual 51, 3) := by decide +kernel
theorem dX8_milesOf_7 : decode cX8_milesOf 7 = .ok (.invokevirtual 190, 3) := by decide +kernel
theorem dX8_milesOf_10 : decode cX8_milesOf 10 = .ok (.iload_n 1, 1) := by decide +kernel
theorem dX8_milesOf_11 : decode cX8_milesOf 11 = .ok (.invokevirtual 193, 3) := by decide +kernel
theorem dX8_milesOf_14 : decode cX8_milesOf 14 = .ok (.istore_n 2, 1) := by decide +kernel
theorem dX8_milesOf_15 : decode cX8_milesOf 15 = .ok (.iconst 0, 1) := by decide +kernel
theorem dX8_milesOf_16 : decode cX8_milesOf 16 = .ok (.istore_n 3, 1) := by decide +kernel
theorem dX8_milesOf_17 : decode cX8_milesOf 17 = .ok (.iload_n 3, 1) := by decide +kernel
theorem dX8_milesOf_18 : decode cX8_milesOf 18 = .ok (.aload_n 0, 1) := by decide +kernel
theorem dX8_milesOf_19 : decode cX8_milesOf 19 = .ok (.invokevirtual 51, 3) := by decide +kernel
theorem dX8_milesOf_22 : decode cX8_milesOf 22 = .ok (.if_icmp .ge 18, 3) := by decide +kernel
theorem dX8_milesOf_25 : decode cX8_milesOf 25 = .ok (.iload_n 2, 1) := by decide +kernel
theorem dX8_milesOf_26 : decode cX8_milesOf 26 = .ok (.aload_n 0, 1) := by decide +kernel
theorem dX8_milesOf_27 : decode cX8_milesOf 27 = .ok (.iload_n 1, 1) := by decide +kernel
theorem dX8_milesOf_28 : decode cX8_milesOf 28 = .ok (.iload_n 3, 1) := by decide +kernel
theorem dX8_milesOf_29 : decode cX8_milesOf 29 = .ok (.invokevirtual 196, 3) := by decide +kernel
theorem dX8_milesOf_32 : decode cX8_milesOf 32 = .ok (.iadd, 1) := by decide +kernel
theorem dX8_milesOf_33 : decode cX8_milesOf 33 = .ok (.istore_n 2, 1) := by decide +kernel
theorem dX8_milesOf_34 : decode cX8_milesOf 34 = .ok (.iinc 3 1, 3) := by decide +kernel
theorem dX8_milesOf_37 : decode cX8_milesOf 37 = .ok (.goto (-20), 3) := by decide +kernel
theorem dX8_milesOf_40 : decode cX8_milesOf 40 = .ok (.iload_n 2, 1) := by decide +kernel
theorem dX8_milesOf_41 : decode cX8_milesOf 41 = .ok (.ireturn, 1) := by decide +kernel
set_option maxRecDepth 20000 in
theorem ggX8_allMiles_X8_milesOf : GoodIn wsX8_allMiles wsX8_milesOf := goodIn_r _ [6, 7, 8, 9, 5, 10, 1, 11, 12, 13, 14, 15, 16, 17, 18, 19, 20, 21, 22, 23, 24, 25, 26, 27, 28, 29, 30, 31, 32, 33, 34, 35, 36, 37, 38, 39, 40, 41, 42, 43, 44, 45, 46, 47, 48, 49, 50, 51, 52, 53] (by decide +kernel) (by decide +kernel)
set_option maxRecDepth 20000 in
theorem gX8_allMiles_X8_milesOf : GoodIn wsX8_allMiles (wsV RX8 199 RX8 yX8_milesOf wsX8_milesOf) := goodIn_app (goodIn_of _ (by decide +kernel)) ggX8_allMiles_X8_milesOf
theorem dX8_allMiles_0 : decode cX8_allMiles 0 = .ok (.iconst 0, 1) := by decide +kernel
theorem dX8_allMiles_1 : decode cX8_allMiles 1 = .ok (.istore_n 1, 1) := by decide +kernel
theorem dX8_allMiles_2 : decode cX8_allMiles 2 = .ok (.iconst 0, 1) := by decide +kernel
theorem dX8_allMiles_3 : decode cX8_allMiles 3 = .ok (.istore_n 2, 1) := by decide +kernel
theorem dX8_allMiles_4 : decode cX8_allMiles 4 = .ok (.iload_n 2, 1) := by decide +kernel
theorem dX8_allMiles_5 : decode cX8_allMiles 5 = .ok (.aload_n 0, 1) := by decide +kernel
theorem dX8_allMiles_6 : decode cX8_allMiles 6 = .ok (.getfield 11, 3) := by decide +kernel
theorem dX8_allMiles_9 : decode cX8_allMiles 9 = .ok (.iconst 0, 1) := by decide +kernel
theorem dX8_allMiles_10 : decode cX8_allMiles 10 = .ok (.iaload, 1) := by decide +kernel
theorem dX8_allMiles_11 : decode cX8_allMiles 11 = .ok (.if_icmp .ge 17, 3) := by decide +kernel
theorem dX8_allMiles_14 : decode cX8_allMiles 14 = .ok (.iload_n 1, 1) := by decide +kernel
theorem dX8_allMiles_15 : decode cX8_allMiles 15 = .ok (.aload_n 0, 1) := by decide +kernel
theorem dX8_allMiles_16 : decode cX8_allMiles 16 = .ok (.iload_n 2, 1) := by decide +kernel
theorem dX8_allMiles_17 : decode cX8_allMiles 17 = .ok (.invokevirtual 199, 3) := by decide +kernel
theorem dX8_allMiles_20 : decode cX8_allMiles 20 = .ok (.iadd, 1) := by decide +kernel
theorem dX8_allMiles_21 : decode cX8_allMiles 21 = .ok (.istore_n 1, 1) := by decide +kernel
theorem dX8_allMiles_22 : decode cX8_allMiles 22 = .ok (.iinc 2 1, 3) := by decide +kernel
theorem dX8_allMiles_25 : decode cX8_allMiles 25 = .ok (.goto (-21), 3) := by decide +kernel
theorem dX8_allMiles_28 : decode cX8_allMiles 28 = .ok (.iload_n 1, 1) := by decide +kernel
theorem dX8_allMiles_29 : decode cX8_allMiles 29 = .ok (.ireturn, 1) := by decide +kernel
set_option maxRecDepth 20000 in
theorem ggX8_game_X8_isRound : GoodIn wsX8_game wsX8_isRound := goodIn_r _ [5, 6, 7, 8, 4, 9, 10, 11, 12, 13, 26, 27, 28, 29, 30, 31, 32, 33, 34, 35, 36, 37, 38, 39, 40] (by decide +kernel) (by decide +kernel)
set_option maxRecDepth 20000 in
theorem gX8_game_X8_isRound : GoodIn wsX8_game (wsV RX8 74 RX8 yX8_isRound wsX8_isRound) := goodIn_app (goodIn_of _ (by decide +kernel)) ggX8_game_X8_isRound
set_option maxRecDepth 20000 in
theorem ggX8_game_X8_isGame : GoodIn wsX8_game wsX8_isGame := goodIn_r _ [17, 10, 11, 12, 4, 13, 26, 27, 28, 29, 30, 31, 32, 33, 34, 35, 36, 37, 38, 39, 40] (by decide +kernel) (by decide +kernel)
set_option maxRecDepth 20000 in
theorem gX8_game_X8_isGame : GoodIn wsX8_game (wsV RX8 83 RX8 yX8_isGame wsX8_isGame) := goodIn_app (goodIn_of _ (by decide +kernel)) ggX8_game_X8_isGame
set_option maxRecDepth 20000 in
theorem ggX8_game_X8_isIn : GoodIn wsX8_game wsX8_isIn := goodIn_r _ [13] (by decide +kernel) (by decide +kernel)
set_option maxRecDepth 20000 in
theorem gX8_game_X8_isIn : GoodIn wsX8_game (va_wsS RX8 47 yX8_isIn wsX8_isIn) := goodIn_app (goodIn_of _ (by decide +kernel)) ggX8_game_X8_isIn
set_option maxRecDepth 20000 in
theorem ggX8_game_X8_who : GoodIn wsX8_game wsX8_who := goodIn_r _ [21, 10, 22, 23, 24, 4, 25, 26, 27, 28, 29, 30, 31, 32, 33, 34, 35, 36, 37, 38, 39, 40] (by decide +kernel) (by decide +kernel)
set_option maxRecDepth 20000 in
theorem gX8_game_X8_who : GoodIn wsX8_game (wsV RX8 89 RX8 yX8_who wsX8_who) := goodIn_app (goodIn_of _ (by decide +kernel)) ggX8_game_X8_who
theorem dX8_game_0 : decode cX8_game 0 = .ok (.aload_n 0, 1) := by decide +kernel
theorem dX8_game_1 : decode cX8_game 1 = .ok (.iload_n 1, 1) := by decide +kernel
theorem dX8_game_2 : decode cX8_game 2 = .ok (.invokevirtual 74, 3) := by decide +kernel
theorem dX8_game_5 : decode cX8_game 5 = .ok (.ifCond .eq 30, 3) := by decide +kernel
theorem dX8_game_8 : decode cX8_game 8 = .ok (.aload_n 0, 1) := by decide +kernel
theorem dX8_game_9 : decode cX8_game 9 = .ok (.iload_n 2, 1) := by decide +kernel
theorem dX8_game_10 : decode cX8_game 10 = .ok (.invokevirtual 83, 3) := by decide +kernel
theorem dX8_game_13 : decode cX8_game 13 = .ok (.ifCond .eq 22, 3) := by decide +kernel
theorem dX8_game_16 : decode cX8_game 16 = .ok (.iload_n 3, 1) := by decide +kernel
theorem dX8_game_17 : decode cX8_game 17 = .ok (.iconst 0, 1) := by decide +kernel
theorem dX8_game_18 : decode cX8_game 18 = .ok (.iconst 1, 1) := by decide +kernel
theorem dX8_game_19 : decode cX8_game 19 = .ok (.invokestatic 47, 3) := by decide +kernel
theorem dX8_game_22 : decode cX8_game 22 = .ok (.ifCond .eq 13, 3) := by decide +kernel
theorem dX8_game_25 : decode cX8_game 25 = .ok (.aload_n 0, 1) := by decide +kernel
theorem dX8_game_26 : decode cX8_game 26 = .ok (.iload_n 1, 1) := by decide +kernel
theorem dX8_game_27 : decode cX8_game 27 = .ok (.iload_n 2, 1) := by decide +kernel
theorem dX8_game_28 : decode cX8_game 28 = .ok (.iload_n 3, 1) := by decide +kernel
theorem dX8_game_29 : decode cX8_game 29 = .ok (.invokevirtual 89, 3) := by decide +kernel
theorem dX8_game_32 : decode cX8_game 32 = .ok (.goto 4, 3) := by decide +kernel
theorem dX8_game_35 : decode cX8_game 35 = .ok (.iconst (-1), 1) := by decide +kernel
theorem dX8_game_36 : decode cX8_game 36 = .ok (.ireturn, 1) := by decide +kernel
set_option maxRecDepth 20000 in
theorem ggX8_of_X8_isTeam : GoodIn wsX8_of wsX8_isTeam := goodIn_r _ [6, 1, 7, 8, 5, 9, 30, 31, 32, 33, 34, 35, 36, 37, 38, 39, 40, 41, 42, 43, 44] (by decide +kernel) (by decide +kernel)
set_option maxRecDepth 20000 in
theorem gX8_of_X8_isTeam : GoodIn wsX8_of (wsV RX8 63 RX8 yX8_isTeam wsX8_isTeam) := goodIn_app (goodIn_of _ (by decide +kernel)) ggX8_of_X8_isTeam
set_option maxRecDepth 20000 in
theorem ggX8_of_X8_isRound : GoodIn wsX8_of wsX8_isRound := goodIn_r _ [13, 14, 15, 16, 5, 17, 1, 7, 8, 9, 30, 31, 32, 33, 34, 35, 36, 37, 38, 39, 40, 41, 42, 43, 44] (by decide +kernel) (by decide +kernel)
set_option maxRecDepth 20000 in
theorem gX8_of_X8_isRound : GoodIn wsX8_of (wsV RX8 74 RX8 yX8_isRound wsX8_isRound) := goodIn_app (goodIn_of _ (by decide +kernel)) ggX8_of_X8_isRound
set_option maxRecDepth 20000 in
theorem ggX8_of_X8_meets : GoodIn wsX8_of wsX8_meets := goodIn_r _ [21, 1, 22, 23, 24, 5, 25, 30, 31, 32, 33, 34, 35, 36, 37, 38, 39, 40, 41, 42, 43, 44] (by decide +kernel) (by decide +kernel)
set_option maxRecDepth 20000 in
theorem gX8_of_X8_meets : GoodIn wsX8_of (wsV RX8 179 RX8 yX8_meets wsX8_meets) := goodIn_app (goodIn_of _ (by decide +kernel)) ggX8_of_X8_meets
set_option maxRecDepth 20000 in
theorem ggX8_of_X8_isHome : GoodIn wsX8_of wsX8_isHome := goodIn_r _ [29, 22, 23, 24, 5, 25, 1, 30, 31, 32, 33, 34, 35, 36, 37, 38, 39, 40, 41, 42, 43, 44] (by decide +kernel) (by decide +kernel)
set_option maxRecDepth 20000 in
theorem gX8_of_X8_isHome : GoodIn wsX8_of (wsV RX8 172 RX8 yX8_isHome wsX8_isHome) := goodIn_app (goodIn_of _ (by decide +kernel)) ggX8_of_X8_isHome
set_option maxRecDepth 20000 in
theorem ggX8_of_X8_placeOf : GoodIn wsX8_of wsX8_placeOf := goodIn_r _ [25, 1, 30, 31, 32, 33, 34, 35, 36, 37, 38, 39, 40, 41, 42, 43, 44] (by decide +kernel) (by decide +kernel)
set_option maxRecDepth 20000 in
theorem gX8_of_X8_placeOf : GoodIn wsX8_of (wsV RX8 169 RX8 yX8_placeOf wsX8_placeOf) := goodIn_app (goodIn_of _ (by decide +kernel)) ggX8_of_X8_placeOf
theorem dX8_of_0 : decode cX8_of 0 = .ok (.aload_n 0, 1) := by decide +kernel
theorem dX8_of_1 : decode cX8_of 1 = .ok (.iload_n 1, 1) := by decide +kernel
theorem dX8_of_2 : decode cX8_of 2 = .ok (.invokevirtual 63, 3) := by decide +kernel
theorem dX8_of_5 : decode cX8_of 5 = .ok (.ifCond .eq 11, 3) := by decide +kernel
theorem dX8_of_8 : decode cX8_of 8 = .ok (.aload_n 0, 1) := by decide +kernel
theorem dX8_of_9 : decode cX8_of 9 = .ok (.iload_n 2, 1) := by decide +kernel
theorem dX8_of_10 : decode cX8_of 10 = .ok (.invokevirtual 74, 3) := by decide +kernel
theorem dX8_of_13 : decode cX8_of 13 = .ok (.ifCond .ne 5, 3) := by decide +kernel
theorem dX8_of_16 : decode cX8_of 16 = .ok (.iconst (-1), 1) := by decide +kernel
theorem dX8_of_17 : decode cX8_of 17 = .ok (.ireturn, 1) := by decide +kernel
theorem dX8_of_18 : decode cX8_of 18 = .ok (.iload_n 3, 1) := by decide +kernel
theorem dX8_of_19 : decode cX8_of 19 = .ok (.tableswitch 75 0 3 #[29, 36, 51, 60], 29) := by decide +kernel
theorem dX8_of_48 : decode cX8_of 48 = .ok (.aload_n 0, 1) := by decide +kernel
theorem dX8_of_49 : decode cX8_of 49 = .ok (.iload_n 1, 1) := by decide +kernel
theorem dX8_of_50 : decode cX8_of 50 = .ok (.iload_n 2, 1) := by decide +kernel
theorem dX8_of_51 : decode cX8_of 51 = .ok (.invokevirtual 179, 3) := by decide +kernel
theorem dX8_of_54 : decode cX8_of 54 = .ok (.ireturn, 1) := by decide +kernel
theorem dX8_of_55 : decode cX8_of 55 = .ok (.aload_n 0, 1) := by decide +kernel
theorem dX8_of_56 : decode cX8_of 56 = .ok (.iload_n 1, 1) := by decide +kernel
theorem dX8_of_57 : decode cX8_of 57 = .ok (.iload_n 2, 1) := by decide +kernel
theorem dX8_of_58 : decode cX8_of 58 = .ok (.invokevirtual 172, 3) := by decide +kernel
theorem dX8_of_61 : decode cX8_of 61 = .ok (.ifCond .eq 7, 3) := by decide +kernel
theorem dX8_of_64 : decode cX8_of 64 = .ok (.iconst 1, 1) := by decide +kernel
theorem dX8_of_65 : decode cX8_of 65 = .ok (.goto 4, 3) := by decide +kernel
theorem dX8_of_68 : decode cX8_of 68 = .ok (.iconst 0, 1) := by decide +kernel
theorem dX8_of_69 : decode cX8_of 69 = .ok (.ireturn, 1) := by decide +kernel
theorem dX8_of_70 : decode cX8_of 70 = .ok (.aload_n 0, 1) := by decide +kernel
theorem dX8_of_71 : decode cX8_of 71 = .ok (.iload_n 1, 1) := by decide +kernel
theorem dX8_of_72 : decode cX8_of 72 = .ok (.iload_n 2, 1) := by decide +kernel
theorem dX8_of_73 : decode cX8_of 73 = .ok (.invokevirtual 169, 3) := by decide +kernel
theorem dX8_of_76 : decode cX8_of 76 = .ok (.iconst 2, 1) := by decide +kernel
theorem dX8_of_77 : decode cX8_of 77 = .ok (.idiv, 1) := by decide +kernel
theorem dX8_of_78 : decode cX8_of 78 = .ok (.ireturn, 1) := by decide +kernel
theorem dX8_of_79 : decode cX8_of 79 = .ok (.aload_n 0, 1) := by decide +kernel
theorem dX8_of_80 : decode cX8_of 80 = .ok (.getfield 11, 3) := by decide +kernel
theorem dX8_of_83 : decode cX8_of 83 = .ok (.bipush 21, 2) := by decide +kernel
theorem dX8_of_85 : decode cX8_of 85 = .ok (.bipush 6, 2) := by decide +kernel
theorem dX8_of_87 : decode cX8_of 87 = .ok (.iload_n 1, 1) := by decide +kernel
theorem dX8_of_88 : decode cX8_of 88 = .ok (.imul, 1) := by decide +kernel
theorem dX8_of_89 : decode cX8_of 89 = .ok (.iadd, 1) := by decide +kernel
theorem dX8_of_90 : decode cX8_of 90 = .ok (.iload_n 2, 1) := by decide +kernel
theorem dX8_of_91 : decode cX8_of 91 = .ok (.iadd, 1) := by decide +kernel
theorem dX8_of_92 : decode cX8_of 92 = .ok (.iaload, 1) := by decide +kernel
theorem dX8_of_93 : decode cX8_of 93 = .ok (.ireturn, 1) := by decide +kernel
theorem dX8_of_94 : decode cX8_of 94 = .ok (.iconst (-1), 1) := by decide +kernel
theorem dX8_of_95 : decode cX8_of 95 = .ok (.ireturn, 1) := by decide +kernel
set_option maxRecDepth 20000 in
theorem ggX8_baseOf_X8_rounds : GoodIn wsX8_baseOf wsX8_rounds := goodIn_r _ [5, 6, 7, 8, 9, 10, 11, 12, 13, 14, 15, 16, 17, 18, 19, 20, 21] (by decide +kernel) (by decide +kernel)
set_option maxRecDepth 20000 in
theorem gX8_baseOf_X8_rounds : GoodIn wsX8_baseOf (wsV RX8 51 RX8 yX8_rounds wsX8_rounds) := goodIn_app (goodIn_of _ (by decide +kernel)) ggX8_baseOf_X8_rounds
theorem dX8_baseOf_0 : decode cX8_baseOf 0 = .ok (.iload_n 1, 1) := by decide +kernel
theorem dX8_baseOf_1 : decode cX8_baseOf 1 = .ok (.aload_n 0, 1) := by decide +kernel
theorem dX8_baseOf_2 : decode cX8_baseOf 2 = .ok (.invokevirtual 51, 3) := by decide +kernel
theorem dX8_baseOf_5 : decode cX8_baseOf 5 = .ok (.isub, 1) := by decide +kernel
theorem dX8_baseOf_6 : decode cX8_baseOf 6 = .ok (.istore_n 3, 1) := by decide +kernel
theorem dX8_baseOf_7 : decode cX8_baseOf 7 = .ok (.iload_n 3, 1) := by decide +kernel
theorem dX8_baseOf_8 : decode cX8_baseOf 8 = .ok (.ifCond .ge 5, 3) := by decide +kernel
theorem dX8_baseOf_11 : decode cX8_baseOf 11 = .ok (.iload_n 1, 1) := by decide +kernel
theorem dX8_baseOf_12 : decode cX8_baseOf 12 = .ok (.ireturn, 1) := by decide +kernel
theorem dX8_baseOf_13 : decode cX8_baseOf 13 = .ok (.iload_n 2, 1) := by decide +kernel
theorem dX8_baseOf_14 : decode cX8_baseOf 14 = .ok (.ifCond .ne 7, 3) := by decide +kernel
theorem dX8_baseOf_17 : decode cX8_baseOf 17 = .ok (.iload_n 3, 1) := by decide +kernel
theorem dX8_baseOf_18 : decode cX8_baseOf 18 = .ok (.goto 35, 3) := by decide +kernel
theorem dX8_baseOf_21 : decode cX8_baseOf 21 = .ok (.iload_n 2, 1) := by decide +kernel
theorem dX8_baseOf_22 : decode cX8_baseOf 22 = .ok (.iconst 1, 1) := by decide +kernel
theorem dX8_baseOf_23 : decode cX8_baseOf 23 = .ok (.if_icmp .ne 14, 3) := by decide +kernel
theorem dX8_baseOf_26 : decode cX8_baseOf 26 = .ok (.aload_n 0, 1) := by decide +kernel
theorem dX8_baseOf_27 : decode cX8_baseOf 27 = .ok (.invokevirtual 51, 3) := by decide +kernel
theorem dX8_baseOf_30 : decode cX8_baseOf 30 = .ok (.iconst 1, 1) := by decide +kernel
theorem dX8_baseOf_31 : decode cX8_baseOf 31 = .ok (.isub, 1) := by decide +kernel
theorem dX8_baseOf_32 : decode cX8_baseOf 32 = .ok (.iload_n 3, 1) := by decide +kernel
theorem dX8_baseOf_33 : decode cX8_baseOf 33 = .ok (.isub, 1) := by decide +kernel
theorem dX8_baseOf_34 : decode cX8_baseOf 34 = .ok (.goto 19, 3) := by decide +kernel
theorem dX8_baseOf_37 : decode cX8_baseOf 37 = .ok (.iload_n 3, 1) := by decide +kernel
theorem dX8_baseOf_38 : decode cX8_baseOf 38 = .ok (.ifCond .ne 12, 3) := by decide +kernel
theorem dX8_baseOf_41 : decode cX8_baseOf 41 = .ok (.aload_n 0, 1) := by decide +kernel
theorem dX8_baseOf_42 : decode cX8_baseOf 42 = .ok (.invokevirtual 51, 3) := by decide +kernel
theorem dX8_baseOf_45 : decode cX8_baseOf 45 = .ok (.iconst 1, 1) := by decide +kernel
theorem dX8_baseOf_46 : decode cX8_baseOf 46 = .ok (.isub, 1) := by decide +kernel
theorem dX8_baseOf_47 : decode cX8_baseOf 47 = .ok (.goto 6, 3) := by decide +kernel
theorem dX8_baseOf_50 : decode cX8_baseOf 50 = .ok (.iload_n 3, 1) := by decide +kernel
theorem dX8_baseOf_51 : decode cX8_baseOf 51 = .ok (.iconst 1, 1) := by decide +kernel
theorem dX8_baseOf_52 : decode cX8_baseOf 52 = .ok (.isub, 1) := by decide +kernel
theorem dX8_baseOf_53 : decode cX8_baseOf 53 = .ok (.ireturn, 1) := by decide +kernel
set_option maxRecDepth 20000 in
theorem ggX8_isHomeIn_X8_baseOf : GoodIn wsX8_isHomeIn wsX8_baseOf := goodIn_r _ [5, 6, 7, 8, 4, 9, 10, 19, 20, 21, 22, 23, 24, 25, 26, 27, 28, 29, 30, 31, 32, 33] (by decide +kernel) (by decide +kernel)
set_option maxRecDepth 20000 in
theorem gX8_isHomeIn_X8_baseOf : GoodIn wsX8_isHomeIn (wsV RX8 202 RX8 yX8_baseOf wsX8_baseOf) := goodIn_app (goodIn_of _ (by decide +kernel)) ggX8_isHomeIn_X8_baseOf
set_option maxRecDepth 20000 in
theorem ggX8_isHomeIn_X8_isHome : GoodIn wsX8_isHomeIn wsX8_isHome := goodIn_r _ [14, 15, 16, 17, 4, 18, 10, 19, 20, 21, 22, 23, 24, 25, 26, 27, 28, 29, 30, 31, 32, 33] (by decide +kernel) (by decide +kernel)
set_option maxRecDepth 20000 in
theorem gX8_isHomeIn_X8_isHome : GoodIn wsX8_isHomeIn (wsV RX8 172 RX8 yX8_isHome wsX8_isHome) := goodIn_app (goodIn_of _ (by decide +kernel)) ggX8_isHomeIn_X8_isHome
set_option maxRecDepth 20000 in
theorem ggX8_isHomeIn_X8_rounds : GoodIn wsX8_isHomeIn wsX8_rounds := goodIn_r _ [9, 10, 19, 20, 21, 22, 23, 24, 25, 26, 27, 28, 29, 30, 31, 32, 33] (by decide +kernel) (by decide +kernel)
set_option maxRecDepth 20000 in
theorem gX8_isHomeIn_X8_rounds : GoodIn wsX8_isHomeIn (wsV RX8 51 RX8 yX8_rounds wsX8_rounds) := goodIn_app (goodIn_of _ (by decide +kernel)) ggX8_isHomeIn_X8_rounds
theorem dX8_isHomeIn_0 : decode cX8_isHomeIn 0 = .ok (.aload_n 0, 1) := by decide +kernel
theorem dX8_isHomeIn_1 : decode cX8_isHomeIn 1 = .ok (.iload_n 1, 1) := by decide +kernel
theorem dX8_isHomeIn_2 : decode cX8_isHomeIn 2 = .ok (.aload_n 0, 1) := by decide +kernel
theorem dX8_isHomeIn_3 : decode cX8_isHomeIn 3 = .ok (.iload_n 2, 1) := by decide +kernel
theorem dX8_isHomeIn_4 : decode cX8_isHomeIn 4 = .ok (.iload_n 3, 1) := by decide +kernel
theorem dX8_isHomeIn_5 : decode cX8_isHomeIn 5 = .ok (.invokevirtual 202, 3) := by decide +kernel
theorem dX8_isHomeIn_8 : decode cX8_isHomeIn 8 = .ok (.invokevirtual 172, 3) := by decide +kernel
theorem dX8_isHomeIn_11 : decode cX8_isHomeIn 11 = .ok (.iload_n 2, 1) := by decide +kernel
theorem dX8_isHomeIn_12 : decode cX8_isHomeIn 12 = .ok (.aload_n 0, 1) := by decide +kernel
theorem dX8_isHomeIn_13 : decode cX8_isHomeIn 13 = .ok (.invokevirtual 51, 3) := by decide +kernel
theorem dX8_isHomeIn_16 : decode cX8_isHomeIn 16 = .ok (.if_icmp .ge 7, 3) := by decide +kernel
theorem dX8_isHomeIn_19 : decode cX8_isHomeIn 19 = .ok (.iconst 1, 1) := by decide +kernel
theorem dX8_isHomeIn_20 : decode cX8_isHomeIn 20 = .ok (.goto 4, 3) := by decide +kernel
theorem dX8_isHomeIn_23 : decode cX8_isHomeIn 23 = .ok (.iconst 0, 1) := by decide +kernel
theorem dX8_isHomeIn_24 : decode cX8_isHomeIn 24 = .ok (.if_icmp .ne 7, 3) := by decide +kernel
theorem dX8_isHomeIn_27 : decode cX8_isHomeIn 27 = .ok (.iconst 1, 1) := by decide +kernel
theorem dX8_isHomeIn_28 : decode cX8_isHomeIn 28 = .ok (.goto 4, 3) := by decide +kernel
theorem dX8_isHomeIn_31 : decode cX8_isHomeIn 31 = .ok (.iconst 0, 1) := by decide +kernel
theorem dX8_isHomeIn_32 : decode cX8_isHomeIn 32 = .ok (.ireturn, 1) := by decide +kernel
set_option maxRecDepth 20000 in
theorem ggX8_season_X8_isTeam : GoodIn wsX8_season wsX8_isTeam := goodIn_r _ [6, 1, 7, 8, 5, 9, 34, 35, 36, 37, 38, 39, 40, 41, 42, 43, 44, 45, 46, 47, 48] (by decide +kernel) (by decide +kernel)
set_option maxRecDepth 20000 in
theorem gX8_season_X8_isTeam : GoodIn wsX8_season (wsV RX8 63 RX8 yX8_isTeam wsX8_isTeam) := goodIn_app (goodIn_of _ (by decide +kernel)) ggX8_season_X8_isTeam
set_option maxRecDepth 20000 in
theorem ggX8_season_X8_rounds : GoodIn wsX8_season wsX8_rounds := goodIn_r _ [13, 1, 34, 35, 36, 37, 38, 39, 40, 41, 42, 43, 44, 45, 46, 47, 48] (by decide +kernel) (by decide +kernel)
set_option maxRecDepth 20000 in
theorem gX8_season_X8_rounds : GoodIn wsX8_season (wsV RX8 51 RX8 yX8_rounds wsX8_rounds) := goodIn_app (goodIn_of _ (by decide +kernel)) ggX8_season_X8_rounds
set_option maxRecDepth 20000 in
theorem ggX8_season_X8_isIn : GoodIn wsX8_season wsX8_isIn := goodIn_r _ [9] (by decide +kernel) (by decide +kernel)
set_option maxRecDepth 20000 in
theorem gX8_season_X8_isIn : GoodIn wsX8_season (va_wsS RX8 47 yX8_isIn wsX8_isIn) := goodIn_app (goodIn_of _ (by decide +kernel)) ggX8_season_X8_isIn
set_option maxRecDepth 20000 in
theorem ggX8_season_X8_baseOf : GoodIn wsX8_season wsX8_baseOf := goodIn_r _ [17, 10, 11, 12, 5, 13, 1, 34, 35, 36, 37, 38, 39, 40, 41, 42, 43, 44, 45, 46, 47, 48] (by decide +kernel) (by decide +kernel)
set_option maxRecDepth 20000 in
theorem gX8_season_X8_baseOf : GoodIn wsX8_season (wsV RX8 202 RX8 yX8_baseOf wsX8_baseOf) := goodIn_app (goodIn_of _ (by decide +kernel)) ggX8_season_X8_baseOf
set_option maxRecDepth 20000 in
theorem ggX8_season_X8_meets : GoodIn wsX8_season wsX8_meets := goodIn_r _ [21, 1, 22, 23, 24, 5, 25, 34, 35, 36, 37, 38, 39, 40, 41, 42, 43, 44, 45, 46, 47, 48] (by decide +kernel) (by decide +kernel)
set_option maxRecDepth 20000 in
theorem gX8_season_X8_meets : GoodIn wsX8_season (wsV RX8 179 RX8 yX8_meets wsX8_meets) := goodIn_app (goodIn_of _ (by decide +kernel)) ggX8_season_X8_meets
set_option maxRecDepth 20000 in
theorem ggX8_season_X8_isHomeIn : GoodIn wsX8_season wsX8_isHomeIn := goodIn_r _ [29, 14, 15, 16, 5, 17, 10, 11, 12, 13, 1, 30, 31, 32, 33, 22, 23, 24, 25, 34, 35, 36, 37, 38, 39, 40, 41, 42, 43, 44, 45, 46, 47, 48] (by decide +kernel) (by decide +kernel)
set_option maxRecDepth 20000 in
theorem gX8_season_X8_isHomeIn : GoodIn wsX8_season (wsV RX8 205 RX8 yX8_isHomeIn wsX8_isHomeIn) := goodIn_app (goodIn_of _ (by decide +kernel)) ggX8_season_X8_isHomeIn
theorem dX8_season_0 : decode cX8_season 0 = .ok (.aload_n 0, 1) := by decide +kernel
theorem dX8_season_1 : decode cX8_season 1 = .ok (.iload_n 1, 1) := by decide +kernel
theorem dX8_season_2 : decode cX8_season 2 = .ok (.invokevirtual 63, 3) := by decide +kernel
theorem dX8_season_5 : decode cX8_season 5 = .ok (.ifCond .eq 28, 3) := by decide +kernel
theorem dX8_season_8 : decode cX8_season 8 = .ok (.iload_n 2, 1) := by decide +kernel
theorem dX8_season_9 : decode cX8_season 9 = .ok (.iconst 0, 1) := by decide +kernel
theorem dX8_season_10 : decode cX8_season 10 = .ok (.iconst 2, 1) := by decide +kernel
theorem dX8_season_11 : decode cX8_season 11 = .ok (.aload_n 0, 1) := by decide +kernel
theorem dX8_season_12 : decode cX8_season 12 = .ok (.invokevirtual 51, 3) := by decide +kernel
theorem dX8_season_15 : decode cX8_season 15 = .ok (.imul, 1) := by decide +kernel
theorem dX8_season_16 : decode cX8_season 16 = .ok (.iconst 1, 1) := by decide +kernel
theorem dX8_season_17 : decode cX8_season 17 = .ok (.isub, 1) := by decide +kernel
theorem dX8_season_18 : decode cX8_season 18 = .ok (.invokestatic 47, 3) := by decide +kernel
theorem dX8_season_21 : decode cX8_season 21 = .ok (.ifCond .eq 12, 3) := by decide +kernel
theorem dX8_season_24 : decode cX8_season 24 = .ok (.iload_n 3, 1) := by decide +kernel
theorem dX8_season_25 : decode cX8_season 25 = .ok (.iconst 0, 1) := by decide +kernel
theorem dX8_season_26 : decode cX8_season 26 = .ok (.iconst 1, 1) := by decide +kernel
theorem dX8_season_27 : decode cX8_season 27 = .ok (.invokestatic 47, 3) := by decide +kernel
theorem dX8_season_30 : decode cX8_season 30 = .ok (.ifCond .ne 5, 3) := by decide +kernel
theorem dX8_season_33 : decode cX8_season 33 = .ok (.iconst (-1), 1) := by decide +kernel
theorem dX8_season_34 : decode cX8_season 34 = .ok (.ireturn, 1) := by decide +kernel
theorem dX8_season_35 : decode cX8_season 35 = .ok (.iload_n 3, 1) := by decide +kernel
theorem dX8_season_36 : decode cX8_season 36 = .ok (.ifCond .ne 22, 3) := by decide +kernel
theorem dX8_season_39 : decode cX8_season 39 = .ok (.aload_n 0, 1) := by decide +kernel
theorem dX8_season_40 : decode cX8_season 40 = .ok (.iload_n 1, 1) := by decide +kernel
theorem dX8_season_41 : decode cX8_season 41 = .ok (.aload_n 0, 1) := by decide +kernel
theorem dX8_season_42 : decode cX8_season 42 = .ok (.iload_n 2, 1) := by decide +kernel
theorem dX8_season_43 : decode cX8_season 43 = .ok (.aload_n 0, 1) := by decide +kernel
theorem dX8_season_44 : decode cX8_season 44 = .ok (.getfield 11, 3) := by decide +kernel
theorem dX8_season_47 : decode cX8_season 47 = .ok (.iconst 1, 1) := by decide +kernel
theorem dX8_season_48 : decode cX8_season 48 = .ok (.iaload, 1) := by decide +kernel
theorem dX8_season_49 : decode cX8_season 49 = .ok (.invokevirtual 202, 3) := by decide +kernel
theorem dX8_season_52 : decode cX8_season 52 = .ok (.invokevirtual 179, 3) := by decide +kernel
theorem dX8_season_55 : decode cX8_season 55 = .ok (.goto 23, 3) := by decide +kernel
theorem dX8_season_58 : decode cX8_season 58 = .ok (.aload_n 0, 1) := by decide +kernel
theorem dX8_season_59 : decode cX8_season 59 = .ok (.iload_n 1, 1) := by decide +kernel
theorem dX8_season_60 : decode cX8_season 60 = .ok (.iload_n 2, 1) := by decide +kernel
theorem dX8_season_61 : decode cX8_season 61 = .ok (.aload_n 0, 1) := by decide +kernel
theorem dX8_season_62 : decode cX8_season 62 = .ok (.getfield 11, 3) := by decide +kernel
theorem dX8_season_65 : decode cX8_season 65 = .ok (.iconst 1, 1) := by decide +kernel
theorem dX8_season_66 : decode cX8_season 66 = .ok (.iaload, 1) := by decide +kernel
theorem dX8_season_67 : decode cX8_season 67 = .ok (.invokevirtual 205, 3) := by decide +kernel
theorem dX8_season_70 : decode cX8_season 70 = .ok (.ifCond .eq 7, 3) := by decide +kernel
theorem dX8_season_73 : decode cX8_season 73 = .ok (.iconst 1, 1) := by decide +kernel
theorem dX8_season_74 : decode cX8_season 74 = .ok (.goto 4, 3) := by decide +kernel
theorem dX8_season_77 : decode cX8_season 77 = .ok (.iconst 0, 1) := by decide +kernel
theorem dX8_season_78 : decode cX8_season 78 = .ok (.ireturn, 1) := by decide +kernel
set_option maxRecDepth 20000 in
theorem ggX8_when_X8_isTeam : GoodIn wsX8_when wsX8_isTeam := goodIn_r _ [5, 6, 7, 8, 4, 9, 22, 23, 24, 25, 26, 27, 28, 29, 30, 31, 32, 33, 34, 35, 36] (by decide +kernel) (by decide +kernel)
set_option maxRecDepth 20000 in
theorem gX8_when_X8_isTeam : GoodIn wsX8_when (wsV RX8 63 RX8 yX8_isTeam wsX8_isTeam) := goodIn_app (goodIn_of _ (by decide +kernel)) ggX8_when_X8_isTeam
set_option maxRecDepth 20000 in
theorem ggX8_when_X8_rounds : GoodIn wsX8_when wsX8_rounds := goodIn_r _ [13, 6, 22, 23, 24, 25, 26, 27, 28, 29, 30, 31, 32, 33, 34, 35, 36] (by decide +kernel) (by decide +kernel)
set_option maxRecDepth 20000 in
theorem gX8_when_X8_rounds : GoodIn wsX8_when (wsV RX8 51 RX8 yX8_rounds wsX8_rounds) := goodIn_app (goodIn_of _ (by decide +kernel)) ggX8_when_X8_rounds
set_option maxRecDepth 20000 in
theorem ggX8_when_X8_meets : GoodIn wsX8_when wsX8_meets := goodIn_r _ [17, 6, 18, 19, 20, 4, 21, 22, 23, 24, 25, 26, 27, 28, 29, 30, 31, 32, 33, 34, 35, 36] (by decide +kernel) (by decide +kernel)
set_option maxRecDepth 20000 in
theorem gX8_when_X8_meets : GoodIn wsX8_when (wsV RX8 179 RX8 yX8_meets wsX8_meets) := goodIn_app (goodIn_of _ (by decide +kernel)) ggX8_when_X8_meets
theorem dX8_when_0 : decode cX8_when 0 = .ok (.aload_n 0, 1) := by decide +kernel
theorem dX8_when_1 : decode cX8_when 1 = .ok (.iload_n 1, 1) := by decide +kernel
theorem dX8_when_2 : decode cX8_when 2 = .ok (.invokevirtual 63, 3) := by decide +kernel
theorem dX8_when_5 : decode cX8_when 5 = .ok (.ifCond .eq 16, 3) := by decide +kernel
theorem dX8_when_8 : decode cX8_when 8 = .ok (.aload_n 0, 1) := by decide +kernel
theorem dX8_when_9 : decode cX8_when 9 = .ok (.iload_n 2, 1) := by decide +kernel
theorem dX8_when_10 : decode cX8_when 10 = .ok (.invokevirtual 63, 3) := by decide +kernel
theorem dX8_when_13 : decode cX8_when 13 = .ok (.ifCond .eq 8, 3) := by decide +kernel
theorem dX8_when_16 : decode cX8_when 16 = .ok (.iload_n 1, 1) := by decide +kernel
theorem dX8_when_17 : decode cX8_when 17 = .ok (.iload_n 2, 1) := by decide +kernel
theorem dX8_when_18 : decode cX8_when 18 = .ok (.if_icmp .ne 5, 3) := by decide +kernel
theorem dX8_when_21 : decode cX8_when 21 = .ok (.iconst (-1), 1) := by decide +kernel
theorem dX8_when_22 : decode cX8_when 22 = .ok (.ireturn, 1) := by decide +kernel
theorem dX8_when_23 : decode cX8_when 23 = .ok (.iconst 0, 1) := by decide +kernel
theorem dX8_when_24 : decode cX8_when 24 = .ok (.istore_n 3, 1) := by decide +kernel
theorem dX8_when_25 : decode cX8_when 25 = .ok (.iload_n 3, 1) := by decide +kernel
theorem dX8_when_26 : decode cX8_when 26 = .ok (.aload_n 0, 1) := by decide +kernel
theorem dX8_when_27 : decode cX8_when 27 = .ok (.invokevirtual 51, 3) := by decide +kernel
theorem dX8_when_30 : decode cX8_when 30 = .ok (.if_icmp .ge 21, 3) := by decide +kernel
theorem dX8_when_33 : decode cX8_when 33 = .ok (.aload_n 0, 1) := by decide +kernel
theorem dX8_when_34 : decode cX8_when 34 = .ok (.iload_n 1, 1) := by decide +kernel
theorem dX8_when_35 : decode cX8_when 35 = .ok (.iload_n 3, 1) := by decide +kernel
theorem dX8_when_36 : decode cX8_when 36 = .ok (.invokevirtual 179, 3) := by decide +kernel
theorem dX8_when_39 : decode cX8_when 39 = .ok (.iload_n 2, 1) := by decide +kernel
theorem dX8_when_40 : decode cX8_when 40 = .ok (.if_icmp .ne 5, 3) := by decide +kernel
theorem dX8_when_43 : decode cX8_when 43 = .ok (.iload_n 3, 1) := by decide +kernel
theorem dX8_when_44 : decode cX8_when 44 = .ok (.ireturn, 1) := by decide +kernel
theorem dX8_when_45 : decode cX8_when 45 = .ok (.iinc 3 1, 3) := by decide +kernel
theorem dX8_when_48 : decode cX8_when 48 = .ok (.goto (-23), 3) := by decide +kernel
theorem dX8_when_51 : decode cX8_when 51 = .ok (.iconst (-1), 1) := by decide +kernel
theorem dX8_when_52 : decode cX8_when 52 = .ok (.ireturn, 1) := by decide +kernel
set_option maxRecDepth 20000 in
theorem ggX8_pattern_X8_rounds : GoodIn wsX8_pattern wsX8_rounds := goodIn_r _ [5, 6, 15, 16, 17, 18, 19, 20, 21, 22, 23, 24, 25, 26, 27, 28, 29] (by decide +kernel) (by decide +kernel)
set_option maxRecDepth 20000 in
theorem gX8_pattern_X8_rounds : GoodIn wsX8_pattern (wsV RX8 51 RX8 yX8_rounds wsX8_rounds) := goodIn_app (goodIn_of _ (by decide +kernel)) ggX8_pattern_X8_rounds
set_option maxRecDepth 20000 in
theorem ggX8_pattern_X8_isHome : GoodIn wsX8_pattern wsX8_isHome := goodIn_r _ [10, 11, 12, 13, 4, 14, 6, 15, 16, 17, 18, 19, 20, 21, 22, 23, 24, 25, 26, 27, 28, 29] (by decide +kernel) (by decide +kernel)
set_option maxRecDepth 20000 in
theorem gX8_pattern_X8_isHome : GoodIn wsX8_pattern (wsV RX8 172 RX8 yX8_isHome wsX8_isHome) := goodIn_app (goodIn_of _ (by decide +kernel)) ggX8_pattern_X8_isHome
theorem dX8_pattern_0 : decode cX8_pattern 0 = .ok (.iconst 0, 1) := by decide +kernel
theorem dX8_pattern_1 : decode cX8_pattern 1 = .ok (.istore_n 2, 1) := by decide +kernel
theorem dX8_pattern_2 : decode cX8_pattern 2 = .ok (.iconst 0, 1) := by decide +kernel
theorem dX8_pattern_3 : decode cX8_pattern 3 = .ok (.istore_n 3, 1) := by decide +kernel
theorem dX8_pattern_4 : decode cX8_pattern 4 = .ok (.iload_n 3, 1) := by decide +kernel
theorem dX8_pattern_5 : decode cX8_pattern 5 = .ok (.aload_n 0, 1) := by decide +kernel
theorem dX8_pattern_6 : decode cX8_pattern 6 = .ok (.invokevirtual 51, 3) := by decide +kernel
theorem dX8_pattern_9 : decode cX8_pattern 9 = .ok (.if_icmp .ge 28, 3) := by decide +kernel
theorem dX8_pattern_12 : decode cX8_pattern 12 = .ok (.iload_n 2, 1) := by decide +kernel
theorem dX8_pattern_13 : decode cX8_pattern 13 = .ok (.aload_n 0, 1) := by decide +kernel
theorem dX8_pattern_14 : decode cX8_pattern 14 = .ok (.iload_n 1, 1) := by decide +kernel
theorem dX8_pattern_15 : decode cX8_pattern 15 = .ok (.iload_n 3, 1) := by decide +kernel
theorem dX8_pattern_16 : decode cX8_pattern 16 = .ok (.invokevirtual 172, 3) := by decide +kernel
theorem dX8_pattern_19 : decode cX8_pattern 19 = .ok (.ifCond .eq 9, 3) := by decide +kernel
theorem dX8_pattern_22 : decode cX8_pattern 22 = .ok (.iconst 1, 1) := by decide +kernel
theorem dX8_pattern_23 : decode cX8_pattern 23 = .ok (.iload_n 3, 1) := by decide +kernel
theorem dX8_pattern_24 : decode cX8_pattern 24 = .ok (.ishl, 1) := by decide +kernel
theorem dX8_pattern_25 : decode cX8_pattern 25 = .ok (.goto 4, 3) := by decide +kernel
theorem dX8_pattern_28 : decode cX8_pattern 28 = .ok (.iconst 0, 1) := by decide +kernel
theorem dX8_pattern_29 : decode cX8_pattern 29 = .ok (.ior, 1) := by decide +kernel
theorem dX8_pattern_30 : decode cX8_pattern 30 = .ok (.istore_n 2, 1) := by decide +kernel
theorem dX8_pattern_31 : decode cX8_pattern 31 = .ok (.iinc 3 1, 3) := by decide +kernel
theorem dX8_pattern_34 : decode cX8_pattern 34 = .ok (.goto (-30), 3) := by decide +kernel
theorem dX8_pattern_37 : decode cX8_pattern 37 = .ok (.iload_n 2, 1) := by decide +kernel
theorem dX8_pattern_38 : decode cX8_pattern 38 = .ok (.ireturn, 1) := by decide +kernel
set_option maxRecDepth 20000 in
theorem ggX8_otherOf_X8_rounds : GoodIn wsX8_otherOf wsX8_rounds := goodIn_r _ [6, 1, 19, 20, 21, 22, 23, 24, 25, 26, 27, 28, 29, 30, 31, 32, 33] (by decide +kernel) (by decide +kernel)
set_option maxRecDepth 20000 in
theorem gX8_otherOf_X8_rounds : GoodIn wsX8_otherOf (wsV RX8 51 RX8 yX8_rounds wsX8_rounds) := goodIn_app (goodIn_of _ (by decide +kernel)) ggX8_otherOf_X8_rounds
set_option maxRecDepth 20000 in
theorem ggX8_otherOf_X8_pattern : GoodIn wsX8_otherOf wsX8_pattern := goodIn_r _ [10, 2, 3, 4, 5, 6, 1, 11, 12, 13, 14, 15, 16, 17, 18, 19, 20, 21, 22, 23, 24, 25, 26, 27, 28, 29, 30, 31, 32, 33] (by decide +kernel) (by decide +kernel)
set_option maxRecDepth 20000 in
theorem gX8_otherOf_X8_pattern : GoodIn wsX8_otherOf (wsV RX8 208 RX8 yX8_pattern wsX8_pattern) := goodIn_app (goodIn_of _ (by decide +kernel)) ggX8_otherOf_X8_pattern
theorem dX8_otherOf_0 : decode cX8_otherOf 0 = .ok (.iconst 1, 1) := by decide +kernel
theorem dX8_otherOf_1 : decode cX8_otherOf 1 = .ok (.aload_n 0, 1) := by decide +kernel
theorem dX8_otherOf_2 : decode cX8_otherOf 2 = .ok (.invokevirtual 51, 3) := by decide +kernel
theorem dX8_otherOf_5 : decode cX8_otherOf 5 = .ok (.ishl, 1) := by decide +kernel
theorem dX8_otherOf_6 : decode cX8_otherOf 6 = .ok (.iconst 1, 1) := by decide +kernel
theorem dX8_otherOf_7 : decode cX8_otherOf 7 = .ok (.isub, 1) := by decide +kernel
theorem dX8_otherOf_8 : decode cX8_otherOf 8 = .ok (.aload_n 0, 1) := by decide +kernel
theorem dX8_otherOf_9 : decode cX8_otherOf 9 = .ok (.iload_n 1, 1) := by decide +kernel
theorem dX8_otherOf_10 : decode cX8_otherOf 10 = .ok (.invokevirtual 208, 3) := by decide +kernel
theorem dX8_otherOf_13 : decode cX8_otherOf 13 = .ok (.isub, 1) := by decide +kernel
theorem dX8_otherOf_14 : decode cX8_otherOf 14 = .ok (.istore_n 2, 1) := by decide +kernel
theorem dX8_otherOf_15 : decode cX8_otherOf 15 = .ok (.iconst 0, 1) := by decide +kernel
theorem dX8_otherOf_16 : decode cX8_otherOf 16 = .ok (.istore_n 3, 1) := by decide +kernel
theorem dX8_otherOf_17 : decode cX8_otherOf 17 = .ok (.iload_n 3, 1) := by decide +kernel
theorem dX8_otherOf_18 : decode cX8_otherOf 18 = .ok (.aload_n 0, 1) := by decide +kernel
theorem dX8_otherOf_19 : decode cX8_otherOf 19 = .ok (.getfield 11, 3) := by decide +kernel
theorem dX8_otherOf_22 : decode cX8_otherOf 22 = .ok (.iconst 0, 1) := by decide +kernel
theorem dX8_otherOf_23 : decode cX8_otherOf 23 = .ok (.iaload, 1) := by decide +kernel
theorem dX8_otherOf_24 : decode cX8_otherOf 24 = .ok (.if_icmp .ge 20, 3) := by decide +kernel
theorem dX8_otherOf_27 : decode cX8_otherOf 27 = .ok (.aload_n 0, 1) := by decide +kernel
theorem dX8_otherOf_28 : decode cX8_otherOf 28 = .ok (.iload_n 3, 1) := by decide +kernel
theorem dX8_otherOf_29 : decode cX8_otherOf 29 = .ok (.invokevirtual 208, 3) := by decide +kernel
theorem dX8_otherOf_32 : decode cX8_otherOf 32 = .ok (.iload_n 2, 1) := by decide +kernel
theorem dX8_otherOf_33 : decode cX8_otherOf 33 = .ok (.if_icmp .ne 5, 3) := by decide +kernel
theorem dX8_otherOf_36 : decode cX8_otherOf 36 = .ok (.iload_n 3, 1) := by decide +kernel
theorem dX8_otherOf_37 : decode cX8_otherOf 37 = .ok (.ireturn, 1) := by decide +kernel
theorem dX8_otherOf_38 : decode cX8_otherOf 38 = .ok (.iinc 3 1, 3) := by decide +kernel
theorem dX8_otherOf_41 : decode cX8_otherOf 41 = .ok (.goto (-24), 3) := by decide +kernel
theorem dX8_otherOf_44 : decode cX8_otherOf 44 = .ok (.bipush (-5), 2) := by decide +kernel
theorem dX8_otherOf_46 : decode cX8_otherOf 46 = .ok (.ireturn, 1) := by decide +kernel
set_option maxRecDepth 20000 in
theorem ggX8_seasonBreaks_X8_rounds : GoodIn wsX8_seasonBreaks wsX8_rounds := goodIn_r _ [6, 1, 23, 24, 25, 26, 27, 28, 29, 30, 31, 32, 33, 34, 35, 36, 37] (by decide +kernel) (by decide +kernel)
set_option maxRecDepth 20000 in
theorem gX8_seasonBreaks_X8_rounds : GoodIn wsX8_seasonBreaks (wsV RX8 51 RX8 yX8_rounds wsX8_rounds) := goodIn_app (goodIn_of _ (by decide +kernel)) ggX8_seasonBreaks_X8_rounds
set_option maxRecDepth 20000 in
theorem ggX8_seasonBreaks_X8_isHomeIn : GoodIn wsX8_seasonBreaks wsX8_isHomeIn := goodIn_r _ [10, 11, 12, 13, 5, 14, 2, 3, 4, 6, 1, 15, 16, 17, 18, 19, 20, 21, 22, 23, 24, 25, 26, 27, 28, 29, 30, 31, 32, 33, 34, 35, 36, 37] (by decide +kernel) (by decide +kernel)
set_option maxRecDepth 20000 in
theorem gX8_seasonBreaks_X8_isHomeIn : GoodIn wsX8_seasonBreaks (wsV RX8 205 RX8 yX8_isHomeIn wsX8_isHomeIn) := goodIn_app (goodIn_of _ (by decide +kernel)) ggX8_seasonBreaks_X8_isHomeIn
theorem dX8_seasonBreaks_0 : decode cX8_seasonBreaks 0 = .ok (.iconst 0, 1) := by decide +kernel
theorem dX8_seasonBreaks_1 : decode cX8_seasonBreaks 1 = .ok (.istore_n 2, 1) := by decide +kernel
theorem dX8_seasonBreaks_2 : decode cX8_seasonBreaks 2 = .ok (.iconst 1, 1) := by decide +kernel
theorem dX8_seasonBreaks_3 : decode cX8_seasonBreaks 3 = .ok (.istore_n 3, 1) := by decide +kernel
theorem dX8_seasonBreaks_4 : decode cX8_seasonBreaks 4 = .ok (.iload_n 3, 1) := by decide +kernel
theorem dX8_seasonBreaks_5 : decode cX8_seasonBreaks 5 = .ok (.iconst 2, 1) := by decide +kernel
theorem dX8_seasonBreaks_6 : decode cX8_seasonBreaks 6 = .ok (.aload_n 0, 1) := by decide +kernel
theorem dX8_seasonBreaks_7 : decode cX8_seasonBreaks 7 = .ok (.invokevirtual 51, 3) := by decide +kernel
theorem dX8_seasonBreaks_10 : decode cX8_seasonBreaks 10 = .ok (.imul, 1) := by decide +kernel
theorem dX8_seasonBreaks_11 : decode cX8_seasonBreaks 11 = .ok (.if_icmp .ge 46, 3) := by decide +kernel
theorem dX8_seasonBreaks_14 : decode cX8_seasonBreaks 14 = .ok (.iload_n 2, 1) := by decide +kernel
theorem dX8_seasonBreaks_15 : decode cX8_seasonBreaks 15 = .ok (.aload_n 0, 1) := by decide +kernel
theorem dX8_seasonBreaks_16 : decode cX8_seasonBreaks 16 = .ok (.iload_n 1, 1) := by decide +kernel
theorem dX8_seasonBreaks_17 : decode cX8_seasonBreaks 17 = .ok (.iload_n 3, 1) := by decide +kernel
theorem dX8_seasonBreaks_18 : decode cX8_seasonBreaks 18 = .ok (.aload_n 0, 1) := by decide +kernel
theorem dX8_seasonBreaks_19 : decode cX8_seasonBreaks 19 = .ok (.getfield 11, 3) := by decide +kernel
theorem dX8_seasonBreaks_22 : decode cX8_seasonBreaks 22 = .ok (.iconst 1, 1) := by decide +kernel
theorem dX8_seasonBreaks_23 : decode cX8_seasonBreaks 23 = .ok (.iaload, 1) := by decide +kernel
theorem dX8_seasonBreaks_24 : decode cX8_seasonBreaks 24 = .ok (.invokevirtual 205, 3) := by decide +kernel
theorem dX8_seasonBreaks_27 : decode cX8_seasonBreaks 27 = .ok (.aload_n 0, 1) := by decide +kernel
theorem dX8_seasonBreaks_28 : decode cX8_seasonBreaks 28 = .ok (.iload_n 1, 1) := by decide +kernel
theorem dX8_seasonBreaks_29 : decode cX8_seasonBreaks 29 = .ok (.iload_n 3, 1) := by decide +kernel
theorem dX8_seasonBreaks_30 : decode cX8_seasonBreaks 30 = .ok (.iconst 1, 1) := by decide +kernel
theorem dX8_seasonBreaks_31 : decode cX8_seasonBreaks 31 = .ok (.isub, 1) := by decide +kernel
theorem dX8_seasonBreaks_32 : decode cX8_seasonBreaks 32 = .ok (.aload_n 0, 1) := by decide +kernel
theorem dX8_seasonBreaks_33 : decode cX8_seasonBreaks 33 = .ok (.getfield 11, 3) := by decide +kernel
theorem dX8_seasonBreaks_36 : decode cX8_seasonBreaks 36 = .ok (.iconst 1, 1) := by decide +kernel
theorem dX8_seasonBreaks_37 : decode cX8_seasonBreaks 37 = .ok (.iaload, 1) := by decide +kernel
theorem dX8_seasonBreaks_38 : decode cX8_seasonBreaks 38 = .ok (.invokevirtual 205, 3) := by decide +kernel
theorem dX8_seasonBreaks_41 : decode cX8_seasonBreaks 41 = .ok (.if_icmp .ne 7, 3) := by decide +kernel
theorem dX8_seasonBreaks_44 : decode cX8_seasonBreaks 44 = .ok (.iconst 1, 1) := by decide +kernel
theorem dX8_seasonBreaks_45 : decode cX8_seasonBreaks 45 = .ok (.goto 4, 3) := by decide +kernel
theorem dX8_seasonBreaks_48 : decode cX8_seasonBreaks 48 = .ok (.iconst 0, 1) := by decide +kernel
theorem dX8_seasonBreaks_49 : decode cX8_seasonBreaks 49 = .ok (.iadd, 1) := by decide +kernel
theorem dX8_seasonBreaks_50 : decode cX8_seasonBreaks 50 = .ok (.istore_n 2, 1) := by decide +kernel
theorem dX8_seasonBreaks_51 : decode cX8_seasonBreaks 51 = .ok (.iinc 3 1, 3) := by decide +kernel
theorem dX8_seasonBreaks_54 : decode cX8_seasonBreaks 54 = .ok (.goto (-50), 3) := by decide +kernel
theorem dX8_seasonBreaks_57 : decode cX8_seasonBreaks 57 = .ok (.iload_n 2, 1) := by decide +kernel
theorem dX8_seasonBreaks_58 : decode cX8_seasonBreaks 58 = .ok (.ireturn, 1) := by decide +kernel
set_option maxRecDepth 20000 in
theorem ggX8_about_X8_isTeam : GoodIn wsX8_about wsX8_isTeam := goodIn_r _ [6, 1, 7, 8, 5, 9, 70, 71, 72, 73, 74, 75, 76, 77, 78, 79, 80, 81, 82, 83, 84] (by decide +kernel) (by decide +kernel)
set_option maxRecDepth 20000 in
theorem gX8_about_X8_isTeam : GoodIn wsX8_about (wsV RX8 63 RX8 yX8_isTeam wsX8_isTeam) := goodIn_app (goodIn_of _ (by decide +kernel)) ggX8_about_X8_isTeam
set_option maxRecDepth 20000 in
theorem ggX8_about_X8_pattern : GoodIn wsX8_about wsX8_pattern := goodIn_r _ [13, 14, 15, 16, 5, 17, 1, 18, 19, 20, 21, 22, 23, 24, 25, 70, 71, 72, 73, 74, 75, 76, 77, 78, 79, 80, 81, 82, 83, 84] (by decide +kernel) (by decide +kernel)
set_option maxRecDepth 20000 in
theorem gX8_about_X8_pattern : GoodIn wsX8_about (wsV RX8 208 RX8 yX8_pattern wsX8_pattern) := goodIn_app (goodIn_of _ (by decide +kernel)) ggX8_about_X8_pattern
set_option maxRecDepth 20000 in
theorem ggX8_about_X8_breaksOf : GoodIn wsX8_about wsX8_breaksOf := goodIn_r _ [29, 14, 15, 16, 5, 17, 1, 18, 19, 20, 21, 22, 23, 24, 25, 70, 71, 72, 73, 74, 75, 76, 77, 78, 79, 80, 81, 82, 83, 84] (by decide +kernel) (by decide +kernel)
set_option maxRecDepth 20000 in
theorem gX8_about_X8_breaksOf : GoodIn wsX8_about (wsV RX8 176 RX8 yX8_breaksOf wsX8_breaksOf) := goodIn_app (goodIn_of _ (by decide +kernel)) ggX8_about_X8_breaksOf
set_option maxRecDepth 20000 in
theorem ggX8_about_X8_otherOf : GoodIn wsX8_about wsX8_otherOf := goodIn_r _ [33, 1, 14, 15, 16, 5, 17, 10, 11, 12, 13, 18, 19, 20, 21, 22, 23, 24, 25, 70, 71, 72, 73, 74, 75, 76, 77, 78, 79, 80, 81, 82, 83, 84] (by decide +kernel) (by decide +kernel)
set_option maxRecDepth 20000 in
theorem gX8_about_X8_otherOf : GoodIn wsX8_about (wsV RX8 211 RX8 yX8_otherOf wsX8_otherOf) := goodIn_app (goodIn_of _ (by decide +kernel)) ggX8_about_X8_otherOf
set_option maxRecDepth 20000 in
theorem ggX8_about_X8_milesOf : GoodIn wsX8_about wsX8_milesOf := goodIn_r _ [37, 14, 15, 16, 5, 17, 1, 38, 39, 40, 41, 18, 19, 20, 21, 22, 23, 24, 25, 42, 43, 44, 45, 46, 47, 48, 49, 50, 51, 52, 53, 54, 55, 56, 57, 70, 71, 72, 73, 74, 75, 76, 77, 78, 79, 80, 81, 82, 83, 84] (by decide +kernel) (by decide +kernel)
set_option maxRecDepth 20000 in
theorem gX8_about_X8_milesOf : GoodIn wsX8_about (wsV RX8 199 RX8 yX8_milesOf wsX8_milesOf) := goodIn_app (goodIn_of _ (by decide +kernel)) ggX8_about_X8_milesOf
set_option maxRecDepth 20000 in
theorem ggX8_about_X8_seasonBreaks : GoodIn wsX8_about wsX8_seasonBreaks := goodIn_r _ [61, 1, 14, 15, 16, 5, 17, 62, 63, 64, 65, 66, 67, 68, 69, 18, 19, 20, 21, 22, 23, 24, 25, 70, 71, 72, 73, 74, 75, 76, 77, 78, 79, 80, 81, 82, 83, 84] (by decide +kernel) (by decide +kernel)
set_option maxRecDepth 20000 in
theorem gX8_about_X8_seasonBreaks : GoodIn wsX8_about (wsV RX8 214 RX8 yX8_seasonBreaks wsX8_seasonBreaks) := goodIn_app (goodIn_of _ (by decide +kernel)) ggX8_about_X8_seasonBreaks
theorem dX8_about_0 : decode cX8_about 0 = .ok (.aload_n 0, 1) := by decide +kernel
theorem dX8_about_1 : decode cX8_about 1 = .ok (.iload_n 1, 1) := by decide +kernel
theorem dX8_about_2 : decode cX8_about 2 = .ok (.invokevirtual 63, 3) := by decide +kernel
theorem dX8_about_5 : decode cX8_about 5 = .ok (.ifCond .ne 5, 3) := by decide +kernel
theorem dX8_about_8 : decode cX8_about 8 = .ok (.iconst (-1), 1) := by decide +kernel
theorem dX8_about_9 : decode cX8_about 9 = .ok (.ireturn, 1) := by decide +kernel
theorem dX8_about_10 : decode cX8_about 10 = .ok (.iload_n 2, 1) := by decide +kernel
theorem dX8_about_11 : decode cX8_about 11 = .ok (.tableswitch 87 0 6 #[41, 47, 53, 59, 65, 65, 81], 41) := by decide +kernel
theorem dX8_about_52 : decode cX8_about 52 = .ok (.aload_n 0, 1) := by decide +kernel
theorem dX8_about_53 : decode cX8_about 53 = .ok (.iload_n 1, 1) := by decide +kernel
theorem dX8_about_54 : decode cX8_about 54 = .ok (.invokevirtual 208, 3) := by decide +kernel
theorem dX8_about_57 : decode cX8_about 57 = .ok (.ireturn, 1) := by decide +kernel
theorem dX8_about_58 : decode cX8_about 58 = .ok (.aload_n 0, 1) := by decide +kernel
theorem dX8_about_59 : decode cX8_about 59 = .ok (.iload_n 1, 1) := by decide +kernel
theorem dX8_about_60 : decode cX8_about 60 = .ok (.invokevirtual 176, 3) := by decide +kernel
theorem dX8_about_63 : decode cX8_about 63 = .ok (.ireturn, 1) := by decide +kernel
theorem dX8_about_64 : decode cX8_about 64 = .ok (.aload_n 0, 1) := by decide +kernel
theorem dX8_about_65 : decode cX8_about 65 = .ok (.iload_n 1, 1) := by decide +kernel
theorem dX8_about_66 : decode cX8_about 66 = .ok (.invokevirtual 211, 3) := by decide +kernel
theorem dX8_about_69 : decode cX8_about 69 = .ok (.ireturn, 1) := by decide +kernel
theorem dX8_about_70 : decode cX8_about 70 = .ok (.aload_n 0, 1) := by decide +kernel
theorem dX8_about_71 : decode cX8_about 71 = .ok (.iload_n 1, 1) := by decide +kernel
theorem dX8_about_72 : decode cX8_about 72 = .ok (.invokevirtual 199, 3) := by decide +kernel
theorem dX8_about_75 : decode cX8_about 75 = .ok (.ireturn, 1) := by decide +kernel
theorem dX8_about_76 : decode cX8_about 76 = .ok (.aload_n 0, 1) := by decide +kernel
theorem dX8_about_77 : decode cX8_about 77 = .ok (.getfield 11, 3) := by decide +kernel
theorem dX8_about_80 : decode cX8_about 80 = .ok (.bipush 9, 2) := by decide +kernel
theorem dX8_about_82 : decode cX8_about 82 = .ok (.iconst 2, 1) := by decide +kernel
theorem dX8_about_83 : decode cX8_about 83 = .ok (.iload_n 1, 1) := by decide +kernel
theorem dX8_about_84 : decode cX8_about 84 = .ok (.imul, 1) := by decide +kernel
theorem dX8_about_85 : decode cX8_about 85 = .ok (.iadd, 1) := by decide +kernel
theorem dX8_about_86 : decode cX8_about 86 = .ok (.iload_n 2, 1) := by decide +kernel
theorem dX8_about_87 : decode cX8_about 87 = .ok (.iadd, 1) := by decide +kernel
theorem dX8_about_88 : decode cX8_about 88 = .ok (.iconst 4, 1) := by decide +kernel
theorem dX8_about_89 : decode cX8_about 89 = .ok (.isub, 1) := by decide +kernel
theorem dX8_about_90 : decode cX8_about 90 = .ok (.iaload, 1) := by decide +kernel
theorem dX8_about_91 : decode cX8_about 91 = .ok (.ireturn, 1) := by decide +kernel
theorem dX8_about_92 : decode cX8_about 92 = .ok (.aload_n 0, 1) := by decide +kernel
theorem dX8_about_93 : decode cX8_about 93 = .ok (.iload_n 1, 1) := by decide +kernel
theorem dX8_about_94 : decode cX8_about 94 = .ok (.invokevirtual 214, 3) := by decide +kernel
theorem dX8_about_97 : decode cX8_about 97 = .ok (.ireturn, 1) := by decide +kernel
theorem dX8_about_98 : decode cX8_about 98 = .ok (.iconst (-1), 1) := by decide +kernel
theorem dX8_about_99 : decode cX8_about 99 = .ok (.ireturn, 1) := by decide +kernel
set_option maxRecDepth 20000 in
theorem ggX8_carried_X8_isTeam : GoodIn wsX8_carried wsX8_isTeam := goodIn_r _ [5, 6, 7, 8, 4, 9, 26, 27, 28, 29, 30, 31, 32, 33, 34, 35, 36, 37, 38, 39, 40] (by decide +kernel) (by decide +kernel)
set_option maxRecDepth 20000 in
theorem gX8_carried_X8_isTeam : GoodIn wsX8_carried (wsV RX8 63 RX8 yX8_isTeam wsX8_isTeam) := goodIn_app (goodIn_of _ (by decide +kernel)) ggX8_carried_X8_isTeam
set_option maxRecDepth 20000 in
theorem ggX8_carried_X8_carriedBy : GoodIn wsX8_carried wsX8_carriedBy := goodIn_r _ [13, 14, 15, 16, 4, 17, 6, 18, 19, 20, 21, 22, 23, 24, 25, 26, 27, 28, 29, 30, 31, 32, 33, 34, 35, 36, 37, 38, 39, 40] (by decide +kernel) (by decide +kernel)
set_option maxRecDepth 20000 in
theorem gX8_carried_X8_carriedBy : GoodIn wsX8_carried (wsV RX8 182 RX8 yX8_carriedBy wsX8_carriedBy) := goodIn_app (goodIn_of _ (by decide +kernel)) ggX8_carried_X8_carriedBy
theorem dX8_carried_0 : decode cX8_carried 0 = .ok (.aload_n 0, 1) := by decide +kernel
theorem dX8_carried_1 : decode cX8_carried 1 = .ok (.iload_n 1, 1) := by decide +kernel
theorem dX8_carried_2 : decode cX8_carried 2 = .ok (.invokevirtual 63, 3) := by decide +kernel
theorem dX8_carried_5 : decode cX8_carried 5 = .ok (.ifCond .eq 25, 3) := by decide +kernel
theorem dX8_carried_8 : decode cX8_carried 8 = .ok (.aload_n 0, 1) := by decide +kernel
theorem dX8_carried_9 : decode cX8_carried 9 = .ok (.iload_n 2, 1) := by decide +kernel
theorem dX8_carried_10 : decode cX8_carried 10 = .ok (.invokevirtual 63, 3) := by decide +kernel
theorem dX8_carried_13 : decode cX8_carried 13 = .ok (.ifCond .eq 17, 3) := by decide +kernel
theorem dX8_carried_16 : decode cX8_carried 16 = .ok (.iload_n 1, 1) := by decide +kernel
theorem dX8_carried_17 : decode cX8_carried 17 = .ok (.iload_n 2, 1) := by decide +kernel
theorem dX8_carried_18 : decode cX8_carried 18 = .ok (.if_icmp .eq 12, 3) := by decide +kernel
theorem dX8_carried_21 : decode cX8_carried 21 = .ok (.aload_n 0, 1) := by decide +kernel
theorem dX8_carried_22 : decode cX8_carried 22 = .ok (.iload_n 1, 1) := by decide +kernel
theorem dX8_carried_23 : decode cX8_carried 23 = .ok (.iload_n 2, 1) := by decide +kernel
theorem dX8_carried_24 : decode cX8_carried 24 = .ok (.invokevirtual 182, 3) := by decide +kernel
theorem dX8_carried_27 : decode cX8_carried 27 = .ok (.goto 4, 3) := by decide +kernel
theorem dX8_carried_30 : decode cX8_carried 30 = .ok (.iconst (-1), 1) := by decide +kernel
theorem dX8_carried_31 : decode cX8_carried 31 = .ok (.ireturn, 1) := by decide +kernel
set_option maxRecDepth 20000 in
theorem ggX8_loop_X8_isRound : GoodIn wsX8_loop wsX8_isRound := goodIn_r _ [5, 6, 7, 8, 4, 9, 10, 11, 12, 13, 26, 27, 28, 29, 30, 31, 32, 33, 34, 35, 36, 37, 38, 39, 40] (by decide +kernel) (by decide +kernel)
set_option maxRecDepth 20000 in
theorem gX8_loop_X8_isRound : GoodIn wsX8_loop (wsV RX8 74 RX8 yX8_isRound wsX8_isRound) := goodIn_app (goodIn_of _ (by decide +kernel)) ggX8_loop_X8_isRound
set_option maxRecDepth 20000 in
theorem ggX8_loop_X8_isTeam : GoodIn wsX8_loop wsX8_isTeam := goodIn_r _ [17, 10, 11, 12, 4, 13, 26, 27, 28, 29, 30, 31, 32, 33, 34, 35, 36, 37, 38, 39, 40] (by decide +kernel) (by decide +kernel)
set_option maxRecDepth 20000 in
theorem gX8_loop_X8_isTeam : GoodIn wsX8_loop (wsV RX8 63 RX8 yX8_isTeam wsX8_isTeam) := goodIn_app (goodIn_of _ (by decide +kernel)) ggX8_loop_X8_isTeam
set_option maxRecDepth 20000 in
theorem ggX8_loop_X8_meets : GoodIn wsX8_loop wsX8_meets := goodIn_r _ [21, 10, 22, 23, 24, 4, 25, 26, 27, 28, 29, 30, 31, 32, 33, 34, 35, 36, 37, 38, 39, 40] (by decide +kernel) (by decide +kernel)
set_option maxRecDepth 20000 in
theorem gX8_loop_X8_meets : GoodIn wsX8_loop (wsV RX8 179 RX8 yX8_meets wsX8_meets) := goodIn_app (goodIn_of _ (by decide +kernel)) ggX8_loop_X8_meets
theorem dX8_loop_0 : decode cX8_loop 0 = .ok (.aload_n 0, 1) := by decide +kernel
theorem dX8_loop_1 : decode cX8_loop 1 = .ok (.iload_n 1, 1) := by decide +kernel
theorem dX8_loop_2 : decode cX8_loop 2 = .ok (.invokevirtual 74, 3) := by decide +kernel
theorem dX8_loop_5 : decode cX8_loop 5 = .ok (.ifCond .eq 24, 3) := by decide +kernel
theorem dX8_loop_8 : decode cX8_loop 8 = .ok (.aload_n 0, 1) := by decide +kernel
theorem dX8_loop_9 : decode cX8_loop 9 = .ok (.iload_n 2, 1) := by decide +kernel
theorem dX8_loop_10 : decode cX8_loop 10 = .ok (.invokevirtual 74, 3) := by decide +kernel
theorem dX8_loop_13 : decode cX8_loop 13 = .ok (.ifCond .eq 16, 3) := by decide +kernel
theorem dX8_loop_16 : decode cX8_loop 16 = .ok (.iload_n 1, 1) := by decide +kernel
theorem dX8_loop_17 : decode cX8_loop 17 = .ok (.iload_n 2, 1) := by decide +kernel
theorem dX8_loop_18 : decode cX8_loop 18 = .ok (.if_icmp .eq 11, 3) := by decide +kernel
theorem dX8_loop_21 : decode cX8_loop 21 = .ok (.aload_n 0, 1) := by decide +kernel
theorem dX8_loop_22 : decode cX8_loop 22 = .ok (.iload_n 3, 1) := by decide +kernel
theorem dX8_loop_23 : decode cX8_loop 23 = .ok (.invokevirtual 63, 3) := by decide +kernel
theorem dX8_loop_26 : decode cX8_loop 26 = .ok (.ifCond .ne 5, 3) := by decide +kernel
theorem dX8_loop_29 : decode cX8_loop 29 = .ok (.iconst (-1), 1) := by decide +kernel
theorem dX8_loop_30 : decode cX8_loop 30 = .ok (.ireturn, 1) := by decide +kernel
theorem dX8_loop_31 : decode cX8_loop 31 = .ok (.iconst 0, 1) := by decide +kernel
theorem dX8_loop_32 : decode cX8_loop 32 = .ok (.istore 4, 2) := by decide +kernel
theorem dX8_loop_34 : decode cX8_loop 34 = .ok (.iload_n 3, 1) := by decide +kernel
theorem dX8_loop_35 : decode cX8_loop 35 = .ok (.istore 5, 2) := by decide +kernel
theorem dX8_loop_37 : decode cX8_loop 37 = .ok (.iconst 1, 1) := by decide +kernel
theorem dX8_loop_38 : decode cX8_loop 38 = .ok (.istore 6, 2) := by decide +kernel
theorem dX8_loop_40 : decode cX8_loop 40 = .ok (.iload 6, 2) := by decide +kernel
theorem dX8_loop_42 : decode cX8_loop 42 = .ok (.ifCond .eq 36, 3) := by decide +kernel
theorem dX8_loop_45 : decode cX8_loop 45 = .ok (.aload_n 0, 1) := by decide +kernel
theorem dX8_loop_46 : decode cX8_loop 46 = .ok (.aload_n 0, 1) := by decide +kernel
theorem dX8_loop_47 : decode cX8_loop 47 = .ok (.iload 5, 2) := by decide +kernel
theorem dX8_loop_49 : decode cX8_loop 49 = .ok (.iload_n 1, 1) := by decide +kernel
theorem dX8_loop_50 : decode cX8_loop 50 = .ok (.invokevirtual 179, 3) := by decide +kernel
theorem dX8_loop_53 : decode cX8_loop 53 = .ok (.iload_n 2, 1) := by decide +kernel
theorem dX8_loop_54 : decode cX8_loop 54 = .ok (.invokevirtual 179, 3) := by decide +kernel
theorem dX8_loop_57 : decode cX8_loop 57 = .ok (.istore 5, 2) := by decide +kernel
theorem dX8_loop_59 : decode cX8_loop 59 = .ok (.iinc 4 2, 3) := by decide +kernel
theorem dX8_loop_62 : decode cX8_loop 62 = .ok (.iload 5, 2) := by decide +kernel
theorem dX8_loop_64 : decode cX8_loop 64 = .ok (.iload_n 3, 1) := by decide +kernel
theorem dX8_loop_65 : decode cX8_loop 65 = .ok (.if_icmp .eq 7, 3) := by decide +kernel
theorem dX8_loop_68 : decode cX8_loop 68 = .ok (.iconst 1, 1) := by decide +kernel
theorem dX8_loop_69 : decode cX8_loop 69 = .ok (.goto 4, 3) := by decide +kernel
theorem dX8_loop_72 : decode cX8_loop 72 = .ok (.iconst 0, 1) := by decide +kernel
theorem dX8_loop_73 : decode cX8_loop 73 = .ok (.istore 6, 2) := by decide +kernel
theorem dX8_loop_75 : decode cX8_loop 75 = .ok (.goto (-35), 3) := by decide +kernel
theorem dX8_loop_78 : decode cX8_loop 78 = .ok (.iload 4, 2) := by decide +kernel
theorem dX8_loop_80 : decode cX8_loop 80 = .ok (.ireturn, 1) := by decide +kernel
set_option maxRecDepth 20000 in
theorem ggX8_allSeasonBreaks_X8_seasonBreaks : GoodIn wsX8_allSeasonBreaks wsX8_seasonBreaks := goodIn_r _ [6, 1, 7, 8, 9, 5, 10, 11, 12, 13, 14, 15, 16, 17, 18, 19, 20, 21, 22, 23, 24, 25, 26, 27, 28, 29, 30, 31, 32, 33, 34, 35, 36, 37, 38, 39, 40, 41] (by decide +kernel) (by decide +kernel)
set_option maxRecDepth 20000 in
theorem gX8_allSeasonBreaks_X8_seasonBreaks : GoodIn wsX8_allSeasonBreaks (wsV RX8 214 RX8 yX8_seasonBreaks wsX8_seasonBreaks) := goodIn_app (goodIn_of _ (by decide +kernel)) ggX8_allSeasonBreaks_X8_seasonBreaks
theorem dX8_allSeasonBreaks_0 : decode cX8_allSeasonBreaks 0 = .ok (.iconst 0, 1) := by decide +kernel
theorem dX8_allSeasonBreaks_1 : decode cX8_allSeasonBreaks 1 = .ok (.istore_n 1, 1) := by decide +kernel
theorem dX8_allSeasonBreaks_2 : decode cX8_allSeasonBreaks 2 = .ok (.iconst 0, 1) := by decide +kernel
theorem dX8_allSeasonBreaks_3 : decode cX8_allSeasonBreaks 3 = .ok (.istore_n 2, 1) := by decide +kernel
theorem dX8_allSeasonBreaks_4 : decode cX8_allSeasonBreaks 4 = .ok (.iload_n 2, 1) := by decide +kernel
theorem dX8_allSeasonBreaks_5 : decode cX8_allSeasonBreaks 5 = .ok (.aload_n 0, 1) := by decide +kernel
theorem dX8_allSeasonBreaks_6 : decode cX8_allSeasonBreaks 6 = .ok (.getfield 11, 3) := by decide +kernel
theorem dX8_allSeasonBreaks_9 : decode cX8_allSeasonBreaks 9 = .ok (.iconst 0, 1) := by decide +kernel
theorem dX8_allSeasonBreaks_10 : decode cX8_allSeasonBreaks 10 = .ok (.iaload, 1) := by decide +kernel
theorem dX8_allSeasonBreaks_11 : decode cX8_allSeasonBreaks 11 = .ok (.if_icmp .ge 17, 3) := by decide +kernel
theorem dX8_allSeasonBreaks_14 : decode cX8_allSeasonBreaks 14 = .ok (.iload_n 1, 1) := by decide +kernel
theorem dX8_allSeasonBreaks_15 : decode cX8_allSeasonBreaks 15 = .ok (.aload_n 0, 1) := by decide +kernel
theorem dX8_allSeasonBreaks_16 : decode cX8_allSeasonBreaks 16 = .ok (.iload_n 2, 1) := by decide +kernel
theorem dX8_allSeasonBreaks_17 : decode cX8_allSeasonBreaks 17 = .ok (.invokevirtual 214, 3) := by decide +kernel
theorem dX8_allSeasonBreaks_20 : decode cX8_allSeasonBreaks 20 = .ok (.iadd, 1) := by decide +kernel
theorem dX8_allSeasonBreaks_21 : decode cX8_allSeasonBreaks 21 = .ok (.istore_n 1, 1) := by decide +kernel
theorem dX8_allSeasonBreaks_22 : decode cX8_allSeasonBreaks 22 = .ok (.iinc 2 1, 3) := by decide +kernel
theorem dX8_allSeasonBreaks_25 : decode cX8_allSeasonBreaks 25 = .ok (.goto (-21), 3) := by decide +kernel
theorem dX8_allSeasonBreaks_28 : decode cX8_allSeasonBreaks 28 = .ok (.iload_n 1, 1) := by decide +kernel
theorem dX8_allSeasonBreaks_29 : decode cX8_allSeasonBreaks 29 = .ok (.ireturn, 1) := by decide +kernel
theorem dX8_bars_0 : decode cX8_bars 0 = .ok (.iconst 0, 1) := by decide +kernel
theorem dX8_bars_1 : decode cX8_bars 1 = .ok (.istore_n 1, 1) := by decide +kernel
theorem dX8_bars_2 : decode cX8_bars 2 = .ok (.iconst 0, 1) := by decide +kernel
theorem dX8_bars_3 : decode cX8_bars 3 = .ok (.istore_n 2, 1) := by decide +kernel
theorem dX8_bars_4 : decode cX8_bars 4 = .ok (.iload_n 2, 1) := by decide +kernel
theorem dX8_bars_5 : decode cX8_bars 5 = .ok (.bipush 36, 2) := by decide +kernel
theorem dX8_bars_7 : decode cX8_bars 7 = .ok (.if_icmp .ge 21, 3) := by decide +kernel
theorem dX8_bars_10 : decode cX8_bars 10 = .ok (.iload_n 1, 1) := by decide +kernel
theorem dX8_bars_11 : decode cX8_bars 11 = .ok (.aload_n 0, 1) := by decide +kernel
theorem dX8_bars_12 : decode cX8_bars 12 = .ok (.getfield 11, 3) := by decide +kernel
theorem dX8_bars_15 : decode cX8_bars 15 = .ok (.bipush 21, 2) := by decide +kernel
theorem dX8_bars_17 : decode cX8_bars 17 = .ok (.iload_n 2, 1) := by decide +kernel
theorem dX8_bars_18 : decode cX8_bars 18 = .ok (.iadd, 1) := by decide +kernel
theorem dX8_bars_19 : decode cX8_bars 19 = .ok (.iaload, 1) := by decide +kernel
theorem dX8_bars_20 : decode cX8_bars 20 = .ok (.iadd, 1) := by decide +kernel
theorem dX8_bars_21 : decode cX8_bars 21 = .ok (.istore_n 1, 1) := by decide +kernel
theorem dX8_bars_22 : decode cX8_bars 22 = .ok (.iinc 2 1, 3) := by decide +kernel
theorem dX8_bars_25 : decode cX8_bars 25 = .ok (.goto (-21), 3) := by decide +kernel
theorem dX8_bars_28 : decode cX8_bars 28 = .ok (.iload_n 1, 1) := by decide +kernel
theorem dX8_bars_29 : decode cX8_bars 29 = .ok (.ireturn, 1) := by decide +kernel
set_option maxRecDepth 20000 in
theorem ggX8_mostWorn_X8_rounds : GoodIn wsX8_mostWorn wsX8_rounds := goodIn_r _ [6, 1, 41, 42, 43, 44, 45, 46, 47, 48, 49, 50, 51, 52, 53, 54, 55] (by decide +kernel) (by decide +kernel)
set_option maxRecDepth 20000 in
theorem gX8_mostWorn_X8_rounds : GoodIn wsX8_mostWorn (wsV RX8 51 RX8 yX8_rounds wsX8_rounds) := goodIn_app (goodIn_of _ (by decide +kernel)) ggX8_mostWorn_X8_rounds
set_option maxRecDepth 20000 in
theorem ggX8_mostWorn_X8_wearOf : GoodIn wsX8_mostWorn wsX8_wearOf := goodIn_r _ [10, 11, 12, 13, 14, 15, 5, 16, 17, 18, 19, 20, 21, 22, 23, 24, 25, 26, 27, 28, 1, 29, 30, 31, 32, 33, 34, 35, 36, 37, 38, 39, 40, 41, 42, 43, 44, 45, 46, 47, 48, 49, 50, 51, 52, 53, 54, 55] (by decide +kernel) (by decide +kernel)
set_option maxRecDepth 20000 in
theorem gX8_mostWorn_X8_wearOf : GoodIn wsX8_mostWorn (wsV RX8 217 RX8 yX8_wearOf wsX8_wearOf) := goodIn_app (goodIn_of _ (by decide +kernel)) ggX8_mostWorn_X8_wearOf
theorem dX8_mostWorn_0 : decode cX8_mostWorn 0 = .ok (.iconst 0, 1) := by decide +kernel
theorem dX8_mostWorn_1 : decode cX8_mostWorn 1 = .ok (.istore_n 1, 1) := by decide +kernel
theorem dX8_mostWorn_2 : decode cX8_mostWorn 2 = .ok (.iconst 1, 1) := by decide +kernel
theorem dX8_mostWorn_3 : decode cX8_mostWorn 3 = .ok (.istore_n 2, 1) := by decide +kernel
theorem dX8_mostWorn_4 : decode cX8_mostWorn 4 = .ok (.iload_n 2, 1) := by decide +kernel
theorem dX8_mostWorn_5 : decode cX8_mostWorn 5 = .ok (.aload_n 0, 1) := by decide +kernel
theorem dX8_mostWorn_6 : decode cX8_mostWorn 6 = .ok (.getfield 11, 3) := by decide +kernel
theorem dX8_mostWorn_9 : decode cX8_mostWorn 9 = .ok (.iconst 0, 1) := by decide +kernel
theorem dX8_mostWorn_10 : decode cX8_mostWorn 10 = .ok (.iaload, 1) := by decide +kernel
theorem dX8_mostWorn_11 : decode cX8_mostWorn 11 = .ok (.if_icmp .ge 41, 3) := by decide +kernel
theorem dX8_mostWorn_14 : decode cX8_mostWorn 14 = .ok (.aload_n 0, 1) := by decide +kernel
theorem dX8_mostWorn_15 : decode cX8_mostWorn 15 = .ok (.iload_n 2, 1) := by decide +kernel
theorem dX8_mostWorn_16 : decode cX8_mostWorn 16 = .ok (.aload_n 0, 1) := by decide +kernel
theorem dX8_mostWorn_17 : decode cX8_mostWorn 17 = .ok (.invokevirtual 51, 3) := by decide +kernel
theorem dX8_mostWorn_20 : decode cX8_mostWorn 20 = .ok (.iconst 1, 1) := by decide +kernel
theorem dX8_mostWorn_21 : decode cX8_mostWorn 21 = .ok (.isub, 1) := by decide +kernel
theorem dX8_mostWorn_22 : decode cX8_mostWorn 22 = .ok (.invokevirtual 217, 3) := by decide +kernel
theorem dX8_mostWorn_25 : decode cX8_mostWorn 25 = .ok (.aload_n 0, 1) := by decide +kernel
theorem dX8_mostWorn_26 : decode cX8_mostWorn 26 = .ok (.iload_n 1, 1) := by decide +kernel
theorem dX8_mostWorn_27 : decode cX8_mostWorn 27 = .ok (.aload_n 0, 1) := by decide +kernel
theorem dX8_mostWorn_28 : decode cX8_mostWorn 28 = .ok (.invokevirtual 51, 3) := by decide +kernel
theorem dX8_mostWorn_31 : decode cX8_mostWorn 31 = .ok (.iconst 1, 1) := by decide +kernel
theorem dX8_mostWorn_32 : decode cX8_mostWorn 32 = .ok (.isub, 1) := by decide +kernel
theorem dX8_mostWorn_33 : decode cX8_mostWorn 33 = .ok (.invokevirtual 217, 3) := by decide +kernel
theorem dX8_mostWorn_36 : decode cX8_mostWorn 36 = .ok (.fcmp .l, 1) := by decide +kernel
theorem dX8_mostWorn_37 : decode cX8_mostWorn 37 = .ok (.ifCond .le 7, 3) := by decide +kernel
theorem dX8_mostWorn_40 : decode cX8_mostWorn 40 = .ok (.iload_n 2, 1) := by decide +kernel
theorem dX8_mostWorn_41 : decode cX8_mostWorn 41 = .ok (.goto 4, 3) := by decide +kernel
theorem dX8_mostWorn_44 : decode cX8_mostWorn 44 = .ok (.iload_n 1, 1) := by decide +kernel
theorem dX8_mostWorn_45 : decode cX8_mostWorn 45 = .ok (.istore_n 1, 1) := by decide +kernel
theorem dX8_mostWorn_46 : decode cX8_mostWorn 46 = .ok (.iinc 2 1, 3) := by decide +kernel
theorem dX8_mostWorn_49 : decode cX8_mostWorn 49 = .ok (.goto (-45), 3) := by decide +kernel
theorem dX8_mostWorn_52 : decode cX8_mostWorn 52 = .ok (.iload_n 1, 1) := by decide +kernel
theorem dX8_mostWorn_53 : decode cX8_mostWorn 53 = .ok (.ireturn, 1) := by decide +kernel
set_option maxRecDepth 20000 in
theorem ggX8_told_X8_allBreaks : GoodIn wsX8_told wsX8_allBreaks := goodIn_r _ [6, 1, 7, 8, 9, 5, 10, 11, 12, 13, 14, 15, 16, 17, 18, 19, 20, 21, 22, 93, 94, 95, 96, 97, 98, 99, 100, 101, 102, 103, 104, 105, 106, 107] (by decide +kernel) (by decide +kernel)
set_option maxRecDepth 20000 in
theorem gX8_told_X8_allBreaks : GoodIn wsX8_told (wsV RX8 80 RX8 yX8_allBreaks wsX8_allBreaks) := goodIn_app (goodIn_of _ (by decide +kernel)) ggX8_told_X8_allBreaks
set_option maxRecDepth 20000 in
theorem ggX8_told_X8_violated : GoodIn wsX8_told wsX8_violated := goodIn_r _ [26, 1, 11, 12, 13, 5, 14, 15, 16, 17, 18, 19, 20, 21, 22, 93, 94, 95, 96, 97, 98, 99, 100, 101, 102, 103, 104, 105, 106, 107] (by decide +kernel) (by decide +kernel)
set_option maxRecDepth 20000 in
theorem gX8_told_X8_violated : GoodIn wsX8_told (wsV RX8 221 RX8 yX8_violated wsX8_violated) := goodIn_app (goodIn_of _ (by decide +kernel)) ggX8_told_X8_violated
set_option maxRecDepth 20000 in
theorem ggX8_told_X8_carry : GoodIn wsX8_told wsX8_carry := goodIn_r _ [30, 1, 31, 32, 33, 5, 34, 11, 12, 13, 14, 35, 36, 37, 38, 19, 20, 21, 22, 93, 94, 95, 96, 97, 98, 99, 100, 101, 102, 103, 104, 105, 106, 107] (by decide +kernel) (by decide +kernel)
set_option maxRecDepth 20000 in
theorem gX8_told_X8_carry : GoodIn wsX8_told (wsV RX8 224 RX8 yX8_carry wsX8_carry) := goodIn_app (goodIn_of _ (by decide +kernel)) ggX8_told_X8_carry
set_option maxRecDepth 20000 in
theorem ggX8_told_X8_allMiles : GoodIn wsX8_told wsX8_allMiles := goodIn_r _ [42, 1, 43, 44, 45, 5, 46, 11, 12, 13, 14, 47, 48, 49, 50, 15, 16, 17, 18, 19, 20, 21, 22, 35, 36, 37, 38, 51, 52, 53, 54, 55, 56, 57, 58, 59, 60, 61, 62, 93, 94, 95, 96, 97, 98, 99, 100, 101, 102, 103, 104, 105, 106, 107] (by decide +kernel) (by decide +kernel)
set_option maxRecDepth 20000 in
theorem gX8_told_X8_allMiles : GoodIn wsX8_told (wsV RX8 227 RX8 yX8_allMiles wsX8_allMiles) := goodIn_app (goodIn_of _ (by decide +kernel)) ggX8_told_X8_allMiles
set_option maxRecDepth 20000 in
theorem ggX8_told_X8_mostWorn : GoodIn wsX8_told wsX8_mostWorn := goodIn_r _ [66, 1, 11, 12, 13, 5, 14, 67, 68, 69, 70, 71, 72, 59, 60, 61, 62, 47, 48, 49, 50, 15, 16, 17, 18, 19, 20, 21, 22, 35, 36, 37, 38, 51, 52, 53, 54, 55, 56, 57, 58, 93, 94, 95, 96, 97, 98, 99, 100, 101, 102, 103, 104, 105, 106, 107] (by decide +kernel) (by decide +kernel)
set_option maxRecDepth 20000 in
theorem gX8_told_X8_mostWorn : GoodIn wsX8_told (wsV RX8 230 RX8 yX8_mostWorn wsX8_mostWorn) := goodIn_app (goodIn_of _ (by decide +kernel)) ggX8_told_X8_mostWorn
set_option maxRecDepth 20000 in
theorem ggX8_told_X8_bars : GoodIn wsX8_told wsX8_bars := goodIn_r _ [76, 1, 93, 94, 95, 96, 97, 98, 99, 100, 101, 102, 103, 104, 105, 106, 107] (by decide +kernel) (by decide +kernel)
set_option maxRecDepth 20000 in
theorem gX8_told_X8_bars : GoodIn wsX8_told (wsV RX8 233 RX8 yX8_bars wsX8_bars) := goodIn_app (goodIn_of _ (by decide +kernel)) ggX8_told_X8_bars
set_option maxRecDepth 20000 in
theorem ggX8_told_X8_allSeasonBreaks : GoodIn wsX8_told wsX8_allSeasonBreaks := goodIn_r _ [80, 1, 81, 82, 83, 5, 84, 11, 12, 13, 14, 85, 86, 87, 88, 89, 90, 91, 92, 15, 16, 17, 18, 19, 20, 21, 22, 93, 94, 95, 96, 97, 98, 99, 100, 101, 102, 103, 104, 105, 106, 107] (by decide +kernel) (by decide +kernel)
set_option maxRecDepth 20000 in
theorem gX8_told_X8_allSeasonBreaks : GoodIn wsX8_told (wsV RX8 236 RX8 yX8_allSeasonBreaks wsX8_allSeasonBreaks) := goodIn_app (goodIn_of _ (by decide +kernel)) ggX8_told_X8_allSeasonBreaks
theorem dX8_told_0 : decode cX8_told 0 = .ok (.iload_n 1, 1) := by decide +kernel
theorem dX8_told_1 : decode cX8_told 1 = .ok (.tableswitch 118 0 9 #[55, 62, 67, 72, 77, 82, 87, 92, 99, 104], 55) := by decide +kernel
theorem dX8_told_56 : decode cX8_told 56 = .ok (.aload_n 0, 1) := by decide +kernel
theorem dX8_told_57 : decode cX8_told 57 = .ok (.getfield 11, 3) := by decide +kernel
theorem dX8_told_60 : decode cX8_told 60 = .ok (.iconst 0, 1) := by decide +kernel
theorem dX8_told_61 : decode cX8_told 61 = .ok (.iaload, 1) := by decide +kernel
theorem dX8_told_62 : decode cX8_told 62 = .ok (.ireturn, 1) := by decide +kernel
theorem dX8_told_63 : decode cX8_told 63 = .ok (.aload_n 0, 1) := by decide +kernel
theorem dX8_told_64 : decode cX8_told 64 = .ok (.invokevirtual 80, 3) := by decide +kernel
theorem dX8_told_67 : decode cX8_told 67 = .ok (.ireturn, 1) := by decide +kernel
theorem dX8_told_68 : decode cX8_told 68 = .ok (.aload_n 0, 1) := by decide +kernel
theorem dX8_told_69 : decode cX8_told 69 = .ok (.invokevirtual 221, 3) := by decide +kernel
theorem dX8_told_72 : decode cX8_told 72 = .ok (.ireturn, 1) := by decide +kernel
theorem dX8_told_73 : decode cX8_told 73 = .ok (.aload_n 0, 1) := by decide +kernel
theorem dX8_told_74 : decode cX8_told 74 = .ok (.invokevirtual 224, 3) := by decide +kernel
theorem dX8_told_77 : decode cX8_told 77 = .ok (.ireturn, 1) := by decide +kernel
theorem dX8_told_78 : decode cX8_told 78 = .ok (.aload_n 0, 1) := by decide +kernel
theorem dX8_told_79 : decode cX8_told 79 = .ok (.invokevirtual 227, 3) := by decide +kernel
theorem dX8_told_82 : decode cX8_told 82 = .ok (.ireturn, 1) := by decide +kernel
theorem dX8_told_83 : decode cX8_told 83 = .ok (.aload_n 0, 1) := by decide +kernel
theorem dX8_told_84 : decode cX8_told 84 = .ok (.invokevirtual 230, 3) := by decide +kernel
theorem dX8_told_87 : decode cX8_told 87 = .ok (.ireturn, 1) := by decide +kernel
theorem dX8_told_88 : decode cX8_told 88 = .ok (.aload_n 0, 1) := by decide +kernel
theorem dX8_told_89 : decode cX8_told 89 = .ok (.invokevirtual 233, 3) := by decide +kernel
theorem dX8_told_92 : decode cX8_told 92 = .ok (.ireturn, 1) := by decide +kernel
theorem dX8_told_93 : decode cX8_told 93 = .ok (.aload_n 0, 1) := by decide +kernel
theorem dX8_told_94 : decode cX8_told 94 = .ok (.getfield 11, 3) := by decide +kernel
theorem dX8_told_97 : decode cX8_told 97 = .ok (.iconst 1, 1) := by decide +kernel
theorem dX8_told_98 : decode cX8_told 98 = .ok (.iaload, 1) := by decide +kernel
theorem dX8_told_99 : decode cX8_told 99 = .ok (.ireturn, 1) := by decide +kernel
theorem dX8_told_100 : decode cX8_told 100 = .ok (.aload_n 0, 1) := by decide +kernel
theorem dX8_told_101 : decode cX8_told 101 = .ok (.invokevirtual 236, 3) := by decide +kernel
theorem dX8_told_104 : decode cX8_told 104 = .ok (.ireturn, 1) := by decide +kernel
theorem dX8_told_105 : decode cX8_told 105 = .ok (.aload_n 0, 1) := by decide +kernel
theorem dX8_told_106 : decode cX8_told 106 = .ok (.invokevirtual 80, 3) := by decide +kernel
theorem dX8_told_109 : decode cX8_told 109 = .ok (.aload_n 0, 1) := by decide +kernel
theorem dX8_told_110 : decode cX8_told 110 = .ok (.getfield 11, 3) := by decide +kernel
theorem dX8_told_113 : decode cX8_told 113 = .ok (.iconst 0, 1) := by decide +kernel
theorem dX8_told_114 : decode cX8_told 114 = .ok (.iaload, 1) := by decide +kernel
theorem dX8_told_115 : decode cX8_told 115 = .ok (.iconst 2, 1) := by decide +kernel
theorem dX8_told_116 : decode cX8_told 116 = .ok (.isub, 1) := by decide +kernel
theorem dX8_told_117 : decode cX8_told 117 = .ok (.isub, 1) := by decide +kernel
theorem dX8_told_118 : decode cX8_told 118 = .ok (.ireturn, 1) := by decide +kernel
theorem dX8_told_119 : decode cX8_told 119 = .ok (.iconst (-1), 1) := by decide +kernel
theorem dX8_told_120 : decode cX8_told 120 = .ok (.ireturn, 1) := by decide +kernel
set_option maxRecDepth 20000 in
theorem ggX8_rateOf_X8_isIn : GoodIn wsX8_rateOf wsX8_isIn := goodIn_r _ [5] (by decide +kernel) (by decide +kernel)
set_option maxRecDepth 20000 in
theorem gX8_rateOf_X8_isIn : GoodIn wsX8_rateOf (va_wsS RX8 47 yX8_isIn wsX8_isIn) := goodIn_app (goodIn_of _ (by decide +kernel)) ggX8_rateOf_X8_isIn
theorem dX8_rateOf_0 : decode cX8_rateOf 0 = .ok (.iload_n 1, 1) := by decide +kernel
theorem dX8_rateOf_1 : decode cX8_rateOf 1 = .ok (.iconst 0, 1) := by decide +kernel
theorem dX8_rateOf_2 : decode cX8_rateOf 2 = .ok (.iconst 3, 1) := by decide +kernel
theorem dX8_rateOf_3 : decode cX8_rateOf 3 = .ok (.invokestatic 47, 3) := by decide +kernel
theorem dX8_rateOf_6 : decode cX8_rateOf 6 = .ok (.ifCond .eq 14, 3) := by decide +kernel
theorem dX8_rateOf_9 : decode cX8_rateOf 9 = .ok (.aload_n 0, 1) := by decide +kernel
theorem dX8_rateOf_10 : decode cX8_rateOf 10 = .ok (.getfield 11, 3) := by decide +kernel
theorem dX8_rateOf_13 : decode cX8_rateOf 13 = .ok (.iconst 5, 1) := by decide +kernel
theorem dX8_rateOf_14 : decode cX8_rateOf 14 = .ok (.iload_n 1, 1) := by decide +kernel
theorem dX8_rateOf_15 : decode cX8_rateOf 15 = .ok (.iadd, 1) := by decide +kernel
theorem dX8_rateOf_16 : decode cX8_rateOf 16 = .ok (.iaload, 1) := by decide +kernel
theorem dX8_rateOf_17 : decode cX8_rateOf 17 = .ok (.goto 4, 3) := by decide +kernel
theorem dX8_rateOf_20 : decode cX8_rateOf 20 = .ok (.iconst (-1), 1) := by decide +kernel
theorem dX8_rateOf_21 : decode cX8_rateOf 21 = .ok (.ireturn, 1) := by decide +kernel
set_option maxRecDepth 20000 in
theorem ggX8_wearOf_X8_wayOf : GoodIn wsX8_wearOf wsX8_wayOf := goodIn_r _ [7, 8, 9, 10, 6, 11, 12, 13, 14, 15, 16, 17, 18, 19, 20, 21, 22, 23, 24, 25, 26, 27, 28, 29, 30, 31, 32, 33, 34, 35, 36, 37, 38, 39, 40, 41, 42, 43, 44, 45, 46, 47] (by decide +kernel) (by decide +kernel)
set_option maxRecDepth 20000 in
theorem gX8_wearOf_X8_wayOf : GoodIn wsX8_wearOf (wsV RX8 196 RX8 yX8_wayOf wsX8_wayOf) := goodIn_app (goodIn_of _ (by decide +kernel)) ggX8_wearOf_X8_wayOf
theorem dX8_wearOf_0 : decode cX8_wearOf 0 = .ok (.fconst 0, 1) := by decide +kernel
theorem dX8_wearOf_1 : decode cX8_wearOf 1 = .ok (.fstore_n 3, 1) := by decide +kernel
theorem dX8_wearOf_2 : decode cX8_wearOf 2 = .ok (.iconst 0, 1) := by decide +kernel
theorem dX8_wearOf_3 : decode cX8_wearOf 3 = .ok (.istore 4, 2) := by decide +kernel
theorem dX8_wearOf_5 : decode cX8_wearOf 5 = .ok (.iload 4, 2) := by decide +kernel
theorem dX8_wearOf_7 : decode cX8_wearOf 7 = .ok (.iload_n 2, 1) := by decide +kernel
theorem dX8_wearOf_8 : decode cX8_wearOf 8 = .ok (.if_icmp .gt 26, 3) := by decide +kernel
theorem dX8_wearOf_11 : decode cX8_wearOf 11 = .ok (.fload_n 3, 1) := by decide +kernel
theorem dX8_wearOf_12 : decode cX8_wearOf 12 = .ok (.ldc 239, 2) := by decide +kernel
theorem dX8_wearOf_14 : decode cX8_wearOf 14 = .ok (.fmul, 1) := by decide +kernel
theorem dX8_wearOf_15 : decode cX8_wearOf 15 = .ok (.aload_n 0, 1) := by decide +kernel
theorem dX8_wearOf_16 : decode cX8_wearOf 16 = .ok (.iload_n 1, 1) := by decide +kernel
theorem dX8_wearOf_17 : decode cX8_wearOf 17 = .ok (.iload 4, 2) := by decide +kernel
theorem dX8_wearOf_19 : decode cX8_wearOf 19 = .ok (.invokevirtual 196, 3) := by decide +kernel
theorem dX8_wearOf_22 : decode cX8_wearOf 22 = .ok (.i2f, 1) := by decide +kernel
theorem dX8_wearOf_23 : decode cX8_wearOf 23 = .ok (.ldc 240, 2) := by decide +kernel
theorem dX8_wearOf_25 : decode cX8_wearOf 25 = .ok (.fdiv, 1) := by decide +kernel
theorem dX8_wearOf_26 : decode cX8_wearOf 26 = .ok (.fadd, 1) := by decide +kernel
theorem dX8_wearOf_27 : decode cX8_wearOf 27 = .ok (.fstore_n 3, 1) := by decide +kernel
theorem dX8_wearOf_28 : decode cX8_wearOf 28 = .ok (.iinc 4 1, 3) := by decide +kernel
theorem dX8_wearOf_31 : decode cX8_wearOf 31 = .ok (.goto (-26), 3) := by decide +kernel
theorem dX8_wearOf_34 : decode cX8_wearOf 34 = .ok (.fload_n 3, 1) := by decide +kernel
theorem dX8_wearOf_35 : decode cX8_wearOf 35 = .ok (.freturn, 1) := by decide +kernel
set_option maxRecDepth 20000 in
theorem ggX8_wear_X8_isTeam : GoodIn wsX8_wear wsX8_isTeam := goodIn_r _ [6, 7, 8, 9, 5, 10, 65, 66, 67, 68, 69, 70, 71, 72, 73, 74, 75, 76, 77, 78, 79] (by decide +kernel) (by decide +kernel)
set_option maxRecDepth 20000 in
theorem gX8_wear_X8_isTeam : GoodIn wsX8_wear (wsV RX8 63 RX8 yX8_isTeam wsX8_isTeam) := goodIn_app (goodIn_of _ (by decide +kernel)) ggX8_wear_X8_isTeam
set_option maxRecDepth 20000 in
theorem ggX8_wear_X8_isRound : GoodIn wsX8_wear wsX8_isRound := goodIn_r _ [14, 15, 16, 17, 5, 18, 7, 8, 9, 10, 65, 66, 67, 68, 69, 70, 71, 72, 73, 74, 75, 76, 77, 78, 79] (by decide +kernel) (by decide +kernel)
set_option maxRecDepth 20000 in
theorem gX8_wear_X8_isRound : GoodIn wsX8_wear (wsV RX8 74 RX8 yX8_isRound wsX8_isRound) := goodIn_app (goodIn_of _ (by decide +kernel)) ggX8_wear_X8_isRound
set_option maxRecDepth 20000 in
theorem ggX8_wear_X8_wearOf : GoodIn wsX8_wear wsX8_wearOf := goodIn_r _ [22, 23, 24, 25, 26, 27, 5, 28, 29, 30, 31, 32, 33, 34, 35, 36, 37, 38, 39, 40, 7, 41, 42, 43, 44, 45, 46, 47, 48, 49, 50, 51, 52, 65, 66, 67, 68, 69, 70, 71, 72, 73, 74, 75, 76, 77, 78, 79] (by decide +kernel) (by decide +kernel)
set_option maxRecDepth 20000 in
theorem gX8_wear_X8_wearOf : GoodIn wsX8_wear (wsV RX8 217 RX8 yX8_wearOf wsX8_wearOf) := goodIn_app (goodIn_of _ (by decide +kernel)) ggX8_wear_X8_wearOf
set_option maxRecDepth 20000 in
theorem ggX8_wear_Jxf58ca_floatToIntBits_5c35a : GoodIn wsX8_wear wsJxf58ca_floatToIntBits_5c35a := goodIn_r _ [56, 57, 58, 59, 60, 61, 62, 63, 55, 64] (by decide +kernel) (by decide +kernel)
set_option maxRecDepth 20000 in
theorem gX8_wear_Jxf58ca_floatToIntBits_5c35a : GoodIn wsX8_wear (va_wsS RX8 241 yJxf58ca_floatToIntBits_5c35a wsJxf58ca_floatToIntBits_5c35a) := goodIn_app (goodIn_of _ (by decide +kernel)) ggX8_wear_Jxf58ca_floatToIntBits_5c35a
theorem dX8_wear_0 : decode cX8_wear 0 = .ok (.aload_n 0, 1) := by decide +kernel
theorem dX8_wear_1 : decode cX8_wear 1 = .ok (.iload_n 1, 1) := by decide +kernel
theorem dX8_wear_2 : decode cX8_wear 2 = .ok (.invokevirtual 63, 3) := by decide +kernel
theorem dX8_wear_5 : decode cX8_wear 5 = .ok (.ifCond .eq 24, 3) := by decide +kernel
theorem dX8_wear_8 : decode cX8_wear 8 = .ok (.aload_n 0, 1) := by decide +kernel
theorem dX8_wear_9 : decode cX8_wear 9 = .ok (.iload_n 2, 1) := by decide +kernel
theorem dX8_wear_10 : decode cX8_wear 10 = .ok (.invokevirtual 74, 3) := by decide +kernel
theorem dX8_wear_13 : decode cX8_wear 13 = .ok (.ifCond .eq 16, 3) := by decide +kernel
theorem dX8_wear_16 : decode cX8_wear 16 = .ok (.aload_n 0, 1) := by decide +kernel
theorem dX8_wear_17 : decode cX8_wear 17 = .ok (.iload_n 1, 1) := by decide +kernel
theorem dX8_wear_18 : decode cX8_wear 18 = .ok (.iload_n 2, 1) := by decide +kernel
theorem dX8_wear_19 : decode cX8_wear 19 = .ok (.invokevirtual 217, 3) := by decide +kernel
theorem dX8_wear_22 : decode cX8_wear 22 = .ok (.invokestatic 241, 3) := by decide +kernel
theorem dX8_wear_25 : decode cX8_wear 25 = .ok (.i2l, 1) := by decide +kernel
theorem dX8_wear_26 : decode cX8_wear 26 = .ok (.goto 6, 3) := by decide +kernel
theorem dX8_wear_29 : decode cX8_wear 29 = .ok (.ldc2_w 247, 3) := by decide +kernel
theorem dX8_wear_32 : decode cX8_wear 32 = .ok (.lreturn, 1) := by decide +kernel
theorem dX8_part_0 : decode cX8_part 0 = .ok (.aload_n 0, 1) := by decide +kernel
theorem dX8_part_1 : decode cX8_part 1 = .ok (.getfield 11, 3) := by decide +kernel
theorem dX8_part_4 : decode cX8_part 4 = .ok (.iconst 5, 1) := by decide +kernel
theorem dX8_part_5 : decode cX8_part 5 = .ok (.iload_n 1, 1) := by decide +kernel
theorem dX8_part_6 : decode cX8_part 6 = .ok (.iadd, 1) := by decide +kernel
theorem dX8_part_7 : decode cX8_part 7 = .ok (.iaload, 1) := by decide +kernel
theorem dX8_part_8 : decode cX8_part 8 = .ok (.i2f, 1) := by decide +kernel
theorem dX8_part_9 : decode cX8_part 9 = .ok (.ldc 249, 2) := by decide +kernel
theorem dX8_part_11 : decode cX8_part 11 = .ok (.fdiv, 1) := by decide +kernel
theorem dX8_part_12 : decode cX8_part 12 = .ok (.iload_n 2, 1) := by decide +kernel
theorem dX8_part_13 : decode cX8_part 13 = .ok (.i2f, 1) := by decide +kernel
theorem dX8_part_14 : decode cX8_part 14 = .ok (.fmul, 1) := by decide +kernel
theorem dX8_part_15 : decode cX8_part 15 = .ok (.freturn, 1) := by decide +kernel
set_option maxRecDepth 20000 in
theorem ggX8_costs_X8_allBreaks : GoodIn wsX8_costs wsX8_allBreaks := goodIn_r _ [5, 6, 7, 8, 9, 4, 10, 11, 12, 13, 14, 15, 16, 17, 18, 19, 20, 21, 22, 68, 69, 70, 71, 72, 73, 74, 75, 76, 77, 78, 79, 80, 81, 82] (by decide +kernel) (by decide +kernel)
set_option maxRecDepth 20000 in
theorem gX8_costs_X8_allBreaks : GoodIn wsX8_costs (wsV RX8 80 RX8 yX8_allBreaks wsX8_allBreaks) := goodIn_app (goodIn_of _ (by decide +kernel)) ggX8_costs_X8_allBreaks
set_option maxRecDepth 20000 in
theorem ggX8_costs_X8_part : GoodIn wsX8_costs wsX8_part := goodIn_r _ [26, 6, 27, 68, 69, 70, 71, 72, 73, 74, 75, 76, 77, 78, 79, 80, 81, 82] (by decide +kernel) (by decide +kernel)
set_option maxRecDepth 20000 in
theorem gX8_costs_X8_part : GoodIn wsX8_costs (wsV RX8 250 RX8 yX8_part wsX8_part) := goodIn_app (goodIn_of _ (by decide +kernel)) ggX8_costs_X8_part
set_option maxRecDepth 20000 in
theorem ggX8_costs_X8_violated : GoodIn wsX8_costs wsX8_violated := goodIn_r _ [31, 6, 11, 12, 13, 4, 14, 15, 16, 17, 18, 19, 20, 21, 22, 68, 69, 70, 71, 72, 73, 74, 75, 76, 77, 78, 79, 80, 81, 82] (by decide +kernel) (by decide +kernel)
set_option maxRecDepth 20000 in
theorem gX8_costs_X8_violated : GoodIn wsX8_costs (wsV RX8 221 RX8 yX8_violated wsX8_violated) := goodIn_app (goodIn_of _ (by decide +kernel)) ggX8_costs_X8_violated
set_option maxRecDepth 20000 in
theorem ggX8_costs_X8_carry : GoodIn wsX8_costs wsX8_carry := goodIn_r _ [35, 6, 36, 37, 38, 4, 39, 11, 12, 13, 14, 40, 41, 42, 43, 19, 20, 21, 22, 68, 69, 70, 71, 72, 73, 74, 75, 76, 77, 78, 79, 80, 81, 82] (by decide +kernel) (by decide +kernel)
set_option maxRecDepth 20000 in
theorem gX8_costs_X8_carry : GoodIn wsX8_costs (wsV RX8 224 RX8 yX8_carry wsX8_carry) := goodIn_app (goodIn_of _ (by decide +kernel)) ggX8_costs_X8_carry
set_option maxRecDepth 20000 in
theorem ggX8_costs_X8_allMiles : GoodIn wsX8_costs wsX8_allMiles := goodIn_r _ [47, 6, 48, 49, 50, 4, 51, 11, 12, 13, 14, 52, 53, 54, 55, 15, 16, 17, 18, 19, 20, 21, 22, 40, 41, 42, 43, 56, 57, 58, 59, 60, 61, 62, 63, 64, 65, 66, 67, 68, 69, 70, 71, 72, 73, 74, 75, 76, 77, 78, 79, 80, 81, 82] (by decide +kernel) (by decide +kernel)
set_option maxRecDepth 20000 in
theorem gX8_costs_X8_allMiles : GoodIn wsX8_costs (wsV RX8 227 RX8 yX8_allMiles wsX8_allMiles) := goodIn_app (goodIn_of _ (by decide +kernel)) ggX8_costs_X8_allMiles
theorem dX8_costs_0 : decode cX8_costs 0 = .ok (.aload_n 0, 1) := by decide +kernel
theorem dX8_costs_1 : decode cX8_costs 1 = .ok (.iconst 0, 1) := by decide +kernel
theorem dX8_costs_2 : decode cX8_costs 2 = .ok (.aload_n 0, 1) := by decide +kernel
theorem dX8_costs_3 : decode cX8_costs 3 = .ok (.invokevirtual 80, 3) := by decide +kernel
theorem dX8_costs_6 : decode cX8_costs 6 = .ok (.invokevirtual 250, 3) := by decide +kernel
theorem dX8_costs_9 : decode cX8_costs 9 = .ok (.fstore_n 1, 1) := by decide +kernel
theorem dX8_costs_10 : decode cX8_costs 10 = .ok (.fload_n 1, 1) := by decide +kernel
theorem dX8_costs_11 : decode cX8_costs 11 = .ok (.aload_n 0, 1) := by decide +kernel
theorem dX8_costs_12 : decode cX8_costs 12 = .ok (.iconst 1, 1) := by decide +kernel
theorem dX8_costs_13 : decode cX8_costs 13 = .ok (.aload_n 0, 1) := by decide +kernel
theorem dX8_costs_14 : decode cX8_costs 14 = .ok (.invokevirtual 221, 3) := by decide +kernel
theorem dX8_costs_17 : decode cX8_costs 17 = .ok (.invokevirtual 250, 3) := by decide +kernel
theorem dX8_costs_20 : decode cX8_costs 20 = .ok (.fadd, 1) := by decide +kernel
theorem dX8_costs_21 : decode cX8_costs 21 = .ok (.fstore_n 1, 1) := by decide +kernel
theorem dX8_costs_22 : decode cX8_costs 22 = .ok (.fload_n 1, 1) := by decide +kernel
theorem dX8_costs_23 : decode cX8_costs 23 = .ok (.aload_n 0, 1) := by decide +kernel
theorem dX8_costs_24 : decode cX8_costs 24 = .ok (.iconst 2, 1) := by decide +kernel
theorem dX8_costs_25 : decode cX8_costs 25 = .ok (.aload_n 0, 1) := by decide +kernel
theorem dX8_costs_26 : decode cX8_costs 26 = .ok (.invokevirtual 224, 3) := by decide +kernel
theorem dX8_costs_29 : decode cX8_costs 29 = .ok (.invokevirtual 250, 3) := by decide +kernel
theorem dX8_costs_32 : decode cX8_costs 32 = .ok (.fadd, 1) := by decide +kernel
theorem dX8_costs_33 : decode cX8_costs 33 = .ok (.fstore_n 1, 1) := by decide +kernel
theorem dX8_costs_34 : decode cX8_costs 34 = .ok (.fload_n 1, 1) := by decide +kernel
theorem dX8_costs_35 : decode cX8_costs 35 = .ok (.aload_n 0, 1) := by decide +kernel
theorem dX8_costs_36 : decode cX8_costs 36 = .ok (.iconst 3, 1) := by decide +kernel
theorem dX8_costs_37 : decode cX8_costs 37 = .ok (.aload_n 0, 1) := by decide +kernel
theorem dX8_costs_38 : decode cX8_costs 38 = .ok (.invokevirtual 227, 3) := by decide +kernel
theorem dX8_costs_41 : decode cX8_costs 41 = .ok (.invokevirtual 250, 3) := by decide +kernel
theorem dX8_costs_44 : decode cX8_costs 44 = .ok (.fadd, 1) := by decide +kernel
theorem dX8_costs_45 : decode cX8_costs 45 = .ok (.freturn, 1) := by decide +kernel
set_option maxRecDepth 20000 in
theorem ggX8_cost_X8_costs : GoodIn wsX8_cost wsX8_costs := goodIn_r _ [5, 6, 7, 8, 4, 9, 10, 11, 12, 13, 14, 15, 16, 17, 18, 19, 20, 21, 22, 23, 24, 25, 26, 27, 28, 29, 30, 31, 32, 33, 34, 35, 36, 37, 38, 39, 40, 41, 42, 43, 44, 45, 46, 47, 48, 49, 50, 51, 52, 53, 54, 55, 56, 57, 58, 59, 60, 61, 62, 63, 64, 65, 66, 67, 68, 69, 70, 71, 84, 85, 86, 87, 88, 89, 90, 91, 92, 93, 94, 95, 96, 97, 98] (by decide +kernel) (by decide +kernel)
set_option maxRecDepth 20000 in
theorem gX8_cost_X8_costs : GoodIn wsX8_cost (wsV RX8 253 RX8 yX8_costs wsX8_costs) := goodIn_app (goodIn_of _ (by decide +kernel)) ggX8_cost_X8_costs
set_option maxRecDepth 20000 in
theorem ggX8_cost_Jxf58ca_floatToIntBits_5c35a : GoodIn wsX8_cost wsJxf58ca_floatToIntBits_5c35a := goodIn_r _ [75, 76, 77, 78, 79, 80, 81, 82, 74, 83] (by decide +kernel) (by decide +kernel)
set_option maxRecDepth 20000 in
theorem gX8_cost_Jxf58ca_floatToIntBits_5c35a : GoodIn wsX8_cost (va_wsS RX8 241 yJxf58ca_floatToIntBits_5c35a wsJxf58ca_floatToIntBits_5c35a) := goodIn_app (goodIn_of _ (by decide +kernel)) ggX8_cost_Jxf58ca_floatToIntBits_5c35a
theorem dX8_cost_0 : decode cX8_cost 0 = .ok (.aload_n 0, 1) := by decide +kernel
theorem dX8_cost_1 : decode cX8_cost 1 = .ok (.invokevirtual 253, 3) := by decide +kernel
theorem dX8_cost_4 : decode cX8_cost 4 = .ok (.invokestatic 241, 3) := by decide +kernel
theorem dX8_cost_7 : decode cX8_cost 7 = .ok (.i2l, 1) := by decide +kernel
theorem dX8_cost_8 : decode cX8_cost 8 = .ok (.lreturn, 1) := by decide +kernel
set_option maxRecDepth 20000 in
theorem ggX8_would_X8_isRound : GoodIn wsX8_would wsX8_isRound := goodIn_r _ [6, 7, 8, 9, 5, 10, 11, 12, 13, 14, 108, 109, 110, 111, 112, 113, 114, 115, 116, 117, 118, 119, 120, 121, 122] (by decide +kernel) (by decide +kernel)
set_option maxRecDepth 20000 in
theorem gX8_would_X8_isRound : GoodIn wsX8_would (wsV RX8 74 RX8 yX8_isRound wsX8_isRound) := goodIn_app (goodIn_of _ (by decide +kernel)) ggX8_would_X8_isRound
set_option maxRecDepth 20000 in
theorem ggX8_would_X8_isGame : GoodIn wsX8_would wsX8_isGame := goodIn_r _ [18, 11, 12, 13, 5, 14, 108, 109, 110, 111, 112, 113, 114, 115, 116, 117, 118, 119, 120, 121, 122] (by decide +kernel) (by decide +kernel)
set_option maxRecDepth 20000 in
theorem gX8_would_X8_isGame : GoodIn wsX8_would (wsV RX8 83 RX8 yX8_isGame wsX8_isGame) := goodIn_app (goodIn_of _ (by decide +kernel)) ggX8_would_X8_isGame
set_option maxRecDepth 20000 in
theorem ggX8_would_X8_turns : GoodIn wsX8_would wsX8_turns := goodIn_r _ [22, 23, 24, 25, 5, 26, 27, 28, 29, 30, 11, 108, 109, 110, 111, 112, 113, 114, 115, 116, 117, 118, 119, 120, 121, 122] (by decide +kernel) (by decide +kernel)
set_option maxRecDepth 20000 in
theorem gX8_would_X8_turns : GoodIn wsX8_would (wsV RX8 86 RX8 yX8_turns wsX8_turns) := goodIn_app (goodIn_of _ (by decide +kernel)) ggX8_would_X8_turns
set_option maxRecDepth 20000 in
theorem ggX8_would_X8_costs : GoodIn wsX8_would wsX8_costs := goodIn_r _ [34, 35, 36, 37, 5, 38, 11, 39, 40, 41, 42, 7, 8, 9, 10, 43, 44, 45, 46, 47, 48, 49, 50, 51, 52, 53, 54, 55, 56, 57, 58, 59, 60, 61, 62, 63, 64, 65, 66, 67, 68, 69, 70, 71, 72, 73, 74, 75, 76, 77, 78, 79, 80, 81, 82, 83, 84, 85, 86, 87, 88, 89, 90, 91, 92, 93, 94, 95, 108, 109, 110, 111, 112, 113, 114, 115, 116, 117, 118, 119, 120, 121, 122] (by decide +kernel) (by decide +kernel)
set_option maxRecDepth 20000 in
theorem gX8_would_X8_costs : GoodIn wsX8_would (wsV RX8 253 RX8 yX8_costs wsX8_costs) := goodIn_app (goodIn_of _ (by decide +kernel)) ggX8_would_X8_costs
set_option maxRecDepth 20000 in
theorem ggX8_would_Jxf58ca_floatToIntBits_5c35a : GoodIn wsX8_would wsJxf58ca_floatToIntBits_5c35a := goodIn_r _ [99, 100, 101, 102, 103, 104, 105, 106, 98, 107] (by decide +kernel) (by decide +kernel)
set_option maxRecDepth 20000 in
theorem gX8_would_Jxf58ca_floatToIntBits_5c35a : GoodIn wsX8_would (va_wsS RX8 241 yJxf58ca_floatToIntBits_5c35a wsJxf58ca_floatToIntBits_5c35a) := goodIn_app (goodIn_of _ (by decide +kernel)) ggX8_would_Jxf58ca_floatToIntBits_5c35a
theorem dX8_would_0 : decode cX8_would 0 = .ok (.aload_n 0, 1) := by decide +kernel
theorem dX8_would_1 : decode cX8_would 1 = .ok (.iload_n 1, 1) := by decide +kernel
theorem dX8_would_2 : decode cX8_would 2 = .ok (.invokevirtual 74, 3) := by decide +kernel
theorem dX8_would_5 : decode cX8_would 5 = .ok (.ifCond .eq 11, 3) := by decide +kernel
theorem dX8_would_8 : decode cX8_would 8 = .ok (.aload_n 0, 1) := by decide +kernel
theorem dX8_would_9 : decode cX8_would 9 = .ok (.iload_n 2, 1) := by decide +kernel
theorem dX8_would_10 : decode cX8_would 10 = .ok (.invokevirtual 83, 3) := by decide +kernel
theorem dX8_would_13 : decode cX8_would 13 = .ok (.ifCond .ne 7, 3) := by decide +kernel
theorem dX8_would_16 : decode cX8_would 16 = .ok (.ldc2_w 247, 3) := by decide +kernel
theorem dX8_would_19 : decode cX8_would 19 = .ok (.lreturn, 1) := by decide +kernel
theorem dX8_would_20 : decode cX8_would 20 = .ok (.aload_n 0, 1) := by decide +kernel
theorem dX8_would_21 : decode cX8_would 21 = .ok (.iload_n 1, 1) := by decide +kernel
theorem dX8_would_22 : decode cX8_would 22 = .ok (.iload_n 2, 1) := by decide +kernel
theorem dX8_would_23 : decode cX8_would 23 = .ok (.invokevirtual 86, 3) := by decide +kernel
theorem dX8_would_26 : decode cX8_would 26 = .ok (.aload_n 0, 1) := by decide +kernel
theorem dX8_would_27 : decode cX8_would 27 = .ok (.invokevirtual 253, 3) := by decide +kernel
theorem dX8_would_30 : decode cX8_would 30 = .ok (.fstore_n 3, 1) := by decide +kernel
theorem dX8_would_31 : decode cX8_would 31 = .ok (.aload_n 0, 1) := by decide +kernel
theorem dX8_would_32 : decode cX8_would 32 = .ok (.iload_n 1, 1) := by decide +kernel
theorem dX8_would_33 : decode cX8_would 33 = .ok (.iload_n 2, 1) := by decide +kernel
theorem dX8_would_34 : decode cX8_would 34 = .ok (.invokevirtual 86, 3) := by decide +kernel
theorem dX8_would_37 : decode cX8_would 37 = .ok (.fload_n 3, 1) := by decide +kernel
theorem dX8_would_38 : decode cX8_would 38 = .ok (.invokestatic 241, 3) := by decide +kernel
theorem dX8_would_41 : decode cX8_would 41 = .ok (.i2l, 1) := by decide +kernel
theorem dX8_would_42 : decode cX8_would 42 = .ok (.lreturn, 1) := by decide +kernel
set_option maxRecDepth 20000 in
theorem ggX8_spread_X8_isIn : GoodIn wsX8_spread wsX8_isIn := goodIn_r _ [7] (by decide +kernel) (by decide +kernel)
set_option maxRecDepth 20000 in
theorem gX8_spread_X8_isIn : GoodIn wsX8_spread (va_wsS RX8 47 yX8_isIn wsX8_isIn) := goodIn_app (goodIn_of _ (by decide +kernel)) ggX8_spread_X8_isIn
set_option maxRecDepth 20000 in
theorem ggX8_spread_X8_rounds : GoodIn wsX8_spread wsX8_rounds := goodIn_r _ [11, 2, 58, 59, 60, 61, 62, 63, 64, 65, 66, 67, 68, 69, 70, 71, 72] (by decide +kernel) (by decide +kernel)
set_option maxRecDepth 20000 in
theorem gX8_spread_X8_rounds : GoodIn wsX8_spread (wsV RX8 51 RX8 yX8_rounds wsX8_rounds) := goodIn_app (goodIn_of _ (by decide +kernel)) ggX8_spread_X8_rounds
set_option maxRecDepth 20000 in
theorem ggX8_spread_X8_wearOf : GoodIn wsX8_spread wsX8_wearOf := goodIn_r _ [15, 16, 17, 18, 19, 20, 6, 21, 22, 23, 24, 25, 26, 27, 28, 29, 30, 31, 32, 33, 2, 34, 35, 36, 37, 38, 39, 40, 41, 42, 43, 44, 45, 58, 59, 60, 61, 62, 63, 64, 65, 66, 67, 68, 69, 70, 71, 72] (by decide +kernel) (by decide +kernel)
set_option maxRecDepth 20000 in
theorem gX8_spread_X8_wearOf : GoodIn wsX8_spread (wsV RX8 217 RX8 yX8_wearOf wsX8_wearOf) := goodIn_app (goodIn_of _ (by decide +kernel)) ggX8_spread_X8_wearOf
set_option maxRecDepth 20000 in
theorem ggX8_spread_Jxe99ae_doubleToLongBits_ccdee : GoodIn wsX8_spread wsJxe99ae_doubleToLongBits_ccdee := goodIn_r _ [49, 50, 51, 52, 53, 54, 55, 56, 48, 57] (by decide +kernel) (by decide +kernel)
set_option maxRecDepth 20000 in
theorem gX8_spread_Jxe99ae_doubleToLongBits_ccdee : GoodIn wsX8_spread (va_wsS RX8 257 yJxe99ae_doubleToLongBits_ccdee wsJxe99ae_doubleToLongBits_ccdee) := goodIn_app (goodIn_of _ (by decide +kernel)) ggX8_spread_Jxe99ae_doubleToLongBits_ccdee
theorem dX8_spread_0 : decode cX8_spread 0 = .ok (.iload_n 1, 1) := by decide +kernel
theorem dX8_spread_1 : decode cX8_spread 1 = .ok (.iconst 0, 1) := by decide +kernel
theorem dX8_spread_2 : decode cX8_spread 2 = .ok (.iconst 1, 1) := by decide +kernel
theorem dX8_spread_3 : decode cX8_spread 3 = .ok (.invokestatic 47, 3) := by decide +kernel
theorem dX8_spread_6 : decode cX8_spread 6 = .ok (.ifCond .ne 7, 3) := by decide +kernel
theorem dX8_spread_9 : decode cX8_spread 9 = .ok (.ldc2_w 247, 3) := by decide +kernel
theorem dX8_spread_12 : decode cX8_spread 12 = .ok (.lreturn, 1) := by decide +kernel
theorem dX8_spread_13 : decode cX8_spread 13 = .ok (.dconst 0, 1) := by decide +kernel
theorem dX8_spread_14 : decode cX8_spread 14 = .ok (.dstore_n 2, 1) := by decide +kernel
theorem dX8_spread_15 : decode cX8_spread 15 = .ok (.iconst 0, 1) := by decide +kernel
theorem dX8_spread_16 : decode cX8_spread 16 = .ok (.istore 4, 2) := by decide +kernel
theorem dX8_spread_18 : decode cX8_spread 18 = .ok (.iload 4, 2) := by decide +kernel
theorem dX8_spread_20 : decode cX8_spread 20 = .ok (.aload_n 0, 1) := by decide +kernel
theorem dX8_spread_21 : decode cX8_spread 21 = .ok (.getfield 11, 3) := by decide +kernel
theorem dX8_spread_24 : decode cX8_spread 24 = .ok (.iconst 0, 1) := by decide +kernel
theorem dX8_spread_25 : decode cX8_spread 25 = .ok (.iaload, 1) := by decide +kernel
theorem dX8_spread_26 : decode cX8_spread 26 = .ok (.if_icmp .ge 25, 3) := by decide +kernel
theorem dX8_spread_29 : decode cX8_spread 29 = .ok (.dload_n 2, 1) := by decide +kernel
theorem dX8_spread_30 : decode cX8_spread 30 = .ok (.aload_n 0, 1) := by decide +kernel
theorem dX8_spread_31 : decode cX8_spread 31 = .ok (.iload 4, 2) := by decide +kernel
theorem dX8_spread_33 : decode cX8_spread 33 = .ok (.aload_n 0, 1) := by decide +kernel
theorem dX8_spread_34 : decode cX8_spread 34 = .ok (.invokevirtual 51, 3) := by decide +kernel
theorem dX8_spread_37 : decode cX8_spread 37 = .ok (.iconst 1, 1) := by decide +kernel
theorem dX8_spread_38 : decode cX8_spread 38 = .ok (.isub, 1) := by decide +kernel
theorem dX8_spread_39 : decode cX8_spread 39 = .ok (.invokevirtual 217, 3) := by decide +kernel
theorem dX8_spread_42 : decode cX8_spread 42 = .ok (.f2d, 1) := by decide +kernel
theorem dX8_spread_43 : decode cX8_spread 43 = .ok (.dadd, 1) := by decide +kernel
theorem dX8_spread_44 : decode cX8_spread 44 = .ok (.dstore_n 2, 1) := by decide +kernel
theorem dX8_spread_45 : decode cX8_spread 45 = .ok (.iinc 4 1, 3) := by decide +kernel
theorem dX8_spread_48 : decode cX8_spread 48 = .ok (.goto (-30), 3) := by decide +kernel
theorem dX8_spread_51 : decode cX8_spread 51 = .ok (.dload_n 2, 1) := by decide +kernel
theorem dX8_spread_52 : decode cX8_spread 52 = .ok (.aload_n 0, 1) := by decide +kernel
theorem dX8_spread_53 : decode cX8_spread 53 = .ok (.getfield 11, 3) := by decide +kernel
theorem dX8_spread_56 : decode cX8_spread 56 = .ok (.iconst 0, 1) := by decide +kernel
theorem dX8_spread_57 : decode cX8_spread 57 = .ok (.iaload, 1) := by decide +kernel
theorem dX8_spread_58 : decode cX8_spread 58 = .ok (.i2d, 1) := by decide +kernel
theorem dX8_spread_59 : decode cX8_spread 59 = .ok (.ddiv, 1) := by decide +kernel
theorem dX8_spread_60 : decode cX8_spread 60 = .ok (.dstore_n 2, 1) := by decide +kernel
theorem dX8_spread_61 : decode cX8_spread 61 = .ok (.dconst 0, 1) := by decide +kernel
theorem dX8_spread_62 : decode cX8_spread 62 = .ok (.dstore 4, 2) := by decide +kernel
theorem dX8_spread_64 : decode cX8_spread 64 = .ok (.iconst 0, 1) := by decide +kernel
theorem dX8_spread_65 : decode cX8_spread 65 = .ok (.istore 6, 2) := by decide +kernel
theorem dX8_spread_67 : decode cX8_spread 67 = .ok (.iload 6, 2) := by decide +kernel
theorem dX8_spread_69 : decode cX8_spread 69 = .ok (.aload_n 0, 1) := by decide +kernel
theorem dX8_spread_70 : decode cX8_spread 70 = .ok (.getfield 11, 3) := by decide +kernel
theorem dX8_spread_73 : decode cX8_spread 73 = .ok (.iconst 0, 1) := by decide +kernel
theorem dX8_spread_74 : decode cX8_spread 74 = .ok (.iaload, 1) := by decide +kernel
theorem dX8_spread_75 : decode cX8_spread 75 = .ok (.if_icmp .ge 36, 3) := by decide +kernel
