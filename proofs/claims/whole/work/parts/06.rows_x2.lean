theorem dX7_see_12 : decode cX7_see 12 = .ok (.invokevirtual 238, 3) := by decide +kernel
theorem dX7_see_15 : decode cX7_see 15 = .ok (.iconst 0, 1) := by decide +kernel
theorem dX7_see_16 : decode cX7_see 16 = .ok (.ireturn, 1) := by decide +kernel
theorem dX7_see_17 : decode cX7_see 17 = .ok (.aload_n 0, 1) := by decide +kernel
theorem dX7_see_18 : decode cX7_see 18 = .ok (.getfield 12, 3) := by decide +kernel
theorem dX7_see_21 : decode cX7_see 21 = .ok (.getfield 38, 3) := by decide +kernel
theorem dX7_see_24 : decode cX7_see 24 = .ok (.iload_n 1, 1) := by decide +kernel
theorem dX7_see_25 : decode cX7_see 25 = .ok (.invokevirtual 52, 3) := by decide +kernel
theorem dX7_see_28 : decode cX7_see 28 = .ok (.ifCond .ne 5, 3) := by decide +kernel
theorem dX7_see_31 : decode cX7_see 31 = .ok (.iconst (-1), 1) := by decide +kernel
theorem dX7_see_32 : decode cX7_see 32 = .ok (.ireturn, 1) := by decide +kernel
theorem dX7_see_33 : decode cX7_see 33 = .ok (.iload_n 2, 1) := by decide +kernel
theorem dX7_see_34 : decode cX7_see 34 = .ok (.ifCond .lt 9, 3) := by decide +kernel
theorem dX7_see_37 : decode cX7_see 37 = .ok (.iload_n 2, 1) := by decide +kernel
theorem dX7_see_38 : decode cX7_see 38 = .ok (.bipush 10, 2) := by decide +kernel
theorem dX7_see_40 : decode cX7_see 40 = .ok (.if_icmp .lt 6, 3) := by decide +kernel
theorem dX7_see_43 : decode cX7_see 43 = .ok (.bipush (-2), 2) := by decide +kernel
theorem dX7_see_45 : decode cX7_see 45 = .ok (.ireturn, 1) := by decide +kernel
theorem dX7_see_46 : decode cX7_see 46 = .ok (.aload_n 0, 1) := by decide +kernel
theorem dX7_see_47 : decode cX7_see 47 = .ok (.getfield 12, 3) := by decide +kernel
theorem dX7_see_50 : decode cX7_see 50 = .ok (.getfield 235, 3) := by decide +kernel
theorem dX7_see_53 : decode cX7_see 53 = .ok (.invokevirtual 241, 3) := by decide +kernel
theorem dX7_see_56 : decode cX7_see 56 = .ok (.ifCond .eq 6, 3) := by decide +kernel
theorem dX7_see_59 : decode cX7_see 59 = .ok (.bipush (-4), 2) := by decide +kernel
theorem dX7_see_61 : decode cX7_see 61 = .ok (.ireturn, 1) := by decide +kernel
theorem dX7_see_62 : decode cX7_see 62 = .ok (.aload_n 0, 1) := by decide +kernel
theorem dX7_see_63 : decode cX7_see 63 = .ok (.getfield 12, 3) := by decide +kernel
theorem dX7_see_66 : decode cX7_see 66 = .ok (.getfield 235, 3) := by decide +kernel
theorem dX7_see_69 : decode cX7_see 69 = .ok (.iload_n 1, 1) := by decide +kernel
theorem dX7_see_70 : decode cX7_see 70 = .ok (.iload_n 2, 1) := by decide +kernel
theorem dX7_see_71 : decode cX7_see 71 = .ok (.iload_n 3, 1) := by decide +kernel
theorem dX7_see_72 : decode cX7_see 72 = .ok (.ifCond .eq 7, 3) := by decide +kernel
theorem dX7_see_75 : decode cX7_see 75 = .ok (.iconst 1, 1) := by decide +kernel
theorem dX7_see_76 : decode cX7_see 76 = .ok (.goto 4, 3) := by decide +kernel
theorem dX7_see_79 : decode cX7_see 79 = .ok (.iconst 0, 1) := by decide +kernel
theorem dX7_see_80 : decode cX7_see 80 = .ok (.iconst 0, 1) := by decide +kernel
theorem dX7_see_81 : decode cX7_see 81 = .ok (.invokevirtual 245, 3) := by decide +kernel
theorem dX7_see_84 : decode cX7_see 84 = .ok (.aload_n 0, 1) := by decide +kernel
theorem dX7_see_85 : decode cX7_see 85 = .ok (.getfield 12, 3) := by decide +kernel
theorem dX7_see_88 : decode cX7_see 88 = .ok (.getfield 235, 3) := by decide +kernel
theorem dX7_see_91 : decode cX7_see 91 = .ok (.getfield 119, 3) := by decide +kernel
theorem dX7_see_94 : decode cX7_see 94 = .ok (.ireturn, 1) := by decide +kernel
set_option maxRecDepth 20000 in
theorem ggX7_fits_X3_isSeenBy : GoodIn wsX7_fits wsX3_isSeenBy := goodIn_r _ [6, 7, 8, 9, 10, 11, 12, 13, 14, 15, 16, 17, 18, 19, 20, 21, 22, 23, 24, 25, 26, 27, 28, 29, 30, 31, 32, 33, 34, 35, 36, 37, 38, 39, 40, 41, 42, 43, 44, 45, 46, 53, 54, 55, 56, 57, 58, 59, 60, 61, 62, 63, 64, 65, 66, 67, 68, 69, 70, 71] (by decide +kernel) (by decide +kernel)
set_option maxRecDepth 20000 in
theorem gX7_fits_X3_isSeenBy : GoodIn wsX7_fits (wsV RX7 249 RX3 yX3_isSeenBy wsX3_isSeenBy) := goodIn_app (goodIn_of _ (by decide +kernel)) ggX7_fits_X3_isSeenBy
theorem dX7_fits_0 : decode cX7_fits 0 = .ok (.iconst 0, 1) := by decide +kernel
theorem dX7_fits_1 : decode cX7_fits 1 = .ok (.istore_n 1, 1) := by decide +kernel
theorem dX7_fits_2 : decode cX7_fits 2 = .ok (.iconst 0, 1) := by decide +kernel
theorem dX7_fits_3 : decode cX7_fits 3 = .ok (.istore_n 2, 1) := by decide +kernel
theorem dX7_fits_4 : decode cX7_fits 4 = .ok (.iload_n 2, 1) := by decide +kernel
theorem dX7_fits_5 : decode cX7_fits 5 = .ok (.iconst 3, 1) := by decide +kernel
theorem dX7_fits_6 : decode cX7_fits 6 = .ok (.if_icmp .ge 26, 3) := by decide +kernel
theorem dX7_fits_9 : decode cX7_fits 9 = .ok (.aload_n 0, 1) := by decide +kernel
theorem dX7_fits_10 : decode cX7_fits 10 = .ok (.getfield 12, 3) := by decide +kernel
theorem dX7_fits_13 : decode cX7_fits 13 = .ok (.iload_n 2, 1) := by decide +kernel
theorem dX7_fits_14 : decode cX7_fits 14 = .ok (.invokevirtual 249, 3) := by decide +kernel
theorem dX7_fits_17 : decode cX7_fits 17 = .ok (.ifCond .eq 9, 3) := by decide +kernel
theorem dX7_fits_20 : decode cX7_fits 20 = .ok (.iload_n 1, 1) := by decide +kernel
theorem dX7_fits_21 : decode cX7_fits 21 = .ok (.iconst 1, 1) := by decide +kernel
theorem dX7_fits_22 : decode cX7_fits 22 = .ok (.iload_n 2, 1) := by decide +kernel
theorem dX7_fits_23 : decode cX7_fits 23 = .ok (.ishl, 1) := by decide +kernel
theorem dX7_fits_24 : decode cX7_fits 24 = .ok (.ior, 1) := by decide +kernel
theorem dX7_fits_25 : decode cX7_fits 25 = .ok (.istore_n 1, 1) := by decide +kernel
theorem dX7_fits_26 : decode cX7_fits 26 = .ok (.iinc 2 1, 3) := by decide +kernel
theorem dX7_fits_29 : decode cX7_fits 29 = .ok (.goto (-25), 3) := by decide +kernel
theorem dX7_fits_32 : decode cX7_fits 32 = .ok (.iload_n 1, 1) := by decide +kernel
theorem dX7_fits_33 : decode cX7_fits 33 = .ok (.ireturn, 1) := by decide +kernel
set_option maxRecDepth 20000 in
theorem ggX7_odds_X1_hasTeam : GoodIn wsX7_odds wsX1_hasTeam := goodIn_r _ [9, 10, 61, 62, 63, 64, 65, 66, 67] (by decide +kernel) (by decide +kernel)
set_option maxRecDepth 20000 in
theorem gX7_odds_X1_hasTeam : GoodIn wsX7_odds (wsV RX7 52 RX1 yX1_hasTeam wsX1_hasTeam) := goodIn_app (goodIn_of _ (by decide +kernel)) ggX7_odds_X1_hasTeam
set_option maxRecDepth 20000 in
theorem ggX7_odds_X7_isPart : GoodIn wsX7_odds wsX7_isPart := goodIn_r _ [14] (by decide +kernel) (by decide +kernel)
set_option maxRecDepth 20000 in
theorem gX7_odds_X7_isPart : GoodIn wsX7_odds (va_wsS RX7 222 yX7_isPart wsX7_isPart) := goodIn_app (goodIn_of _ (by decide +kernel)) ggX7_odds_X7_isPart
set_option maxRecDepth 20000 in
theorem ggX7_odds_X1_seasonLength : GoodIn wsX7_odds wsX1_seasonLength := goodIn_r _ [18, 10, 61, 62, 63, 64, 65, 66, 67] (by decide +kernel) (by decide +kernel)
set_option maxRecDepth 20000 in
theorem gX7_odds_X1_seasonLength : GoodIn wsX7_odds (wsV RX7 252 RX1 yX1_seasonLength wsX1_seasonLength) := goodIn_app (goodIn_of _ (by decide +kernel)) ggX7_odds_X1_seasonLength
set_option maxRecDepth 20000 in
theorem ggX7_odds_X1_seasonBreaks : GoodIn wsX7_odds wsX1_seasonBreaks := goodIn_r _ [22, 23, 16, 17, 8, 18, 10, 24, 25, 26, 27, 28, 29, 30, 31, 32, 33, 34, 35, 36, 37, 38, 39, 40, 41, 13, 42, 61, 62, 63, 64, 65, 66, 67] (by decide +kernel) (by decide +kernel)
set_option maxRecDepth 20000 in
theorem gX7_odds_X1_seasonBreaks : GoodIn wsX7_odds (wsV RX7 174 RX1 yX1_seasonBreaks wsX1_seasonBreaks) := goodIn_app (goodIn_of _ (by decide +kernel)) ggX7_odds_X1_seasonBreaks
set_option maxRecDepth 20000 in
theorem ggX7_odds_X7_lowest : GoodIn wsX7_odds wsX7_lowest := goodIn_r _ [45] (by decide +kernel) (by decide +kernel)
set_option maxRecDepth 20000 in
theorem gX7_odds_X7_lowest : GoodIn wsX7_odds (va_wsS RX7 255 yX7_lowest wsX7_lowest) := goodIn_app (goodIn_of _ (by decide +kernel)) ggX7_odds_X7_lowest
theorem dX7_odds_0 : decode cX7_odds 0 = .ok (.aload_n 0, 1) := by decide +kernel
theorem dX7_odds_1 : decode cX7_odds 1 = .ok (.getfield 12, 3) := by decide +kernel
theorem dX7_odds_4 : decode cX7_odds 4 = .ok (.getfield 38, 3) := by decide +kernel
theorem dX7_odds_7 : decode cX7_odds 7 = .ok (.iload_n 1, 1) := by decide +kernel
theorem dX7_odds_8 : decode cX7_odds 8 = .ok (.invokevirtual 52, 3) := by decide +kernel
theorem dX7_odds_11 : decode cX7_odds 11 = .ok (.ifCond .eq 10, 3) := by decide +kernel
theorem dX7_odds_14 : decode cX7_odds 14 = .ok (.iload_n 2, 1) := by decide +kernel
theorem dX7_odds_15 : decode cX7_odds 15 = .ok (.invokestatic 222, 3) := by decide +kernel
theorem dX7_odds_18 : decode cX7_odds 18 = .ok (.ifCond .ne 7, 3) := by decide +kernel
theorem dX7_odds_21 : decode cX7_odds 21 = .ok (.ldc2_w 204, 3) := by decide +kernel
theorem dX7_odds_24 : decode cX7_odds 24 = .ok (.lreturn, 1) := by decide +kernel
theorem dX7_odds_25 : decode cX7_odds 25 = .ok (.aload_n 0, 1) := by decide +kernel
theorem dX7_odds_26 : decode cX7_odds 26 = .ok (.getfield 12, 3) := by decide +kernel
theorem dX7_odds_29 : decode cX7_odds 29 = .ok (.getfield 38, 3) := by decide +kernel
theorem dX7_odds_32 : decode cX7_odds 32 = .ok (.invokevirtual 252, 3) := by decide +kernel
theorem dX7_odds_35 : decode cX7_odds 35 = .ok (.iconst 1, 1) := by decide +kernel
theorem dX7_odds_36 : decode cX7_odds 36 = .ok (.isub, 1) := by decide +kernel
theorem dX7_odds_37 : decode cX7_odds 37 = .ok (.istore_n 3, 1) := by decide +kernel
theorem dX7_odds_38 : decode cX7_odds 38 = .ok (.aload_n 0, 1) := by decide +kernel
theorem dX7_odds_39 : decode cX7_odds 39 = .ok (.getfield 12, 3) := by decide +kernel
theorem dX7_odds_42 : decode cX7_odds 42 = .ok (.getfield 38, 3) := by decide +kernel
theorem dX7_odds_45 : decode cX7_odds 45 = .ok (.iload_n 1, 1) := by decide +kernel
theorem dX7_odds_46 : decode cX7_odds 46 = .ok (.aload_n 0, 1) := by decide +kernel
theorem dX7_odds_47 : decode cX7_odds 47 = .ok (.getfield 12, 3) := by decide +kernel
theorem dX7_odds_50 : decode cX7_odds 50 = .ok (.getfield 102, 3) := by decide +kernel
theorem dX7_odds_53 : decode cX7_odds 53 = .ok (.invokevirtual 174, 3) := by decide +kernel
theorem dX7_odds_56 : decode cX7_odds 56 = .ok (.iload_n 3, 1) := by decide +kernel
theorem dX7_odds_57 : decode cX7_odds 57 = .ok (.iload_n 2, 1) := by decide +kernel
theorem dX7_odds_58 : decode cX7_odds 58 = .ok (.invokestatic 255, 3) := by decide +kernel
theorem dX7_odds_61 : decode cX7_odds 61 = .ok (.lreturn, 1) := by decide +kernel
set_option maxRecDepth 20000 in
theorem ggX7_mean_X7_isPart : GoodIn wsX7_mean wsX7_isPart := goodIn_r _ [8] (by decide +kernel) (by decide +kernel)
set_option maxRecDepth 20000 in
theorem gX7_mean_X7_isPart : GoodIn wsX7_mean (va_wsS RX7 222 yX7_isPart wsX7_isPart) := goodIn_app (goodIn_of _ (by decide +kernel)) ggX7_mean_X7_isPart
set_option maxRecDepth 20000 in
theorem ggX7_mean_X1_allBreaks : GoodIn wsX7_mean wsX1_allBreaks := goodIn_r _ [13, 14, 15, 16, 17, 12, 18, 19, 20, 21, 22, 23, 24, 25, 26, 27, 28, 7, 29, 48, 49, 50, 51, 52, 53, 54] (by decide +kernel) (by decide +kernel)
set_option maxRecDepth 20000 in
theorem gX7_mean_X1_allBreaks : GoodIn wsX7_mean (wsV RX7 74 RX1 yX1_allBreaks wsX1_allBreaks) := goodIn_app (goodIn_of _ (by decide +kernel)) ggX7_mean_X1_allBreaks
set_option maxRecDepth 20000 in
theorem ggX7_mean_X7_lowest : GoodIn wsX7_mean wsX7_lowest := goodIn_r _ [32] (by decide +kernel) (by decide +kernel)
set_option maxRecDepth 20000 in
theorem gX7_mean_X7_lowest : GoodIn wsX7_mean (va_wsS RX7 255 yX7_lowest wsX7_lowest) := goodIn_app (goodIn_of _ (by decide +kernel)) ggX7_mean_X7_lowest
theorem dX7_mean_0 : decode cX7_mean 0 = .ok (.iload_n 1, 1) := by decide +kernel
theorem dX7_mean_1 : decode cX7_mean 1 = .ok (.invokestatic 222, 3) := by decide +kernel
theorem dX7_mean_4 : decode cX7_mean 4 = .ok (.ifCond .ne 7, 3) := by decide +kernel
theorem dX7_mean_7 : decode cX7_mean 7 = .ok (.ldc2_w 204, 3) := by decide +kernel
theorem dX7_mean_10 : decode cX7_mean 10 = .ok (.lreturn, 1) := by decide +kernel
theorem dX7_mean_11 : decode cX7_mean 11 = .ok (.aload_n 0, 1) := by decide +kernel
theorem dX7_mean_12 : decode cX7_mean 12 = .ok (.getfield 12, 3) := by decide +kernel
theorem dX7_mean_15 : decode cX7_mean 15 = .ok (.getfield 38, 3) := by decide +kernel
theorem dX7_mean_18 : decode cX7_mean 18 = .ok (.invokevirtual 74, 3) := by decide +kernel
theorem dX7_mean_21 : decode cX7_mean 21 = .ok (.aload_n 0, 1) := by decide +kernel
theorem dX7_mean_22 : decode cX7_mean 22 = .ok (.getfield 12, 3) := by decide +kernel
theorem dX7_mean_25 : decode cX7_mean 25 = .ok (.getfield 38, 3) := by decide +kernel
theorem dX7_mean_28 : decode cX7_mean 28 = .ok (.getfield 42, 3) := by decide +kernel
theorem dX7_mean_31 : decode cX7_mean 31 = .ok (.iload_n 1, 1) := by decide +kernel
theorem dX7_mean_32 : decode cX7_mean 32 = .ok (.invokestatic 255, 3) := by decide +kernel
theorem dX7_mean_35 : decode cX7_mean 35 = .ok (.lreturn, 1) := by decide +kernel
set_option maxRecDepth 20000 in
theorem ggX7_event_X2_empty : GoodIn wsX7_event wsX2_empty := goodIn_r _ [8, 9, 61, 62, 63] (by decide +kernel) (by decide +kernel)
set_option maxRecDepth 20000 in
theorem gX7_event_X2_empty : GoodIn wsX7_event (wsV RX7 238 RX2 yX2_empty wsX2_empty) := goodIn_app (goodIn_of _ (by decide +kernel)) ggX7_event_X2_empty
set_option maxRecDepth 20000 in
theorem ggX7_event_X3_mayChange : GoodIn wsX7_event wsX3_mayChange := goodIn_r _ [14, 15, 16, 17, 18, 19, 20, 21, 22, 23, 24, 25, 26, 27, 28, 29, 30, 31, 32, 33, 34, 52, 53, 54, 55, 56, 57, 58, 59, 60, 64, 65, 66, 67, 68, 69, 70] (by decide +kernel) (by decide +kernel)
set_option maxRecDepth 20000 in
theorem gX7_event_X3_mayChange : GoodIn wsX7_event (wsV RX7 66 RX3 yX3_mayChange wsX3_mayChange) := goodIn_app (goodIn_of _ (by decide +kernel)) ggX7_event_X3_mayChange
set_option maxRecDepth 20000 in
theorem ggX7_event_X2_isFull : GoodIn wsX7_event wsX2_isFull := goodIn_r _ [38, 9, 39, 61, 62, 63] (by decide +kernel) (by decide +kernel)
set_option maxRecDepth 20000 in
theorem gX7_event_X2_isFull : GoodIn wsX7_event (wsV RX7 241 RX2 yX2_isFull wsX2_isFull) := goodIn_app (goodIn_of _ (by decide +kernel)) ggX7_event_X2_isFull
set_option maxRecDepth 20000 in
theorem ggX7_event_X2_add : GoodIn wsX7_event wsX2_add := goodIn_r _ [43, 9, 44, 45, 36, 37, 7, 38, 39, 61, 62, 63] (by decide +kernel) (by decide +kernel)
set_option maxRecDepth 20000 in
theorem gX7_event_X2_add : GoodIn wsX7_event (wsV RX7 245 RX2 yX2_add wsX2_add) := goodIn_app (goodIn_of _ (by decide +kernel)) ggX7_event_X2_add
theorem dX7_event_0 : decode cX7_event 0 = .ok (.iload_n 1, 1) := by decide +kernel
theorem dX7_event_1 : decode cX7_event 1 = .ok (.iconst (-1), 1) := by decide +kernel
theorem dX7_event_2 : decode cX7_event 2 = .ok (.if_icmp .ne 15, 3) := by decide +kernel
theorem dX7_event_5 : decode cX7_event 5 = .ok (.aload_n 0, 1) := by decide +kernel
theorem dX7_event_6 : decode cX7_event 6 = .ok (.getfield 12, 3) := by decide +kernel
theorem dX7_event_9 : decode cX7_event 9 = .ok (.getfield 259, 3) := by decide +kernel
theorem dX7_event_12 : decode cX7_event 12 = .ok (.invokevirtual 238, 3) := by decide +kernel
theorem dX7_event_15 : decode cX7_event 15 = .ok (.iconst 0, 1) := by decide +kernel
theorem dX7_event_16 : decode cX7_event 16 = .ok (.ireturn, 1) := by decide +kernel
theorem dX7_event_17 : decode cX7_event 17 = .ok (.iload_n 2, 1) := by decide +kernel
theorem dX7_event_18 : decode cX7_event 18 = .ok (.ifCond .lt 22, 3) := by decide +kernel
theorem dX7_event_21 : decode cX7_event 21 = .ok (.aload_n 0, 1) := by decide +kernel
theorem dX7_event_22 : decode cX7_event 22 = .ok (.getfield 12, 3) := by decide +kernel
theorem dX7_event_25 : decode cX7_event 25 = .ok (.iload_n 1, 1) := by decide +kernel
theorem dX7_event_26 : decode cX7_event 26 = .ok (.iload_n 2, 1) := by decide +kernel
theorem dX7_event_27 : decode cX7_event 27 = .ok (.bipush 10, 2) := by decide +kernel
theorem dX7_event_29 : decode cX7_event 29 = .ok (.idiv, 1) := by decide +kernel
theorem dX7_event_30 : decode cX7_event 30 = .ok (.iload_n 2, 1) := by decide +kernel
theorem dX7_event_31 : decode cX7_event 31 = .ok (.bipush 10, 2) := by decide +kernel
theorem dX7_event_33 : decode cX7_event 33 = .ok (.irem, 1) := by decide +kernel
theorem dX7_event_34 : decode cX7_event 34 = .ok (.invokevirtual 66, 3) := by decide +kernel
theorem dX7_event_37 : decode cX7_event 37 = .ok (.ifCond .ne 5, 3) := by decide +kernel
theorem dX7_event_40 : decode cX7_event 40 = .ok (.iconst (-1), 1) := by decide +kernel
theorem dX7_event_41 : decode cX7_event 41 = .ok (.ireturn, 1) := by decide +kernel
theorem dX7_event_42 : decode cX7_event 42 = .ok (.aload_n 0, 1) := by decide +kernel
theorem dX7_event_43 : decode cX7_event 43 = .ok (.getfield 12, 3) := by decide +kernel
theorem dX7_event_46 : decode cX7_event 46 = .ok (.getfield 259, 3) := by decide +kernel
theorem dX7_event_49 : decode cX7_event 49 = .ok (.invokevirtual 241, 3) := by decide +kernel
theorem dX7_event_52 : decode cX7_event 52 = .ok (.ifCond .eq 6, 3) := by decide +kernel
theorem dX7_event_55 : decode cX7_event 55 = .ok (.bipush (-4), 2) := by decide +kernel
theorem dX7_event_57 : decode cX7_event 57 = .ok (.ireturn, 1) := by decide +kernel
theorem dX7_event_58 : decode cX7_event 58 = .ok (.aload_n 0, 1) := by decide +kernel
theorem dX7_event_59 : decode cX7_event 59 = .ok (.getfield 12, 3) := by decide +kernel
theorem dX7_event_62 : decode cX7_event 62 = .ok (.getfield 259, 3) := by decide +kernel
theorem dX7_event_65 : decode cX7_event 65 = .ok (.iload_n 1, 1) := by decide +kernel
theorem dX7_event_66 : decode cX7_event 66 = .ok (.iload_n 2, 1) := by decide +kernel
theorem dX7_event_67 : decode cX7_event 67 = .ok (.bipush 10, 2) := by decide +kernel
theorem dX7_event_69 : decode cX7_event 69 = .ok (.idiv, 1) := by decide +kernel
theorem dX7_event_70 : decode cX7_event 70 = .ok (.iload_n 2, 1) := by decide +kernel
theorem dX7_event_71 : decode cX7_event 71 = .ok (.bipush 10, 2) := by decide +kernel
theorem dX7_event_73 : decode cX7_event 73 = .ok (.irem, 1) := by decide +kernel
theorem dX7_event_74 : decode cX7_event 74 = .ok (.iconst 0, 1) := by decide +kernel
theorem dX7_event_75 : decode cX7_event 75 = .ok (.invokevirtual 245, 3) := by decide +kernel
theorem dX7_event_78 : decode cX7_event 78 = .ok (.aload_n 0, 1) := by decide +kernel
theorem dX7_event_79 : decode cX7_event 79 = .ok (.getfield 12, 3) := by decide +kernel
theorem dX7_event_82 : decode cX7_event 82 = .ok (.getfield 259, 3) := by decide +kernel
theorem dX7_event_85 : decode cX7_event 85 = .ok (.getfield 119, 3) := by decide +kernel
theorem dX7_event_88 : decode cX7_event 88 = .ok (.ireturn, 1) := by decide +kernel
set_option maxRecDepth 20000 in
theorem ggX7_after_X3_become : GoodIn wsX7_after wsX3_become := goodIn_r _ [11, 12, 13, 14, 15, 16, 17, 18, 19, 20, 21, 22, 23, 24, 25, 26, 27, 28, 29, 30, 31, 32, 33, 34, 35, 36, 37, 38, 39, 40, 41, 42, 43, 44, 45, 46, 47, 48, 49, 190, 191, 192, 193, 194, 195, 196, 197, 198, 202, 203, 204, 205, 206, 207, 208, 199, 200, 201] (by decide +kernel) (by decide +kernel)
set_option maxRecDepth 20000 in
theorem gX7_after_X3_become : GoodIn wsX7_after (wsV RX7 262 RX3 yX3_become wsX3_become) := goodIn_app (goodIn_of _ (by decide +kernel)) ggX7_after_X3_become
set_option maxRecDepth 20000 in
theorem ggX7_after_X2_at : GoodIn wsX7_after wsX2_at := goodIn_r _ [53, 42, 48, 199, 200, 201] (by decide +kernel) (by decide +kernel)
set_option maxRecDepth 20000 in
theorem gX7_after_X2_at : GoodIn wsX7_after (wsV RX7 266 RX2 yX2_at wsX2_at) := goodIn_app (goodIn_of _ (by decide +kernel)) ggX7_after_X2_at
set_option maxRecDepth 20000 in
theorem ggX7_after_X3_change : GoodIn wsX7_after wsX3_change := goodIn_r _ [57, 12, 20, 58, 59, 60, 28, 61, 30, 62, 63, 64, 65, 31, 66, 67, 68, 69, 70, 71, 72, 73, 33, 74, 75, 76, 77, 34, 35, 36, 78, 79, 80, 81, 82, 83, 84, 85, 86, 87, 88, 89, 90, 91, 92, 93, 94, 95, 96, 97, 190, 191, 192, 193, 194, 195, 196, 197, 198, 202, 203, 204, 205, 206, 207, 208] (by decide +kernel) (by decide +kernel)
set_option maxRecDepth 20000 in
theorem gX7_after_X3_change : GoodIn wsX7_after (wsV RX7 70 RX3 yX3_change wsX3_change) := goodIn_app (goodIn_of _ (by decide +kernel)) ggX7_after_X3_change
set_option maxRecDepth 20000 in
theorem ggX7_after_X1_allBreaks : GoodIn wsX7_after wsX1_allBreaks := goodIn_r _ [101, 30, 102, 103, 104, 28, 105, 106, 107, 108, 109, 35, 110, 111, 112, 113, 82, 83, 84, 202, 203, 204, 205, 206, 207, 208] (by decide +kernel) (by decide +kernel)
set_option maxRecDepth 20000 in
theorem gX7_after_X1_allBreaks : GoodIn wsX7_after (wsV RX7 74 RX1 yX1_allBreaks wsX1_allBreaks) := goodIn_app (goodIn_of _ (by decide +kernel)) ggX7_after_X1_allBreaks
set_option maxRecDepth 20000 in
theorem ggX7_after_X3_violations : GoodIn wsX7_after wsX3_violations := goodIn_r _ [117, 12, 118, 119, 63, 64, 28, 65, 31, 66, 67, 68, 69, 30, 120, 121, 122, 10, 123, 19, 124, 111, 112, 113, 82, 83, 84, 190, 191, 192, 193, 194, 195, 196, 197, 198, 202, 203, 204, 205, 206, 207, 208] (by decide +kernel) (by decide +kernel)
set_option maxRecDepth 20000 in
theorem gX7_after_X3_violations : GoodIn wsX7_after (wsV RX7 186 RX3 yX3_violations wsX3_violations) := goodIn_app (goodIn_of _ (by decide +kernel)) ggX7_after_X3_violations
set_option maxRecDepth 20000 in
theorem ggX7_after_X3_fullCost : GoodIn wsX7_after wsX3_fullCost := goodIn_r _ [128, 12, 129, 99, 100, 28, 101, 30, 102, 103, 104, 105, 106, 107, 108, 109, 35, 110, 111, 112, 113, 82, 83, 84, 130, 131, 132, 10, 133, 20, 134, 96, 97, 135, 115, 116, 117, 118, 119, 63, 64, 65, 31, 66, 67, 68, 69, 120, 121, 122, 123, 19, 124, 136, 137, 138, 139, 140, 141, 142, 143, 144, 145, 146, 147, 148, 149, 150, 151, 152, 34, 153, 154, 155, 156, 157, 158, 159, 160, 161, 162, 163, 164, 165, 166, 167, 168, 169, 170, 171, 172, 13, 173, 174, 46, 175, 18, 176, 190, 191, 192, 193, 194, 195, 196, 197, 198, 202, 203, 204, 205, 206, 207, 208] (by decide +kernel) (by decide +kernel)
set_option maxRecDepth 20000 in
theorem gX7_after_X3_fullCost : GoodIn wsX7_after (wsV RX7 214 RX3 yX3_fullCost wsX3_fullCost) := goodIn_app (goodIn_of _ (by decide +kernel)) ggX7_after_X3_fullCost
set_option maxRecDepth 20000 in
theorem ggX7_after_X7_bitsOfFloat : GoodIn wsX7_after wsX7_bitsOfFloat := goodIn_r _ [179, 180, 181, 83, 182, 183] (by decide +kernel) (by decide +kernel)
set_option maxRecDepth 20000 in
theorem gX7_after_X7_bitsOfFloat : GoodIn wsX7_after (va_wsS RX7 210 yX7_bitsOfFloat wsX7_bitsOfFloat) := goodIn_app (goodIn_of _ (by decide +kernel)) ggX7_after_X7_bitsOfFloat
theorem dX7_after_0 : decode cX7_after 0 = .ok (.iload_n 1, 1) := by decide +kernel
theorem dX7_after_1 : decode cX7_after 1 = .ok (.ifCond .lt 8, 3) := by decide +kernel
theorem dX7_after_4 : decode cX7_after 4 = .ok (.iload_n 1, 1) := by decide +kernel
theorem dX7_after_5 : decode cX7_after 5 = .ok (.iconst 2, 1) := by decide +kernel
theorem dX7_after_6 : decode cX7_after 6 = .ok (.if_icmp .le 7, 3) := by decide +kernel
theorem dX7_after_9 : decode cX7_after 9 = .ok (.ldc2_w 204, 3) := by decide +kernel
theorem dX7_after_12 : decode cX7_after 12 = .ok (.lreturn, 1) := by decide +kernel
theorem dX7_after_13 : decode cX7_after 13 = .ok (.aload_n 0, 1) := by decide +kernel
theorem dX7_after_14 : decode cX7_after 14 = .ok (.getfield 21, 3) := by decide +kernel
theorem dX7_after_17 : decode cX7_after 17 = .ok (.aload_n 0, 1) := by decide +kernel
theorem dX7_after_18 : decode cX7_after 18 = .ok (.getfield 12, 3) := by decide +kernel
theorem dX7_after_21 : decode cX7_after 21 = .ok (.invokevirtual 262, 3) := by decide +kernel
theorem dX7_after_24 : decode cX7_after 24 = .ok (.aload_n 0, 1) := by decide +kernel
theorem dX7_after_25 : decode cX7_after 25 = .ok (.getfield 21, 3) := by decide +kernel
theorem dX7_after_28 : decode cX7_after 28 = .ok (.getfield 259, 3) := by decide +kernel
theorem dX7_after_31 : decode cX7_after 31 = .ok (.astore_n 2, 1) := by decide +kernel
theorem dX7_after_32 : decode cX7_after 32 = .ok (.iconst 0, 1) := by decide +kernel
theorem dX7_after_33 : decode cX7_after 33 = .ok (.istore_n 3, 1) := by decide +kernel
theorem dX7_after_34 : decode cX7_after 34 = .ok (.iload_n 3, 1) := by decide +kernel
theorem dX7_after_35 : decode cX7_after 35 = .ok (.aload_n 2, 1) := by decide +kernel
theorem dX7_after_36 : decode cX7_after 36 = .ok (.getfield 119, 3) := by decide +kernel
theorem dX7_after_39 : decode cX7_after 39 = .ok (.if_icmp .ge 34, 3) := by decide +kernel
theorem dX7_after_42 : decode cX7_after 42 = .ok (.aload_n 0, 1) := by decide +kernel
theorem dX7_after_43 : decode cX7_after 43 = .ok (.getfield 21, 3) := by decide +kernel
theorem dX7_after_46 : decode cX7_after 46 = .ok (.aload_n 2, 1) := by decide +kernel
theorem dX7_after_47 : decode cX7_after 47 = .ok (.iload_n 3, 1) := by decide +kernel
theorem dX7_after_48 : decode cX7_after 48 = .ok (.iconst 0, 1) := by decide +kernel
theorem dX7_after_49 : decode cX7_after 49 = .ok (.invokevirtual 266, 3) := by decide +kernel
theorem dX7_after_52 : decode cX7_after 52 = .ok (.aload_n 2, 1) := by decide +kernel
theorem dX7_after_53 : decode cX7_after 53 = .ok (.iload_n 3, 1) := by decide +kernel
theorem dX7_after_54 : decode cX7_after 54 = .ok (.iconst 1, 1) := by decide +kernel
theorem dX7_after_55 : decode cX7_after 55 = .ok (.invokevirtual 266, 3) := by decide +kernel
theorem dX7_after_58 : decode cX7_after 58 = .ok (.aload_n 2, 1) := by decide +kernel
theorem dX7_after_59 : decode cX7_after 59 = .ok (.iload_n 3, 1) := by decide +kernel
theorem dX7_after_60 : decode cX7_after 60 = .ok (.iconst 2, 1) := by decide +kernel
theorem dX7_after_61 : decode cX7_after 61 = .ok (.invokevirtual 266, 3) := by decide +kernel
theorem dX7_after_64 : decode cX7_after 64 = .ok (.invokevirtual 70, 3) := by decide +kernel
theorem dX7_after_67 : decode cX7_after 67 = .ok (.iinc 3 1, 3) := by decide +kernel
theorem dX7_after_70 : decode cX7_after 70 = .ok (.goto (-36), 3) := by decide +kernel
theorem dX7_after_73 : decode cX7_after 73 = .ok (.iload_n 1, 1) := by decide +kernel
theorem dX7_after_74 : decode cX7_after 74 = .ok (.lookupswitch 47 #[(0, 26), (1, 38)], 26) := by decide +kernel
theorem dX7_after_100 : decode cX7_after 100 = .ok (.aload_n 0, 1) := by decide +kernel
theorem dX7_after_101 : decode cX7_after 101 = .ok (.getfield 21, 3) := by decide +kernel
theorem dX7_after_104 : decode cX7_after 104 = .ok (.getfield 38, 3) := by decide +kernel
theorem dX7_after_107 : decode cX7_after 107 = .ok (.invokevirtual 74, 3) := by decide +kernel
theorem dX7_after_110 : decode cX7_after 110 = .ok (.i2l, 1) := by decide +kernel
theorem dX7_after_111 : decode cX7_after 111 = .ok (.lreturn, 1) := by decide +kernel
theorem dX7_after_112 : decode cX7_after 112 = .ok (.aload_n 0, 1) := by decide +kernel
theorem dX7_after_113 : decode cX7_after 113 = .ok (.getfield 21, 3) := by decide +kernel
theorem dX7_after_116 : decode cX7_after 116 = .ok (.invokevirtual 186, 3) := by decide +kernel
theorem dX7_after_119 : decode cX7_after 119 = .ok (.i2l, 1) := by decide +kernel
theorem dX7_after_120 : decode cX7_after 120 = .ok (.lreturn, 1) := by decide +kernel
theorem dX7_after_121 : decode cX7_after 121 = .ok (.aload_n 0, 1) := by decide +kernel
theorem dX7_after_122 : decode cX7_after 122 = .ok (.getfield 21, 3) := by decide +kernel
theorem dX7_after_125 : decode cX7_after 125 = .ok (.invokevirtual 214, 3) := by decide +kernel
theorem dX7_after_128 : decode cX7_after 128 = .ok (.invokestatic 210, 3) := by decide +kernel
theorem dX7_after_131 : decode cX7_after 131 = .ok (.lreturn, 1) := by decide +kernel
set_option maxRecDepth 20000 in
theorem ggX7_book_X2_empty : GoodIn wsX7_book wsX2_empty := goodIn_r _ [9, 10, 43, 44, 45] (by decide +kernel) (by decide +kernel)
set_option maxRecDepth 20000 in
theorem gX7_book_X2_empty : GoodIn wsX7_book (wsV RX7 238 RX2 yX2_empty wsX2_empty) := goodIn_app (goodIn_of _ (by decide +kernel)) ggX7_book_X2_empty
set_option maxRecDepth 20000 in
theorem ggX7_book_X1_hasTeam : GoodIn wsX7_book wsX1_hasTeam := goodIn_r _ [15, 16, 46, 47, 48, 49, 50, 51, 52] (by decide +kernel) (by decide +kernel)
set_option maxRecDepth 20000 in
theorem gX7_book_X1_hasTeam : GoodIn wsX7_book (wsV RX7 52 RX1 yX1_hasTeam wsX1_hasTeam) := goodIn_app (goodIn_of _ (by decide +kernel)) ggX7_book_X1_hasTeam
set_option maxRecDepth 20000 in
theorem ggX7_book_X2_isFull : GoodIn wsX7_book wsX2_isFull := goodIn_r _ [20, 10, 21, 43, 44, 45] (by decide +kernel) (by decide +kernel)
set_option maxRecDepth 20000 in
theorem gX7_book_X2_isFull : GoodIn wsX7_book (wsV RX7 241 RX2 yX2_isFull wsX2_isFull) := goodIn_app (goodIn_of _ (by decide +kernel)) ggX7_book_X2_isFull
set_option maxRecDepth 20000 in
theorem ggX7_book_X2_add : GoodIn wsX7_book wsX2_add := goodIn_r _ [25, 10, 26, 27, 18, 19, 8, 20, 21, 43, 44, 45] (by decide +kernel) (by decide +kernel)
set_option maxRecDepth 20000 in
theorem gX7_book_X2_add : GoodIn wsX7_book (wsV RX7 245 RX2 yX2_add wsX2_add) := goodIn_app (goodIn_of _ (by decide +kernel)) ggX7_book_X2_add
theorem dX7_book_0 : decode cX7_book 0 = .ok (.iload_n 1, 1) := by decide +kernel
theorem dX7_book_1 : decode cX7_book 1 = .ok (.iconst (-1), 1) := by decide +kernel
theorem dX7_book_2 : decode cX7_book 2 = .ok (.if_icmp .ne 15, 3) := by decide +kernel
theorem dX7_book_5 : decode cX7_book 5 = .ok (.aload_n 0, 1) := by decide +kernel
theorem dX7_book_6 : decode cX7_book 6 = .ok (.getfield 12, 3) := by decide +kernel
theorem dX7_book_9 : decode cX7_book 9 = .ok (.getfield 269, 3) := by decide +kernel
theorem dX7_book_12 : decode cX7_book 12 = .ok (.invokevirtual 238, 3) := by decide +kernel
theorem dX7_book_15 : decode cX7_book 15 = .ok (.iconst 0, 1) := by decide +kernel
theorem dX7_book_16 : decode cX7_book 16 = .ok (.ireturn, 1) := by decide +kernel
theorem dX7_book_17 : decode cX7_book 17 = .ok (.aload_n 0, 1) := by decide +kernel
theorem dX7_book_18 : decode cX7_book 18 = .ok (.getfield 12, 3) := by decide +kernel
theorem dX7_book_21 : decode cX7_book 21 = .ok (.getfield 38, 3) := by decide +kernel
theorem dX7_book_24 : decode cX7_book 24 = .ok (.iload_n 1, 1) := by decide +kernel
theorem dX7_book_25 : decode cX7_book 25 = .ok (.invokevirtual 52, 3) := by decide +kernel
theorem dX7_book_28 : decode cX7_book 28 = .ok (.ifCond .ne 5, 3) := by decide +kernel
theorem dX7_book_31 : decode cX7_book 31 = .ok (.iconst (-1), 1) := by decide +kernel
theorem dX7_book_32 : decode cX7_book 32 = .ok (.ireturn, 1) := by decide +kernel
theorem dX7_book_33 : decode cX7_book 33 = .ok (.iload_n 2, 1) := by decide +kernel
theorem dX7_book_34 : decode cX7_book 34 = .ok (.ifCond .lt 8, 3) := by decide +kernel
theorem dX7_book_37 : decode cX7_book 37 = .ok (.iload_n 2, 1) := by decide +kernel
theorem dX7_book_38 : decode cX7_book 38 = .ok (.iconst 4, 1) := by decide +kernel
theorem dX7_book_39 : decode cX7_book 39 = .ok (.if_icmp .le 6, 3) := by decide +kernel
theorem dX7_book_42 : decode cX7_book 42 = .ok (.bipush (-2), 2) := by decide +kernel
theorem dX7_book_44 : decode cX7_book 44 = .ok (.ireturn, 1) := by decide +kernel
theorem dX7_book_45 : decode cX7_book 45 = .ok (.aload_n 0, 1) := by decide +kernel
theorem dX7_book_46 : decode cX7_book 46 = .ok (.getfield 12, 3) := by decide +kernel
theorem dX7_book_49 : decode cX7_book 49 = .ok (.getfield 269, 3) := by decide +kernel
theorem dX7_book_52 : decode cX7_book 52 = .ok (.invokevirtual 241, 3) := by decide +kernel
theorem dX7_book_55 : decode cX7_book 55 = .ok (.ifCond .eq 6, 3) := by decide +kernel
theorem dX7_book_58 : decode cX7_book 58 = .ok (.bipush (-4), 2) := by decide +kernel
theorem dX7_book_60 : decode cX7_book 60 = .ok (.ireturn, 1) := by decide +kernel
theorem dX7_book_61 : decode cX7_book 61 = .ok (.aload_n 0, 1) := by decide +kernel
theorem dX7_book_62 : decode cX7_book 62 = .ok (.getfield 12, 3) := by decide +kernel
theorem dX7_book_65 : decode cX7_book 65 = .ok (.getfield 269, 3) := by decide +kernel
theorem dX7_book_68 : decode cX7_book 68 = .ok (.iload_n 1, 1) := by decide +kernel
theorem dX7_book_69 : decode cX7_book 69 = .ok (.iload_n 2, 1) := by decide +kernel
theorem dX7_book_70 : decode cX7_book 70 = .ok (.iconst 0, 1) := by decide +kernel
theorem dX7_book_71 : decode cX7_book 71 = .ok (.iconst 0, 1) := by decide +kernel
theorem dX7_book_72 : decode cX7_book 72 = .ok (.invokevirtual 245, 3) := by decide +kernel
theorem dX7_book_75 : decode cX7_book 75 = .ok (.aload_n 0, 1) := by decide +kernel
theorem dX7_book_76 : decode cX7_book 76 = .ok (.getfield 12, 3) := by decide +kernel
theorem dX7_book_79 : decode cX7_book 79 = .ok (.getfield 269, 3) := by decide +kernel
theorem dX7_book_82 : decode cX7_book 82 = .ok (.getfield 119, 3) := by decide +kernel
theorem dX7_book_85 : decode cX7_book 85 = .ok (.ireturn, 1) := by decide +kernel
set_option maxRecDepth 20000 in
theorem ggX7_looked_X2_at : GoodIn wsX7_looked wsX2_at := goodIn_r _ [9, 10, 11, 45, 46, 47] (by decide +kernel) (by decide +kernel)
set_option maxRecDepth 20000 in
theorem gX7_looked_X2_at : GoodIn wsX7_looked (wsV RX7 266 RX2 yX2_at wsX2_at) := goodIn_app (goodIn_of _ (by decide +kernel)) ggX7_looked_X2_at
set_option maxRecDepth 20000 in
theorem ggX7_looked_X1_breaksOf : GoodIn wsX7_looked wsX1_breaksOf := goodIn_r _ [16, 17, 18, 19, 20, 15, 21, 22, 23, 24, 25, 26, 27, 28, 29, 48, 49, 50, 51, 52, 53, 54] (by decide +kernel) (by decide +kernel)
set_option maxRecDepth 20000 in
theorem gX7_looked_X1_breaksOf : GoodIn wsX7_looked (wsV RX7 165 RX1 yX1_breaksOf wsX1_breaksOf) := goodIn_app (goodIn_of _ (by decide +kernel)) ggX7_looked_X1_breaksOf
theorem dX7_looked_0 : decode cX7_looked 0 = .ok (.iconst 0, 1) := by decide +kernel
theorem dX7_looked_1 : decode cX7_looked 1 = .ok (.istore_n 1, 1) := by decide +kernel
theorem dX7_looked_2 : decode cX7_looked 2 = .ok (.iload_n 1, 1) := by decide +kernel
theorem dX7_looked_3 : decode cX7_looked 3 = .ok (.aload_n 0, 1) := by decide +kernel
theorem dX7_looked_4 : decode cX7_looked 4 = .ok (.getfield 12, 3) := by decide +kernel
theorem dX7_looked_7 : decode cX7_looked 7 = .ok (.getfield 269, 3) := by decide +kernel
theorem dX7_looked_10 : decode cX7_looked 10 = .ok (.getfield 119, 3) := by decide +kernel
theorem dX7_looked_13 : decode cX7_looked 13 = .ok (.if_icmp .ge 48, 3) := by decide +kernel
theorem dX7_looked_16 : decode cX7_looked 16 = .ok (.aload_n 0, 1) := by decide +kernel
theorem dX7_looked_17 : decode cX7_looked 17 = .ok (.getfield 12, 3) := by decide +kernel
theorem dX7_looked_20 : decode cX7_looked 20 = .ok (.getfield 38, 3) := by decide +kernel
theorem dX7_looked_23 : decode cX7_looked 23 = .ok (.aload_n 0, 1) := by decide +kernel
theorem dX7_looked_24 : decode cX7_looked 24 = .ok (.getfield 12, 3) := by decide +kernel
theorem dX7_looked_27 : decode cX7_looked 27 = .ok (.getfield 269, 3) := by decide +kernel
theorem dX7_looked_30 : decode cX7_looked 30 = .ok (.iload_n 1, 1) := by decide +kernel
theorem dX7_looked_31 : decode cX7_looked 31 = .ok (.iconst 0, 1) := by decide +kernel
theorem dX7_looked_32 : decode cX7_looked 32 = .ok (.invokevirtual 266, 3) := by decide +kernel
theorem dX7_looked_35 : decode cX7_looked 35 = .ok (.invokevirtual 165, 3) := by decide +kernel
theorem dX7_looked_38 : decode cX7_looked 38 = .ok (.aload_n 0, 1) := by decide +kernel
theorem dX7_looked_39 : decode cX7_looked 39 = .ok (.getfield 12, 3) := by decide +kernel
theorem dX7_looked_42 : decode cX7_looked 42 = .ok (.getfield 269, 3) := by decide +kernel
theorem dX7_looked_45 : decode cX7_looked 45 = .ok (.iload_n 1, 1) := by decide +kernel
theorem dX7_looked_46 : decode cX7_looked 46 = .ok (.iconst 1, 1) := by decide +kernel
theorem dX7_looked_47 : decode cX7_looked 47 = .ok (.invokevirtual 266, 3) := by decide +kernel
theorem dX7_looked_50 : decode cX7_looked 50 = .ok (.if_icmp .eq 5, 3) := by decide +kernel
theorem dX7_looked_53 : decode cX7_looked 53 = .ok (.iload_n 1, 1) := by decide +kernel
theorem dX7_looked_54 : decode cX7_looked 54 = .ok (.ireturn, 1) := by decide +kernel
theorem dX7_looked_55 : decode cX7_looked 55 = .ok (.iinc 1 1, 3) := by decide +kernel
theorem dX7_looked_58 : decode cX7_looked 58 = .ok (.goto (-56), 3) := by decide +kernel
theorem dX7_looked_61 : decode cX7_looked 61 = .ok (.bipush (-5), 2) := by decide +kernel
theorem dX7_looked_63 : decode cX7_looked 63 = .ok (.ireturn, 1) := by decide +kernel
set_option maxRecDepth 20000 in
theorem ggX7_judge_X7_tapeAt : GoodIn wsX7_judge wsX7_tapeAt := goodIn_r _ [10, 11, 71, 72, 73, 74, 75, 76] (by decide +kernel) (by decide +kernel)
set_option maxRecDepth 20000 in
theorem gX7_judge_X7_tapeAt : GoodIn wsX7_judge (wsV RX7 272 RX7 yX7_tapeAt wsX7_tapeAt) := goodIn_app (goodIn_of _ (by decide +kernel)) ggX7_judge_X7_tapeAt
set_option maxRecDepth 20000 in
theorem ggX7_judge_X1_hasTeam : GoodIn wsX7_judge wsX1_hasTeam := goodIn_r _ [16, 17, 89, 90, 91, 92, 93, 94, 95] (by decide +kernel) (by decide +kernel)
set_option maxRecDepth 20000 in
theorem gX7_judge_X1_hasTeam : GoodIn wsX7_judge (wsV RX7 52 RX1 yX1_hasTeam wsX1_hasTeam) := goodIn_app (goodIn_of _ (by decide +kernel)) ggX7_judge_X1_hasTeam
set_option maxRecDepth 20000 in
theorem ggX7_judge_X4_holdsNothing : GoodIn wsX7_judge wsX4_holdsNothing := goodIn_r _ [22, 23, 86, 87, 88] (by decide +kernel) (by decide +kernel)
set_option maxRecDepth 20000 in
theorem gX7_judge_X4_holdsNothing : GoodIn wsX7_judge (wsV RX7 276 RX4 yX4_holdsNothing wsX4_holdsNothing) := goodIn_app (goodIn_of _ (by decide +kernel)) ggX7_judge_X4_holdsNothing
set_option maxRecDepth 20000 in
theorem ggX7_judge_X4_has : GoodIn wsX7_judge wsX4_has := goodIn_r _ [27, 28, 86, 87, 88] (by decide +kernel) (by decide +kernel)
set_option maxRecDepth 20000 in
theorem gX7_judge_X4_has : GoodIn wsX7_judge (wsV RX7 282 RX4 yX4_has wsX4_has) := goodIn_app (goodIn_of _ (by decide +kernel)) ggX7_judge_X4_has
set_option maxRecDepth 20000 in
theorem ggX7_judge_X3_wearBehind : GoodIn wsX7_judge wsX3_wearBehind := goodIn_r _ [33, 34, 35, 36, 37, 38, 32, 39, 40, 41, 42, 43, 15, 44, 45, 46, 47, 48, 49, 50, 17, 51, 9, 52, 53, 54, 55, 56, 57, 58, 59, 60, 61, 62, 63, 13, 14, 16, 77, 78, 79, 80, 81, 82, 83, 84, 85, 89, 90, 91, 92, 93, 94, 95] (by decide +kernel) (by decide +kernel)
set_option maxRecDepth 20000 in
theorem gX7_judge_X3_wearBehind : GoodIn wsX7_judge (wsV RX7 206 RX3 yX3_wearBehind wsX3_wearBehind) := goodIn_app (goodIn_of _ (by decide +kernel)) ggX7_judge_X3_wearBehind
set_option maxRecDepth 20000 in
theorem ggX7_judge_X7_bitsOfFloat : GoodIn wsX7_judge wsX7_bitsOfFloat := goodIn_r _ [66, 67, 68, 9, 69, 70] (by decide +kernel) (by decide +kernel)
set_option maxRecDepth 20000 in
theorem gX7_judge_X7_bitsOfFloat : GoodIn wsX7_judge (va_wsS RX7 210 yX7_bitsOfFloat wsX7_bitsOfFloat) := goodIn_app (goodIn_of _ (by decide +kernel)) ggX7_judge_X7_bitsOfFloat
theorem dX7_judge_0 : decode cX7_judge 0 = .ok (.aload_n 0, 1) := by decide +kernel
theorem dX7_judge_1 : decode cX7_judge 1 = .ok (.iload_n 2, 1) := by decide +kernel
theorem dX7_judge_2 : decode cX7_judge 2 = .ok (.invokevirtual 272, 3) := by decide +kernel
theorem dX7_judge_5 : decode cX7_judge 5 = .ok (.astore 4, 2) := by decide +kernel
theorem dX7_judge_7 : decode cX7_judge 7 = .ok (.aload_n 0, 1) := by decide +kernel
theorem dX7_judge_8 : decode cX7_judge 8 = .ok (.getfield 12, 3) := by decide +kernel
theorem dX7_judge_11 : decode cX7_judge 11 = .ok (.getfield 38, 3) := by decide +kernel
theorem dX7_judge_14 : decode cX7_judge 14 = .ok (.iload_n 1, 1) := by decide +kernel
theorem dX7_judge_15 : decode cX7_judge 15 = .ok (.invokevirtual 52, 3) := by decide +kernel
theorem dX7_judge_18 : decode cX7_judge 18 = .ok (.ifCond .eq 8, 3) := by decide +kernel
theorem dX7_judge_21 : decode cX7_judge 21 = .ok (.aload 4, 2) := by decide +kernel
theorem dX7_judge_23 : decode cX7_judge 23 = .ok (.ifnonnull 5, 3) := by decide +kernel
theorem dX7_judge_26 : decode cX7_judge 26 = .ok (.iconst (-1), 1) := by decide +kernel
theorem dX7_judge_27 : decode cX7_judge 27 = .ok (.ireturn, 1) := by decide +kernel
theorem dX7_judge_28 : decode cX7_judge 28 = .ok (.aload 4, 2) := by decide +kernel
theorem dX7_judge_30 : decode cX7_judge 30 = .ok (.invokevirtual 276, 3) := by decide +kernel
theorem dX7_judge_33 : decode cX7_judge 33 = .ok (.ifCond .eq 6, 3) := by decide +kernel
theorem dX7_judge_36 : decode cX7_judge 36 = .ok (.bipush 100, 2) := by decide +kernel
theorem dX7_judge_38 : decode cX7_judge 38 = .ok (.ireturn, 1) := by decide +kernel
theorem dX7_judge_39 : decode cX7_judge 39 = .ok (.aload 4, 2) := by decide +kernel
theorem dX7_judge_41 : decode cX7_judge 41 = .ok (.getfield 279, 3) := by decide +kernel
theorem dX7_judge_44 : decode cX7_judge 44 = .ok (.iconst 2, 1) := by decide +kernel
theorem dX7_judge_45 : decode cX7_judge 45 = .ok (.if_icmp .eq 6, 3) := by decide +kernel
theorem dX7_judge_48 : decode cX7_judge 48 = .ok (.bipush (-12), 2) := by decide +kernel
theorem dX7_judge_50 : decode cX7_judge 50 = .ok (.ireturn, 1) := by decide +kernel
theorem dX7_judge_51 : decode cX7_judge 51 = .ok (.aload 4, 2) := by decide +kernel
theorem dX7_judge_53 : decode cX7_judge 53 = .ok (.iload_n 3, 1) := by decide +kernel
theorem dX7_judge_54 : decode cX7_judge 54 = .ok (.invokevirtual 282, 3) := by decide +kernel
theorem dX7_judge_57 : decode cX7_judge 57 = .ok (.ifCond .ne 6, 3) := by decide +kernel
theorem dX7_judge_60 : decode cX7_judge 60 = .ok (.bipush 100, 2) := by decide +kernel
theorem dX7_judge_62 : decode cX7_judge 62 = .ok (.ireturn, 1) := by decide +kernel
theorem dX7_judge_63 : decode cX7_judge 63 = .ok (.iconst 0, 1) := by decide +kernel
theorem dX7_judge_64 : decode cX7_judge 64 = .ok (.istore 5, 2) := by decide +kernel
theorem dX7_judge_66 : decode cX7_judge 66 = .ok (.iload 5, 2) := by decide +kernel
theorem dX7_judge_68 : decode cX7_judge 68 = .ok (.aload_n 0, 1) := by decide +kernel
theorem dX7_judge_69 : decode cX7_judge 69 = .ok (.getfield 12, 3) := by decide +kernel
theorem dX7_judge_72 : decode cX7_judge 72 = .ok (.getfield 38, 3) := by decide +kernel
theorem dX7_judge_75 : decode cX7_judge 75 = .ok (.getfield 42, 3) := by decide +kernel
theorem dX7_judge_78 : decode cX7_judge 78 = .ok (.iconst 1, 1) := by decide +kernel
theorem dX7_judge_79 : decode cX7_judge 79 = .ok (.isub, 1) := by decide +kernel
theorem dX7_judge_80 : decode cX7_judge 80 = .ok (.if_icmp .ge 57, 3) := by decide +kernel
theorem dX7_judge_83 : decode cX7_judge 83 = .ok (.aload 4, 2) := by decide +kernel
theorem dX7_judge_85 : decode cX7_judge 85 = .ok (.iload_n 3, 1) := by decide +kernel
theorem dX7_judge_86 : decode cX7_judge 86 = .ok (.iload 5, 2) := by decide +kernel
theorem dX7_judge_88 : decode cX7_judge 88 = .ok (.iadd, 1) := by decide +kernel
theorem dX7_judge_89 : decode cX7_judge 89 = .ok (.invokevirtual 282, 3) := by decide +kernel
theorem dX7_judge_92 : decode cX7_judge 92 = .ok (.ifCond .ne 9, 3) := by decide +kernel
theorem dX7_judge_95 : decode cX7_judge 95 = .ok (.bipush 100, 2) := by decide +kernel
theorem dX7_judge_97 : decode cX7_judge 97 = .ok (.iload 5, 2) := by decide +kernel
theorem dX7_judge_99 : decode cX7_judge 99 = .ok (.iadd, 1) := by decide +kernel
theorem dX7_judge_100 : decode cX7_judge 100 = .ok (.ireturn, 1) := by decide +kernel
theorem dX7_judge_101 : decode cX7_judge 101 = .ok (.aload 4, 2) := by decide +kernel
theorem dX7_judge_103 : decode cX7_judge 103 = .ok (.getfield 285, 3) := by decide +kernel
theorem dX7_judge_106 : decode cX7_judge 106 = .ok (.iload_n 3, 1) := by decide +kernel
theorem dX7_judge_107 : decode cX7_judge 107 = .ok (.iload 5, 2) := by decide +kernel
theorem dX7_judge_109 : decode cX7_judge 109 = .ok (.iadd, 1) := by decide +kernel
theorem dX7_judge_110 : decode cX7_judge 110 = .ok (.laload, 1) := by decide +kernel
theorem dX7_judge_111 : decode cX7_judge 111 = .ok (.aload_n 0, 1) := by decide +kernel
theorem dX7_judge_112 : decode cX7_judge 112 = .ok (.getfield 12, 3) := by decide +kernel
theorem dX7_judge_115 : decode cX7_judge 115 = .ok (.iload_n 1, 1) := by decide +kernel
theorem dX7_judge_116 : decode cX7_judge 116 = .ok (.iload 5, 2) := by decide +kernel
theorem dX7_judge_118 : decode cX7_judge 118 = .ok (.invokevirtual 206, 3) := by decide +kernel
theorem dX7_judge_121 : decode cX7_judge 121 = .ok (.invokestatic 210, 3) := by decide +kernel
theorem dX7_judge_124 : decode cX7_judge 124 = .ok (.lcmp, 1) := by decide +kernel
theorem dX7_judge_125 : decode cX7_judge 125 = .ok (.ifCond .eq 6, 3) := by decide +kernel
theorem dX7_judge_128 : decode cX7_judge 128 = .ok (.iload 5, 2) := by decide +kernel
theorem dX7_judge_130 : decode cX7_judge 130 = .ok (.ireturn, 1) := by decide +kernel
theorem dX7_judge_131 : decode cX7_judge 131 = .ok (.iinc 5 1, 3) := by decide +kernel
theorem dX7_judge_134 : decode cX7_judge 134 = .ok (.goto (-68), 3) := by decide +kernel
theorem dX7_judge_137 : decode cX7_judge 137 = .ok (.bipush (-5), 2) := by decide +kernel
theorem dX7_judge_139 : decode cX7_judge 139 = .ok (.ireturn, 1) := by decide +kernel
set_option maxRecDepth 20000 in
theorem ggX7_image_X3_become : GoodIn wsX7_image wsX3_become := goodIn_r _ [10, 11, 12, 13, 14, 15, 16, 17, 18, 19, 20, 21, 22, 23, 24, 25, 26, 27, 28, 29, 30, 31, 32, 33, 34, 35, 36, 37, 38, 39, 40, 41, 42, 43, 44, 45, 46, 47, 48, 55, 56, 57, 58, 59, 60, 61, 62, 63, 64, 65, 66, 67, 68, 69, 70, 71, 72, 73] (by decide +kernel) (by decide +kernel)
set_option maxRecDepth 20000 in
theorem gX7_image_X3_become : GoodIn wsX7_image (wsV RX7 262 RX3 yX3_become wsX3_become) := goodIn_app (goodIn_of _ (by decide +kernel)) ggX7_image_X3_become
theorem dX7_image_0 : decode cX7_image 0 = .ok (.aload_n 0, 1) := by decide +kernel
theorem dX7_image_1 : decode cX7_image 1 = .ok (.getfield 18, 3) := by decide +kernel
theorem dX7_image_4 : decode cX7_image 4 = .ok (.aload_n 0, 1) := by decide +kernel
theorem dX7_image_5 : decode cX7_image 5 = .ok (.getfield 12, 3) := by decide +kernel
theorem dX7_image_8 : decode cX7_image 8 = .ok (.invokevirtual 262, 3) := by decide +kernel
theorem dX7_image_11 : decode cX7_image 11 = .ok (.aload_n 0, 1) := by decide +kernel
theorem dX7_image_12 : decode cX7_image 12 = .ok (.iconst 1, 1) := by decide +kernel
theorem dX7_image_13 : decode cX7_image 13 = .ok (.putfield 289, 3) := by decide +kernel
theorem dX7_image_16 : decode cX7_image 16 = .ok (.aload_n 0, 1) := by decide +kernel
theorem dX7_image_17 : decode cX7_image 17 = .ok (.getfield 12, 3) := by decide +kernel
theorem dX7_image_20 : decode cX7_image 20 = .ok (.getfield 38, 3) := by decide +kernel
theorem dX7_image_23 : decode cX7_image 23 = .ok (.getfield 42, 3) := by decide +kernel
theorem dX7_image_26 : decode cX7_image 26 = .ok (.ireturn, 1) := by decide +kernel
set_option maxRecDepth 20000 in
theorem ggX7_undo_X3_become : GoodIn wsX7_undo wsX3_become := goodIn_r _ [10, 11, 12, 13, 14, 15, 16, 17, 18, 19, 20, 21, 22, 23, 24, 25, 26, 27, 28, 29, 30, 31, 32, 33, 34, 35, 36, 37, 38, 39, 40, 41, 42, 43, 44, 45, 46, 47, 48, 55, 56, 57, 58, 59, 60, 61, 62, 63, 64, 65, 66, 67, 68, 69, 70, 71, 72, 73] (by decide +kernel) (by decide +kernel)
set_option maxRecDepth 20000 in
theorem gX7_undo_X3_become : GoodIn wsX7_undo (wsV RX7 262 RX3 yX3_become wsX3_become) := goodIn_app (goodIn_of _ (by decide +kernel)) ggX7_undo_X3_become
theorem dX7_undo_0 : decode cX7_undo 0 = .ok (.aload_n 0, 1) := by decide +kernel
theorem dX7_undo_1 : decode cX7_undo 1 = .ok (.getfield 289, 3) := by decide +kernel
theorem dX7_undo_4 : decode cX7_undo 4 = .ok (.ifCond .ne 6, 3) := by decide +kernel
theorem dX7_undo_7 : decode cX7_undo 7 = .ok (.bipush (-3), 2) := by decide +kernel
theorem dX7_undo_9 : decode cX7_undo 9 = .ok (.ireturn, 1) := by decide +kernel
theorem dX7_undo_10 : decode cX7_undo 10 = .ok (.aload_n 0, 1) := by decide +kernel
theorem dX7_undo_11 : decode cX7_undo 11 = .ok (.getfield 12, 3) := by decide +kernel
theorem dX7_undo_14 : decode cX7_undo 14 = .ok (.aload_n 0, 1) := by decide +kernel
theorem dX7_undo_15 : decode cX7_undo 15 = .ok (.getfield 18, 3) := by decide +kernel
theorem dX7_undo_18 : decode cX7_undo 18 = .ok (.invokevirtual 262, 3) := by decide +kernel
theorem dX7_undo_21 : decode cX7_undo 21 = .ok (.aload_n 0, 1) := by decide +kernel
theorem dX7_undo_22 : decode cX7_undo 22 = .ok (.getfield 12, 3) := by decide +kernel
theorem dX7_undo_25 : decode cX7_undo 25 = .ok (.getfield 38, 3) := by decide +kernel
theorem dX7_undo_28 : decode cX7_undo 28 = .ok (.getfield 42, 3) := by decide +kernel
theorem dX7_undo_31 : decode cX7_undo 31 = .ok (.ireturn, 1) := by decide +kernel
theorem dX7_count_0 : decode cX7_count 0 = .ok (.iload_n 1, 1) := by decide +kernel
theorem dX7_count_1 : decode cX7_count 1 = .ok (.tableswitch 72 0 3 #[31, 42, 53, 64], 31) := by decide +kernel
theorem dX7_count_32 : decode cX7_count 32 = .ok (.aload_n 0, 1) := by decide +kernel
theorem dX7_count_33 : decode cX7_count 33 = .ok (.getfield 12, 3) := by decide +kernel
theorem dX7_count_36 : decode cX7_count 36 = .ok (.getfield 235, 3) := by decide +kernel
theorem dX7_count_39 : decode cX7_count 39 = .ok (.getfield 119, 3) := by decide +kernel
theorem dX7_count_42 : decode cX7_count 42 = .ok (.ireturn, 1) := by decide +kernel
theorem dX7_count_43 : decode cX7_count 43 = .ok (.aload_n 0, 1) := by decide +kernel
theorem dX7_count_44 : decode cX7_count 44 = .ok (.getfield 12, 3) := by decide +kernel
theorem dX7_count_47 : decode cX7_count 47 = .ok (.getfield 259, 3) := by decide +kernel
theorem dX7_count_50 : decode cX7_count 50 = .ok (.getfield 119, 3) := by decide +kernel
theorem dX7_count_53 : decode cX7_count 53 = .ok (.ireturn, 1) := by decide +kernel
theorem dX7_count_54 : decode cX7_count 54 = .ok (.aload_n 0, 1) := by decide +kernel
theorem dX7_count_55 : decode cX7_count 55 = .ok (.getfield 12, 3) := by decide +kernel
theorem dX7_count_58 : decode cX7_count 58 = .ok (.getfield 269, 3) := by decide +kernel
theorem dX7_count_61 : decode cX7_count 61 = .ok (.getfield 119, 3) := by decide +kernel
theorem dX7_count_64 : decode cX7_count 64 = .ok (.ireturn, 1) := by decide +kernel
theorem dX7_count_65 : decode cX7_count 65 = .ok (.aload_n 0, 1) := by decide +kernel
theorem dX7_count_66 : decode cX7_count 66 = .ok (.getfield 27, 3) := by decide +kernel
theorem dX7_count_69 : decode cX7_count 69 = .ok (.getfield 105, 3) := by decide +kernel
theorem dX7_count_72 : decode cX7_count 72 = .ok (.ireturn, 1) := by decide +kernel
theorem dX7_count_73 : decode cX7_count 73 = .ok (.bipush (-2), 2) := by decide +kernel
theorem dX7_count_75 : decode cX7_count 75 = .ok (.ireturn, 1) := by decide +kernel
set_option maxRecDepth 20000 in
theorem ggX7_tape_X7_tapeAt : GoodIn wsX7_tape wsX7_tapeAt := goodIn_r _ [5, 6, 19, 20, 21, 22, 23, 24] (by decide +kernel) (by decide +kernel)
set_option maxRecDepth 20000 in
theorem gX7_tape_X7_tapeAt : GoodIn wsX7_tape (wsV RX7 272 RX7 yX7_tapeAt wsX7_tapeAt) := goodIn_app (goodIn_of _ (by decide +kernel)) ggX7_tape_X7_tapeAt
set_option maxRecDepth 20000 in
theorem ggX7_tape_X4_become : GoodIn wsX7_tape wsX4_become := goodIn_r _ [11, 12, 13, 14, 15, 16, 17, 18, 25, 26, 27] (by decide +kernel) (by decide +kernel)
set_option maxRecDepth 20000 in
theorem gX7_tape_X4_become : GoodIn wsX7_tape (wsV RX7 293 RX4 yX4_become wsX4_become) := goodIn_app (goodIn_of _ (by decide +kernel)) ggX7_tape_X4_become
theorem dX7_tape_0 : decode cX7_tape 0 = .ok (.aload_n 0, 1) := by decide +kernel
theorem dX7_tape_1 : decode cX7_tape 1 = .ok (.iload_n 1, 1) := by decide +kernel
theorem dX7_tape_2 : decode cX7_tape 2 = .ok (.invokevirtual 272, 3) := by decide +kernel
theorem dX7_tape_5 : decode cX7_tape 5 = .ok (.astore 4, 2) := by decide +kernel
theorem dX7_tape_7 : decode cX7_tape 7 = .ok (.aload 4, 2) := by decide +kernel
theorem dX7_tape_9 : decode cX7_tape 9 = .ok (.ifnonnull 5, 3) := by decide +kernel
theorem dX7_tape_12 : decode cX7_tape 12 = .ok (.iconst (-1), 1) := by decide +kernel
theorem dX7_tape_13 : decode cX7_tape 13 = .ok (.ireturn, 1) := by decide +kernel
theorem dX7_tape_14 : decode cX7_tape 14 = .ok (.iload_n 2, 1) := by decide +kernel
theorem dX7_tape_15 : decode cX7_tape 15 = .ok (.iconst (-1), 1) := by decide +kernel
theorem dX7_tape_16 : decode cX7_tape 16 = .ok (.if_icmp .ne 12, 3) := by decide +kernel
theorem dX7_tape_19 : decode cX7_tape 19 = .ok (.aload 4, 2) := by decide +kernel
theorem dX7_tape_21 : decode cX7_tape 21 = .ok (.iload_n 2, 1) := by decide +kernel
theorem dX7_tape_22 : decode cX7_tape 22 = .ok (.iconst 0, 1) := by decide +kernel
theorem dX7_tape_23 : decode cX7_tape 23 = .ok (.invokevirtual 293, 3) := by decide +kernel
theorem dX7_tape_26 : decode cX7_tape 26 = .ok (.iconst 1, 1) := by decide +kernel
theorem dX7_tape_27 : decode cX7_tape 27 = .ok (.ireturn, 1) := by decide +kernel
theorem dX7_tape_28 : decode cX7_tape 28 = .ok (.iload_n 2, 1) := by decide +kernel
theorem dX7_tape_29 : decode cX7_tape 29 = .ok (.ifCond .lt 14, 3) := by decide +kernel
theorem dX7_tape_32 : decode cX7_tape 32 = .ok (.iload_n 2, 1) := by decide +kernel
theorem dX7_tape_33 : decode cX7_tape 33 = .ok (.iconst 5, 1) := by decide +kernel
theorem dX7_tape_34 : decode cX7_tape 34 = .ok (.if_icmp .ge 9, 3) := by decide +kernel
theorem dX7_tape_37 : decode cX7_tape 37 = .ok (.iload_n 3, 1) := by decide +kernel
theorem dX7_tape_38 : decode cX7_tape 38 = .ok (.bipush 60, 2) := by decide +kernel
theorem dX7_tape_40 : decode cX7_tape 40 = .ok (.if_icmp .le 6, 3) := by decide +kernel
theorem dX7_tape_43 : decode cX7_tape 43 = .ok (.bipush (-2), 2) := by decide +kernel
theorem dX7_tape_45 : decode cX7_tape 45 = .ok (.ireturn, 1) := by decide +kernel
theorem dX7_tape_46 : decode cX7_tape 46 = .ok (.iload_n 3, 1) := by decide +kernel
theorem dX7_tape_47 : decode cX7_tape 47 = .ok (.ifCond .ge 6, 3) := by decide +kernel
theorem dX7_tape_50 : decode cX7_tape 50 = .ok (.bipush (-14), 2) := by decide +kernel
theorem dX7_tape_52 : decode cX7_tape 52 = .ok (.ireturn, 1) := by decide +kernel
theorem dX7_tape_53 : decode cX7_tape 53 = .ok (.aload 4, 2) := by decide +kernel
theorem dX7_tape_55 : decode cX7_tape 55 = .ok (.iload_n 2, 1) := by decide +kernel
theorem dX7_tape_56 : decode cX7_tape 56 = .ok (.iload_n 3, 1) := by decide +kernel
theorem dX7_tape_57 : decode cX7_tape 57 = .ok (.invokevirtual 293, 3) := by decide +kernel
theorem dX7_tape_60 : decode cX7_tape 60 = .ok (.iconst 1, 1) := by decide +kernel
theorem dX7_tape_61 : decode cX7_tape 61 = .ok (.ireturn, 1) := by decide +kernel
set_option maxRecDepth 20000 in
theorem ggX7_item_X7_tapeAt : GoodIn wsX7_item wsX7_tapeAt := goodIn_r _ [6, 7, 26, 27, 28, 29, 30, 31] (by decide +kernel) (by decide +kernel)
set_option maxRecDepth 20000 in
theorem gX7_item_X7_tapeAt : GoodIn wsX7_item (wsV RX7 272 RX7 yX7_tapeAt wsX7_tapeAt) := goodIn_app (goodIn_of _ (by decide +kernel)) ggX7_item_X7_tapeAt
set_option maxRecDepth 20000 in
theorem ggX7_item_X4_holdsNothing : GoodIn wsX7_item wsX4_holdsNothing := goodIn_r _ [12, 13, 23, 24, 25] (by decide +kernel) (by decide +kernel)
set_option maxRecDepth 20000 in
theorem gX7_item_X4_holdsNothing : GoodIn wsX7_item (wsV RX7 276 RX4 yX4_holdsNothing wsX4_holdsNothing) := goodIn_app (goodIn_of _ (by decide +kernel)) ggX7_item_X4_holdsNothing
set_option maxRecDepth 20000 in
theorem ggX7_item_X4_has : GoodIn wsX7_item wsX4_has := goodIn_r _ [17, 18, 23, 24, 25] (by decide +kernel) (by decide +kernel)
set_option maxRecDepth 20000 in
theorem gX7_item_X4_has : GoodIn wsX7_item (wsV RX7 282 RX4 yX4_has wsX4_has) := goodIn_app (goodIn_of _ (by decide +kernel)) ggX7_item_X4_has
set_option maxRecDepth 20000 in
theorem ggX7_item_X4_cut : GoodIn wsX7_item wsX4_cut := goodIn_r _ [22, 13, 23, 24, 25] (by decide +kernel) (by decide +kernel)
set_option maxRecDepth 20000 in
theorem gX7_item_X4_cut : GoodIn wsX7_item (wsV RX7 296 RX4 yX4_cut wsX4_cut) := goodIn_app (goodIn_of _ (by decide +kernel)) ggX7_item_X4_cut
theorem dX7_item_0 : decode cX7_item 0 = .ok (.aload_n 0, 1) := by decide +kernel
theorem dX7_item_1 : decode cX7_item 1 = .ok (.iload_n 1, 1) := by decide +kernel
theorem dX7_item_2 : decode cX7_item 2 = .ok (.invokevirtual 272, 3) := by decide +kernel
theorem dX7_item_5 : decode cX7_item 5 = .ok (.astore 5, 2) := by decide +kernel
theorem dX7_item_7 : decode cX7_item 7 = .ok (.aload 5, 2) := by decide +kernel
theorem dX7_item_9 : decode cX7_item 9 = .ok (.ifnonnull 5, 3) := by decide +kernel
theorem dX7_item_12 : decode cX7_item 12 = .ok (.iconst (-1), 1) := by decide +kernel
theorem dX7_item_13 : decode cX7_item 13 = .ok (.ireturn, 1) := by decide +kernel
theorem dX7_item_14 : decode cX7_item 14 = .ok (.aload 5, 2) := by decide +kernel
theorem dX7_item_16 : decode cX7_item 16 = .ok (.invokevirtual 276, 3) := by decide +kernel
theorem dX7_item_19 : decode cX7_item 19 = .ok (.ifCond .eq 6, 3) := by decide +kernel
theorem dX7_item_22 : decode cX7_item 22 = .ok (.bipush (-11), 2) := by decide +kernel
theorem dX7_item_24 : decode cX7_item 24 = .ok (.ireturn, 1) := by decide +kernel
theorem dX7_item_25 : decode cX7_item 25 = .ok (.aload 5, 2) := by decide +kernel
theorem dX7_item_27 : decode cX7_item 27 = .ok (.iload_n 2, 1) := by decide +kernel
theorem dX7_item_28 : decode cX7_item 28 = .ok (.invokevirtual 282, 3) := by decide +kernel
theorem dX7_item_31 : decode cX7_item 31 = .ok (.ifCond .ne 6, 3) := by decide +kernel
theorem dX7_item_34 : decode cX7_item 34 = .ok (.bipush (-13), 2) := by decide +kernel
theorem dX7_item_36 : decode cX7_item 36 = .ok (.ireturn, 1) := by decide +kernel
theorem dX7_item_37 : decode cX7_item 37 = .ok (.aload 5, 2) := by decide +kernel
theorem dX7_item_39 : decode cX7_item 39 = .ok (.getfield 285, 3) := by decide +kernel
theorem dX7_item_42 : decode cX7_item 42 = .ok (.iload_n 2, 1) := by decide +kernel
theorem dX7_item_43 : decode cX7_item 43 = .ok (.aload 5, 2) := by decide +kernel
theorem dX7_item_45 : decode cX7_item 45 = .ok (.lload_n 3, 1) := by decide +kernel
theorem dX7_item_46 : decode cX7_item 46 = .ok (.invokevirtual 296, 3) := by decide +kernel
theorem dX7_item_49 : decode cX7_item 49 = .ok (.lastore, 1) := by decide +kernel
theorem dX7_item_50 : decode cX7_item 50 = .ok (.iconst 1, 1) := by decide +kernel
theorem dX7_item_51 : decode cX7_item 51 = .ok (.ireturn, 1) := by decide +kernel
set_option maxRecDepth 20000 in
theorem ggX7_peek_X7_tapeAt : GoodIn wsX7_peek wsX7_tapeAt := goodIn_r _ [7, 8, 18, 19, 20, 21, 22, 23] (by decide +kernel) (by decide +kernel)
set_option maxRecDepth 20000 in
theorem gX7_peek_X7_tapeAt : GoodIn wsX7_peek (wsV RX7 272 RX7 yX7_tapeAt wsX7_tapeAt) := goodIn_app (goodIn_of _ (by decide +kernel)) ggX7_peek_X7_tapeAt
set_option maxRecDepth 20000 in
theorem ggX7_peek_X4_has : GoodIn wsX7_peek wsX4_has := goodIn_r _ [13, 14, 15, 16, 17] (by decide +kernel) (by decide +kernel)
set_option maxRecDepth 20000 in
theorem gX7_peek_X4_has : GoodIn wsX7_peek (wsV RX7 282 RX4 yX4_has wsX4_has) := goodIn_app (goodIn_of _ (by decide +kernel)) ggX7_peek_X4_has
theorem dX7_peek_0 : decode cX7_peek 0 = .ok (.aload_n 0, 1) := by decide +kernel
theorem dX7_peek_1 : decode cX7_peek 1 = .ok (.iload_n 1, 1) := by decide +kernel
theorem dX7_peek_2 : decode cX7_peek 2 = .ok (.invokevirtual 272, 3) := by decide +kernel
theorem dX7_peek_5 : decode cX7_peek 5 = .ok (.astore_n 3, 1) := by decide +kernel
theorem dX7_peek_6 : decode cX7_peek 6 = .ok (.aload_n 3, 1) := by decide +kernel
theorem dX7_peek_7 : decode cX7_peek 7 = .ok (.ifnull 11, 3) := by decide +kernel
theorem dX7_peek_10 : decode cX7_peek 10 = .ok (.aload_n 3, 1) := by decide +kernel
theorem dX7_peek_11 : decode cX7_peek 11 = .ok (.iload_n 2, 1) := by decide +kernel
theorem dX7_peek_12 : decode cX7_peek 12 = .ok (.invokevirtual 282, 3) := by decide +kernel
theorem dX7_peek_15 : decode cX7_peek 15 = .ok (.ifCond .ne 7, 3) := by decide +kernel
theorem dX7_peek_18 : decode cX7_peek 18 = .ok (.ldc2_w 204, 3) := by decide +kernel
theorem dX7_peek_21 : decode cX7_peek 21 = .ok (.lreturn, 1) := by decide +kernel
theorem dX7_peek_22 : decode cX7_peek 22 = .ok (.aload_n 3, 1) := by decide +kernel
theorem dX7_peek_23 : decode cX7_peek 23 = .ok (.getfield 285, 3) := by decide +kernel
theorem dX7_peek_26 : decode cX7_peek 26 = .ok (.iload_n 2, 1) := by decide +kernel
theorem dX7_peek_27 : decode cX7_peek 27 = .ok (.laload, 1) := by decide +kernel
theorem dX7_peek_28 : decode cX7_peek 28 = .ok (.lreturn, 1) := by decide +kernel
set_option maxRecDepth 20000 in
theorem ggX7_shift_X7_tapeAt : GoodIn wsX7_shift wsX7_tapeAt := goodIn_r _ [11, 12, 27, 28, 29, 30, 31, 32] (by decide +kernel) (by decide +kernel)
set_option maxRecDepth 20000 in
theorem gX7_shift_X7_tapeAt : GoodIn wsX7_shift (wsV RX7 272 RX7 yX7_tapeAt wsX7_tapeAt) := goodIn_app (goodIn_of _ (by decide +kernel)) ggX7_shift_X7_tapeAt
set_option maxRecDepth 20000 in
theorem ggX7_shift_X4_holdsNothing : GoodIn wsX7_shift wsX4_holdsNothing := goodIn_r _ [17, 18, 24, 25, 26] (by decide +kernel) (by decide +kernel)
set_option maxRecDepth 20000 in
theorem gX7_shift_X4_holdsNothing : GoodIn wsX7_shift (wsV RX7 276 RX4 yX4_holdsNothing wsX4_holdsNothing) := goodIn_app (goodIn_of _ (by decide +kernel)) ggX7_shift_X4_holdsNothing
set_option maxRecDepth 20000 in
theorem ggX7_shift_X4_hasRun : GoodIn wsX7_shift wsX4_hasRun := goodIn_r _ [22, 23, 24, 25, 26] (by decide +kernel) (by decide +kernel)
set_option maxRecDepth 20000 in
theorem gX7_shift_X4_hasRun : GoodIn wsX7_shift (wsV RX7 300 RX4 yX4_hasRun wsX4_hasRun) := goodIn_app (goodIn_of _ (by decide +kernel)) ggX7_shift_X4_hasRun
theorem dX7_shift_0 : decode cX7_shift 0 = .ok (.aload_n 0, 1) := by decide +kernel
theorem dX7_shift_1 : decode cX7_shift 1 = .ok (.iload_n 1, 1) := by decide +kernel
theorem dX7_shift_2 : decode cX7_shift 2 = .ok (.invokevirtual 272, 3) := by decide +kernel
theorem dX7_shift_5 : decode cX7_shift 5 = .ok (.astore 6, 2) := by decide +kernel
theorem dX7_shift_7 : decode cX7_shift 7 = .ok (.aload_n 0, 1) := by decide +kernel
theorem dX7_shift_8 : decode cX7_shift 8 = .ok (.iload_n 3, 1) := by decide +kernel
theorem dX7_shift_9 : decode cX7_shift 9 = .ok (.invokevirtual 272, 3) := by decide +kernel
theorem dX7_shift_12 : decode cX7_shift 12 = .ok (.astore 7, 2) := by decide +kernel
theorem dX7_shift_14 : decode cX7_shift 14 = .ok (.aload 6, 2) := by decide +kernel
theorem dX7_shift_16 : decode cX7_shift 16 = .ok (.ifnull 8, 3) := by decide +kernel
theorem dX7_shift_19 : decode cX7_shift 19 = .ok (.aload 7, 2) := by decide +kernel
theorem dX7_shift_21 : decode cX7_shift 21 = .ok (.ifnonnull 5, 3) := by decide +kernel
theorem dX7_shift_24 : decode cX7_shift 24 = .ok (.iconst (-1), 1) := by decide +kernel
theorem dX7_shift_25 : decode cX7_shift 25 = .ok (.ireturn, 1) := by decide +kernel
theorem dX7_shift_26 : decode cX7_shift 26 = .ok (.aload 6, 2) := by decide +kernel
theorem dX7_shift_28 : decode cX7_shift 28 = .ok (.invokevirtual 276, 3) := by decide +kernel
theorem dX7_shift_31 : decode cX7_shift 31 = .ok (.ifCond .ne 11, 3) := by decide +kernel
theorem dX7_shift_34 : decode cX7_shift 34 = .ok (.aload 7, 2) := by decide +kernel
theorem dX7_shift_36 : decode cX7_shift 36 = .ok (.invokevirtual 276, 3) := by decide +kernel
theorem dX7_shift_39 : decode cX7_shift 39 = .ok (.ifCond .eq 6, 3) := by decide +kernel
theorem dX7_shift_42 : decode cX7_shift 42 = .ok (.bipush (-11), 2) := by decide +kernel
theorem dX7_shift_44 : decode cX7_shift 44 = .ok (.ireturn, 1) := by decide +kernel
theorem dX7_shift_45 : decode cX7_shift 45 = .ok (.aload 6, 2) := by decide +kernel
theorem dX7_shift_47 : decode cX7_shift 47 = .ok (.getfield 279, 3) := by decide +kernel
theorem dX7_shift_50 : decode cX7_shift 50 = .ok (.aload 7, 2) := by decide +kernel
theorem dX7_shift_52 : decode cX7_shift 52 = .ok (.getfield 279, 3) := by decide +kernel
theorem dX7_shift_55 : decode cX7_shift 55 = .ok (.if_icmp .eq 6, 3) := by decide +kernel
theorem dX7_shift_58 : decode cX7_shift 58 = .ok (.bipush (-12), 2) := by decide +kernel
theorem dX7_shift_60 : decode cX7_shift 60 = .ok (.ireturn, 1) := by decide +kernel
theorem dX7_shift_61 : decode cX7_shift 61 = .ok (.aload 6, 2) := by decide +kernel
theorem dX7_shift_63 : decode cX7_shift 63 = .ok (.iload_n 2, 1) := by decide +kernel
theorem dX7_shift_64 : decode cX7_shift 64 = .ok (.iload 5, 2) := by decide +kernel
theorem dX7_shift_66 : decode cX7_shift 66 = .ok (.invokevirtual 300, 3) := by decide +kernel
theorem dX7_shift_69 : decode cX7_shift 69 = .ok (.ifCond .eq 15, 3) := by decide +kernel
theorem dX7_shift_72 : decode cX7_shift 72 = .ok (.aload 7, 2) := by decide +kernel
theorem dX7_shift_74 : decode cX7_shift 74 = .ok (.iload 4, 2) := by decide +kernel
theorem dX7_shift_76 : decode cX7_shift 76 = .ok (.iload 5, 2) := by decide +kernel
theorem dX7_shift_78 : decode cX7_shift 78 = .ok (.invokevirtual 300, 3) := by decide +kernel
theorem dX7_shift_81 : decode cX7_shift 81 = .ok (.ifCond .ne 6, 3) := by decide +kernel
theorem dX7_shift_84 : decode cX7_shift 84 = .ok (.bipush (-13), 2) := by decide +kernel
theorem dX7_shift_86 : decode cX7_shift 86 = .ok (.ireturn, 1) := by decide +kernel
theorem dX7_shift_87 : decode cX7_shift 87 = .ok (.aload 6, 2) := by decide +kernel
theorem dX7_shift_89 : decode cX7_shift 89 = .ok (.getfield 285, 3) := by decide +kernel
theorem dX7_shift_92 : decode cX7_shift 92 = .ok (.iload_n 2, 1) := by decide +kernel
theorem dX7_shift_93 : decode cX7_shift 93 = .ok (.aload 7, 2) := by decide +kernel
theorem dX7_shift_95 : decode cX7_shift 95 = .ok (.getfield 285, 3) := by decide +kernel
theorem dX7_shift_98 : decode cX7_shift 98 = .ok (.iload 4, 2) := by decide +kernel
theorem dX7_shift_100 : decode cX7_shift 100 = .ok (.iload 5, 2) := by decide +kernel
theorem dX7_shift_102 : decode cX7_shift 102 = .ok (.invokestatic 303, 3) := by decide +kernel
theorem dX7_shift_105 : decode cX7_shift 105 = .ok (.iload 5, 2) := by decide +kernel
theorem dX7_shift_107 : decode cX7_shift 107 = .ok (.ireturn, 1) := by decide +kernel
theorem dX7_tapeAt_0 : decode cX7_tapeAt 0 = .ok (.iload_n 1, 1) := by decide +kernel
theorem dX7_tapeAt_1 : decode cX7_tapeAt 1 = .ok (.ifCond .lt 21, 3) := by decide +kernel
theorem dX7_tapeAt_4 : decode cX7_tapeAt 4 = .ok (.iload_n 1, 1) := by decide +kernel
theorem dX7_tapeAt_5 : decode cX7_tapeAt 5 = .ok (.aload_n 0, 1) := by decide +kernel
theorem dX7_tapeAt_6 : decode cX7_tapeAt 6 = .ok (.getfield 33, 3) := by decide +kernel
theorem dX7_tapeAt_9 : decode cX7_tapeAt 9 = .ok (.arraylength, 1) := by decide +kernel
theorem dX7_tapeAt_10 : decode cX7_tapeAt 10 = .ok (.if_icmp .ge 12, 3) := by decide +kernel
theorem dX7_tapeAt_13 : decode cX7_tapeAt 13 = .ok (.aload_n 0, 1) := by decide +kernel
theorem dX7_tapeAt_14 : decode cX7_tapeAt 14 = .ok (.getfield 33, 3) := by decide +kernel
theorem dX7_tapeAt_17 : decode cX7_tapeAt 17 = .ok (.iload_n 1, 1) := by decide +kernel
theorem dX7_tapeAt_18 : decode cX7_tapeAt 18 = .ok (.aaload, 1) := by decide +kernel
theorem dX7_tapeAt_19 : decode cX7_tapeAt 19 = .ok (.goto 4, 3) := by decide +kernel
theorem dX7_tapeAt_22 : decode cX7_tapeAt 22 = .ok (.aconst_null, 1) := by decide +kernel
theorem dX7_tapeAt_23 : decode cX7_tapeAt 23 = .ok (.areturn, 1) := by decide +kernel
set_option maxRecDepth 20000 in
theorem ggX7_doClause_X2_at : GoodIn wsX7_doClause wsX2_at := goodIn_r _ [9, 10, 11, 185, 186, 187] (by decide +kernel) (by decide +kernel)
set_option maxRecDepth 20000 in
theorem gX7_doClause_X2_at : GoodIn wsX7_doClause (wsV RX7 266 RX2 yX2_at wsX2_at) := goodIn_app (goodIn_of _ (by decide +kernel)) ggX7_doClause_X2_at
set_option maxRecDepth 20000 in
theorem ggX7_doClause_Jx29ce0_ordinal_8abf5 : GoodIn wsX7_doClause wsJx29ce0_ordinal_8abf5 := goodIn_r _ [17, 18] (by decide +kernel) (by decide +kernel)
set_option maxRecDepth 20000 in
theorem ggX7_doClause_X7_teams : GoodIn wsX7_doClause wsX7_teams := goodIn_r _ [23, 24, 25, 26, 27, 28, 29, 30, 31, 32, 33, 34, 35, 36, 37, 38, 39, 40, 41, 42, 43, 44, 45, 46, 47, 48, 49, 50, 51, 52, 53, 54, 55, 56, 57, 58, 59, 60, 22, 61, 62, 63, 64, 8, 65, 10, 174, 175, 176, 177, 178, 179, 188, 189, 190, 191, 192, 193, 194, 195, 196, 197, 198, 199, 200, 201, 202, 203, 185, 186, 187] (by decide +kernel) (by decide +kernel)
set_option maxRecDepth 20000 in
theorem gX7_doClause_X7_teams : GoodIn wsX7_doClause (wsV RX7 323 RX7 yX7_teams wsX7_teams) := goodIn_app (goodIn_of _ (by decide +kernel)) ggX7_doClause_X7_teams
set_option maxRecDepth 20000 in
theorem ggX7_doClause_X7_swap : GoodIn wsX7_doClause wsX7_swap := goodIn_r _ [69, 24, 25, 70, 71, 72, 30, 73, 32, 74, 75, 76, 40, 77, 42, 78, 53, 54, 55, 79, 80, 81, 82, 83, 22, 84, 85, 86, 87, 88, 89, 90, 91, 92, 93, 94, 95, 96, 97, 98, 99, 47, 52, 100, 101, 102, 103, 48, 43, 44, 45, 46, 49, 50, 51, 56, 57, 58, 59, 60, 61, 104, 105, 106, 107, 108, 109, 110, 111, 112, 113, 114, 115, 116, 117, 118, 119, 120, 121, 122, 123, 124, 125, 126, 127, 128, 129, 130, 174, 175, 176, 177, 178, 179, 188, 189, 190, 191, 192, 193, 194, 195, 196, 197, 198, 199, 200, 201, 202, 203] (by decide +kernel) (by decide +kernel)
set_option maxRecDepth 20000 in
theorem gX7_doClause_X7_swap : GoodIn wsX7_doClause (wsV RX7 326 RX7 yX7_swap wsX7_swap) := goodIn_app (goodIn_of _ (by decide +kernel)) ggX7_doClause_X7_swap
set_option maxRecDepth 20000 in
theorem ggX7_doClause_X7_turn : GoodIn wsX7_doClause wsX7_turn := goodIn_r _ [134, 24, 25, 70, 71, 72, 30, 73, 32, 74, 75, 76, 40, 77, 42, 78, 53, 54, 55, 79, 80, 81, 82, 83, 22, 84, 85, 86, 87, 88, 89, 90, 91, 92, 93, 94, 95, 96, 97, 98, 99, 47, 52, 100, 101, 102, 103, 48, 43, 44, 45, 46, 49, 50, 51, 56, 57, 58, 59, 60, 61, 104, 105, 106, 107, 108, 109, 110, 111, 112, 113, 114, 135, 174, 175, 176, 177, 178, 179, 188, 189, 190, 191, 192, 193, 194, 195, 196, 197, 198, 199, 200, 201, 202, 203] (by decide +kernel) (by decide +kernel)
set_option maxRecDepth 20000 in
theorem gX7_doClause_X7_turn : GoodIn wsX7_doClause (wsV RX7 329 RX7 yX7_turn wsX7_turn) := goodIn_app (goodIn_of _ (by decide +kernel)) ggX7_doClause_X7_turn
set_option maxRecDepth 20000 in
theorem ggX7_doClause_X7_exchange : GoodIn wsX7_doClause wsX7_exchange := goodIn_r _ [139, 24, 25, 26, 70, 71, 72, 30, 73, 32, 74, 75, 76, 40, 77, 42, 78, 53, 54, 55, 79, 80, 81, 82, 83, 22, 84, 85, 86, 87, 88, 89, 90, 91, 92, 93, 94, 95, 96, 97, 98, 99, 47, 52, 100, 101, 102, 103, 48, 43, 44, 45, 46, 49, 50, 51, 56, 57, 58, 59, 60, 61, 104, 105, 106, 107, 108, 109, 110, 111, 112, 113, 114, 140, 141, 142, 143, 144, 145, 146, 147, 127, 128, 129, 130, 174, 175, 176, 177, 178, 179, 188, 189, 190, 191, 192, 193, 194, 195, 196, 197, 198, 199, 200, 201, 202, 203] (by decide +kernel) (by decide +kernel)
set_option maxRecDepth 20000 in
theorem gX7_doClause_X7_exchange : GoodIn wsX7_doClause (wsV RX7 332 RX7 yX7_exchange wsX7_exchange) := goodIn_app (goodIn_of _ (by decide +kernel)) ggX7_doClause_X7_exchange
set_option maxRecDepth 20000 in
theorem ggX7_doClause_X7_bar : GoodIn wsX7_doClause wsX7_bar := goodIn_r _ [151, 24, 25, 152, 153, 128, 129, 40, 130, 42, 154, 60, 22, 61, 174, 175, 176, 177, 178, 179, 188, 189, 190, 191, 192, 193, 194, 195, 196, 197, 198, 199, 200, 201, 202, 203] (by decide +kernel) (by decide +kernel)
set_option maxRecDepth 20000 in
theorem gX7_doClause_X7_bar : GoodIn wsX7_doClause (wsV RX7 335 RX7 yX7_bar wsX7_bar) := goodIn_app (goodIn_of _ (by decide +kernel)) ggX7_doClause_X7_bar
set_option maxRecDepth 20000 in
theorem ggX7_doClause_X7_rate : GoodIn wsX7_doClause wsX7_rate := goodIn_r _ [158, 24, 159, 160, 83, 22, 84, 161, 85, 86, 87, 88, 89, 30, 90, 32, 91, 92, 93, 94, 40, 95, 42, 96, 97, 98, 99, 47, 52, 53, 54, 55, 100, 101, 102, 103, 48, 43, 44, 45, 46, 49, 50, 51, 56, 57, 58, 59, 60, 61, 104, 105, 106, 107, 108, 109, 110, 111, 112, 113, 114, 174, 175, 176, 177, 178, 179, 188, 189, 190, 191, 192, 193, 194, 195, 196, 197, 198, 199, 200, 201, 202, 203] (by decide +kernel) (by decide +kernel)
set_option maxRecDepth 20000 in
theorem gX7_doClause_X7_rate : GoodIn wsX7_doClause (wsV RX7 338 RX7 yX7_rate wsX7_rate) := goodIn_app (goodIn_of _ (by decide +kernel)) ggX7_doClause_X7_rate
set_option maxRecDepth 20000 in
theorem ggX7_doClause_X7_kind : GoodIn wsX7_doClause wsX7_kind := goodIn_r _ [165, 24, 166, 174, 175, 176, 177, 178, 179, 188, 189, 190, 191, 192, 193, 194, 195, 196] (by decide +kernel) (by decide +kernel)
set_option maxRecDepth 20000 in
theorem gX7_doClause_X7_kind : GoodIn wsX7_doClause (wsV RX7 341 RX7 yX7_kind wsX7_kind) := goodIn_app (goodIn_of _ (by decide +kernel)) ggX7_doClause_X7_kind
set_option maxRecDepth 20000 in
theorem ggX7_doClause_X7_ground : GoodIn wsX7_doClause wsX7_ground := goodIn_r _ [170, 24, 25, 171, 172, 173, 80, 81, 40, 82, 42, 161, 85, 22, 86, 174, 175, 176, 177, 178, 179, 188, 189, 190, 191, 192, 193, 194, 195, 196, 197, 198, 199, 200, 201, 202, 203] (by decide +kernel) (by decide +kernel)
set_option maxRecDepth 20000 in
theorem gX7_doClause_X7_ground : GoodIn wsX7_doClause (wsV RX7 344 RX7 yX7_ground wsX7_ground) := goodIn_app (goodIn_of _ (by decide +kernel)) ggX7_doClause_X7_ground
theorem dX7_doClause_0 : decode cX7_doClause 0 = .ok (.aload_n 0, 1) := by decide +kernel
theorem dX7_doClause_1 : decode cX7_doClause 1 = .ok (.getfield 27, 3) := by decide +kernel
theorem dX7_doClause_4 : decode cX7_doClause 4 = .ok (.getfield 115, 3) := by decide +kernel
theorem dX7_doClause_7 : decode cX7_doClause 7 = .ok (.astore_n 2, 1) := by decide +kernel
theorem dX7_doClause_8 : decode cX7_doClause 8 = .ok (.aload_n 2, 1) := by decide +kernel
theorem dX7_doClause_9 : decode cX7_doClause 9 = .ok (.iload_n 1, 1) := by decide +kernel
theorem dX7_doClause_10 : decode cX7_doClause 10 = .ok (.iconst 0, 1) := by decide +kernel
theorem dX7_doClause_11 : decode cX7_doClause 11 = .ok (.invokevirtual 266, 3) := by decide +kernel
theorem dX7_doClause_14 : decode cX7_doClause 14 = .ok (.istore_n 3, 1) := by decide +kernel
theorem dX7_doClause_15 : decode cX7_doClause 15 = .ok (.aload_n 2, 1) := by decide +kernel
theorem dX7_doClause_16 : decode cX7_doClause 16 = .ok (.iload_n 1, 1) := by decide +kernel
theorem dX7_doClause_17 : decode cX7_doClause 17 = .ok (.iconst 1, 1) := by decide +kernel
theorem dX7_doClause_18 : decode cX7_doClause 18 = .ok (.invokevirtual 266, 3) := by decide +kernel
theorem dX7_doClause_21 : decode cX7_doClause 21 = .ok (.istore 4, 2) := by decide +kernel
theorem dX7_doClause_23 : decode cX7_doClause 23 = .ok (.aload_n 2, 1) := by decide +kernel
theorem dX7_doClause_24 : decode cX7_doClause 24 = .ok (.iload_n 1, 1) := by decide +kernel
theorem dX7_doClause_25 : decode cX7_doClause 25 = .ok (.iconst 2, 1) := by decide +kernel
theorem dX7_doClause_26 : decode cX7_doClause 26 = .ok (.invokevirtual 266, 3) := by decide +kernel
theorem dX7_doClause_29 : decode cX7_doClause 29 = .ok (.istore 5, 2) := by decide +kernel
theorem dX7_doClause_31 : decode cX7_doClause 31 = .ok (.iload_n 3, 1) := by decide +kernel
theorem dX7_doClause_32 : decode cX7_doClause 32 = .ok (.ifCond .lt 11, 3) := by decide +kernel
theorem dX7_doClause_35 : decode cX7_doClause 35 = .ok (.iload_n 3, 1) := by decide +kernel
theorem dX7_doClause_36 : decode cX7_doClause 36 = .ok (.getstatic 309, 3) := by decide +kernel
theorem dX7_doClause_39 : decode cX7_doClause 39 = .ok (.arraylength, 1) := by decide +kernel
theorem dX7_doClause_40 : decode cX7_doClause 40 = .ok (.if_icmp .lt 5, 3) := by decide +kernel
theorem dX7_doClause_43 : decode cX7_doClause 43 = .ok (.iconst (-1), 1) := by decide +kernel
theorem dX7_doClause_44 : decode cX7_doClause 44 = .ok (.ireturn, 1) := by decide +kernel
theorem dX7_doClause_45 : decode cX7_doClause 45 = .ok (.getstatic 313, 3) := by decide +kernel
theorem dX7_doClause_48 : decode cX7_doClause 48 = .ok (.getstatic 309, 3) := by decide +kernel
theorem dX7_doClause_51 : decode cX7_doClause 51 = .ok (.iload_n 3, 1) := by decide +kernel
theorem dX7_doClause_52 : decode cX7_doClause 52 = .ok (.aaload, 1) := by decide +kernel
theorem dX7_doClause_53 : decode cX7_doClause 53 = .ok (.invokevirtual 318, 3) := by decide +kernel
theorem dX7_doClause_56 : decode cX7_doClause 56 = .ok (.iaload, 1) := by decide +kernel
theorem dX7_doClause_57 : decode cX7_doClause 57 = .ok (.tableswitch 121 1 8 #[47, 54, 63, 72, 81, 90, 99, 106], 47) := by decide +kernel
theorem dX7_doClause_104 : decode cX7_doClause 104 = .ok (.aload_n 0, 1) := by decide +kernel
theorem dX7_doClause_105 : decode cX7_doClause 105 = .ok (.iload 4, 2) := by decide +kernel
theorem dX7_doClause_107 : decode cX7_doClause 107 = .ok (.invokevirtual 323, 3) := by decide +kernel
theorem dX7_doClause_110 : decode cX7_doClause 110 = .ok (.ireturn, 1) := by decide +kernel
theorem dX7_doClause_111 : decode cX7_doClause 111 = .ok (.aload_n 0, 1) := by decide +kernel
theorem dX7_doClause_112 : decode cX7_doClause 112 = .ok (.iload 4, 2) := by decide +kernel
theorem dX7_doClause_114 : decode cX7_doClause 114 = .ok (.iload 5, 2) := by decide +kernel
theorem dX7_doClause_116 : decode cX7_doClause 116 = .ok (.invokevirtual 326, 3) := by decide +kernel
theorem dX7_doClause_119 : decode cX7_doClause 119 = .ok (.ireturn, 1) := by decide +kernel
theorem dX7_doClause_120 : decode cX7_doClause 120 = .ok (.aload_n 0, 1) := by decide +kernel
theorem dX7_doClause_121 : decode cX7_doClause 121 = .ok (.iload 4, 2) := by decide +kernel
theorem dX7_doClause_123 : decode cX7_doClause 123 = .ok (.iload 5, 2) := by decide +kernel
theorem dX7_doClause_125 : decode cX7_doClause 125 = .ok (.invokevirtual 329, 3) := by decide +kernel
theorem dX7_doClause_128 : decode cX7_doClause 128 = .ok (.ireturn, 1) := by decide +kernel
theorem dX7_doClause_129 : decode cX7_doClause 129 = .ok (.aload_n 0, 1) := by decide +kernel
theorem dX7_doClause_130 : decode cX7_doClause 130 = .ok (.iload 4, 2) := by decide +kernel
theorem dX7_doClause_132 : decode cX7_doClause 132 = .ok (.iload 5, 2) := by decide +kernel
theorem dX7_doClause_134 : decode cX7_doClause 134 = .ok (.invokevirtual 332, 3) := by decide +kernel
theorem dX7_doClause_137 : decode cX7_doClause 137 = .ok (.ireturn, 1) := by decide +kernel
theorem dX7_doClause_138 : decode cX7_doClause 138 = .ok (.aload_n 0, 1) := by decide +kernel
theorem dX7_doClause_139 : decode cX7_doClause 139 = .ok (.iload 4, 2) := by decide +kernel
theorem dX7_doClause_141 : decode cX7_doClause 141 = .ok (.iload 5, 2) := by decide +kernel
theorem dX7_doClause_143 : decode cX7_doClause 143 = .ok (.invokevirtual 335, 3) := by decide +kernel
theorem dX7_doClause_146 : decode cX7_doClause 146 = .ok (.ireturn, 1) := by decide +kernel
theorem dX7_doClause_147 : decode cX7_doClause 147 = .ok (.aload_n 0, 1) := by decide +kernel
theorem dX7_doClause_148 : decode cX7_doClause 148 = .ok (.iload 4, 2) := by decide +kernel
theorem dX7_doClause_150 : decode cX7_doClause 150 = .ok (.iload 5, 2) := by decide +kernel
theorem dX7_doClause_152 : decode cX7_doClause 152 = .ok (.invokevirtual 338, 3) := by decide +kernel
theorem dX7_doClause_155 : decode cX7_doClause 155 = .ok (.ireturn, 1) := by decide +kernel
theorem dX7_doClause_156 : decode cX7_doClause 156 = .ok (.aload_n 0, 1) := by decide +kernel
theorem dX7_doClause_157 : decode cX7_doClause 157 = .ok (.iload 4, 2) := by decide +kernel
theorem dX7_doClause_159 : decode cX7_doClause 159 = .ok (.invokevirtual 341, 3) := by decide +kernel
theorem dX7_doClause_162 : decode cX7_doClause 162 = .ok (.ireturn, 1) := by decide +kernel
theorem dX7_doClause_163 : decode cX7_doClause 163 = .ok (.aload_n 0, 1) := by decide +kernel
theorem dX7_doClause_164 : decode cX7_doClause 164 = .ok (.iload 4, 2) := by decide +kernel
theorem dX7_doClause_166 : decode cX7_doClause 166 = .ok (.iload 5, 2) := by decide +kernel
theorem dX7_doClause_168 : decode cX7_doClause 168 = .ok (.aload_n 2, 1) := by decide +kernel
theorem dX7_doClause_169 : decode cX7_doClause 169 = .ok (.iload_n 1, 1) := by decide +kernel
theorem dX7_doClause_170 : decode cX7_doClause 170 = .ok (.iconst 3, 1) := by decide +kernel
theorem dX7_doClause_171 : decode cX7_doClause 171 = .ok (.invokevirtual 266, 3) := by decide +kernel
theorem dX7_doClause_174 : decode cX7_doClause 174 = .ok (.invokevirtual 344, 3) := by decide +kernel
theorem dX7_doClause_177 : decode cX7_doClause 177 = .ok (.ireturn, 1) := by decide +kernel
theorem dX7_doClause_178 : decode cX7_doClause 178 = .ok (.iconst (-1), 1) := by decide +kernel
theorem dX7_doClause_179 : decode cX7_doClause 179 = .ok (.ireturn, 1) := by decide +kernel
theorem dX7_lowest_0 : decode cX7_lowest 0 = .ok (.iload_n 0, 1) := by decide +kernel
theorem dX7_lowest_1 : decode cX7_lowest 1 = .ok (.istore_n 3, 1) := by decide +kernel
theorem dX7_lowest_2 : decode cX7_lowest 2 = .ok (.iload_n 1, 1) := by decide +kernel
theorem dX7_lowest_3 : decode cX7_lowest 3 = .ok (.istore 4, 2) := by decide +kernel
theorem dX7_lowest_5 : decode cX7_lowest 5 = .ok (.iconst 0, 1) := by decide +kernel
theorem dX7_lowest_6 : decode cX7_lowest 6 = .ok (.istore 5, 2) := by decide +kernel
theorem dX7_lowest_8 : decode cX7_lowest 8 = .ok (.iload 5, 2) := by decide +kernel
theorem dX7_lowest_10 : decode cX7_lowest 10 = .ok (.bipush 64, 2) := by decide +kernel
theorem dX7_lowest_12 : decode cX7_lowest 12 = .ok (.if_icmp .ge 27, 3) := by decide +kernel
theorem dX7_lowest_15 : decode cX7_lowest 15 = .ok (.iload 4, 2) := by decide +kernel
theorem dX7_lowest_17 : decode cX7_lowest 17 = .ok (.ifCond .eq 22, 3) := by decide +kernel
theorem dX7_lowest_20 : decode cX7_lowest 20 = .ok (.iload_n 3, 1) := by decide +kernel
theorem dX7_lowest_21 : decode cX7_lowest 21 = .ok (.iload 4, 2) := by decide +kernel
theorem dX7_lowest_23 : decode cX7_lowest 23 = .ok (.irem, 1) := by decide +kernel
theorem dX7_lowest_24 : decode cX7_lowest 24 = .ok (.istore 6, 2) := by decide +kernel
theorem dX7_lowest_26 : decode cX7_lowest 26 = .ok (.iload 4, 2) := by decide +kernel
theorem dX7_lowest_28 : decode cX7_lowest 28 = .ok (.istore_n 3, 1) := by decide +kernel
theorem dX7_lowest_29 : decode cX7_lowest 29 = .ok (.iload 6, 2) := by decide +kernel
theorem dX7_lowest_31 : decode cX7_lowest 31 = .ok (.istore 4, 2) := by decide +kernel
theorem dX7_lowest_33 : decode cX7_lowest 33 = .ok (.iinc 5 1, 3) := by decide +kernel
theorem dX7_lowest_36 : decode cX7_lowest 36 = .ok (.goto (-28), 3) := by decide +kernel
theorem dX7_lowest_39 : decode cX7_lowest 39 = .ok (.iload_n 3, 1) := by decide +kernel
theorem dX7_lowest_40 : decode cX7_lowest 40 = .ok (.ifCond .ne 5, 3) := by decide +kernel
theorem dX7_lowest_43 : decode cX7_lowest 43 = .ok (.lconst 0, 1) := by decide +kernel
theorem dX7_lowest_44 : decode cX7_lowest 44 = .ok (.lreturn, 1) := by decide +kernel
theorem dX7_lowest_45 : decode cX7_lowest 45 = .ok (.iload_n 2, 1) := by decide +kernel
theorem dX7_lowest_46 : decode cX7_lowest 46 = .ok (.ifCond .ne 10, 3) := by decide +kernel
theorem dX7_lowest_49 : decode cX7_lowest 49 = .ok (.iload_n 0, 1) := by decide +kernel
theorem dX7_lowest_50 : decode cX7_lowest 50 = .ok (.iload_n 3, 1) := by decide +kernel
theorem dX7_lowest_51 : decode cX7_lowest 51 = .ok (.idiv, 1) := by decide +kernel
theorem dX7_lowest_52 : decode cX7_lowest 52 = .ok (.i2l, 1) := by decide +kernel
theorem dX7_lowest_53 : decode cX7_lowest 53 = .ok (.goto 7, 3) := by decide +kernel
theorem dX7_lowest_56 : decode cX7_lowest 56 = .ok (.iload_n 1, 1) := by decide +kernel
theorem dX7_lowest_57 : decode cX7_lowest 57 = .ok (.iload_n 3, 1) := by decide +kernel
theorem dX7_lowest_58 : decode cX7_lowest 58 = .ok (.idiv, 1) := by decide +kernel
theorem dX7_lowest_59 : decode cX7_lowest 59 = .ok (.i2l, 1) := by decide +kernel
theorem dX7_lowest_60 : decode cX7_lowest 60 = .ok (.lreturn, 1) := by decide +kernel
set_option maxRecDepth 20000 in
theorem ggX7_bitsOfFloat_X7_bitsOf : GoodIn wsX7_bitsOfFloat wsX7_bitsOf := goodIn_r _ [4, 5] (by decide +kernel) (by decide +kernel)
set_option maxRecDepth 20000 in
theorem gX7_bitsOfFloat_X7_bitsOf : GoodIn wsX7_bitsOfFloat (va_wsS RX7 347 yX7_bitsOf wsX7_bitsOf) := goodIn_app (goodIn_of _ (by decide +kernel)) ggX7_bitsOfFloat_X7_bitsOf
theorem dX7_bitsOfFloat_0 : decode cX7_bitsOfFloat 0 = .ok (.fload_n 0, 1) := by decide +kernel
theorem dX7_bitsOfFloat_1 : decode cX7_bitsOfFloat 1 = .ok (.f2d, 1) := by decide +kernel
theorem dX7_bitsOfFloat_2 : decode cX7_bitsOfFloat 2 = .ok (.bipush 127, 2) := by decide +kernel
theorem dX7_bitsOfFloat_4 : decode cX7_bitsOfFloat 4 = .ok (.bipush 23, 2) := by decide +kernel
theorem dX7_bitsOfFloat_6 : decode cX7_bitsOfFloat 6 = .ok (.invokestatic 347, 3) := by decide +kernel
theorem dX7_bitsOfFloat_9 : decode cX7_bitsOfFloat 9 = .ok (.lreturn, 1) := by decide +kernel
set_option maxRecDepth 20000 in
theorem ggX7_bitsOfDouble_X7_bitsOf : GoodIn wsX7_bitsOfDouble wsX7_bitsOf := goodIn_r _ [4, 5] (by decide +kernel) (by decide +kernel)
set_option maxRecDepth 20000 in
theorem gX7_bitsOfDouble_X7_bitsOf : GoodIn wsX7_bitsOfDouble (va_wsS RX7 347 yX7_bitsOf wsX7_bitsOf) := goodIn_app (goodIn_of _ (by decide +kernel)) ggX7_bitsOfDouble_X7_bitsOf
theorem dX7_bitsOfDouble_0 : decode cX7_bitsOfDouble 0 = .ok (.dload_n 0, 1) := by decide +kernel
theorem dX7_bitsOfDouble_1 : decode cX7_bitsOfDouble 1 = .ok (.sipush 1023, 3) := by decide +kernel
theorem dX7_bitsOfDouble_4 : decode cX7_bitsOfDouble 4 = .ok (.bipush 52, 2) := by decide +kernel
theorem dX7_bitsOfDouble_6 : decode cX7_bitsOfDouble 6 = .ok (.invokestatic 347, 3) := by decide +kernel
theorem dX7_bitsOfDouble_9 : decode cX7_bitsOfDouble 9 = .ok (.lreturn, 1) := by decide +kernel
theorem dX7_bitsOf_0 : decode cX7_bitsOf 0 = .ok (.dload_n 0, 1) := by decide +kernel
theorem dX7_bitsOf_1 : decode cX7_bitsOf 1 = .ok (.dconst 0, 1) := by decide +kernel
theorem dX7_bitsOf_2 : decode cX7_bitsOf 2 = .ok (.dcmp .l, 1) := by decide +kernel
theorem dX7_bitsOf_3 : decode cX7_bitsOf 3 = .ok (.ifCond .gt 5, 3) := by decide +kernel
theorem dX7_bitsOf_6 : decode cX7_bitsOf 6 = .ok (.lconst 0, 1) := by decide +kernel
theorem dX7_bitsOf_7 : decode cX7_bitsOf 7 = .ok (.lreturn, 1) := by decide +kernel
theorem dX7_bitsOf_8 : decode cX7_bitsOf 8 = .ok (.dload_n 0, 1) := by decide +kernel
theorem dX7_bitsOf_9 : decode cX7_bitsOf 9 = .ok (.dstore 4, 2) := by decide +kernel
theorem dX7_bitsOf_11 : decode cX7_bitsOf 11 = .ok (.iload_n 2, 1) := by decide +kernel
theorem dX7_bitsOf_12 : decode cX7_bitsOf 12 = .ok (.i2l, 1) := by decide +kernel
theorem dX7_bitsOf_13 : decode cX7_bitsOf 13 = .ok (.lstore 6, 2) := by decide +kernel
theorem dX7_bitsOf_15 : decode cX7_bitsOf 15 = .ok (.iconst 0, 1) := by decide +kernel
theorem dX7_bitsOf_16 : decode cX7_bitsOf 16 = .ok (.istore 8, 2) := by decide +kernel
theorem dX7_bitsOf_18 : decode cX7_bitsOf 18 = .ok (.iload 8, 2) := by decide +kernel
theorem dX7_bitsOf_20 : decode cX7_bitsOf 20 = .ok (.sipush 1100, 3) := by decide +kernel
theorem dX7_bitsOf_23 : decode cX7_bitsOf 23 = .ok (.if_icmp .ge 32, 3) := by decide +kernel
theorem dX7_bitsOf_26 : decode cX7_bitsOf 26 = .ok (.dload 4, 2) := by decide +kernel
theorem dX7_bitsOf_28 : decode cX7_bitsOf 28 = .ok (.ldc2_w 351, 3) := by decide +kernel
theorem dX7_bitsOf_31 : decode cX7_bitsOf 31 = .ok (.dcmp .l, 1) := by decide +kernel
theorem dX7_bitsOf_32 : decode cX7_bitsOf 32 = .ok (.ifCond .lt 23, 3) := by decide +kernel
theorem dX7_bitsOf_35 : decode cX7_bitsOf 35 = .ok (.dload 4, 2) := by decide +kernel
theorem dX7_bitsOf_37 : decode cX7_bitsOf 37 = .ok (.ldc2_w 351, 3) := by decide +kernel
theorem dX7_bitsOf_40 : decode cX7_bitsOf 40 = .ok (.ddiv, 1) := by decide +kernel
theorem dX7_bitsOf_41 : decode cX7_bitsOf 41 = .ok (.dstore 4, 2) := by decide +kernel
theorem dX7_bitsOf_43 : decode cX7_bitsOf 43 = .ok (.lload 6, 2) := by decide +kernel
theorem dX7_bitsOf_45 : decode cX7_bitsOf 45 = .ok (.lconst 1, 1) := by decide +kernel
theorem dX7_bitsOf_46 : decode cX7_bitsOf 46 = .ok (.ladd, 1) := by decide +kernel
theorem dX7_bitsOf_47 : decode cX7_bitsOf 47 = .ok (.lstore 6, 2) := by decide +kernel
theorem dX7_bitsOf_49 : decode cX7_bitsOf 49 = .ok (.iinc 8 1, 3) := by decide +kernel
theorem dX7_bitsOf_52 : decode cX7_bitsOf 52 = .ok (.goto (-34), 3) := by decide +kernel
theorem dX7_bitsOf_55 : decode cX7_bitsOf 55 = .ok (.iconst 0, 1) := by decide +kernel
theorem dX7_bitsOf_56 : decode cX7_bitsOf 56 = .ok (.istore 8, 2) := by decide +kernel
theorem dX7_bitsOf_58 : decode cX7_bitsOf 58 = .ok (.iload 8, 2) := by decide +kernel
theorem dX7_bitsOf_60 : decode cX7_bitsOf 60 = .ok (.sipush 1100, 3) := by decide +kernel
theorem dX7_bitsOf_63 : decode cX7_bitsOf 63 = .ok (.if_icmp .ge 30, 3) := by decide +kernel
theorem dX7_bitsOf_66 : decode cX7_bitsOf 66 = .ok (.dload 4, 2) := by decide +kernel
theorem dX7_bitsOf_68 : decode cX7_bitsOf 68 = .ok (.dconst 1, 1) := by decide +kernel
theorem dX7_bitsOf_69 : decode cX7_bitsOf 69 = .ok (.dcmp .g, 1) := by decide +kernel
theorem dX7_bitsOf_70 : decode cX7_bitsOf 70 = .ok (.ifCond .ge 23, 3) := by decide +kernel
theorem dX7_bitsOf_73 : decode cX7_bitsOf 73 = .ok (.dload 4, 2) := by decide +kernel
theorem dX7_bitsOf_75 : decode cX7_bitsOf 75 = .ok (.ldc2_w 351, 3) := by decide +kernel
theorem dX7_bitsOf_78 : decode cX7_bitsOf 78 = .ok (.dmul, 1) := by decide +kernel
theorem dX7_bitsOf_79 : decode cX7_bitsOf 79 = .ok (.dstore 4, 2) := by decide +kernel
theorem dX7_bitsOf_81 : decode cX7_bitsOf 81 = .ok (.lload 6, 2) := by decide +kernel
theorem dX7_bitsOf_83 : decode cX7_bitsOf 83 = .ok (.lconst 1, 1) := by decide +kernel
theorem dX7_bitsOf_84 : decode cX7_bitsOf 84 = .ok (.lsub, 1) := by decide +kernel
theorem dX7_bitsOf_85 : decode cX7_bitsOf 85 = .ok (.lstore 6, 2) := by decide +kernel
theorem dX7_bitsOf_87 : decode cX7_bitsOf 87 = .ok (.iinc 8 1, 3) := by decide +kernel
theorem dX7_bitsOf_90 : decode cX7_bitsOf 90 = .ok (.goto (-32), 3) := by decide +kernel
theorem dX7_bitsOf_93 : decode cX7_bitsOf 93 = .ok (.lload 6, 2) := by decide +kernel
theorem dX7_bitsOf_95 : decode cX7_bitsOf 95 = .ok (.iload_n 3, 1) := by decide +kernel
theorem dX7_bitsOf_96 : decode cX7_bitsOf 96 = .ok (.lshl, 1) := by decide +kernel
theorem dX7_bitsOf_97 : decode cX7_bitsOf 97 = .ok (.dload 4, 2) := by decide +kernel
theorem dX7_bitsOf_99 : decode cX7_bitsOf 99 = .ok (.dconst 1, 1) := by decide +kernel
theorem dX7_bitsOf_100 : decode cX7_bitsOf 100 = .ok (.dsub, 1) := by decide +kernel
theorem dX7_bitsOf_101 : decode cX7_bitsOf 101 = .ok (.lconst 1, 1) := by decide +kernel
theorem dX7_bitsOf_102 : decode cX7_bitsOf 102 = .ok (.iload_n 3, 1) := by decide +kernel
theorem dX7_bitsOf_103 : decode cX7_bitsOf 103 = .ok (.lshl, 1) := by decide +kernel
theorem dX7_bitsOf_104 : decode cX7_bitsOf 104 = .ok (.l2d, 1) := by decide +kernel
theorem dX7_bitsOf_105 : decode cX7_bitsOf 105 = .ok (.dmul, 1) := by decide +kernel
theorem dX7_bitsOf_106 : decode cX7_bitsOf 106 = .ok (.d2l, 1) := by decide +kernel
theorem dX7_bitsOf_107 : decode cX7_bitsOf 107 = .ok (.ladd, 1) := by decide +kernel
theorem dX7_bitsOf_108 : decode cX7_bitsOf 108 = .ok (.lreturn, 1) := by decide +kernel
