set_option maxRecDepth 20000 in
theorem ggX7_init_X3_init : GoodIn wsX7_init wsX3_init := goodIn_r _ [20, 21, 2, 3, 22, 23, 24, 25, 26, 27, 28, 29, 30, 31, 32, 33, 34, 35, 36, 37, 38, 39, 40, 41, 42, 43, 44, 45, 46, 47, 48, 49, 50, 51, 52, 53, 54, 55, 56, 57, 58, 59, 60, 61, 62, 63, 64, 65, 66, 67, 68, 69, 70, 71, 72, 73, 74, 75, 76, 115, 116, 117, 118, 119, 120, 121, 92, 93, 94, 95, 96, 97, 98, 99, 100, 122, 123, 124] (by decide +kernel) (by decide +kernel)
set_option maxRecDepth 20000 in
theorem gX7_init_X3_init : GoodIn wsX7_init (wsX3_init) := ggX7_init_X3_init
set_option maxRecDepth 20000 in
theorem ggX7_init_X5_init : GoodIn wsX7_init wsX5_init := goodIn_r _ [78, 79, 2, 3, 80, 81, 82, 33, 34, 83, 26, 84, 85, 48, 49, 50, 51, 52, 53, 54, 55, 56, 107, 108, 109, 110, 111, 122, 123, 124] (by decide +kernel) (by decide +kernel)
set_option maxRecDepth 20000 in
theorem gX7_init_X5_init_n26 : GoodIn wsX7_init (wsX5_init) := ggX7_init_X5_init
set_option maxRecDepth 20000 in
theorem ggX7_init_X4_init : GoodIn wsX7_init wsX4_init := goodIn_r _ [87, 88, 2, 3, 89, 90, 91, 112, 113, 114] (by decide +kernel) (by decide +kernel)
set_option maxRecDepth 20000 in
theorem gX7_init_X4_init_n37 : GoodIn wsX7_init (wsX4_init) := ggX7_init_X4_init
theorem dX7_init_0 : decode cX7_init 0 = .ok (.aload_n 0, 1) := by decide +kernel
theorem dX7_init_1 : decode cX7_init 1 = .ok (.invokespecial 3, 3) := by decide +kernel
theorem dX7_init_4 : decode cX7_init 4 = .ok (.aload_n 0, 1) := by decide +kernel
theorem dX7_init_5 : decode cX7_init 5 = .ok (.new 9, 3) := by decide +kernel
theorem dX7_init_8 : decode cX7_init 8 = .ok (.dup, 1) := by decide +kernel
theorem dX7_init_9 : decode cX7_init 9 = .ok (.invokespecial 11, 3) := by decide +kernel
theorem dX7_init_12 : decode cX7_init 12 = .ok (.putfield 12, 3) := by decide +kernel
theorem dX7_init_15 : decode cX7_init 15 = .ok (.aload_n 0, 1) := by decide +kernel
theorem dX7_init_16 : decode cX7_init 16 = .ok (.new 9, 3) := by decide +kernel
theorem dX7_init_19 : decode cX7_init 19 = .ok (.dup, 1) := by decide +kernel
theorem dX7_init_20 : decode cX7_init 20 = .ok (.invokespecial 11, 3) := by decide +kernel
theorem dX7_init_23 : decode cX7_init 23 = .ok (.putfield 18, 3) := by decide +kernel
theorem dX7_init_26 : decode cX7_init 26 = .ok (.aload_n 0, 1) := by decide +kernel
theorem dX7_init_27 : decode cX7_init 27 = .ok (.new 9, 3) := by decide +kernel
theorem dX7_init_30 : decode cX7_init 30 = .ok (.dup, 1) := by decide +kernel
theorem dX7_init_31 : decode cX7_init 31 = .ok (.invokespecial 11, 3) := by decide +kernel
theorem dX7_init_34 : decode cX7_init 34 = .ok (.putfield 21, 3) := by decide +kernel
theorem dX7_init_37 : decode cX7_init 37 = .ok (.aload_n 0, 1) := by decide +kernel
theorem dX7_init_38 : decode cX7_init 38 = .ok (.new 24, 3) := by decide +kernel
theorem dX7_init_41 : decode cX7_init 41 = .ok (.dup, 1) := by decide +kernel
theorem dX7_init_42 : decode cX7_init 42 = .ok (.invokespecial 26, 3) := by decide +kernel
theorem dX7_init_45 : decode cX7_init 45 = .ok (.putfield 27, 3) := by decide +kernel
theorem dX7_init_48 : decode cX7_init 48 = .ok (.aload_n 0, 1) := by decide +kernel
theorem dX7_init_49 : decode cX7_init 49 = .ok (.bipush 6, 2) := by decide +kernel
theorem dX7_init_51 : decode cX7_init 51 = .ok (.anewarray 31, 3) := by decide +kernel
theorem dX7_init_54 : decode cX7_init 54 = .ok (.putfield 33, 3) := by decide +kernel
theorem dX7_init_57 : decode cX7_init 57 = .ok (.iconst 0, 1) := by decide +kernel
theorem dX7_init_58 : decode cX7_init 58 = .ok (.istore_n 1, 1) := by decide +kernel
theorem dX7_init_59 : decode cX7_init 59 = .ok (.iload_n 1, 1) := by decide +kernel
theorem dX7_init_60 : decode cX7_init 60 = .ok (.bipush 6, 2) := by decide +kernel
theorem dX7_init_62 : decode cX7_init 62 = .ok (.if_icmp .ge 22, 3) := by decide +kernel
theorem dX7_init_65 : decode cX7_init 65 = .ok (.aload_n 0, 1) := by decide +kernel
theorem dX7_init_66 : decode cX7_init 66 = .ok (.getfield 33, 3) := by decide +kernel
theorem dX7_init_69 : decode cX7_init 69 = .ok (.iload_n 1, 1) := by decide +kernel
theorem dX7_init_70 : decode cX7_init 70 = .ok (.new 31, 3) := by decide +kernel
theorem dX7_init_73 : decode cX7_init 73 = .ok (.dup, 1) := by decide +kernel
theorem dX7_init_74 : decode cX7_init 74 = .ok (.invokespecial 37, 3) := by decide +kernel
theorem dX7_init_77 : decode cX7_init 77 = .ok (.aastore, 1) := by decide +kernel
theorem dX7_init_78 : decode cX7_init 78 = .ok (.iinc 1 1, 3) := by decide +kernel
theorem dX7_init_81 : decode cX7_init 81 = .ok (.goto (-22), 3) := by decide +kernel
theorem dX7_init_84 : decode cX7_init 84 = .ok (.return_, 1) := by decide +kernel
set_option maxRecDepth 20000 in
theorem ggX7_teams_X3_startAnew : GoodIn wsX7_teams wsX3_startAnew := goodIn_r _ [8, 9, 10, 11, 12, 13, 14, 15, 16, 17, 18, 19, 20, 21, 22, 23, 24, 25, 26, 27, 28, 29, 30, 31, 32, 33, 34, 35, 36, 37, 38, 39, 40, 41, 42, 43, 44, 45, 52, 53, 54, 55, 56, 57, 58, 59, 60, 61, 62, 63, 64, 65, 66, 67, 68, 69, 70] (by decide +kernel) (by decide +kernel)
set_option maxRecDepth 20000 in
theorem gX7_teams_X3_startAnew : GoodIn wsX7_teams (wsV RX7 48 RX3 yX3_startAnew wsX3_startAnew) := goodIn_app (goodIn_of _ (by decide +kernel)) ggX7_teams_X3_startAnew
theorem dX7_teams_0 : decode cX7_teams 0 = .ok (.iload_n 1, 1) := by decide +kernel
theorem dX7_teams_1 : decode cX7_teams 1 = .ok (.iconst 4, 1) := by decide +kernel
theorem dX7_teams_2 : decode cX7_teams 2 = .ok (.if_icmp .eq 12, 3) := by decide +kernel
theorem dX7_teams_5 : decode cX7_teams 5 = .ok (.iload_n 1, 1) := by decide +kernel
theorem dX7_teams_6 : decode cX7_teams 6 = .ok (.bipush 6, 2) := by decide +kernel
theorem dX7_teams_8 : decode cX7_teams 8 = .ok (.if_icmp .eq 6, 3) := by decide +kernel
theorem dX7_teams_11 : decode cX7_teams 11 = .ok (.bipush (-2), 2) := by decide +kernel
theorem dX7_teams_13 : decode cX7_teams 13 = .ok (.ireturn, 1) := by decide +kernel
theorem dX7_teams_14 : decode cX7_teams 14 = .ok (.aload_n 0, 1) := by decide +kernel
theorem dX7_teams_15 : decode cX7_teams 15 = .ok (.getfield 12, 3) := by decide +kernel
theorem dX7_teams_18 : decode cX7_teams 18 = .ok (.getfield 38, 3) := by decide +kernel
theorem dX7_teams_21 : decode cX7_teams 21 = .ok (.getfield 42, 3) := by decide +kernel
theorem dX7_teams_24 : decode cX7_teams 24 = .ok (.istore_n 2, 1) := by decide +kernel
theorem dX7_teams_25 : decode cX7_teams 25 = .ok (.aload_n 0, 1) := by decide +kernel
theorem dX7_teams_26 : decode cX7_teams 26 = .ok (.getfield 12, 3) := by decide +kernel
theorem dX7_teams_29 : decode cX7_teams 29 = .ok (.iload_n 1, 1) := by decide +kernel
theorem dX7_teams_30 : decode cX7_teams 30 = .ok (.invokevirtual 48, 3) := by decide +kernel
theorem dX7_teams_33 : decode cX7_teams 33 = .ok (.iload_n 2, 1) := by decide +kernel
theorem dX7_teams_34 : decode cX7_teams 34 = .ok (.ireturn, 1) := by decide +kernel
set_option maxRecDepth 20000 in
theorem ggX7_ground_X1_hasTeam : GoodIn wsX7_ground wsX1_hasTeam := goodIn_r _ [9, 10, 30, 31, 32, 33, 34, 35, 36] (by decide +kernel) (by decide +kernel)
set_option maxRecDepth 20000 in
theorem gX7_ground_X1_hasTeam : GoodIn wsX7_ground (wsV RX7 52 RX1 yX1_hasTeam wsX1_hasTeam) := goodIn_app (goodIn_of _ (by decide +kernel)) ggX7_ground_X1_hasTeam
set_option maxRecDepth 20000 in
theorem ggX7_ground_X7_isNumber : GoodIn wsX7_ground wsX7_isNumber := goodIn_r _ [14] (by decide +kernel) (by decide +kernel)
set_option maxRecDepth 20000 in
theorem gX7_ground_X7_isNumber : GoodIn wsX7_ground (va_wsS RX7 56 yX7_isNumber wsX7_isNumber) := goodIn_app (goodIn_of _ (by decide +kernel)) ggX7_ground_X7_isNumber
theorem dX7_ground_0 : decode cX7_ground 0 = .ok (.aload_n 0, 1) := by decide +kernel
theorem dX7_ground_1 : decode cX7_ground 1 = .ok (.getfield 12, 3) := by decide +kernel
theorem dX7_ground_4 : decode cX7_ground 4 = .ok (.getfield 38, 3) := by decide +kernel
theorem dX7_ground_7 : decode cX7_ground 7 = .ok (.iload_n 1, 1) := by decide +kernel
theorem dX7_ground_8 : decode cX7_ground 8 = .ok (.invokevirtual 52, 3) := by decide +kernel
theorem dX7_ground_11 : decode cX7_ground 11 = .ok (.ifCond .ne 5, 3) := by decide +kernel
theorem dX7_ground_14 : decode cX7_ground 14 = .ok (.iconst (-1), 1) := by decide +kernel
theorem dX7_ground_15 : decode cX7_ground 15 = .ok (.ireturn, 1) := by decide +kernel
theorem dX7_ground_16 : decode cX7_ground 16 = .ok (.iload_n 2, 1) := by decide +kernel
theorem dX7_ground_17 : decode cX7_ground 17 = .ok (.invokestatic 56, 3) := by decide +kernel
theorem dX7_ground_20 : decode cX7_ground 20 = .ok (.ifCond .eq 10, 3) := by decide +kernel
theorem dX7_ground_23 : decode cX7_ground 23 = .ok (.iload_n 3, 1) := by decide +kernel
theorem dX7_ground_24 : decode cX7_ground 24 = .ok (.invokestatic 56, 3) := by decide +kernel
theorem dX7_ground_27 : decode cX7_ground 27 = .ok (.ifCond .ne 6, 3) := by decide +kernel
theorem dX7_ground_30 : decode cX7_ground 30 = .ok (.bipush (-2), 2) := by decide +kernel
theorem dX7_ground_32 : decode cX7_ground 32 = .ok (.ireturn, 1) := by decide +kernel
theorem dX7_ground_33 : decode cX7_ground 33 = .ok (.bipush 100, 2) := by decide +kernel
theorem dX7_ground_35 : decode cX7_ground 35 = .ok (.aload_n 0, 1) := by decide +kernel
theorem dX7_ground_36 : decode cX7_ground 36 = .ok (.getfield 12, 3) := by decide +kernel
theorem dX7_ground_39 : decode cX7_ground 39 = .ok (.getfield 59, 3) := by decide +kernel
theorem dX7_ground_42 : decode cX7_ground 42 = .ok (.iload_n 1, 1) := by decide +kernel
theorem dX7_ground_43 : decode cX7_ground 43 = .ok (.iaload, 1) := by decide +kernel
theorem dX7_ground_44 : decode cX7_ground 44 = .ok (.imul, 1) := by decide +kernel
theorem dX7_ground_45 : decode cX7_ground 45 = .ok (.aload_n 0, 1) := by decide +kernel
theorem dX7_ground_46 : decode cX7_ground 46 = .ok (.getfield 12, 3) := by decide +kernel
theorem dX7_ground_49 : decode cX7_ground 49 = .ok (.getfield 63, 3) := by decide +kernel
theorem dX7_ground_52 : decode cX7_ground 52 = .ok (.iload_n 1, 1) := by decide +kernel
theorem dX7_ground_53 : decode cX7_ground 53 = .ok (.iaload, 1) := by decide +kernel
theorem dX7_ground_54 : decode cX7_ground 54 = .ok (.iadd, 1) := by decide +kernel
theorem dX7_ground_55 : decode cX7_ground 55 = .ok (.istore 4, 2) := by decide +kernel
theorem dX7_ground_57 : decode cX7_ground 57 = .ok (.aload_n 0, 1) := by decide +kernel
theorem dX7_ground_58 : decode cX7_ground 58 = .ok (.getfield 12, 3) := by decide +kernel
theorem dX7_ground_61 : decode cX7_ground 61 = .ok (.getfield 59, 3) := by decide +kernel
theorem dX7_ground_64 : decode cX7_ground 64 = .ok (.iload_n 1, 1) := by decide +kernel
theorem dX7_ground_65 : decode cX7_ground 65 = .ok (.iload_n 2, 1) := by decide +kernel
theorem dX7_ground_66 : decode cX7_ground 66 = .ok (.iastore, 1) := by decide +kernel
theorem dX7_ground_67 : decode cX7_ground 67 = .ok (.aload_n 0, 1) := by decide +kernel
theorem dX7_ground_68 : decode cX7_ground 68 = .ok (.getfield 12, 3) := by decide +kernel
theorem dX7_ground_71 : decode cX7_ground 71 = .ok (.getfield 63, 3) := by decide +kernel
theorem dX7_ground_74 : decode cX7_ground 74 = .ok (.iload_n 1, 1) := by decide +kernel
theorem dX7_ground_75 : decode cX7_ground 75 = .ok (.iload_n 3, 1) := by decide +kernel
theorem dX7_ground_76 : decode cX7_ground 76 = .ok (.iastore, 1) := by decide +kernel
theorem dX7_ground_77 : decode cX7_ground 77 = .ok (.iload 4, 2) := by decide +kernel
theorem dX7_ground_79 : decode cX7_ground 79 = .ok (.ireturn, 1) := by decide +kernel
set_option maxRecDepth 20000 in
theorem ggX7_swap_X3_mayChange : GoodIn wsX7_swap wsX3_mayChange := goodIn_r _ [7, 8, 9, 10, 11, 12, 13, 14, 15, 16, 17, 18, 19, 20, 21, 22, 23, 24, 25, 26, 27, 94, 95, 96, 97, 98, 99, 100, 101, 102, 103, 104, 105, 106, 107, 108, 109] (by decide +kernel) (by decide +kernel)
set_option maxRecDepth 20000 in
theorem gX7_swap_X3_mayChange : GoodIn wsX7_swap (wsV RX7 66 RX3 yX3_mayChange wsX3_mayChange) := goodIn_app (goodIn_of _ (by decide +kernel)) ggX7_swap_X3_mayChange
set_option maxRecDepth 20000 in
theorem ggX7_swap_X3_change : GoodIn wsX7_swap wsX3_change := goodIn_r _ [31, 8, 32, 33, 34, 35, 12, 36, 14, 37, 38, 39, 40, 41, 42, 16, 17, 18, 43, 44, 45, 46, 47, 48, 49, 50, 51, 52, 53, 54, 55, 56, 57, 58, 59, 24, 60, 61, 62, 63, 64, 65, 66, 67, 68, 69, 70, 71, 23, 25, 94, 95, 96, 97, 98, 99, 100, 101, 102, 103, 104, 105, 106, 107, 108, 109] (by decide +kernel) (by decide +kernel)
set_option maxRecDepth 20000 in
theorem gX7_swap_X3_change : GoodIn wsX7_swap (wsV RX7 70 RX3 yX3_change wsX3_change) := goodIn_app (goodIn_of _ (by decide +kernel)) ggX7_swap_X3_change
set_option maxRecDepth 20000 in
theorem ggX7_swap_X1_allBreaks : GoodIn wsX7_swap wsX1_allBreaks := goodIn_r _ [75, 14, 76, 77, 78, 12, 79, 80, 81, 82, 83, 53, 84, 85, 86, 87, 59, 24, 60, 103, 104, 105, 106, 107, 108, 109] (by decide +kernel) (by decide +kernel)
set_option maxRecDepth 20000 in
theorem gX7_swap_X1_allBreaks : GoodIn wsX7_swap (wsV RX7 74 RX1 yX1_allBreaks wsX1_allBreaks) := goodIn_app (goodIn_of _ (by decide +kernel)) ggX7_swap_X1_allBreaks
theorem dX7_swap_0 : decode cX7_swap 0 = .ok (.aload_n 0, 1) := by decide +kernel
theorem dX7_swap_1 : decode cX7_swap 1 = .ok (.getfield 12, 3) := by decide +kernel
theorem dX7_swap_4 : decode cX7_swap 4 = .ok (.iconst 0, 1) := by decide +kernel
theorem dX7_swap_5 : decode cX7_swap 5 = .ok (.iload_n 1, 1) := by decide +kernel
theorem dX7_swap_6 : decode cX7_swap 6 = .ok (.iload_n 2, 1) := by decide +kernel
theorem dX7_swap_7 : decode cX7_swap 7 = .ok (.invokevirtual 66, 3) := by decide +kernel
theorem dX7_swap_10 : decode cX7_swap 10 = .ok (.ifCond .ne 5, 3) := by decide +kernel
theorem dX7_swap_13 : decode cX7_swap 13 = .ok (.iconst (-1), 1) := by decide +kernel
theorem dX7_swap_14 : decode cX7_swap 14 = .ok (.ireturn, 1) := by decide +kernel
theorem dX7_swap_15 : decode cX7_swap 15 = .ok (.aload_n 0, 1) := by decide +kernel
theorem dX7_swap_16 : decode cX7_swap 16 = .ok (.getfield 12, 3) := by decide +kernel
theorem dX7_swap_19 : decode cX7_swap 19 = .ok (.iconst 0, 1) := by decide +kernel
theorem dX7_swap_20 : decode cX7_swap 20 = .ok (.iload_n 1, 1) := by decide +kernel
theorem dX7_swap_21 : decode cX7_swap 21 = .ok (.iload_n 2, 1) := by decide +kernel
theorem dX7_swap_22 : decode cX7_swap 22 = .ok (.invokevirtual 70, 3) := by decide +kernel
theorem dX7_swap_25 : decode cX7_swap 25 = .ok (.aload_n 0, 1) := by decide +kernel
theorem dX7_swap_26 : decode cX7_swap 26 = .ok (.getfield 12, 3) := by decide +kernel
theorem dX7_swap_29 : decode cX7_swap 29 = .ok (.getfield 38, 3) := by decide +kernel
theorem dX7_swap_32 : decode cX7_swap 32 = .ok (.invokevirtual 74, 3) := by decide +kernel
theorem dX7_swap_35 : decode cX7_swap 35 = .ok (.ireturn, 1) := by decide +kernel
set_option maxRecDepth 20000 in
theorem ggX7_turn_X3_mayChange : GoodIn wsX7_turn wsX3_mayChange := goodIn_r _ [7, 8, 9, 10, 11, 12, 13, 14, 15, 16, 17, 18, 19, 20, 21, 22, 23, 24, 25, 26, 27, 79, 80, 81, 82, 83, 84, 85, 86, 87, 88, 89, 90, 91, 92, 93, 94] (by decide +kernel) (by decide +kernel)
set_option maxRecDepth 20000 in
theorem gX7_turn_X3_mayChange : GoodIn wsX7_turn (wsV RX7 66 RX3 yX3_mayChange wsX3_mayChange) := goodIn_app (goodIn_of _ (by decide +kernel)) ggX7_turn_X3_mayChange
set_option maxRecDepth 20000 in
theorem ggX7_turn_X3_change : GoodIn wsX7_turn wsX3_change := goodIn_r _ [31, 8, 32, 33, 34, 35, 12, 36, 14, 37, 38, 39, 40, 41, 42, 16, 17, 18, 43, 44, 45, 46, 47, 48, 49, 50, 51, 52, 53, 54, 55, 56, 57, 58, 59, 24, 60, 61, 62, 63, 64, 65, 66, 67, 68, 69, 70, 71, 23, 25, 79, 80, 81, 82, 83, 84, 85, 86, 87, 88, 89, 90, 91, 92, 93, 94] (by decide +kernel) (by decide +kernel)
set_option maxRecDepth 20000 in
theorem gX7_turn_X3_change : GoodIn wsX7_turn (wsV RX7 70 RX3 yX3_change wsX3_change) := goodIn_app (goodIn_of _ (by decide +kernel)) ggX7_turn_X3_change
set_option maxRecDepth 20000 in
theorem ggX7_turn_X1_homeOf : GoodIn wsX7_turn wsX1_homeOf := goodIn_r _ [40, 41, 42, 16, 17, 12, 18, 14, 88, 89, 90, 91, 92, 93, 94] (by decide +kernel) (by decide +kernel)
set_option maxRecDepth 20000 in
theorem gX7_turn_X1_homeOf : GoodIn wsX7_turn (wsV RX7 78 RX1 yX1_homeOf wsX1_homeOf) := goodIn_app (goodIn_of _ (by decide +kernel)) ggX7_turn_X1_homeOf
theorem dX7_turn_0 : decode cX7_turn 0 = .ok (.aload_n 0, 1) := by decide +kernel
theorem dX7_turn_1 : decode cX7_turn 1 = .ok (.getfield 12, 3) := by decide +kernel
theorem dX7_turn_4 : decode cX7_turn 4 = .ok (.iconst 1, 1) := by decide +kernel
theorem dX7_turn_5 : decode cX7_turn 5 = .ok (.iload_n 1, 1) := by decide +kernel
theorem dX7_turn_6 : decode cX7_turn 6 = .ok (.iload_n 2, 1) := by decide +kernel
theorem dX7_turn_7 : decode cX7_turn 7 = .ok (.invokevirtual 66, 3) := by decide +kernel
theorem dX7_turn_10 : decode cX7_turn 10 = .ok (.ifCond .ne 5, 3) := by decide +kernel
theorem dX7_turn_13 : decode cX7_turn 13 = .ok (.iconst (-1), 1) := by decide +kernel
theorem dX7_turn_14 : decode cX7_turn 14 = .ok (.ireturn, 1) := by decide +kernel
theorem dX7_turn_15 : decode cX7_turn 15 = .ok (.aload_n 0, 1) := by decide +kernel
theorem dX7_turn_16 : decode cX7_turn 16 = .ok (.getfield 12, 3) := by decide +kernel
theorem dX7_turn_19 : decode cX7_turn 19 = .ok (.iconst 1, 1) := by decide +kernel
theorem dX7_turn_20 : decode cX7_turn 20 = .ok (.iload_n 1, 1) := by decide +kernel
theorem dX7_turn_21 : decode cX7_turn 21 = .ok (.iload_n 2, 1) := by decide +kernel
theorem dX7_turn_22 : decode cX7_turn 22 = .ok (.invokevirtual 70, 3) := by decide +kernel
theorem dX7_turn_25 : decode cX7_turn 25 = .ok (.aload_n 0, 1) := by decide +kernel
theorem dX7_turn_26 : decode cX7_turn 26 = .ok (.getfield 12, 3) := by decide +kernel
theorem dX7_turn_29 : decode cX7_turn 29 = .ok (.getfield 38, 3) := by decide +kernel
theorem dX7_turn_32 : decode cX7_turn 32 = .ok (.iload_n 1, 1) := by decide +kernel
theorem dX7_turn_33 : decode cX7_turn 33 = .ok (.iload_n 2, 1) := by decide +kernel
theorem dX7_turn_34 : decode cX7_turn 34 = .ok (.invokevirtual 78, 3) := by decide +kernel
theorem dX7_turn_37 : decode cX7_turn 37 = .ok (.ireturn, 1) := by decide +kernel
set_option maxRecDepth 20000 in
theorem ggX7_exchange_X3_mayChange : GoodIn wsX7_exchange wsX3_mayChange := goodIn_r _ [8, 9, 10, 11, 12, 13, 14, 15, 16, 17, 18, 19, 20, 21, 22, 23, 24, 25, 26, 27, 28, 91, 92, 93, 94, 95, 96, 97, 98, 99, 100, 101, 102, 103, 104, 105, 106] (by decide +kernel) (by decide +kernel)
set_option maxRecDepth 20000 in
theorem gX7_exchange_X3_mayChange : GoodIn wsX7_exchange (wsV RX7 66 RX3 yX3_mayChange wsX3_mayChange) := goodIn_app (goodIn_of _ (by decide +kernel)) ggX7_exchange_X3_mayChange
set_option maxRecDepth 20000 in
theorem ggX7_exchange_X3_change : GoodIn wsX7_exchange wsX3_change := goodIn_r _ [32, 9, 33, 34, 35, 36, 13, 37, 15, 38, 39, 40, 41, 42, 43, 17, 18, 19, 44, 45, 46, 47, 48, 49, 50, 51, 52, 53, 54, 55, 56, 57, 58, 59, 60, 25, 61, 62, 63, 64, 65, 66, 67, 68, 69, 70, 71, 72, 24, 26, 91, 92, 93, 94, 95, 96, 97, 98, 99, 100, 101, 102, 103, 104, 105, 106] (by decide +kernel) (by decide +kernel)
set_option maxRecDepth 20000 in
theorem gX7_exchange_X3_change : GoodIn wsX7_exchange (wsV RX7 70 RX3 yX3_change wsX3_change) := goodIn_app (goodIn_of _ (by decide +kernel)) ggX7_exchange_X3_change
set_option maxRecDepth 20000 in
theorem ggX7_exchange_X1_meetingOf : GoodIn wsX7_exchange wsX1_meetingOf := goodIn_r _ [76, 15, 77, 78, 79, 13, 80, 53, 81, 82, 83, 84, 60, 25, 61, 100, 101, 102, 103, 104, 105, 106] (by decide +kernel) (by decide +kernel)
set_option maxRecDepth 20000 in
theorem gX7_exchange_X1_meetingOf : GoodIn wsX7_exchange (wsV RX7 82 RX1 yX1_meetingOf wsX1_meetingOf) := goodIn_app (goodIn_of _ (by decide +kernel)) ggX7_exchange_X1_meetingOf
theorem dX7_exchange_0 : decode cX7_exchange 0 = .ok (.aload_n 0, 1) := by decide +kernel
theorem dX7_exchange_1 : decode cX7_exchange 1 = .ok (.getfield 12, 3) := by decide +kernel
theorem dX7_exchange_4 : decode cX7_exchange 4 = .ok (.iconst 2, 1) := by decide +kernel
theorem dX7_exchange_5 : decode cX7_exchange 5 = .ok (.iload_n 1, 1) := by decide +kernel
theorem dX7_exchange_6 : decode cX7_exchange 6 = .ok (.iload_n 2, 1) := by decide +kernel
theorem dX7_exchange_7 : decode cX7_exchange 7 = .ok (.invokevirtual 66, 3) := by decide +kernel
theorem dX7_exchange_10 : decode cX7_exchange 10 = .ok (.ifCond .ne 5, 3) := by decide +kernel
theorem dX7_exchange_13 : decode cX7_exchange 13 = .ok (.iconst (-1), 1) := by decide +kernel
theorem dX7_exchange_14 : decode cX7_exchange 14 = .ok (.ireturn, 1) := by decide +kernel
theorem dX7_exchange_15 : decode cX7_exchange 15 = .ok (.aload_n 0, 1) := by decide +kernel
theorem dX7_exchange_16 : decode cX7_exchange 16 = .ok (.getfield 12, 3) := by decide +kernel
theorem dX7_exchange_19 : decode cX7_exchange 19 = .ok (.iconst 2, 1) := by decide +kernel
theorem dX7_exchange_20 : decode cX7_exchange 20 = .ok (.iload_n 1, 1) := by decide +kernel
theorem dX7_exchange_21 : decode cX7_exchange 21 = .ok (.iload_n 2, 1) := by decide +kernel
theorem dX7_exchange_22 : decode cX7_exchange 22 = .ok (.invokevirtual 70, 3) := by decide +kernel
theorem dX7_exchange_25 : decode cX7_exchange 25 = .ok (.iload_n 1, 1) := by decide +kernel
theorem dX7_exchange_26 : decode cX7_exchange 26 = .ok (.iload_n 2, 1) := by decide +kernel
theorem dX7_exchange_27 : decode cX7_exchange 27 = .ok (.if_icmp .ne 18, 3) := by decide +kernel
theorem dX7_exchange_30 : decode cX7_exchange 30 = .ok (.aload_n 0, 1) := by decide +kernel
theorem dX7_exchange_31 : decode cX7_exchange 31 = .ok (.getfield 12, 3) := by decide +kernel
theorem dX7_exchange_34 : decode cX7_exchange 34 = .ok (.getfield 38, 3) := by decide +kernel
theorem dX7_exchange_37 : decode cX7_exchange 37 = .ok (.getfield 42, 3) := by decide +kernel
theorem dX7_exchange_40 : decode cX7_exchange 40 = .ok (.iconst 1, 1) := by decide +kernel
theorem dX7_exchange_41 : decode cX7_exchange 41 = .ok (.isub, 1) := by decide +kernel
theorem dX7_exchange_42 : decode cX7_exchange 42 = .ok (.goto 15, 3) := by decide +kernel
theorem dX7_exchange_45 : decode cX7_exchange 45 = .ok (.aload_n 0, 1) := by decide +kernel
theorem dX7_exchange_46 : decode cX7_exchange 46 = .ok (.getfield 12, 3) := by decide +kernel
theorem dX7_exchange_49 : decode cX7_exchange 49 = .ok (.getfield 38, 3) := by decide +kernel
theorem dX7_exchange_52 : decode cX7_exchange 52 = .ok (.iload_n 1, 1) := by decide +kernel
theorem dX7_exchange_53 : decode cX7_exchange 53 = .ok (.iload_n 2, 1) := by decide +kernel
theorem dX7_exchange_54 : decode cX7_exchange 54 = .ok (.invokevirtual 82, 3) := by decide +kernel
theorem dX7_exchange_57 : decode cX7_exchange 57 = .ok (.ireturn, 1) := by decide +kernel
set_option maxRecDepth 20000 in
theorem ggX7_bar_X1_hasPlace : GoodIn wsX7_bar wsX1_hasPlace := goodIn_r _ [8, 9, 29, 30, 31, 32, 33, 34, 35] (by decide +kernel) (by decide +kernel)
set_option maxRecDepth 20000 in
theorem gX7_bar_X1_hasPlace : GoodIn wsX7_bar (wsV RX7 85 RX1 yX1_hasPlace wsX1_hasPlace) := goodIn_app (goodIn_of _ (by decide +kernel)) ggX7_bar_X1_hasPlace
set_option maxRecDepth 20000 in
theorem ggX7_bar_X7_cellOf : GoodIn wsX7_bar wsX7_cellOf := goodIn_r _ [13] (by decide +kernel) (by decide +kernel)
set_option maxRecDepth 20000 in
theorem gX7_bar_X7_cellOf : GoodIn wsX7_bar (va_wsS RX7 89 yX7_cellOf wsX7_cellOf) := goodIn_app (goodIn_of _ (by decide +kernel)) ggX7_bar_X7_cellOf
theorem dX7_bar_0 : decode cX7_bar 0 = .ok (.aload_n 0, 1) := by decide +kernel
theorem dX7_bar_1 : decode cX7_bar 1 = .ok (.getfield 12, 3) := by decide +kernel
theorem dX7_bar_4 : decode cX7_bar 4 = .ok (.getfield 38, 3) := by decide +kernel
theorem dX7_bar_7 : decode cX7_bar 7 = .ok (.iload_n 1, 1) := by decide +kernel
theorem dX7_bar_8 : decode cX7_bar 8 = .ok (.iload_n 2, 1) := by decide +kernel
theorem dX7_bar_9 : decode cX7_bar 9 = .ok (.invokevirtual 85, 3) := by decide +kernel
theorem dX7_bar_12 : decode cX7_bar 12 = .ok (.ifCond .ne 5, 3) := by decide +kernel
theorem dX7_bar_15 : decode cX7_bar 15 = .ok (.iconst (-1), 1) := by decide +kernel
theorem dX7_bar_16 : decode cX7_bar 16 = .ok (.ireturn, 1) := by decide +kernel
theorem dX7_bar_17 : decode cX7_bar 17 = .ok (.iload_n 1, 1) := by decide +kernel
theorem dX7_bar_18 : decode cX7_bar 18 = .ok (.iload_n 2, 1) := by decide +kernel
theorem dX7_bar_19 : decode cX7_bar 19 = .ok (.invokestatic 89, 3) := by decide +kernel
theorem dX7_bar_22 : decode cX7_bar 22 = .ok (.istore_n 3, 1) := by decide +kernel
theorem dX7_bar_23 : decode cX7_bar 23 = .ok (.aload_n 0, 1) := by decide +kernel
theorem dX7_bar_24 : decode cX7_bar 24 = .ok (.getfield 12, 3) := by decide +kernel
theorem dX7_bar_27 : decode cX7_bar 27 = .ok (.getfield 92, 3) := by decide +kernel
theorem dX7_bar_30 : decode cX7_bar 30 = .ok (.iload_n 3, 1) := by decide +kernel
theorem dX7_bar_31 : decode cX7_bar 31 = .ok (.aload_n 0, 1) := by decide +kernel
theorem dX7_bar_32 : decode cX7_bar 32 = .ok (.getfield 12, 3) := by decide +kernel
theorem dX7_bar_35 : decode cX7_bar 35 = .ok (.getfield 92, 3) := by decide +kernel
theorem dX7_bar_38 : decode cX7_bar 38 = .ok (.iload_n 3, 1) := by decide +kernel
theorem dX7_bar_39 : decode cX7_bar 39 = .ok (.baload, 1) := by decide +kernel
theorem dX7_bar_40 : decode cX7_bar 40 = .ok (.ifCond .ne 7, 3) := by decide +kernel
theorem dX7_bar_43 : decode cX7_bar 43 = .ok (.iconst 1, 1) := by decide +kernel
theorem dX7_bar_44 : decode cX7_bar 44 = .ok (.goto 4, 3) := by decide +kernel
theorem dX7_bar_47 : decode cX7_bar 47 = .ok (.iconst 0, 1) := by decide +kernel
theorem dX7_bar_48 : decode cX7_bar 48 = .ok (.bastore, 1) := by decide +kernel
theorem dX7_bar_49 : decode cX7_bar 49 = .ok (.aload_n 0, 1) := by decide +kernel
theorem dX7_bar_50 : decode cX7_bar 50 = .ok (.getfield 12, 3) := by decide +kernel
theorem dX7_bar_53 : decode cX7_bar 53 = .ok (.getfield 92, 3) := by decide +kernel
theorem dX7_bar_56 : decode cX7_bar 56 = .ok (.iload_n 3, 1) := by decide +kernel
theorem dX7_bar_57 : decode cX7_bar 57 = .ok (.baload, 1) := by decide +kernel
theorem dX7_bar_58 : decode cX7_bar 58 = .ok (.ifCond .eq 7, 3) := by decide +kernel
theorem dX7_bar_61 : decode cX7_bar 61 = .ok (.iconst 1, 1) := by decide +kernel
theorem dX7_bar_62 : decode cX7_bar 62 = .ok (.goto 4, 3) := by decide +kernel
theorem dX7_bar_65 : decode cX7_bar 65 = .ok (.iconst 0, 1) := by decide +kernel
theorem dX7_bar_66 : decode cX7_bar 66 = .ok (.ireturn, 1) := by decide +kernel
set_option maxRecDepth 20000 in
theorem ggX7_rate_X7_isRate : GoodIn wsX7_rate wsX7_isRate := goodIn_r _ [6] (by decide +kernel) (by decide +kernel)
set_option maxRecDepth 20000 in
theorem gX7_rate_X7_isRate : GoodIn wsX7_rate (va_wsS RX7 96 yX7_isRate wsX7_isRate) := goodIn_app (goodIn_of _ (by decide +kernel)) ggX7_rate_X7_isRate
set_option maxRecDepth 20000 in
theorem ggX7_rate_X7_isNumber : GoodIn wsX7_rate wsX7_isNumber := goodIn_r _ [9] (by decide +kernel) (by decide +kernel)
set_option maxRecDepth 20000 in
theorem gX7_rate_X7_isNumber : GoodIn wsX7_rate (va_wsS RX7 56 yX7_isNumber wsX7_isNumber) := goodIn_app (goodIn_of _ (by decide +kernel)) ggX7_rate_X7_isNumber
set_option maxRecDepth 20000 in
theorem ggX7_rate_X3_change : GoodIn wsX7_rate wsX3_change := goodIn_r _ [14, 15, 16, 17, 18, 19, 20, 21, 22, 23, 24, 25, 26, 27, 28, 29, 30, 31, 32, 33, 34, 35, 36, 37, 38, 39, 40, 41, 42, 43, 44, 45, 46, 47, 48, 5, 49, 50, 51, 52, 53, 54, 55, 56, 57, 58, 59, 60, 4, 6, 67, 68, 69, 70, 71, 72, 73, 74, 75, 76, 77, 78, 79, 80, 81, 82] (by decide +kernel) (by decide +kernel)
set_option maxRecDepth 20000 in
theorem gX7_rate_X3_change : GoodIn wsX7_rate (wsV RX7 70 RX3 yX3_change wsX3_change) := goodIn_app (goodIn_of _ (by decide +kernel)) ggX7_rate_X3_change
theorem dX7_rate_0 : decode cX7_rate 0 = .ok (.iload_n 1, 1) := by decide +kernel
theorem dX7_rate_1 : decode cX7_rate 1 = .ok (.invokestatic 96, 3) := by decide +kernel
theorem dX7_rate_4 : decode cX7_rate 4 = .ok (.ifCond .ne 5, 3) := by decide +kernel
theorem dX7_rate_7 : decode cX7_rate 7 = .ok (.iconst (-1), 1) := by decide +kernel
theorem dX7_rate_8 : decode cX7_rate 8 = .ok (.ireturn, 1) := by decide +kernel
theorem dX7_rate_9 : decode cX7_rate 9 = .ok (.iload_n 2, 1) := by decide +kernel
theorem dX7_rate_10 : decode cX7_rate 10 = .ok (.invokestatic 56, 3) := by decide +kernel
theorem dX7_rate_13 : decode cX7_rate 13 = .ok (.ifCond .ne 6, 3) := by decide +kernel
theorem dX7_rate_16 : decode cX7_rate 16 = .ok (.bipush (-2), 2) := by decide +kernel
theorem dX7_rate_18 : decode cX7_rate 18 = .ok (.ireturn, 1) := by decide +kernel
theorem dX7_rate_19 : decode cX7_rate 19 = .ok (.aload_n 0, 1) := by decide +kernel
theorem dX7_rate_20 : decode cX7_rate 20 = .ok (.getfield 12, 3) := by decide +kernel
theorem dX7_rate_23 : decode cX7_rate 23 = .ok (.getfield 99, 3) := by decide +kernel
theorem dX7_rate_26 : decode cX7_rate 26 = .ok (.iload_n 1, 1) := by decide +kernel
theorem dX7_rate_27 : decode cX7_rate 27 = .ok (.iaload, 1) := by decide +kernel
theorem dX7_rate_28 : decode cX7_rate 28 = .ok (.istore_n 3, 1) := by decide +kernel
theorem dX7_rate_29 : decode cX7_rate 29 = .ok (.aload_n 0, 1) := by decide +kernel
theorem dX7_rate_30 : decode cX7_rate 30 = .ok (.getfield 12, 3) := by decide +kernel
theorem dX7_rate_33 : decode cX7_rate 33 = .ok (.iconst 3, 1) := by decide +kernel
theorem dX7_rate_34 : decode cX7_rate 34 = .ok (.iload_n 1, 1) := by decide +kernel
theorem dX7_rate_35 : decode cX7_rate 35 = .ok (.iload_n 2, 1) := by decide +kernel
theorem dX7_rate_36 : decode cX7_rate 36 = .ok (.invokevirtual 70, 3) := by decide +kernel
theorem dX7_rate_39 : decode cX7_rate 39 = .ok (.iload_n 3, 1) := by decide +kernel
theorem dX7_rate_40 : decode cX7_rate 40 = .ok (.ireturn, 1) := by decide +kernel
theorem dX7_kind_0 : decode cX7_kind 0 = .ok (.iload_n 1, 1) := by decide +kernel
theorem dX7_kind_1 : decode cX7_kind 1 = .ok (.ifCond .lt 8, 3) := by decide +kernel
theorem dX7_kind_4 : decode cX7_kind 4 = .ok (.iload_n 1, 1) := by decide +kernel
theorem dX7_kind_5 : decode cX7_kind 5 = .ok (.iconst 3, 1) := by decide +kernel
theorem dX7_kind_6 : decode cX7_kind 6 = .ok (.if_icmp .lt 6, 3) := by decide +kernel
theorem dX7_kind_9 : decode cX7_kind 9 = .ok (.bipush (-2), 2) := by decide +kernel
theorem dX7_kind_11 : decode cX7_kind 11 = .ok (.ireturn, 1) := by decide +kernel
theorem dX7_kind_12 : decode cX7_kind 12 = .ok (.aload_n 0, 1) := by decide +kernel
theorem dX7_kind_13 : decode cX7_kind 13 = .ok (.getfield 12, 3) := by decide +kernel
theorem dX7_kind_16 : decode cX7_kind 16 = .ok (.getfield 102, 3) := by decide +kernel
theorem dX7_kind_19 : decode cX7_kind 19 = .ok (.istore_n 2, 1) := by decide +kernel
theorem dX7_kind_20 : decode cX7_kind 20 = .ok (.aload_n 0, 1) := by decide +kernel
theorem dX7_kind_21 : decode cX7_kind 21 = .ok (.getfield 12, 3) := by decide +kernel
theorem dX7_kind_24 : decode cX7_kind 24 = .ok (.iload_n 1, 1) := by decide +kernel
theorem dX7_kind_25 : decode cX7_kind 25 = .ok (.putfield 102, 3) := by decide +kernel
theorem dX7_kind_28 : decode cX7_kind 28 = .ok (.iload_n 2, 1) := by decide +kernel
theorem dX7_kind_29 : decode cX7_kind 29 = .ok (.ireturn, 1) := by decide +kernel
theorem dX7_feed_0 : decode cX7_feed 0 = .ok (.iload_n 1, 1) := by decide +kernel
theorem dX7_feed_1 : decode cX7_feed 1 = .ok (.ifCond .lt 9, 3) := by decide +kernel
theorem dX7_feed_4 : decode cX7_feed 4 = .ok (.iload_n 1, 1) := by decide +kernel
theorem dX7_feed_5 : decode cX7_feed 5 = .ok (.bipush 127, 2) := by decide +kernel
theorem dX7_feed_7 : decode cX7_feed 7 = .ok (.if_icmp .le 6, 3) := by decide +kernel
theorem dX7_feed_10 : decode cX7_feed 10 = .ok (.bipush (-2), 2) := by decide +kernel
theorem dX7_feed_12 : decode cX7_feed 12 = .ok (.ireturn, 1) := by decide +kernel
theorem dX7_feed_13 : decode cX7_feed 13 = .ok (.aload_n 0, 1) := by decide +kernel
theorem dX7_feed_14 : decode cX7_feed 14 = .ok (.getfield 27, 3) := by decide +kernel
theorem dX7_feed_17 : decode cX7_feed 17 = .ok (.getfield 105, 3) := by decide +kernel
theorem dX7_feed_20 : decode cX7_feed 20 = .ok (.bipush 100, 2) := by decide +kernel
theorem dX7_feed_22 : decode cX7_feed 22 = .ok (.if_icmp .lt 6, 3) := by decide +kernel
theorem dX7_feed_25 : decode cX7_feed 25 = .ok (.bipush (-4), 2) := by decide +kernel
theorem dX7_feed_27 : decode cX7_feed 27 = .ok (.ireturn, 1) := by decide +kernel
theorem dX7_feed_28 : decode cX7_feed 28 = .ok (.aload_n 0, 1) := by decide +kernel
theorem dX7_feed_29 : decode cX7_feed 29 = .ok (.getfield 27, 3) := by decide +kernel
theorem dX7_feed_32 : decode cX7_feed 32 = .ok (.getfield 108, 3) := by decide +kernel
theorem dX7_feed_35 : decode cX7_feed 35 = .ok (.aload_n 0, 1) := by decide +kernel
theorem dX7_feed_36 : decode cX7_feed 36 = .ok (.getfield 27, 3) := by decide +kernel
theorem dX7_feed_39 : decode cX7_feed 39 = .ok (.getfield 105, 3) := by decide +kernel
theorem dX7_feed_42 : decode cX7_feed 42 = .ok (.iload_n 1, 1) := by decide +kernel
theorem dX7_feed_43 : decode cX7_feed 43 = .ok (.i2b, 1) := by decide +kernel
theorem dX7_feed_44 : decode cX7_feed 44 = .ok (.bastore, 1) := by decide +kernel
theorem dX7_feed_45 : decode cX7_feed 45 = .ok (.aload_n 0, 1) := by decide +kernel
theorem dX7_feed_46 : decode cX7_feed 46 = .ok (.getfield 27, 3) := by decide +kernel
theorem dX7_feed_49 : decode cX7_feed 49 = .ok (.dup, 1) := by decide +kernel
theorem dX7_feed_50 : decode cX7_feed 50 = .ok (.getfield 105, 3) := by decide +kernel
theorem dX7_feed_53 : decode cX7_feed 53 = .ok (.iconst 1, 1) := by decide +kernel
theorem dX7_feed_54 : decode cX7_feed 54 = .ok (.iadd, 1) := by decide +kernel
theorem dX7_feed_55 : decode cX7_feed 55 = .ok (.putfield 105, 3) := by decide +kernel
theorem dX7_feed_58 : decode cX7_feed 58 = .ok (.aload_n 0, 1) := by decide +kernel
theorem dX7_feed_59 : decode cX7_feed 59 = .ok (.getfield 27, 3) := by decide +kernel
theorem dX7_feed_62 : decode cX7_feed 62 = .ok (.getfield 105, 3) := by decide +kernel
theorem dX7_feed_65 : decode cX7_feed 65 = .ok (.ireturn, 1) := by decide +kernel
set_option maxRecDepth 20000 in
theorem ggX7_read_X5_parse : GoodIn wsX7_read wsX5_parse := goodIn_r _ [9, 10, 11, 12, 13, 14, 15, 16, 17, 18, 19, 20, 21, 8, 22, 23, 24, 25, 26, 27, 28, 29, 30, 31, 32, 33, 34, 35, 36, 37, 38, 39, 40, 41, 42, 43, 44, 45, 46, 47, 48, 49, 50, 51, 52, 53, 54, 55, 56, 57, 58, 59, 60, 61, 62, 63, 64, 65, 66, 67, 68, 69, 70, 71, 72, 73, 74, 75, 76, 77, 78, 79, 80, 81, 82, 83, 84, 85, 86, 87, 88, 89, 90, 91, 92, 93, 94, 95, 96, 97, 98, 99, 100, 101, 102, 103, 104, 105, 106, 107, 108, 109, 110, 286, 287, 288, 289, 290, 291, 292, 293] (by decide +kernel) (by decide +kernel)
set_option maxRecDepth 20000 in
theorem gX7_read_X5_parse : GoodIn wsX7_read (wsV RX7 112 RX5 yX5_parse wsX5_parse) := goodIn_app (goodIn_of _ (by decide +kernel)) ggX7_read_X5_parse
set_option maxRecDepth 20000 in
theorem ggX7_read_X7_doClause : GoodIn wsX7_read wsX7_doClause := goodIn_r _ [115, 1, 3, 116, 117, 118, 119, 120, 16, 121, 18, 104, 122, 123, 124, 125, 126, 127, 128, 129, 130, 131, 114, 132, 133, 134, 135, 136, 137, 138, 139, 140, 141, 142, 143, 144, 145, 146, 147, 148, 149, 150, 151, 152, 153, 154, 155, 156, 157, 158, 159, 160, 161, 162, 163, 164, 165, 166, 167, 168, 169, 170, 171, 14, 15, 17, 172, 173, 174, 175, 176, 177, 178, 179, 180, 181, 182, 183, 184, 185, 186, 187, 188, 189, 190, 191, 192, 193, 194, 195, 196, 197, 198, 199, 200, 201, 202, 203, 204, 205, 206, 207, 208, 209, 210, 211, 212, 213, 214, 215, 216, 217, 218, 219, 220, 221, 222, 223, 224, 225, 226, 227, 228, 229, 230, 231, 232, 233, 234, 235, 236, 237, 238, 239, 240, 241, 242, 243, 244, 245, 246, 247, 248, 249, 250, 251, 252, 253, 254, 255, 256, 257, 258, 259, 260, 261, 262, 263, 264, 265, 266, 267, 268, 269, 270, 271, 272, 273, 274, 275, 276, 277, 278, 279, 280, 281, 282, 283, 284, 285, 286, 287, 288, 289, 290, 291, 292, 293, 294, 295, 296, 297, 298, 299, 300, 301, 302, 303, 304, 305, 306, 307, 308, 309] (by decide +kernel) (by decide +kernel)
set_option maxRecDepth 20000 in
theorem gX7_read_X7_doClause : GoodIn wsX7_read (wsV RX7 124 RX7 yX7_doClause wsX7_doClause) := goodIn_app (goodIn_of _ (by decide +kernel)) ggX7_read_X7_doClause
theorem dX7_read_0 : decode cX7_read 0 = .ok (.aload_n 0, 1) := by decide +kernel
theorem dX7_read_1 : decode cX7_read 1 = .ok (.getfield 27, 3) := by decide +kernel
theorem dX7_read_4 : decode cX7_read 4 = .ok (.invokevirtual 112, 3) := by decide +kernel
theorem dX7_read_7 : decode cX7_read 7 = .ok (.istore_n 1, 1) := by decide +kernel
theorem dX7_read_8 : decode cX7_read 8 = .ok (.aload_n 0, 1) := by decide +kernel
theorem dX7_read_9 : decode cX7_read 9 = .ok (.getfield 27, 3) := by decide +kernel
theorem dX7_read_12 : decode cX7_read 12 = .ok (.iconst 0, 1) := by decide +kernel
theorem dX7_read_13 : decode cX7_read 13 = .ok (.putfield 105, 3) := by decide +kernel
theorem dX7_read_16 : decode cX7_read 16 = .ok (.iload_n 1, 1) := by decide +kernel
theorem dX7_read_17 : decode cX7_read 17 = .ok (.ifCond .lt 8, 3) := by decide +kernel
theorem dX7_read_20 : decode cX7_read 20 = .ok (.bipush (-10), 2) := by decide +kernel
theorem dX7_read_22 : decode cX7_read 22 = .ok (.iload_n 1, 1) := by decide +kernel
theorem dX7_read_23 : decode cX7_read 23 = .ok (.isub, 1) := by decide +kernel
theorem dX7_read_24 : decode cX7_read 24 = .ok (.ireturn, 1) := by decide +kernel
theorem dX7_read_25 : decode cX7_read 25 = .ok (.iconst 0, 1) := by decide +kernel
theorem dX7_read_26 : decode cX7_read 26 = .ok (.istore_n 2, 1) := by decide +kernel
theorem dX7_read_27 : decode cX7_read 27 = .ok (.iconst 0, 1) := by decide +kernel
theorem dX7_read_28 : decode cX7_read 28 = .ok (.istore_n 3, 1) := by decide +kernel
theorem dX7_read_29 : decode cX7_read 29 = .ok (.iload_n 3, 1) := by decide +kernel
theorem dX7_read_30 : decode cX7_read 30 = .ok (.aload_n 0, 1) := by decide +kernel
theorem dX7_read_31 : decode cX7_read 31 = .ok (.getfield 27, 3) := by decide +kernel
theorem dX7_read_34 : decode cX7_read 34 = .ok (.getfield 115, 3) := by decide +kernel
theorem dX7_read_37 : decode cX7_read 37 = .ok (.getfield 119, 3) := by decide +kernel
theorem dX7_read_40 : decode cX7_read 40 = .ok (.if_icmp .ge 20, 3) := by decide +kernel
theorem dX7_read_43 : decode cX7_read 43 = .ok (.aload_n 0, 1) := by decide +kernel
theorem dX7_read_44 : decode cX7_read 44 = .ok (.iload_n 3, 1) := by decide +kernel
theorem dX7_read_45 : decode cX7_read 45 = .ok (.invokevirtual 124, 3) := by decide +kernel
theorem dX7_read_48 : decode cX7_read 48 = .ok (.ifCond .lt 6, 3) := by decide +kernel
theorem dX7_read_51 : decode cX7_read 51 = .ok (.iinc 2 1, 3) := by decide +kernel
theorem dX7_read_54 : decode cX7_read 54 = .ok (.iinc 3 1, 3) := by decide +kernel
theorem dX7_read_57 : decode cX7_read 57 = .ok (.goto (-28), 3) := by decide +kernel
theorem dX7_read_60 : decode cX7_read 60 = .ok (.iload_n 2, 1) := by decide +kernel
theorem dX7_read_61 : decode cX7_read 61 = .ok (.ireturn, 1) := by decide +kernel
set_option maxRecDepth 20000 in
theorem ggX7_step_X3_takeStep : GoodIn wsX7_step wsX3_takeStep := goodIn_r _ [6, 7, 8, 9, 10, 11, 5, 12, 13, 14, 15, 16, 17, 18, 19, 20, 21, 22, 23, 24, 25, 26, 27, 28, 29, 30, 31, 32, 33, 34, 35, 36, 37, 38, 39, 40, 41, 42, 43, 44, 45, 46, 47, 48, 49, 50, 51, 52, 53, 54, 55, 56, 57, 58, 59, 60, 61, 62, 63, 64, 65, 66, 67, 68, 69, 70, 71, 72, 73, 74, 75, 76, 77, 78, 79, 80, 81, 82, 83, 84, 85, 86, 87, 88, 89, 90, 91, 92, 93, 94, 95, 96, 97, 98, 99, 100, 101, 102, 103, 104, 105, 106, 107, 108, 109, 110, 111, 112, 113, 114, 115, 116, 117, 118, 119, 120, 121, 122, 123, 124, 125, 126, 127, 128, 129, 130, 131, 132, 133, 134, 135, 136, 137, 138, 139, 140, 141, 142, 143, 144, 151, 152, 153, 154, 155, 156, 157, 158, 159, 160, 161, 162, 163, 164, 165, 166] (by decide +kernel) (by decide +kernel)
set_option maxRecDepth 20000 in
theorem gX7_step_X3_takeStep : GoodIn wsX7_step (wsV RX7 128 RX3 yX3_takeStep wsX3_takeStep) := goodIn_app (goodIn_of _ (by decide +kernel)) ggX7_step_X3_takeStep
theorem dX7_step_0 : decode cX7_step 0 = .ok (.iload_n 1, 1) := by decide +kernel
theorem dX7_step_1 : decode cX7_step 1 = .ok (.ifCond .lt 18, 3) := by decide +kernel
theorem dX7_step_4 : decode cX7_step 4 = .ok (.iload_n 1, 1) := by decide +kernel
theorem dX7_step_5 : decode cX7_step 5 = .ok (.iconst 3, 1) := by decide +kernel
theorem dX7_step_6 : decode cX7_step 6 = .ok (.if_icmp .ge 13, 3) := by decide +kernel
theorem dX7_step_9 : decode cX7_step 9 = .ok (.iload_n 2, 1) := by decide +kernel
theorem dX7_step_10 : decode cX7_step 10 = .ok (.ifCond .lt 9, 3) := by decide +kernel
theorem dX7_step_13 : decode cX7_step 13 = .ok (.iload_n 2, 1) := by decide +kernel
theorem dX7_step_14 : decode cX7_step 14 = .ok (.bipush 50, 2) := by decide +kernel
theorem dX7_step_16 : decode cX7_step 16 = .ok (.if_icmp .le 6, 3) := by decide +kernel
theorem dX7_step_19 : decode cX7_step 19 = .ok (.bipush (-2), 2) := by decide +kernel
theorem dX7_step_21 : decode cX7_step 21 = .ok (.ireturn, 1) := by decide +kernel
theorem dX7_step_22 : decode cX7_step 22 = .ok (.iload_n 1, 1) := by decide +kernel
theorem dX7_step_23 : decode cX7_step 23 = .ok (.ifCond .ne 7, 3) := by decide +kernel
theorem dX7_step_26 : decode cX7_step 26 = .ok (.iconst 1, 1) := by decide +kernel
theorem dX7_step_27 : decode cX7_step 27 = .ok (.goto 13, 3) := by decide +kernel
theorem dX7_step_30 : decode cX7_step 30 = .ok (.iload_n 1, 1) := by decide +kernel
theorem dX7_step_31 : decode cX7_step 31 = .ok (.iconst 1, 1) := by decide +kernel
theorem dX7_step_32 : decode cX7_step 32 = .ok (.if_icmp .ne 7, 3) := by decide +kernel
theorem dX7_step_35 : decode cX7_step 35 = .ok (.iconst 0, 1) := by decide +kernel
theorem dX7_step_36 : decode cX7_step 36 = .ok (.goto 4, 3) := by decide +kernel
theorem dX7_step_39 : decode cX7_step 39 = .ok (.iconst 2, 1) := by decide +kernel
theorem dX7_step_40 : decode cX7_step 40 = .ok (.istore_n 3, 1) := by decide +kernel
theorem dX7_step_41 : decode cX7_step 41 = .ok (.iconst 0, 1) := by decide +kernel
theorem dX7_step_42 : decode cX7_step 42 = .ok (.istore 4, 2) := by decide +kernel
theorem dX7_step_44 : decode cX7_step 44 = .ok (.iload 4, 2) := by decide +kernel
theorem dX7_step_46 : decode cX7_step 46 = .ok (.iload_n 2, 1) := by decide +kernel
theorem dX7_step_47 : decode cX7_step 47 = .ok (.if_icmp .ge 20, 3) := by decide +kernel
theorem dX7_step_50 : decode cX7_step 50 = .ok (.aload_n 0, 1) := by decide +kernel
theorem dX7_step_51 : decode cX7_step 51 = .ok (.getfield 12, 3) := by decide +kernel
theorem dX7_step_54 : decode cX7_step 54 = .ok (.iload_n 3, 1) := by decide +kernel
theorem dX7_step_55 : decode cX7_step 55 = .ok (.invokevirtual 128, 3) := by decide +kernel
theorem dX7_step_58 : decode cX7_step 58 = .ok (.ifCond .eq 9, 3) := by decide +kernel
theorem dX7_step_61 : decode cX7_step 61 = .ok (.iinc 4 1, 3) := by decide +kernel
theorem dX7_step_64 : decode cX7_step 64 = .ok (.goto (-20), 3) := by decide +kernel
theorem dX7_step_67 : decode cX7_step 67 = .ok (.iload 4, 2) := by decide +kernel
theorem dX7_step_69 : decode cX7_step 69 = .ok (.ireturn, 1) := by decide +kernel
set_option maxRecDepth 20000 in
theorem ggX7_game_X1_hasGame : GoodIn wsX7_game wsX1_hasGame := goodIn_r _ [7, 8, 35, 36, 37, 38, 39, 40, 41] (by decide +kernel) (by decide +kernel)
set_option maxRecDepth 20000 in
theorem gX7_game_X1_hasGame : GoodIn wsX7_game (wsV RX7 131 RX1 yX1_hasGame wsX1_hasGame) := goodIn_app (goodIn_of _ (by decide +kernel)) ggX7_game_X1_hasGame
set_option maxRecDepth 20000 in
theorem ggX7_game_X1_homeOf : GoodIn wsX7_game wsX1_homeOf := goodIn_r _ [12, 13, 14, 4, 5, 6, 7, 8, 35, 36, 37, 38, 39, 40, 41] (by decide +kernel) (by decide +kernel)
set_option maxRecDepth 20000 in
theorem gX7_game_X1_homeOf : GoodIn wsX7_game (wsV RX7 78 RX1 yX1_homeOf wsX1_homeOf) := goodIn_app (goodIn_of _ (by decide +kernel)) ggX7_game_X1_homeOf
set_option maxRecDepth 20000 in
theorem ggX7_game_X1_awayOf : GoodIn wsX7_game wsX1_awayOf := goodIn_r _ [18, 19, 14, 4, 5, 6, 7, 8, 35, 36, 37, 38, 39, 40, 41] (by decide +kernel) (by decide +kernel)
set_option maxRecDepth 20000 in
theorem gX7_game_X1_awayOf : GoodIn wsX7_game (wsV RX7 134 RX1 yX1_awayOf wsX1_awayOf) := goodIn_app (goodIn_of _ (by decide +kernel)) ggX7_game_X1_awayOf
theorem dX7_game_0 : decode cX7_game 0 = .ok (.aload_n 0, 1) := by decide +kernel
theorem dX7_game_1 : decode cX7_game 1 = .ok (.getfield 12, 3) := by decide +kernel
theorem dX7_game_4 : decode cX7_game 4 = .ok (.getfield 38, 3) := by decide +kernel
theorem dX7_game_7 : decode cX7_game 7 = .ok (.iload_n 1, 1) := by decide +kernel
theorem dX7_game_8 : decode cX7_game 8 = .ok (.iload_n 2, 1) := by decide +kernel
theorem dX7_game_9 : decode cX7_game 9 = .ok (.invokevirtual 131, 3) := by decide +kernel
theorem dX7_game_12 : decode cX7_game 12 = .ok (.ifCond .eq 12, 3) := by decide +kernel
theorem dX7_game_15 : decode cX7_game 15 = .ok (.iload_n 3, 1) := by decide +kernel
theorem dX7_game_16 : decode cX7_game 16 = .ok (.ifCond .lt 8, 3) := by decide +kernel
theorem dX7_game_19 : decode cX7_game 19 = .ok (.iload_n 3, 1) := by decide +kernel
theorem dX7_game_20 : decode cX7_game 20 = .ok (.iconst 1, 1) := by decide +kernel
theorem dX7_game_21 : decode cX7_game 21 = .ok (.if_icmp .le 5, 3) := by decide +kernel
theorem dX7_game_24 : decode cX7_game 24 = .ok (.iconst (-1), 1) := by decide +kernel
theorem dX7_game_25 : decode cX7_game 25 = .ok (.ireturn, 1) := by decide +kernel
theorem dX7_game_26 : decode cX7_game 26 = .ok (.iload_n 3, 1) := by decide +kernel
theorem dX7_game_27 : decode cX7_game 27 = .ok (.ifCond .ne 18, 3) := by decide +kernel
theorem dX7_game_30 : decode cX7_game 30 = .ok (.aload_n 0, 1) := by decide +kernel
theorem dX7_game_31 : decode cX7_game 31 = .ok (.getfield 12, 3) := by decide +kernel
theorem dX7_game_34 : decode cX7_game 34 = .ok (.getfield 38, 3) := by decide +kernel
theorem dX7_game_37 : decode cX7_game 37 = .ok (.iload_n 1, 1) := by decide +kernel
theorem dX7_game_38 : decode cX7_game 38 = .ok (.iload_n 2, 1) := by decide +kernel
theorem dX7_game_39 : decode cX7_game 39 = .ok (.invokevirtual 78, 3) := by decide +kernel
theorem dX7_game_42 : decode cX7_game 42 = .ok (.goto 15, 3) := by decide +kernel
theorem dX7_game_45 : decode cX7_game 45 = .ok (.aload_n 0, 1) := by decide +kernel
theorem dX7_game_46 : decode cX7_game 46 = .ok (.getfield 12, 3) := by decide +kernel
theorem dX7_game_49 : decode cX7_game 49 = .ok (.getfield 38, 3) := by decide +kernel
theorem dX7_game_52 : decode cX7_game 52 = .ok (.iload_n 1, 1) := by decide +kernel
theorem dX7_game_53 : decode cX7_game 53 = .ok (.iload_n 2, 1) := by decide +kernel
theorem dX7_game_54 : decode cX7_game 54 = .ok (.invokevirtual 134, 3) := by decide +kernel
theorem dX7_game_57 : decode cX7_game 57 = .ok (.ireturn, 1) := by decide +kernel
set_option maxRecDepth 20000 in
theorem ggX7_of_X1_hasPlace : GoodIn wsX7_of wsX1_hasPlace := goodIn_r _ [7, 8, 51, 52, 53, 54, 55, 56, 57] (by decide +kernel) (by decide +kernel)
set_option maxRecDepth 20000 in
theorem gX7_of_X1_hasPlace : GoodIn wsX7_of (wsV RX7 85 RX1 yX1_hasPlace wsX1_hasPlace) := goodIn_app (goodIn_of _ (by decide +kernel)) ggX7_of_X1_hasPlace
set_option maxRecDepth 20000 in
theorem ggX7_of_X1_rivalOf : GoodIn wsX7_of wsX1_rivalOf := goodIn_r _ [12, 13, 14, 4, 5, 6, 7, 8, 15, 16, 17, 51, 52, 53, 54, 55, 56, 57] (by decide +kernel) (by decide +kernel)
set_option maxRecDepth 20000 in
theorem gX7_of_X1_rivalOf : GoodIn wsX7_of (wsV RX7 137 RX1 yX1_rivalOf wsX1_rivalOf) := goodIn_app (goodIn_of _ (by decide +kernel)) ggX7_of_X1_rivalOf
set_option maxRecDepth 20000 in
theorem ggX7_of_X1_sideOf : GoodIn wsX7_of wsX1_sideOf := goodIn_r _ [21, 22, 14, 4, 5, 6, 7, 8, 15, 16, 17, 51, 52, 53, 54, 55, 56, 57] (by decide +kernel) (by decide +kernel)
set_option maxRecDepth 20000 in
theorem gX7_of_X1_sideOf : GoodIn wsX7_of (wsV RX7 140 RX1 yX1_sideOf wsX1_sideOf) := goodIn_app (goodIn_of _ (by decide +kernel)) ggX7_of_X1_sideOf
set_option maxRecDepth 20000 in
theorem ggX7_of_X1_gameOf : GoodIn wsX7_of wsX1_gameOf := goodIn_r _ [26, 27, 14, 4, 5, 6, 7, 8, 15, 16, 17, 51, 52, 53, 54, 55, 56, 57] (by decide +kernel) (by decide +kernel)
set_option maxRecDepth 20000 in
theorem gX7_of_X1_gameOf : GoodIn wsX7_of (wsV RX7 143 RX1 yX1_gameOf wsX1_gameOf) := goodIn_app (goodIn_of _ (by decide +kernel)) ggX7_of_X1_gameOf
set_option maxRecDepth 20000 in
theorem ggX7_of_X3_isBarred : GoodIn wsX7_of wsX3_isBarred := goodIn_r _ [32, 33, 34, 35, 4, 5, 6, 7, 8, 15, 16, 17, 42, 43, 44, 45, 46, 47, 48, 49, 50, 51, 52, 53, 54, 55, 56, 57] (by decide +kernel) (by decide +kernel)
set_option maxRecDepth 20000 in
theorem gX7_of_X3_isBarred : GoodIn wsX7_of (wsV RX7 146 RX3 yX3_isBarred wsX3_isBarred) := goodIn_app (goodIn_of _ (by decide +kernel)) ggX7_of_X3_isBarred
theorem dX7_of_0 : decode cX7_of 0 = .ok (.aload_n 0, 1) := by decide +kernel
theorem dX7_of_1 : decode cX7_of 1 = .ok (.getfield 12, 3) := by decide +kernel
theorem dX7_of_4 : decode cX7_of 4 = .ok (.getfield 38, 3) := by decide +kernel
theorem dX7_of_7 : decode cX7_of 7 = .ok (.iload_n 1, 1) := by decide +kernel
theorem dX7_of_8 : decode cX7_of 8 = .ok (.iload_n 2, 1) := by decide +kernel
theorem dX7_of_9 : decode cX7_of 9 = .ok (.invokevirtual 85, 3) := by decide +kernel
theorem dX7_of_12 : decode cX7_of 12 = .ok (.ifCond .ne 5, 3) := by decide +kernel
theorem dX7_of_15 : decode cX7_of 15 = .ok (.iconst (-1), 1) := by decide +kernel
theorem dX7_of_16 : decode cX7_of 16 = .ok (.ireturn, 1) := by decide +kernel
theorem dX7_of_17 : decode cX7_of 17 = .ok (.iload_n 3, 1) := by decide +kernel
theorem dX7_of_18 : decode cX7_of 18 = .ok (.tableswitch 87 0 3 #[30, 43, 56, 69], 30) := by decide +kernel
theorem dX7_of_48 : decode cX7_of 48 = .ok (.aload_n 0, 1) := by decide +kernel
theorem dX7_of_49 : decode cX7_of 49 = .ok (.getfield 12, 3) := by decide +kernel
theorem dX7_of_52 : decode cX7_of 52 = .ok (.getfield 38, 3) := by decide +kernel
theorem dX7_of_55 : decode cX7_of 55 = .ok (.iload_n 1, 1) := by decide +kernel
theorem dX7_of_56 : decode cX7_of 56 = .ok (.iload_n 2, 1) := by decide +kernel
theorem dX7_of_57 : decode cX7_of 57 = .ok (.invokevirtual 137, 3) := by decide +kernel
theorem dX7_of_60 : decode cX7_of 60 = .ok (.ireturn, 1) := by decide +kernel
theorem dX7_of_61 : decode cX7_of 61 = .ok (.aload_n 0, 1) := by decide +kernel
theorem dX7_of_62 : decode cX7_of 62 = .ok (.getfield 12, 3) := by decide +kernel
theorem dX7_of_65 : decode cX7_of 65 = .ok (.getfield 38, 3) := by decide +kernel
theorem dX7_of_68 : decode cX7_of 68 = .ok (.iload_n 1, 1) := by decide +kernel
theorem dX7_of_69 : decode cX7_of 69 = .ok (.iload_n 2, 1) := by decide +kernel
theorem dX7_of_70 : decode cX7_of 70 = .ok (.invokevirtual 140, 3) := by decide +kernel
theorem dX7_of_73 : decode cX7_of 73 = .ok (.ireturn, 1) := by decide +kernel
theorem dX7_of_74 : decode cX7_of 74 = .ok (.aload_n 0, 1) := by decide +kernel
theorem dX7_of_75 : decode cX7_of 75 = .ok (.getfield 12, 3) := by decide +kernel
theorem dX7_of_78 : decode cX7_of 78 = .ok (.getfield 38, 3) := by decide +kernel
theorem dX7_of_81 : decode cX7_of 81 = .ok (.iload_n 1, 1) := by decide +kernel
theorem dX7_of_82 : decode cX7_of 82 = .ok (.iload_n 2, 1) := by decide +kernel
theorem dX7_of_83 : decode cX7_of 83 = .ok (.invokevirtual 143, 3) := by decide +kernel
theorem dX7_of_86 : decode cX7_of 86 = .ok (.ireturn, 1) := by decide +kernel
theorem dX7_of_87 : decode cX7_of 87 = .ok (.aload_n 0, 1) := by decide +kernel
theorem dX7_of_88 : decode cX7_of 88 = .ok (.getfield 12, 3) := by decide +kernel
theorem dX7_of_91 : decode cX7_of 91 = .ok (.iload_n 1, 1) := by decide +kernel
theorem dX7_of_92 : decode cX7_of 92 = .ok (.iload_n 2, 1) := by decide +kernel
theorem dX7_of_93 : decode cX7_of 93 = .ok (.invokevirtual 146, 3) := by decide +kernel
theorem dX7_of_96 : decode cX7_of 96 = .ok (.ifCond .eq 7, 3) := by decide +kernel
theorem dX7_of_99 : decode cX7_of 99 = .ok (.iconst 1, 1) := by decide +kernel
theorem dX7_of_100 : decode cX7_of 100 = .ok (.goto 4, 3) := by decide +kernel
theorem dX7_of_103 : decode cX7_of 103 = .ok (.iconst 0, 1) := by decide +kernel
theorem dX7_of_104 : decode cX7_of 104 = .ok (.ireturn, 1) := by decide +kernel
theorem dX7_of_105 : decode cX7_of 105 = .ok (.iconst (-1), 1) := by decide +kernel
theorem dX7_of_106 : decode cX7_of 106 = .ok (.ireturn, 1) := by decide +kernel
set_option maxRecDepth 20000 in
theorem ggX7_season_X1_hasTeam : GoodIn wsX7_season wsX1_hasTeam := goodIn_r _ [8, 9, 59, 60, 61, 62, 63, 64, 65] (by decide +kernel) (by decide +kernel)
set_option maxRecDepth 20000 in
theorem gX7_season_X1_hasTeam : GoodIn wsX7_season (wsV RX7 52 RX1 yX1_hasTeam wsX1_hasTeam) := goodIn_app (goodIn_of _ (by decide +kernel)) ggX7_season_X1_hasTeam
set_option maxRecDepth 20000 in
theorem ggX7_season_X1_hasSeasonRound : GoodIn wsX7_season wsX1_hasSeasonRound := goodIn_r _ [13, 14, 15, 16, 7, 17, 9, 59, 60, 61, 62, 63, 64, 65] (by decide +kernel) (by decide +kernel)
set_option maxRecDepth 20000 in
theorem gX7_season_X1_hasSeasonRound : GoodIn wsX7_season (wsV RX7 149 RX1 yX1_hasSeasonRound wsX1_hasSeasonRound) := goodIn_app (goodIn_of _ (by decide +kernel)) ggX7_season_X1_hasSeasonRound
set_option maxRecDepth 20000 in
theorem ggX7_season_X1_halfRound : GoodIn wsX7_season wsX1_halfRound := goodIn_r _ [21, 9, 59, 60, 61, 62, 63, 64, 65] (by decide +kernel) (by decide +kernel)
set_option maxRecDepth 20000 in
theorem gX7_season_X1_halfRound : GoodIn wsX7_season (wsV RX7 152 RX1 yX1_halfRound wsX1_halfRound) := goodIn_app (goodIn_of _ (by decide +kernel)) ggX7_season_X1_halfRound
set_option maxRecDepth 20000 in
theorem ggX7_season_X1_rivalOf : GoodIn wsX7_season wsX1_rivalOf := goodIn_r _ [25, 26, 27, 28, 29, 7, 30, 9, 31, 32, 33, 59, 60, 61, 62, 63, 64, 65] (by decide +kernel) (by decide +kernel)
set_option maxRecDepth 20000 in
theorem gX7_season_X1_rivalOf : GoodIn wsX7_season (wsV RX7 137 RX1 yX1_rivalOf wsX1_rivalOf) := goodIn_app (goodIn_of _ (by decide +kernel)) ggX7_season_X1_rivalOf
set_option maxRecDepth 20000 in
theorem ggX7_season_X1_seasonSide : GoodIn wsX7_season wsX1_seasonSide := goodIn_r _ [37, 9, 38, 19, 20, 7, 21, 39, 40, 41, 42, 43, 27, 28, 29, 30, 31, 32, 33, 59, 60, 61, 62, 63, 64, 65] (by decide +kernel) (by decide +kernel)
set_option maxRecDepth 20000 in
theorem gX7_season_X1_seasonSide : GoodIn wsX7_season (wsV RX7 155 RX1 yX1_seasonSide wsX1_seasonSide) := goodIn_app (goodIn_of _ (by decide +kernel)) ggX7_season_X1_seasonSide
theorem dX7_season_0 : decode cX7_season 0 = .ok (.aload_n 0, 1) := by decide +kernel
theorem dX7_season_1 : decode cX7_season 1 = .ok (.getfield 12, 3) := by decide +kernel
theorem dX7_season_4 : decode cX7_season 4 = .ok (.getfield 38, 3) := by decide +kernel
theorem dX7_season_7 : decode cX7_season 7 = .ok (.astore 4, 2) := by decide +kernel
theorem dX7_season_9 : decode cX7_season 9 = .ok (.aload 4, 2) := by decide +kernel
theorem dX7_season_11 : decode cX7_season 11 = .ok (.iload_n 1, 1) := by decide +kernel
theorem dX7_season_12 : decode cX7_season 12 = .ok (.invokevirtual 52, 3) := by decide +kernel
theorem dX7_season_15 : decode cX7_season 15 = .ok (.ifCond .eq 12, 3) := by decide +kernel
theorem dX7_season_18 : decode cX7_season 18 = .ok (.aload 4, 2) := by decide +kernel
theorem dX7_season_20 : decode cX7_season 20 = .ok (.iload_n 2, 1) := by decide +kernel
theorem dX7_season_21 : decode cX7_season 21 = .ok (.invokevirtual 149, 3) := by decide +kernel
theorem dX7_season_24 : decode cX7_season 24 = .ok (.ifCond .ne 5, 3) := by decide +kernel
theorem dX7_season_27 : decode cX7_season 27 = .ok (.iconst (-1), 1) := by decide +kernel
theorem dX7_season_28 : decode cX7_season 28 = .ok (.ireturn, 1) := by decide +kernel
theorem dX7_season_29 : decode cX7_season 29 = .ok (.iload_n 3, 1) := by decide +kernel
theorem dX7_season_30 : decode cX7_season 30 = .ok (.lookupswitch 61 #[(0, 26), (1, 46)], 26) := by decide +kernel
theorem dX7_season_56 : decode cX7_season 56 = .ok (.aload 4, 2) := by decide +kernel
theorem dX7_season_58 : decode cX7_season 58 = .ok (.iload_n 1, 1) := by decide +kernel
theorem dX7_season_59 : decode cX7_season 59 = .ok (.aload 4, 2) := by decide +kernel
theorem dX7_season_61 : decode cX7_season 61 = .ok (.iload_n 2, 1) := by decide +kernel
theorem dX7_season_62 : decode cX7_season 62 = .ok (.aload_n 0, 1) := by decide +kernel
theorem dX7_season_63 : decode cX7_season 63 = .ok (.getfield 12, 3) := by decide +kernel
theorem dX7_season_66 : decode cX7_season 66 = .ok (.getfield 102, 3) := by decide +kernel
theorem dX7_season_69 : decode cX7_season 69 = .ok (.invokevirtual 152, 3) := by decide +kernel
theorem dX7_season_72 : decode cX7_season 72 = .ok (.invokevirtual 137, 3) := by decide +kernel
theorem dX7_season_75 : decode cX7_season 75 = .ok (.ireturn, 1) := by decide +kernel
theorem dX7_season_76 : decode cX7_season 76 = .ok (.aload 4, 2) := by decide +kernel
theorem dX7_season_78 : decode cX7_season 78 = .ok (.iload_n 1, 1) := by decide +kernel
theorem dX7_season_79 : decode cX7_season 79 = .ok (.iload_n 2, 1) := by decide +kernel
theorem dX7_season_80 : decode cX7_season 80 = .ok (.aload_n 0, 1) := by decide +kernel
theorem dX7_season_81 : decode cX7_season 81 = .ok (.getfield 12, 3) := by decide +kernel
theorem dX7_season_84 : decode cX7_season 84 = .ok (.getfield 102, 3) := by decide +kernel
theorem dX7_season_87 : decode cX7_season 87 = .ok (.invokevirtual 155, 3) := by decide +kernel
theorem dX7_season_90 : decode cX7_season 90 = .ok (.ireturn, 1) := by decide +kernel
theorem dX7_season_91 : decode cX7_season 91 = .ok (.iconst (-1), 1) := by decide +kernel
theorem dX7_season_92 : decode cX7_season 92 = .ok (.ireturn, 1) := by decide +kernel
set_option maxRecDepth 20000 in
theorem ggX7_when_X1_hasPair : GoodIn wsX7_when wsX1_hasPair := goodIn_r _ [7, 8, 40, 41, 42, 43, 44, 45, 46] (by decide +kernel) (by decide +kernel)
set_option maxRecDepth 20000 in
theorem gX7_when_X1_hasPair : GoodIn wsX7_when (wsV RX7 159 RX1 yX1_hasPair wsX1_hasPair) := goodIn_app (goodIn_of _ (by decide +kernel)) ggX7_when_X1_hasPair
set_option maxRecDepth 20000 in
theorem ggX7_when_X1_meetingOf : GoodIn wsX7_when wsX1_meetingOf := goodIn_r _ [12, 8, 13, 14, 15, 6, 16, 17, 18, 19, 20, 21, 22, 23, 24, 40, 41, 42, 43, 44, 45, 46] (by decide +kernel) (by decide +kernel)
set_option maxRecDepth 20000 in
theorem gX7_when_X1_meetingOf : GoodIn wsX7_when (wsV RX7 82 RX1 yX1_meetingOf wsX1_meetingOf) := goodIn_app (goodIn_of _ (by decide +kernel)) ggX7_when_X1_meetingOf
theorem dX7_when_0 : decode cX7_when 0 = .ok (.aload_n 0, 1) := by decide +kernel
theorem dX7_when_1 : decode cX7_when 1 = .ok (.getfield 12, 3) := by decide +kernel
theorem dX7_when_4 : decode cX7_when 4 = .ok (.getfield 38, 3) := by decide +kernel
theorem dX7_when_7 : decode cX7_when 7 = .ok (.iload_n 1, 1) := by decide +kernel
theorem dX7_when_8 : decode cX7_when 8 = .ok (.iload_n 2, 1) := by decide +kernel
theorem dX7_when_9 : decode cX7_when 9 = .ok (.invokevirtual 159, 3) := by decide +kernel
theorem dX7_when_12 : decode cX7_when 12 = .ok (.ifCond .ne 5, 3) := by decide +kernel
theorem dX7_when_15 : decode cX7_when 15 = .ok (.iconst (-1), 1) := by decide +kernel
theorem dX7_when_16 : decode cX7_when 16 = .ok (.ireturn, 1) := by decide +kernel
theorem dX7_when_17 : decode cX7_when 17 = .ok (.aload_n 0, 1) := by decide +kernel
theorem dX7_when_18 : decode cX7_when 18 = .ok (.getfield 12, 3) := by decide +kernel
theorem dX7_when_21 : decode cX7_when 21 = .ok (.getfield 38, 3) := by decide +kernel
theorem dX7_when_24 : decode cX7_when 24 = .ok (.iload_n 1, 1) := by decide +kernel
theorem dX7_when_25 : decode cX7_when 25 = .ok (.iload_n 2, 1) := by decide +kernel
theorem dX7_when_26 : decode cX7_when 26 = .ok (.invokevirtual 82, 3) := by decide +kernel
theorem dX7_when_29 : decode cX7_when 29 = .ok (.ireturn, 1) := by decide +kernel
set_option maxRecDepth 20000 in
theorem ggX7_about_X1_hasTeam : GoodIn wsX7_about wsX1_hasTeam := goodIn_r _ [10, 11, 91, 92, 93, 94, 95, 96, 97] (by decide +kernel) (by decide +kernel)
set_option maxRecDepth 20000 in
theorem gX7_about_X1_hasTeam : GoodIn wsX7_about (wsV RX7 52 RX1 yX1_hasTeam wsX1_hasTeam) := goodIn_app (goodIn_of _ (by decide +kernel)) ggX7_about_X1_hasTeam
set_option maxRecDepth 20000 in
theorem ggX7_about_X1_patternOf : GoodIn wsX7_about wsX1_patternOf := goodIn_r _ [15, 11, 16, 17, 18, 9, 19, 20, 21, 22, 23, 24, 25, 26, 27, 91, 92, 93, 94, 95, 96, 97] (by decide +kernel) (by decide +kernel)
set_option maxRecDepth 20000 in
theorem gX7_about_X1_patternOf : GoodIn wsX7_about (wsV RX7 162 RX1 yX1_patternOf wsX1_patternOf) := goodIn_app (goodIn_of _ (by decide +kernel)) ggX7_about_X1_patternOf
set_option maxRecDepth 20000 in
theorem ggX7_about_X1_breaksOf : GoodIn wsX7_about wsX1_breaksOf := goodIn_r _ [31, 11, 16, 17, 18, 9, 19, 20, 21, 22, 23, 24, 25, 26, 27, 91, 92, 93, 94, 95, 96, 97] (by decide +kernel) (by decide +kernel)
set_option maxRecDepth 20000 in
theorem gX7_about_X1_breaksOf : GoodIn wsX7_about (wsV RX7 165 RX1 yX1_breaksOf wsX1_breaksOf) := goodIn_app (goodIn_of _ (by decide +kernel)) ggX7_about_X1_breaksOf
set_option maxRecDepth 20000 in
theorem ggX7_about_X1_otherOf : GoodIn wsX7_about wsX1_otherOf := goodIn_r _ [35, 11, 36, 13, 14, 9, 15, 16, 17, 18, 19, 20, 21, 22, 23, 24, 25, 26, 27, 91, 92, 93, 94, 95, 96, 97] (by decide +kernel) (by decide +kernel)
set_option maxRecDepth 20000 in
theorem gX7_about_X1_otherOf : GoodIn wsX7_about (wsV RX7 168 RX1 yX1_otherOf wsX1_otherOf) := goodIn_app (goodIn_of _ (by decide +kernel)) ggX7_about_X1_otherOf
set_option maxRecDepth 20000 in
theorem ggX7_about_X3_milesOf : GoodIn wsX7_about wsX3_milesOf := goodIn_r _ [41, 42, 43, 44, 45, 46, 9, 47, 20, 48, 21, 22, 23, 24, 11, 25, 26, 27, 49, 50, 51, 40, 52, 53, 54, 55, 56, 57, 58, 59, 7, 8, 10, 82, 83, 84, 85, 86, 87, 88, 89, 90, 91, 92, 93, 94, 95, 96, 97] (by decide +kernel) (by decide +kernel)
set_option maxRecDepth 20000 in
theorem gX7_about_X3_milesOf : GoodIn wsX7_about (wsV RX7 171 RX3 yX3_milesOf wsX3_milesOf) := goodIn_app (goodIn_of _ (by decide +kernel)) ggX7_about_X3_milesOf
set_option maxRecDepth 20000 in
theorem ggX7_about_X1_seasonBreaks : GoodIn wsX7_about wsX1_seasonBreaks := goodIn_r _ [63, 64, 65, 66, 9, 67, 11, 68, 69, 70, 71, 72, 73, 74, 75, 16, 17, 18, 19, 20, 21, 22, 23, 24, 25, 26, 27, 91, 92, 93, 94, 95, 96, 97] (by decide +kernel) (by decide +kernel)
set_option maxRecDepth 20000 in
theorem gX7_about_X1_seasonBreaks : GoodIn wsX7_about (wsV RX7 174 RX1 yX1_seasonBreaks wsX1_seasonBreaks) := goodIn_app (goodIn_of _ (by decide +kernel)) ggX7_about_X1_seasonBreaks
theorem dX7_about_0 : decode cX7_about 0 = .ok (.aload_n 0, 1) := by decide +kernel
theorem dX7_about_1 : decode cX7_about 1 = .ok (.getfield 12, 3) := by decide +kernel
theorem dX7_about_4 : decode cX7_about 4 = .ok (.getfield 38, 3) := by decide +kernel
theorem dX7_about_7 : decode cX7_about 7 = .ok (.iload_n 1, 1) := by decide +kernel
theorem dX7_about_8 : decode cX7_about 8 = .ok (.invokevirtual 52, 3) := by decide +kernel
theorem dX7_about_11 : decode cX7_about 11 = .ok (.ifCond .ne 5, 3) := by decide +kernel
theorem dX7_about_14 : decode cX7_about 14 = .ok (.iconst (-1), 1) := by decide +kernel
theorem dX7_about_15 : decode cX7_about 15 = .ok (.ireturn, 1) := by decide +kernel
theorem dX7_about_16 : decode cX7_about 16 = .ok (.iload_n 2, 1) := by decide +kernel
theorem dX7_about_17 : decode cX7_about 17 = .ok (.tableswitch 127 0 6 #[43, 55, 67, 79, 88, 98, 108], 43) := by decide +kernel
theorem dX7_about_60 : decode cX7_about 60 = .ok (.aload_n 0, 1) := by decide +kernel
theorem dX7_about_61 : decode cX7_about 61 = .ok (.getfield 12, 3) := by decide +kernel
theorem dX7_about_64 : decode cX7_about 64 = .ok (.getfield 38, 3) := by decide +kernel
theorem dX7_about_67 : decode cX7_about 67 = .ok (.iload_n 1, 1) := by decide +kernel
theorem dX7_about_68 : decode cX7_about 68 = .ok (.invokevirtual 162, 3) := by decide +kernel
theorem dX7_about_71 : decode cX7_about 71 = .ok (.ireturn, 1) := by decide +kernel
theorem dX7_about_72 : decode cX7_about 72 = .ok (.aload_n 0, 1) := by decide +kernel
theorem dX7_about_73 : decode cX7_about 73 = .ok (.getfield 12, 3) := by decide +kernel
theorem dX7_about_76 : decode cX7_about 76 = .ok (.getfield 38, 3) := by decide +kernel
theorem dX7_about_79 : decode cX7_about 79 = .ok (.iload_n 1, 1) := by decide +kernel
theorem dX7_about_80 : decode cX7_about 80 = .ok (.invokevirtual 165, 3) := by decide +kernel
theorem dX7_about_83 : decode cX7_about 83 = .ok (.ireturn, 1) := by decide +kernel
theorem dX7_about_84 : decode cX7_about 84 = .ok (.aload_n 0, 1) := by decide +kernel
theorem dX7_about_85 : decode cX7_about 85 = .ok (.getfield 12, 3) := by decide +kernel
theorem dX7_about_88 : decode cX7_about 88 = .ok (.getfield 38, 3) := by decide +kernel
theorem dX7_about_91 : decode cX7_about 91 = .ok (.iload_n 1, 1) := by decide +kernel
theorem dX7_about_92 : decode cX7_about 92 = .ok (.invokevirtual 168, 3) := by decide +kernel
theorem dX7_about_95 : decode cX7_about 95 = .ok (.ireturn, 1) := by decide +kernel
theorem dX7_about_96 : decode cX7_about 96 = .ok (.aload_n 0, 1) := by decide +kernel
theorem dX7_about_97 : decode cX7_about 97 = .ok (.getfield 12, 3) := by decide +kernel
theorem dX7_about_100 : decode cX7_about 100 = .ok (.iload_n 1, 1) := by decide +kernel
theorem dX7_about_101 : decode cX7_about 101 = .ok (.invokevirtual 171, 3) := by decide +kernel
theorem dX7_about_104 : decode cX7_about 104 = .ok (.ireturn, 1) := by decide +kernel
theorem dX7_about_105 : decode cX7_about 105 = .ok (.aload_n 0, 1) := by decide +kernel
theorem dX7_about_106 : decode cX7_about 106 = .ok (.getfield 12, 3) := by decide +kernel
theorem dX7_about_109 : decode cX7_about 109 = .ok (.getfield 59, 3) := by decide +kernel
theorem dX7_about_112 : decode cX7_about 112 = .ok (.iload_n 1, 1) := by decide +kernel
theorem dX7_about_113 : decode cX7_about 113 = .ok (.iaload, 1) := by decide +kernel
theorem dX7_about_114 : decode cX7_about 114 = .ok (.ireturn, 1) := by decide +kernel
theorem dX7_about_115 : decode cX7_about 115 = .ok (.aload_n 0, 1) := by decide +kernel
theorem dX7_about_116 : decode cX7_about 116 = .ok (.getfield 12, 3) := by decide +kernel
theorem dX7_about_119 : decode cX7_about 119 = .ok (.getfield 63, 3) := by decide +kernel
theorem dX7_about_122 : decode cX7_about 122 = .ok (.iload_n 1, 1) := by decide +kernel
theorem dX7_about_123 : decode cX7_about 123 = .ok (.iaload, 1) := by decide +kernel
theorem dX7_about_124 : decode cX7_about 124 = .ok (.ireturn, 1) := by decide +kernel
theorem dX7_about_125 : decode cX7_about 125 = .ok (.aload_n 0, 1) := by decide +kernel
theorem dX7_about_126 : decode cX7_about 126 = .ok (.getfield 12, 3) := by decide +kernel
theorem dX7_about_129 : decode cX7_about 129 = .ok (.getfield 38, 3) := by decide +kernel
theorem dX7_about_132 : decode cX7_about 132 = .ok (.iload_n 1, 1) := by decide +kernel
theorem dX7_about_133 : decode cX7_about 133 = .ok (.aload_n 0, 1) := by decide +kernel
theorem dX7_about_134 : decode cX7_about 134 = .ok (.getfield 12, 3) := by decide +kernel
theorem dX7_about_137 : decode cX7_about 137 = .ok (.getfield 102, 3) := by decide +kernel
theorem dX7_about_140 : decode cX7_about 140 = .ok (.invokevirtual 174, 3) := by decide +kernel
theorem dX7_about_143 : decode cX7_about 143 = .ok (.ireturn, 1) := by decide +kernel
theorem dX7_about_144 : decode cX7_about 144 = .ok (.iconst (-1), 1) := by decide +kernel
theorem dX7_about_145 : decode cX7_about 145 = .ok (.ireturn, 1) := by decide +kernel
set_option maxRecDepth 20000 in
theorem ggX7_carried_X1_hasPair : GoodIn wsX7_carried wsX1_hasPair := goodIn_r _ [7, 8, 54, 55, 56, 57, 58, 59, 60] (by decide +kernel) (by decide +kernel)
set_option maxRecDepth 20000 in
theorem gX7_carried_X1_hasPair : GoodIn wsX7_carried (wsV RX7 159 RX1 yX1_hasPair wsX1_hasPair) := goodIn_app (goodIn_of _ (by decide +kernel)) ggX7_carried_X1_hasPair
set_option maxRecDepth 20000 in
theorem ggX7_carried_X1_carriedOf : GoodIn wsX7_carried wsX1_carriedOf := goodIn_r _ [12, 13, 14, 15, 16, 6, 17, 8, 18, 19, 20, 21, 22, 23, 24, 25, 26, 27, 28, 29, 30, 31, 32, 33, 34, 35, 36, 37, 38, 4, 5, 7, 54, 55, 56, 57, 58, 59, 60] (by decide +kernel) (by decide +kernel)
set_option maxRecDepth 20000 in
theorem gX7_carried_X1_carriedOf : GoodIn wsX7_carried (wsV RX7 177 RX1 yX1_carriedOf wsX1_carriedOf) := goodIn_app (goodIn_of _ (by decide +kernel)) ggX7_carried_X1_carriedOf
theorem dX7_carried_0 : decode cX7_carried 0 = .ok (.aload_n 0, 1) := by decide +kernel
theorem dX7_carried_1 : decode cX7_carried 1 = .ok (.getfield 12, 3) := by decide +kernel
theorem dX7_carried_4 : decode cX7_carried 4 = .ok (.getfield 38, 3) := by decide +kernel
theorem dX7_carried_7 : decode cX7_carried 7 = .ok (.iload_n 1, 1) := by decide +kernel
theorem dX7_carried_8 : decode cX7_carried 8 = .ok (.iload_n 2, 1) := by decide +kernel
theorem dX7_carried_9 : decode cX7_carried 9 = .ok (.invokevirtual 159, 3) := by decide +kernel
theorem dX7_carried_12 : decode cX7_carried 12 = .ok (.ifCond .ne 5, 3) := by decide +kernel
theorem dX7_carried_15 : decode cX7_carried 15 = .ok (.iconst (-1), 1) := by decide +kernel
theorem dX7_carried_16 : decode cX7_carried 16 = .ok (.ireturn, 1) := by decide +kernel
theorem dX7_carried_17 : decode cX7_carried 17 = .ok (.aload_n 0, 1) := by decide +kernel
theorem dX7_carried_18 : decode cX7_carried 18 = .ok (.getfield 12, 3) := by decide +kernel
theorem dX7_carried_21 : decode cX7_carried 21 = .ok (.getfield 38, 3) := by decide +kernel
theorem dX7_carried_24 : decode cX7_carried 24 = .ok (.iload_n 1, 1) := by decide +kernel
theorem dX7_carried_25 : decode cX7_carried 25 = .ok (.iload_n 2, 1) := by decide +kernel
theorem dX7_carried_26 : decode cX7_carried 26 = .ok (.invokevirtual 177, 3) := by decide +kernel
theorem dX7_carried_29 : decode cX7_carried 29 = .ok (.ireturn, 1) := by decide +kernel
set_option maxRecDepth 20000 in
theorem ggX7_loop_X1_hasRound : GoodIn wsX7_loop wsX1_hasRound := goodIn_r _ [7, 8, 44, 45, 46, 47, 48, 49, 50] (by decide +kernel) (by decide +kernel)
set_option maxRecDepth 20000 in
theorem gX7_loop_X1_hasRound : GoodIn wsX7_loop (wsV RX7 180 RX1 yX1_hasRound wsX1_hasRound) := goodIn_app (goodIn_of _ (by decide +kernel)) ggX7_loop_X1_hasRound
set_option maxRecDepth 20000 in
theorem ggX7_loop_X1_hasTeam : GoodIn wsX7_loop wsX1_hasTeam := goodIn_r _ [12, 8, 44, 45, 46, 47, 48, 49, 50] (by decide +kernel) (by decide +kernel)
set_option maxRecDepth 20000 in
theorem gX7_loop_X1_hasTeam : GoodIn wsX7_loop (wsV RX7 52 RX1 yX1_hasTeam wsX1_hasTeam) := goodIn_app (goodIn_of _ (by decide +kernel)) ggX7_loop_X1_hasTeam
set_option maxRecDepth 20000 in
theorem ggX7_loop_X1_loopOf : GoodIn wsX7_loop wsX1_loopOf := goodIn_r _ [16, 8, 17, 18, 19, 6, 20, 21, 22, 23, 24, 25, 26, 27, 28, 44, 45, 46, 47, 48, 49, 50] (by decide +kernel) (by decide +kernel)
set_option maxRecDepth 20000 in
theorem gX7_loop_X1_loopOf : GoodIn wsX7_loop (wsV RX7 183 RX1 yX1_loopOf wsX1_loopOf) := goodIn_app (goodIn_of _ (by decide +kernel)) ggX7_loop_X1_loopOf
theorem dX7_loop_0 : decode cX7_loop 0 = .ok (.aload_n 0, 1) := by decide +kernel
theorem dX7_loop_1 : decode cX7_loop 1 = .ok (.getfield 12, 3) := by decide +kernel
theorem dX7_loop_4 : decode cX7_loop 4 = .ok (.getfield 38, 3) := by decide +kernel
theorem dX7_loop_7 : decode cX7_loop 7 = .ok (.astore 4, 2) := by decide +kernel
theorem dX7_loop_9 : decode cX7_loop 9 = .ok (.aload 4, 2) := by decide +kernel
theorem dX7_loop_11 : decode cX7_loop 11 = .ok (.iload_n 1, 1) := by decide +kernel
theorem dX7_loop_12 : decode cX7_loop 12 = .ok (.invokevirtual 180, 3) := by decide +kernel
theorem dX7_loop_15 : decode cX7_loop 15 = .ok (.ifCond .eq 26, 3) := by decide +kernel
theorem dX7_loop_18 : decode cX7_loop 18 = .ok (.aload 4, 2) := by decide +kernel
theorem dX7_loop_20 : decode cX7_loop 20 = .ok (.iload_n 2, 1) := by decide +kernel
theorem dX7_loop_21 : decode cX7_loop 21 = .ok (.invokevirtual 180, 3) := by decide +kernel
theorem dX7_loop_24 : decode cX7_loop 24 = .ok (.ifCond .eq 17, 3) := by decide +kernel
theorem dX7_loop_27 : decode cX7_loop 27 = .ok (.iload_n 1, 1) := by decide +kernel
theorem dX7_loop_28 : decode cX7_loop 28 = .ok (.iload_n 2, 1) := by decide +kernel
theorem dX7_loop_29 : decode cX7_loop 29 = .ok (.if_icmp .eq 12, 3) := by decide +kernel
theorem dX7_loop_32 : decode cX7_loop 32 = .ok (.aload 4, 2) := by decide +kernel
theorem dX7_loop_34 : decode cX7_loop 34 = .ok (.iload_n 3, 1) := by decide +kernel
theorem dX7_loop_35 : decode cX7_loop 35 = .ok (.invokevirtual 52, 3) := by decide +kernel
theorem dX7_loop_38 : decode cX7_loop 38 = .ok (.ifCond .ne 5, 3) := by decide +kernel
theorem dX7_loop_41 : decode cX7_loop 41 = .ok (.iconst (-1), 1) := by decide +kernel
theorem dX7_loop_42 : decode cX7_loop 42 = .ok (.ireturn, 1) := by decide +kernel
theorem dX7_loop_43 : decode cX7_loop 43 = .ok (.aload 4, 2) := by decide +kernel
theorem dX7_loop_45 : decode cX7_loop 45 = .ok (.iload_n 1, 1) := by decide +kernel
theorem dX7_loop_46 : decode cX7_loop 46 = .ok (.iload_n 2, 1) := by decide +kernel
theorem dX7_loop_47 : decode cX7_loop 47 = .ok (.iload_n 3, 1) := by decide +kernel
theorem dX7_loop_48 : decode cX7_loop 48 = .ok (.invokevirtual 183, 3) := by decide +kernel
theorem dX7_loop_51 : decode cX7_loop 51 = .ok (.ireturn, 1) := by decide +kernel
set_option maxRecDepth 20000 in
theorem ggX7_told_X1_allBreaks : GoodIn wsX7_told wsX1_allBreaks := goodIn_r _ [9, 10, 11, 12, 13, 8, 14, 15, 16, 17, 18, 19, 20, 21, 22, 23, 24, 25, 26, 151, 152, 153, 154, 155, 156, 157] (by decide +kernel) (by decide +kernel)
set_option maxRecDepth 20000 in
theorem gX7_told_X1_allBreaks : GoodIn wsX7_told (wsV RX7 74 RX1 yX1_allBreaks wsX1_allBreaks) := goodIn_app (goodIn_of _ (by decide +kernel)) ggX7_told_X1_allBreaks
set_option maxRecDepth 20000 in
theorem ggX7_told_X3_violations : GoodIn wsX7_told wsX3_violations := goodIn_r _ [31, 32, 33, 34, 35, 36, 8, 37, 38, 39, 40, 41, 42, 10, 43, 44, 45, 30, 46, 47, 48, 21, 22, 23, 24, 25, 26, 142, 143, 144, 145, 146, 147, 148, 149, 150, 151, 152, 153, 154, 155, 156, 157] (by decide +kernel) (by decide +kernel)
set_option maxRecDepth 20000 in
theorem gX7_told_X3_violations : GoodIn wsX7_told (wsV RX7 186 RX3 yX3_violations wsX3_violations) := goodIn_app (goodIn_of _ (by decide +kernel)) ggX7_told_X3_violations
set_option maxRecDepth 20000 in
theorem ggX7_told_X1_carry : GoodIn wsX7_told wsX1_carry := goodIn_r _ [52, 10, 53, 54, 55, 56, 8, 57, 58, 59, 60, 61, 62, 63, 64, 65, 66, 20, 21, 22, 23, 24, 25, 26, 67, 68, 69, 70, 151, 152, 153, 154, 155, 156, 157] (by decide +kernel) (by decide +kernel)
set_option maxRecDepth 20000 in
theorem gX7_told_X1_carry : GoodIn wsX7_told (wsV RX7 189 RX1 yX1_carry wsX1_carry) := goodIn_app (goodIn_of _ (by decide +kernel)) ggX7_told_X1_carry
set_option maxRecDepth 20000 in
theorem ggX7_told_X3_allMiles : GoodIn wsX7_told wsX3_allMiles := goodIn_r _ [74, 32, 33, 75, 76, 77, 30, 78, 79, 80, 81, 8, 82, 19, 66, 20, 21, 22, 23, 10, 24, 25, 26, 83, 84, 85, 86, 87, 88, 89, 90, 91, 92, 93, 68, 69, 70, 142, 143, 144, 145, 146, 147, 148, 149, 150, 151, 152, 153, 154, 155, 156, 157] (by decide +kernel) (by decide +kernel)
set_option maxRecDepth 20000 in
theorem gX7_told_X3_allMiles : GoodIn wsX7_told (wsV RX7 192 RX3 yX3_allMiles wsX3_allMiles) := goodIn_app (goodIn_of _ (by decide +kernel)) ggX7_told_X3_allMiles
set_option maxRecDepth 20000 in
theorem ggX7_told_X3_mostWorn : GoodIn wsX7_told wsX3_mostWorn := goodIn_r _ [97, 32, 33, 98, 99, 100, 30, 101, 102, 103, 104, 105, 106, 107, 108, 109, 110, 111, 79, 80, 81, 8, 82, 19, 66, 20, 21, 22, 23, 10, 24, 25, 26, 83, 84, 85, 86, 87, 88, 89, 90, 91, 92, 93, 68, 69, 70, 142, 143, 144, 145, 146, 147, 148, 149, 150, 151, 152, 153, 154, 155, 156, 157] (by decide +kernel) (by decide +kernel)
set_option maxRecDepth 20000 in
theorem gX7_told_X3_mostWorn : GoodIn wsX7_told (wsV RX7 195 RX3 yX3_mostWorn wsX3_mostWorn) := goodIn_app (goodIn_of _ (by decide +kernel)) ggX7_told_X3_mostWorn
set_option maxRecDepth 20000 in
theorem ggX7_told_X3_allBars : GoodIn wsX7_told wsX3_allBars := goodIn_r _ [115, 47, 142, 143, 144, 145, 146, 147, 148, 149, 150] (by decide +kernel) (by decide +kernel)
set_option maxRecDepth 20000 in
theorem gX7_told_X3_allBars : GoodIn wsX7_told (wsV RX7 198 RX3 yX3_allBars wsX3_allBars) := goodIn_app (goodIn_of _ (by decide +kernel)) ggX7_told_X3_allBars
set_option maxRecDepth 20000 in
theorem ggX7_told_X1_allSeasonBreaks : GoodIn wsX7_told wsX1_allSeasonBreaks := goodIn_r _ [119, 10, 120, 121, 122, 8, 123, 124, 125, 126, 127, 128, 129, 130, 131, 132, 133, 134, 135, 15, 16, 17, 18, 19, 20, 21, 22, 23, 24, 25, 26, 151, 152, 153, 154, 155, 156, 157] (by decide +kernel) (by decide +kernel)
set_option maxRecDepth 20000 in
theorem gX7_told_X1_allSeasonBreaks : GoodIn wsX7_told (wsV RX7 201 RX1 yX1_allSeasonBreaks wsX1_allSeasonBreaks) := goodIn_app (goodIn_of _ (by decide +kernel)) ggX7_told_X1_allSeasonBreaks
theorem dX7_told_0 : decode cX7_told 0 = .ok (.iload_n 1, 1) := by decide +kernel
theorem dX7_told_1 : decode cX7_told 1 = .ok (.tableswitch 170 0 9 #[55, 66, 77, 85, 96, 104, 112, 120, 128, 146], 55) := by decide +kernel
theorem dX7_told_56 : decode cX7_told 56 = .ok (.aload_n 0, 1) := by decide +kernel
theorem dX7_told_57 : decode cX7_told 57 = .ok (.getfield 12, 3) := by decide +kernel
theorem dX7_told_60 : decode cX7_told 60 = .ok (.getfield 38, 3) := by decide +kernel
theorem dX7_told_63 : decode cX7_told 63 = .ok (.getfield 42, 3) := by decide +kernel
theorem dX7_told_66 : decode cX7_told 66 = .ok (.ireturn, 1) := by decide +kernel
theorem dX7_told_67 : decode cX7_told 67 = .ok (.aload_n 0, 1) := by decide +kernel
theorem dX7_told_68 : decode cX7_told 68 = .ok (.getfield 12, 3) := by decide +kernel
theorem dX7_told_71 : decode cX7_told 71 = .ok (.getfield 38, 3) := by decide +kernel
theorem dX7_told_74 : decode cX7_told 74 = .ok (.invokevirtual 74, 3) := by decide +kernel
theorem dX7_told_77 : decode cX7_told 77 = .ok (.ireturn, 1) := by decide +kernel
theorem dX7_told_78 : decode cX7_told 78 = .ok (.aload_n 0, 1) := by decide +kernel
theorem dX7_told_79 : decode cX7_told 79 = .ok (.getfield 12, 3) := by decide +kernel
theorem dX7_told_82 : decode cX7_told 82 = .ok (.invokevirtual 186, 3) := by decide +kernel
theorem dX7_told_85 : decode cX7_told 85 = .ok (.ireturn, 1) := by decide +kernel
theorem dX7_told_86 : decode cX7_told 86 = .ok (.aload_n 0, 1) := by decide +kernel
theorem dX7_told_87 : decode cX7_told 87 = .ok (.getfield 12, 3) := by decide +kernel
theorem dX7_told_90 : decode cX7_told 90 = .ok (.getfield 38, 3) := by decide +kernel
theorem dX7_told_93 : decode cX7_told 93 = .ok (.invokevirtual 189, 3) := by decide +kernel
theorem dX7_told_96 : decode cX7_told 96 = .ok (.ireturn, 1) := by decide +kernel
theorem dX7_told_97 : decode cX7_told 97 = .ok (.aload_n 0, 1) := by decide +kernel
theorem dX7_told_98 : decode cX7_told 98 = .ok (.getfield 12, 3) := by decide +kernel
theorem dX7_told_101 : decode cX7_told 101 = .ok (.invokevirtual 192, 3) := by decide +kernel
theorem dX7_told_104 : decode cX7_told 104 = .ok (.ireturn, 1) := by decide +kernel
theorem dX7_told_105 : decode cX7_told 105 = .ok (.aload_n 0, 1) := by decide +kernel
theorem dX7_told_106 : decode cX7_told 106 = .ok (.getfield 12, 3) := by decide +kernel
theorem dX7_told_109 : decode cX7_told 109 = .ok (.invokevirtual 195, 3) := by decide +kernel
theorem dX7_told_112 : decode cX7_told 112 = .ok (.ireturn, 1) := by decide +kernel
theorem dX7_told_113 : decode cX7_told 113 = .ok (.aload_n 0, 1) := by decide +kernel
theorem dX7_told_114 : decode cX7_told 114 = .ok (.getfield 12, 3) := by decide +kernel
theorem dX7_told_117 : decode cX7_told 117 = .ok (.invokevirtual 198, 3) := by decide +kernel
theorem dX7_told_120 : decode cX7_told 120 = .ok (.ireturn, 1) := by decide +kernel
theorem dX7_told_121 : decode cX7_told 121 = .ok (.aload_n 0, 1) := by decide +kernel
theorem dX7_told_122 : decode cX7_told 122 = .ok (.getfield 12, 3) := by decide +kernel
theorem dX7_told_125 : decode cX7_told 125 = .ok (.getfield 102, 3) := by decide +kernel
theorem dX7_told_128 : decode cX7_told 128 = .ok (.ireturn, 1) := by decide +kernel
theorem dX7_told_129 : decode cX7_told 129 = .ok (.aload_n 0, 1) := by decide +kernel
theorem dX7_told_130 : decode cX7_told 130 = .ok (.getfield 12, 3) := by decide +kernel
theorem dX7_told_133 : decode cX7_told 133 = .ok (.getfield 38, 3) := by decide +kernel
theorem dX7_told_136 : decode cX7_told 136 = .ok (.aload_n 0, 1) := by decide +kernel
theorem dX7_told_137 : decode cX7_told 137 = .ok (.getfield 12, 3) := by decide +kernel
theorem dX7_told_140 : decode cX7_told 140 = .ok (.getfield 102, 3) := by decide +kernel
theorem dX7_told_143 : decode cX7_told 143 = .ok (.invokevirtual 201, 3) := by decide +kernel
theorem dX7_told_146 : decode cX7_told 146 = .ok (.ireturn, 1) := by decide +kernel
theorem dX7_told_147 : decode cX7_told 147 = .ok (.aload_n 0, 1) := by decide +kernel
theorem dX7_told_148 : decode cX7_told 148 = .ok (.getfield 12, 3) := by decide +kernel
theorem dX7_told_151 : decode cX7_told 151 = .ok (.getfield 38, 3) := by decide +kernel
theorem dX7_told_154 : decode cX7_told 154 = .ok (.invokevirtual 74, 3) := by decide +kernel
theorem dX7_told_157 : decode cX7_told 157 = .ok (.aload_n 0, 1) := by decide +kernel
theorem dX7_told_158 : decode cX7_told 158 = .ok (.getfield 12, 3) := by decide +kernel
theorem dX7_told_161 : decode cX7_told 161 = .ok (.getfield 38, 3) := by decide +kernel
theorem dX7_told_164 : decode cX7_told 164 = .ok (.getfield 42, 3) := by decide +kernel
theorem dX7_told_167 : decode cX7_told 167 = .ok (.iconst 2, 1) := by decide +kernel
theorem dX7_told_168 : decode cX7_told 168 = .ok (.isub, 1) := by decide +kernel
theorem dX7_told_169 : decode cX7_told 169 = .ok (.isub, 1) := by decide +kernel
theorem dX7_told_170 : decode cX7_told 170 = .ok (.ireturn, 1) := by decide +kernel
theorem dX7_told_171 : decode cX7_told 171 = .ok (.iconst (-1), 1) := by decide +kernel
theorem dX7_told_172 : decode cX7_told 172 = .ok (.ireturn, 1) := by decide +kernel
set_option maxRecDepth 20000 in
theorem ggX7_rateOf_X7_isRate : GoodIn wsX7_rateOf wsX7_isRate := goodIn_r _ [6] (by decide +kernel) (by decide +kernel)
set_option maxRecDepth 20000 in
theorem gX7_rateOf_X7_isRate : GoodIn wsX7_rateOf (va_wsS RX7 96 yX7_isRate wsX7_isRate) := goodIn_app (goodIn_of _ (by decide +kernel)) ggX7_rateOf_X7_isRate
theorem dX7_rateOf_0 : decode cX7_rateOf 0 = .ok (.iload_n 1, 1) := by decide +kernel
theorem dX7_rateOf_1 : decode cX7_rateOf 1 = .ok (.invokestatic 96, 3) := by decide +kernel
theorem dX7_rateOf_4 : decode cX7_rateOf 4 = .ok (.ifCond .eq 15, 3) := by decide +kernel
theorem dX7_rateOf_7 : decode cX7_rateOf 7 = .ok (.aload_n 0, 1) := by decide +kernel
theorem dX7_rateOf_8 : decode cX7_rateOf 8 = .ok (.getfield 12, 3) := by decide +kernel
theorem dX7_rateOf_11 : decode cX7_rateOf 11 = .ok (.getfield 99, 3) := by decide +kernel
theorem dX7_rateOf_14 : decode cX7_rateOf 14 = .ok (.iload_n 1, 1) := by decide +kernel
theorem dX7_rateOf_15 : decode cX7_rateOf 15 = .ok (.iaload, 1) := by decide +kernel
theorem dX7_rateOf_16 : decode cX7_rateOf 16 = .ok (.goto 4, 3) := by decide +kernel
theorem dX7_rateOf_19 : decode cX7_rateOf 19 = .ok (.iconst (-1), 1) := by decide +kernel
theorem dX7_rateOf_20 : decode cX7_rateOf 20 = .ok (.ireturn, 1) := by decide +kernel
set_option maxRecDepth 20000 in
theorem ggX7_wear_X1_hasPlace : GoodIn wsX7_wear wsX1_hasPlace := goodIn_r _ [8, 9, 68, 69, 70, 71, 72, 73, 74] (by decide +kernel) (by decide +kernel)
set_option maxRecDepth 20000 in
theorem gX7_wear_X1_hasPlace : GoodIn wsX7_wear (wsV RX7 85 RX1 yX1_hasPlace wsX1_hasPlace) := goodIn_app (goodIn_of _ (by decide +kernel)) ggX7_wear_X1_hasPlace
set_option maxRecDepth 20000 in
theorem ggX7_wear_X3_wearBehind : GoodIn wsX7_wear wsX3_wearBehind := goodIn_r _ [14, 15, 16, 17, 18, 19, 13, 20, 21, 22, 23, 24, 7, 25, 26, 27, 28, 5, 6, 8, 9, 29, 30, 31, 32, 33, 34, 35, 36, 37, 38, 39, 40, 41, 42, 43, 44, 45, 59, 60, 61, 62, 63, 64, 65, 66, 67, 68, 69, 70, 71, 72, 73, 74] (by decide +kernel) (by decide +kernel)
set_option maxRecDepth 20000 in
theorem gX7_wear_X3_wearBehind : GoodIn wsX7_wear (wsV RX7 206 RX3 yX3_wearBehind wsX3_wearBehind) := goodIn_app (goodIn_of _ (by decide +kernel)) ggX7_wear_X3_wearBehind
set_option maxRecDepth 20000 in
theorem ggX7_wear_X7_bitsOfFloat : GoodIn wsX7_wear wsX7_bitsOfFloat := goodIn_r _ [48, 49, 50, 30, 51, 52] (by decide +kernel) (by decide +kernel)
set_option maxRecDepth 20000 in
theorem gX7_wear_X7_bitsOfFloat : GoodIn wsX7_wear (va_wsS RX7 210 yX7_bitsOfFloat wsX7_bitsOfFloat) := goodIn_app (goodIn_of _ (by decide +kernel)) ggX7_wear_X7_bitsOfFloat
theorem dX7_wear_0 : decode cX7_wear 0 = .ok (.aload_n 0, 1) := by decide +kernel
theorem dX7_wear_1 : decode cX7_wear 1 = .ok (.getfield 12, 3) := by decide +kernel
theorem dX7_wear_4 : decode cX7_wear 4 = .ok (.getfield 38, 3) := by decide +kernel
theorem dX7_wear_7 : decode cX7_wear 7 = .ok (.iload_n 1, 1) := by decide +kernel
theorem dX7_wear_8 : decode cX7_wear 8 = .ok (.iload_n 2, 1) := by decide +kernel
theorem dX7_wear_9 : decode cX7_wear 9 = .ok (.invokevirtual 85, 3) := by decide +kernel
theorem dX7_wear_12 : decode cX7_wear 12 = .ok (.ifCond .ne 7, 3) := by decide +kernel
theorem dX7_wear_15 : decode cX7_wear 15 = .ok (.ldc2_w 204, 3) := by decide +kernel
theorem dX7_wear_18 : decode cX7_wear 18 = .ok (.lreturn, 1) := by decide +kernel
theorem dX7_wear_19 : decode cX7_wear 19 = .ok (.aload_n 0, 1) := by decide +kernel
theorem dX7_wear_20 : decode cX7_wear 20 = .ok (.getfield 12, 3) := by decide +kernel
theorem dX7_wear_23 : decode cX7_wear 23 = .ok (.iload_n 1, 1) := by decide +kernel
theorem dX7_wear_24 : decode cX7_wear 24 = .ok (.iload_n 2, 1) := by decide +kernel
theorem dX7_wear_25 : decode cX7_wear 25 = .ok (.invokevirtual 206, 3) := by decide +kernel
theorem dX7_wear_28 : decode cX7_wear 28 = .ok (.invokestatic 210, 3) := by decide +kernel
theorem dX7_wear_31 : decode cX7_wear 31 = .ok (.lreturn, 1) := by decide +kernel
set_option maxRecDepth 20000 in
theorem ggX7_cost_X3_fullCost : GoodIn wsX7_cost wsX3_fullCost := goodIn_r _ [6, 7, 8, 9, 10, 11, 12, 13, 14, 15, 16, 17, 18, 19, 20, 21, 22, 23, 24, 25, 26, 27, 28, 29, 30, 31, 32, 5, 33, 34, 35, 36, 37, 38, 39, 40, 41, 42, 43, 44, 45, 46, 47, 48, 49, 50, 51, 52, 53, 54, 55, 56, 57, 58, 59, 60, 61, 62, 63, 64, 65, 66, 67, 68, 69, 70, 71, 72, 73, 74, 75, 76, 77, 78, 79, 80, 81, 82, 83, 84, 85, 86, 87, 88, 89, 90, 91, 92, 93, 94, 95, 96, 97, 98, 99, 100, 101, 102, 116, 117, 118, 119, 120, 121, 122, 123, 124, 125, 126, 127, 128, 129, 130, 131] (by decide +kernel) (by decide +kernel)
set_option maxRecDepth 20000 in
theorem gX7_cost_X3_fullCost : GoodIn wsX7_cost (wsV RX7 214 RX3 yX3_fullCost wsX3_fullCost) := goodIn_app (goodIn_of _ (by decide +kernel)) ggX7_cost_X3_fullCost
set_option maxRecDepth 20000 in
theorem ggX7_cost_X7_bitsOfFloat : GoodIn wsX7_cost wsX7_bitsOfFloat := goodIn_r _ [105, 106, 107, 28, 108, 109] (by decide +kernel) (by decide +kernel)
set_option maxRecDepth 20000 in
theorem gX7_cost_X7_bitsOfFloat : GoodIn wsX7_cost (va_wsS RX7 210 yX7_bitsOfFloat wsX7_bitsOfFloat) := goodIn_app (goodIn_of _ (by decide +kernel)) ggX7_cost_X7_bitsOfFloat
theorem dX7_cost_0 : decode cX7_cost 0 = .ok (.aload_n 0, 1) := by decide +kernel
theorem dX7_cost_1 : decode cX7_cost 1 = .ok (.getfield 12, 3) := by decide +kernel
theorem dX7_cost_4 : decode cX7_cost 4 = .ok (.invokevirtual 214, 3) := by decide +kernel
theorem dX7_cost_7 : decode cX7_cost 7 = .ok (.invokestatic 210, 3) := by decide +kernel
theorem dX7_cost_10 : decode cX7_cost 10 = .ok (.lreturn, 1) := by decide +kernel
set_option maxRecDepth 20000 in
theorem ggX7_would_X3_mayChange : GoodIn wsX7_would wsX3_mayChange := goodIn_r _ [7, 8, 9, 10, 11, 12, 13, 14, 15, 16, 17, 18, 19, 20, 21, 22, 23, 24, 25, 26, 27, 166, 167, 168, 169, 170, 171, 172, 173, 174, 175, 176, 177, 178, 179, 180, 181] (by decide +kernel) (by decide +kernel)
set_option maxRecDepth 20000 in
theorem gX7_would_X3_mayChange : GoodIn wsX7_would (wsV RX7 66 RX3 yX3_mayChange wsX3_mayChange) := goodIn_app (goodIn_of _ (by decide +kernel)) ggX7_would_X3_mayChange
set_option maxRecDepth 20000 in
theorem ggX7_would_X3_costIf : GoodIn wsX7_would wsX3_costIf := goodIn_r _ [31, 32, 33, 34, 6, 35, 8, 36, 37, 38, 39, 12, 40, 14, 41, 42, 43, 44, 45, 46, 16, 17, 18, 47, 48, 49, 50, 51, 52, 53, 54, 55, 56, 57, 58, 59, 60, 61, 62, 63, 24, 64, 65, 66, 67, 68, 69, 70, 71, 72, 73, 74, 75, 23, 25, 76, 77, 78, 79, 80, 81, 82, 83, 84, 85, 86, 87, 88, 89, 90, 91, 92, 93, 94, 95, 96, 97, 98, 99, 100, 101, 102, 103, 104, 105, 106, 107, 108, 109, 110, 111, 112, 113, 114, 115, 116, 117, 118, 119, 120, 121, 122, 123, 124, 125, 126, 127, 128, 129, 130, 20, 21, 22, 131, 132, 133, 134, 135, 136, 137, 138, 139, 140, 141, 142, 143, 144, 145, 146, 147, 148, 149, 150, 151, 152, 19, 166, 167, 168, 169, 170, 171, 172, 173, 174, 175, 176, 177, 178, 179, 180, 181] (by decide +kernel) (by decide +kernel)
set_option maxRecDepth 20000 in
theorem gX7_would_X3_costIf : GoodIn wsX7_would (wsV RX7 218 RX3 yX3_costIf wsX3_costIf) := goodIn_app (goodIn_of _ (by decide +kernel)) ggX7_would_X3_costIf
set_option maxRecDepth 20000 in
theorem ggX7_would_X7_bitsOfFloat : GoodIn wsX7_would wsX7_bitsOfFloat := goodIn_r _ [155, 156, 157, 24, 158, 159] (by decide +kernel) (by decide +kernel)
set_option maxRecDepth 20000 in
theorem gX7_would_X7_bitsOfFloat : GoodIn wsX7_would (va_wsS RX7 210 yX7_bitsOfFloat wsX7_bitsOfFloat) := goodIn_app (goodIn_of _ (by decide +kernel)) ggX7_would_X7_bitsOfFloat
theorem dX7_would_0 : decode cX7_would 0 = .ok (.aload_n 0, 1) := by decide +kernel
theorem dX7_would_1 : decode cX7_would 1 = .ok (.getfield 12, 3) := by decide +kernel
theorem dX7_would_4 : decode cX7_would 4 = .ok (.iconst 1, 1) := by decide +kernel
theorem dX7_would_5 : decode cX7_would 5 = .ok (.iload_n 1, 1) := by decide +kernel
theorem dX7_would_6 : decode cX7_would 6 = .ok (.iload_n 2, 1) := by decide +kernel
theorem dX7_would_7 : decode cX7_would 7 = .ok (.invokevirtual 66, 3) := by decide +kernel
theorem dX7_would_10 : decode cX7_would 10 = .ok (.ifCond .ne 7, 3) := by decide +kernel
theorem dX7_would_13 : decode cX7_would 13 = .ok (.ldc2_w 204, 3) := by decide +kernel
theorem dX7_would_16 : decode cX7_would 16 = .ok (.lreturn, 1) := by decide +kernel
theorem dX7_would_17 : decode cX7_would 17 = .ok (.aload_n 0, 1) := by decide +kernel
theorem dX7_would_18 : decode cX7_would 18 = .ok (.getfield 12, 3) := by decide +kernel
theorem dX7_would_21 : decode cX7_would 21 = .ok (.iconst 1, 1) := by decide +kernel
theorem dX7_would_22 : decode cX7_would 22 = .ok (.iload_n 1, 1) := by decide +kernel
theorem dX7_would_23 : decode cX7_would 23 = .ok (.iload_n 2, 1) := by decide +kernel
theorem dX7_would_24 : decode cX7_would 24 = .ok (.invokevirtual 218, 3) := by decide +kernel
theorem dX7_would_27 : decode cX7_would 27 = .ok (.invokestatic 210, 3) := by decide +kernel
theorem dX7_would_30 : decode cX7_would 30 = .ok (.lreturn, 1) := by decide +kernel
set_option maxRecDepth 20000 in
theorem ggX7_spread_X7_isPart : GoodIn wsX7_spread wsX7_isPart := goodIn_r _ [7] (by decide +kernel) (by decide +kernel)
set_option maxRecDepth 20000 in
theorem gX7_spread_X7_isPart : GoodIn wsX7_spread (va_wsS RX7 222 yX7_isPart wsX7_isPart) := goodIn_app (goodIn_of _ (by decide +kernel)) ggX7_spread_X7_isPart
set_option maxRecDepth 20000 in
theorem ggX7_spread_X3_spreadOfWear : GoodIn wsX7_spread wsX3_spreadOfWear := goodIn_r _ [12, 13, 14, 15, 16, 17, 11, 18, 19, 20, 21, 22, 23, 24, 25, 26, 27, 28, 29, 30, 31, 32, 33, 34, 35, 36, 37, 38, 39, 40, 41, 6, 42, 43, 44, 45, 46, 47, 48, 49, 50, 51, 52, 53, 54, 55, 56, 70, 71, 72, 73, 74, 75, 76, 77, 78, 79, 80, 81, 82, 83, 84, 85] (by decide +kernel) (by decide +kernel)
set_option maxRecDepth 20000 in
theorem gX7_spread_X3_spreadOfWear : GoodIn wsX7_spread (wsV RX7 225 RX3 yX3_spreadOfWear wsX3_spreadOfWear) := goodIn_app (goodIn_of _ (by decide +kernel)) ggX7_spread_X3_spreadOfWear
set_option maxRecDepth 20000 in
theorem ggX7_spread_X7_bitsOfDouble : GoodIn wsX7_spread wsX7_bitsOfDouble := goodIn_r _ [59, 60, 61, 6, 62, 63] (by decide +kernel) (by decide +kernel)
set_option maxRecDepth 20000 in
theorem gX7_spread_X7_bitsOfDouble : GoodIn wsX7_spread (va_wsS RX7 229 yX7_bitsOfDouble wsX7_bitsOfDouble) := goodIn_app (goodIn_of _ (by decide +kernel)) ggX7_spread_X7_bitsOfDouble
theorem dX7_spread_0 : decode cX7_spread 0 = .ok (.iload_n 1, 1) := by decide +kernel
theorem dX7_spread_1 : decode cX7_spread 1 = .ok (.invokestatic 222, 3) := by decide +kernel
theorem dX7_spread_4 : decode cX7_spread 4 = .ok (.ifCond .ne 7, 3) := by decide +kernel
theorem dX7_spread_7 : decode cX7_spread 7 = .ok (.ldc2_w 204, 3) := by decide +kernel
theorem dX7_spread_10 : decode cX7_spread 10 = .ok (.lreturn, 1) := by decide +kernel
theorem dX7_spread_11 : decode cX7_spread 11 = .ok (.aload_n 0, 1) := by decide +kernel
theorem dX7_spread_12 : decode cX7_spread 12 = .ok (.getfield 12, 3) := by decide +kernel
theorem dX7_spread_15 : decode cX7_spread 15 = .ok (.invokevirtual 225, 3) := by decide +kernel
theorem dX7_spread_18 : decode cX7_spread 18 = .ok (.invokestatic 229, 3) := by decide +kernel
theorem dX7_spread_21 : decode cX7_spread 21 = .ok (.lstore_n 2, 1) := by decide +kernel
theorem dX7_spread_22 : decode cX7_spread 22 = .ok (.iload_n 1, 1) := by decide +kernel
theorem dX7_spread_23 : decode cX7_spread 23 = .ok (.ifCond .ne 10, 3) := by decide +kernel
theorem dX7_spread_26 : decode cX7_spread 26 = .ok (.lload_n 2, 1) := by decide +kernel
theorem dX7_spread_27 : decode cX7_spread 27 = .ok (.bipush 32, 2) := by decide +kernel
theorem dX7_spread_29 : decode cX7_spread 29 = .ok (.lushr, 1) := by decide +kernel
theorem dX7_spread_30 : decode cX7_spread 30 = .ok (.goto 8, 3) := by decide +kernel
theorem dX7_spread_33 : decode cX7_spread 33 = .ok (.lload_n 2, 1) := by decide +kernel
theorem dX7_spread_34 : decode cX7_spread 34 = .ok (.ldc2_w 233, 3) := by decide +kernel
theorem dX7_spread_37 : decode cX7_spread 37 = .ok (.land, 1) := by decide +kernel
theorem dX7_spread_38 : decode cX7_spread 38 = .ok (.lreturn, 1) := by decide +kernel
set_option maxRecDepth 20000 in
theorem ggX7_see_X2_empty : GoodIn wsX7_see wsX2_empty := goodIn_r _ [9, 10, 43, 44, 45] (by decide +kernel) (by decide +kernel)
set_option maxRecDepth 20000 in
theorem gX7_see_X2_empty : GoodIn wsX7_see (wsV RX7 238 RX2 yX2_empty wsX2_empty) := goodIn_app (goodIn_of _ (by decide +kernel)) ggX7_see_X2_empty
set_option maxRecDepth 20000 in
theorem ggX7_see_X1_hasTeam : GoodIn wsX7_see wsX1_hasTeam := goodIn_r _ [15, 16, 46, 47, 48, 49, 50, 51, 52] (by decide +kernel) (by decide +kernel)
set_option maxRecDepth 20000 in
theorem gX7_see_X1_hasTeam : GoodIn wsX7_see (wsV RX7 52 RX1 yX1_hasTeam wsX1_hasTeam) := goodIn_app (goodIn_of _ (by decide +kernel)) ggX7_see_X1_hasTeam
set_option maxRecDepth 20000 in
theorem ggX7_see_X2_isFull : GoodIn wsX7_see wsX2_isFull := goodIn_r _ [20, 10, 21, 43, 44, 45] (by decide +kernel) (by decide +kernel)
set_option maxRecDepth 20000 in
theorem gX7_see_X2_isFull : GoodIn wsX7_see (wsV RX7 241 RX2 yX2_isFull wsX2_isFull) := goodIn_app (goodIn_of _ (by decide +kernel)) ggX7_see_X2_isFull
set_option maxRecDepth 20000 in
theorem ggX7_see_X2_add : GoodIn wsX7_see wsX2_add := goodIn_r _ [25, 10, 26, 27, 18, 19, 8, 20, 21, 43, 44, 45] (by decide +kernel) (by decide +kernel)
set_option maxRecDepth 20000 in
theorem gX7_see_X2_add : GoodIn wsX7_see (wsV RX7 245 RX2 yX2_add wsX2_add) := goodIn_app (goodIn_of _ (by decide +kernel)) ggX7_see_X2_add
theorem dX7_see_0 : decode cX7_see 0 = .ok (.iload_n 1, 1) := by decide +kernel
theorem dX7_see_1 : decode cX7_see 1 = .ok (.iconst (-1), 1) := by decide +kernel
theorem dX7_see_2 : decode cX7_see 2 = .ok (.if_icmp .ne 15, 3) := by decide +kernel
theorem dX7_see_5 : decode cX7_see 5 = .ok (.aload_n 0, 1) := by decide +kernel
theorem dX7_see_6 : decode cX7_see 6 = .ok (.getfield 12, 3) := by decide +kernel
theorem dX7_see_9 : decode cX7_see 9 = .ok (.getfield 235, 3) := by decide +kernel
