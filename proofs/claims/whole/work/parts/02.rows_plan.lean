theorem dX1_init_0 : decode cX1_init 0 = .ok (.aload_n 0, 1) := by decide +kernel
theorem dX1_init_1 : decode cX1_init 1 = .ok (.invokespecial 3, 3) := by decide +kernel
theorem dX1_init_4 : decode cX1_init 4 = .ok (.aload_n 0, 1) := by decide +kernel
theorem dX1_init_5 : decode cX1_init 5 = .ok (.bipush 15, 2) := by decide +kernel
theorem dX1_init_7 : decode cX1_init 7 = .ok (.newarray .int, 2) := by decide +kernel
theorem dX1_init_9 : decode cX1_init 9 = .ok (.putfield 9, 3) := by decide +kernel
theorem dX1_init_12 : decode cX1_init 12 = .ok (.aload_n 0, 1) := by decide +kernel
theorem dX1_init_13 : decode cX1_init 13 = .ok (.bipush 15, 2) := by decide +kernel
theorem dX1_init_15 : decode cX1_init 15 = .ok (.newarray .int, 2) := by decide +kernel
theorem dX1_init_17 : decode cX1_init 17 = .ok (.putfield 15, 3) := by decide +kernel
theorem dX1_init_20 : decode cX1_init 20 = .ok (.aload_n 0, 1) := by decide +kernel
theorem dX1_init_21 : decode cX1_init 21 = .ok (.bipush 30, 2) := by decide +kernel
theorem dX1_init_23 : decode cX1_init 23 = .ok (.newarray .int, 2) := by decide +kernel
theorem dX1_init_25 : decode cX1_init 25 = .ok (.putfield 18, 3) := by decide +kernel
theorem dX1_init_28 : decode cX1_init 28 = .ok (.aload_n 0, 1) := by decide +kernel
theorem dX1_init_29 : decode cX1_init 29 = .ok (.bipush 30, 2) := by decide +kernel
theorem dX1_init_31 : decode cX1_init 31 = .ok (.newarray .int, 2) := by decide +kernel
theorem dX1_init_33 : decode cX1_init 33 = .ok (.putfield 21, 3) := by decide +kernel
theorem dX1_init_36 : decode cX1_init 36 = .ok (.aload_n 0, 1) := by decide +kernel
theorem dX1_init_37 : decode cX1_init 37 = .ok (.bipush 30, 2) := by decide +kernel
theorem dX1_init_39 : decode cX1_init 39 = .ok (.newarray .int, 2) := by decide +kernel
theorem dX1_init_41 : decode cX1_init 41 = .ok (.putfield 24, 3) := by decide +kernel
theorem dX1_init_44 : decode cX1_init 44 = .ok (.aload_n 0, 1) := by decide +kernel
theorem dX1_init_45 : decode cX1_init 45 = .ok (.bipush 36, 2) := by decide +kernel
theorem dX1_init_47 : decode cX1_init 47 = .ok (.newarray .int, 2) := by decide +kernel
theorem dX1_init_49 : decode cX1_init 49 = .ok (.putfield 27, 3) := by decide +kernel
theorem dX1_init_52 : decode cX1_init 52 = .ok (.return_, 1) := by decide +kernel
theorem dX1_hasTeam_0 : decode cX1_hasTeam 0 = .ok (.iload_n 1, 1) := by decide +kernel
theorem dX1_hasTeam_1 : decode cX1_hasTeam 1 = .ok (.ifCond .lt 15, 3) := by decide +kernel
theorem dX1_hasTeam_4 : decode cX1_hasTeam 4 = .ok (.iload_n 1, 1) := by decide +kernel
theorem dX1_hasTeam_5 : decode cX1_hasTeam 5 = .ok (.aload_n 0, 1) := by decide +kernel
theorem dX1_hasTeam_6 : decode cX1_hasTeam 6 = .ok (.getfield 30, 3) := by decide +kernel
theorem dX1_hasTeam_9 : decode cX1_hasTeam 9 = .ok (.if_icmp .ge 7, 3) := by decide +kernel
theorem dX1_hasTeam_12 : decode cX1_hasTeam 12 = .ok (.iconst 1, 1) := by decide +kernel
theorem dX1_hasTeam_13 : decode cX1_hasTeam 13 = .ok (.goto 4, 3) := by decide +kernel
theorem dX1_hasTeam_16 : decode cX1_hasTeam 16 = .ok (.iconst 0, 1) := by decide +kernel
theorem dX1_hasTeam_17 : decode cX1_hasTeam 17 = .ok (.ireturn, 1) := by decide +kernel
theorem dX1_hasRound_0 : decode cX1_hasRound 0 = .ok (.iload_n 1, 1) := by decide +kernel
theorem dX1_hasRound_1 : decode cX1_hasRound 1 = .ok (.ifCond .lt 17, 3) := by decide +kernel
theorem dX1_hasRound_4 : decode cX1_hasRound 4 = .ok (.iload_n 1, 1) := by decide +kernel
theorem dX1_hasRound_5 : decode cX1_hasRound 5 = .ok (.aload_n 0, 1) := by decide +kernel
theorem dX1_hasRound_6 : decode cX1_hasRound 6 = .ok (.getfield 30, 3) := by decide +kernel
theorem dX1_hasRound_9 : decode cX1_hasRound 9 = .ok (.iconst 1, 1) := by decide +kernel
theorem dX1_hasRound_10 : decode cX1_hasRound 10 = .ok (.isub, 1) := by decide +kernel
theorem dX1_hasRound_11 : decode cX1_hasRound 11 = .ok (.if_icmp .ge 7, 3) := by decide +kernel
theorem dX1_hasRound_14 : decode cX1_hasRound 14 = .ok (.iconst 1, 1) := by decide +kernel
theorem dX1_hasRound_15 : decode cX1_hasRound 15 = .ok (.goto 4, 3) := by decide +kernel
theorem dX1_hasRound_18 : decode cX1_hasRound 18 = .ok (.iconst 0, 1) := by decide +kernel
theorem dX1_hasRound_19 : decode cX1_hasRound 19 = .ok (.ireturn, 1) := by decide +kernel
theorem dX1_hasPlace_0 : decode cX1_hasPlace 0 = .ok (.iload_n 1, 1) := by decide +kernel
theorem dX1_hasPlace_1 : decode cX1_hasPlace 1 = .ok (.ifCond .lt 29, 3) := by decide +kernel
theorem dX1_hasPlace_4 : decode cX1_hasPlace 4 = .ok (.iload_n 1, 1) := by decide +kernel
theorem dX1_hasPlace_5 : decode cX1_hasPlace 5 = .ok (.aload_n 0, 1) := by decide +kernel
theorem dX1_hasPlace_6 : decode cX1_hasPlace 6 = .ok (.getfield 30, 3) := by decide +kernel
theorem dX1_hasPlace_9 : decode cX1_hasPlace 9 = .ok (.if_icmp .ge 21, 3) := by decide +kernel
theorem dX1_hasPlace_12 : decode cX1_hasPlace 12 = .ok (.iload_n 2, 1) := by decide +kernel
theorem dX1_hasPlace_13 : decode cX1_hasPlace 13 = .ok (.ifCond .lt 17, 3) := by decide +kernel
theorem dX1_hasPlace_16 : decode cX1_hasPlace 16 = .ok (.iload_n 2, 1) := by decide +kernel
theorem dX1_hasPlace_17 : decode cX1_hasPlace 17 = .ok (.aload_n 0, 1) := by decide +kernel
theorem dX1_hasPlace_18 : decode cX1_hasPlace 18 = .ok (.getfield 30, 3) := by decide +kernel
theorem dX1_hasPlace_21 : decode cX1_hasPlace 21 = .ok (.iconst 1, 1) := by decide +kernel
theorem dX1_hasPlace_22 : decode cX1_hasPlace 22 = .ok (.isub, 1) := by decide +kernel
theorem dX1_hasPlace_23 : decode cX1_hasPlace 23 = .ok (.if_icmp .ge 7, 3) := by decide +kernel
theorem dX1_hasPlace_26 : decode cX1_hasPlace 26 = .ok (.iconst 1, 1) := by decide +kernel
theorem dX1_hasPlace_27 : decode cX1_hasPlace 27 = .ok (.goto 4, 3) := by decide +kernel
theorem dX1_hasPlace_30 : decode cX1_hasPlace 30 = .ok (.iconst 0, 1) := by decide +kernel
theorem dX1_hasPlace_31 : decode cX1_hasPlace 31 = .ok (.ireturn, 1) := by decide +kernel
theorem dX1_hasPair_0 : decode cX1_hasPair 0 = .ok (.iload_n 1, 1) := by decide +kernel
theorem dX1_hasPair_1 : decode cX1_hasPair 1 = .ok (.ifCond .lt 32, 3) := by decide +kernel
theorem dX1_hasPair_4 : decode cX1_hasPair 4 = .ok (.iload_n 1, 1) := by decide +kernel
theorem dX1_hasPair_5 : decode cX1_hasPair 5 = .ok (.aload_n 0, 1) := by decide +kernel
theorem dX1_hasPair_6 : decode cX1_hasPair 6 = .ok (.getfield 30, 3) := by decide +kernel
theorem dX1_hasPair_9 : decode cX1_hasPair 9 = .ok (.if_icmp .ge 24, 3) := by decide +kernel
theorem dX1_hasPair_12 : decode cX1_hasPair 12 = .ok (.iload_n 2, 1) := by decide +kernel
theorem dX1_hasPair_13 : decode cX1_hasPair 13 = .ok (.ifCond .lt 20, 3) := by decide +kernel
theorem dX1_hasPair_16 : decode cX1_hasPair 16 = .ok (.iload_n 2, 1) := by decide +kernel
theorem dX1_hasPair_17 : decode cX1_hasPair 17 = .ok (.aload_n 0, 1) := by decide +kernel
theorem dX1_hasPair_18 : decode cX1_hasPair 18 = .ok (.getfield 30, 3) := by decide +kernel
theorem dX1_hasPair_21 : decode cX1_hasPair 21 = .ok (.if_icmp .ge 12, 3) := by decide +kernel
theorem dX1_hasPair_24 : decode cX1_hasPair 24 = .ok (.iload_n 1, 1) := by decide +kernel
theorem dX1_hasPair_25 : decode cX1_hasPair 25 = .ok (.iload_n 2, 1) := by decide +kernel
theorem dX1_hasPair_26 : decode cX1_hasPair 26 = .ok (.if_icmp .eq 7, 3) := by decide +kernel
theorem dX1_hasPair_29 : decode cX1_hasPair 29 = .ok (.iconst 1, 1) := by decide +kernel
theorem dX1_hasPair_30 : decode cX1_hasPair 30 = .ok (.goto 4, 3) := by decide +kernel
theorem dX1_hasPair_33 : decode cX1_hasPair 33 = .ok (.iconst 0, 1) := by decide +kernel
theorem dX1_hasPair_34 : decode cX1_hasPair 34 = .ok (.ireturn, 1) := by decide +kernel
theorem dX1_hasGame_0 : decode cX1_hasGame 0 = .ok (.iload_n 1, 1) := by decide +kernel
theorem dX1_hasGame_1 : decode cX1_hasGame 1 = .ok (.ifCond .lt 31, 3) := by decide +kernel
theorem dX1_hasGame_4 : decode cX1_hasGame 4 = .ok (.iload_n 1, 1) := by decide +kernel
theorem dX1_hasGame_5 : decode cX1_hasGame 5 = .ok (.aload_n 0, 1) := by decide +kernel
theorem dX1_hasGame_6 : decode cX1_hasGame 6 = .ok (.getfield 30, 3) := by decide +kernel
theorem dX1_hasGame_9 : decode cX1_hasGame 9 = .ok (.iconst 1, 1) := by decide +kernel
theorem dX1_hasGame_10 : decode cX1_hasGame 10 = .ok (.isub, 1) := by decide +kernel
theorem dX1_hasGame_11 : decode cX1_hasGame 11 = .ok (.if_icmp .ge 21, 3) := by decide +kernel
theorem dX1_hasGame_14 : decode cX1_hasGame 14 = .ok (.iload_n 2, 1) := by decide +kernel
theorem dX1_hasGame_15 : decode cX1_hasGame 15 = .ok (.ifCond .lt 17, 3) := by decide +kernel
theorem dX1_hasGame_18 : decode cX1_hasGame 18 = .ok (.iload_n 2, 1) := by decide +kernel
theorem dX1_hasGame_19 : decode cX1_hasGame 19 = .ok (.aload_n 0, 1) := by decide +kernel
theorem dX1_hasGame_20 : decode cX1_hasGame 20 = .ok (.getfield 30, 3) := by decide +kernel
theorem dX1_hasGame_23 : decode cX1_hasGame 23 = .ok (.iconst 2, 1) := by decide +kernel
theorem dX1_hasGame_24 : decode cX1_hasGame 24 = .ok (.idiv, 1) := by decide +kernel
theorem dX1_hasGame_25 : decode cX1_hasGame 25 = .ok (.if_icmp .ge 7, 3) := by decide +kernel
theorem dX1_hasGame_28 : decode cX1_hasGame 28 = .ok (.iconst 1, 1) := by decide +kernel
theorem dX1_hasGame_29 : decode cX1_hasGame 29 = .ok (.goto 4, 3) := by decide +kernel
theorem dX1_hasGame_32 : decode cX1_hasGame 32 = .ok (.iconst 0, 1) := by decide +kernel
theorem dX1_hasGame_33 : decode cX1_hasGame 33 = .ok (.ireturn, 1) := by decide +kernel
set_option maxRecDepth 20000 in
theorem ggX1_homeOf_X1_hasGame : GoodIn wsX1_homeOf wsX1_hasGame := goodIn_r _ [6, 7, 8, 9, 10, 11, 12, 13, 14] (by decide +kernel) (by decide +kernel)
set_option maxRecDepth 20000 in
theorem gX1_homeOf_X1_hasGame : GoodIn wsX1_homeOf (wsV RX1 34 RX1 yX1_hasGame wsX1_hasGame) := goodIn_app (goodIn_of _ (by decide +kernel)) ggX1_homeOf_X1_hasGame
theorem dX1_homeOf_0 : decode cX1_homeOf 0 = .ok (.aload_n 0, 1) := by decide +kernel
theorem dX1_homeOf_1 : decode cX1_homeOf 1 = .ok (.iload_n 1, 1) := by decide +kernel
theorem dX1_homeOf_2 : decode cX1_homeOf 2 = .ok (.iload_n 2, 1) := by decide +kernel
theorem dX1_homeOf_3 : decode cX1_homeOf 3 = .ok (.invokevirtual 34, 3) := by decide +kernel
theorem dX1_homeOf_6 : decode cX1_homeOf 6 = .ok (.ifCond .eq 16, 3) := by decide +kernel
theorem dX1_homeOf_9 : decode cX1_homeOf 9 = .ok (.aload_n 0, 1) := by decide +kernel
theorem dX1_homeOf_10 : decode cX1_homeOf 10 = .ok (.getfield 9, 3) := by decide +kernel
theorem dX1_homeOf_13 : decode cX1_homeOf 13 = .ok (.iload_n 1, 1) := by decide +kernel
theorem dX1_homeOf_14 : decode cX1_homeOf 14 = .ok (.iconst 3, 1) := by decide +kernel
theorem dX1_homeOf_15 : decode cX1_homeOf 15 = .ok (.imul, 1) := by decide +kernel
theorem dX1_homeOf_16 : decode cX1_homeOf 16 = .ok (.iload_n 2, 1) := by decide +kernel
theorem dX1_homeOf_17 : decode cX1_homeOf 17 = .ok (.iadd, 1) := by decide +kernel
theorem dX1_homeOf_18 : decode cX1_homeOf 18 = .ok (.iaload, 1) := by decide +kernel
theorem dX1_homeOf_19 : decode cX1_homeOf 19 = .ok (.goto 4, 3) := by decide +kernel
theorem dX1_homeOf_22 : decode cX1_homeOf 22 = .ok (.iconst (-1), 1) := by decide +kernel
theorem dX1_homeOf_23 : decode cX1_homeOf 23 = .ok (.ireturn, 1) := by decide +kernel
set_option maxRecDepth 20000 in
theorem ggX1_awayOf_X1_hasGame : GoodIn wsX1_awayOf wsX1_hasGame := goodIn_r _ [6, 7, 8, 9, 10, 11, 12, 13, 14] (by decide +kernel) (by decide +kernel)
set_option maxRecDepth 20000 in
theorem gX1_awayOf_X1_hasGame : GoodIn wsX1_awayOf (wsV RX1 34 RX1 yX1_hasGame wsX1_hasGame) := goodIn_app (goodIn_of _ (by decide +kernel)) ggX1_awayOf_X1_hasGame
theorem dX1_awayOf_0 : decode cX1_awayOf 0 = .ok (.aload_n 0, 1) := by decide +kernel
theorem dX1_awayOf_1 : decode cX1_awayOf 1 = .ok (.iload_n 1, 1) := by decide +kernel
theorem dX1_awayOf_2 : decode cX1_awayOf 2 = .ok (.iload_n 2, 1) := by decide +kernel
theorem dX1_awayOf_3 : decode cX1_awayOf 3 = .ok (.invokevirtual 34, 3) := by decide +kernel
theorem dX1_awayOf_6 : decode cX1_awayOf 6 = .ok (.ifCond .eq 16, 3) := by decide +kernel
theorem dX1_awayOf_9 : decode cX1_awayOf 9 = .ok (.aload_n 0, 1) := by decide +kernel
theorem dX1_awayOf_10 : decode cX1_awayOf 10 = .ok (.getfield 15, 3) := by decide +kernel
theorem dX1_awayOf_13 : decode cX1_awayOf 13 = .ok (.iload_n 1, 1) := by decide +kernel
theorem dX1_awayOf_14 : decode cX1_awayOf 14 = .ok (.iconst 3, 1) := by decide +kernel
theorem dX1_awayOf_15 : decode cX1_awayOf 15 = .ok (.imul, 1) := by decide +kernel
theorem dX1_awayOf_16 : decode cX1_awayOf 16 = .ok (.iload_n 2, 1) := by decide +kernel
theorem dX1_awayOf_17 : decode cX1_awayOf 17 = .ok (.iadd, 1) := by decide +kernel
theorem dX1_awayOf_18 : decode cX1_awayOf 18 = .ok (.iaload, 1) := by decide +kernel
theorem dX1_awayOf_19 : decode cX1_awayOf 19 = .ok (.goto 4, 3) := by decide +kernel
theorem dX1_awayOf_22 : decode cX1_awayOf 22 = .ok (.iconst (-1), 1) := by decide +kernel
theorem dX1_awayOf_23 : decode cX1_awayOf 23 = .ok (.ireturn, 1) := by decide +kernel
set_option maxRecDepth 20000 in
theorem ggX1_rivalOf_X1_hasPlace : GoodIn wsX1_rivalOf wsX1_hasPlace := goodIn_r _ [6, 7, 11, 12, 13, 14, 15, 16, 17] (by decide +kernel) (by decide +kernel)
set_option maxRecDepth 20000 in
theorem gX1_rivalOf_X1_hasPlace : GoodIn wsX1_rivalOf (wsV RX1 38 RX1 yX1_hasPlace wsX1_hasPlace) := goodIn_app (goodIn_of _ (by decide +kernel)) ggX1_rivalOf_X1_hasPlace
set_option maxRecDepth 20000 in
theorem ggX1_rivalOf_X7_cellOf : GoodIn wsX1_rivalOf wsX7_cellOf := goodIn_r _ [10] (by decide +kernel) (by decide +kernel)
set_option maxRecDepth 20000 in
theorem gX1_rivalOf_X7_cellOf_n41 : GoodIn wsX1_rivalOf (wsX7_cellOf) := ggX1_rivalOf_X7_cellOf
theorem dX1_rivalOf_0 : decode cX1_rivalOf 0 = .ok (.aload_n 0, 1) := by decide +kernel
theorem dX1_rivalOf_1 : decode cX1_rivalOf 1 = .ok (.iload_n 1, 1) := by decide +kernel
theorem dX1_rivalOf_2 : decode cX1_rivalOf 2 = .ok (.iload_n 2, 1) := by decide +kernel
theorem dX1_rivalOf_3 : decode cX1_rivalOf 3 = .ok (.invokevirtual 38, 3) := by decide +kernel
theorem dX1_rivalOf_6 : decode cX1_rivalOf 6 = .ok (.ifCond .eq 16, 3) := by decide +kernel
theorem dX1_rivalOf_9 : decode cX1_rivalOf 9 = .ok (.aload_n 0, 1) := by decide +kernel
theorem dX1_rivalOf_10 : decode cX1_rivalOf 10 = .ok (.getfield 18, 3) := by decide +kernel
theorem dX1_rivalOf_13 : decode cX1_rivalOf 13 = .ok (.iload_n 1, 1) := by decide +kernel
theorem dX1_rivalOf_14 : decode cX1_rivalOf 14 = .ok (.iload_n 2, 1) := by decide +kernel
theorem dX1_rivalOf_15 : decode cX1_rivalOf 15 = .ok (.invokestatic 41, 3) := by decide +kernel
theorem dX1_rivalOf_18 : decode cX1_rivalOf 18 = .ok (.iaload, 1) := by decide +kernel
theorem dX1_rivalOf_19 : decode cX1_rivalOf 19 = .ok (.goto 4, 3) := by decide +kernel
theorem dX1_rivalOf_22 : decode cX1_rivalOf 22 = .ok (.iconst (-1), 1) := by decide +kernel
theorem dX1_rivalOf_23 : decode cX1_rivalOf 23 = .ok (.ireturn, 1) := by decide +kernel
set_option maxRecDepth 20000 in
theorem ggX1_sideOf_X1_hasPlace : GoodIn wsX1_sideOf wsX1_hasPlace := goodIn_r _ [6, 7, 11, 12, 13, 14, 15, 16, 17] (by decide +kernel) (by decide +kernel)
set_option maxRecDepth 20000 in
theorem gX1_sideOf_X1_hasPlace : GoodIn wsX1_sideOf (wsV RX1 38 RX1 yX1_hasPlace wsX1_hasPlace) := goodIn_app (goodIn_of _ (by decide +kernel)) ggX1_sideOf_X1_hasPlace
set_option maxRecDepth 20000 in
theorem ggX1_sideOf_X7_cellOf : GoodIn wsX1_sideOf wsX7_cellOf := goodIn_r _ [10] (by decide +kernel) (by decide +kernel)
set_option maxRecDepth 20000 in
theorem gX1_sideOf_X7_cellOf_n41 : GoodIn wsX1_sideOf (wsX7_cellOf) := ggX1_sideOf_X7_cellOf
theorem dX1_sideOf_0 : decode cX1_sideOf 0 = .ok (.aload_n 0, 1) := by decide +kernel
theorem dX1_sideOf_1 : decode cX1_sideOf 1 = .ok (.iload_n 1, 1) := by decide +kernel
theorem dX1_sideOf_2 : decode cX1_sideOf 2 = .ok (.iload_n 2, 1) := by decide +kernel
theorem dX1_sideOf_3 : decode cX1_sideOf 3 = .ok (.invokevirtual 38, 3) := by decide +kernel
theorem dX1_sideOf_6 : decode cX1_sideOf 6 = .ok (.ifCond .eq 16, 3) := by decide +kernel
theorem dX1_sideOf_9 : decode cX1_sideOf 9 = .ok (.aload_n 0, 1) := by decide +kernel
theorem dX1_sideOf_10 : decode cX1_sideOf 10 = .ok (.getfield 21, 3) := by decide +kernel
theorem dX1_sideOf_13 : decode cX1_sideOf 13 = .ok (.iload_n 1, 1) := by decide +kernel
theorem dX1_sideOf_14 : decode cX1_sideOf 14 = .ok (.iload_n 2, 1) := by decide +kernel
theorem dX1_sideOf_15 : decode cX1_sideOf 15 = .ok (.invokestatic 41, 3) := by decide +kernel
theorem dX1_sideOf_18 : decode cX1_sideOf 18 = .ok (.iaload, 1) := by decide +kernel
theorem dX1_sideOf_19 : decode cX1_sideOf 19 = .ok (.goto 4, 3) := by decide +kernel
theorem dX1_sideOf_22 : decode cX1_sideOf 22 = .ok (.iconst (-1), 1) := by decide +kernel
theorem dX1_sideOf_23 : decode cX1_sideOf 23 = .ok (.ireturn, 1) := by decide +kernel
set_option maxRecDepth 20000 in
theorem ggX1_gameOf_X1_hasPlace : GoodIn wsX1_gameOf wsX1_hasPlace := goodIn_r _ [6, 7, 11, 12, 13, 14, 15, 16, 17] (by decide +kernel) (by decide +kernel)
set_option maxRecDepth 20000 in
theorem gX1_gameOf_X1_hasPlace : GoodIn wsX1_gameOf (wsV RX1 38 RX1 yX1_hasPlace wsX1_hasPlace) := goodIn_app (goodIn_of _ (by decide +kernel)) ggX1_gameOf_X1_hasPlace
set_option maxRecDepth 20000 in
theorem ggX1_gameOf_X7_cellOf : GoodIn wsX1_gameOf wsX7_cellOf := goodIn_r _ [10] (by decide +kernel) (by decide +kernel)
set_option maxRecDepth 20000 in
theorem gX1_gameOf_X7_cellOf_n41 : GoodIn wsX1_gameOf (wsX7_cellOf) := ggX1_gameOf_X7_cellOf
theorem dX1_gameOf_0 : decode cX1_gameOf 0 = .ok (.aload_n 0, 1) := by decide +kernel
theorem dX1_gameOf_1 : decode cX1_gameOf 1 = .ok (.iload_n 1, 1) := by decide +kernel
theorem dX1_gameOf_2 : decode cX1_gameOf 2 = .ok (.iload_n 2, 1) := by decide +kernel
theorem dX1_gameOf_3 : decode cX1_gameOf 3 = .ok (.invokevirtual 38, 3) := by decide +kernel
theorem dX1_gameOf_6 : decode cX1_gameOf 6 = .ok (.ifCond .eq 16, 3) := by decide +kernel
theorem dX1_gameOf_9 : decode cX1_gameOf 9 = .ok (.aload_n 0, 1) := by decide +kernel
theorem dX1_gameOf_10 : decode cX1_gameOf 10 = .ok (.getfield 24, 3) := by decide +kernel
theorem dX1_gameOf_13 : decode cX1_gameOf 13 = .ok (.iload_n 1, 1) := by decide +kernel
theorem dX1_gameOf_14 : decode cX1_gameOf 14 = .ok (.iload_n 2, 1) := by decide +kernel
theorem dX1_gameOf_15 : decode cX1_gameOf 15 = .ok (.invokestatic 41, 3) := by decide +kernel
theorem dX1_gameOf_18 : decode cX1_gameOf 18 = .ok (.iaload, 1) := by decide +kernel
theorem dX1_gameOf_19 : decode cX1_gameOf 19 = .ok (.goto 4, 3) := by decide +kernel
theorem dX1_gameOf_22 : decode cX1_gameOf 22 = .ok (.iconst (-1), 1) := by decide +kernel
theorem dX1_gameOf_23 : decode cX1_gameOf 23 = .ok (.ireturn, 1) := by decide +kernel
set_option maxRecDepth 20000 in
theorem ggX1_hostOf_X1_hasPlace : GoodIn wsX1_hostOf wsX1_hasPlace := goodIn_r _ [7, 8, 12, 13, 14, 15, 16, 17, 18] (by decide +kernel) (by decide +kernel)
set_option maxRecDepth 20000 in
theorem gX1_hostOf_X1_hasPlace : GoodIn wsX1_hostOf (wsV RX1 38 RX1 yX1_hasPlace wsX1_hasPlace) := goodIn_app (goodIn_of _ (by decide +kernel)) ggX1_hostOf_X1_hasPlace
set_option maxRecDepth 20000 in
theorem ggX1_hostOf_X7_cellOf : GoodIn wsX1_hostOf wsX7_cellOf := goodIn_r _ [11] (by decide +kernel) (by decide +kernel)
set_option maxRecDepth 20000 in
theorem gX1_hostOf_X7_cellOf_n41 : GoodIn wsX1_hostOf (wsX7_cellOf) := ggX1_hostOf_X7_cellOf
theorem dX1_hostOf_0 : decode cX1_hostOf 0 = .ok (.aload_n 0, 1) := by decide +kernel
theorem dX1_hostOf_1 : decode cX1_hostOf 1 = .ok (.iload_n 1, 1) := by decide +kernel
theorem dX1_hostOf_2 : decode cX1_hostOf 2 = .ok (.iload_n 2, 1) := by decide +kernel
theorem dX1_hostOf_3 : decode cX1_hostOf 3 = .ok (.invokevirtual 38, 3) := by decide +kernel
theorem dX1_hostOf_6 : decode cX1_hostOf 6 = .ok (.ifCond .ne 5, 3) := by decide +kernel
theorem dX1_hostOf_9 : decode cX1_hostOf 9 = .ok (.iload_n 1, 1) := by decide +kernel
theorem dX1_hostOf_10 : decode cX1_hostOf 10 = .ok (.ireturn, 1) := by decide +kernel
theorem dX1_hostOf_11 : decode cX1_hostOf 11 = .ok (.iload_n 1, 1) := by decide +kernel
theorem dX1_hostOf_12 : decode cX1_hostOf 12 = .ok (.iload_n 2, 1) := by decide +kernel
theorem dX1_hostOf_13 : decode cX1_hostOf 13 = .ok (.invokestatic 41, 3) := by decide +kernel
theorem dX1_hostOf_16 : decode cX1_hostOf 16 = .ok (.istore_n 3, 1) := by decide +kernel
theorem dX1_hostOf_17 : decode cX1_hostOf 17 = .ok (.aload_n 0, 1) := by decide +kernel
theorem dX1_hostOf_18 : decode cX1_hostOf 18 = .ok (.getfield 21, 3) := by decide +kernel
theorem dX1_hostOf_21 : decode cX1_hostOf 21 = .ok (.iload_n 3, 1) := by decide +kernel
theorem dX1_hostOf_22 : decode cX1_hostOf 22 = .ok (.iaload, 1) := by decide +kernel
theorem dX1_hostOf_23 : decode cX1_hostOf 23 = .ok (.iconst 1, 1) := by decide +kernel
theorem dX1_hostOf_24 : decode cX1_hostOf 24 = .ok (.if_icmp .ne 7, 3) := by decide +kernel
theorem dX1_hostOf_27 : decode cX1_hostOf 27 = .ok (.iload_n 1, 1) := by decide +kernel
theorem dX1_hostOf_28 : decode cX1_hostOf 28 = .ok (.goto 9, 3) := by decide +kernel
theorem dX1_hostOf_31 : decode cX1_hostOf 31 = .ok (.aload_n 0, 1) := by decide +kernel
theorem dX1_hostOf_32 : decode cX1_hostOf 32 = .ok (.getfield 18, 3) := by decide +kernel
theorem dX1_hostOf_35 : decode cX1_hostOf 35 = .ok (.iload_n 3, 1) := by decide +kernel
theorem dX1_hostOf_36 : decode cX1_hostOf 36 = .ok (.iaload, 1) := by decide +kernel
theorem dX1_hostOf_37 : decode cX1_hostOf 37 = .ok (.ireturn, 1) := by decide +kernel
set_option maxRecDepth 20000 in
theorem ggX1_put_X1_hasGame : GoodIn wsX1_put wsX1_hasGame := goodIn_r _ [10, 11, 19, 20, 21, 22, 23, 24, 25] (by decide +kernel) (by decide +kernel)
set_option maxRecDepth 20000 in
theorem gX1_put_X1_hasGame : GoodIn wsX1_put (wsV RX1 34 RX1 yX1_hasGame wsX1_hasGame) := goodIn_app (goodIn_of _ (by decide +kernel)) ggX1_put_X1_hasGame
set_option maxRecDepth 20000 in
theorem ggX1_put_X1_hasPair : GoodIn wsX1_put wsX1_hasPair := goodIn_r _ [15, 11, 19, 20, 21, 22, 23, 24, 25] (by decide +kernel) (by decide +kernel)
set_option maxRecDepth 20000 in
theorem gX1_put_X1_hasPair : GoodIn wsX1_put (wsV RX1 45 RX1 yX1_hasPair wsX1_hasPair) := goodIn_app (goodIn_of _ (by decide +kernel)) ggX1_put_X1_hasPair
set_option maxRecDepth 20000 in
theorem ggX1_put_X7_cellOf : GoodIn wsX1_put wsX7_cellOf := goodIn_r _ [18] (by decide +kernel) (by decide +kernel)
set_option maxRecDepth 20000 in
theorem gX1_put_X7_cellOf_n41 : GoodIn wsX1_put (wsX7_cellOf) := ggX1_put_X7_cellOf
theorem dX1_put_0 : decode cX1_put 0 = .ok (.aload_n 0, 1) := by decide +kernel
theorem dX1_put_1 : decode cX1_put 1 = .ok (.iload_n 1, 1) := by decide +kernel
theorem dX1_put_2 : decode cX1_put 2 = .ok (.iload_n 2, 1) := by decide +kernel
theorem dX1_put_3 : decode cX1_put 3 = .ok (.invokevirtual 34, 3) := by decide +kernel
theorem dX1_put_6 : decode cX1_put 6 = .ok (.ifCond .eq 13, 3) := by decide +kernel
theorem dX1_put_9 : decode cX1_put 9 = .ok (.aload_n 0, 1) := by decide +kernel
theorem dX1_put_10 : decode cX1_put 10 = .ok (.iload_n 3, 1) := by decide +kernel
theorem dX1_put_11 : decode cX1_put 11 = .ok (.iload 4, 2) := by decide +kernel
theorem dX1_put_13 : decode cX1_put 13 = .ok (.invokevirtual 45, 3) := by decide +kernel
theorem dX1_put_16 : decode cX1_put 16 = .ok (.ifCond .ne 4, 3) := by decide +kernel
theorem dX1_put_19 : decode cX1_put 19 = .ok (.return_, 1) := by decide +kernel
theorem dX1_put_20 : decode cX1_put 20 = .ok (.aload_n 0, 1) := by decide +kernel
theorem dX1_put_21 : decode cX1_put 21 = .ok (.getfield 9, 3) := by decide +kernel
theorem dX1_put_24 : decode cX1_put 24 = .ok (.iload_n 1, 1) := by decide +kernel
theorem dX1_put_25 : decode cX1_put 25 = .ok (.iconst 3, 1) := by decide +kernel
theorem dX1_put_26 : decode cX1_put 26 = .ok (.imul, 1) := by decide +kernel
theorem dX1_put_27 : decode cX1_put 27 = .ok (.iload_n 2, 1) := by decide +kernel
theorem dX1_put_28 : decode cX1_put 28 = .ok (.iadd, 1) := by decide +kernel
theorem dX1_put_29 : decode cX1_put 29 = .ok (.iload_n 3, 1) := by decide +kernel
theorem dX1_put_30 : decode cX1_put 30 = .ok (.iastore, 1) := by decide +kernel
theorem dX1_put_31 : decode cX1_put 31 = .ok (.aload_n 0, 1) := by decide +kernel
theorem dX1_put_32 : decode cX1_put 32 = .ok (.getfield 15, 3) := by decide +kernel
theorem dX1_put_35 : decode cX1_put 35 = .ok (.iload_n 1, 1) := by decide +kernel
theorem dX1_put_36 : decode cX1_put 36 = .ok (.iconst 3, 1) := by decide +kernel
theorem dX1_put_37 : decode cX1_put 37 = .ok (.imul, 1) := by decide +kernel
theorem dX1_put_38 : decode cX1_put 38 = .ok (.iload_n 2, 1) := by decide +kernel
theorem dX1_put_39 : decode cX1_put 39 = .ok (.iadd, 1) := by decide +kernel
theorem dX1_put_40 : decode cX1_put 40 = .ok (.iload 4, 2) := by decide +kernel
theorem dX1_put_42 : decode cX1_put 42 = .ok (.iastore, 1) := by decide +kernel
theorem dX1_put_43 : decode cX1_put 43 = .ok (.iload_n 3, 1) := by decide +kernel
theorem dX1_put_44 : decode cX1_put 44 = .ok (.iload_n 1, 1) := by decide +kernel
theorem dX1_put_45 : decode cX1_put 45 = .ok (.invokestatic 41, 3) := by decide +kernel
theorem dX1_put_48 : decode cX1_put 48 = .ok (.istore 5, 2) := by decide +kernel
theorem dX1_put_50 : decode cX1_put 50 = .ok (.iload 4, 2) := by decide +kernel
theorem dX1_put_52 : decode cX1_put 52 = .ok (.iload_n 1, 1) := by decide +kernel
theorem dX1_put_53 : decode cX1_put 53 = .ok (.invokestatic 41, 3) := by decide +kernel
theorem dX1_put_56 : decode cX1_put 56 = .ok (.istore 6, 2) := by decide +kernel
theorem dX1_put_58 : decode cX1_put 58 = .ok (.aload_n 0, 1) := by decide +kernel
theorem dX1_put_59 : decode cX1_put 59 = .ok (.getfield 18, 3) := by decide +kernel
theorem dX1_put_62 : decode cX1_put 62 = .ok (.iload 5, 2) := by decide +kernel
theorem dX1_put_64 : decode cX1_put 64 = .ok (.iload 4, 2) := by decide +kernel
theorem dX1_put_66 : decode cX1_put 66 = .ok (.iastore, 1) := by decide +kernel
theorem dX1_put_67 : decode cX1_put 67 = .ok (.aload_n 0, 1) := by decide +kernel
theorem dX1_put_68 : decode cX1_put 68 = .ok (.getfield 18, 3) := by decide +kernel
theorem dX1_put_71 : decode cX1_put 71 = .ok (.iload 6, 2) := by decide +kernel
theorem dX1_put_73 : decode cX1_put 73 = .ok (.iload_n 3, 1) := by decide +kernel
theorem dX1_put_74 : decode cX1_put 74 = .ok (.iastore, 1) := by decide +kernel
theorem dX1_put_75 : decode cX1_put 75 = .ok (.aload_n 0, 1) := by decide +kernel
theorem dX1_put_76 : decode cX1_put 76 = .ok (.getfield 21, 3) := by decide +kernel
theorem dX1_put_79 : decode cX1_put 79 = .ok (.iload 5, 2) := by decide +kernel
theorem dX1_put_81 : decode cX1_put 81 = .ok (.iconst 1, 1) := by decide +kernel
theorem dX1_put_82 : decode cX1_put 82 = .ok (.iastore, 1) := by decide +kernel
theorem dX1_put_83 : decode cX1_put 83 = .ok (.aload_n 0, 1) := by decide +kernel
theorem dX1_put_84 : decode cX1_put 84 = .ok (.getfield 21, 3) := by decide +kernel
theorem dX1_put_87 : decode cX1_put 87 = .ok (.iload 6, 2) := by decide +kernel
theorem dX1_put_89 : decode cX1_put 89 = .ok (.iconst 0, 1) := by decide +kernel
theorem dX1_put_90 : decode cX1_put 90 = .ok (.iastore, 1) := by decide +kernel
theorem dX1_put_91 : decode cX1_put 91 = .ok (.aload_n 0, 1) := by decide +kernel
theorem dX1_put_92 : decode cX1_put 92 = .ok (.getfield 24, 3) := by decide +kernel
theorem dX1_put_95 : decode cX1_put 95 = .ok (.iload 5, 2) := by decide +kernel
theorem dX1_put_97 : decode cX1_put 97 = .ok (.iload_n 2, 1) := by decide +kernel
theorem dX1_put_98 : decode cX1_put 98 = .ok (.iastore, 1) := by decide +kernel
theorem dX1_put_99 : decode cX1_put 99 = .ok (.aload_n 0, 1) := by decide +kernel
theorem dX1_put_100 : decode cX1_put 100 = .ok (.getfield 24, 3) := by decide +kernel
theorem dX1_put_103 : decode cX1_put 103 = .ok (.iload 6, 2) := by decide +kernel
theorem dX1_put_105 : decode cX1_put 105 = .ok (.iload_n 2, 1) := by decide +kernel
theorem dX1_put_106 : decode cX1_put 106 = .ok (.iastore, 1) := by decide +kernel
theorem dX1_put_107 : decode cX1_put 107 = .ok (.return_, 1) := by decide +kernel
set_option maxRecDepth 20000 in
theorem ggX1_layCircle_X1_put : GoodIn wsX1_layCircle wsX1_put := goodIn_r _ [6, 7, 8, 9, 10, 11, 12, 13, 14, 5, 15, 1, 16, 17, 18, 19, 20, 21, 22, 23, 24, 25, 26, 27, 28, 29] (by decide +kernel) (by decide +kernel)
set_option maxRecDepth 20000 in
theorem gX1_layCircle_X1_put : GoodIn wsX1_layCircle (wsV RX1 48 RX1 yX1_put wsX1_put) := goodIn_app (goodIn_of _ (by decide +kernel)) ggX1_layCircle_X1_put
theorem dX1_layCircle_0 : decode cX1_layCircle 0 = .ok (.aload_n 0, 1) := by decide +kernel
theorem dX1_layCircle_1 : decode cX1_layCircle 1 = .ok (.iload_n 1, 1) := by decide +kernel
theorem dX1_layCircle_2 : decode cX1_layCircle 2 = .ok (.bipush 6, 2) := by decide +kernel
theorem dX1_layCircle_4 : decode cX1_layCircle 4 = .ok (.if_icmp .ne 8, 3) := by decide +kernel
theorem dX1_layCircle_7 : decode cX1_layCircle 7 = .ok (.bipush 6, 2) := by decide +kernel
theorem dX1_layCircle_9 : decode cX1_layCircle 9 = .ok (.goto 4, 3) := by decide +kernel
theorem dX1_layCircle_12 : decode cX1_layCircle 12 = .ok (.iconst 4, 1) := by decide +kernel
theorem dX1_layCircle_13 : decode cX1_layCircle 13 = .ok (.putfield 30, 3) := by decide +kernel
theorem dX1_layCircle_16 : decode cX1_layCircle 16 = .ok (.aload_n 0, 1) := by decide +kernel
theorem dX1_layCircle_17 : decode cX1_layCircle 17 = .ok (.getfield 30, 3) := by decide +kernel
theorem dX1_layCircle_20 : decode cX1_layCircle 20 = .ok (.iconst 1, 1) := by decide +kernel
theorem dX1_layCircle_21 : decode cX1_layCircle 21 = .ok (.isub, 1) := by decide +kernel
theorem dX1_layCircle_22 : decode cX1_layCircle 22 = .ok (.istore_n 2, 1) := by decide +kernel
theorem dX1_layCircle_23 : decode cX1_layCircle 23 = .ok (.iconst 0, 1) := by decide +kernel
theorem dX1_layCircle_24 : decode cX1_layCircle 24 = .ok (.istore_n 3, 1) := by decide +kernel
theorem dX1_layCircle_25 : decode cX1_layCircle 25 = .ok (.iload_n 3, 1) := by decide +kernel
theorem dX1_layCircle_26 : decode cX1_layCircle 26 = .ok (.iload_n 2, 1) := by decide +kernel
theorem dX1_layCircle_27 : decode cX1_layCircle 27 = .ok (.if_icmp .ge 132, 3) := by decide +kernel
theorem dX1_layCircle_30 : decode cX1_layCircle 30 = .ok (.iload_n 3, 1) := by decide +kernel
theorem dX1_layCircle_31 : decode cX1_layCircle 31 = .ok (.iconst 2, 1) := by decide +kernel
theorem dX1_layCircle_32 : decode cX1_layCircle 32 = .ok (.irem, 1) := by decide +kernel
theorem dX1_layCircle_33 : decode cX1_layCircle 33 = .ok (.ifCond .ne 14, 3) := by decide +kernel
theorem dX1_layCircle_36 : decode cX1_layCircle 36 = .ok (.aload_n 0, 1) := by decide +kernel
theorem dX1_layCircle_37 : decode cX1_layCircle 37 = .ok (.iload_n 3, 1) := by decide +kernel
theorem dX1_layCircle_38 : decode cX1_layCircle 38 = .ok (.iconst 0, 1) := by decide +kernel
theorem dX1_layCircle_39 : decode cX1_layCircle 39 = .ok (.iload_n 3, 1) := by decide +kernel
theorem dX1_layCircle_40 : decode cX1_layCircle 40 = .ok (.iload_n 2, 1) := by decide +kernel
theorem dX1_layCircle_41 : decode cX1_layCircle 41 = .ok (.invokevirtual 48, 3) := by decide +kernel
theorem dX1_layCircle_44 : decode cX1_layCircle 44 = .ok (.goto 11, 3) := by decide +kernel
theorem dX1_layCircle_47 : decode cX1_layCircle 47 = .ok (.aload_n 0, 1) := by decide +kernel
theorem dX1_layCircle_48 : decode cX1_layCircle 48 = .ok (.iload_n 3, 1) := by decide +kernel
theorem dX1_layCircle_49 : decode cX1_layCircle 49 = .ok (.iconst 0, 1) := by decide +kernel
theorem dX1_layCircle_50 : decode cX1_layCircle 50 = .ok (.iload_n 2, 1) := by decide +kernel
theorem dX1_layCircle_51 : decode cX1_layCircle 51 = .ok (.iload_n 3, 1) := by decide +kernel
theorem dX1_layCircle_52 : decode cX1_layCircle 52 = .ok (.invokevirtual 48, 3) := by decide +kernel
theorem dX1_layCircle_55 : decode cX1_layCircle 55 = .ok (.iconst 1, 1) := by decide +kernel
theorem dX1_layCircle_56 : decode cX1_layCircle 56 = .ok (.istore 4, 2) := by decide +kernel
theorem dX1_layCircle_58 : decode cX1_layCircle 58 = .ok (.iload 4, 2) := by decide +kernel
theorem dX1_layCircle_60 : decode cX1_layCircle 60 = .ok (.aload_n 0, 1) := by decide +kernel
theorem dX1_layCircle_61 : decode cX1_layCircle 61 = .ok (.getfield 30, 3) := by decide +kernel
theorem dX1_layCircle_64 : decode cX1_layCircle 64 = .ok (.iconst 2, 1) := by decide +kernel
theorem dX1_layCircle_65 : decode cX1_layCircle 65 = .ok (.idiv, 1) := by decide +kernel
theorem dX1_layCircle_66 : decode cX1_layCircle 66 = .ok (.if_icmp .ge 87, 3) := by decide +kernel
theorem dX1_layCircle_69 : decode cX1_layCircle 69 = .ok (.iload_n 3, 1) := by decide +kernel
theorem dX1_layCircle_70 : decode cX1_layCircle 70 = .ok (.iload 4, 2) := by decide +kernel
theorem dX1_layCircle_72 : decode cX1_layCircle 72 = .ok (.iadd, 1) := by decide +kernel
theorem dX1_layCircle_73 : decode cX1_layCircle 73 = .ok (.iload_n 2, 1) := by decide +kernel
theorem dX1_layCircle_74 : decode cX1_layCircle 74 = .ok (.if_icmp .ge 10, 3) := by decide +kernel
theorem dX1_layCircle_77 : decode cX1_layCircle 77 = .ok (.iload_n 3, 1) := by decide +kernel
theorem dX1_layCircle_78 : decode cX1_layCircle 78 = .ok (.iload 4, 2) := by decide +kernel
theorem dX1_layCircle_80 : decode cX1_layCircle 80 = .ok (.iadd, 1) := by decide +kernel
theorem dX1_layCircle_81 : decode cX1_layCircle 81 = .ok (.goto 9, 3) := by decide +kernel
theorem dX1_layCircle_84 : decode cX1_layCircle 84 = .ok (.iload_n 3, 1) := by decide +kernel
theorem dX1_layCircle_85 : decode cX1_layCircle 85 = .ok (.iload 4, 2) := by decide +kernel
theorem dX1_layCircle_87 : decode cX1_layCircle 87 = .ok (.iadd, 1) := by decide +kernel
theorem dX1_layCircle_88 : decode cX1_layCircle 88 = .ok (.iload_n 2, 1) := by decide +kernel
theorem dX1_layCircle_89 : decode cX1_layCircle 89 = .ok (.isub, 1) := by decide +kernel
theorem dX1_layCircle_90 : decode cX1_layCircle 90 = .ok (.istore 5, 2) := by decide +kernel
theorem dX1_layCircle_92 : decode cX1_layCircle 92 = .ok (.iload_n 3, 1) := by decide +kernel
theorem dX1_layCircle_93 : decode cX1_layCircle 93 = .ok (.iload 4, 2) := by decide +kernel
theorem dX1_layCircle_95 : decode cX1_layCircle 95 = .ok (.isub, 1) := by decide +kernel
theorem dX1_layCircle_96 : decode cX1_layCircle 96 = .ok (.ifCond .lt 10, 3) := by decide +kernel
theorem dX1_layCircle_99 : decode cX1_layCircle 99 = .ok (.iload_n 3, 1) := by decide +kernel
theorem dX1_layCircle_100 : decode cX1_layCircle 100 = .ok (.iload 4, 2) := by decide +kernel
theorem dX1_layCircle_102 : decode cX1_layCircle 102 = .ok (.isub, 1) := by decide +kernel
theorem dX1_layCircle_103 : decode cX1_layCircle 103 = .ok (.goto 9, 3) := by decide +kernel
theorem dX1_layCircle_106 : decode cX1_layCircle 106 = .ok (.iload_n 3, 1) := by decide +kernel
theorem dX1_layCircle_107 : decode cX1_layCircle 107 = .ok (.iload 4, 2) := by decide +kernel
theorem dX1_layCircle_109 : decode cX1_layCircle 109 = .ok (.isub, 1) := by decide +kernel
theorem dX1_layCircle_110 : decode cX1_layCircle 110 = .ok (.iload_n 2, 1) := by decide +kernel
theorem dX1_layCircle_111 : decode cX1_layCircle 111 = .ok (.iadd, 1) := by decide +kernel
theorem dX1_layCircle_112 : decode cX1_layCircle 112 = .ok (.istore 6, 2) := by decide +kernel
theorem dX1_layCircle_114 : decode cX1_layCircle 114 = .ok (.iload 4, 2) := by decide +kernel
theorem dX1_layCircle_116 : decode cX1_layCircle 116 = .ok (.iconst 2, 1) := by decide +kernel
theorem dX1_layCircle_117 : decode cX1_layCircle 117 = .ok (.irem, 1) := by decide +kernel
theorem dX1_layCircle_118 : decode cX1_layCircle 118 = .ok (.iconst 1, 1) := by decide +kernel
theorem dX1_layCircle_119 : decode cX1_layCircle 119 = .ok (.if_icmp .ne 17, 3) := by decide +kernel
theorem dX1_layCircle_122 : decode cX1_layCircle 122 = .ok (.aload_n 0, 1) := by decide +kernel
theorem dX1_layCircle_123 : decode cX1_layCircle 123 = .ok (.iload_n 3, 1) := by decide +kernel
theorem dX1_layCircle_124 : decode cX1_layCircle 124 = .ok (.iload 4, 2) := by decide +kernel
theorem dX1_layCircle_126 : decode cX1_layCircle 126 = .ok (.iload 5, 2) := by decide +kernel
theorem dX1_layCircle_128 : decode cX1_layCircle 128 = .ok (.iload 6, 2) := by decide +kernel
theorem dX1_layCircle_130 : decode cX1_layCircle 130 = .ok (.invokevirtual 48, 3) := by decide +kernel
theorem dX1_layCircle_133 : decode cX1_layCircle 133 = .ok (.goto 14, 3) := by decide +kernel
theorem dX1_layCircle_136 : decode cX1_layCircle 136 = .ok (.aload_n 0, 1) := by decide +kernel
theorem dX1_layCircle_137 : decode cX1_layCircle 137 = .ok (.iload_n 3, 1) := by decide +kernel
theorem dX1_layCircle_138 : decode cX1_layCircle 138 = .ok (.iload 4, 2) := by decide +kernel
theorem dX1_layCircle_140 : decode cX1_layCircle 140 = .ok (.iload 6, 2) := by decide +kernel
theorem dX1_layCircle_142 : decode cX1_layCircle 142 = .ok (.iload 5, 2) := by decide +kernel
theorem dX1_layCircle_144 : decode cX1_layCircle 144 = .ok (.invokevirtual 48, 3) := by decide +kernel
theorem dX1_layCircle_147 : decode cX1_layCircle 147 = .ok (.iinc 4 1, 3) := by decide +kernel
theorem dX1_layCircle_150 : decode cX1_layCircle 150 = .ok (.goto (-92), 3) := by decide +kernel
theorem dX1_layCircle_153 : decode cX1_layCircle 153 = .ok (.iinc 3 1, 3) := by decide +kernel
theorem dX1_layCircle_156 : decode cX1_layCircle 156 = .ok (.goto (-131), 3) := by decide +kernel
theorem dX1_layCircle_159 : decode cX1_layCircle 159 = .ok (.return_, 1) := by decide +kernel
theorem dX1_become_0 : decode cX1_become 0 = .ok (.aload_n 0, 1) := by decide +kernel
theorem dX1_become_1 : decode cX1_become 1 = .ok (.aload_n 1, 1) := by decide +kernel
theorem dX1_become_2 : decode cX1_become 2 = .ok (.getfield 30, 3) := by decide +kernel
theorem dX1_become_5 : decode cX1_become 5 = .ok (.putfield 30, 3) := by decide +kernel
theorem dX1_become_8 : decode cX1_become 8 = .ok (.aload_n 1, 1) := by decide +kernel
theorem dX1_become_9 : decode cX1_become 9 = .ok (.getfield 9, 3) := by decide +kernel
theorem dX1_become_12 : decode cX1_become 12 = .ok (.iconst 0, 1) := by decide +kernel
theorem dX1_become_13 : decode cX1_become 13 = .ok (.aload_n 0, 1) := by decide +kernel
theorem dX1_become_14 : decode cX1_become 14 = .ok (.getfield 9, 3) := by decide +kernel
theorem dX1_become_17 : decode cX1_become 17 = .ok (.iconst 0, 1) := by decide +kernel
theorem dX1_become_18 : decode cX1_become 18 = .ok (.aload_n 0, 1) := by decide +kernel
theorem dX1_become_19 : decode cX1_become 19 = .ok (.getfield 9, 3) := by decide +kernel
theorem dX1_become_22 : decode cX1_become 22 = .ok (.arraylength, 1) := by decide +kernel
theorem dX1_become_23 : decode cX1_become 23 = .ok (.invokestatic 52, 3) := by decide +kernel
theorem dX1_become_26 : decode cX1_become 26 = .ok (.aload_n 1, 1) := by decide +kernel
theorem dX1_become_27 : decode cX1_become 27 = .ok (.getfield 15, 3) := by decide +kernel
theorem dX1_become_30 : decode cX1_become 30 = .ok (.iconst 0, 1) := by decide +kernel
theorem dX1_become_31 : decode cX1_become 31 = .ok (.aload_n 0, 1) := by decide +kernel
theorem dX1_become_32 : decode cX1_become 32 = .ok (.getfield 15, 3) := by decide +kernel
theorem dX1_become_35 : decode cX1_become 35 = .ok (.iconst 0, 1) := by decide +kernel
theorem dX1_become_36 : decode cX1_become 36 = .ok (.aload_n 0, 1) := by decide +kernel
theorem dX1_become_37 : decode cX1_become 37 = .ok (.getfield 15, 3) := by decide +kernel
theorem dX1_become_40 : decode cX1_become 40 = .ok (.arraylength, 1) := by decide +kernel
theorem dX1_become_41 : decode cX1_become 41 = .ok (.invokestatic 52, 3) := by decide +kernel
theorem dX1_become_44 : decode cX1_become 44 = .ok (.aload_n 1, 1) := by decide +kernel
theorem dX1_become_45 : decode cX1_become 45 = .ok (.getfield 18, 3) := by decide +kernel
theorem dX1_become_48 : decode cX1_become 48 = .ok (.iconst 0, 1) := by decide +kernel
theorem dX1_become_49 : decode cX1_become 49 = .ok (.aload_n 0, 1) := by decide +kernel
theorem dX1_become_50 : decode cX1_become 50 = .ok (.getfield 18, 3) := by decide +kernel
theorem dX1_become_53 : decode cX1_become 53 = .ok (.iconst 0, 1) := by decide +kernel
theorem dX1_become_54 : decode cX1_become 54 = .ok (.aload_n 0, 1) := by decide +kernel
theorem dX1_become_55 : decode cX1_become 55 = .ok (.getfield 18, 3) := by decide +kernel
theorem dX1_become_58 : decode cX1_become 58 = .ok (.arraylength, 1) := by decide +kernel
theorem dX1_become_59 : decode cX1_become 59 = .ok (.invokestatic 52, 3) := by decide +kernel
theorem dX1_become_62 : decode cX1_become 62 = .ok (.aload_n 1, 1) := by decide +kernel
theorem dX1_become_63 : decode cX1_become 63 = .ok (.getfield 21, 3) := by decide +kernel
theorem dX1_become_66 : decode cX1_become 66 = .ok (.iconst 0, 1) := by decide +kernel
theorem dX1_become_67 : decode cX1_become 67 = .ok (.aload_n 0, 1) := by decide +kernel
theorem dX1_become_68 : decode cX1_become 68 = .ok (.getfield 21, 3) := by decide +kernel
theorem dX1_become_71 : decode cX1_become 71 = .ok (.iconst 0, 1) := by decide +kernel
theorem dX1_become_72 : decode cX1_become 72 = .ok (.aload_n 0, 1) := by decide +kernel
theorem dX1_become_73 : decode cX1_become 73 = .ok (.getfield 21, 3) := by decide +kernel
theorem dX1_become_76 : decode cX1_become 76 = .ok (.arraylength, 1) := by decide +kernel
theorem dX1_become_77 : decode cX1_become 77 = .ok (.invokestatic 52, 3) := by decide +kernel
theorem dX1_become_80 : decode cX1_become 80 = .ok (.aload_n 1, 1) := by decide +kernel
theorem dX1_become_81 : decode cX1_become 81 = .ok (.getfield 24, 3) := by decide +kernel
theorem dX1_become_84 : decode cX1_become 84 = .ok (.iconst 0, 1) := by decide +kernel
theorem dX1_become_85 : decode cX1_become 85 = .ok (.aload_n 0, 1) := by decide +kernel
theorem dX1_become_86 : decode cX1_become 86 = .ok (.getfield 24, 3) := by decide +kernel
theorem dX1_become_89 : decode cX1_become 89 = .ok (.iconst 0, 1) := by decide +kernel
theorem dX1_become_90 : decode cX1_become 90 = .ok (.aload_n 0, 1) := by decide +kernel
theorem dX1_become_91 : decode cX1_become 91 = .ok (.getfield 24, 3) := by decide +kernel
theorem dX1_become_94 : decode cX1_become 94 = .ok (.arraylength, 1) := by decide +kernel
theorem dX1_become_95 : decode cX1_become 95 = .ok (.invokestatic 52, 3) := by decide +kernel
theorem dX1_become_98 : decode cX1_become 98 = .ok (.return_, 1) := by decide +kernel
set_option maxRecDepth 20000 in
theorem ggX1_swapRounds_X1_homeOf : GoodIn wsX1_swapRounds wsX1_homeOf := goodIn_r _ [6, 7, 8, 9, 10, 5, 11, 1, 31, 32, 33, 34, 35, 36, 37] (by decide +kernel) (by decide +kernel)
set_option maxRecDepth 20000 in
theorem gX1_swapRounds_X1_homeOf : GoodIn wsX1_swapRounds (wsV RX1 58 RX1 yX1_homeOf wsX1_homeOf) := goodIn_app (goodIn_of _ (by decide +kernel)) ggX1_swapRounds_X1_homeOf
set_option maxRecDepth 20000 in
theorem ggX1_swapRounds_X1_awayOf : GoodIn wsX1_swapRounds wsX1_awayOf := goodIn_r _ [15, 16, 8, 9, 10, 5, 11, 1, 31, 32, 33, 34, 35, 36, 37] (by decide +kernel) (by decide +kernel)
set_option maxRecDepth 20000 in
theorem gX1_swapRounds_X1_awayOf : GoodIn wsX1_swapRounds (wsV RX1 61 RX1 yX1_awayOf wsX1_awayOf) := goodIn_app (goodIn_of _ (by decide +kernel)) ggX1_swapRounds_X1_awayOf
set_option maxRecDepth 20000 in
theorem ggX1_swapRounds_X1_put : GoodIn wsX1_swapRounds wsX1_put := goodIn_r _ [20, 7, 16, 21, 22, 23, 8, 9, 10, 5, 11, 1, 24, 25, 26, 27, 28, 29, 30, 31, 32, 33, 34, 35, 36, 37] (by decide +kernel) (by decide +kernel)
set_option maxRecDepth 20000 in
theorem gX1_swapRounds_X1_put : GoodIn wsX1_swapRounds (wsV RX1 48 RX1 yX1_put wsX1_put) := goodIn_app (goodIn_of _ (by decide +kernel)) ggX1_swapRounds_X1_put
theorem dX1_swapRounds_0 : decode cX1_swapRounds 0 = .ok (.iconst 0, 1) := by decide +kernel
theorem dX1_swapRounds_1 : decode cX1_swapRounds 1 = .ok (.istore_n 3, 1) := by decide +kernel
theorem dX1_swapRounds_2 : decode cX1_swapRounds 2 = .ok (.iload_n 3, 1) := by decide +kernel
theorem dX1_swapRounds_3 : decode cX1_swapRounds 3 = .ok (.aload_n 0, 1) := by decide +kernel
theorem dX1_swapRounds_4 : decode cX1_swapRounds 4 = .ok (.getfield 30, 3) := by decide +kernel
theorem dX1_swapRounds_7 : decode cX1_swapRounds 7 = .ok (.iconst 2, 1) := by decide +kernel
theorem dX1_swapRounds_8 : decode cX1_swapRounds 8 = .ok (.idiv, 1) := by decide +kernel
theorem dX1_swapRounds_9 : decode cX1_swapRounds 9 = .ok (.if_icmp .ge 53, 3) := by decide +kernel
theorem dX1_swapRounds_12 : decode cX1_swapRounds 12 = .ok (.aload_n 0, 1) := by decide +kernel
theorem dX1_swapRounds_13 : decode cX1_swapRounds 13 = .ok (.iload_n 1, 1) := by decide +kernel
theorem dX1_swapRounds_14 : decode cX1_swapRounds 14 = .ok (.iload_n 3, 1) := by decide +kernel
theorem dX1_swapRounds_15 : decode cX1_swapRounds 15 = .ok (.invokevirtual 58, 3) := by decide +kernel
theorem dX1_swapRounds_18 : decode cX1_swapRounds 18 = .ok (.istore 4, 2) := by decide +kernel
theorem dX1_swapRounds_20 : decode cX1_swapRounds 20 = .ok (.aload_n 0, 1) := by decide +kernel
theorem dX1_swapRounds_21 : decode cX1_swapRounds 21 = .ok (.iload_n 1, 1) := by decide +kernel
theorem dX1_swapRounds_22 : decode cX1_swapRounds 22 = .ok (.iload_n 3, 1) := by decide +kernel
theorem dX1_swapRounds_23 : decode cX1_swapRounds 23 = .ok (.invokevirtual 61, 3) := by decide +kernel
theorem dX1_swapRounds_26 : decode cX1_swapRounds 26 = .ok (.istore 5, 2) := by decide +kernel
theorem dX1_swapRounds_28 : decode cX1_swapRounds 28 = .ok (.aload_n 0, 1) := by decide +kernel
theorem dX1_swapRounds_29 : decode cX1_swapRounds 29 = .ok (.iload_n 1, 1) := by decide +kernel
theorem dX1_swapRounds_30 : decode cX1_swapRounds 30 = .ok (.iload_n 3, 1) := by decide +kernel
theorem dX1_swapRounds_31 : decode cX1_swapRounds 31 = .ok (.aload_n 0, 1) := by decide +kernel
theorem dX1_swapRounds_32 : decode cX1_swapRounds 32 = .ok (.iload_n 2, 1) := by decide +kernel
theorem dX1_swapRounds_33 : decode cX1_swapRounds 33 = .ok (.iload_n 3, 1) := by decide +kernel
theorem dX1_swapRounds_34 : decode cX1_swapRounds 34 = .ok (.invokevirtual 58, 3) := by decide +kernel
theorem dX1_swapRounds_37 : decode cX1_swapRounds 37 = .ok (.aload_n 0, 1) := by decide +kernel
theorem dX1_swapRounds_38 : decode cX1_swapRounds 38 = .ok (.iload_n 2, 1) := by decide +kernel
theorem dX1_swapRounds_39 : decode cX1_swapRounds 39 = .ok (.iload_n 3, 1) := by decide +kernel
theorem dX1_swapRounds_40 : decode cX1_swapRounds 40 = .ok (.invokevirtual 61, 3) := by decide +kernel
theorem dX1_swapRounds_43 : decode cX1_swapRounds 43 = .ok (.invokevirtual 48, 3) := by decide +kernel
theorem dX1_swapRounds_46 : decode cX1_swapRounds 46 = .ok (.aload_n 0, 1) := by decide +kernel
theorem dX1_swapRounds_47 : decode cX1_swapRounds 47 = .ok (.iload_n 2, 1) := by decide +kernel
theorem dX1_swapRounds_48 : decode cX1_swapRounds 48 = .ok (.iload_n 3, 1) := by decide +kernel
theorem dX1_swapRounds_49 : decode cX1_swapRounds 49 = .ok (.iload 4, 2) := by decide +kernel
theorem dX1_swapRounds_51 : decode cX1_swapRounds 51 = .ok (.iload 5, 2) := by decide +kernel
theorem dX1_swapRounds_53 : decode cX1_swapRounds 53 = .ok (.invokevirtual 48, 3) := by decide +kernel
theorem dX1_swapRounds_56 : decode cX1_swapRounds 56 = .ok (.iinc 3 1, 3) := by decide +kernel
theorem dX1_swapRounds_59 : decode cX1_swapRounds 59 = .ok (.goto (-57), 3) := by decide +kernel
theorem dX1_swapRounds_62 : decode cX1_swapRounds 62 = .ok (.return_, 1) := by decide +kernel
set_option maxRecDepth 20000 in
theorem ggX1_turnGame_X1_awayOf : GoodIn wsX1_turnGame wsX1_awayOf := goodIn_r _ [5, 6, 7, 8, 9, 4, 10, 11, 31, 32, 33, 34, 35, 36, 37] (by decide +kernel) (by decide +kernel)
set_option maxRecDepth 20000 in
theorem gX1_turnGame_X1_awayOf : GoodIn wsX1_turnGame (wsV RX1 61 RX1 yX1_awayOf wsX1_awayOf) := goodIn_app (goodIn_of _ (by decide +kernel)) ggX1_turnGame_X1_awayOf
set_option maxRecDepth 20000 in
theorem ggX1_turnGame_X1_homeOf : GoodIn wsX1_turnGame wsX1_homeOf := goodIn_r _ [15, 16, 7, 8, 9, 4, 10, 11, 31, 32, 33, 34, 35, 36, 37] (by decide +kernel) (by decide +kernel)
set_option maxRecDepth 20000 in
theorem gX1_turnGame_X1_homeOf : GoodIn wsX1_turnGame (wsV RX1 58 RX1 yX1_homeOf wsX1_homeOf) := goodIn_app (goodIn_of _ (by decide +kernel)) ggX1_turnGame_X1_homeOf
set_option maxRecDepth 20000 in
theorem ggX1_turnGame_X1_put : GoodIn wsX1_turnGame wsX1_put := goodIn_r _ [20, 16, 6, 21, 22, 23, 7, 8, 9, 4, 10, 11, 24, 25, 26, 27, 28, 29, 30, 31, 32, 33, 34, 35, 36, 37] (by decide +kernel) (by decide +kernel)
set_option maxRecDepth 20000 in
theorem gX1_turnGame_X1_put : GoodIn wsX1_turnGame (wsV RX1 48 RX1 yX1_put wsX1_put) := goodIn_app (goodIn_of _ (by decide +kernel)) ggX1_turnGame_X1_put
theorem dX1_turnGame_0 : decode cX1_turnGame 0 = .ok (.aload_n 0, 1) := by decide +kernel
theorem dX1_turnGame_1 : decode cX1_turnGame 1 = .ok (.iload_n 1, 1) := by decide +kernel
theorem dX1_turnGame_2 : decode cX1_turnGame 2 = .ok (.iload_n 2, 1) := by decide +kernel
theorem dX1_turnGame_3 : decode cX1_turnGame 3 = .ok (.aload_n 0, 1) := by decide +kernel
theorem dX1_turnGame_4 : decode cX1_turnGame 4 = .ok (.iload_n 1, 1) := by decide +kernel
theorem dX1_turnGame_5 : decode cX1_turnGame 5 = .ok (.iload_n 2, 1) := by decide +kernel
theorem dX1_turnGame_6 : decode cX1_turnGame 6 = .ok (.invokevirtual 61, 3) := by decide +kernel
theorem dX1_turnGame_9 : decode cX1_turnGame 9 = .ok (.aload_n 0, 1) := by decide +kernel
theorem dX1_turnGame_10 : decode cX1_turnGame 10 = .ok (.iload_n 1, 1) := by decide +kernel
theorem dX1_turnGame_11 : decode cX1_turnGame 11 = .ok (.iload_n 2, 1) := by decide +kernel
theorem dX1_turnGame_12 : decode cX1_turnGame 12 = .ok (.invokevirtual 58, 3) := by decide +kernel
theorem dX1_turnGame_15 : decode cX1_turnGame 15 = .ok (.invokevirtual 48, 3) := by decide +kernel
theorem dX1_turnGame_18 : decode cX1_turnGame 18 = .ok (.return_, 1) := by decide +kernel
set_option maxRecDepth 20000 in
theorem ggX1_exchangeTeams_X1_homeOf : GoodIn wsX1_exchangeTeams wsX1_homeOf := goodIn_r _ [6, 7, 8, 9, 10, 5, 11, 1, 34, 35, 36, 37, 38, 39, 40] (by decide +kernel) (by decide +kernel)
set_option maxRecDepth 20000 in
theorem gX1_exchangeTeams_X1_homeOf : GoodIn wsX1_exchangeTeams (wsV RX1 58 RX1 yX1_homeOf wsX1_homeOf) := goodIn_app (goodIn_of _ (by decide +kernel)) ggX1_exchangeTeams_X1_homeOf
set_option maxRecDepth 20000 in
theorem ggX1_exchangeTeams_X1_exchanged : GoodIn wsX1_exchangeTeams wsX1_exchanged := goodIn_r _ [14] (by decide +kernel) (by decide +kernel)
set_option maxRecDepth 20000 in
theorem gX1_exchangeTeams_X1_exchanged : GoodIn wsX1_exchangeTeams (va_wsS RX1 64 yX1_exchanged wsX1_exchanged) := goodIn_app (goodIn_of _ (by decide +kernel)) ggX1_exchangeTeams_X1_exchanged
set_option maxRecDepth 20000 in
theorem ggX1_exchangeTeams_X1_awayOf : GoodIn wsX1_exchangeTeams wsX1_awayOf := goodIn_r _ [18, 19, 8, 9, 10, 5, 11, 1, 34, 35, 36, 37, 38, 39, 40] (by decide +kernel) (by decide +kernel)
set_option maxRecDepth 20000 in
theorem gX1_exchangeTeams_X1_awayOf : GoodIn wsX1_exchangeTeams (wsV RX1 61 RX1 yX1_awayOf wsX1_awayOf) := goodIn_app (goodIn_of _ (by decide +kernel)) ggX1_exchangeTeams_X1_awayOf
set_option maxRecDepth 20000 in
theorem ggX1_exchangeTeams_X1_put : GoodIn wsX1_exchangeTeams wsX1_put := goodIn_r _ [23, 7, 19, 24, 25, 26, 8, 9, 10, 5, 11, 1, 27, 28, 29, 30, 31, 32, 33, 34, 35, 36, 37, 38, 39, 40] (by decide +kernel) (by decide +kernel)
set_option maxRecDepth 20000 in
theorem gX1_exchangeTeams_X1_put : GoodIn wsX1_exchangeTeams (wsV RX1 48 RX1 yX1_put wsX1_put) := goodIn_app (goodIn_of _ (by decide +kernel)) ggX1_exchangeTeams_X1_put
theorem dX1_exchangeTeams_0 : decode cX1_exchangeTeams 0 = .ok (.iconst 0, 1) := by decide +kernel
theorem dX1_exchangeTeams_1 : decode cX1_exchangeTeams 1 = .ok (.istore_n 3, 1) := by decide +kernel
theorem dX1_exchangeTeams_2 : decode cX1_exchangeTeams 2 = .ok (.iload_n 3, 1) := by decide +kernel
theorem dX1_exchangeTeams_3 : decode cX1_exchangeTeams 3 = .ok (.aload_n 0, 1) := by decide +kernel
theorem dX1_exchangeTeams_4 : decode cX1_exchangeTeams 4 = .ok (.getfield 30, 3) := by decide +kernel
theorem dX1_exchangeTeams_7 : decode cX1_exchangeTeams 7 = .ok (.iconst 1, 1) := by decide +kernel
theorem dX1_exchangeTeams_8 : decode cX1_exchangeTeams 8 = .ok (.isub, 1) := by decide +kernel
theorem dX1_exchangeTeams_9 : decode cX1_exchangeTeams 9 = .ok (.if_icmp .ge 60, 3) := by decide +kernel
theorem dX1_exchangeTeams_12 : decode cX1_exchangeTeams 12 = .ok (.iconst 0, 1) := by decide +kernel
theorem dX1_exchangeTeams_13 : decode cX1_exchangeTeams 13 = .ok (.istore 4, 2) := by decide +kernel
theorem dX1_exchangeTeams_15 : decode cX1_exchangeTeams 15 = .ok (.iload 4, 2) := by decide +kernel
theorem dX1_exchangeTeams_17 : decode cX1_exchangeTeams 17 = .ok (.aload_n 0, 1) := by decide +kernel
theorem dX1_exchangeTeams_18 : decode cX1_exchangeTeams 18 = .ok (.getfield 30, 3) := by decide +kernel
theorem dX1_exchangeTeams_21 : decode cX1_exchangeTeams 21 = .ok (.iconst 2, 1) := by decide +kernel
theorem dX1_exchangeTeams_22 : decode cX1_exchangeTeams 22 = .ok (.idiv, 1) := by decide +kernel
theorem dX1_exchangeTeams_23 : decode cX1_exchangeTeams 23 = .ok (.if_icmp .ge 40, 3) := by decide +kernel
theorem dX1_exchangeTeams_26 : decode cX1_exchangeTeams 26 = .ok (.aload_n 0, 1) := by decide +kernel
theorem dX1_exchangeTeams_27 : decode cX1_exchangeTeams 27 = .ok (.iload_n 3, 1) := by decide +kernel
theorem dX1_exchangeTeams_28 : decode cX1_exchangeTeams 28 = .ok (.iload 4, 2) := by decide +kernel
theorem dX1_exchangeTeams_30 : decode cX1_exchangeTeams 30 = .ok (.aload_n 0, 1) := by decide +kernel
theorem dX1_exchangeTeams_31 : decode cX1_exchangeTeams 31 = .ok (.iload_n 3, 1) := by decide +kernel
theorem dX1_exchangeTeams_32 : decode cX1_exchangeTeams 32 = .ok (.iload 4, 2) := by decide +kernel
theorem dX1_exchangeTeams_34 : decode cX1_exchangeTeams 34 = .ok (.invokevirtual 58, 3) := by decide +kernel
theorem dX1_exchangeTeams_37 : decode cX1_exchangeTeams 37 = .ok (.iload_n 1, 1) := by decide +kernel
theorem dX1_exchangeTeams_38 : decode cX1_exchangeTeams 38 = .ok (.iload_n 2, 1) := by decide +kernel
theorem dX1_exchangeTeams_39 : decode cX1_exchangeTeams 39 = .ok (.invokestatic 64, 3) := by decide +kernel
theorem dX1_exchangeTeams_42 : decode cX1_exchangeTeams 42 = .ok (.aload_n 0, 1) := by decide +kernel
theorem dX1_exchangeTeams_43 : decode cX1_exchangeTeams 43 = .ok (.iload_n 3, 1) := by decide +kernel
theorem dX1_exchangeTeams_44 : decode cX1_exchangeTeams 44 = .ok (.iload 4, 2) := by decide +kernel
theorem dX1_exchangeTeams_46 : decode cX1_exchangeTeams 46 = .ok (.invokevirtual 61, 3) := by decide +kernel
theorem dX1_exchangeTeams_49 : decode cX1_exchangeTeams 49 = .ok (.iload_n 1, 1) := by decide +kernel
theorem dX1_exchangeTeams_50 : decode cX1_exchangeTeams 50 = .ok (.iload_n 2, 1) := by decide +kernel
theorem dX1_exchangeTeams_51 : decode cX1_exchangeTeams 51 = .ok (.invokestatic 64, 3) := by decide +kernel
theorem dX1_exchangeTeams_54 : decode cX1_exchangeTeams 54 = .ok (.invokevirtual 48, 3) := by decide +kernel
theorem dX1_exchangeTeams_57 : decode cX1_exchangeTeams 57 = .ok (.iinc 4 1, 3) := by decide +kernel
theorem dX1_exchangeTeams_60 : decode cX1_exchangeTeams 60 = .ok (.goto (-45), 3) := by decide +kernel
theorem dX1_exchangeTeams_63 : decode cX1_exchangeTeams 63 = .ok (.iinc 3 1, 3) := by decide +kernel
theorem dX1_exchangeTeams_66 : decode cX1_exchangeTeams 66 = .ok (.goto (-64), 3) := by decide +kernel
theorem dX1_exchangeTeams_69 : decode cX1_exchangeTeams 69 = .ok (.return_, 1) := by decide +kernel
theorem dX1_exchanged_0 : decode cX1_exchanged 0 = .ok (.iload_n 0, 1) := by decide +kernel
theorem dX1_exchanged_1 : decode cX1_exchanged 1 = .ok (.iload_n 1, 1) := by decide +kernel
theorem dX1_exchanged_2 : decode cX1_exchanged 2 = .ok (.if_icmp .ne 7, 3) := by decide +kernel
theorem dX1_exchanged_5 : decode cX1_exchanged 5 = .ok (.iload_n 2, 1) := by decide +kernel
theorem dX1_exchanged_6 : decode cX1_exchanged 6 = .ok (.goto 13, 3) := by decide +kernel
theorem dX1_exchanged_9 : decode cX1_exchanged 9 = .ok (.iload_n 0, 1) := by decide +kernel
theorem dX1_exchanged_10 : decode cX1_exchanged 10 = .ok (.iload_n 2, 1) := by decide +kernel
theorem dX1_exchanged_11 : decode cX1_exchanged 11 = .ok (.if_icmp .ne 7, 3) := by decide +kernel
theorem dX1_exchanged_14 : decode cX1_exchanged 14 = .ok (.iload_n 1, 1) := by decide +kernel
theorem dX1_exchanged_15 : decode cX1_exchanged 15 = .ok (.goto 4, 3) := by decide +kernel
theorem dX1_exchanged_18 : decode cX1_exchanged 18 = .ok (.iload_n 0, 1) := by decide +kernel
theorem dX1_exchanged_19 : decode cX1_exchanged 19 = .ok (.ireturn, 1) := by decide +kernel
set_option maxRecDepth 20000 in
theorem ggX1_patternOf_X1_sideOf : GoodIn wsX1_patternOf wsX1_sideOf := goodIn_r _ [6, 7, 8, 9, 10, 5, 11, 1, 12, 13, 14, 15, 16, 17, 18, 19, 20, 21] (by decide +kernel) (by decide +kernel)
set_option maxRecDepth 20000 in
theorem gX1_patternOf_X1_sideOf : GoodIn wsX1_patternOf (wsV RX1 68 RX1 yX1_sideOf wsX1_sideOf) := goodIn_app (goodIn_of _ (by decide +kernel)) ggX1_patternOf_X1_sideOf
theorem dX1_patternOf_0 : decode cX1_patternOf 0 = .ok (.iconst 0, 1) := by decide +kernel
theorem dX1_patternOf_1 : decode cX1_patternOf 1 = .ok (.istore_n 2, 1) := by decide +kernel
theorem dX1_patternOf_2 : decode cX1_patternOf 2 = .ok (.iconst 0, 1) := by decide +kernel
theorem dX1_patternOf_3 : decode cX1_patternOf 3 = .ok (.istore_n 3, 1) := by decide +kernel
theorem dX1_patternOf_4 : decode cX1_patternOf 4 = .ok (.iload_n 3, 1) := by decide +kernel
theorem dX1_patternOf_5 : decode cX1_patternOf 5 = .ok (.aload_n 0, 1) := by decide +kernel
theorem dX1_patternOf_6 : decode cX1_patternOf 6 = .ok (.getfield 30, 3) := by decide +kernel
theorem dX1_patternOf_9 : decode cX1_patternOf 9 = .ok (.iconst 1, 1) := by decide +kernel
theorem dX1_patternOf_10 : decode cX1_patternOf 10 = .ok (.isub, 1) := by decide +kernel
theorem dX1_patternOf_11 : decode cX1_patternOf 11 = .ok (.if_icmp .ge 25, 3) := by decide +kernel
theorem dX1_patternOf_14 : decode cX1_patternOf 14 = .ok (.aload_n 0, 1) := by decide +kernel
theorem dX1_patternOf_15 : decode cX1_patternOf 15 = .ok (.iload_n 1, 1) := by decide +kernel
theorem dX1_patternOf_16 : decode cX1_patternOf 16 = .ok (.iload_n 3, 1) := by decide +kernel
theorem dX1_patternOf_17 : decode cX1_patternOf 17 = .ok (.invokevirtual 68, 3) := by decide +kernel
theorem dX1_patternOf_20 : decode cX1_patternOf 20 = .ok (.iconst 1, 1) := by decide +kernel
theorem dX1_patternOf_21 : decode cX1_patternOf 21 = .ok (.if_icmp .ne 9, 3) := by decide +kernel
theorem dX1_patternOf_24 : decode cX1_patternOf 24 = .ok (.iload_n 2, 1) := by decide +kernel
theorem dX1_patternOf_25 : decode cX1_patternOf 25 = .ok (.iconst 1, 1) := by decide +kernel
theorem dX1_patternOf_26 : decode cX1_patternOf 26 = .ok (.iload_n 3, 1) := by decide +kernel
theorem dX1_patternOf_27 : decode cX1_patternOf 27 = .ok (.ishl, 1) := by decide +kernel
theorem dX1_patternOf_28 : decode cX1_patternOf 28 = .ok (.ior, 1) := by decide +kernel
theorem dX1_patternOf_29 : decode cX1_patternOf 29 = .ok (.istore_n 2, 1) := by decide +kernel
theorem dX1_patternOf_30 : decode cX1_patternOf 30 = .ok (.iinc 3 1, 3) := by decide +kernel
theorem dX1_patternOf_33 : decode cX1_patternOf 33 = .ok (.goto (-29), 3) := by decide +kernel
theorem dX1_patternOf_36 : decode cX1_patternOf 36 = .ok (.iload_n 2, 1) := by decide +kernel
theorem dX1_patternOf_37 : decode cX1_patternOf 37 = .ok (.ireturn, 1) := by decide +kernel
set_option maxRecDepth 20000 in
theorem ggX1_otherOf_X1_patternOf : GoodIn wsX1_otherOf wsX1_patternOf := goodIn_r _ [6, 1, 7, 8, 9, 5, 10, 11, 12, 13, 14, 15, 16, 17, 18, 19, 20, 21, 22, 23, 24, 25] (by decide +kernel) (by decide +kernel)
set_option maxRecDepth 20000 in
theorem gX1_otherOf_X1_patternOf : GoodIn wsX1_otherOf (wsV RX1 71 RX1 yX1_patternOf wsX1_patternOf) := goodIn_app (goodIn_of _ (by decide +kernel)) ggX1_otherOf_X1_patternOf
theorem dX1_otherOf_0 : decode cX1_otherOf 0 = .ok (.iconst 1, 1) := by decide +kernel
theorem dX1_otherOf_1 : decode cX1_otherOf 1 = .ok (.aload_n 0, 1) := by decide +kernel
theorem dX1_otherOf_2 : decode cX1_otherOf 2 = .ok (.getfield 30, 3) := by decide +kernel
theorem dX1_otherOf_5 : decode cX1_otherOf 5 = .ok (.iconst 1, 1) := by decide +kernel
theorem dX1_otherOf_6 : decode cX1_otherOf 6 = .ok (.isub, 1) := by decide +kernel
theorem dX1_otherOf_7 : decode cX1_otherOf 7 = .ok (.ishl, 1) := by decide +kernel
theorem dX1_otherOf_8 : decode cX1_otherOf 8 = .ok (.iconst 1, 1) := by decide +kernel
theorem dX1_otherOf_9 : decode cX1_otherOf 9 = .ok (.isub, 1) := by decide +kernel
theorem dX1_otherOf_10 : decode cX1_otherOf 10 = .ok (.istore_n 2, 1) := by decide +kernel
theorem dX1_otherOf_11 : decode cX1_otherOf 11 = .ok (.iload_n 2, 1) := by decide +kernel
theorem dX1_otherOf_12 : decode cX1_otherOf 12 = .ok (.aload_n 0, 1) := by decide +kernel
theorem dX1_otherOf_13 : decode cX1_otherOf 13 = .ok (.iload_n 1, 1) := by decide +kernel
theorem dX1_otherOf_14 : decode cX1_otherOf 14 = .ok (.invokevirtual 71, 3) := by decide +kernel
theorem dX1_otherOf_17 : decode cX1_otherOf 17 = .ok (.ixor, 1) := by decide +kernel
theorem dX1_otherOf_18 : decode cX1_otherOf 18 = .ok (.istore_n 3, 1) := by decide +kernel
theorem dX1_otherOf_19 : decode cX1_otherOf 19 = .ok (.iconst 0, 1) := by decide +kernel
theorem dX1_otherOf_20 : decode cX1_otherOf 20 = .ok (.istore 4, 2) := by decide +kernel
theorem dX1_otherOf_22 : decode cX1_otherOf 22 = .ok (.iload 4, 2) := by decide +kernel
theorem dX1_otherOf_24 : decode cX1_otherOf 24 = .ok (.aload_n 0, 1) := by decide +kernel
theorem dX1_otherOf_25 : decode cX1_otherOf 25 = .ok (.getfield 30, 3) := by decide +kernel
theorem dX1_otherOf_28 : decode cX1_otherOf 28 = .ok (.if_icmp .ge 22, 3) := by decide +kernel
theorem dX1_otherOf_31 : decode cX1_otherOf 31 = .ok (.aload_n 0, 1) := by decide +kernel
theorem dX1_otherOf_32 : decode cX1_otherOf 32 = .ok (.iload 4, 2) := by decide +kernel
theorem dX1_otherOf_34 : decode cX1_otherOf 34 = .ok (.invokevirtual 71, 3) := by decide +kernel
theorem dX1_otherOf_37 : decode cX1_otherOf 37 = .ok (.iload_n 3, 1) := by decide +kernel
theorem dX1_otherOf_38 : decode cX1_otherOf 38 = .ok (.if_icmp .ne 6, 3) := by decide +kernel
theorem dX1_otherOf_41 : decode cX1_otherOf 41 = .ok (.iload 4, 2) := by decide +kernel
theorem dX1_otherOf_43 : decode cX1_otherOf 43 = .ok (.ireturn, 1) := by decide +kernel
theorem dX1_otherOf_44 : decode cX1_otherOf 44 = .ok (.iinc 4 1, 3) := by decide +kernel
theorem dX1_otherOf_47 : decode cX1_otherOf 47 = .ok (.goto (-25), 3) := by decide +kernel
theorem dX1_otherOf_50 : decode cX1_otherOf 50 = .ok (.bipush (-5), 2) := by decide +kernel
theorem dX1_otherOf_52 : decode cX1_otherOf 52 = .ok (.ireturn, 1) := by decide +kernel
set_option maxRecDepth 20000 in
theorem ggX1_breaksOf_X1_sideOf : GoodIn wsX1_breaksOf wsX1_sideOf := goodIn_r _ [6, 7, 8, 9, 10, 5, 11, 1, 12, 13, 14, 15, 16, 17, 18, 19, 20, 21] (by decide +kernel) (by decide +kernel)
set_option maxRecDepth 20000 in
theorem gX1_breaksOf_X1_sideOf : GoodIn wsX1_breaksOf (wsV RX1 68 RX1 yX1_sideOf wsX1_sideOf) := goodIn_app (goodIn_of _ (by decide +kernel)) ggX1_breaksOf_X1_sideOf
theorem dX1_breaksOf_0 : decode cX1_breaksOf 0 = .ok (.iconst 0, 1) := by decide +kernel
theorem dX1_breaksOf_1 : decode cX1_breaksOf 1 = .ok (.istore_n 2, 1) := by decide +kernel
theorem dX1_breaksOf_2 : decode cX1_breaksOf 2 = .ok (.iconst 0, 1) := by decide +kernel
theorem dX1_breaksOf_3 : decode cX1_breaksOf 3 = .ok (.istore_n 3, 1) := by decide +kernel
theorem dX1_breaksOf_4 : decode cX1_breaksOf 4 = .ok (.iload_n 3, 1) := by decide +kernel
theorem dX1_breaksOf_5 : decode cX1_breaksOf 5 = .ok (.iconst 1, 1) := by decide +kernel
theorem dX1_breaksOf_6 : decode cX1_breaksOf 6 = .ok (.iadd, 1) := by decide +kernel
theorem dX1_breaksOf_7 : decode cX1_breaksOf 7 = .ok (.aload_n 0, 1) := by decide +kernel
theorem dX1_breaksOf_8 : decode cX1_breaksOf 8 = .ok (.getfield 30, 3) := by decide +kernel
theorem dX1_breaksOf_11 : decode cX1_breaksOf 11 = .ok (.iconst 1, 1) := by decide +kernel
theorem dX1_breaksOf_12 : decode cX1_breaksOf 12 = .ok (.isub, 1) := by decide +kernel
theorem dX1_breaksOf_13 : decode cX1_breaksOf 13 = .ok (.if_icmp .ge 29, 3) := by decide +kernel
theorem dX1_breaksOf_16 : decode cX1_breaksOf 16 = .ok (.aload_n 0, 1) := by decide +kernel
theorem dX1_breaksOf_17 : decode cX1_breaksOf 17 = .ok (.iload_n 1, 1) := by decide +kernel
theorem dX1_breaksOf_18 : decode cX1_breaksOf 18 = .ok (.iload_n 3, 1) := by decide +kernel
theorem dX1_breaksOf_19 : decode cX1_breaksOf 19 = .ok (.invokevirtual 68, 3) := by decide +kernel
theorem dX1_breaksOf_22 : decode cX1_breaksOf 22 = .ok (.aload_n 0, 1) := by decide +kernel
theorem dX1_breaksOf_23 : decode cX1_breaksOf 23 = .ok (.iload_n 1, 1) := by decide +kernel
theorem dX1_breaksOf_24 : decode cX1_breaksOf 24 = .ok (.iload_n 3, 1) := by decide +kernel
theorem dX1_breaksOf_25 : decode cX1_breaksOf 25 = .ok (.iconst 1, 1) := by decide +kernel
theorem dX1_breaksOf_26 : decode cX1_breaksOf 26 = .ok (.iadd, 1) := by decide +kernel
theorem dX1_breaksOf_27 : decode cX1_breaksOf 27 = .ok (.invokevirtual 68, 3) := by decide +kernel
theorem dX1_breaksOf_30 : decode cX1_breaksOf 30 = .ok (.if_icmp .ne 6, 3) := by decide +kernel
theorem dX1_breaksOf_33 : decode cX1_breaksOf 33 = .ok (.iinc 2 1, 3) := by decide +kernel
theorem dX1_breaksOf_36 : decode cX1_breaksOf 36 = .ok (.iinc 3 1, 3) := by decide +kernel
theorem dX1_breaksOf_39 : decode cX1_breaksOf 39 = .ok (.goto (-35), 3) := by decide +kernel
theorem dX1_breaksOf_42 : decode cX1_breaksOf 42 = .ok (.iload_n 2, 1) := by decide +kernel
theorem dX1_breaksOf_43 : decode cX1_breaksOf 43 = .ok (.ireturn, 1) := by decide +kernel
set_option maxRecDepth 20000 in
theorem ggX1_allBreaks_X1_breaksOf : GoodIn wsX1_allBreaks wsX1_breaksOf := goodIn_r _ [6, 1, 7, 8, 9, 5, 10, 11, 12, 13, 14, 15, 16, 17, 18, 19, 20, 21, 22, 23, 24, 25] (by decide +kernel) (by decide +kernel)
set_option maxRecDepth 20000 in
theorem gX1_allBreaks_X1_breaksOf : GoodIn wsX1_allBreaks (wsV RX1 75 RX1 yX1_breaksOf wsX1_breaksOf) := goodIn_app (goodIn_of _ (by decide +kernel)) ggX1_allBreaks_X1_breaksOf
theorem dX1_allBreaks_0 : decode cX1_allBreaks 0 = .ok (.iconst 0, 1) := by decide +kernel
theorem dX1_allBreaks_1 : decode cX1_allBreaks 1 = .ok (.istore_n 1, 1) := by decide +kernel
theorem dX1_allBreaks_2 : decode cX1_allBreaks 2 = .ok (.iconst 0, 1) := by decide +kernel
theorem dX1_allBreaks_3 : decode cX1_allBreaks 3 = .ok (.istore_n 2, 1) := by decide +kernel
theorem dX1_allBreaks_4 : decode cX1_allBreaks 4 = .ok (.iload_n 2, 1) := by decide +kernel
theorem dX1_allBreaks_5 : decode cX1_allBreaks 5 = .ok (.aload_n 0, 1) := by decide +kernel
theorem dX1_allBreaks_6 : decode cX1_allBreaks 6 = .ok (.getfield 30, 3) := by decide +kernel
theorem dX1_allBreaks_9 : decode cX1_allBreaks 9 = .ok (.if_icmp .ge 17, 3) := by decide +kernel
theorem dX1_allBreaks_12 : decode cX1_allBreaks 12 = .ok (.iload_n 1, 1) := by decide +kernel
theorem dX1_allBreaks_13 : decode cX1_allBreaks 13 = .ok (.aload_n 0, 1) := by decide +kernel
theorem dX1_allBreaks_14 : decode cX1_allBreaks 14 = .ok (.iload_n 2, 1) := by decide +kernel
theorem dX1_allBreaks_15 : decode cX1_allBreaks 15 = .ok (.invokevirtual 75, 3) := by decide +kernel
theorem dX1_allBreaks_18 : decode cX1_allBreaks 18 = .ok (.iadd, 1) := by decide +kernel
theorem dX1_allBreaks_19 : decode cX1_allBreaks 19 = .ok (.istore_n 1, 1) := by decide +kernel
theorem dX1_allBreaks_20 : decode cX1_allBreaks 20 = .ok (.iinc 2 1, 3) := by decide +kernel
theorem dX1_allBreaks_23 : decode cX1_allBreaks 23 = .ok (.goto (-19), 3) := by decide +kernel
theorem dX1_allBreaks_26 : decode cX1_allBreaks 26 = .ok (.iload_n 1, 1) := by decide +kernel
theorem dX1_allBreaks_27 : decode cX1_allBreaks 27 = .ok (.ireturn, 1) := by decide +kernel
set_option maxRecDepth 20000 in
theorem ggX1_meetingOf_X1_rivalOf : GoodIn wsX1_meetingOf wsX1_rivalOf := goodIn_r _ [6, 7, 8, 9, 10, 5, 11, 1, 12, 13, 14, 15, 16, 17, 18, 19, 20, 21] (by decide +kernel) (by decide +kernel)
set_option maxRecDepth 20000 in
theorem gX1_meetingOf_X1_rivalOf : GoodIn wsX1_meetingOf (wsV RX1 78 RX1 yX1_rivalOf wsX1_rivalOf) := goodIn_app (goodIn_of _ (by decide +kernel)) ggX1_meetingOf_X1_rivalOf
theorem dX1_meetingOf_0 : decode cX1_meetingOf 0 = .ok (.iconst 0, 1) := by decide +kernel
theorem dX1_meetingOf_1 : decode cX1_meetingOf 1 = .ok (.istore_n 3, 1) := by decide +kernel
theorem dX1_meetingOf_2 : decode cX1_meetingOf 2 = .ok (.iload_n 3, 1) := by decide +kernel
theorem dX1_meetingOf_3 : decode cX1_meetingOf 3 = .ok (.aload_n 0, 1) := by decide +kernel
theorem dX1_meetingOf_4 : decode cX1_meetingOf 4 = .ok (.getfield 30, 3) := by decide +kernel
theorem dX1_meetingOf_7 : decode cX1_meetingOf 7 = .ok (.iconst 1, 1) := by decide +kernel
theorem dX1_meetingOf_8 : decode cX1_meetingOf 8 = .ok (.isub, 1) := by decide +kernel
theorem dX1_meetingOf_9 : decode cX1_meetingOf 9 = .ok (.if_icmp .ge 21, 3) := by decide +kernel
theorem dX1_meetingOf_12 : decode cX1_meetingOf 12 = .ok (.aload_n 0, 1) := by decide +kernel
theorem dX1_meetingOf_13 : decode cX1_meetingOf 13 = .ok (.iload_n 1, 1) := by decide +kernel
theorem dX1_meetingOf_14 : decode cX1_meetingOf 14 = .ok (.iload_n 3, 1) := by decide +kernel
theorem dX1_meetingOf_15 : decode cX1_meetingOf 15 = .ok (.invokevirtual 78, 3) := by decide +kernel
theorem dX1_meetingOf_18 : decode cX1_meetingOf 18 = .ok (.iload_n 2, 1) := by decide +kernel
theorem dX1_meetingOf_19 : decode cX1_meetingOf 19 = .ok (.if_icmp .ne 5, 3) := by decide +kernel
theorem dX1_meetingOf_22 : decode cX1_meetingOf 22 = .ok (.iload_n 3, 1) := by decide +kernel
theorem dX1_meetingOf_23 : decode cX1_meetingOf 23 = .ok (.ireturn, 1) := by decide +kernel
theorem dX1_meetingOf_24 : decode cX1_meetingOf 24 = .ok (.iinc 3 1, 3) := by decide +kernel
theorem dX1_meetingOf_27 : decode cX1_meetingOf 27 = .ok (.goto (-25), 3) := by decide +kernel
theorem dX1_meetingOf_30 : decode cX1_meetingOf 30 = .ok (.iconst (-1), 1) := by decide +kernel
theorem dX1_meetingOf_31 : decode cX1_meetingOf 31 = .ok (.ireturn, 1) := by decide +kernel
set_option maxRecDepth 20000 in
theorem ggX1_loopOf_X1_rivalOf : GoodIn wsX1_loopOf wsX1_rivalOf := goodIn_r _ [6, 7, 8, 9, 10, 5, 11, 1, 12, 13, 14, 15, 16, 17, 18, 19, 20, 21] (by decide +kernel) (by decide +kernel)
set_option maxRecDepth 20000 in
theorem gX1_loopOf_X1_rivalOf : GoodIn wsX1_loopOf (wsV RX1 78 RX1 yX1_rivalOf wsX1_rivalOf) := goodIn_app (goodIn_of _ (by decide +kernel)) ggX1_loopOf_X1_rivalOf
theorem dX1_loopOf_0 : decode cX1_loopOf 0 = .ok (.iconst 0, 1) := by decide +kernel
theorem dX1_loopOf_1 : decode cX1_loopOf 1 = .ok (.istore 4, 2) := by decide +kernel
theorem dX1_loopOf_3 : decode cX1_loopOf 3 = .ok (.iload_n 3, 1) := by decide +kernel
theorem dX1_loopOf_4 : decode cX1_loopOf 4 = .ok (.istore 5, 2) := by decide +kernel
theorem dX1_loopOf_6 : decode cX1_loopOf 6 = .ok (.aload_n 0, 1) := by decide +kernel
theorem dX1_loopOf_7 : decode cX1_loopOf 7 = .ok (.aload_n 0, 1) := by decide +kernel
theorem dX1_loopOf_8 : decode cX1_loopOf 8 = .ok (.iload 5, 2) := by decide +kernel
theorem dX1_loopOf_10 : decode cX1_loopOf 10 = .ok (.iload_n 1, 1) := by decide +kernel
theorem dX1_loopOf_11 : decode cX1_loopOf 11 = .ok (.invokevirtual 78, 3) := by decide +kernel
theorem dX1_loopOf_14 : decode cX1_loopOf 14 = .ok (.iload_n 2, 1) := by decide +kernel
theorem dX1_loopOf_15 : decode cX1_loopOf 15 = .ok (.invokevirtual 78, 3) := by decide +kernel
theorem dX1_loopOf_18 : decode cX1_loopOf 18 = .ok (.istore 5, 2) := by decide +kernel
theorem dX1_loopOf_20 : decode cX1_loopOf 20 = .ok (.iinc 4 2, 3) := by decide +kernel
theorem dX1_loopOf_23 : decode cX1_loopOf 23 = .ok (.iload 5, 2) := by decide +kernel
theorem dX1_loopOf_25 : decode cX1_loopOf 25 = .ok (.iload_n 3, 1) := by decide +kernel
theorem dX1_loopOf_26 : decode cX1_loopOf 26 = .ok (.if_icmp .eq 12, 3) := by decide +kernel
theorem dX1_loopOf_29 : decode cX1_loopOf 29 = .ok (.iload 4, 2) := by decide +kernel
theorem dX1_loopOf_31 : decode cX1_loopOf 31 = .ok (.aload_n 0, 1) := by decide +kernel
theorem dX1_loopOf_32 : decode cX1_loopOf 32 = .ok (.getfield 30, 3) := by decide +kernel
theorem dX1_loopOf_35 : decode cX1_loopOf 35 = .ok (.if_icmp .lt (-29), 3) := by decide +kernel
theorem dX1_loopOf_38 : decode cX1_loopOf 38 = .ok (.iload 4, 2) := by decide +kernel
theorem dX1_loopOf_40 : decode cX1_loopOf 40 = .ok (.ireturn, 1) := by decide +kernel
set_option maxRecDepth 20000 in
theorem ggX1_tallyCarries_J7_fill_53178 : GoodIn wsX1_tallyCarries wsJ7_fill_53178 := goodIn_r _ [6] (by decide +kernel) (by decide +kernel)
set_option maxRecDepth 20000 in
theorem gX1_tallyCarries_J7_fill_53178 : GoodIn wsX1_tallyCarries (va_wsS RX1 81 yJ7_fill_53178 wsJ7_fill_53178) := goodIn_app (goodIn_of _ (by decide +kernel)) ggX1_tallyCarries_J7_fill_53178
set_option maxRecDepth 20000 in
theorem ggX1_tallyCarries_X1_rivalOf : GoodIn wsX1_tallyCarries wsX1_rivalOf := goodIn_r _ [11, 12, 13, 14, 15, 10, 16, 2, 17, 18, 19, 24, 25, 26, 27, 28, 29, 30] (by decide +kernel) (by decide +kernel)
set_option maxRecDepth 20000 in
theorem gX1_tallyCarries_X1_rivalOf : GoodIn wsX1_tallyCarries (wsV RX1 78 RX1 yX1_rivalOf wsX1_rivalOf) := goodIn_app (goodIn_of _ (by decide +kernel)) ggX1_tallyCarries_X1_rivalOf
set_option maxRecDepth 20000 in
theorem ggX1_tallyCarries_X1_hasTeam : GoodIn wsX1_tallyCarries wsX1_hasTeam := goodIn_r _ [23, 2, 24, 25, 26, 27, 28, 29, 30] (by decide +kernel) (by decide +kernel)
set_option maxRecDepth 20000 in
theorem gX1_tallyCarries_X1_hasTeam : GoodIn wsX1_tallyCarries (wsV RX1 87 RX1 yX1_hasTeam wsX1_hasTeam) := goodIn_app (goodIn_of _ (by decide +kernel)) ggX1_tallyCarries_X1_hasTeam
theorem dX1_tallyCarries_0 : decode cX1_tallyCarries 0 = .ok (.aload_n 0, 1) := by decide +kernel
theorem dX1_tallyCarries_1 : decode cX1_tallyCarries 1 = .ok (.getfield 27, 3) := by decide +kernel
theorem dX1_tallyCarries_4 : decode cX1_tallyCarries 4 = .ok (.iconst 0, 1) := by decide +kernel
theorem dX1_tallyCarries_5 : decode cX1_tallyCarries 5 = .ok (.invokestatic 81, 3) := by decide +kernel
theorem dX1_tallyCarries_8 : decode cX1_tallyCarries 8 = .ok (.iconst 0, 1) := by decide +kernel
theorem dX1_tallyCarries_9 : decode cX1_tallyCarries 9 = .ok (.istore_n 1, 1) := by decide +kernel
theorem dX1_tallyCarries_10 : decode cX1_tallyCarries 10 = .ok (.iload_n 1, 1) := by decide +kernel
theorem dX1_tallyCarries_11 : decode cX1_tallyCarries 11 = .ok (.iconst 1, 1) := by decide +kernel
theorem dX1_tallyCarries_12 : decode cX1_tallyCarries 12 = .ok (.iadd, 1) := by decide +kernel
theorem dX1_tallyCarries_13 : decode cX1_tallyCarries 13 = .ok (.aload_n 0, 1) := by decide +kernel
theorem dX1_tallyCarries_14 : decode cX1_tallyCarries 14 = .ok (.getfield 30, 3) := by decide +kernel
theorem dX1_tallyCarries_17 : decode cX1_tallyCarries 17 = .ok (.iconst 1, 1) := by decide +kernel
theorem dX1_tallyCarries_18 : decode cX1_tallyCarries 18 = .ok (.isub, 1) := by decide +kernel
theorem dX1_tallyCarries_19 : decode cX1_tallyCarries 19 = .ok (.if_icmp .ge 62, 3) := by decide +kernel
theorem dX1_tallyCarries_22 : decode cX1_tallyCarries 22 = .ok (.iconst 0, 1) := by decide +kernel
theorem dX1_tallyCarries_23 : decode cX1_tallyCarries 23 = .ok (.istore_n 2, 1) := by decide +kernel
theorem dX1_tallyCarries_24 : decode cX1_tallyCarries 24 = .ok (.iload_n 2, 1) := by decide +kernel
theorem dX1_tallyCarries_25 : decode cX1_tallyCarries 25 = .ok (.aload_n 0, 1) := by decide +kernel
theorem dX1_tallyCarries_26 : decode cX1_tallyCarries 26 = .ok (.getfield 30, 3) := by decide +kernel
theorem dX1_tallyCarries_29 : decode cX1_tallyCarries 29 = .ok (.if_icmp .ge 46, 3) := by decide +kernel
theorem dX1_tallyCarries_32 : decode cX1_tallyCarries 32 = .ok (.aload_n 0, 1) := by decide +kernel
theorem dX1_tallyCarries_33 : decode cX1_tallyCarries 33 = .ok (.aload_n 0, 1) := by decide +kernel
theorem dX1_tallyCarries_34 : decode cX1_tallyCarries 34 = .ok (.iload_n 2, 1) := by decide +kernel
theorem dX1_tallyCarries_35 : decode cX1_tallyCarries 35 = .ok (.iload_n 1, 1) := by decide +kernel
theorem dX1_tallyCarries_36 : decode cX1_tallyCarries 36 = .ok (.invokevirtual 78, 3) := by decide +kernel
theorem dX1_tallyCarries_39 : decode cX1_tallyCarries 39 = .ok (.iload_n 1, 1) := by decide +kernel
theorem dX1_tallyCarries_40 : decode cX1_tallyCarries 40 = .ok (.iconst 1, 1) := by decide +kernel
theorem dX1_tallyCarries_41 : decode cX1_tallyCarries 41 = .ok (.iadd, 1) := by decide +kernel
theorem dX1_tallyCarries_42 : decode cX1_tallyCarries 42 = .ok (.invokevirtual 78, 3) := by decide +kernel
theorem dX1_tallyCarries_45 : decode cX1_tallyCarries 45 = .ok (.istore_n 3, 1) := by decide +kernel
theorem dX1_tallyCarries_46 : decode cX1_tallyCarries 46 = .ok (.aload_n 0, 1) := by decide +kernel
theorem dX1_tallyCarries_47 : decode cX1_tallyCarries 47 = .ok (.iload_n 3, 1) := by decide +kernel
theorem dX1_tallyCarries_48 : decode cX1_tallyCarries 48 = .ok (.invokevirtual 87, 3) := by decide +kernel
theorem dX1_tallyCarries_51 : decode cX1_tallyCarries 51 = .ok (.ifCond .eq 18, 3) := by decide +kernel
theorem dX1_tallyCarries_54 : decode cX1_tallyCarries 54 = .ok (.aload_n 0, 1) := by decide +kernel
theorem dX1_tallyCarries_55 : decode cX1_tallyCarries 55 = .ok (.getfield 27, 3) := by decide +kernel
theorem dX1_tallyCarries_58 : decode cX1_tallyCarries 58 = .ok (.iload_n 2, 1) := by decide +kernel
theorem dX1_tallyCarries_59 : decode cX1_tallyCarries 59 = .ok (.bipush 6, 2) := by decide +kernel
theorem dX1_tallyCarries_61 : decode cX1_tallyCarries 61 = .ok (.imul, 1) := by decide +kernel
theorem dX1_tallyCarries_62 : decode cX1_tallyCarries 62 = .ok (.iload_n 3, 1) := by decide +kernel
theorem dX1_tallyCarries_63 : decode cX1_tallyCarries 63 = .ok (.iadd, 1) := by decide +kernel
theorem dX1_tallyCarries_64 : decode cX1_tallyCarries 64 = .ok (.dup2, 1) := by decide +kernel
theorem dX1_tallyCarries_65 : decode cX1_tallyCarries 65 = .ok (.iaload, 1) := by decide +kernel
theorem dX1_tallyCarries_66 : decode cX1_tallyCarries 66 = .ok (.iconst 1, 1) := by decide +kernel
theorem dX1_tallyCarries_67 : decode cX1_tallyCarries 67 = .ok (.iadd, 1) := by decide +kernel
theorem dX1_tallyCarries_68 : decode cX1_tallyCarries 68 = .ok (.iastore, 1) := by decide +kernel
theorem dX1_tallyCarries_69 : decode cX1_tallyCarries 69 = .ok (.iinc 2 1, 3) := by decide +kernel
theorem dX1_tallyCarries_72 : decode cX1_tallyCarries 72 = .ok (.goto (-48), 3) := by decide +kernel
theorem dX1_tallyCarries_75 : decode cX1_tallyCarries 75 = .ok (.iinc 1 1, 3) := by decide +kernel
theorem dX1_tallyCarries_78 : decode cX1_tallyCarries 78 = .ok (.goto (-68), 3) := by decide +kernel
theorem dX1_tallyCarries_81 : decode cX1_tallyCarries 81 = .ok (.return_, 1) := by decide +kernel
set_option maxRecDepth 20000 in
theorem ggX1_carriedOf_X1_tallyCarries : GoodIn wsX1_carriedOf wsX1_tallyCarries := goodIn_r _ [6, 1, 7, 8, 9, 10, 11, 12, 13, 14, 5, 15, 16, 17, 18, 19, 20, 21, 22, 23, 24, 25, 26, 27, 32, 33, 34, 35, 36, 37, 38] (by decide +kernel) (by decide +kernel)
set_option maxRecDepth 20000 in
theorem gX1_carriedOf_X1_tallyCarries : GoodIn wsX1_carriedOf (wsV RX1 91 RX1 yX1_tallyCarries wsX1_tallyCarries) := goodIn_app (goodIn_of _ (by decide +kernel)) ggX1_carriedOf_X1_tallyCarries
set_option maxRecDepth 20000 in
theorem ggX1_carriedOf_X1_hasPair : GoodIn wsX1_carriedOf wsX1_hasPair := goodIn_r _ [31, 7, 32, 33, 34, 35, 36, 37, 38] (by decide +kernel) (by decide +kernel)
set_option maxRecDepth 20000 in
theorem gX1_carriedOf_X1_hasPair : GoodIn wsX1_carriedOf (wsV RX1 45 RX1 yX1_hasPair wsX1_hasPair) := goodIn_app (goodIn_of _ (by decide +kernel)) ggX1_carriedOf_X1_hasPair
theorem dX1_carriedOf_0 : decode cX1_carriedOf 0 = .ok (.aload_n 0, 1) := by decide +kernel
theorem dX1_carriedOf_1 : decode cX1_carriedOf 1 = .ok (.invokevirtual 91, 3) := by decide +kernel
theorem dX1_carriedOf_4 : decode cX1_carriedOf 4 = .ok (.aload_n 0, 1) := by decide +kernel
theorem dX1_carriedOf_5 : decode cX1_carriedOf 5 = .ok (.iload_n 1, 1) := by decide +kernel
theorem dX1_carriedOf_6 : decode cX1_carriedOf 6 = .ok (.iload_n 2, 1) := by decide +kernel
theorem dX1_carriedOf_7 : decode cX1_carriedOf 7 = .ok (.invokevirtual 45, 3) := by decide +kernel
theorem dX1_carriedOf_10 : decode cX1_carriedOf 10 = .ok (.ifCond .eq 17, 3) := by decide +kernel
theorem dX1_carriedOf_13 : decode cX1_carriedOf 13 = .ok (.aload_n 0, 1) := by decide +kernel
theorem dX1_carriedOf_14 : decode cX1_carriedOf 14 = .ok (.getfield 27, 3) := by decide +kernel
theorem dX1_carriedOf_17 : decode cX1_carriedOf 17 = .ok (.iload_n 1, 1) := by decide +kernel
theorem dX1_carriedOf_18 : decode cX1_carriedOf 18 = .ok (.bipush 6, 2) := by decide +kernel
theorem dX1_carriedOf_20 : decode cX1_carriedOf 20 = .ok (.imul, 1) := by decide +kernel
theorem dX1_carriedOf_21 : decode cX1_carriedOf 21 = .ok (.iload_n 2, 1) := by decide +kernel
theorem dX1_carriedOf_22 : decode cX1_carriedOf 22 = .ok (.iadd, 1) := by decide +kernel
theorem dX1_carriedOf_23 : decode cX1_carriedOf 23 = .ok (.iaload, 1) := by decide +kernel
theorem dX1_carriedOf_24 : decode cX1_carriedOf 24 = .ok (.goto 4, 3) := by decide +kernel
theorem dX1_carriedOf_27 : decode cX1_carriedOf 27 = .ok (.iconst 0, 1) := by decide +kernel
theorem dX1_carriedOf_28 : decode cX1_carriedOf 28 = .ok (.ireturn, 1) := by decide +kernel
set_option maxRecDepth 20000 in
theorem ggX1_carry_X1_tallyCarries : GoodIn wsX1_carry wsX1_tallyCarries := goodIn_r _ [7, 2, 1, 8, 9, 10, 11, 12, 13, 14, 6, 15, 16, 17, 18, 19, 20, 21, 22, 23, 24, 25, 26, 27, 28, 29, 30, 31, 32, 33, 34] (by decide +kernel) (by decide +kernel)
set_option maxRecDepth 20000 in
theorem gX1_carry_X1_tallyCarries : GoodIn wsX1_carry (wsV RX1 91 RX1 yX1_tallyCarries wsX1_tallyCarries) := goodIn_app (goodIn_of _ (by decide +kernel)) ggX1_carry_X1_tallyCarries
theorem dX1_carry_0 : decode cX1_carry 0 = .ok (.aload_n 0, 1) := by decide +kernel
theorem dX1_carry_1 : decode cX1_carry 1 = .ok (.invokevirtual 91, 3) := by decide +kernel
theorem dX1_carry_4 : decode cX1_carry 4 = .ok (.iconst 0, 1) := by decide +kernel
theorem dX1_carry_5 : decode cX1_carry 5 = .ok (.istore_n 1, 1) := by decide +kernel
theorem dX1_carry_6 : decode cX1_carry 6 = .ok (.iconst 0, 1) := by decide +kernel
theorem dX1_carry_7 : decode cX1_carry 7 = .ok (.istore_n 2, 1) := by decide +kernel
theorem dX1_carry_8 : decode cX1_carry 8 = .ok (.iload_n 2, 1) := by decide +kernel
theorem dX1_carry_9 : decode cX1_carry 9 = .ok (.aload_n 0, 1) := by decide +kernel
theorem dX1_carry_10 : decode cX1_carry 10 = .ok (.getfield 30, 3) := by decide +kernel
theorem dX1_carry_13 : decode cX1_carry 13 = .ok (.if_icmp .ge 55, 3) := by decide +kernel
theorem dX1_carry_16 : decode cX1_carry 16 = .ok (.iconst 0, 1) := by decide +kernel
theorem dX1_carry_17 : decode cX1_carry 17 = .ok (.istore_n 3, 1) := by decide +kernel
theorem dX1_carry_18 : decode cX1_carry 18 = .ok (.iload_n 3, 1) := by decide +kernel
theorem dX1_carry_19 : decode cX1_carry 19 = .ok (.aload_n 0, 1) := by decide +kernel
theorem dX1_carry_20 : decode cX1_carry 20 = .ok (.getfield 30, 3) := by decide +kernel
theorem dX1_carry_23 : decode cX1_carry 23 = .ok (.if_icmp .ge 39, 3) := by decide +kernel
theorem dX1_carry_26 : decode cX1_carry 26 = .ok (.iload_n 2, 1) := by decide +kernel
theorem dX1_carry_27 : decode cX1_carry 27 = .ok (.iload_n 3, 1) := by decide +kernel
theorem dX1_carry_28 : decode cX1_carry 28 = .ok (.if_icmp .ne 7, 3) := by decide +kernel
theorem dX1_carry_31 : decode cX1_carry 31 = .ok (.iconst 0, 1) := by decide +kernel
theorem dX1_carry_32 : decode cX1_carry 32 = .ok (.goto 14, 3) := by decide +kernel
theorem dX1_carry_35 : decode cX1_carry 35 = .ok (.aload_n 0, 1) := by decide +kernel
theorem dX1_carry_36 : decode cX1_carry 36 = .ok (.getfield 27, 3) := by decide +kernel
theorem dX1_carry_39 : decode cX1_carry 39 = .ok (.iload_n 2, 1) := by decide +kernel
theorem dX1_carry_40 : decode cX1_carry 40 = .ok (.bipush 6, 2) := by decide +kernel
theorem dX1_carry_42 : decode cX1_carry 42 = .ok (.imul, 1) := by decide +kernel
theorem dX1_carry_43 : decode cX1_carry 43 = .ok (.iload_n 3, 1) := by decide +kernel
theorem dX1_carry_44 : decode cX1_carry 44 = .ok (.iadd, 1) := by decide +kernel
theorem dX1_carry_45 : decode cX1_carry 45 = .ok (.iaload, 1) := by decide +kernel
theorem dX1_carry_46 : decode cX1_carry 46 = .ok (.istore 4, 2) := by decide +kernel
theorem dX1_carry_48 : decode cX1_carry 48 = .ok (.iload_n 1, 1) := by decide +kernel
theorem dX1_carry_49 : decode cX1_carry 49 = .ok (.iload 4, 2) := by decide +kernel
theorem dX1_carry_51 : decode cX1_carry 51 = .ok (.iload 4, 2) := by decide +kernel
theorem dX1_carry_53 : decode cX1_carry 53 = .ok (.imul, 1) := by decide +kernel
theorem dX1_carry_54 : decode cX1_carry 54 = .ok (.iadd, 1) := by decide +kernel
theorem dX1_carry_55 : decode cX1_carry 55 = .ok (.istore_n 1, 1) := by decide +kernel
theorem dX1_carry_56 : decode cX1_carry 56 = .ok (.iinc 3 1, 3) := by decide +kernel
theorem dX1_carry_59 : decode cX1_carry 59 = .ok (.goto (-41), 3) := by decide +kernel
theorem dX1_carry_62 : decode cX1_carry 62 = .ok (.iinc 2 1, 3) := by decide +kernel
theorem dX1_carry_65 : decode cX1_carry 65 = .ok (.goto (-57), 3) := by decide +kernel
theorem dX1_carry_68 : decode cX1_carry 68 = .ok (.iload_n 1, 1) := by decide +kernel
theorem dX1_carry_69 : decode cX1_carry 69 = .ok (.ireturn, 1) := by decide +kernel
theorem dX1_seasonLength_0 : decode cX1_seasonLength 0 = .ok (.iconst 2, 1) := by decide +kernel
theorem dX1_seasonLength_1 : decode cX1_seasonLength 1 = .ok (.aload_n 0, 1) := by decide +kernel
theorem dX1_seasonLength_2 : decode cX1_seasonLength 2 = .ok (.getfield 30, 3) := by decide +kernel
theorem dX1_seasonLength_5 : decode cX1_seasonLength 5 = .ok (.iconst 1, 1) := by decide +kernel
theorem dX1_seasonLength_6 : decode cX1_seasonLength 6 = .ok (.isub, 1) := by decide +kernel
theorem dX1_seasonLength_7 : decode cX1_seasonLength 7 = .ok (.imul, 1) := by decide +kernel
theorem dX1_seasonLength_8 : decode cX1_seasonLength 8 = .ok (.ireturn, 1) := by decide +kernel
set_option maxRecDepth 20000 in
theorem ggX1_hasSeasonRound_X1_seasonLength : GoodIn wsX1_hasSeasonRound wsX1_seasonLength := goodIn_r _ [5, 6, 7, 8, 9, 10, 11, 12, 13] (by decide +kernel) (by decide +kernel)
set_option maxRecDepth 20000 in
theorem gX1_hasSeasonRound_X1_seasonLength : GoodIn wsX1_hasSeasonRound (wsV RX1 94 RX1 yX1_seasonLength wsX1_seasonLength) := goodIn_app (goodIn_of _ (by decide +kernel)) ggX1_hasSeasonRound_X1_seasonLength
theorem dX1_hasSeasonRound_0 : decode cX1_hasSeasonRound 0 = .ok (.iload_n 1, 1) := by decide +kernel
theorem dX1_hasSeasonRound_1 : decode cX1_hasSeasonRound 1 = .ok (.ifCond .lt 15, 3) := by decide +kernel
theorem dX1_hasSeasonRound_4 : decode cX1_hasSeasonRound 4 = .ok (.iload_n 1, 1) := by decide +kernel
theorem dX1_hasSeasonRound_5 : decode cX1_hasSeasonRound 5 = .ok (.aload_n 0, 1) := by decide +kernel
theorem dX1_hasSeasonRound_6 : decode cX1_hasSeasonRound 6 = .ok (.invokevirtual 94, 3) := by decide +kernel
theorem dX1_hasSeasonRound_9 : decode cX1_hasSeasonRound 9 = .ok (.if_icmp .ge 7, 3) := by decide +kernel
theorem dX1_hasSeasonRound_12 : decode cX1_hasSeasonRound 12 = .ok (.iconst 1, 1) := by decide +kernel
theorem dX1_hasSeasonRound_13 : decode cX1_hasSeasonRound 13 = .ok (.goto 4, 3) := by decide +kernel
theorem dX1_hasSeasonRound_16 : decode cX1_hasSeasonRound 16 = .ok (.iconst 0, 1) := by decide +kernel
theorem dX1_hasSeasonRound_17 : decode cX1_hasSeasonRound 17 = .ok (.ireturn, 1) := by decide +kernel
theorem dX1_halfRound_0 : decode cX1_halfRound 0 = .ok (.aload_n 0, 1) := by decide +kernel
theorem dX1_halfRound_1 : decode cX1_halfRound 1 = .ok (.getfield 30, 3) := by decide +kernel
theorem dX1_halfRound_4 : decode cX1_halfRound 4 = .ok (.iconst 2, 1) := by decide +kernel
theorem dX1_halfRound_5 : decode cX1_halfRound 5 = .ok (.isub, 1) := by decide +kernel
theorem dX1_halfRound_6 : decode cX1_halfRound 6 = .ok (.istore_n 3, 1) := by decide +kernel
theorem dX1_halfRound_7 : decode cX1_halfRound 7 = .ok (.iload_n 1, 1) := by decide +kernel
theorem dX1_halfRound_8 : decode cX1_halfRound 8 = .ok (.aload_n 0, 1) := by decide +kernel
theorem dX1_halfRound_9 : decode cX1_halfRound 9 = .ok (.getfield 30, 3) := by decide +kernel
theorem dX1_halfRound_12 : decode cX1_halfRound 12 = .ok (.iconst 1, 1) := by decide +kernel
theorem dX1_halfRound_13 : decode cX1_halfRound 13 = .ok (.isub, 1) := by decide +kernel
theorem dX1_halfRound_14 : decode cX1_halfRound 14 = .ok (.isub, 1) := by decide +kernel
theorem dX1_halfRound_15 : decode cX1_halfRound 15 = .ok (.istore 4, 2) := by decide +kernel
theorem dX1_halfRound_17 : decode cX1_halfRound 17 = .ok (.iload 4, 2) := by decide +kernel
theorem dX1_halfRound_19 : decode cX1_halfRound 19 = .ok (.ifCond .ge 5, 3) := by decide +kernel
theorem dX1_halfRound_22 : decode cX1_halfRound 22 = .ok (.iload_n 1, 1) := by decide +kernel
theorem dX1_halfRound_23 : decode cX1_halfRound 23 = .ok (.ireturn, 1) := by decide +kernel
theorem dX1_halfRound_24 : decode cX1_halfRound 24 = .ok (.iload_n 2, 1) := by decide +kernel
theorem dX1_halfRound_25 : decode cX1_halfRound 25 = .ok (.ifCond .ne 6, 3) := by decide +kernel
theorem dX1_halfRound_28 : decode cX1_halfRound 28 = .ok (.iload 4, 2) := by decide +kernel
theorem dX1_halfRound_30 : decode cX1_halfRound 30 = .ok (.ireturn, 1) := by decide +kernel
theorem dX1_halfRound_31 : decode cX1_halfRound 31 = .ok (.iload_n 2, 1) := by decide +kernel
theorem dX1_halfRound_32 : decode cX1_halfRound 32 = .ok (.iconst 1, 1) := by decide +kernel
theorem dX1_halfRound_33 : decode cX1_halfRound 33 = .ok (.if_icmp .ne 8, 3) := by decide +kernel
theorem dX1_halfRound_36 : decode cX1_halfRound 36 = .ok (.iload_n 3, 1) := by decide +kernel
theorem dX1_halfRound_37 : decode cX1_halfRound 37 = .ok (.iload 4, 2) := by decide +kernel
theorem dX1_halfRound_39 : decode cX1_halfRound 39 = .ok (.isub, 1) := by decide +kernel
theorem dX1_halfRound_40 : decode cX1_halfRound 40 = .ok (.ireturn, 1) := by decide +kernel
theorem dX1_halfRound_41 : decode cX1_halfRound 41 = .ok (.iload 4, 2) := by decide +kernel
theorem dX1_halfRound_43 : decode cX1_halfRound 43 = .ok (.ifCond .ne 7, 3) := by decide +kernel
theorem dX1_halfRound_46 : decode cX1_halfRound 46 = .ok (.iload_n 3, 1) := by decide +kernel
theorem dX1_halfRound_47 : decode cX1_halfRound 47 = .ok (.goto 7, 3) := by decide +kernel
theorem dX1_halfRound_50 : decode cX1_halfRound 50 = .ok (.iload 4, 2) := by decide +kernel
theorem dX1_halfRound_52 : decode cX1_halfRound 52 = .ok (.iconst 1, 1) := by decide +kernel
theorem dX1_halfRound_53 : decode cX1_halfRound 53 = .ok (.isub, 1) := by decide +kernel
theorem dX1_halfRound_54 : decode cX1_halfRound 54 = .ok (.ireturn, 1) := by decide +kernel
set_option maxRecDepth 20000 in
theorem ggX1_seasonSide_X1_halfRound : GoodIn wsX1_seasonSide wsX1_halfRound := goodIn_r _ [6, 1, 19, 20, 21, 22, 23, 24, 25] (by decide +kernel) (by decide +kernel)
set_option maxRecDepth 20000 in
theorem gX1_seasonSide_X1_halfRound : GoodIn wsX1_seasonSide (wsV RX1 98 RX1 yX1_halfRound wsX1_halfRound) := goodIn_app (goodIn_of _ (by decide +kernel)) ggX1_seasonSide_X1_halfRound
set_option maxRecDepth 20000 in
theorem ggX1_seasonSide_X1_sideOf : GoodIn wsX1_seasonSide wsX1_sideOf := goodIn_r _ [10, 11, 12, 13, 14, 5, 15, 1, 16, 17, 18, 19, 20, 21, 22, 23, 24, 25] (by decide +kernel) (by decide +kernel)
set_option maxRecDepth 20000 in
theorem gX1_seasonSide_X1_sideOf : GoodIn wsX1_seasonSide (wsV RX1 68 RX1 yX1_sideOf wsX1_sideOf) := goodIn_app (goodIn_of _ (by decide +kernel)) ggX1_seasonSide_X1_sideOf
theorem dX1_seasonSide_0 : decode cX1_seasonSide 0 = .ok (.aload_n 0, 1) := by decide +kernel
theorem dX1_seasonSide_1 : decode cX1_seasonSide 1 = .ok (.iload_n 1, 1) := by decide +kernel
theorem dX1_seasonSide_2 : decode cX1_seasonSide 2 = .ok (.aload_n 0, 1) := by decide +kernel
theorem dX1_seasonSide_3 : decode cX1_seasonSide 3 = .ok (.iload_n 2, 1) := by decide +kernel
theorem dX1_seasonSide_4 : decode cX1_seasonSide 4 = .ok (.iload_n 3, 1) := by decide +kernel
theorem dX1_seasonSide_5 : decode cX1_seasonSide 5 = .ok (.invokevirtual 98, 3) := by decide +kernel
theorem dX1_seasonSide_8 : decode cX1_seasonSide 8 = .ok (.invokevirtual 68, 3) := by decide +kernel
theorem dX1_seasonSide_11 : decode cX1_seasonSide 11 = .ok (.istore 4, 2) := by decide +kernel
theorem dX1_seasonSide_13 : decode cX1_seasonSide 13 = .ok (.iload_n 2, 1) := by decide +kernel
theorem dX1_seasonSide_14 : decode cX1_seasonSide 14 = .ok (.aload_n 0, 1) := by decide +kernel
theorem dX1_seasonSide_15 : decode cX1_seasonSide 15 = .ok (.getfield 30, 3) := by decide +kernel
theorem dX1_seasonSide_18 : decode cX1_seasonSide 18 = .ok (.iconst 1, 1) := by decide +kernel
theorem dX1_seasonSide_19 : decode cX1_seasonSide 19 = .ok (.isub, 1) := by decide +kernel
theorem dX1_seasonSide_20 : decode cX1_seasonSide 20 = .ok (.if_icmp .ge 8, 3) := by decide +kernel
theorem dX1_seasonSide_23 : decode cX1_seasonSide 23 = .ok (.iload 4, 2) := by decide +kernel
theorem dX1_seasonSide_25 : decode cX1_seasonSide 25 = .ok (.goto 7, 3) := by decide +kernel
theorem dX1_seasonSide_28 : decode cX1_seasonSide 28 = .ok (.iconst 1, 1) := by decide +kernel
theorem dX1_seasonSide_29 : decode cX1_seasonSide 29 = .ok (.iload 4, 2) := by decide +kernel
theorem dX1_seasonSide_31 : decode cX1_seasonSide 31 = .ok (.isub, 1) := by decide +kernel
theorem dX1_seasonSide_32 : decode cX1_seasonSide 32 = .ok (.ireturn, 1) := by decide +kernel
set_option maxRecDepth 20000 in
theorem ggX1_seasonBreaks_X1_seasonLength : GoodIn wsX1_seasonBreaks wsX1_seasonLength := goodIn_r _ [5, 6, 27, 28, 29, 30, 31, 32, 33] (by decide +kernel) (by decide +kernel)
set_option maxRecDepth 20000 in
theorem gX1_seasonBreaks_X1_seasonLength : GoodIn wsX1_seasonBreaks (wsV RX1 94 RX1 yX1_seasonLength wsX1_seasonLength) := goodIn_app (goodIn_of _ (by decide +kernel)) ggX1_seasonBreaks_X1_seasonLength
set_option maxRecDepth 20000 in
theorem ggX1_seasonBreaks_X1_seasonSide : GoodIn wsX1_seasonBreaks wsX1_seasonSide := goodIn_r _ [10, 6, 11, 12, 13, 4, 14, 15, 16, 17, 18, 19, 20, 21, 22, 23, 24, 25, 26, 27, 28, 29, 30, 31, 32, 33] (by decide +kernel) (by decide +kernel)
set_option maxRecDepth 20000 in
theorem gX1_seasonBreaks_X1_seasonSide : GoodIn wsX1_seasonBreaks (wsV RX1 101 RX1 yX1_seasonSide wsX1_seasonSide) := goodIn_app (goodIn_of _ (by decide +kernel)) ggX1_seasonBreaks_X1_seasonSide
theorem dX1_seasonBreaks_0 : decode cX1_seasonBreaks 0 = .ok (.iconst 0, 1) := by decide +kernel
theorem dX1_seasonBreaks_1 : decode cX1_seasonBreaks 1 = .ok (.istore_n 3, 1) := by decide +kernel
theorem dX1_seasonBreaks_2 : decode cX1_seasonBreaks 2 = .ok (.iconst 0, 1) := by decide +kernel
theorem dX1_seasonBreaks_3 : decode cX1_seasonBreaks 3 = .ok (.istore 4, 2) := by decide +kernel
theorem dX1_seasonBreaks_5 : decode cX1_seasonBreaks 5 = .ok (.iload 4, 2) := by decide +kernel
theorem dX1_seasonBreaks_7 : decode cX1_seasonBreaks 7 = .ok (.iconst 1, 1) := by decide +kernel
theorem dX1_seasonBreaks_8 : decode cX1_seasonBreaks 8 = .ok (.iadd, 1) := by decide +kernel
theorem dX1_seasonBreaks_9 : decode cX1_seasonBreaks 9 = .ok (.aload_n 0, 1) := by decide +kernel
theorem dX1_seasonBreaks_10 : decode cX1_seasonBreaks 10 = .ok (.invokevirtual 94, 3) := by decide +kernel
theorem dX1_seasonBreaks_13 : decode cX1_seasonBreaks 13 = .ok (.if_icmp .ge 33, 3) := by decide +kernel
theorem dX1_seasonBreaks_16 : decode cX1_seasonBreaks 16 = .ok (.aload_n 0, 1) := by decide +kernel
theorem dX1_seasonBreaks_17 : decode cX1_seasonBreaks 17 = .ok (.iload_n 1, 1) := by decide +kernel
theorem dX1_seasonBreaks_18 : decode cX1_seasonBreaks 18 = .ok (.iload 4, 2) := by decide +kernel
theorem dX1_seasonBreaks_20 : decode cX1_seasonBreaks 20 = .ok (.iload_n 2, 1) := by decide +kernel
theorem dX1_seasonBreaks_21 : decode cX1_seasonBreaks 21 = .ok (.invokevirtual 101, 3) := by decide +kernel
theorem dX1_seasonBreaks_24 : decode cX1_seasonBreaks 24 = .ok (.aload_n 0, 1) := by decide +kernel
theorem dX1_seasonBreaks_25 : decode cX1_seasonBreaks 25 = .ok (.iload_n 1, 1) := by decide +kernel
theorem dX1_seasonBreaks_26 : decode cX1_seasonBreaks 26 = .ok (.iload 4, 2) := by decide +kernel
theorem dX1_seasonBreaks_28 : decode cX1_seasonBreaks 28 = .ok (.iconst 1, 1) := by decide +kernel
theorem dX1_seasonBreaks_29 : decode cX1_seasonBreaks 29 = .ok (.iadd, 1) := by decide +kernel
theorem dX1_seasonBreaks_30 : decode cX1_seasonBreaks 30 = .ok (.iload_n 2, 1) := by decide +kernel
theorem dX1_seasonBreaks_31 : decode cX1_seasonBreaks 31 = .ok (.invokevirtual 101, 3) := by decide +kernel
theorem dX1_seasonBreaks_34 : decode cX1_seasonBreaks 34 = .ok (.if_icmp .ne 6, 3) := by decide +kernel
theorem dX1_seasonBreaks_37 : decode cX1_seasonBreaks 37 = .ok (.iinc 3 1, 3) := by decide +kernel
theorem dX1_seasonBreaks_40 : decode cX1_seasonBreaks 40 = .ok (.iinc 4 1, 3) := by decide +kernel
theorem dX1_seasonBreaks_43 : decode cX1_seasonBreaks 43 = .ok (.goto (-38), 3) := by decide +kernel
theorem dX1_seasonBreaks_46 : decode cX1_seasonBreaks 46 = .ok (.iload_n 3, 1) := by decide +kernel
theorem dX1_seasonBreaks_47 : decode cX1_seasonBreaks 47 = .ok (.ireturn, 1) := by decide +kernel
set_option maxRecDepth 20000 in
theorem ggX1_allSeasonBreaks_X1_seasonBreaks : GoodIn wsX1_allSeasonBreaks wsX1_seasonBreaks := goodIn_r _ [6, 7, 8, 9, 5, 10, 1, 11, 12, 13, 14, 15, 16, 17, 18, 19, 20, 21, 22, 23, 24, 25, 26, 27, 28, 29, 30, 31, 32, 33, 34, 35, 36, 37] (by decide +kernel) (by decide +kernel)
set_option maxRecDepth 20000 in
theorem gX1_allSeasonBreaks_X1_seasonBreaks : GoodIn wsX1_allSeasonBreaks (wsV RX1 104 RX1 yX1_seasonBreaks wsX1_seasonBreaks) := goodIn_app (goodIn_of _ (by decide +kernel)) ggX1_allSeasonBreaks_X1_seasonBreaks
theorem dX1_allSeasonBreaks_0 : decode cX1_allSeasonBreaks 0 = .ok (.iconst 0, 1) := by decide +kernel
theorem dX1_allSeasonBreaks_1 : decode cX1_allSeasonBreaks 1 = .ok (.istore_n 2, 1) := by decide +kernel
theorem dX1_allSeasonBreaks_2 : decode cX1_allSeasonBreaks 2 = .ok (.iconst 0, 1) := by decide +kernel
theorem dX1_allSeasonBreaks_3 : decode cX1_allSeasonBreaks 3 = .ok (.istore_n 3, 1) := by decide +kernel
theorem dX1_allSeasonBreaks_4 : decode cX1_allSeasonBreaks 4 = .ok (.iload_n 3, 1) := by decide +kernel
theorem dX1_allSeasonBreaks_5 : decode cX1_allSeasonBreaks 5 = .ok (.aload_n 0, 1) := by decide +kernel
theorem dX1_allSeasonBreaks_6 : decode cX1_allSeasonBreaks 6 = .ok (.getfield 30, 3) := by decide +kernel
theorem dX1_allSeasonBreaks_9 : decode cX1_allSeasonBreaks 9 = .ok (.if_icmp .ge 18, 3) := by decide +kernel
theorem dX1_allSeasonBreaks_12 : decode cX1_allSeasonBreaks 12 = .ok (.iload_n 2, 1) := by decide +kernel
theorem dX1_allSeasonBreaks_13 : decode cX1_allSeasonBreaks 13 = .ok (.aload_n 0, 1) := by decide +kernel
theorem dX1_allSeasonBreaks_14 : decode cX1_allSeasonBreaks 14 = .ok (.iload_n 3, 1) := by decide +kernel
theorem dX1_allSeasonBreaks_15 : decode cX1_allSeasonBreaks 15 = .ok (.iload_n 1, 1) := by decide +kernel
theorem dX1_allSeasonBreaks_16 : decode cX1_allSeasonBreaks 16 = .ok (.invokevirtual 104, 3) := by decide +kernel
theorem dX1_allSeasonBreaks_19 : decode cX1_allSeasonBreaks 19 = .ok (.iadd, 1) := by decide +kernel
theorem dX1_allSeasonBreaks_20 : decode cX1_allSeasonBreaks 20 = .ok (.istore_n 2, 1) := by decide +kernel
theorem dX1_allSeasonBreaks_21 : decode cX1_allSeasonBreaks 21 = .ok (.iinc 3 1, 3) := by decide +kernel
theorem dX1_allSeasonBreaks_24 : decode cX1_allSeasonBreaks 24 = .ok (.goto (-20), 3) := by decide +kernel
theorem dX1_allSeasonBreaks_27 : decode cX1_allSeasonBreaks 27 = .ok (.iload_n 2, 1) := by decide +kernel
theorem dX1_allSeasonBreaks_28 : decode cX1_allSeasonBreaks 28 = .ok (.ireturn, 1) := by decide +kernel
theorem dX2_init_0 : decode cX2_init 0 = .ok (.aload_n 0, 1) := by decide +kernel
theorem dX2_init_1 : decode cX2_init 1 = .ok (.invokespecial 3, 3) := by decide +kernel
theorem dX2_init_4 : decode cX2_init 4 = .ok (.aload_n 0, 1) := by decide +kernel
theorem dX2_init_5 : decode cX2_init 5 = .ok (.bipush 48, 2) := by decide +kernel
theorem dX2_init_7 : decode cX2_init 7 = .ok (.newarray .int, 2) := by decide +kernel
theorem dX2_init_9 : decode cX2_init 9 = .ok (.putfield 11, 3) := by decide +kernel
theorem dX2_init_12 : decode cX2_init 12 = .ok (.aload_n 0, 1) := by decide +kernel
theorem dX2_init_13 : decode cX2_init 13 = .ok (.iload_n 1, 1) := by decide +kernel
theorem dX2_init_14 : decode cX2_init 14 = .ok (.bipush 12, 2) := by decide +kernel
theorem dX2_init_16 : decode cX2_init 16 = .ok (.invokestatic 15, 3) := by decide +kernel
theorem dX2_init_19 : decode cX2_init 19 = .ok (.putfield 21, 3) := by decide +kernel
theorem dX2_init_22 : decode cX2_init 22 = .ok (.return_, 1) := by decide +kernel
theorem dX2_empty_0 : decode cX2_empty 0 = .ok (.aload_n 0, 1) := by decide +kernel
theorem dX2_empty_1 : decode cX2_empty 1 = .ok (.iconst 0, 1) := by decide +kernel
theorem dX2_empty_2 : decode cX2_empty 2 = .ok (.putfield 25, 3) := by decide +kernel
theorem dX2_empty_5 : decode cX2_empty 5 = .ok (.return_, 1) := by decide +kernel
theorem dX2_isFull_0 : decode cX2_isFull 0 = .ok (.aload_n 0, 1) := by decide +kernel
theorem dX2_isFull_1 : decode cX2_isFull 1 = .ok (.getfield 25, 3) := by decide +kernel
theorem dX2_isFull_4 : decode cX2_isFull 4 = .ok (.aload_n 0, 1) := by decide +kernel
theorem dX2_isFull_5 : decode cX2_isFull 5 = .ok (.getfield 21, 3) := by decide +kernel
theorem dX2_isFull_8 : decode cX2_isFull 8 = .ok (.if_icmp .lt 7, 3) := by decide +kernel
theorem dX2_isFull_11 : decode cX2_isFull 11 = .ok (.iconst 1, 1) := by decide +kernel
theorem dX2_isFull_12 : decode cX2_isFull 12 = .ok (.goto 4, 3) := by decide +kernel
theorem dX2_isFull_15 : decode cX2_isFull 15 = .ok (.iconst 0, 1) := by decide +kernel
theorem dX2_isFull_16 : decode cX2_isFull 16 = .ok (.ireturn, 1) := by decide +kernel
set_option maxRecDepth 20000 in
theorem ggX2_add_X2_isFull : GoodIn wsX2_add wsX2_isFull := goodIn_r _ [7, 1, 8, 9, 10, 11] (by decide +kernel) (by decide +kernel)
set_option maxRecDepth 20000 in
theorem gX2_add_X2_isFull : GoodIn wsX2_add (wsV RX2 28 RX2 yX2_isFull wsX2_isFull) := goodIn_app (goodIn_of _ (by decide +kernel)) ggX2_add_X2_isFull
theorem dX2_add_0 : decode cX2_add 0 = .ok (.aload_n 0, 1) := by decide +kernel
theorem dX2_add_1 : decode cX2_add 1 = .ok (.invokevirtual 28, 3) := by decide +kernel
theorem dX2_add_4 : decode cX2_add 4 = .ok (.ifCond .eq 4, 3) := by decide +kernel
theorem dX2_add_7 : decode cX2_add 7 = .ok (.return_, 1) := by decide +kernel
theorem dX2_add_8 : decode cX2_add 8 = .ok (.aload_n 0, 1) := by decide +kernel
theorem dX2_add_9 : decode cX2_add 9 = .ok (.getfield 25, 3) := by decide +kernel
theorem dX2_add_12 : decode cX2_add 12 = .ok (.iconst 4, 1) := by decide +kernel
theorem dX2_add_13 : decode cX2_add 13 = .ok (.imul, 1) := by decide +kernel
theorem dX2_add_14 : decode cX2_add 14 = .ok (.istore 5, 2) := by decide +kernel
theorem dX2_add_16 : decode cX2_add 16 = .ok (.aload_n 0, 1) := by decide +kernel
theorem dX2_add_17 : decode cX2_add 17 = .ok (.getfield 11, 3) := by decide +kernel
theorem dX2_add_20 : decode cX2_add 20 = .ok (.iload 5, 2) := by decide +kernel
theorem dX2_add_22 : decode cX2_add 22 = .ok (.iload_n 1, 1) := by decide +kernel
theorem dX2_add_23 : decode cX2_add 23 = .ok (.iastore, 1) := by decide +kernel
theorem dX2_add_24 : decode cX2_add 24 = .ok (.aload_n 0, 1) := by decide +kernel
theorem dX2_add_25 : decode cX2_add 25 = .ok (.getfield 11, 3) := by decide +kernel
theorem dX2_add_28 : decode cX2_add 28 = .ok (.iload 5, 2) := by decide +kernel
theorem dX2_add_30 : decode cX2_add 30 = .ok (.iconst 1, 1) := by decide +kernel
theorem dX2_add_31 : decode cX2_add 31 = .ok (.iadd, 1) := by decide +kernel
theorem dX2_add_32 : decode cX2_add 32 = .ok (.iload_n 2, 1) := by decide +kernel
theorem dX2_add_33 : decode cX2_add 33 = .ok (.iastore, 1) := by decide +kernel
theorem dX2_add_34 : decode cX2_add 34 = .ok (.aload_n 0, 1) := by decide +kernel
theorem dX2_add_35 : decode cX2_add 35 = .ok (.getfield 11, 3) := by decide +kernel
theorem dX2_add_38 : decode cX2_add 38 = .ok (.iload 5, 2) := by decide +kernel
theorem dX2_add_40 : decode cX2_add 40 = .ok (.iconst 2, 1) := by decide +kernel
theorem dX2_add_41 : decode cX2_add 41 = .ok (.iadd, 1) := by decide +kernel
theorem dX2_add_42 : decode cX2_add 42 = .ok (.iload_n 3, 1) := by decide +kernel
theorem dX2_add_43 : decode cX2_add 43 = .ok (.iastore, 1) := by decide +kernel
theorem dX2_add_44 : decode cX2_add 44 = .ok (.aload_n 0, 1) := by decide +kernel
theorem dX2_add_45 : decode cX2_add 45 = .ok (.getfield 11, 3) := by decide +kernel
theorem dX2_add_48 : decode cX2_add 48 = .ok (.iload 5, 2) := by decide +kernel
theorem dX2_add_50 : decode cX2_add 50 = .ok (.iconst 3, 1) := by decide +kernel
theorem dX2_add_51 : decode cX2_add 51 = .ok (.iadd, 1) := by decide +kernel
theorem dX2_add_52 : decode cX2_add 52 = .ok (.iload 4, 2) := by decide +kernel
theorem dX2_add_54 : decode cX2_add 54 = .ok (.iastore, 1) := by decide +kernel
theorem dX2_add_55 : decode cX2_add 55 = .ok (.aload_n 0, 1) := by decide +kernel
theorem dX2_add_56 : decode cX2_add 56 = .ok (.dup, 1) := by decide +kernel
theorem dX2_add_57 : decode cX2_add 57 = .ok (.getfield 25, 3) := by decide +kernel
theorem dX2_add_60 : decode cX2_add 60 = .ok (.iconst 1, 1) := by decide +kernel
theorem dX2_add_61 : decode cX2_add 61 = .ok (.iadd, 1) := by decide +kernel
theorem dX2_add_62 : decode cX2_add 62 = .ok (.putfield 25, 3) := by decide +kernel
theorem dX2_add_65 : decode cX2_add 65 = .ok (.return_, 1) := by decide +kernel
theorem dX2_at_0 : decode cX2_at 0 = .ok (.iload_n 1, 1) := by decide +kernel
theorem dX2_at_1 : decode cX2_at 1 = .ok (.ifCond .lt 20, 3) := by decide +kernel
theorem dX2_at_4 : decode cX2_at 4 = .ok (.iload_n 1, 1) := by decide +kernel
theorem dX2_at_5 : decode cX2_at 5 = .ok (.aload_n 0, 1) := by decide +kernel
theorem dX2_at_6 : decode cX2_at 6 = .ok (.getfield 25, 3) := by decide +kernel
theorem dX2_at_9 : decode cX2_at 9 = .ok (.if_icmp .ge 12, 3) := by decide +kernel
theorem dX2_at_12 : decode cX2_at 12 = .ok (.iload_n 2, 1) := by decide +kernel
theorem dX2_at_13 : decode cX2_at 13 = .ok (.ifCond .lt 8, 3) := by decide +kernel
theorem dX2_at_16 : decode cX2_at 16 = .ok (.iload_n 2, 1) := by decide +kernel
theorem dX2_at_17 : decode cX2_at 17 = .ok (.iconst 4, 1) := by decide +kernel
theorem dX2_at_18 : decode cX2_at 18 = .ok (.if_icmp .lt 5, 3) := by decide +kernel
theorem dX2_at_21 : decode cX2_at 21 = .ok (.iconst 0, 1) := by decide +kernel
theorem dX2_at_22 : decode cX2_at 22 = .ok (.ireturn, 1) := by decide +kernel
theorem dX2_at_23 : decode cX2_at 23 = .ok (.aload_n 0, 1) := by decide +kernel
theorem dX2_at_24 : decode cX2_at 24 = .ok (.getfield 11, 3) := by decide +kernel
theorem dX2_at_27 : decode cX2_at 27 = .ok (.iload_n 1, 1) := by decide +kernel
theorem dX2_at_28 : decode cX2_at 28 = .ok (.iconst 4, 1) := by decide +kernel
theorem dX2_at_29 : decode cX2_at 29 = .ok (.imul, 1) := by decide +kernel
theorem dX2_at_30 : decode cX2_at 30 = .ok (.iload_n 2, 1) := by decide +kernel
theorem dX2_at_31 : decode cX2_at 31 = .ok (.iadd, 1) := by decide +kernel
theorem dX2_at_32 : decode cX2_at 32 = .ok (.iaload, 1) := by decide +kernel
theorem dX2_at_33 : decode cX2_at 33 = .ok (.ireturn, 1) := by decide +kernel
theorem dX2_become_0 : decode cX2_become 0 = .ok (.aload_n 0, 1) := by decide +kernel
theorem dX2_become_1 : decode cX2_become 1 = .ok (.aload_n 1, 1) := by decide +kernel
theorem dX2_become_2 : decode cX2_become 2 = .ok (.getfield 25, 3) := by decide +kernel
theorem dX2_become_5 : decode cX2_become 5 = .ok (.aload_n 0, 1) := by decide +kernel
theorem dX2_become_6 : decode cX2_become 6 = .ok (.getfield 21, 3) := by decide +kernel
theorem dX2_become_9 : decode cX2_become 9 = .ok (.invokestatic 15, 3) := by decide +kernel
theorem dX2_become_12 : decode cX2_become 12 = .ok (.putfield 25, 3) := by decide +kernel
theorem dX2_become_15 : decode cX2_become 15 = .ok (.aload_n 1, 1) := by decide +kernel
theorem dX2_become_16 : decode cX2_become 16 = .ok (.getfield 11, 3) := by decide +kernel
theorem dX2_become_19 : decode cX2_become 19 = .ok (.iconst 0, 1) := by decide +kernel
theorem dX2_become_20 : decode cX2_become 20 = .ok (.aload_n 0, 1) := by decide +kernel
theorem dX2_become_21 : decode cX2_become 21 = .ok (.getfield 11, 3) := by decide +kernel
theorem dX2_become_24 : decode cX2_become 24 = .ok (.iconst 0, 1) := by decide +kernel
theorem dX2_become_25 : decode cX2_become 25 = .ok (.aload_n 0, 1) := by decide +kernel
theorem dX2_become_26 : decode cX2_become 26 = .ok (.getfield 11, 3) := by decide +kernel
theorem dX2_become_29 : decode cX2_become 29 = .ok (.arraylength, 1) := by decide +kernel
theorem dX2_become_30 : decode cX2_become 30 = .ok (.invokestatic 32, 3) := by decide +kernel
theorem dX2_become_33 : decode cX2_become 33 = .ok (.return_, 1) := by decide +kernel
