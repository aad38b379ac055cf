set_option maxRecDepth 20000 in
theorem ggX8_init_X8_circles : GoodIn wsX8_init wsX8_circles := goodIn_r _ [20, 5, 21, 22, 23, 19, 24, 25, 26, 27, 28, 29, 30, 31, 32, 33, 34, 35, 36, 37, 38, 39, 40, 41, 42, 43] (by decide +kernel) (by decide +kernel)
set_option maxRecDepth 20000 in
theorem gX8_init_X8_circles : GoodIn wsX8_init (wsV RX8 43 RX8 yX8_circles wsX8_circles) := goodIn_app (goodIn_of _ (by decide +kernel)) ggX8_init_X8_circles
theorem dX8_init_0 : decode cX8_init 0 = .ok (.aload_n 0, 1) := by decide +kernel
theorem dX8_init_1 : decode cX8_init 1 = .ok (.invokespecial 3, 3) := by decide +kernel
theorem dX8_init_4 : decode cX8_init 4 = .ok (.aload_n 0, 1) := by decide +kernel
theorem dX8_init_5 : decode cX8_init 5 = .ok (.sipush 137, 3) := by decide +kernel
theorem dX8_init_8 : decode cX8_init 8 = .ok (.newarray .int, 2) := by decide +kernel
theorem dX8_init_10 : decode cX8_init 10 = .ok (.putfield 11, 3) := by decide +kernel
theorem dX8_init_13 : decode cX8_init 13 = .ok (.aload_n 0, 1) := by decide +kernel
theorem dX8_init_14 : decode cX8_init 14 = .ok (.sipush 137, 3) := by decide +kernel
theorem dX8_init_17 : decode cX8_init 17 = .ok (.newarray .int, 2) := by decide +kernel
theorem dX8_init_19 : decode cX8_init 19 = .ok (.putfield 15, 3) := by decide +kernel
theorem dX8_init_22 : decode cX8_init 22 = .ok (.aload_n 0, 1) := by decide +kernel
theorem dX8_init_23 : decode cX8_init 23 = .ok (.sipush 137, 3) := by decide +kernel
theorem dX8_init_26 : decode cX8_init 26 = .ok (.newarray .int, 2) := by decide +kernel
theorem dX8_init_28 : decode cX8_init 28 = .ok (.putfield 18, 3) := by decide +kernel
theorem dX8_init_31 : decode cX8_init 31 = .ok (.aload_n 0, 1) := by decide +kernel
theorem dX8_init_32 : decode cX8_init 32 = .ok (.bipush 100, 2) := by decide +kernel
theorem dX8_init_34 : decode cX8_init 34 = .ok (.newarray .int, 2) := by decide +kernel
theorem dX8_init_36 : decode cX8_init 36 = .ok (.putfield 21, 3) := by decide +kernel
theorem dX8_init_39 : decode cX8_init 39 = .ok (.aload_n 0, 1) := by decide +kernel
theorem dX8_init_40 : decode cX8_init 40 = .ok (.bipush 12, 2) := by decide +kernel
theorem dX8_init_42 : decode cX8_init 42 = .ok (.newarray .int, 2) := by decide +kernel
theorem dX8_init_44 : decode cX8_init 44 = .ok (.putfield 24, 3) := by decide +kernel
theorem dX8_init_47 : decode cX8_init 47 = .ok (.aload_n 0, 1) := by decide +kernel
theorem dX8_init_48 : decode cX8_init 48 = .ok (.bipush 36, 2) := by decide +kernel
theorem dX8_init_50 : decode cX8_init 50 = .ok (.newarray .int, 2) := by decide +kernel
theorem dX8_init_52 : decode cX8_init 52 = .ok (.putfield 27, 3) := by decide +kernel
theorem dX8_init_55 : decode cX8_init 55 = .ok (.aload_n 0, 1) := by decide +kernel
theorem dX8_init_56 : decode cX8_init 56 = .ok (.bipush 6, 2) := by decide +kernel
theorem dX8_init_58 : decode cX8_init 58 = .ok (.newarray .int, 2) := by decide +kernel
theorem dX8_init_60 : decode cX8_init 60 = .ok (.dup, 1) := by decide +kernel
theorem dX8_init_61 : decode cX8_init 61 = .ok (.iconst 0, 1) := by decide +kernel
theorem dX8_init_62 : decode cX8_init 62 = .ok (.iconst (-1), 1) := by decide +kernel
theorem dX8_init_63 : decode cX8_init 63 = .ok (.iastore, 1) := by decide +kernel
theorem dX8_init_64 : decode cX8_init 64 = .ok (.dup, 1) := by decide +kernel
theorem dX8_init_65 : decode cX8_init 65 = .ok (.iconst 1, 1) := by decide +kernel
theorem dX8_init_66 : decode cX8_init 66 = .ok (.iconst (-1), 1) := by decide +kernel
theorem dX8_init_67 : decode cX8_init 67 = .ok (.iastore, 1) := by decide +kernel
theorem dX8_init_68 : decode cX8_init 68 = .ok (.dup, 1) := by decide +kernel
theorem dX8_init_69 : decode cX8_init 69 = .ok (.iconst 2, 1) := by decide +kernel
theorem dX8_init_70 : decode cX8_init 70 = .ok (.iconst (-1), 1) := by decide +kernel
theorem dX8_init_71 : decode cX8_init 71 = .ok (.iastore, 1) := by decide +kernel
theorem dX8_init_72 : decode cX8_init 72 = .ok (.dup, 1) := by decide +kernel
theorem dX8_init_73 : decode cX8_init 73 = .ok (.iconst 3, 1) := by decide +kernel
theorem dX8_init_74 : decode cX8_init 74 = .ok (.iconst (-1), 1) := by decide +kernel
theorem dX8_init_75 : decode cX8_init 75 = .ok (.iastore, 1) := by decide +kernel
theorem dX8_init_76 : decode cX8_init 76 = .ok (.dup, 1) := by decide +kernel
theorem dX8_init_77 : decode cX8_init 77 = .ok (.iconst 4, 1) := by decide +kernel
theorem dX8_init_78 : decode cX8_init 78 = .ok (.iconst (-1), 1) := by decide +kernel
theorem dX8_init_79 : decode cX8_init 79 = .ok (.iastore, 1) := by decide +kernel
theorem dX8_init_80 : decode cX8_init 80 = .ok (.dup, 1) := by decide +kernel
theorem dX8_init_81 : decode cX8_init 81 = .ok (.iconst 5, 1) := by decide +kernel
theorem dX8_init_82 : decode cX8_init 82 = .ok (.iconst (-1), 1) := by decide +kernel
theorem dX8_init_83 : decode cX8_init 83 = .ok (.iastore, 1) := by decide +kernel
theorem dX8_init_84 : decode cX8_init 84 = .ok (.putfield 30, 3) := by decide +kernel
theorem dX8_init_87 : decode cX8_init 87 = .ok (.aload_n 0, 1) := by decide +kernel
theorem dX8_init_88 : decode cX8_init 88 = .ok (.bipush 6, 2) := by decide +kernel
theorem dX8_init_90 : decode cX8_init 90 = .ok (.newarray .int, 2) := by decide +kernel
theorem dX8_init_92 : decode cX8_init 92 = .ok (.putfield 33, 3) := by decide +kernel
theorem dX8_init_95 : decode cX8_init 95 = .ok (.aload_n 0, 1) := by decide +kernel
theorem dX8_init_96 : decode cX8_init 96 = .ok (.sipush 360, 3) := by decide +kernel
theorem dX8_init_99 : decode cX8_init 99 = .ok (.newarray .long, 2) := by decide +kernel
theorem dX8_init_101 : decode cX8_init 101 = .ok (.putfield 36, 3) := by decide +kernel
theorem dX8_init_104 : decode cX8_init 104 = .ok (.aload_n 0, 1) := by decide +kernel
theorem dX8_init_105 : decode cX8_init 105 = .ok (.bipush 60, 2) := by decide +kernel
theorem dX8_init_107 : decode cX8_init 107 = .ok (.newarray .long, 2) := by decide +kernel
theorem dX8_init_109 : decode cX8_init 109 = .ok (.putfield 40, 3) := by decide +kernel
theorem dX8_init_112 : decode cX8_init 112 = .ok (.aload_n 0, 1) := by decide +kernel
theorem dX8_init_113 : decode cX8_init 113 = .ok (.getfield 11, 3) := by decide +kernel
theorem dX8_init_116 : decode cX8_init 116 = .ok (.iconst 5, 1) := by decide +kernel
theorem dX8_init_117 : decode cX8_init 117 = .ok (.bipush 10, 2) := by decide +kernel
theorem dX8_init_119 : decode cX8_init 119 = .ok (.iastore, 1) := by decide +kernel
theorem dX8_init_120 : decode cX8_init 120 = .ok (.aload_n 0, 1) := by decide +kernel
theorem dX8_init_121 : decode cX8_init 121 = .ok (.getfield 11, 3) := by decide +kernel
theorem dX8_init_124 : decode cX8_init 124 = .ok (.bipush 6, 2) := by decide +kernel
theorem dX8_init_126 : decode cX8_init 126 = .ok (.bipush 50, 2) := by decide +kernel
theorem dX8_init_128 : decode cX8_init 128 = .ok (.iastore, 1) := by decide +kernel
theorem dX8_init_129 : decode cX8_init 129 = .ok (.aload_n 0, 1) := by decide +kernel
theorem dX8_init_130 : decode cX8_init 130 = .ok (.getfield 11, 3) := by decide +kernel
theorem dX8_init_133 : decode cX8_init 133 = .ok (.bipush 7, 2) := by decide +kernel
theorem dX8_init_135 : decode cX8_init 135 = .ok (.iconst 1, 1) := by decide +kernel
theorem dX8_init_136 : decode cX8_init 136 = .ok (.iastore, 1) := by decide +kernel
theorem dX8_init_137 : decode cX8_init 137 = .ok (.aload_n 0, 1) := by decide +kernel
theorem dX8_init_138 : decode cX8_init 138 = .ok (.iconst 4, 1) := by decide +kernel
theorem dX8_init_139 : decode cX8_init 139 = .ok (.invokevirtual 43, 3) := by decide +kernel
theorem dX8_init_142 : decode cX8_init 142 = .ok (.return_, 1) := by decide +kernel
theorem dX8_isIn_0 : decode cX8_isIn 0 = .ok (.iload_n 0, 1) := by decide +kernel
theorem dX8_isIn_1 : decode cX8_isIn 1 = .ok (.iload_n 1, 1) := by decide +kernel
theorem dX8_isIn_2 : decode cX8_isIn 2 = .ok (.if_icmp .lt 12, 3) := by decide +kernel
theorem dX8_isIn_5 : decode cX8_isIn 5 = .ok (.iload_n 0, 1) := by decide +kernel
theorem dX8_isIn_6 : decode cX8_isIn 6 = .ok (.iload_n 2, 1) := by decide +kernel
theorem dX8_isIn_7 : decode cX8_isIn 7 = .ok (.if_icmp .gt 7, 3) := by decide +kernel
theorem dX8_isIn_10 : decode cX8_isIn 10 = .ok (.iconst 1, 1) := by decide +kernel
theorem dX8_isIn_11 : decode cX8_isIn 11 = .ok (.goto 4, 3) := by decide +kernel
theorem dX8_isIn_14 : decode cX8_isIn 14 = .ok (.iconst 0, 1) := by decide +kernel
theorem dX8_isIn_15 : decode cX8_isIn 15 = .ok (.ireturn, 1) := by decide +kernel
theorem dX8_copies_0 : decode cX8_copies 0 = .ok (.iconst 0, 1) := by decide +kernel
theorem dX8_copies_1 : decode cX8_copies 1 = .ok (.istore_n 2, 1) := by decide +kernel
theorem dX8_copies_2 : decode cX8_copies 2 = .ok (.iload_n 2, 1) := by decide +kernel
theorem dX8_copies_3 : decode cX8_copies 3 = .ok (.sipush 137, 3) := by decide +kernel
theorem dX8_copies_6 : decode cX8_copies 6 = .ok (.if_icmp .ge 15, 3) := by decide +kernel
theorem dX8_copies_9 : decode cX8_copies 9 = .ok (.aload_n 1, 1) := by decide +kernel
theorem dX8_copies_10 : decode cX8_copies 10 = .ok (.iload_n 2, 1) := by decide +kernel
theorem dX8_copies_11 : decode cX8_copies 11 = .ok (.aload_n 0, 1) := by decide +kernel
theorem dX8_copies_12 : decode cX8_copies 12 = .ok (.iload_n 2, 1) := by decide +kernel
theorem dX8_copies_13 : decode cX8_copies 13 = .ok (.iaload, 1) := by decide +kernel
theorem dX8_copies_14 : decode cX8_copies 14 = .ok (.iastore, 1) := by decide +kernel
theorem dX8_copies_15 : decode cX8_copies 15 = .ok (.iinc 2 1, 3) := by decide +kernel
theorem dX8_copies_18 : decode cX8_copies 18 = .ok (.goto (-16), 3) := by decide +kernel
theorem dX8_copies_21 : decode cX8_copies 21 = .ok (.return_, 1) := by decide +kernel
theorem dX8_rounds_0 : decode cX8_rounds 0 = .ok (.aload_n 0, 1) := by decide +kernel
theorem dX8_rounds_1 : decode cX8_rounds 1 = .ok (.getfield 11, 3) := by decide +kernel
theorem dX8_rounds_4 : decode cX8_rounds 4 = .ok (.iconst 0, 1) := by decide +kernel
theorem dX8_rounds_5 : decode cX8_rounds 5 = .ok (.iaload, 1) := by decide +kernel
theorem dX8_rounds_6 : decode cX8_rounds 6 = .ok (.iconst 1, 1) := by decide +kernel
theorem dX8_rounds_7 : decode cX8_rounds 7 = .ok (.isub, 1) := by decide +kernel
theorem dX8_rounds_8 : decode cX8_rounds 8 = .ok (.ireturn, 1) := by decide +kernel
set_option maxRecDepth 20000 in
theorem ggX8_isTeam_X8_isIn : GoodIn wsX8_isTeam wsX8_isIn := goodIn_r _ [5] (by decide +kernel) (by decide +kernel)
set_option maxRecDepth 20000 in
theorem gX8_isTeam_X8_isIn : GoodIn wsX8_isTeam (va_wsS RX8 47 yX8_isIn wsX8_isIn) := goodIn_app (goodIn_of _ (by decide +kernel)) ggX8_isTeam_X8_isIn
theorem dX8_isTeam_0 : decode cX8_isTeam 0 = .ok (.iload_n 1, 1) := by decide +kernel
theorem dX8_isTeam_1 : decode cX8_isTeam 1 = .ok (.iconst 0, 1) := by decide +kernel
theorem dX8_isTeam_2 : decode cX8_isTeam 2 = .ok (.aload_n 0, 1) := by decide +kernel
theorem dX8_isTeam_3 : decode cX8_isTeam 3 = .ok (.getfield 11, 3) := by decide +kernel
theorem dX8_isTeam_6 : decode cX8_isTeam 6 = .ok (.iconst 0, 1) := by decide +kernel
theorem dX8_isTeam_7 : decode cX8_isTeam 7 = .ok (.iaload, 1) := by decide +kernel
theorem dX8_isTeam_8 : decode cX8_isTeam 8 = .ok (.iconst 1, 1) := by decide +kernel
theorem dX8_isTeam_9 : decode cX8_isTeam 9 = .ok (.isub, 1) := by decide +kernel
theorem dX8_isTeam_10 : decode cX8_isTeam 10 = .ok (.invokestatic 47, 3) := by decide +kernel
theorem dX8_isTeam_13 : decode cX8_isTeam 13 = .ok (.ireturn, 1) := by decide +kernel
set_option maxRecDepth 20000 in
theorem ggX8_isRound_X8_rounds : GoodIn wsX8_isRound wsX8_rounds := goodIn_r _ [5, 6, 10, 11, 12, 13, 14, 15, 16, 17, 18, 19, 20, 21, 22, 23, 24] (by decide +kernel) (by decide +kernel)
set_option maxRecDepth 20000 in
theorem gX8_isRound_X8_rounds : GoodIn wsX8_isRound (wsV RX8 51 RX8 yX8_rounds wsX8_rounds) := goodIn_app (goodIn_of _ (by decide +kernel)) ggX8_isRound_X8_rounds
set_option maxRecDepth 20000 in
theorem ggX8_isRound_X8_isIn : GoodIn wsX8_isRound wsX8_isIn := goodIn_r _ [9] (by decide +kernel) (by decide +kernel)
set_option maxRecDepth 20000 in
theorem gX8_isRound_X8_isIn : GoodIn wsX8_isRound (va_wsS RX8 47 yX8_isIn wsX8_isIn) := goodIn_app (goodIn_of _ (by decide +kernel)) ggX8_isRound_X8_isIn
theorem dX8_isRound_0 : decode cX8_isRound 0 = .ok (.iload_n 1, 1) := by decide +kernel
theorem dX8_isRound_1 : decode cX8_isRound 1 = .ok (.iconst 0, 1) := by decide +kernel
theorem dX8_isRound_2 : decode cX8_isRound 2 = .ok (.aload_n 0, 1) := by decide +kernel
theorem dX8_isRound_3 : decode cX8_isRound 3 = .ok (.invokevirtual 51, 3) := by decide +kernel
theorem dX8_isRound_6 : decode cX8_isRound 6 = .ok (.iconst 1, 1) := by decide +kernel
theorem dX8_isRound_7 : decode cX8_isRound 7 = .ok (.isub, 1) := by decide +kernel
theorem dX8_isRound_8 : decode cX8_isRound 8 = .ok (.invokestatic 47, 3) := by decide +kernel
theorem dX8_isRound_11 : decode cX8_isRound 11 = .ok (.ireturn, 1) := by decide +kernel
set_option maxRecDepth 20000 in
theorem ggX8_isGame_X8_isIn : GoodIn wsX8_isGame wsX8_isIn := goodIn_r _ [5] (by decide +kernel) (by decide +kernel)
set_option maxRecDepth 20000 in
theorem gX8_isGame_X8_isIn : GoodIn wsX8_isGame (va_wsS RX8 47 yX8_isIn wsX8_isIn) := goodIn_app (goodIn_of _ (by decide +kernel)) ggX8_isGame_X8_isIn
theorem dX8_isGame_0 : decode cX8_isGame 0 = .ok (.iload_n 1, 1) := by decide +kernel
theorem dX8_isGame_1 : decode cX8_isGame 1 = .ok (.iconst 0, 1) := by decide +kernel
theorem dX8_isGame_2 : decode cX8_isGame 2 = .ok (.aload_n 0, 1) := by decide +kernel
theorem dX8_isGame_3 : decode cX8_isGame 3 = .ok (.getfield 11, 3) := by decide +kernel
theorem dX8_isGame_6 : decode cX8_isGame 6 = .ok (.iconst 0, 1) := by decide +kernel
theorem dX8_isGame_7 : decode cX8_isGame 7 = .ok (.iaload, 1) := by decide +kernel
theorem dX8_isGame_8 : decode cX8_isGame 8 = .ok (.iconst 2, 1) := by decide +kernel
theorem dX8_isGame_9 : decode cX8_isGame 9 = .ok (.idiv, 1) := by decide +kernel
theorem dX8_isGame_10 : decode cX8_isGame 10 = .ok (.iconst 1, 1) := by decide +kernel
theorem dX8_isGame_11 : decode cX8_isGame 11 = .ok (.isub, 1) := by decide +kernel
theorem dX8_isGame_12 : decode cX8_isGame 12 = .ok (.invokestatic 47, 3) := by decide +kernel
theorem dX8_isGame_15 : decode cX8_isGame 15 = .ok (.ireturn, 1) := by decide +kernel
theorem dX8_at_0 : decode cX8_at 0 = .ok (.bipush 57, 2) := by decide +kernel
theorem dX8_at_2 : decode cX8_at 2 = .ok (.bipush 6, 2) := by decide +kernel
theorem dX8_at_4 : decode cX8_at 4 = .ok (.iload_n 1, 1) := by decide +kernel
theorem dX8_at_5 : decode cX8_at 5 = .ok (.imul, 1) := by decide +kernel
theorem dX8_at_6 : decode cX8_at 6 = .ok (.iadd, 1) := by decide +kernel
theorem dX8_at_7 : decode cX8_at 7 = .ok (.iconst 2, 1) := by decide +kernel
theorem dX8_at_8 : decode cX8_at 8 = .ok (.iload_n 2, 1) := by decide +kernel
theorem dX8_at_9 : decode cX8_at 9 = .ok (.imul, 1) := by decide +kernel
theorem dX8_at_10 : decode cX8_at 10 = .ok (.iadd, 1) := by decide +kernel
theorem dX8_at_11 : decode cX8_at 11 = .ok (.iload_n 3, 1) := by decide +kernel
theorem dX8_at_12 : decode cX8_at 12 = .ok (.iadd, 1) := by decide +kernel
theorem dX8_at_13 : decode cX8_at 13 = .ok (.ireturn, 1) := by decide +kernel
set_option maxRecDepth 20000 in
theorem ggX8_who_X8_at : GoodIn wsX8_who wsX8_at := goodIn_r _ [6] (by decide +kernel) (by decide +kernel)
set_option maxRecDepth 20000 in
theorem gX8_who_X8_at : GoodIn wsX8_who (wsV RX8 55 RX8 yX8_at wsX8_at) := goodIn_app (goodIn_of _ (by decide +kernel)) ggX8_who_X8_at
theorem dX8_who_0 : decode cX8_who 0 = .ok (.aload_n 0, 1) := by decide +kernel
theorem dX8_who_1 : decode cX8_who 1 = .ok (.getfield 11, 3) := by decide +kernel
theorem dX8_who_4 : decode cX8_who 4 = .ok (.aload_n 0, 1) := by decide +kernel
theorem dX8_who_5 : decode cX8_who 5 = .ok (.iload_n 1, 1) := by decide +kernel
theorem dX8_who_6 : decode cX8_who 6 = .ok (.iload_n 2, 1) := by decide +kernel
theorem dX8_who_7 : decode cX8_who 7 = .ok (.iload_n 3, 1) := by decide +kernel
theorem dX8_who_8 : decode cX8_who 8 = .ok (.invokevirtual 55, 3) := by decide +kernel
theorem dX8_who_11 : decode cX8_who 11 = .ok (.iaload, 1) := by decide +kernel
theorem dX8_who_12 : decode cX8_who 12 = .ok (.ireturn, 1) := by decide +kernel
set_option maxRecDepth 20000 in
theorem ggX8_plays_X8_at : GoodIn wsX8_plays wsX8_at := goodIn_r _ [6] (by decide +kernel) (by decide +kernel)
set_option maxRecDepth 20000 in
theorem gX8_plays_X8_at : GoodIn wsX8_plays (wsV RX8 55 RX8 yX8_at wsX8_at) := goodIn_app (goodIn_of _ (by decide +kernel)) ggX8_plays_X8_at
theorem dX8_plays_0 : decode cX8_plays 0 = .ok (.aload_n 0, 1) := by decide +kernel
theorem dX8_plays_1 : decode cX8_plays 1 = .ok (.getfield 11, 3) := by decide +kernel
theorem dX8_plays_4 : decode cX8_plays 4 = .ok (.aload_n 0, 1) := by decide +kernel
theorem dX8_plays_5 : decode cX8_plays 5 = .ok (.iload_n 1, 1) := by decide +kernel
theorem dX8_plays_6 : decode cX8_plays 6 = .ok (.iload_n 2, 1) := by decide +kernel
theorem dX8_plays_7 : decode cX8_plays 7 = .ok (.iconst 0, 1) := by decide +kernel
theorem dX8_plays_8 : decode cX8_plays 8 = .ok (.invokevirtual 55, 3) := by decide +kernel
theorem dX8_plays_11 : decode cX8_plays 11 = .ok (.iload 5, 2) := by decide +kernel
theorem dX8_plays_13 : decode cX8_plays 13 = .ok (.ifCond .eq 7, 3) := by decide +kernel
theorem dX8_plays_16 : decode cX8_plays 16 = .ok (.iload_n 3, 1) := by decide +kernel
theorem dX8_plays_17 : decode cX8_plays 17 = .ok (.goto 5, 3) := by decide +kernel
theorem dX8_plays_20 : decode cX8_plays 20 = .ok (.iload 4, 2) := by decide +kernel
theorem dX8_plays_22 : decode cX8_plays 22 = .ok (.iastore, 1) := by decide +kernel
theorem dX8_plays_23 : decode cX8_plays 23 = .ok (.aload_n 0, 1) := by decide +kernel
theorem dX8_plays_24 : decode cX8_plays 24 = .ok (.getfield 11, 3) := by decide +kernel
theorem dX8_plays_27 : decode cX8_plays 27 = .ok (.aload_n 0, 1) := by decide +kernel
theorem dX8_plays_28 : decode cX8_plays 28 = .ok (.iload_n 1, 1) := by decide +kernel
theorem dX8_plays_29 : decode cX8_plays 29 = .ok (.iload_n 2, 1) := by decide +kernel
theorem dX8_plays_30 : decode cX8_plays 30 = .ok (.iconst 1, 1) := by decide +kernel
theorem dX8_plays_31 : decode cX8_plays 31 = .ok (.invokevirtual 55, 3) := by decide +kernel
theorem dX8_plays_34 : decode cX8_plays 34 = .ok (.iload 5, 2) := by decide +kernel
theorem dX8_plays_36 : decode cX8_plays 36 = .ok (.ifCond .eq 8, 3) := by decide +kernel
theorem dX8_plays_39 : decode cX8_plays 39 = .ok (.iload 4, 2) := by decide +kernel
theorem dX8_plays_41 : decode cX8_plays 41 = .ok (.goto 4, 3) := by decide +kernel
theorem dX8_plays_44 : decode cX8_plays 44 = .ok (.iload_n 3, 1) := by decide +kernel
theorem dX8_plays_45 : decode cX8_plays 45 = .ok (.iastore, 1) := by decide +kernel
theorem dX8_plays_46 : decode cX8_plays 46 = .ok (.return_, 1) := by decide +kernel
set_option maxRecDepth 20000 in
theorem ggX8_circles_X8_plays : GoodIn wsX8_circles wsX8_plays := goodIn_r _ [6, 1, 7, 8, 9, 5, 10, 11, 12, 13, 14, 15, 16, 17, 18, 19, 20, 21, 22, 23, 24, 25] (by decide +kernel) (by decide +kernel)
set_option maxRecDepth 20000 in
theorem gX8_circles_X8_plays : GoodIn wsX8_circles (wsV RX8 59 RX8 yX8_plays wsX8_plays) := goodIn_app (goodIn_of _ (by decide +kernel)) ggX8_circles_X8_plays
theorem dX8_circles_0 : decode cX8_circles 0 = .ok (.aload_n 0, 1) := by decide +kernel
theorem dX8_circles_1 : decode cX8_circles 1 = .ok (.getfield 11, 3) := by decide +kernel
theorem dX8_circles_4 : decode cX8_circles 4 = .ok (.iconst 0, 1) := by decide +kernel
theorem dX8_circles_5 : decode cX8_circles 5 = .ok (.iload_n 1, 1) := by decide +kernel
theorem dX8_circles_6 : decode cX8_circles 6 = .ok (.iastore, 1) := by decide +kernel
theorem dX8_circles_7 : decode cX8_circles 7 = .ok (.aload_n 0, 1) := by decide +kernel
theorem dX8_circles_8 : decode cX8_circles 8 = .ok (.getfield 11, 3) := by decide +kernel
theorem dX8_circles_11 : decode cX8_circles 11 = .ok (.iconst 2, 1) := by decide +kernel
theorem dX8_circles_12 : decode cX8_circles 12 = .ok (.iconst 0, 1) := by decide +kernel
theorem dX8_circles_13 : decode cX8_circles 13 = .ok (.iastore, 1) := by decide +kernel
theorem dX8_circles_14 : decode cX8_circles 14 = .ok (.aload_n 0, 1) := by decide +kernel
theorem dX8_circles_15 : decode cX8_circles 15 = .ok (.getfield 11, 3) := by decide +kernel
theorem dX8_circles_18 : decode cX8_circles 18 = .ok (.iconst 3, 1) := by decide +kernel
theorem dX8_circles_19 : decode cX8_circles 19 = .ok (.iconst 0, 1) := by decide +kernel
theorem dX8_circles_20 : decode cX8_circles 20 = .ok (.iastore, 1) := by decide +kernel
theorem dX8_circles_21 : decode cX8_circles 21 = .ok (.aload_n 0, 1) := by decide +kernel
theorem dX8_circles_22 : decode cX8_circles 22 = .ok (.getfield 11, 3) := by decide +kernel
theorem dX8_circles_25 : decode cX8_circles 25 = .ok (.iconst 4, 1) := by decide +kernel
theorem dX8_circles_26 : decode cX8_circles 26 = .ok (.iconst 0, 1) := by decide +kernel
theorem dX8_circles_27 : decode cX8_circles 27 = .ok (.iastore, 1) := by decide +kernel
theorem dX8_circles_28 : decode cX8_circles 28 = .ok (.iconst 0, 1) := by decide +kernel
theorem dX8_circles_29 : decode cX8_circles 29 = .ok (.istore_n 2, 1) := by decide +kernel
theorem dX8_circles_30 : decode cX8_circles 30 = .ok (.iload_n 2, 1) := by decide +kernel
theorem dX8_circles_31 : decode cX8_circles 31 = .ok (.bipush 36, 2) := by decide +kernel
theorem dX8_circles_33 : decode cX8_circles 33 = .ok (.if_icmp .ge 19, 3) := by decide +kernel
theorem dX8_circles_36 : decode cX8_circles 36 = .ok (.aload_n 0, 1) := by decide +kernel
theorem dX8_circles_37 : decode cX8_circles 37 = .ok (.getfield 11, 3) := by decide +kernel
theorem dX8_circles_40 : decode cX8_circles 40 = .ok (.bipush 21, 2) := by decide +kernel
theorem dX8_circles_42 : decode cX8_circles 42 = .ok (.iload_n 2, 1) := by decide +kernel
theorem dX8_circles_43 : decode cX8_circles 43 = .ok (.iadd, 1) := by decide +kernel
theorem dX8_circles_44 : decode cX8_circles 44 = .ok (.iconst 0, 1) := by decide +kernel
theorem dX8_circles_45 : decode cX8_circles 45 = .ok (.iastore, 1) := by decide +kernel
theorem dX8_circles_46 : decode cX8_circles 46 = .ok (.iinc 2 1, 3) := by decide +kernel
theorem dX8_circles_49 : decode cX8_circles 49 = .ok (.goto (-19), 3) := by decide +kernel
theorem dX8_circles_52 : decode cX8_circles 52 = .ok (.iconst 0, 1) := by decide +kernel
theorem dX8_circles_53 : decode cX8_circles 53 = .ok (.istore_n 2, 1) := by decide +kernel
theorem dX8_circles_54 : decode cX8_circles 54 = .ok (.iload_n 2, 1) := by decide +kernel
theorem dX8_circles_55 : decode cX8_circles 55 = .ok (.iload_n 1, 1) := by decide +kernel
theorem dX8_circles_56 : decode cX8_circles 56 = .ok (.iconst 1, 1) := by decide +kernel
theorem dX8_circles_57 : decode cX8_circles 57 = .ok (.isub, 1) := by decide +kernel
theorem dX8_circles_58 : decode cX8_circles 58 = .ok (.if_icmp .ge 81, 3) := by decide +kernel
theorem dX8_circles_61 : decode cX8_circles 61 = .ok (.aload_n 0, 1) := by decide +kernel
theorem dX8_circles_62 : decode cX8_circles 62 = .ok (.iload_n 2, 1) := by decide +kernel
theorem dX8_circles_63 : decode cX8_circles 63 = .ok (.iconst 0, 1) := by decide +kernel
theorem dX8_circles_64 : decode cX8_circles 64 = .ok (.iload_n 2, 1) := by decide +kernel
theorem dX8_circles_65 : decode cX8_circles 65 = .ok (.iload_n 1, 1) := by decide +kernel
theorem dX8_circles_66 : decode cX8_circles 66 = .ok (.iconst 1, 1) := by decide +kernel
theorem dX8_circles_67 : decode cX8_circles 67 = .ok (.isub, 1) := by decide +kernel
theorem dX8_circles_68 : decode cX8_circles 68 = .ok (.iload_n 2, 1) := by decide +kernel
theorem dX8_circles_69 : decode cX8_circles 69 = .ok (.iconst 2, 1) := by decide +kernel
theorem dX8_circles_70 : decode cX8_circles 70 = .ok (.irem, 1) := by decide +kernel
theorem dX8_circles_71 : decode cX8_circles 71 = .ok (.ifCond .ne 7, 3) := by decide +kernel
theorem dX8_circles_74 : decode cX8_circles 74 = .ok (.iconst 1, 1) := by decide +kernel
theorem dX8_circles_75 : decode cX8_circles 75 = .ok (.goto 4, 3) := by decide +kernel
theorem dX8_circles_78 : decode cX8_circles 78 = .ok (.iconst 0, 1) := by decide +kernel
theorem dX8_circles_79 : decode cX8_circles 79 = .ok (.invokevirtual 59, 3) := by decide +kernel
theorem dX8_circles_82 : decode cX8_circles 82 = .ok (.iconst 1, 1) := by decide +kernel
theorem dX8_circles_83 : decode cX8_circles 83 = .ok (.istore_n 3, 1) := by decide +kernel
theorem dX8_circles_84 : decode cX8_circles 84 = .ok (.iload_n 3, 1) := by decide +kernel
theorem dX8_circles_85 : decode cX8_circles 85 = .ok (.iload_n 1, 1) := by decide +kernel
theorem dX8_circles_86 : decode cX8_circles 86 = .ok (.iconst 2, 1) := by decide +kernel
theorem dX8_circles_87 : decode cX8_circles 87 = .ok (.idiv, 1) := by decide +kernel
theorem dX8_circles_88 : decode cX8_circles 88 = .ok (.if_icmp .ge 45, 3) := by decide +kernel
theorem dX8_circles_91 : decode cX8_circles 91 = .ok (.aload_n 0, 1) := by decide +kernel
theorem dX8_circles_92 : decode cX8_circles 92 = .ok (.iload_n 2, 1) := by decide +kernel
theorem dX8_circles_93 : decode cX8_circles 93 = .ok (.iload_n 3, 1) := by decide +kernel
theorem dX8_circles_94 : decode cX8_circles 94 = .ok (.iload_n 2, 1) := by decide +kernel
theorem dX8_circles_95 : decode cX8_circles 95 = .ok (.iload_n 3, 1) := by decide +kernel
theorem dX8_circles_96 : decode cX8_circles 96 = .ok (.iadd, 1) := by decide +kernel
theorem dX8_circles_97 : decode cX8_circles 97 = .ok (.iload_n 1, 1) := by decide +kernel
theorem dX8_circles_98 : decode cX8_circles 98 = .ok (.iconst 1, 1) := by decide +kernel
theorem dX8_circles_99 : decode cX8_circles 99 = .ok (.isub, 1) := by decide +kernel
theorem dX8_circles_100 : decode cX8_circles 100 = .ok (.irem, 1) := by decide +kernel
theorem dX8_circles_101 : decode cX8_circles 101 = .ok (.iload_n 2, 1) := by decide +kernel
theorem dX8_circles_102 : decode cX8_circles 102 = .ok (.iload_n 3, 1) := by decide +kernel
theorem dX8_circles_103 : decode cX8_circles 103 = .ok (.isub, 1) := by decide +kernel
theorem dX8_circles_104 : decode cX8_circles 104 = .ok (.iload_n 1, 1) := by decide +kernel
theorem dX8_circles_105 : decode cX8_circles 105 = .ok (.iadd, 1) := by decide +kernel
theorem dX8_circles_106 : decode cX8_circles 106 = .ok (.iconst 1, 1) := by decide +kernel
theorem dX8_circles_107 : decode cX8_circles 107 = .ok (.isub, 1) := by decide +kernel
theorem dX8_circles_108 : decode cX8_circles 108 = .ok (.iload_n 1, 1) := by decide +kernel
theorem dX8_circles_109 : decode cX8_circles 109 = .ok (.iconst 1, 1) := by decide +kernel
theorem dX8_circles_110 : decode cX8_circles 110 = .ok (.isub, 1) := by decide +kernel
theorem dX8_circles_111 : decode cX8_circles 111 = .ok (.irem, 1) := by decide +kernel
theorem dX8_circles_112 : decode cX8_circles 112 = .ok (.iload_n 3, 1) := by decide +kernel
theorem dX8_circles_113 : decode cX8_circles 113 = .ok (.iconst 2, 1) := by decide +kernel
theorem dX8_circles_114 : decode cX8_circles 114 = .ok (.irem, 1) := by decide +kernel
theorem dX8_circles_115 : decode cX8_circles 115 = .ok (.iconst 1, 1) := by decide +kernel
theorem dX8_circles_116 : decode cX8_circles 116 = .ok (.if_icmp .ne 7, 3) := by decide +kernel
theorem dX8_circles_119 : decode cX8_circles 119 = .ok (.iconst 1, 1) := by decide +kernel
theorem dX8_circles_120 : decode cX8_circles 120 = .ok (.goto 4, 3) := by decide +kernel
theorem dX8_circles_123 : decode cX8_circles 123 = .ok (.iconst 0, 1) := by decide +kernel
theorem dX8_circles_124 : decode cX8_circles 124 = .ok (.invokevirtual 59, 3) := by decide +kernel
theorem dX8_circles_127 : decode cX8_circles 127 = .ok (.iinc 3 1, 3) := by decide +kernel
theorem dX8_circles_130 : decode cX8_circles 130 = .ok (.goto (-46), 3) := by decide +kernel
theorem dX8_circles_133 : decode cX8_circles 133 = .ok (.iinc 2 1, 3) := by decide +kernel
theorem dX8_circles_136 : decode cX8_circles 136 = .ok (.goto (-82), 3) := by decide +kernel
theorem dX8_circles_139 : decode cX8_circles 139 = .ok (.return_, 1) := by decide +kernel
set_option maxRecDepth 20000 in
theorem ggX8_teams_X8_circles : GoodIn wsX8_teams wsX8_circles := goodIn_r _ [6, 1, 7, 8, 9, 5, 10, 11, 12, 13, 14, 15, 16, 17, 18, 19, 20, 21, 22, 23, 24, 25, 26, 27, 28, 29] (by decide +kernel) (by decide +kernel)
set_option maxRecDepth 20000 in
theorem gX8_teams_X8_circles : GoodIn wsX8_teams (wsV RX8 43 RX8 yX8_circles wsX8_circles) := goodIn_app (goodIn_of _ (by decide +kernel)) ggX8_teams_X8_circles
theorem dX8_teams_0 : decode cX8_teams 0 = .ok (.iload_n 1, 1) := by decide +kernel
theorem dX8_teams_1 : decode cX8_teams 1 = .ok (.iconst 4, 1) := by decide +kernel
theorem dX8_teams_2 : decode cX8_teams 2 = .ok (.if_icmp .eq 12, 3) := by decide +kernel
theorem dX8_teams_5 : decode cX8_teams 5 = .ok (.iload_n 1, 1) := by decide +kernel
theorem dX8_teams_6 : decode cX8_teams 6 = .ok (.bipush 6, 2) := by decide +kernel
theorem dX8_teams_8 : decode cX8_teams 8 = .ok (.if_icmp .eq 6, 3) := by decide +kernel
theorem dX8_teams_11 : decode cX8_teams 11 = .ok (.bipush (-2), 2) := by decide +kernel
theorem dX8_teams_13 : decode cX8_teams 13 = .ok (.ireturn, 1) := by decide +kernel
theorem dX8_teams_14 : decode cX8_teams 14 = .ok (.aload_n 0, 1) := by decide +kernel
theorem dX8_teams_15 : decode cX8_teams 15 = .ok (.getfield 11, 3) := by decide +kernel
theorem dX8_teams_18 : decode cX8_teams 18 = .ok (.iconst 0, 1) := by decide +kernel
theorem dX8_teams_19 : decode cX8_teams 19 = .ok (.iaload, 1) := by decide +kernel
theorem dX8_teams_20 : decode cX8_teams 20 = .ok (.istore_n 2, 1) := by decide +kernel
theorem dX8_teams_21 : decode cX8_teams 21 = .ok (.aload_n 0, 1) := by decide +kernel
theorem dX8_teams_22 : decode cX8_teams 22 = .ok (.iload_n 1, 1) := by decide +kernel
theorem dX8_teams_23 : decode cX8_teams 23 = .ok (.invokevirtual 43, 3) := by decide +kernel
theorem dX8_teams_26 : decode cX8_teams 26 = .ok (.iload_n 2, 1) := by decide +kernel
theorem dX8_teams_27 : decode cX8_teams 27 = .ok (.ireturn, 1) := by decide +kernel
set_option maxRecDepth 20000 in
theorem ggX8_isTwo_X8_isIn : GoodIn wsX8_isTwo wsX8_isIn := goodIn_r _ [4] (by decide +kernel) (by decide +kernel)
set_option maxRecDepth 20000 in
theorem gX8_isTwo_X8_isIn : GoodIn wsX8_isTwo (va_wsS RX8 47 yX8_isIn wsX8_isIn) := goodIn_app (goodIn_of _ (by decide +kernel)) ggX8_isTwo_X8_isIn
theorem dX8_isTwo_0 : decode cX8_isTwo 0 = .ok (.iload_n 0, 1) := by decide +kernel
theorem dX8_isTwo_1 : decode cX8_isTwo 1 = .ok (.iconst 0, 1) := by decide +kernel
theorem dX8_isTwo_2 : decode cX8_isTwo 2 = .ok (.bipush 99, 2) := by decide +kernel
theorem dX8_isTwo_4 : decode cX8_isTwo 4 = .ok (.invokestatic 47, 3) := by decide +kernel
theorem dX8_isTwo_7 : decode cX8_isTwo 7 = .ok (.ireturn, 1) := by decide +kernel
set_option maxRecDepth 20000 in
theorem ggX8_ground_X8_isTeam : GoodIn wsX8_ground wsX8_isTeam := goodIn_r _ [6, 1, 7, 8, 5, 9, 13, 14, 15, 16, 17, 18, 19, 20, 21, 22, 23, 24, 25, 26, 27] (by decide +kernel) (by decide +kernel)
set_option maxRecDepth 20000 in
theorem gX8_ground_X8_isTeam : GoodIn wsX8_ground (wsV RX8 63 RX8 yX8_isTeam wsX8_isTeam) := goodIn_app (goodIn_of _ (by decide +kernel)) ggX8_ground_X8_isTeam
set_option maxRecDepth 20000 in
theorem ggX8_ground_X8_isTwo : GoodIn wsX8_ground wsX8_isTwo := goodIn_r _ [12, 7, 8, 5, 9] (by decide +kernel) (by decide +kernel)
set_option maxRecDepth 20000 in
theorem gX8_ground_X8_isTwo : GoodIn wsX8_ground (va_wsS RX8 67 yX8_isTwo wsX8_isTwo) := goodIn_app (goodIn_of _ (by decide +kernel)) ggX8_ground_X8_isTwo
theorem dX8_ground_0 : decode cX8_ground 0 = .ok (.aload_n 0, 1) := by decide +kernel
theorem dX8_ground_1 : decode cX8_ground 1 = .ok (.iload_n 1, 1) := by decide +kernel
theorem dX8_ground_2 : decode cX8_ground 2 = .ok (.invokevirtual 63, 3) := by decide +kernel
theorem dX8_ground_5 : decode cX8_ground 5 = .ok (.ifCond .ne 5, 3) := by decide +kernel
theorem dX8_ground_8 : decode cX8_ground 8 = .ok (.iconst (-1), 1) := by decide +kernel
theorem dX8_ground_9 : decode cX8_ground 9 = .ok (.ireturn, 1) := by decide +kernel
theorem dX8_ground_10 : decode cX8_ground 10 = .ok (.iload_n 2, 1) := by decide +kernel
theorem dX8_ground_11 : decode cX8_ground 11 = .ok (.invokestatic 67, 3) := by decide +kernel
theorem dX8_ground_14 : decode cX8_ground 14 = .ok (.ifCond .eq 10, 3) := by decide +kernel
theorem dX8_ground_17 : decode cX8_ground 17 = .ok (.iload_n 3, 1) := by decide +kernel
theorem dX8_ground_18 : decode cX8_ground 18 = .ok (.invokestatic 67, 3) := by decide +kernel
theorem dX8_ground_21 : decode cX8_ground 21 = .ok (.ifCond .ne 6, 3) := by decide +kernel
theorem dX8_ground_24 : decode cX8_ground 24 = .ok (.bipush (-2), 2) := by decide +kernel
theorem dX8_ground_26 : decode cX8_ground 26 = .ok (.ireturn, 1) := by decide +kernel
theorem dX8_ground_27 : decode cX8_ground 27 = .ok (.bipush 100, 2) := by decide +kernel
theorem dX8_ground_29 : decode cX8_ground 29 = .ok (.aload_n 0, 1) := by decide +kernel
theorem dX8_ground_30 : decode cX8_ground 30 = .ok (.getfield 11, 3) := by decide +kernel
theorem dX8_ground_33 : decode cX8_ground 33 = .ok (.bipush 9, 2) := by decide +kernel
theorem dX8_ground_35 : decode cX8_ground 35 = .ok (.iconst 2, 1) := by decide +kernel
theorem dX8_ground_36 : decode cX8_ground 36 = .ok (.iload_n 1, 1) := by decide +kernel
theorem dX8_ground_37 : decode cX8_ground 37 = .ok (.imul, 1) := by decide +kernel
theorem dX8_ground_38 : decode cX8_ground 38 = .ok (.iadd, 1) := by decide +kernel
theorem dX8_ground_39 : decode cX8_ground 39 = .ok (.iaload, 1) := by decide +kernel
theorem dX8_ground_40 : decode cX8_ground 40 = .ok (.imul, 1) := by decide +kernel
theorem dX8_ground_41 : decode cX8_ground 41 = .ok (.aload_n 0, 1) := by decide +kernel
theorem dX8_ground_42 : decode cX8_ground 42 = .ok (.getfield 11, 3) := by decide +kernel
theorem dX8_ground_45 : decode cX8_ground 45 = .ok (.bipush 9, 2) := by decide +kernel
theorem dX8_ground_47 : decode cX8_ground 47 = .ok (.iconst 2, 1) := by decide +kernel
theorem dX8_ground_48 : decode cX8_ground 48 = .ok (.iload_n 1, 1) := by decide +kernel
theorem dX8_ground_49 : decode cX8_ground 49 = .ok (.imul, 1) := by decide +kernel
theorem dX8_ground_50 : decode cX8_ground 50 = .ok (.iadd, 1) := by decide +kernel
theorem dX8_ground_51 : decode cX8_ground 51 = .ok (.iconst 1, 1) := by decide +kernel
theorem dX8_ground_52 : decode cX8_ground 52 = .ok (.iadd, 1) := by decide +kernel
theorem dX8_ground_53 : decode cX8_ground 53 = .ok (.iaload, 1) := by decide +kernel
theorem dX8_ground_54 : decode cX8_ground 54 = .ok (.iadd, 1) := by decide +kernel
theorem dX8_ground_55 : decode cX8_ground 55 = .ok (.istore 4, 2) := by decide +kernel
theorem dX8_ground_57 : decode cX8_ground 57 = .ok (.aload_n 0, 1) := by decide +kernel
theorem dX8_ground_58 : decode cX8_ground 58 = .ok (.getfield 11, 3) := by decide +kernel
theorem dX8_ground_61 : decode cX8_ground 61 = .ok (.bipush 9, 2) := by decide +kernel
theorem dX8_ground_63 : decode cX8_ground 63 = .ok (.iconst 2, 1) := by decide +kernel
theorem dX8_ground_64 : decode cX8_ground 64 = .ok (.iload_n 1, 1) := by decide +kernel
theorem dX8_ground_65 : decode cX8_ground 65 = .ok (.imul, 1) := by decide +kernel
theorem dX8_ground_66 : decode cX8_ground 66 = .ok (.iadd, 1) := by decide +kernel
theorem dX8_ground_67 : decode cX8_ground 67 = .ok (.iload_n 2, 1) := by decide +kernel
theorem dX8_ground_68 : decode cX8_ground 68 = .ok (.iastore, 1) := by decide +kernel
theorem dX8_ground_69 : decode cX8_ground 69 = .ok (.aload_n 0, 1) := by decide +kernel
theorem dX8_ground_70 : decode cX8_ground 70 = .ok (.getfield 11, 3) := by decide +kernel
theorem dX8_ground_73 : decode cX8_ground 73 = .ok (.bipush 9, 2) := by decide +kernel
theorem dX8_ground_75 : decode cX8_ground 75 = .ok (.iconst 2, 1) := by decide +kernel
theorem dX8_ground_76 : decode cX8_ground 76 = .ok (.iload_n 1, 1) := by decide +kernel
theorem dX8_ground_77 : decode cX8_ground 77 = .ok (.imul, 1) := by decide +kernel
theorem dX8_ground_78 : decode cX8_ground 78 = .ok (.iadd, 1) := by decide +kernel
theorem dX8_ground_79 : decode cX8_ground 79 = .ok (.iconst 1, 1) := by decide +kernel
theorem dX8_ground_80 : decode cX8_ground 80 = .ok (.iadd, 1) := by decide +kernel
theorem dX8_ground_81 : decode cX8_ground 81 = .ok (.iload_n 3, 1) := by decide +kernel
theorem dX8_ground_82 : decode cX8_ground 82 = .ok (.iastore, 1) := by decide +kernel
theorem dX8_ground_83 : decode cX8_ground 83 = .ok (.iload 4, 2) := by decide +kernel
theorem dX8_ground_85 : decode cX8_ground 85 = .ok (.ireturn, 1) := by decide +kernel
theorem dX8_exchanges_0 : decode cX8_exchanges 0 = .ok (.aload_n 0, 1) := by decide +kernel
theorem dX8_exchanges_1 : decode cX8_exchanges 1 = .ok (.getfield 11, 3) := by decide +kernel
theorem dX8_exchanges_4 : decode cX8_exchanges 4 = .ok (.iload_n 1, 1) := by decide +kernel
theorem dX8_exchanges_5 : decode cX8_exchanges 5 = .ok (.iaload, 1) := by decide +kernel
theorem dX8_exchanges_6 : decode cX8_exchanges 6 = .ok (.istore_n 3, 1) := by decide +kernel
theorem dX8_exchanges_7 : decode cX8_exchanges 7 = .ok (.aload_n 0, 1) := by decide +kernel
theorem dX8_exchanges_8 : decode cX8_exchanges 8 = .ok (.getfield 11, 3) := by decide +kernel
theorem dX8_exchanges_11 : decode cX8_exchanges 11 = .ok (.iload_n 1, 1) := by decide +kernel
theorem dX8_exchanges_12 : decode cX8_exchanges 12 = .ok (.aload_n 0, 1) := by decide +kernel
theorem dX8_exchanges_13 : decode cX8_exchanges 13 = .ok (.getfield 11, 3) := by decide +kernel
theorem dX8_exchanges_16 : decode cX8_exchanges 16 = .ok (.iload_n 2, 1) := by decide +kernel
theorem dX8_exchanges_17 : decode cX8_exchanges 17 = .ok (.iaload, 1) := by decide +kernel
theorem dX8_exchanges_18 : decode cX8_exchanges 18 = .ok (.iastore, 1) := by decide +kernel
theorem dX8_exchanges_19 : decode cX8_exchanges 19 = .ok (.aload_n 0, 1) := by decide +kernel
theorem dX8_exchanges_20 : decode cX8_exchanges 20 = .ok (.getfield 11, 3) := by decide +kernel
theorem dX8_exchanges_23 : decode cX8_exchanges 23 = .ok (.iload_n 2, 1) := by decide +kernel
theorem dX8_exchanges_24 : decode cX8_exchanges 24 = .ok (.iload_n 3, 1) := by decide +kernel
theorem dX8_exchanges_25 : decode cX8_exchanges 25 = .ok (.iastore, 1) := by decide +kernel
theorem dX8_exchanges_26 : decode cX8_exchanges 26 = .ok (.return_, 1) := by decide +kernel
set_option maxRecDepth 20000 in
theorem ggX8_swaps_X8_exchanges : GoodIn wsX8_swaps wsX8_exchanges := goodIn_r _ [6, 1, 7, 8, 9, 10, 11, 12, 13, 14, 15, 16, 17, 18, 19, 20, 21] (by decide +kernel) (by decide +kernel)
set_option maxRecDepth 20000 in
theorem gX8_swaps_X8_exchanges : GoodIn wsX8_swaps (wsV RX8 70 RX8 yX8_exchanges wsX8_exchanges) := goodIn_app (goodIn_of _ (by decide +kernel)) ggX8_swaps_X8_exchanges
theorem dX8_swaps_0 : decode cX8_swaps 0 = .ok (.iconst 0, 1) := by decide +kernel
theorem dX8_swaps_1 : decode cX8_swaps 1 = .ok (.istore_n 3, 1) := by decide +kernel
theorem dX8_swaps_2 : decode cX8_swaps 2 = .ok (.iload_n 3, 1) := by decide +kernel
theorem dX8_swaps_3 : decode cX8_swaps 3 = .ok (.aload_n 0, 1) := by decide +kernel
theorem dX8_swaps_4 : decode cX8_swaps 4 = .ok (.getfield 11, 3) := by decide +kernel
theorem dX8_swaps_7 : decode cX8_swaps 7 = .ok (.iconst 0, 1) := by decide +kernel
theorem dX8_swaps_8 : decode cX8_swaps 8 = .ok (.iaload, 1) := by decide +kernel
theorem dX8_swaps_9 : decode cX8_swaps 9 = .ok (.if_icmp .ge 31, 3) := by decide +kernel
theorem dX8_swaps_12 : decode cX8_swaps 12 = .ok (.aload_n 0, 1) := by decide +kernel
theorem dX8_swaps_13 : decode cX8_swaps 13 = .ok (.bipush 57, 2) := by decide +kernel
theorem dX8_swaps_15 : decode cX8_swaps 15 = .ok (.bipush 6, 2) := by decide +kernel
theorem dX8_swaps_17 : decode cX8_swaps 17 = .ok (.iload_n 1, 1) := by decide +kernel
theorem dX8_swaps_18 : decode cX8_swaps 18 = .ok (.imul, 1) := by decide +kernel
theorem dX8_swaps_19 : decode cX8_swaps 19 = .ok (.iadd, 1) := by decide +kernel
theorem dX8_swaps_20 : decode cX8_swaps 20 = .ok (.iload_n 3, 1) := by decide +kernel
theorem dX8_swaps_21 : decode cX8_swaps 21 = .ok (.iadd, 1) := by decide +kernel
theorem dX8_swaps_22 : decode cX8_swaps 22 = .ok (.bipush 57, 2) := by decide +kernel
theorem dX8_swaps_24 : decode cX8_swaps 24 = .ok (.bipush 6, 2) := by decide +kernel
theorem dX8_swaps_26 : decode cX8_swaps 26 = .ok (.iload_n 2, 1) := by decide +kernel
theorem dX8_swaps_27 : decode cX8_swaps 27 = .ok (.imul, 1) := by decide +kernel
theorem dX8_swaps_28 : decode cX8_swaps 28 = .ok (.iadd, 1) := by decide +kernel
theorem dX8_swaps_29 : decode cX8_swaps 29 = .ok (.iload_n 3, 1) := by decide +kernel
theorem dX8_swaps_30 : decode cX8_swaps 30 = .ok (.iadd, 1) := by decide +kernel
theorem dX8_swaps_31 : decode cX8_swaps 31 = .ok (.invokevirtual 70, 3) := by decide +kernel
theorem dX8_swaps_34 : decode cX8_swaps 34 = .ok (.iinc 3 1, 3) := by decide +kernel
theorem dX8_swaps_37 : decode cX8_swaps 37 = .ok (.goto (-35), 3) := by decide +kernel
theorem dX8_swaps_40 : decode cX8_swaps 40 = .ok (.return_, 1) := by decide +kernel
set_option maxRecDepth 20000 in
theorem ggX8_turns_X8_at : GoodIn wsX8_turns wsX8_at := goodIn_r _ [5] (by decide +kernel) (by decide +kernel)
set_option maxRecDepth 20000 in
theorem gX8_turns_X8_at : GoodIn wsX8_turns (wsV RX8 55 RX8 yX8_at wsX8_at) := goodIn_app (goodIn_of _ (by decide +kernel)) ggX8_turns_X8_at
set_option maxRecDepth 20000 in
theorem ggX8_turns_X8_exchanges : GoodIn wsX8_turns wsX8_exchanges := goodIn_r _ [9, 10, 11, 12, 13, 14, 15, 16, 17, 18, 19, 20, 21, 22, 23, 24, 25] (by decide +kernel) (by decide +kernel)
set_option maxRecDepth 20000 in
theorem gX8_turns_X8_exchanges : GoodIn wsX8_turns (wsV RX8 70 RX8 yX8_exchanges wsX8_exchanges) := goodIn_app (goodIn_of _ (by decide +kernel)) ggX8_turns_X8_exchanges
theorem dX8_turns_0 : decode cX8_turns 0 = .ok (.aload_n 0, 1) := by decide +kernel
theorem dX8_turns_1 : decode cX8_turns 1 = .ok (.aload_n 0, 1) := by decide +kernel
theorem dX8_turns_2 : decode cX8_turns 2 = .ok (.iload_n 1, 1) := by decide +kernel
theorem dX8_turns_3 : decode cX8_turns 3 = .ok (.iload_n 2, 1) := by decide +kernel
theorem dX8_turns_4 : decode cX8_turns 4 = .ok (.iconst 0, 1) := by decide +kernel
theorem dX8_turns_5 : decode cX8_turns 5 = .ok (.invokevirtual 55, 3) := by decide +kernel
theorem dX8_turns_8 : decode cX8_turns 8 = .ok (.aload_n 0, 1) := by decide +kernel
theorem dX8_turns_9 : decode cX8_turns 9 = .ok (.iload_n 1, 1) := by decide +kernel
theorem dX8_turns_10 : decode cX8_turns 10 = .ok (.iload_n 2, 1) := by decide +kernel
theorem dX8_turns_11 : decode cX8_turns 11 = .ok (.iconst 1, 1) := by decide +kernel
theorem dX8_turns_12 : decode cX8_turns 12 = .ok (.invokevirtual 55, 3) := by decide +kernel
theorem dX8_turns_15 : decode cX8_turns 15 = .ok (.invokevirtual 70, 3) := by decide +kernel
theorem dX8_turns_18 : decode cX8_turns 18 = .ok (.return_, 1) := by decide +kernel
set_option maxRecDepth 20000 in
theorem ggX8_stands_X8_rounds : GoodIn wsX8_stands wsX8_rounds := goodIn_r _ [6, 1, 7, 8, 9, 10, 11, 12, 13, 14, 15, 16, 17, 18, 19, 20, 21] (by decide +kernel) (by decide +kernel)
set_option maxRecDepth 20000 in
theorem gX8_stands_X8_rounds : GoodIn wsX8_stands (wsV RX8 51 RX8 yX8_rounds wsX8_rounds) := goodIn_app (goodIn_of _ (by decide +kernel)) ggX8_stands_X8_rounds
theorem dX8_stands_0 : decode cX8_stands 0 = .ok (.iconst 0, 1) := by decide +kernel
theorem dX8_stands_1 : decode cX8_stands 1 = .ok (.istore_n 3, 1) := by decide +kernel
theorem dX8_stands_2 : decode cX8_stands 2 = .ok (.iload_n 3, 1) := by decide +kernel
theorem dX8_stands_3 : decode cX8_stands 3 = .ok (.aload_n 0, 1) := by decide +kernel
theorem dX8_stands_4 : decode cX8_stands 4 = .ok (.invokevirtual 51, 3) := by decide +kernel
theorem dX8_stands_7 : decode cX8_stands 7 = .ok (.if_icmp .ge 85, 3) := by decide +kernel
theorem dX8_stands_10 : decode cX8_stands 10 = .ok (.iconst 0, 1) := by decide +kernel
theorem dX8_stands_11 : decode cX8_stands 11 = .ok (.istore 4, 2) := by decide +kernel
theorem dX8_stands_13 : decode cX8_stands 13 = .ok (.iload 4, 2) := by decide +kernel
theorem dX8_stands_15 : decode cX8_stands 15 = .ok (.aload_n 0, 1) := by decide +kernel
theorem dX8_stands_16 : decode cX8_stands 16 = .ok (.getfield 11, 3) := by decide +kernel
theorem dX8_stands_19 : decode cX8_stands 19 = .ok (.iconst 0, 1) := by decide +kernel
theorem dX8_stands_20 : decode cX8_stands 20 = .ok (.iaload, 1) := by decide +kernel
theorem dX8_stands_21 : decode cX8_stands 21 = .ok (.if_icmp .ge 65, 3) := by decide +kernel
theorem dX8_stands_24 : decode cX8_stands 24 = .ok (.bipush 57, 2) := by decide +kernel
theorem dX8_stands_26 : decode cX8_stands 26 = .ok (.bipush 6, 2) := by decide +kernel
theorem dX8_stands_28 : decode cX8_stands 28 = .ok (.iload_n 3, 1) := by decide +kernel
theorem dX8_stands_29 : decode cX8_stands 29 = .ok (.imul, 1) := by decide +kernel
theorem dX8_stands_30 : decode cX8_stands 30 = .ok (.iadd, 1) := by decide +kernel
theorem dX8_stands_31 : decode cX8_stands 31 = .ok (.iload 4, 2) := by decide +kernel
theorem dX8_stands_33 : decode cX8_stands 33 = .ok (.iadd, 1) := by decide +kernel
theorem dX8_stands_34 : decode cX8_stands 34 = .ok (.istore 5, 2) := by decide +kernel
theorem dX8_stands_36 : decode cX8_stands 36 = .ok (.aload_n 0, 1) := by decide +kernel
theorem dX8_stands_37 : decode cX8_stands 37 = .ok (.getfield 11, 3) := by decide +kernel
theorem dX8_stands_40 : decode cX8_stands 40 = .ok (.iload 5, 2) := by decide +kernel
theorem dX8_stands_42 : decode cX8_stands 42 = .ok (.aload_n 0, 1) := by decide +kernel
theorem dX8_stands_43 : decode cX8_stands 43 = .ok (.getfield 11, 3) := by decide +kernel
theorem dX8_stands_46 : decode cX8_stands 46 = .ok (.iload 5, 2) := by decide +kernel
theorem dX8_stands_48 : decode cX8_stands 48 = .ok (.iaload, 1) := by decide +kernel
theorem dX8_stands_49 : decode cX8_stands 49 = .ok (.iload_n 1, 1) := by decide +kernel
theorem dX8_stands_50 : decode cX8_stands 50 = .ok (.if_icmp .ne 7, 3) := by decide +kernel
theorem dX8_stands_53 : decode cX8_stands 53 = .ok (.iload_n 2, 1) := by decide +kernel
theorem dX8_stands_54 : decode cX8_stands 54 = .ok (.goto 25, 3) := by decide +kernel
theorem dX8_stands_57 : decode cX8_stands 57 = .ok (.aload_n 0, 1) := by decide +kernel
theorem dX8_stands_58 : decode cX8_stands 58 = .ok (.getfield 11, 3) := by decide +kernel
theorem dX8_stands_61 : decode cX8_stands 61 = .ok (.iload 5, 2) := by decide +kernel
theorem dX8_stands_63 : decode cX8_stands 63 = .ok (.iaload, 1) := by decide +kernel
theorem dX8_stands_64 : decode cX8_stands 64 = .ok (.iload_n 2, 1) := by decide +kernel
theorem dX8_stands_65 : decode cX8_stands 65 = .ok (.if_icmp .ne 7, 3) := by decide +kernel
theorem dX8_stands_68 : decode cX8_stands 68 = .ok (.iload_n 1, 1) := by decide +kernel
theorem dX8_stands_69 : decode cX8_stands 69 = .ok (.goto 10, 3) := by decide +kernel
theorem dX8_stands_72 : decode cX8_stands 72 = .ok (.aload_n 0, 1) := by decide +kernel
theorem dX8_stands_73 : decode cX8_stands 73 = .ok (.getfield 11, 3) := by decide +kernel
theorem dX8_stands_76 : decode cX8_stands 76 = .ok (.iload 5, 2) := by decide +kernel
theorem dX8_stands_78 : decode cX8_stands 78 = .ok (.iaload, 1) := by decide +kernel
theorem dX8_stands_79 : decode cX8_stands 79 = .ok (.iastore, 1) := by decide +kernel
theorem dX8_stands_80 : decode cX8_stands 80 = .ok (.iinc 4 1, 3) := by decide +kernel
theorem dX8_stands_83 : decode cX8_stands 83 = .ok (.goto (-70), 3) := by decide +kernel
theorem dX8_stands_86 : decode cX8_stands 86 = .ok (.iinc 3 1, 3) := by decide +kernel
theorem dX8_stands_89 : decode cX8_stands 89 = .ok (.goto (-87), 3) := by decide +kernel
theorem dX8_stands_92 : decode cX8_stands 92 = .ok (.return_, 1) := by decide +kernel
set_option maxRecDepth 20000 in
theorem ggX8_swap_X8_isRound : GoodIn wsX8_swap wsX8_isRound := goodIn_r _ [5, 6, 7, 8, 4, 9, 10, 11, 12, 13, 38, 39, 40, 41, 42, 43, 44, 45, 46, 47, 48, 49, 50, 51, 52] (by decide +kernel) (by decide +kernel)
set_option maxRecDepth 20000 in
theorem gX8_swap_X8_isRound : GoodIn wsX8_swap (wsV RX8 74 RX8 yX8_isRound wsX8_isRound) := goodIn_app (goodIn_of _ (by decide +kernel)) ggX8_swap_X8_isRound
set_option maxRecDepth 20000 in
theorem ggX8_swap_X8_swaps : GoodIn wsX8_swap wsX8_swaps := goodIn_r _ [17, 10, 18, 19, 20, 4, 21, 38, 39, 40, 41, 42, 43, 44, 45, 46, 47, 48, 49, 50, 51, 52] (by decide +kernel) (by decide +kernel)
set_option maxRecDepth 20000 in
theorem gX8_swap_X8_swaps : GoodIn wsX8_swap (wsV RX8 77 RX8 yX8_swaps wsX8_swaps) := goodIn_app (goodIn_of _ (by decide +kernel)) ggX8_swap_X8_swaps
set_option maxRecDepth 20000 in
theorem ggX8_swap_X8_allBreaks : GoodIn wsX8_swap wsX8_allBreaks := goodIn_r _ [25, 10, 26, 27, 28, 4, 29, 6, 7, 8, 9, 30, 31, 32, 33, 34, 35, 36, 37, 38, 39, 40, 41, 42, 43, 44, 45, 46, 47, 48, 49, 50, 51, 52] (by decide +kernel) (by decide +kernel)
set_option maxRecDepth 20000 in
theorem gX8_swap_X8_allBreaks : GoodIn wsX8_swap (wsV RX8 80 RX8 yX8_allBreaks wsX8_allBreaks) := goodIn_app (goodIn_of _ (by decide +kernel)) ggX8_swap_X8_allBreaks
theorem dX8_swap_0 : decode cX8_swap 0 = .ok (.aload_n 0, 1) := by decide +kernel
theorem dX8_swap_1 : decode cX8_swap 1 = .ok (.iload_n 1, 1) := by decide +kernel
theorem dX8_swap_2 : decode cX8_swap 2 = .ok (.invokevirtual 74, 3) := by decide +kernel
theorem dX8_swap_5 : decode cX8_swap 5 = .ok (.ifCond .eq 11, 3) := by decide +kernel
theorem dX8_swap_8 : decode cX8_swap 8 = .ok (.aload_n 0, 1) := by decide +kernel
theorem dX8_swap_9 : decode cX8_swap 9 = .ok (.iload_n 2, 1) := by decide +kernel
theorem dX8_swap_10 : decode cX8_swap 10 = .ok (.invokevirtual 74, 3) := by decide +kernel
theorem dX8_swap_13 : decode cX8_swap 13 = .ok (.ifCond .ne 5, 3) := by decide +kernel
theorem dX8_swap_16 : decode cX8_swap 16 = .ok (.iconst (-1), 1) := by decide +kernel
theorem dX8_swap_17 : decode cX8_swap 17 = .ok (.ireturn, 1) := by decide +kernel
theorem dX8_swap_18 : decode cX8_swap 18 = .ok (.aload_n 0, 1) := by decide +kernel
theorem dX8_swap_19 : decode cX8_swap 19 = .ok (.iload_n 1, 1) := by decide +kernel
theorem dX8_swap_20 : decode cX8_swap 20 = .ok (.iload_n 2, 1) := by decide +kernel
theorem dX8_swap_21 : decode cX8_swap 21 = .ok (.invokevirtual 77, 3) := by decide +kernel
theorem dX8_swap_24 : decode cX8_swap 24 = .ok (.aload_n 0, 1) := by decide +kernel
theorem dX8_swap_25 : decode cX8_swap 25 = .ok (.invokevirtual 80, 3) := by decide +kernel
theorem dX8_swap_28 : decode cX8_swap 28 = .ok (.ireturn, 1) := by decide +kernel
set_option maxRecDepth 20000 in
theorem ggX8_turn_X8_isRound : GoodIn wsX8_turn wsX8_isRound := goodIn_r _ [5, 6, 7, 8, 4, 9, 10, 11, 12, 13, 34, 35, 36, 37, 38, 39, 40, 41, 42, 43, 44, 45, 46, 47, 48] (by decide +kernel) (by decide +kernel)
set_option maxRecDepth 20000 in
theorem gX8_turn_X8_isRound : GoodIn wsX8_turn (wsV RX8 74 RX8 yX8_isRound wsX8_isRound) := goodIn_app (goodIn_of _ (by decide +kernel)) ggX8_turn_X8_isRound
set_option maxRecDepth 20000 in
theorem ggX8_turn_X8_isGame : GoodIn wsX8_turn wsX8_isGame := goodIn_r _ [17, 10, 11, 12, 4, 13, 34, 35, 36, 37, 38, 39, 40, 41, 42, 43, 44, 45, 46, 47, 48] (by decide +kernel) (by decide +kernel)
set_option maxRecDepth 20000 in
theorem gX8_turn_X8_isGame : GoodIn wsX8_turn (wsV RX8 83 RX8 yX8_isGame wsX8_isGame) := goodIn_app (goodIn_of _ (by decide +kernel)) ggX8_turn_X8_isGame
set_option maxRecDepth 20000 in
theorem ggX8_turn_X8_turns : GoodIn wsX8_turn wsX8_turns := goodIn_r _ [21, 22, 23, 24, 4, 25, 26, 27, 28, 29, 10, 34, 35, 36, 37, 38, 39, 40, 41, 42, 43, 44, 45, 46, 47, 48] (by decide +kernel) (by decide +kernel)
set_option maxRecDepth 20000 in
theorem gX8_turn_X8_turns : GoodIn wsX8_turn (wsV RX8 86 RX8 yX8_turns wsX8_turns) := goodIn_app (goodIn_of _ (by decide +kernel)) ggX8_turn_X8_turns
set_option maxRecDepth 20000 in
theorem ggX8_turn_X8_who : GoodIn wsX8_turn wsX8_who := goodIn_r _ [33, 10, 22, 23, 24, 4, 25, 34, 35, 36, 37, 38, 39, 40, 41, 42, 43, 44, 45, 46, 47, 48] (by decide +kernel) (by decide +kernel)
set_option maxRecDepth 20000 in
theorem gX8_turn_X8_who : GoodIn wsX8_turn (wsV RX8 89 RX8 yX8_who wsX8_who) := goodIn_app (goodIn_of _ (by decide +kernel)) ggX8_turn_X8_who
theorem dX8_turn_0 : decode cX8_turn 0 = .ok (.aload_n 0, 1) := by decide +kernel
theorem dX8_turn_1 : decode cX8_turn 1 = .ok (.iload_n 1, 1) := by decide +kernel
theorem dX8_turn_2 : decode cX8_turn 2 = .ok (.invokevirtual 74, 3) := by decide +kernel
theorem dX8_turn_5 : decode cX8_turn 5 = .ok (.ifCond .eq 11, 3) := by decide +kernel
theorem dX8_turn_8 : decode cX8_turn 8 = .ok (.aload_n 0, 1) := by decide +kernel
theorem dX8_turn_9 : decode cX8_turn 9 = .ok (.iload_n 2, 1) := by decide +kernel
theorem dX8_turn_10 : decode cX8_turn 10 = .ok (.invokevirtual 83, 3) := by decide +kernel
theorem dX8_turn_13 : decode cX8_turn 13 = .ok (.ifCond .ne 5, 3) := by decide +kernel
theorem dX8_turn_16 : decode cX8_turn 16 = .ok (.iconst (-1), 1) := by decide +kernel
theorem dX8_turn_17 : decode cX8_turn 17 = .ok (.ireturn, 1) := by decide +kernel
theorem dX8_turn_18 : decode cX8_turn 18 = .ok (.aload_n 0, 1) := by decide +kernel
theorem dX8_turn_19 : decode cX8_turn 19 = .ok (.iload_n 1, 1) := by decide +kernel
theorem dX8_turn_20 : decode cX8_turn 20 = .ok (.iload_n 2, 1) := by decide +kernel
theorem dX8_turn_21 : decode cX8_turn 21 = .ok (.invokevirtual 86, 3) := by decide +kernel
theorem dX8_turn_24 : decode cX8_turn 24 = .ok (.aload_n 0, 1) := by decide +kernel
theorem dX8_turn_25 : decode cX8_turn 25 = .ok (.iload_n 1, 1) := by decide +kernel
theorem dX8_turn_26 : decode cX8_turn 26 = .ok (.iload_n 2, 1) := by decide +kernel
theorem dX8_turn_27 : decode cX8_turn 27 = .ok (.iconst 0, 1) := by decide +kernel
theorem dX8_turn_28 : decode cX8_turn 28 = .ok (.invokevirtual 89, 3) := by decide +kernel
theorem dX8_turn_31 : decode cX8_turn 31 = .ok (.ireturn, 1) := by decide +kernel
set_option maxRecDepth 20000 in
theorem ggX8_exchange_X8_isTeam : GoodIn wsX8_exchange wsX8_isTeam := goodIn_r _ [6, 1, 7, 8, 5, 9, 30, 31, 32, 33, 34, 35, 36, 37, 38, 39, 40, 41, 42, 43, 44] (by decide +kernel) (by decide +kernel)
set_option maxRecDepth 20000 in
theorem gX8_exchange_X8_isTeam : GoodIn wsX8_exchange (wsV RX8 63 RX8 yX8_isTeam wsX8_isTeam) := goodIn_app (goodIn_of _ (by decide +kernel)) ggX8_exchange_X8_isTeam
set_option maxRecDepth 20000 in
theorem ggX8_exchange_X8_stands : GoodIn wsX8_exchange wsX8_stands := goodIn_r _ [13, 1, 14, 15, 16, 5, 17, 30, 31, 32, 33, 34, 35, 36, 37, 38, 39, 40, 41, 42, 43, 44] (by decide +kernel) (by decide +kernel)
set_option maxRecDepth 20000 in
theorem gX8_exchange_X8_stands : GoodIn wsX8_exchange (wsV RX8 92 RX8 yX8_stands wsX8_stands) := goodIn_app (goodIn_of _ (by decide +kernel)) ggX8_exchange_X8_stands
set_option maxRecDepth 20000 in
theorem ggX8_exchange_X8_when : GoodIn wsX8_exchange wsX8_when := goodIn_r _ [21, 2, 3, 4, 5, 6, 1, 7, 8, 9, 14, 15, 16, 17, 22, 23, 24, 25, 26, 27, 28, 29, 30, 31, 32, 33, 34, 35, 36, 37, 38, 39, 40, 41, 42, 43, 44] (by decide +kernel) (by decide +kernel)
set_option maxRecDepth 20000 in
theorem gX8_exchange_X8_when : GoodIn wsX8_exchange (wsV RX8 95 RX8 yX8_when wsX8_when) := goodIn_app (goodIn_of _ (by decide +kernel)) ggX8_exchange_X8_when
theorem dX8_exchange_0 : decode cX8_exchange 0 = .ok (.aload_n 0, 1) := by decide +kernel
theorem dX8_exchange_1 : decode cX8_exchange 1 = .ok (.iload_n 1, 1) := by decide +kernel
theorem dX8_exchange_2 : decode cX8_exchange 2 = .ok (.invokevirtual 63, 3) := by decide +kernel
theorem dX8_exchange_5 : decode cX8_exchange 5 = .ok (.ifCond .eq 11, 3) := by decide +kernel
theorem dX8_exchange_8 : decode cX8_exchange 8 = .ok (.aload_n 0, 1) := by decide +kernel
theorem dX8_exchange_9 : decode cX8_exchange 9 = .ok (.iload_n 2, 1) := by decide +kernel
theorem dX8_exchange_10 : decode cX8_exchange 10 = .ok (.invokevirtual 63, 3) := by decide +kernel
theorem dX8_exchange_13 : decode cX8_exchange 13 = .ok (.ifCond .ne 5, 3) := by decide +kernel
theorem dX8_exchange_16 : decode cX8_exchange 16 = .ok (.iconst (-1), 1) := by decide +kernel
theorem dX8_exchange_17 : decode cX8_exchange 17 = .ok (.ireturn, 1) := by decide +kernel
theorem dX8_exchange_18 : decode cX8_exchange 18 = .ok (.aload_n 0, 1) := by decide +kernel
theorem dX8_exchange_19 : decode cX8_exchange 19 = .ok (.iload_n 1, 1) := by decide +kernel
theorem dX8_exchange_20 : decode cX8_exchange 20 = .ok (.iload_n 2, 1) := by decide +kernel
theorem dX8_exchange_21 : decode cX8_exchange 21 = .ok (.invokevirtual 92, 3) := by decide +kernel
theorem dX8_exchange_24 : decode cX8_exchange 24 = .ok (.iload_n 1, 1) := by decide +kernel
theorem dX8_exchange_25 : decode cX8_exchange 25 = .ok (.iload_n 2, 1) := by decide +kernel
theorem dX8_exchange_26 : decode cX8_exchange 26 = .ok (.if_icmp .ne 14, 3) := by decide +kernel
theorem dX8_exchange_29 : decode cX8_exchange 29 = .ok (.aload_n 0, 1) := by decide +kernel
theorem dX8_exchange_30 : decode cX8_exchange 30 = .ok (.getfield 11, 3) := by decide +kernel
theorem dX8_exchange_33 : decode cX8_exchange 33 = .ok (.iconst 0, 1) := by decide +kernel
theorem dX8_exchange_34 : decode cX8_exchange 34 = .ok (.iaload, 1) := by decide +kernel
theorem dX8_exchange_35 : decode cX8_exchange 35 = .ok (.iconst 1, 1) := by decide +kernel
theorem dX8_exchange_36 : decode cX8_exchange 36 = .ok (.isub, 1) := by decide +kernel
theorem dX8_exchange_37 : decode cX8_exchange 37 = .ok (.goto 9, 3) := by decide +kernel
theorem dX8_exchange_40 : decode cX8_exchange 40 = .ok (.aload_n 0, 1) := by decide +kernel
theorem dX8_exchange_41 : decode cX8_exchange 41 = .ok (.iload_n 1, 1) := by decide +kernel
theorem dX8_exchange_42 : decode cX8_exchange 42 = .ok (.iload_n 2, 1) := by decide +kernel
theorem dX8_exchange_43 : decode cX8_exchange 43 = .ok (.invokevirtual 95, 3) := by decide +kernel
theorem dX8_exchange_46 : decode cX8_exchange 46 = .ok (.ireturn, 1) := by decide +kernel
set_option maxRecDepth 20000 in
theorem ggX8_bar_X8_isTeam : GoodIn wsX8_bar wsX8_isTeam := goodIn_r _ [6, 1, 7, 8, 5, 9, 18, 19, 20, 21, 22, 23, 24, 25, 26, 27, 28, 29, 30, 31, 32] (by decide +kernel) (by decide +kernel)
set_option maxRecDepth 20000 in
theorem gX8_bar_X8_isTeam : GoodIn wsX8_bar (wsV RX8 63 RX8 yX8_isTeam wsX8_isTeam) := goodIn_app (goodIn_of _ (by decide +kernel)) ggX8_bar_X8_isTeam
set_option maxRecDepth 20000 in
theorem ggX8_bar_X8_isRound : GoodIn wsX8_bar wsX8_isRound := goodIn_r _ [13, 14, 15, 16, 5, 17, 1, 7, 8, 9, 18, 19, 20, 21, 22, 23, 24, 25, 26, 27, 28, 29, 30, 31, 32] (by decide +kernel) (by decide +kernel)
set_option maxRecDepth 20000 in
theorem gX8_bar_X8_isRound : GoodIn wsX8_bar (wsV RX8 74 RX8 yX8_isRound wsX8_isRound) := goodIn_app (goodIn_of _ (by decide +kernel)) ggX8_bar_X8_isRound
theorem dX8_bar_0 : decode cX8_bar 0 = .ok (.aload_n 0, 1) := by decide +kernel
theorem dX8_bar_1 : decode cX8_bar 1 = .ok (.iload_n 1, 1) := by decide +kernel
theorem dX8_bar_2 : decode cX8_bar 2 = .ok (.invokevirtual 63, 3) := by decide +kernel
theorem dX8_bar_5 : decode cX8_bar 5 = .ok (.ifCond .eq 11, 3) := by decide +kernel
theorem dX8_bar_8 : decode cX8_bar 8 = .ok (.aload_n 0, 1) := by decide +kernel
theorem dX8_bar_9 : decode cX8_bar 9 = .ok (.iload_n 2, 1) := by decide +kernel
theorem dX8_bar_10 : decode cX8_bar 10 = .ok (.invokevirtual 74, 3) := by decide +kernel
theorem dX8_bar_13 : decode cX8_bar 13 = .ok (.ifCond .ne 5, 3) := by decide +kernel
theorem dX8_bar_16 : decode cX8_bar 16 = .ok (.iconst (-1), 1) := by decide +kernel
theorem dX8_bar_17 : decode cX8_bar 17 = .ok (.ireturn, 1) := by decide +kernel
theorem dX8_bar_18 : decode cX8_bar 18 = .ok (.bipush 21, 2) := by decide +kernel
theorem dX8_bar_20 : decode cX8_bar 20 = .ok (.bipush 6, 2) := by decide +kernel
theorem dX8_bar_22 : decode cX8_bar 22 = .ok (.iload_n 1, 1) := by decide +kernel
theorem dX8_bar_23 : decode cX8_bar 23 = .ok (.imul, 1) := by decide +kernel
theorem dX8_bar_24 : decode cX8_bar 24 = .ok (.iadd, 1) := by decide +kernel
theorem dX8_bar_25 : decode cX8_bar 25 = .ok (.iload_n 2, 1) := by decide +kernel
theorem dX8_bar_26 : decode cX8_bar 26 = .ok (.iadd, 1) := by decide +kernel
theorem dX8_bar_27 : decode cX8_bar 27 = .ok (.istore_n 3, 1) := by decide +kernel
theorem dX8_bar_28 : decode cX8_bar 28 = .ok (.aload_n 0, 1) := by decide +kernel
theorem dX8_bar_29 : decode cX8_bar 29 = .ok (.getfield 11, 3) := by decide +kernel
theorem dX8_bar_32 : decode cX8_bar 32 = .ok (.iload_n 3, 1) := by decide +kernel
theorem dX8_bar_33 : decode cX8_bar 33 = .ok (.iconst 1, 1) := by decide +kernel
theorem dX8_bar_34 : decode cX8_bar 34 = .ok (.aload_n 0, 1) := by decide +kernel
theorem dX8_bar_35 : decode cX8_bar 35 = .ok (.getfield 11, 3) := by decide +kernel
theorem dX8_bar_38 : decode cX8_bar 38 = .ok (.iload_n 3, 1) := by decide +kernel
theorem dX8_bar_39 : decode cX8_bar 39 = .ok (.iaload, 1) := by decide +kernel
theorem dX8_bar_40 : decode cX8_bar 40 = .ok (.isub, 1) := by decide +kernel
theorem dX8_bar_41 : decode cX8_bar 41 = .ok (.iastore, 1) := by decide +kernel
theorem dX8_bar_42 : decode cX8_bar 42 = .ok (.aload_n 0, 1) := by decide +kernel
theorem dX8_bar_43 : decode cX8_bar 43 = .ok (.getfield 11, 3) := by decide +kernel
theorem dX8_bar_46 : decode cX8_bar 46 = .ok (.iload_n 3, 1) := by decide +kernel
theorem dX8_bar_47 : decode cX8_bar 47 = .ok (.iaload, 1) := by decide +kernel
theorem dX8_bar_48 : decode cX8_bar 48 = .ok (.ireturn, 1) := by decide +kernel
set_option maxRecDepth 20000 in
theorem ggX8_rate_X8_isIn : GoodIn wsX8_rate wsX8_isIn := goodIn_r _ [5] (by decide +kernel) (by decide +kernel)
set_option maxRecDepth 20000 in
theorem gX8_rate_X8_isIn : GoodIn wsX8_rate (va_wsS RX8 47 yX8_isIn wsX8_isIn) := goodIn_app (goodIn_of _ (by decide +kernel)) ggX8_rate_X8_isIn
set_option maxRecDepth 20000 in
theorem ggX8_rate_X8_isTwo : GoodIn wsX8_rate wsX8_isTwo := goodIn_r _ [8, 2, 3, 4, 5] (by decide +kernel) (by decide +kernel)
set_option maxRecDepth 20000 in
theorem gX8_rate_X8_isTwo : GoodIn wsX8_rate (va_wsS RX8 67 yX8_isTwo wsX8_isTwo) := goodIn_app (goodIn_of _ (by decide +kernel)) ggX8_rate_X8_isTwo
theorem dX8_rate_0 : decode cX8_rate 0 = .ok (.iload_n 1, 1) := by decide +kernel
theorem dX8_rate_1 : decode cX8_rate 1 = .ok (.iconst 0, 1) := by decide +kernel
theorem dX8_rate_2 : decode cX8_rate 2 = .ok (.iconst 3, 1) := by decide +kernel
theorem dX8_rate_3 : decode cX8_rate 3 = .ok (.invokestatic 47, 3) := by decide +kernel
theorem dX8_rate_6 : decode cX8_rate 6 = .ok (.ifCond .ne 5, 3) := by decide +kernel
theorem dX8_rate_9 : decode cX8_rate 9 = .ok (.iconst (-1), 1) := by decide +kernel
theorem dX8_rate_10 : decode cX8_rate 10 = .ok (.ireturn, 1) := by decide +kernel
theorem dX8_rate_11 : decode cX8_rate 11 = .ok (.iload_n 2, 1) := by decide +kernel
theorem dX8_rate_12 : decode cX8_rate 12 = .ok (.invokestatic 67, 3) := by decide +kernel
theorem dX8_rate_15 : decode cX8_rate 15 = .ok (.ifCond .ne 6, 3) := by decide +kernel
theorem dX8_rate_18 : decode cX8_rate 18 = .ok (.bipush (-2), 2) := by decide +kernel
theorem dX8_rate_20 : decode cX8_rate 20 = .ok (.ireturn, 1) := by decide +kernel
theorem dX8_rate_21 : decode cX8_rate 21 = .ok (.aload_n 0, 1) := by decide +kernel
theorem dX8_rate_22 : decode cX8_rate 22 = .ok (.getfield 11, 3) := by decide +kernel
theorem dX8_rate_25 : decode cX8_rate 25 = .ok (.iconst 5, 1) := by decide +kernel
theorem dX8_rate_26 : decode cX8_rate 26 = .ok (.iload_n 1, 1) := by decide +kernel
theorem dX8_rate_27 : decode cX8_rate 27 = .ok (.iadd, 1) := by decide +kernel
theorem dX8_rate_28 : decode cX8_rate 28 = .ok (.iaload, 1) := by decide +kernel
theorem dX8_rate_29 : decode cX8_rate 29 = .ok (.istore_n 3, 1) := by decide +kernel
theorem dX8_rate_30 : decode cX8_rate 30 = .ok (.aload_n 0, 1) := by decide +kernel
theorem dX8_rate_31 : decode cX8_rate 31 = .ok (.getfield 11, 3) := by decide +kernel
theorem dX8_rate_34 : decode cX8_rate 34 = .ok (.iconst 5, 1) := by decide +kernel
theorem dX8_rate_35 : decode cX8_rate 35 = .ok (.iload_n 1, 1) := by decide +kernel
theorem dX8_rate_36 : decode cX8_rate 36 = .ok (.iadd, 1) := by decide +kernel
theorem dX8_rate_37 : decode cX8_rate 37 = .ok (.iload_n 2, 1) := by decide +kernel
theorem dX8_rate_38 : decode cX8_rate 38 = .ok (.iastore, 1) := by decide +kernel
theorem dX8_rate_39 : decode cX8_rate 39 = .ok (.iload_n 3, 1) := by decide +kernel
theorem dX8_rate_40 : decode cX8_rate 40 = .ok (.ireturn, 1) := by decide +kernel
set_option maxRecDepth 20000 in
theorem ggX8_kind_X8_isIn : GoodIn wsX8_kind wsX8_isIn := goodIn_r _ [5] (by decide +kernel) (by decide +kernel)
set_option maxRecDepth 20000 in
theorem gX8_kind_X8_isIn : GoodIn wsX8_kind (va_wsS RX8 47 yX8_isIn wsX8_isIn) := goodIn_app (goodIn_of _ (by decide +kernel)) ggX8_kind_X8_isIn
theorem dX8_kind_0 : decode cX8_kind 0 = .ok (.iload_n 1, 1) := by decide +kernel
theorem dX8_kind_1 : decode cX8_kind 1 = .ok (.iconst 0, 1) := by decide +kernel
theorem dX8_kind_2 : decode cX8_kind 2 = .ok (.iconst 2, 1) := by decide +kernel
theorem dX8_kind_3 : decode cX8_kind 3 = .ok (.invokestatic 47, 3) := by decide +kernel
theorem dX8_kind_6 : decode cX8_kind 6 = .ok (.ifCond .ne 6, 3) := by decide +kernel
theorem dX8_kind_9 : decode cX8_kind 9 = .ok (.bipush (-2), 2) := by decide +kernel
theorem dX8_kind_11 : decode cX8_kind 11 = .ok (.ireturn, 1) := by decide +kernel
theorem dX8_kind_12 : decode cX8_kind 12 = .ok (.aload_n 0, 1) := by decide +kernel
theorem dX8_kind_13 : decode cX8_kind 13 = .ok (.getfield 11, 3) := by decide +kernel
theorem dX8_kind_16 : decode cX8_kind 16 = .ok (.iconst 1, 1) := by decide +kernel
theorem dX8_kind_17 : decode cX8_kind 17 = .ok (.iaload, 1) := by decide +kernel
theorem dX8_kind_18 : decode cX8_kind 18 = .ok (.istore_n 2, 1) := by decide +kernel
theorem dX8_kind_19 : decode cX8_kind 19 = .ok (.aload_n 0, 1) := by decide +kernel
theorem dX8_kind_20 : decode cX8_kind 20 = .ok (.getfield 11, 3) := by decide +kernel
theorem dX8_kind_23 : decode cX8_kind 23 = .ok (.iconst 1, 1) := by decide +kernel
theorem dX8_kind_24 : decode cX8_kind 24 = .ok (.iload_n 1, 1) := by decide +kernel
theorem dX8_kind_25 : decode cX8_kind 25 = .ok (.iastore, 1) := by decide +kernel
theorem dX8_kind_26 : decode cX8_kind 26 = .ok (.iload_n 2, 1) := by decide +kernel
theorem dX8_kind_27 : decode cX8_kind 27 = .ok (.ireturn, 1) := by decide +kernel
set_option maxRecDepth 20000 in
theorem ggX8_feed_X8_isIn : GoodIn wsX8_feed wsX8_isIn := goodIn_r _ [6] (by decide +kernel) (by decide +kernel)
set_option maxRecDepth 20000 in
theorem gX8_feed_X8_isIn : GoodIn wsX8_feed (va_wsS RX8 47 yX8_isIn wsX8_isIn) := goodIn_app (goodIn_of _ (by decide +kernel)) ggX8_feed_X8_isIn
theorem dX8_feed_0 : decode cX8_feed 0 = .ok (.iload_n 1, 1) := by decide +kernel
theorem dX8_feed_1 : decode cX8_feed 1 = .ok (.iconst 0, 1) := by decide +kernel
theorem dX8_feed_2 : decode cX8_feed 2 = .ok (.bipush 127, 2) := by decide +kernel
theorem dX8_feed_4 : decode cX8_feed 4 = .ok (.invokestatic 47, 3) := by decide +kernel
theorem dX8_feed_7 : decode cX8_feed 7 = .ok (.ifCond .ne 6, 3) := by decide +kernel
theorem dX8_feed_10 : decode cX8_feed 10 = .ok (.bipush (-2), 2) := by decide +kernel
theorem dX8_feed_12 : decode cX8_feed 12 = .ok (.ireturn, 1) := by decide +kernel
theorem dX8_feed_13 : decode cX8_feed 13 = .ok (.aload_n 0, 1) := by decide +kernel
theorem dX8_feed_14 : decode cX8_feed 14 = .ok (.getfield 99, 3) := by decide +kernel
theorem dX8_feed_17 : decode cX8_feed 17 = .ok (.bipush 100, 2) := by decide +kernel
theorem dX8_feed_19 : decode cX8_feed 19 = .ok (.if_icmp .ne 6, 3) := by decide +kernel
theorem dX8_feed_22 : decode cX8_feed 22 = .ok (.bipush (-4), 2) := by decide +kernel
theorem dX8_feed_24 : decode cX8_feed 24 = .ok (.ireturn, 1) := by decide +kernel
theorem dX8_feed_25 : decode cX8_feed 25 = .ok (.aload_n 0, 1) := by decide +kernel
theorem dX8_feed_26 : decode cX8_feed 26 = .ok (.getfield 21, 3) := by decide +kernel
theorem dX8_feed_29 : decode cX8_feed 29 = .ok (.aload_n 0, 1) := by decide +kernel
theorem dX8_feed_30 : decode cX8_feed 30 = .ok (.getfield 99, 3) := by decide +kernel
theorem dX8_feed_33 : decode cX8_feed 33 = .ok (.iload_n 1, 1) := by decide +kernel
theorem dX8_feed_34 : decode cX8_feed 34 = .ok (.iastore, 1) := by decide +kernel
theorem dX8_feed_35 : decode cX8_feed 35 = .ok (.aload_n 0, 1) := by decide +kernel
theorem dX8_feed_36 : decode cX8_feed 36 = .ok (.dup, 1) := by decide +kernel
theorem dX8_feed_37 : decode cX8_feed 37 = .ok (.getfield 99, 3) := by decide +kernel
theorem dX8_feed_40 : decode cX8_feed 40 = .ok (.iconst 1, 1) := by decide +kernel
theorem dX8_feed_41 : decode cX8_feed 41 = .ok (.iadd, 1) := by decide +kernel
theorem dX8_feed_42 : decode cX8_feed 42 = .ok (.putfield 99, 3) := by decide +kernel
theorem dX8_feed_45 : decode cX8_feed 45 = .ok (.aload_n 0, 1) := by decide +kernel
theorem dX8_feed_46 : decode cX8_feed 46 = .ok (.getfield 99, 3) := by decide +kernel
theorem dX8_feed_49 : decode cX8_feed 49 = .ok (.ireturn, 1) := by decide +kernel
theorem dX8_peek_0 : decode cX8_peek 0 = .ok (.aload_n 0, 1) := by decide +kernel
theorem dX8_peek_1 : decode cX8_peek 1 = .ok (.getfield 103, 3) := by decide +kernel
theorem dX8_peek_4 : decode cX8_peek 4 = .ok (.aload_n 0, 1) := by decide +kernel
theorem dX8_peek_5 : decode cX8_peek 5 = .ok (.getfield 99, 3) := by decide +kernel
theorem dX8_peek_8 : decode cX8_peek 8 = .ok (.if_icmp .ge 15, 3) := by decide +kernel
theorem dX8_peek_11 : decode cX8_peek 11 = .ok (.aload_n 0, 1) := by decide +kernel
theorem dX8_peek_12 : decode cX8_peek 12 = .ok (.getfield 21, 3) := by decide +kernel
theorem dX8_peek_15 : decode cX8_peek 15 = .ok (.aload_n 0, 1) := by decide +kernel
theorem dX8_peek_16 : decode cX8_peek 16 = .ok (.getfield 103, 3) := by decide +kernel
theorem dX8_peek_19 : decode cX8_peek 19 = .ok (.iaload, 1) := by decide +kernel
theorem dX8_peek_20 : decode cX8_peek 20 = .ok (.goto 4, 3) := by decide +kernel
theorem dX8_peek_23 : decode cX8_peek 23 = .ok (.iconst (-1), 1) := by decide +kernel
theorem dX8_peek_24 : decode cX8_peek 24 = .ok (.ireturn, 1) := by decide +kernel
theorem dX8_fails_0 : decode cX8_fails 0 = .ok (.aload_n 0, 1) := by decide +kernel
theorem dX8_fails_1 : decode cX8_fails 1 = .ok (.aload_n 0, 1) := by decide +kernel
theorem dX8_fails_2 : decode cX8_fails 2 = .ok (.getfield 106, 3) := by decide +kernel
theorem dX8_fails_5 : decode cX8_fails 5 = .ok (.ifCond .ge 7, 3) := by decide +kernel
theorem dX8_fails_8 : decode cX8_fails 8 = .ok (.iload_n 1, 1) := by decide +kernel
theorem dX8_fails_9 : decode cX8_fails 9 = .ok (.goto 7, 3) := by decide +kernel
theorem dX8_fails_12 : decode cX8_fails 12 = .ok (.aload_n 0, 1) := by decide +kernel
theorem dX8_fails_13 : decode cX8_fails 13 = .ok (.getfield 106, 3) := by decide +kernel
theorem dX8_fails_16 : decode cX8_fails 16 = .ok (.putfield 106, 3) := by decide +kernel
theorem dX8_fails_19 : decode cX8_fails 19 = .ok (.return_, 1) := by decide +kernel
set_option maxRecDepth 20000 in
theorem ggX8_takes_X8_peek : GoodIn wsX8_takes wsX8_peek := goodIn_r _ [7, 2, 8, 9, 14, 15, 16, 17, 18, 19, 20, 21, 22, 23, 24, 25, 26, 27, 28] (by decide +kernel) (by decide +kernel)
set_option maxRecDepth 20000 in
theorem gX8_takes_X8_peek : GoodIn wsX8_takes (wsV RX8 109 RX8 yX8_peek wsX8_peek) := goodIn_app (goodIn_of _ (by decide +kernel)) ggX8_takes_X8_peek
set_option maxRecDepth 20000 in
theorem ggX8_takes_X8_fails : GoodIn wsX8_takes wsX8_fails := goodIn_r _ [13, 1, 14, 15, 16, 17, 18, 19, 20, 21, 22, 23, 24, 25, 26, 27, 28] (by decide +kernel) (by decide +kernel)
set_option maxRecDepth 20000 in
theorem gX8_takes_X8_fails : GoodIn wsX8_takes (wsV RX8 112 RX8 yX8_fails wsX8_fails) := goodIn_app (goodIn_of _ (by decide +kernel)) ggX8_takes_X8_fails
theorem dX8_takes_0 : decode cX8_takes 0 = .ok (.aload_n 0, 1) := by decide +kernel
theorem dX8_takes_1 : decode cX8_takes 1 = .ok (.getfield 106, 3) := by decide +kernel
theorem dX8_takes_4 : decode cX8_takes 4 = .ok (.ifCond .ge 24, 3) := by decide +kernel
theorem dX8_takes_7 : decode cX8_takes 7 = .ok (.aload_n 0, 1) := by decide +kernel
theorem dX8_takes_8 : decode cX8_takes 8 = .ok (.invokevirtual 109, 3) := by decide +kernel
theorem dX8_takes_11 : decode cX8_takes 11 = .ok (.iload_n 1, 1) := by decide +kernel
theorem dX8_takes_12 : decode cX8_takes 12 = .ok (.if_icmp .ne 16, 3) := by decide +kernel
theorem dX8_takes_15 : decode cX8_takes 15 = .ok (.aload_n 0, 1) := by decide +kernel
theorem dX8_takes_16 : decode cX8_takes 16 = .ok (.dup, 1) := by decide +kernel
theorem dX8_takes_17 : decode cX8_takes 17 = .ok (.getfield 103, 3) := by decide +kernel
theorem dX8_takes_20 : decode cX8_takes 20 = .ok (.iconst 1, 1) := by decide +kernel
theorem dX8_takes_21 : decode cX8_takes 21 = .ok (.iadd, 1) := by decide +kernel
theorem dX8_takes_22 : decode cX8_takes 22 = .ok (.putfield 103, 3) := by decide +kernel
theorem dX8_takes_25 : decode cX8_takes 25 = .ok (.goto 11, 3) := by decide +kernel
theorem dX8_takes_28 : decode cX8_takes 28 = .ok (.aload_n 0, 1) := by decide +kernel
theorem dX8_takes_29 : decode cX8_takes 29 = .ok (.aload_n 0, 1) := by decide +kernel
theorem dX8_takes_30 : decode cX8_takes 30 = .ok (.getfield 103, 3) := by decide +kernel
theorem dX8_takes_33 : decode cX8_takes 33 = .ok (.invokevirtual 112, 3) := by decide +kernel
theorem dX8_takes_36 : decode cX8_takes 36 = .ok (.return_, 1) := by decide +kernel
set_option maxRecDepth 20000 in
theorem ggX8_word_X8_peek : GoodIn wsX8_word wsX8_peek := goodIn_r _ [7, 1, 8, 2, 122, 123, 124, 125, 126, 127, 128, 129, 130, 131, 132, 133, 134, 135, 136] (by decide +kernel) (by decide +kernel)
set_option maxRecDepth 20000 in
theorem gX8_word_X8_peek : GoodIn wsX8_word (wsV RX8 109 RX8 yX8_peek wsX8_peek) := goodIn_app (goodIn_of _ (by decide +kernel)) ggX8_word_X8_peek
set_option maxRecDepth 20000 in
theorem ggX8_word_X8_isIn : GoodIn wsX8_word wsX8_isIn := goodIn_r _ [11] (by decide +kernel) (by decide +kernel)
set_option maxRecDepth 20000 in
theorem gX8_word_X8_isIn : GoodIn wsX8_word (va_wsS RX8 47 yX8_isIn wsX8_isIn) := goodIn_app (goodIn_of _ (by decide +kernel)) ggX8_word_X8_isIn
set_option maxRecDepth 20000 in
theorem ggX8_word_J0_indexOf_7cf53 : GoodIn wsX8_word wsJ0_indexOf_7cf53 := goodIn_r _ [16, 17, 18, 19, 20, 15, 21, 22, 23, 24, 25, 26, 27, 28, 29, 30, 31, 32, 33, 34, 35, 36, 37, 38, 39, 40, 41, 42, 43, 44, 45, 46, 47, 48, 49, 50, 51, 52, 53, 54, 55, 56, 57, 58, 59, 60, 61, 62, 63, 64, 65, 66, 67, 68, 69, 70, 71, 72, 73, 74, 75, 76, 77, 78, 79, 80, 81, 82, 83, 84, 85, 86, 87, 88, 89, 90, 91, 92, 93, 94, 95, 96] (by decide +kernel) (by decide +kernel)
set_option maxRecDepth 20000 in
theorem gX8_word_J0_indexOf_7cf53 : GoodIn wsX8_word (wsV RX8 117 RJ0 yJ0_indexOf_7cf53 wsJ0_indexOf_7cf53) := goodIn_app (goodIn_of _ (by decide +kernel)) ggX8_word_J0_indexOf_7cf53
set_option maxRecDepth 20000 in
theorem ggX8_word_J0_charAt_5068e : GoodIn wsX8_word wsJ0_charAt_5068e := goodIn_r _ [100, 17, 18, 19, 20, 15, 21, 22, 23, 101, 102, 34, 103, 104, 105, 106, 68, 107, 108, 71, 109, 110, 111, 51, 112, 113, 114, 115, 62, 63, 64, 116, 76, 77, 78, 79, 80, 81] (by decide +kernel) (by decide +kernel)
set_option maxRecDepth 20000 in
theorem gX8_word_J0_charAt_5068e : GoodIn wsX8_word (wsV RX8 122 RJ0 yJ0_charAt_5068e wsJ0_charAt_5068e) := goodIn_app (goodIn_of _ (by decide +kernel)) ggX8_word_J0_charAt_5068e
set_option maxRecDepth 20000 in
theorem ggX8_word_X8_fails : GoodIn wsX8_word wsX8_fails := goodIn_r _ [120, 121, 122, 123, 124, 125, 126, 127, 128, 129, 130, 131, 132, 133, 134, 135, 136] (by decide +kernel) (by decide +kernel)
set_option maxRecDepth 20000 in
theorem gX8_word_X8_fails : GoodIn wsX8_word (wsV RX8 112 RX8 yX8_fails wsX8_fails) := goodIn_app (goodIn_of _ (by decide +kernel)) ggX8_word_X8_fails
theorem dX8_word_0 : decode cX8_word 0 = .ok (.aload_n 0, 1) := by decide +kernel
theorem dX8_word_1 : decode cX8_word 1 = .ok (.getfield 103, 3) := by decide +kernel
theorem dX8_word_4 : decode cX8_word 4 = .ok (.istore_n 1, 1) := by decide +kernel
theorem dX8_word_5 : decode cX8_word 5 = .ok (.aload_n 0, 1) := by decide +kernel
theorem dX8_word_6 : decode cX8_word 6 = .ok (.invokevirtual 109, 3) := by decide +kernel
theorem dX8_word_9 : decode cX8_word 9 = .ok (.bipush 97, 2) := by decide +kernel
theorem dX8_word_11 : decode cX8_word 11 = .ok (.bipush 122, 2) := by decide +kernel
theorem dX8_word_13 : decode cX8_word 13 = .ok (.invokestatic 47, 3) := by decide +kernel
theorem dX8_word_16 : decode cX8_word 16 = .ok (.ifCond .eq 16, 3) := by decide +kernel
theorem dX8_word_19 : decode cX8_word 19 = .ok (.aload_n 0, 1) := by decide +kernel
theorem dX8_word_20 : decode cX8_word 20 = .ok (.dup, 1) := by decide +kernel
theorem dX8_word_21 : decode cX8_word 21 = .ok (.getfield 103, 3) := by decide +kernel
theorem dX8_word_24 : decode cX8_word 24 = .ok (.iconst 1, 1) := by decide +kernel
theorem dX8_word_25 : decode cX8_word 25 = .ok (.iadd, 1) := by decide +kernel
theorem dX8_word_26 : decode cX8_word 26 = .ok (.putfield 103, 3) := by decide +kernel
theorem dX8_word_29 : decode cX8_word 29 = .ok (.goto (-24), 3) := by decide +kernel
theorem dX8_word_32 : decode cX8_word 32 = .ok (.iconst 0, 1) := by decide +kernel
theorem dX8_word_33 : decode cX8_word 33 = .ok (.istore_n 2, 1) := by decide +kernel
theorem dX8_word_34 : decode cX8_word 34 = .ok (.iconst 0, 1) := by decide +kernel
theorem dX8_word_35 : decode cX8_word 35 = .ok (.istore_n 3, 1) := by decide +kernel
theorem dX8_word_36 : decode cX8_word 36 = .ok (.iload_n 3, 1) := by decide +kernel
theorem dX8_word_37 : decode cX8_word 37 = .ok (.bipush 8, 2) := by decide +kernel
theorem dX8_word_39 : decode cX8_word 39 = .ok (.if_icmp .ge 104, 3) := by decide +kernel
theorem dX8_word_42 : decode cX8_word 42 = .ok (.ldc 115, 2) := by decide +kernel
theorem dX8_word_44 : decode cX8_word 44 = .ok (.bipush 32, 2) := by decide +kernel
theorem dX8_word_46 : decode cX8_word 46 = .ok (.iload_n 2, 1) := by decide +kernel
theorem dX8_word_47 : decode cX8_word 47 = .ok (.invokevirtual 117, 3) := by decide +kernel
theorem dX8_word_50 : decode cX8_word 50 = .ok (.istore 4, 2) := by decide +kernel
theorem dX8_word_52 : decode cX8_word 52 = .ok (.iload 4, 2) := by decide +kernel
theorem dX8_word_54 : decode cX8_word 54 = .ok (.iload_n 2, 1) := by decide +kernel
theorem dX8_word_55 : decode cX8_word 55 = .ok (.isub, 1) := by decide +kernel
theorem dX8_word_56 : decode cX8_word 56 = .ok (.aload_n 0, 1) := by decide +kernel
theorem dX8_word_57 : decode cX8_word 57 = .ok (.getfield 103, 3) := by decide +kernel
theorem dX8_word_60 : decode cX8_word 60 = .ok (.iload_n 1, 1) := by decide +kernel
theorem dX8_word_61 : decode cX8_word 61 = .ok (.isub, 1) := by decide +kernel
theorem dX8_word_62 : decode cX8_word 62 = .ok (.if_icmp .ne 7, 3) := by decide +kernel
theorem dX8_word_65 : decode cX8_word 65 = .ok (.iconst 1, 1) := by decide +kernel
theorem dX8_word_66 : decode cX8_word 66 = .ok (.goto 4, 3) := by decide +kernel
theorem dX8_word_69 : decode cX8_word 69 = .ok (.iconst 0, 1) := by decide +kernel
theorem dX8_word_70 : decode cX8_word 70 = .ok (.istore 5, 2) := by decide +kernel
theorem dX8_word_72 : decode cX8_word 72 = .ok (.iconst 0, 1) := by decide +kernel
theorem dX8_word_73 : decode cX8_word 73 = .ok (.istore 6, 2) := by decide +kernel
theorem dX8_word_75 : decode cX8_word 75 = .ok (.iload 6, 2) := by decide +kernel
theorem dX8_word_77 : decode cX8_word 77 = .ok (.aload_n 0, 1) := by decide +kernel
theorem dX8_word_78 : decode cX8_word 78 = .ok (.getfield 103, 3) := by decide +kernel
theorem dX8_word_81 : decode cX8_word 81 = .ok (.iload_n 1, 1) := by decide +kernel
theorem dX8_word_82 : decode cX8_word 82 = .ok (.isub, 1) := by decide +kernel
theorem dX8_word_83 : decode cX8_word 83 = .ok (.if_icmp .ge 42, 3) := by decide +kernel
theorem dX8_word_86 : decode cX8_word 86 = .ok (.iload 5, 2) := by decide +kernel
theorem dX8_word_88 : decode cX8_word 88 = .ok (.ifCond .eq 37, 3) := by decide +kernel
theorem dX8_word_91 : decode cX8_word 91 = .ok (.ldc 115, 2) := by decide +kernel
theorem dX8_word_93 : decode cX8_word 93 = .ok (.iload_n 2, 1) := by decide +kernel
theorem dX8_word_94 : decode cX8_word 94 = .ok (.iload 6, 2) := by decide +kernel
theorem dX8_word_96 : decode cX8_word 96 = .ok (.iadd, 1) := by decide +kernel
theorem dX8_word_97 : decode cX8_word 97 = .ok (.invokevirtual 122, 3) := by decide +kernel
theorem dX8_word_100 : decode cX8_word 100 = .ok (.aload_n 0, 1) := by decide +kernel
theorem dX8_word_101 : decode cX8_word 101 = .ok (.getfield 21, 3) := by decide +kernel
theorem dX8_word_104 : decode cX8_word 104 = .ok (.iload_n 1, 1) := by decide +kernel
theorem dX8_word_105 : decode cX8_word 105 = .ok (.iload 6, 2) := by decide +kernel
theorem dX8_word_107 : decode cX8_word 107 = .ok (.iadd, 1) := by decide +kernel
theorem dX8_word_108 : decode cX8_word 108 = .ok (.iaload, 1) := by decide +kernel
theorem dX8_word_109 : decode cX8_word 109 = .ok (.if_icmp .ne 7, 3) := by decide +kernel
theorem dX8_word_112 : decode cX8_word 112 = .ok (.iconst 1, 1) := by decide +kernel
theorem dX8_word_113 : decode cX8_word 113 = .ok (.goto 4, 3) := by decide +kernel
theorem dX8_word_116 : decode cX8_word 116 = .ok (.iconst 0, 1) := by decide +kernel
theorem dX8_word_117 : decode cX8_word 117 = .ok (.istore 5, 2) := by decide +kernel
theorem dX8_word_119 : decode cX8_word 119 = .ok (.iinc 6 1, 3) := by decide +kernel
theorem dX8_word_122 : decode cX8_word 122 = .ok (.goto (-47), 3) := by decide +kernel
theorem dX8_word_125 : decode cX8_word 125 = .ok (.iload 5, 2) := by decide +kernel
theorem dX8_word_127 : decode cX8_word 127 = .ok (.ifCond .eq 5, 3) := by decide +kernel
theorem dX8_word_130 : decode cX8_word 130 = .ok (.iload_n 3, 1) := by decide +kernel
theorem dX8_word_131 : decode cX8_word 131 = .ok (.ireturn, 1) := by decide +kernel
theorem dX8_word_132 : decode cX8_word 132 = .ok (.iload 4, 2) := by decide +kernel
theorem dX8_word_134 : decode cX8_word 134 = .ok (.iconst 1, 1) := by decide +kernel
theorem dX8_word_135 : decode cX8_word 135 = .ok (.iadd, 1) := by decide +kernel
theorem dX8_word_136 : decode cX8_word 136 = .ok (.istore_n 2, 1) := by decide +kernel
theorem dX8_word_137 : decode cX8_word 137 = .ok (.iinc 3 1, 3) := by decide +kernel
theorem dX8_word_140 : decode cX8_word 140 = .ok (.goto (-104), 3) := by decide +kernel
theorem dX8_word_143 : decode cX8_word 143 = .ok (.aload_n 0, 1) := by decide +kernel
theorem dX8_word_144 : decode cX8_word 144 = .ok (.iload_n 1, 1) := by decide +kernel
theorem dX8_word_145 : decode cX8_word 145 = .ok (.invokevirtual 112, 3) := by decide +kernel
theorem dX8_word_148 : decode cX8_word 148 = .ok (.iconst (-1), 1) := by decide +kernel
theorem dX8_word_149 : decode cX8_word 149 = .ok (.ireturn, 1) := by decide +kernel
set_option maxRecDepth 20000 in
theorem ggX8_number_X8_takes : GoodIn wsX8_number wsX8_takes := goodIn_r _ [7, 2, 1, 8, 9, 10, 6, 11, 12, 13, 14, 15, 16, 17, 21, 22, 23, 24, 25, 26, 27, 28, 29, 30, 31, 32, 33, 34, 35] (by decide +kernel) (by decide +kernel)
set_option maxRecDepth 20000 in
theorem gX8_number_X8_takes : GoodIn wsX8_number (wsV RX8 126 RX8 yX8_takes wsX8_takes) := goodIn_app (goodIn_of _ (by decide +kernel)) ggX8_number_X8_takes
set_option maxRecDepth 20000 in
theorem ggX8_number_X8_peek : GoodIn wsX8_number wsX8_peek := goodIn_r _ [11, 1, 12, 13, 21, 22, 23, 24, 25, 26, 27, 28, 29, 30, 31, 32, 33, 34, 35] (by decide +kernel) (by decide +kernel)
set_option maxRecDepth 20000 in
theorem gX8_number_X8_peek : GoodIn wsX8_number (wsV RX8 109 RX8 yX8_peek wsX8_peek) := goodIn_app (goodIn_of _ (by decide +kernel)) ggX8_number_X8_peek
set_option maxRecDepth 20000 in
theorem ggX8_number_X8_isIn : GoodIn wsX8_number wsX8_isIn := goodIn_r _ [20] (by decide +kernel) (by decide +kernel)
set_option maxRecDepth 20000 in
theorem gX8_number_X8_isIn : GoodIn wsX8_number (va_wsS RX8 47 yX8_isIn wsX8_isIn) := goodIn_app (goodIn_of _ (by decide +kernel)) ggX8_number_X8_isIn
set_option maxRecDepth 20000 in
theorem ggX8_number_X8_fails : GoodIn wsX8_number wsX8_fails := goodIn_r _ [17, 2, 21, 22, 23, 24, 25, 26, 27, 28, 29, 30, 31, 32, 33, 34, 35] (by decide +kernel) (by decide +kernel)
set_option maxRecDepth 20000 in
theorem gX8_number_X8_fails : GoodIn wsX8_number (wsV RX8 112 RX8 yX8_fails wsX8_fails) := goodIn_app (goodIn_of _ (by decide +kernel)) ggX8_number_X8_fails
theorem dX8_number_0 : decode cX8_number 0 = .ok (.aload_n 0, 1) := by decide +kernel
theorem dX8_number_1 : decode cX8_number 1 = .ok (.bipush 32, 2) := by decide +kernel
theorem dX8_number_3 : decode cX8_number 3 = .ok (.invokevirtual 126, 3) := by decide +kernel
theorem dX8_number_6 : decode cX8_number 6 = .ok (.aload_n 0, 1) := by decide +kernel
theorem dX8_number_7 : decode cX8_number 7 = .ok (.getfield 103, 3) := by decide +kernel
theorem dX8_number_10 : decode cX8_number 10 = .ok (.istore_n 2, 1) := by decide +kernel
theorem dX8_number_11 : decode cX8_number 11 = .ok (.iconst 0, 1) := by decide +kernel
theorem dX8_number_12 : decode cX8_number 12 = .ok (.istore_n 3, 1) := by decide +kernel
theorem dX8_number_13 : decode cX8_number 13 = .ok (.aload_n 0, 1) := by decide +kernel
theorem dX8_number_14 : decode cX8_number 14 = .ok (.getfield 106, 3) := by decide +kernel
theorem dX8_number_17 : decode cX8_number 17 = .ok (.ifCond .ge 53, 3) := by decide +kernel
theorem dX8_number_20 : decode cX8_number 20 = .ok (.aload_n 0, 1) := by decide +kernel
theorem dX8_number_21 : decode cX8_number 21 = .ok (.getfield 103, 3) := by decide +kernel
theorem dX8_number_24 : decode cX8_number 24 = .ok (.iload_n 2, 1) := by decide +kernel
theorem dX8_number_25 : decode cX8_number 25 = .ok (.isub, 1) := by decide +kernel
theorem dX8_number_26 : decode cX8_number 26 = .ok (.iload_n 1, 1) := by decide +kernel
theorem dX8_number_27 : decode cX8_number 27 = .ok (.if_icmp .ge 43, 3) := by decide +kernel
theorem dX8_number_30 : decode cX8_number 30 = .ok (.aload_n 0, 1) := by decide +kernel
theorem dX8_number_31 : decode cX8_number 31 = .ok (.invokevirtual 109, 3) := by decide +kernel
theorem dX8_number_34 : decode cX8_number 34 = .ok (.bipush 48, 2) := by decide +kernel
theorem dX8_number_36 : decode cX8_number 36 = .ok (.bipush 57, 2) := by decide +kernel
theorem dX8_number_38 : decode cX8_number 38 = .ok (.invokestatic 47, 3) := by decide +kernel
theorem dX8_number_41 : decode cX8_number 41 = .ok (.ifCond .eq 29, 3) := by decide +kernel
theorem dX8_number_44 : decode cX8_number 44 = .ok (.bipush 10, 2) := by decide +kernel
theorem dX8_number_46 : decode cX8_number 46 = .ok (.iload_n 3, 1) := by decide +kernel
theorem dX8_number_47 : decode cX8_number 47 = .ok (.imul, 1) := by decide +kernel
theorem dX8_number_48 : decode cX8_number 48 = .ok (.aload_n 0, 1) := by decide +kernel
theorem dX8_number_49 : decode cX8_number 49 = .ok (.invokevirtual 109, 3) := by decide +kernel
theorem dX8_number_52 : decode cX8_number 52 = .ok (.iadd, 1) := by decide +kernel
theorem dX8_number_53 : decode cX8_number 53 = .ok (.bipush 48, 2) := by decide +kernel
theorem dX8_number_55 : decode cX8_number 55 = .ok (.isub, 1) := by decide +kernel
theorem dX8_number_56 : decode cX8_number 56 = .ok (.istore_n 3, 1) := by decide +kernel
theorem dX8_number_57 : decode cX8_number 57 = .ok (.aload_n 0, 1) := by decide +kernel
theorem dX8_number_58 : decode cX8_number 58 = .ok (.dup, 1) := by decide +kernel
theorem dX8_number_59 : decode cX8_number 59 = .ok (.getfield 103, 3) := by decide +kernel
theorem dX8_number_62 : decode cX8_number 62 = .ok (.iconst 1, 1) := by decide +kernel
theorem dX8_number_63 : decode cX8_number 63 = .ok (.iadd, 1) := by decide +kernel
theorem dX8_number_64 : decode cX8_number 64 = .ok (.putfield 103, 3) := by decide +kernel
theorem dX8_number_67 : decode cX8_number 67 = .ok (.goto (-54), 3) := by decide +kernel
theorem dX8_number_70 : decode cX8_number 70 = .ok (.aload_n 0, 1) := by decide +kernel
theorem dX8_number_71 : decode cX8_number 71 = .ok (.getfield 103, 3) := by decide +kernel
theorem dX8_number_74 : decode cX8_number 74 = .ok (.iload_n 2, 1) := by decide +kernel
theorem dX8_number_75 : decode cX8_number 75 = .ok (.if_icmp .ne 11, 3) := by decide +kernel
theorem dX8_number_78 : decode cX8_number 78 = .ok (.aload_n 0, 1) := by decide +kernel
theorem dX8_number_79 : decode cX8_number 79 = .ok (.aload_n 0, 1) := by decide +kernel
theorem dX8_number_80 : decode cX8_number 80 = .ok (.getfield 103, 3) := by decide +kernel
theorem dX8_number_83 : decode cX8_number 83 = .ok (.invokevirtual 112, 3) := by decide +kernel
theorem dX8_number_86 : decode cX8_number 86 = .ok (.iload_n 3, 1) := by decide +kernel
theorem dX8_number_87 : decode cX8_number 87 = .ok (.ireturn, 1) := by decide +kernel
set_option maxRecDepth 20000 in
theorem ggX8_clause_X8_word : GoodIn wsX8_clause wsX8_word := goodIn_r _ [9, 10, 11, 12, 13, 14, 8, 15, 16, 17, 18, 19, 20, 21, 22, 23, 24, 25, 26, 27, 28, 29, 30, 31, 32, 33, 34, 35, 36, 37, 38, 39, 40, 41, 42, 43, 44, 45, 46, 47, 48, 49, 50, 51, 52, 53, 54, 55, 56, 57, 58, 59, 60, 61, 62, 63, 64, 65, 66, 67, 68, 69, 70, 71, 72, 73, 74, 75, 76, 77, 78, 79, 80, 81, 82, 83, 84, 85, 86, 87, 88, 89, 90, 91, 92, 93, 94, 95, 96, 97, 98, 99, 100, 101, 102, 103, 104, 105, 106, 107, 108, 109, 110, 111, 112, 113, 114, 115, 116, 117, 118, 119, 120, 121, 122, 123, 124, 125, 126, 127, 128, 1, 137, 138, 139, 140, 141, 142, 143, 144, 145, 146, 147, 148, 149, 150, 151] (by decide +kernel) (by decide +kernel)
set_option maxRecDepth 20000 in
theorem gX8_clause_X8_word : GoodIn wsX8_clause (wsV RX8 129 RX8 yX8_word wsX8_word) := goodIn_app (goodIn_of _ (by decide +kernel)) ggX8_clause_X8_word
set_option maxRecDepth 20000 in
theorem ggX8_clause_X8_number : GoodIn wsX8_clause wsX8_number := goodIn_r _ [132, 10, 1, 133, 134, 135, 8, 136, 12, 13, 14, 15, 16, 11, 125, 126, 127, 128, 17, 18, 19, 137, 138, 139, 140, 141, 142, 143, 144, 145, 146, 147, 148, 149, 150, 151] (by decide +kernel) (by decide +kernel)
set_option maxRecDepth 20000 in
theorem gX8_clause_X8_number : GoodIn wsX8_clause (wsV RX8 135 RX8 yX8_number wsX8_number) := goodIn_app (goodIn_of _ (by decide +kernel)) ggX8_clause_X8_number
theorem dX8_clause_0 : decode cX8_clause 0 = .ok (.aload_n 0, 1) := by decide +kernel
theorem dX8_clause_1 : decode cX8_clause 1 = .ok (.invokevirtual 129, 3) := by decide +kernel
theorem dX8_clause_4 : decode cX8_clause 4 = .ok (.istore_n 1, 1) := by decide +kernel
theorem dX8_clause_5 : decode cX8_clause 5 = .ok (.aload_n 0, 1) := by decide +kernel
theorem dX8_clause_6 : decode cX8_clause 6 = .ok (.getfield 106, 3) := by decide +kernel
theorem dX8_clause_9 : decode cX8_clause 9 = .ok (.ifCond .lt 4, 3) := by decide +kernel
theorem dX8_clause_12 : decode cX8_clause 12 = .ok (.return_, 1) := by decide +kernel
theorem dX8_clause_13 : decode cX8_clause 13 = .ok (.iconst 3, 1) := by decide +kernel
theorem dX8_clause_14 : decode cX8_clause 14 = .ok (.aload_n 0, 1) := by decide +kernel
theorem dX8_clause_15 : decode cX8_clause 15 = .ok (.getfield 132, 3) := by decide +kernel
theorem dX8_clause_18 : decode cX8_clause 18 = .ok (.imul, 1) := by decide +kernel
theorem dX8_clause_19 : decode cX8_clause 19 = .ok (.istore_n 2, 1) := by decide +kernel
theorem dX8_clause_20 : decode cX8_clause 20 = .ok (.aload_n 0, 1) := by decide +kernel
theorem dX8_clause_21 : decode cX8_clause 21 = .ok (.getfield 24, 3) := by decide +kernel
theorem dX8_clause_24 : decode cX8_clause 24 = .ok (.aload_n 0, 1) := by decide +kernel
theorem dX8_clause_25 : decode cX8_clause 25 = .ok (.getfield 132, 3) := by decide +kernel
theorem dX8_clause_28 : decode cX8_clause 28 = .ok (.iload_n 1, 1) := by decide +kernel
theorem dX8_clause_29 : decode cX8_clause 29 = .ok (.iastore, 1) := by decide +kernel
theorem dX8_clause_30 : decode cX8_clause 30 = .ok (.aload_n 0, 1) := by decide +kernel
theorem dX8_clause_31 : decode cX8_clause 31 = .ok (.getfield 27, 3) := by decide +kernel
theorem dX8_clause_34 : decode cX8_clause 34 = .ok (.iload_n 2, 1) := by decide +kernel
theorem dX8_clause_35 : decode cX8_clause 35 = .ok (.aload_n 0, 1) := by decide +kernel
theorem dX8_clause_36 : decode cX8_clause 36 = .ok (.iconst 1, 1) := by decide +kernel
theorem dX8_clause_37 : decode cX8_clause 37 = .ok (.invokevirtual 135, 3) := by decide +kernel
theorem dX8_clause_40 : decode cX8_clause 40 = .ok (.iastore, 1) := by decide +kernel
theorem dX8_clause_41 : decode cX8_clause 41 = .ok (.iload_n 1, 1) := by decide +kernel
theorem dX8_clause_42 : decode cX8_clause 42 = .ok (.ifCond .eq 37, 3) := by decide +kernel
theorem dX8_clause_45 : decode cX8_clause 45 = .ok (.iload_n 1, 1) := by decide +kernel
theorem dX8_clause_46 : decode cX8_clause 46 = .ok (.bipush 6, 2) := by decide +kernel
theorem dX8_clause_48 : decode cX8_clause 48 = .ok (.if_icmp .eq 31, 3) := by decide +kernel
theorem dX8_clause_51 : decode cX8_clause 51 = .ok (.aload_n 0, 1) := by decide +kernel
theorem dX8_clause_52 : decode cX8_clause 52 = .ok (.getfield 27, 3) := by decide +kernel
theorem dX8_clause_55 : decode cX8_clause 55 = .ok (.iload_n 2, 1) := by decide +kernel
theorem dX8_clause_56 : decode cX8_clause 56 = .ok (.iconst 1, 1) := by decide +kernel
theorem dX8_clause_57 : decode cX8_clause 57 = .ok (.iadd, 1) := by decide +kernel
theorem dX8_clause_58 : decode cX8_clause 58 = .ok (.aload_n 0, 1) := by decide +kernel
theorem dX8_clause_59 : decode cX8_clause 59 = .ok (.iload_n 1, 1) := by decide +kernel
theorem dX8_clause_60 : decode cX8_clause 60 = .ok (.iconst 5, 1) := by decide +kernel
theorem dX8_clause_61 : decode cX8_clause 61 = .ok (.if_icmp .eq 9, 3) := by decide +kernel
theorem dX8_clause_64 : decode cX8_clause 64 = .ok (.iload_n 1, 1) := by decide +kernel
theorem dX8_clause_65 : decode cX8_clause 65 = .ok (.bipush 7, 2) := by decide +kernel
theorem dX8_clause_67 : decode cX8_clause 67 = .ok (.if_icmp .ne 7, 3) := by decide +kernel
theorem dX8_clause_70 : decode cX8_clause 70 = .ok (.iconst 2, 1) := by decide +kernel
theorem dX8_clause_71 : decode cX8_clause 71 = .ok (.goto 4, 3) := by decide +kernel
theorem dX8_clause_74 : decode cX8_clause 74 = .ok (.iconst 1, 1) := by decide +kernel
theorem dX8_clause_75 : decode cX8_clause 75 = .ok (.invokevirtual 135, 3) := by decide +kernel
theorem dX8_clause_78 : decode cX8_clause 78 = .ok (.iastore, 1) := by decide +kernel
theorem dX8_clause_79 : decode cX8_clause 79 = .ok (.iload_n 1, 1) := by decide +kernel
theorem dX8_clause_80 : decode cX8_clause 80 = .ok (.bipush 7, 2) := by decide +kernel
theorem dX8_clause_82 : decode cX8_clause 82 = .ok (.if_icmp .ne 16, 3) := by decide +kernel
theorem dX8_clause_85 : decode cX8_clause 85 = .ok (.aload_n 0, 1) := by decide +kernel
theorem dX8_clause_86 : decode cX8_clause 86 = .ok (.getfield 27, 3) := by decide +kernel
theorem dX8_clause_89 : decode cX8_clause 89 = .ok (.iload_n 2, 1) := by decide +kernel
theorem dX8_clause_90 : decode cX8_clause 90 = .ok (.iconst 2, 1) := by decide +kernel
theorem dX8_clause_91 : decode cX8_clause 91 = .ok (.iadd, 1) := by decide +kernel
theorem dX8_clause_92 : decode cX8_clause 92 = .ok (.aload_n 0, 1) := by decide +kernel
theorem dX8_clause_93 : decode cX8_clause 93 = .ok (.iconst 2, 1) := by decide +kernel
theorem dX8_clause_94 : decode cX8_clause 94 = .ok (.invokevirtual 135, 3) := by decide +kernel
theorem dX8_clause_97 : decode cX8_clause 97 = .ok (.iastore, 1) := by decide +kernel
theorem dX8_clause_98 : decode cX8_clause 98 = .ok (.aload_n 0, 1) := by decide +kernel
theorem dX8_clause_99 : decode cX8_clause 99 = .ok (.dup, 1) := by decide +kernel
theorem dX8_clause_100 : decode cX8_clause 100 = .ok (.getfield 132, 3) := by decide +kernel
theorem dX8_clause_103 : decode cX8_clause 103 = .ok (.iconst 1, 1) := by decide +kernel
theorem dX8_clause_104 : decode cX8_clause 104 = .ok (.iadd, 1) := by decide +kernel
theorem dX8_clause_105 : decode cX8_clause 105 = .ok (.putfield 132, 3) := by decide +kernel
theorem dX8_clause_108 : decode cX8_clause 108 = .ok (.return_, 1) := by decide +kernel
set_option maxRecDepth 20000 in
theorem ggX8_isDone_X8_teams : GoodIn wsX8_isDone wsX8_teams := goodIn_r _ [7, 8, 9, 10, 11, 6, 12, 13, 14, 15, 16, 17, 18, 19, 20, 115, 116, 117, 118, 119, 120, 121, 122, 123, 124, 125, 126, 127, 128, 129] (by decide +kernel) (by decide +kernel)
set_option maxRecDepth 20000 in
theorem gX8_isDone_X8_teams : GoodIn wsX8_isDone (wsV RX8 139 RX8 yX8_teams wsX8_teams) := goodIn_app (goodIn_of _ (by decide +kernel)) ggX8_isDone_X8_teams
set_option maxRecDepth 20000 in
theorem ggX8_isDone_X8_swap : GoodIn wsX8_isDone wsX8_swap := goodIn_r _ [24, 25, 26, 27, 6, 28, 29, 30, 31, 32, 8, 33, 34, 35, 36, 37, 38, 39, 40, 41, 42, 43, 44, 45, 46, 47, 48, 49, 50, 51, 52, 53, 54, 55, 56, 57, 58, 59, 115, 116, 117, 118, 119, 120, 121, 122, 123, 124, 125, 126, 127, 128, 129] (by decide +kernel) (by decide +kernel)
set_option maxRecDepth 20000 in
theorem gX8_isDone_X8_swap : GoodIn wsX8_isDone (wsV RX8 142 RX8 yX8_swap wsX8_swap) := goodIn_app (goodIn_of _ (by decide +kernel)) ggX8_isDone_X8_swap
set_option maxRecDepth 20000 in
theorem ggX8_isDone_X8_turn : GoodIn wsX8_isDone wsX8_turn := goodIn_r _ [63, 25, 26, 27, 6, 28, 29, 30, 31, 32, 8, 33, 34, 35, 64, 65, 66, 67, 68, 69, 70, 71, 17, 18, 19, 20, 40, 41, 42, 43, 72, 73, 74, 75, 115, 116, 117, 118, 119, 120, 121, 122, 123, 124, 125, 126, 127, 128, 129] (by decide +kernel) (by decide +kernel)
set_option maxRecDepth 20000 in
theorem gX8_isDone_X8_turn : GoodIn wsX8_isDone (wsV RX8 145 RX8 yX8_turn wsX8_turn) := goodIn_app (goodIn_of _ (by decide +kernel)) ggX8_isDone_X8_turn
set_option maxRecDepth 20000 in
theorem ggX8_isDone_X8_exchange : GoodIn wsX8_isDone wsX8_exchange := goodIn_r _ [79, 8, 80, 81, 82, 6, 83, 33, 34, 35, 84, 85, 86, 87, 29, 30, 31, 32, 88, 89, 90, 91, 92, 93, 94, 95, 56, 57, 58, 59, 115, 116, 117, 118, 119, 120, 121, 122, 123, 124, 125, 126, 127, 128, 129] (by decide +kernel) (by decide +kernel)
set_option maxRecDepth 20000 in
theorem gX8_isDone_X8_exchange : GoodIn wsX8_isDone (wsV RX8 148 RX8 yX8_exchange wsX8_exchange) := goodIn_app (goodIn_of _ (by decide +kernel)) ggX8_isDone_X8_exchange
set_option maxRecDepth 20000 in
theorem ggX8_isDone_X8_bar : GoodIn wsX8_isDone wsX8_bar := goodIn_r _ [99, 8, 80, 81, 82, 6, 83, 33, 34, 35, 25, 26, 27, 28, 29, 30, 31, 32, 115, 116, 117, 118, 119, 120, 121, 122, 123, 124, 125, 126, 127, 128, 129] (by decide +kernel) (by decide +kernel)
set_option maxRecDepth 20000 in
theorem gX8_isDone_X8_bar : GoodIn wsX8_isDone (wsV RX8 151 RX8 yX8_bar wsX8_bar) := goodIn_app (goodIn_of _ (by decide +kernel)) ggX8_isDone_X8_bar
set_option maxRecDepth 20000 in
theorem ggX8_isDone_X8_rate : GoodIn wsX8_isDone wsX8_rate := goodIn_r _ [103, 8, 33, 34, 6, 35, 104, 105, 106, 115, 116, 117, 118, 119, 120, 121, 122, 123, 124, 125, 126, 127, 128, 129] (by decide +kernel) (by decide +kernel)
set_option maxRecDepth 20000 in
theorem gX8_isDone_X8_rate : GoodIn wsX8_isDone (wsV RX8 154 RX8 yX8_rate wsX8_rate) := goodIn_app (goodIn_of _ (by decide +kernel)) ggX8_isDone_X8_rate
set_option maxRecDepth 20000 in
theorem ggX8_isDone_X8_kind : GoodIn wsX8_isDone wsX8_kind := goodIn_r _ [110, 8, 33, 34, 6, 35, 115, 116, 117, 118, 119, 120, 121, 122, 123, 124, 125, 126, 127, 128, 129] (by decide +kernel) (by decide +kernel)
set_option maxRecDepth 20000 in
theorem gX8_isDone_X8_kind : GoodIn wsX8_isDone (wsV RX8 157 RX8 yX8_kind wsX8_kind) := goodIn_app (goodIn_of _ (by decide +kernel)) ggX8_isDone_X8_kind
set_option maxRecDepth 20000 in
theorem ggX8_isDone_X8_ground : GoodIn wsX8_isDone wsX8_ground := goodIn_r _ [114, 8, 80, 81, 82, 6, 83, 33, 34, 35, 104, 105, 106, 115, 116, 117, 118, 119, 120, 121, 122, 123, 124, 125, 126, 127, 128, 129] (by decide +kernel) (by decide +kernel)
set_option maxRecDepth 20000 in
theorem gX8_isDone_X8_ground : GoodIn wsX8_isDone (wsV RX8 160 RX8 yX8_ground wsX8_ground) := goodIn_app (goodIn_of _ (by decide +kernel)) ggX8_isDone_X8_ground
theorem dX8_isDone_0 : decode cX8_isDone 0 = .ok (.aload_n 0, 1) := by decide +kernel
theorem dX8_isDone_1 : decode cX8_isDone 1 = .ok (.getfield 27, 3) := by decide +kernel
theorem dX8_isDone_4 : decode cX8_isDone 4 = .ok (.iconst 3, 1) := by decide +kernel
theorem dX8_isDone_5 : decode cX8_isDone 5 = .ok (.iload_n 1, 1) := by decide +kernel
theorem dX8_isDone_6 : decode cX8_isDone 6 = .ok (.imul, 1) := by decide +kernel
theorem dX8_isDone_7 : decode cX8_isDone 7 = .ok (.iaload, 1) := by decide +kernel
theorem dX8_isDone_8 : decode cX8_isDone 8 = .ok (.istore_n 2, 1) := by decide +kernel
theorem dX8_isDone_9 : decode cX8_isDone 9 = .ok (.aload_n 0, 1) := by decide +kernel
theorem dX8_isDone_10 : decode cX8_isDone 10 = .ok (.getfield 27, 3) := by decide +kernel
theorem dX8_isDone_13 : decode cX8_isDone 13 = .ok (.iconst 3, 1) := by decide +kernel
theorem dX8_isDone_14 : decode cX8_isDone 14 = .ok (.iload_n 1, 1) := by decide +kernel
theorem dX8_isDone_15 : decode cX8_isDone 15 = .ok (.imul, 1) := by decide +kernel
theorem dX8_isDone_16 : decode cX8_isDone 16 = .ok (.iconst 1, 1) := by decide +kernel
theorem dX8_isDone_17 : decode cX8_isDone 17 = .ok (.iadd, 1) := by decide +kernel
theorem dX8_isDone_18 : decode cX8_isDone 18 = .ok (.iaload, 1) := by decide +kernel
theorem dX8_isDone_19 : decode cX8_isDone 19 = .ok (.istore_n 3, 1) := by decide +kernel
theorem dX8_isDone_20 : decode cX8_isDone 20 = .ok (.aload_n 0, 1) := by decide +kernel
theorem dX8_isDone_21 : decode cX8_isDone 21 = .ok (.getfield 24, 3) := by decide +kernel
theorem dX8_isDone_24 : decode cX8_isDone 24 = .ok (.iload_n 1, 1) := by decide +kernel
theorem dX8_isDone_25 : decode cX8_isDone 25 = .ok (.iaload, 1) := by decide +kernel
theorem dX8_isDone_26 : decode cX8_isDone 26 = .ok (.tableswitch 145 0 6 #[42, 56, 71, 86, 101, 116, 131], 42) := by decide +kernel
theorem dX8_isDone_68 : decode cX8_isDone 68 = .ok (.aload_n 0, 1) := by decide +kernel
theorem dX8_isDone_69 : decode cX8_isDone 69 = .ok (.iload_n 2, 1) := by decide +kernel
theorem dX8_isDone_70 : decode cX8_isDone 70 = .ok (.invokevirtual 139, 3) := by decide +kernel
theorem dX8_isDone_73 : decode cX8_isDone 73 = .ok (.ifCond .lt 7, 3) := by decide +kernel
theorem dX8_isDone_76 : decode cX8_isDone 76 = .ok (.iconst 1, 1) := by decide +kernel
theorem dX8_isDone_77 : decode cX8_isDone 77 = .ok (.goto 4, 3) := by decide +kernel
theorem dX8_isDone_80 : decode cX8_isDone 80 = .ok (.iconst 0, 1) := by decide +kernel
theorem dX8_isDone_81 : decode cX8_isDone 81 = .ok (.ireturn, 1) := by decide +kernel
theorem dX8_isDone_82 : decode cX8_isDone 82 = .ok (.aload_n 0, 1) := by decide +kernel
theorem dX8_isDone_83 : decode cX8_isDone 83 = .ok (.iload_n 2, 1) := by decide +kernel
theorem dX8_isDone_84 : decode cX8_isDone 84 = .ok (.iload_n 3, 1) := by decide +kernel
theorem dX8_isDone_85 : decode cX8_isDone 85 = .ok (.invokevirtual 142, 3) := by decide +kernel
theorem dX8_isDone_88 : decode cX8_isDone 88 = .ok (.ifCond .lt 7, 3) := by decide +kernel
theorem dX8_isDone_91 : decode cX8_isDone 91 = .ok (.iconst 1, 1) := by decide +kernel
theorem dX8_isDone_92 : decode cX8_isDone 92 = .ok (.goto 4, 3) := by decide +kernel
theorem dX8_isDone_95 : decode cX8_isDone 95 = .ok (.iconst 0, 1) := by decide +kernel
theorem dX8_isDone_96 : decode cX8_isDone 96 = .ok (.ireturn, 1) := by decide +kernel
theorem dX8_isDone_97 : decode cX8_isDone 97 = .ok (.aload_n 0, 1) := by decide +kernel
theorem dX8_isDone_98 : decode cX8_isDone 98 = .ok (.iload_n 2, 1) := by decide +kernel
theorem dX8_isDone_99 : decode cX8_isDone 99 = .ok (.iload_n 3, 1) := by decide +kernel
theorem dX8_isDone_100 : decode cX8_isDone 100 = .ok (.invokevirtual 145, 3) := by decide +kernel
theorem dX8_isDone_103 : decode cX8_isDone 103 = .ok (.ifCond .lt 7, 3) := by decide +kernel
theorem dX8_isDone_106 : decode cX8_isDone 106 = .ok (.iconst 1, 1) := by decide +kernel
theorem dX8_isDone_107 : decode cX8_isDone 107 = .ok (.goto 4, 3) := by decide +kernel
theorem dX8_isDone_110 : decode cX8_isDone 110 = .ok (.iconst 0, 1) := by decide +kernel
theorem dX8_isDone_111 : decode cX8_isDone 111 = .ok (.ireturn, 1) := by decide +kernel
theorem dX8_isDone_112 : decode cX8_isDone 112 = .ok (.aload_n 0, 1) := by decide +kernel
theorem dX8_isDone_113 : decode cX8_isDone 113 = .ok (.iload_n 2, 1) := by decide +kernel
theorem dX8_isDone_114 : decode cX8_isDone 114 = .ok (.iload_n 3, 1) := by decide +kernel
theorem dX8_isDone_115 : decode cX8_isDone 115 = .ok (.invokevirtual 148, 3) := by decide +kernel
theorem dX8_isDone_118 : decode cX8_isDone 118 = .ok (.ifCond .lt 7, 3) := by decide +kernel
theorem dX8_isDone_121 : decode cX8_isDone 121 = .ok (.iconst 1, 1) := by decide +kernel
theorem dX8_isDone_122 : decode cX8_isDone 122 = .ok (.goto 4, 3) := by decide +kernel
theorem dX8_isDone_125 : decode cX8_isDone 125 = .ok (.iconst 0, 1) := by decide +kernel
theorem dX8_isDone_126 : decode cX8_isDone 126 = .ok (.ireturn, 1) := by decide +kernel
theorem dX8_isDone_127 : decode cX8_isDone 127 = .ok (.aload_n 0, 1) := by decide +kernel
theorem dX8_isDone_128 : decode cX8_isDone 128 = .ok (.iload_n 2, 1) := by decide +kernel
theorem dX8_isDone_129 : decode cX8_isDone 129 = .ok (.iload_n 3, 1) := by decide +kernel
theorem dX8_isDone_130 : decode cX8_isDone 130 = .ok (.invokevirtual 151, 3) := by decide +kernel
theorem dX8_isDone_133 : decode cX8_isDone 133 = .ok (.ifCond .lt 7, 3) := by decide +kernel
theorem dX8_isDone_136 : decode cX8_isDone 136 = .ok (.iconst 1, 1) := by decide +kernel
theorem dX8_isDone_137 : decode cX8_isDone 137 = .ok (.goto 4, 3) := by decide +kernel
theorem dX8_isDone_140 : decode cX8_isDone 140 = .ok (.iconst 0, 1) := by decide +kernel
theorem dX8_isDone_141 : decode cX8_isDone 141 = .ok (.ireturn, 1) := by decide +kernel
theorem dX8_isDone_142 : decode cX8_isDone 142 = .ok (.aload_n 0, 1) := by decide +kernel
theorem dX8_isDone_143 : decode cX8_isDone 143 = .ok (.iload_n 2, 1) := by decide +kernel
theorem dX8_isDone_144 : decode cX8_isDone 144 = .ok (.iload_n 3, 1) := by decide +kernel
theorem dX8_isDone_145 : decode cX8_isDone 145 = .ok (.invokevirtual 154, 3) := by decide +kernel
theorem dX8_isDone_148 : decode cX8_isDone 148 = .ok (.ifCond .lt 7, 3) := by decide +kernel
theorem dX8_isDone_151 : decode cX8_isDone 151 = .ok (.iconst 1, 1) := by decide +kernel
theorem dX8_isDone_152 : decode cX8_isDone 152 = .ok (.goto 4, 3) := by decide +kernel
theorem dX8_isDone_155 : decode cX8_isDone 155 = .ok (.iconst 0, 1) := by decide +kernel
theorem dX8_isDone_156 : decode cX8_isDone 156 = .ok (.ireturn, 1) := by decide +kernel
theorem dX8_isDone_157 : decode cX8_isDone 157 = .ok (.aload_n 0, 1) := by decide +kernel
theorem dX8_isDone_158 : decode cX8_isDone 158 = .ok (.iload_n 2, 1) := by decide +kernel
theorem dX8_isDone_159 : decode cX8_isDone 159 = .ok (.invokevirtual 157, 3) := by decide +kernel
theorem dX8_isDone_162 : decode cX8_isDone 162 = .ok (.ifCond .lt 7, 3) := by decide +kernel
theorem dX8_isDone_165 : decode cX8_isDone 165 = .ok (.iconst 1, 1) := by decide +kernel
theorem dX8_isDone_166 : decode cX8_isDone 166 = .ok (.goto 4, 3) := by decide +kernel
theorem dX8_isDone_169 : decode cX8_isDone 169 = .ok (.iconst 0, 1) := by decide +kernel
theorem dX8_isDone_170 : decode cX8_isDone 170 = .ok (.ireturn, 1) := by decide +kernel
theorem dX8_isDone_171 : decode cX8_isDone 171 = .ok (.aload_n 0, 1) := by decide +kernel
theorem dX8_isDone_172 : decode cX8_isDone 172 = .ok (.iload_n 2, 1) := by decide +kernel
theorem dX8_isDone_173 : decode cX8_isDone 173 = .ok (.iload_n 3, 1) := by decide +kernel
theorem dX8_isDone_174 : decode cX8_isDone 174 = .ok (.aload_n 0, 1) := by decide +kernel
theorem dX8_isDone_175 : decode cX8_isDone 175 = .ok (.getfield 27, 3) := by decide +kernel
theorem dX8_isDone_178 : decode cX8_isDone 178 = .ok (.iconst 3, 1) := by decide +kernel
theorem dX8_isDone_179 : decode cX8_isDone 179 = .ok (.iload_n 1, 1) := by decide +kernel
theorem dX8_isDone_180 : decode cX8_isDone 180 = .ok (.imul, 1) := by decide +kernel
theorem dX8_isDone_181 : decode cX8_isDone 181 = .ok (.iconst 2, 1) := by decide +kernel
theorem dX8_isDone_182 : decode cX8_isDone 182 = .ok (.iadd, 1) := by decide +kernel
theorem dX8_isDone_183 : decode cX8_isDone 183 = .ok (.iaload, 1) := by decide +kernel
theorem dX8_isDone_184 : decode cX8_isDone 184 = .ok (.invokevirtual 160, 3) := by decide +kernel
theorem dX8_isDone_187 : decode cX8_isDone 187 = .ok (.ifCond .lt 7, 3) := by decide +kernel
theorem dX8_isDone_190 : decode cX8_isDone 190 = .ok (.iconst 1, 1) := by decide +kernel
theorem dX8_isDone_191 : decode cX8_isDone 191 = .ok (.goto 4, 3) := by decide +kernel
theorem dX8_isDone_194 : decode cX8_isDone 194 = .ok (.iconst 0, 1) := by decide +kernel
theorem dX8_isDone_195 : decode cX8_isDone 195 = .ok (.ireturn, 1) := by decide +kernel
set_option maxRecDepth 20000 in
theorem ggX8_read_X8_clause : GoodIn wsX8_read wsX8_clause := goodIn_r _ [9, 2, 3, 10, 11, 12, 13, 14, 8, 15, 1, 16, 17, 18, 19, 20, 4, 21, 22, 23, 24, 25, 26, 27, 28, 29, 30, 31, 32, 33, 34, 35, 36, 37, 38, 39, 40, 41, 42, 43, 44, 45, 46, 47, 48, 49, 50, 51, 52, 53, 54, 55, 56, 57, 58, 59, 60, 61, 62, 63, 64, 65, 66, 67, 68, 69, 70, 71, 72, 73, 74, 75, 76, 77, 78, 79, 80, 81, 82, 83, 84, 85, 86, 87, 88, 89, 90, 91, 92, 93, 94, 95, 96, 97, 98, 99, 100, 101, 102, 103, 104, 105, 106, 107, 108, 109, 110, 111, 112, 113, 114, 115, 116, 117, 118, 119, 120, 121, 122, 123, 124, 125, 126, 127, 128, 129, 130, 131, 132, 133, 134, 135, 136, 137, 138, 139, 140, 253, 254, 255, 256, 257, 258, 259, 260, 261, 262, 263, 264, 265, 266, 267] (by decide +kernel) (by decide +kernel)
set_option maxRecDepth 20000 in
theorem gX8_read_X8_clause : GoodIn wsX8_read (wsV RX8 163 RX8 yX8_clause wsX8_clause) := goodIn_app (goodIn_of _ (by decide +kernel)) ggX8_read_X8_clause
set_option maxRecDepth 20000 in
theorem ggX8_read_X8_peek : GoodIn wsX8_read wsX8_peek := goodIn_r _ [20, 1, 4, 16, 253, 254, 255, 256, 257, 258, 259, 260, 261, 262, 263, 264, 265, 266, 267] (by decide +kernel) (by decide +kernel)
set_option maxRecDepth 20000 in
theorem gX8_read_X8_peek : GoodIn wsX8_read (wsV RX8 109 RX8 yX8_peek wsX8_peek) := goodIn_app (goodIn_of _ (by decide +kernel)) ggX8_read_X8_peek
set_option maxRecDepth 20000 in
theorem ggX8_read_X8_fails : GoodIn wsX8_read wsX8_fails := goodIn_r _ [132, 2, 253, 254, 255, 256, 257, 258, 259, 260, 261, 262, 263, 264, 265, 266, 267] (by decide +kernel) (by decide +kernel)
set_option maxRecDepth 20000 in
theorem gX8_read_X8_fails : GoodIn wsX8_read (wsV RX8 112 RX8 yX8_fails wsX8_fails) := goodIn_app (goodIn_of _ (by decide +kernel)) ggX8_read_X8_fails
set_option maxRecDepth 20000 in
theorem ggX8_read_X8_isDone : GoodIn wsX8_read wsX8_isDone := goodIn_r _ [144, 11, 10, 145, 146, 147, 8, 148, 149, 150, 151, 152, 153, 154, 155, 156, 157, 158, 159, 160, 161, 162, 163, 164, 165, 166, 167, 168, 169, 170, 171, 172, 173, 21, 22, 23, 174, 175, 176, 177, 178, 179, 180, 181, 182, 183, 184, 185, 186, 187, 188, 189, 190, 191, 192, 193, 194, 195, 196, 197, 198, 199, 200, 201, 202, 203, 204, 205, 206, 207, 208, 209, 210, 211, 212, 213, 214, 215, 216, 217, 218, 219, 220, 221, 222, 223, 224, 225, 226, 227, 228, 229, 230, 231, 232, 233, 234, 235, 236, 237, 238, 239, 240, 241, 242, 243, 244, 245, 246, 247, 248, 249, 250, 251, 252, 253, 254, 255, 256, 257, 258, 259, 260, 261, 262, 263, 264, 265, 266, 267] (by decide +kernel) (by decide +kernel)
set_option maxRecDepth 20000 in
theorem gX8_read_X8_isDone : GoodIn wsX8_read (wsV RX8 166 RX8 yX8_isDone wsX8_isDone) := goodIn_app (goodIn_of _ (by decide +kernel)) ggX8_read_X8_isDone
theorem dX8_read_0 : decode cX8_read 0 = .ok (.aload_n 0, 1) := by decide +kernel
theorem dX8_read_1 : decode cX8_read 1 = .ok (.iconst 0, 1) := by decide +kernel
theorem dX8_read_2 : decode cX8_read 2 = .ok (.putfield 103, 3) := by decide +kernel
theorem dX8_read_5 : decode cX8_read 5 = .ok (.aload_n 0, 1) := by decide +kernel
theorem dX8_read_6 : decode cX8_read 6 = .ok (.iconst (-1), 1) := by decide +kernel
theorem dX8_read_7 : decode cX8_read 7 = .ok (.putfield 106, 3) := by decide +kernel
theorem dX8_read_10 : decode cX8_read 10 = .ok (.aload_n 0, 1) := by decide +kernel
theorem dX8_read_11 : decode cX8_read 11 = .ok (.iconst 0, 1) := by decide +kernel
theorem dX8_read_12 : decode cX8_read 12 = .ok (.putfield 132, 3) := by decide +kernel
theorem dX8_read_15 : decode cX8_read 15 = .ok (.aload_n 0, 1) := by decide +kernel
theorem dX8_read_16 : decode cX8_read 16 = .ok (.invokevirtual 163, 3) := by decide +kernel
theorem dX8_read_19 : decode cX8_read 19 = .ok (.aload_n 0, 1) := by decide +kernel
theorem dX8_read_20 : decode cX8_read 20 = .ok (.getfield 106, 3) := by decide +kernel
theorem dX8_read_23 : decode cX8_read 23 = .ok (.ifCond .ge 38, 3) := by decide +kernel
theorem dX8_read_26 : decode cX8_read 26 = .ok (.aload_n 0, 1) := by decide +kernel
theorem dX8_read_27 : decode cX8_read 27 = .ok (.getfield 132, 3) := by decide +kernel
theorem dX8_read_30 : decode cX8_read 30 = .ok (.bipush 12, 2) := by decide +kernel
theorem dX8_read_32 : decode cX8_read 32 = .ok (.if_icmp .ge 29, 3) := by decide +kernel
theorem dX8_read_35 : decode cX8_read 35 = .ok (.aload_n 0, 1) := by decide +kernel
theorem dX8_read_36 : decode cX8_read 36 = .ok (.invokevirtual 109, 3) := by decide +kernel
theorem dX8_read_39 : decode cX8_read 39 = .ok (.bipush 59, 2) := by decide +kernel
theorem dX8_read_41 : decode cX8_read 41 = .ok (.if_icmp .ne 20, 3) := by decide +kernel
theorem dX8_read_44 : decode cX8_read 44 = .ok (.aload_n 0, 1) := by decide +kernel
theorem dX8_read_45 : decode cX8_read 45 = .ok (.dup, 1) := by decide +kernel
theorem dX8_read_46 : decode cX8_read 46 = .ok (.getfield 103, 3) := by decide +kernel
theorem dX8_read_49 : decode cX8_read 49 = .ok (.iconst 1, 1) := by decide +kernel
theorem dX8_read_50 : decode cX8_read 50 = .ok (.iadd, 1) := by decide +kernel
theorem dX8_read_51 : decode cX8_read 51 = .ok (.putfield 103, 3) := by decide +kernel
theorem dX8_read_54 : decode cX8_read 54 = .ok (.aload_n 0, 1) := by decide +kernel
theorem dX8_read_55 : decode cX8_read 55 = .ok (.invokevirtual 163, 3) := by decide +kernel
theorem dX8_read_58 : decode cX8_read 58 = .ok (.goto (-39), 3) := by decide +kernel
theorem dX8_read_61 : decode cX8_read 61 = .ok (.aload_n 0, 1) := by decide +kernel
theorem dX8_read_62 : decode cX8_read 62 = .ok (.getfield 106, 3) := by decide +kernel
theorem dX8_read_65 : decode cX8_read 65 = .ok (.ifCond .ge 22, 3) := by decide +kernel
theorem dX8_read_68 : decode cX8_read 68 = .ok (.aload_n 0, 1) := by decide +kernel
theorem dX8_read_69 : decode cX8_read 69 = .ok (.getfield 103, 3) := by decide +kernel
theorem dX8_read_72 : decode cX8_read 72 = .ok (.aload_n 0, 1) := by decide +kernel
theorem dX8_read_73 : decode cX8_read 73 = .ok (.getfield 99, 3) := by decide +kernel
theorem dX8_read_76 : decode cX8_read 76 = .ok (.if_icmp .ge 11, 3) := by decide +kernel
theorem dX8_read_79 : decode cX8_read 79 = .ok (.aload_n 0, 1) := by decide +kernel
theorem dX8_read_80 : decode cX8_read 80 = .ok (.aload_n 0, 1) := by decide +kernel
theorem dX8_read_81 : decode cX8_read 81 = .ok (.getfield 103, 3) := by decide +kernel
theorem dX8_read_84 : decode cX8_read 84 = .ok (.invokevirtual 112, 3) := by decide +kernel
theorem dX8_read_87 : decode cX8_read 87 = .ok (.aload_n 0, 1) := by decide +kernel
theorem dX8_read_88 : decode cX8_read 88 = .ok (.iconst 0, 1) := by decide +kernel
theorem dX8_read_89 : decode cX8_read 89 = .ok (.putfield 99, 3) := by decide +kernel
theorem dX8_read_92 : decode cX8_read 92 = .ok (.aload_n 0, 1) := by decide +kernel
theorem dX8_read_93 : decode cX8_read 93 = .ok (.getfield 106, 3) := by decide +kernel
theorem dX8_read_96 : decode cX8_read 96 = .ok (.ifCond .lt 11, 3) := by decide +kernel
theorem dX8_read_99 : decode cX8_read 99 = .ok (.bipush (-10), 2) := by decide +kernel
theorem dX8_read_101 : decode cX8_read 101 = .ok (.aload_n 0, 1) := by decide +kernel
theorem dX8_read_102 : decode cX8_read 102 = .ok (.getfield 106, 3) := by decide +kernel
theorem dX8_read_105 : decode cX8_read 105 = .ok (.isub, 1) := by decide +kernel
theorem dX8_read_106 : decode cX8_read 106 = .ok (.ireturn, 1) := by decide +kernel
theorem dX8_read_107 : decode cX8_read 107 = .ok (.iconst 0, 1) := by decide +kernel
theorem dX8_read_108 : decode cX8_read 108 = .ok (.istore_n 1, 1) := by decide +kernel
theorem dX8_read_109 : decode cX8_read 109 = .ok (.iconst 0, 1) := by decide +kernel
theorem dX8_read_110 : decode cX8_read 110 = .ok (.istore_n 2, 1) := by decide +kernel
theorem dX8_read_111 : decode cX8_read 111 = .ok (.iload_n 2, 1) := by decide +kernel
theorem dX8_read_112 : decode cX8_read 112 = .ok (.aload_n 0, 1) := by decide +kernel
theorem dX8_read_113 : decode cX8_read 113 = .ok (.getfield 132, 3) := by decide +kernel
theorem dX8_read_116 : decode cX8_read 116 = .ok (.if_icmp .ge 25, 3) := by decide +kernel
theorem dX8_read_119 : decode cX8_read 119 = .ok (.iload_n 1, 1) := by decide +kernel
theorem dX8_read_120 : decode cX8_read 120 = .ok (.aload_n 0, 1) := by decide +kernel
theorem dX8_read_121 : decode cX8_read 121 = .ok (.iload_n 2, 1) := by decide +kernel
theorem dX8_read_122 : decode cX8_read 122 = .ok (.invokevirtual 166, 3) := by decide +kernel
theorem dX8_read_125 : decode cX8_read 125 = .ok (.ifCond .eq 7, 3) := by decide +kernel
theorem dX8_read_128 : decode cX8_read 128 = .ok (.iconst 1, 1) := by decide +kernel
theorem dX8_read_129 : decode cX8_read 129 = .ok (.goto 4, 3) := by decide +kernel
theorem dX8_read_132 : decode cX8_read 132 = .ok (.iconst 0, 1) := by decide +kernel
theorem dX8_read_133 : decode cX8_read 133 = .ok (.iadd, 1) := by decide +kernel
theorem dX8_read_134 : decode cX8_read 134 = .ok (.istore_n 1, 1) := by decide +kernel
theorem dX8_read_135 : decode cX8_read 135 = .ok (.iinc 2 1, 3) := by decide +kernel
theorem dX8_read_138 : decode cX8_read 138 = .ok (.goto (-27), 3) := by decide +kernel
theorem dX8_read_141 : decode cX8_read 141 = .ok (.iload_n 1, 1) := by decide +kernel
theorem dX8_read_142 : decode cX8_read 142 = .ok (.ireturn, 1) := by decide +kernel
theorem dX8_placeOf_0 : decode cX8_placeOf 0 = .ok (.iconst 0, 1) := by decide +kernel
theorem dX8_placeOf_1 : decode cX8_placeOf 1 = .ok (.istore_n 3, 1) := by decide +kernel
theorem dX8_placeOf_2 : decode cX8_placeOf 2 = .ok (.iload_n 3, 1) := by decide +kernel
theorem dX8_placeOf_3 : decode cX8_placeOf 3 = .ok (.aload_n 0, 1) := by decide +kernel
theorem dX8_placeOf_4 : decode cX8_placeOf 4 = .ok (.getfield 11, 3) := by decide +kernel
theorem dX8_placeOf_7 : decode cX8_placeOf 7 = .ok (.iconst 0, 1) := by decide +kernel
theorem dX8_placeOf_8 : decode cX8_placeOf 8 = .ok (.iaload, 1) := by decide +kernel
theorem dX8_placeOf_9 : decode cX8_placeOf 9 = .ok (.if_icmp .ge 29, 3) := by decide +kernel
theorem dX8_placeOf_12 : decode cX8_placeOf 12 = .ok (.aload_n 0, 1) := by decide +kernel
theorem dX8_placeOf_13 : decode cX8_placeOf 13 = .ok (.getfield 11, 3) := by decide +kernel
theorem dX8_placeOf_16 : decode cX8_placeOf 16 = .ok (.bipush 57, 2) := by decide +kernel
theorem dX8_placeOf_18 : decode cX8_placeOf 18 = .ok (.bipush 6, 2) := by decide +kernel
theorem dX8_placeOf_20 : decode cX8_placeOf 20 = .ok (.iload_n 2, 1) := by decide +kernel
theorem dX8_placeOf_21 : decode cX8_placeOf 21 = .ok (.imul, 1) := by decide +kernel
theorem dX8_placeOf_22 : decode cX8_placeOf 22 = .ok (.iadd, 1) := by decide +kernel
theorem dX8_placeOf_23 : decode cX8_placeOf 23 = .ok (.iload_n 3, 1) := by decide +kernel
