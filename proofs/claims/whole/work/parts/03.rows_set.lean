set_option maxRecDepth 20000 in
theorem ggX3_init_X1_init : GoodIn wsX3_init wsX1_init := goodIn_r _ [21, 22, 2, 3, 8, 23, 24, 25, 26, 27, 28, 59, 60, 61, 62, 63, 64, 65] (by decide +kernel) (by decide +kernel)
set_option maxRecDepth 20000 in
theorem gX3_init_X1_init_n11 : GoodIn wsX3_init (wsX1_init) := ggX3_init_X1_init
set_option maxRecDepth 20000 in
theorem ggX3_init_X2_init : GoodIn wsX3_init wsX2_init := goodIn_r _ [31, 32, 2, 3, 8, 33, 34, 35, 36, 37, 38, 75, 76, 77] (by decide +kernel) (by decide +kernel)
set_option maxRecDepth 20000 in
theorem gX3_init_X2_init : GoodIn wsX3_init (wsX2_init) := ggX3_init_X2_init
set_option maxRecDepth 20000 in
theorem ggX3_init_X1_layCircle : GoodIn wsX3_init wsX1_layCircle := goodIn_r _ [42, 43, 44, 45, 46, 6, 47, 23, 24, 25, 26, 27, 48, 49, 50, 51, 52, 53, 54, 55, 56, 57, 58, 59, 60, 61, 62, 63, 64, 65] (by decide +kernel) (by decide +kernel)
set_option maxRecDepth 20000 in
theorem gX3_init_X1_layCircle : GoodIn wsX3_init (wsV RX3 47 RX1 yX1_layCircle wsX1_layCircle) := goodIn_app (goodIn_of _ (by decide +kernel)) ggX3_init_X1_layCircle
theorem dX3_init_0 : decode cX3_init 0 = .ok (.aload_n 0, 1) := by decide +kernel
theorem dX3_init_1 : decode cX3_init 1 = .ok (.invokespecial 3, 3) := by decide +kernel
theorem dX3_init_4 : decode cX3_init 4 = .ok (.aload_n 0, 1) := by decide +kernel
theorem dX3_init_5 : decode cX3_init 5 = .ok (.new 9, 3) := by decide +kernel
theorem dX3_init_8 : decode cX3_init 8 = .ok (.dup, 1) := by decide +kernel
theorem dX3_init_9 : decode cX3_init 9 = .ok (.invokespecial 11, 3) := by decide +kernel
theorem dX3_init_12 : decode cX3_init 12 = .ok (.putfield 12, 3) := by decide +kernel
theorem dX3_init_15 : decode cX3_init 15 = .ok (.aload_n 0, 1) := by decide +kernel
theorem dX3_init_16 : decode cX3_init 16 = .ok (.bipush 6, 2) := by decide +kernel
theorem dX3_init_18 : decode cX3_init 18 = .ok (.newarray .int, 2) := by decide +kernel
theorem dX3_init_20 : decode cX3_init 20 = .ok (.putfield 18, 3) := by decide +kernel
theorem dX3_init_23 : decode cX3_init 23 = .ok (.aload_n 0, 1) := by decide +kernel
theorem dX3_init_24 : decode cX3_init 24 = .ok (.bipush 6, 2) := by decide +kernel
theorem dX3_init_26 : decode cX3_init 26 = .ok (.newarray .int, 2) := by decide +kernel
theorem dX3_init_28 : decode cX3_init 28 = .ok (.putfield 22, 3) := by decide +kernel
theorem dX3_init_31 : decode cX3_init 31 = .ok (.aload_n 0, 1) := by decide +kernel
theorem dX3_init_32 : decode cX3_init 32 = .ok (.bipush 30, 2) := by decide +kernel
theorem dX3_init_34 : decode cX3_init 34 = .ok (.newarray .boolean, 2) := by decide +kernel
theorem dX3_init_36 : decode cX3_init 36 = .ok (.putfield 25, 3) := by decide +kernel
theorem dX3_init_39 : decode cX3_init 39 = .ok (.aload_n 0, 1) := by decide +kernel
theorem dX3_init_40 : decode cX3_init 40 = .ok (.iconst 4, 1) := by decide +kernel
theorem dX3_init_41 : decode cX3_init 41 = .ok (.newarray .int, 2) := by decide +kernel
theorem dX3_init_43 : decode cX3_init 43 = .ok (.dup, 1) := by decide +kernel
theorem dX3_init_44 : decode cX3_init 44 = .ok (.iconst 0, 1) := by decide +kernel
theorem dX3_init_45 : decode cX3_init 45 = .ok (.bipush 10, 2) := by decide +kernel
theorem dX3_init_47 : decode cX3_init 47 = .ok (.iastore, 1) := by decide +kernel
theorem dX3_init_48 : decode cX3_init 48 = .ok (.dup, 1) := by decide +kernel
theorem dX3_init_49 : decode cX3_init 49 = .ok (.iconst 1, 1) := by decide +kernel
theorem dX3_init_50 : decode cX3_init 50 = .ok (.bipush 50, 2) := by decide +kernel
theorem dX3_init_52 : decode cX3_init 52 = .ok (.iastore, 1) := by decide +kernel
theorem dX3_init_53 : decode cX3_init 53 = .ok (.dup, 1) := by decide +kernel
theorem dX3_init_54 : decode cX3_init 54 = .ok (.iconst 2, 1) := by decide +kernel
theorem dX3_init_55 : decode cX3_init 55 = .ok (.iconst 1, 1) := by decide +kernel
theorem dX3_init_56 : decode cX3_init 56 = .ok (.iastore, 1) := by decide +kernel
theorem dX3_init_57 : decode cX3_init 57 = .ok (.dup, 1) := by decide +kernel
theorem dX3_init_58 : decode cX3_init 58 = .ok (.iconst 3, 1) := by decide +kernel
theorem dX3_init_59 : decode cX3_init 59 = .ok (.iconst 0, 1) := by decide +kernel
theorem dX3_init_60 : decode cX3_init 60 = .ok (.iastore, 1) := by decide +kernel
theorem dX3_init_61 : decode cX3_init 61 = .ok (.putfield 29, 3) := by decide +kernel
theorem dX3_init_64 : decode cX3_init 64 = .ok (.aload_n 0, 1) := by decide +kernel
theorem dX3_init_65 : decode cX3_init 65 = .ok (.new 32, 3) := by decide +kernel
theorem dX3_init_68 : decode cX3_init 68 = .ok (.dup, 1) := by decide +kernel
theorem dX3_init_69 : decode cX3_init 69 = .ok (.bipush 6, 2) := by decide +kernel
theorem dX3_init_71 : decode cX3_init 71 = .ok (.invokespecial 34, 3) := by decide +kernel
theorem dX3_init_74 : decode cX3_init 74 = .ok (.putfield 37, 3) := by decide +kernel
theorem dX3_init_77 : decode cX3_init 77 = .ok (.aload_n 0, 1) := by decide +kernel
theorem dX3_init_78 : decode cX3_init 78 = .ok (.new 32, 3) := by decide +kernel
theorem dX3_init_81 : decode cX3_init 81 = .ok (.dup, 1) := by decide +kernel
theorem dX3_init_82 : decode cX3_init 82 = .ok (.bipush 8, 2) := by decide +kernel
theorem dX3_init_84 : decode cX3_init 84 = .ok (.invokespecial 34, 3) := by decide +kernel
theorem dX3_init_87 : decode cX3_init 87 = .ok (.putfield 41, 3) := by decide +kernel
theorem dX3_init_90 : decode cX3_init 90 = .ok (.aload_n 0, 1) := by decide +kernel
theorem dX3_init_91 : decode cX3_init 91 = .ok (.new 32, 3) := by decide +kernel
theorem dX3_init_94 : decode cX3_init 94 = .ok (.dup, 1) := by decide +kernel
theorem dX3_init_95 : decode cX3_init 95 = .ok (.bipush 8, 2) := by decide +kernel
theorem dX3_init_97 : decode cX3_init 97 = .ok (.invokespecial 34, 3) := by decide +kernel
theorem dX3_init_100 : decode cX3_init 100 = .ok (.putfield 44, 3) := by decide +kernel
theorem dX3_init_103 : decode cX3_init 103 = .ok (.aload_n 0, 1) := by decide +kernel
theorem dX3_init_104 : decode cX3_init 104 = .ok (.getfield 12, 3) := by decide +kernel
theorem dX3_init_107 : decode cX3_init 107 = .ok (.iconst 4, 1) := by decide +kernel
theorem dX3_init_108 : decode cX3_init 108 = .ok (.invokevirtual 47, 3) := by decide +kernel
theorem dX3_init_111 : decode cX3_init 111 = .ok (.return_, 1) := by decide +kernel
set_option maxRecDepth 20000 in
theorem ggX3_startAnew_X1_layCircle : GoodIn wsX3_startAnew wsX1_layCircle := goodIn_r _ [10, 11, 12, 13, 14, 9, 15, 16, 17, 18, 19, 20, 21, 22, 23, 24, 25, 26, 27, 28, 29, 30, 31, 47, 48, 49, 50, 51, 52, 53] (by decide +kernel) (by decide +kernel)
set_option maxRecDepth 20000 in
theorem gX3_startAnew_X1_layCircle : GoodIn wsX3_startAnew (wsV RX3 47 RX1 yX1_layCircle wsX1_layCircle) := goodIn_app (goodIn_of _ (by decide +kernel)) ggX3_startAnew_X1_layCircle
set_option maxRecDepth 20000 in
theorem ggX3_startAnew_X2_empty : GoodIn wsX3_startAnew wsX2_empty := goodIn_r _ [36, 37, 54, 55, 56] (by decide +kernel) (by decide +kernel)
set_option maxRecDepth 20000 in
theorem gX3_startAnew_X2_empty : GoodIn wsX3_startAnew (wsV RX3 50 RX2 yX2_empty wsX2_empty) := goodIn_app (goodIn_of _ (by decide +kernel)) ggX3_startAnew_X2_empty
theorem dX3_startAnew_0 : decode cX3_startAnew 0 = .ok (.aload_n 0, 1) := by decide +kernel
theorem dX3_startAnew_1 : decode cX3_startAnew 1 = .ok (.getfield 12, 3) := by decide +kernel
theorem dX3_startAnew_4 : decode cX3_startAnew 4 = .ok (.iload_n 1, 1) := by decide +kernel
theorem dX3_startAnew_5 : decode cX3_startAnew 5 = .ok (.invokevirtual 47, 3) := by decide +kernel
theorem dX3_startAnew_8 : decode cX3_startAnew 8 = .ok (.iconst 0, 1) := by decide +kernel
theorem dX3_startAnew_9 : decode cX3_startAnew 9 = .ok (.istore_n 2, 1) := by decide +kernel
theorem dX3_startAnew_10 : decode cX3_startAnew 10 = .ok (.iload_n 2, 1) := by decide +kernel
theorem dX3_startAnew_11 : decode cX3_startAnew 11 = .ok (.aload_n 0, 1) := by decide +kernel
theorem dX3_startAnew_12 : decode cX3_startAnew 12 = .ok (.getfield 25, 3) := by decide +kernel
theorem dX3_startAnew_15 : decode cX3_startAnew 15 = .ok (.arraylength, 1) := by decide +kernel
theorem dX3_startAnew_16 : decode cX3_startAnew 16 = .ok (.if_icmp .ge 16, 3) := by decide +kernel
theorem dX3_startAnew_19 : decode cX3_startAnew 19 = .ok (.aload_n 0, 1) := by decide +kernel
theorem dX3_startAnew_20 : decode cX3_startAnew 20 = .ok (.getfield 25, 3) := by decide +kernel
theorem dX3_startAnew_23 : decode cX3_startAnew 23 = .ok (.iload_n 2, 1) := by decide +kernel
theorem dX3_startAnew_24 : decode cX3_startAnew 24 = .ok (.iconst 0, 1) := by decide +kernel
theorem dX3_startAnew_25 : decode cX3_startAnew 25 = .ok (.bastore, 1) := by decide +kernel
theorem dX3_startAnew_26 : decode cX3_startAnew 26 = .ok (.iinc 2 1, 3) := by decide +kernel
theorem dX3_startAnew_29 : decode cX3_startAnew 29 = .ok (.goto (-19), 3) := by decide +kernel
theorem dX3_startAnew_32 : decode cX3_startAnew 32 = .ok (.aload_n 0, 1) := by decide +kernel
theorem dX3_startAnew_33 : decode cX3_startAnew 33 = .ok (.getfield 37, 3) := by decide +kernel
theorem dX3_startAnew_36 : decode cX3_startAnew 36 = .ok (.invokevirtual 50, 3) := by decide +kernel
theorem dX3_startAnew_39 : decode cX3_startAnew 39 = .ok (.aload_n 0, 1) := by decide +kernel
theorem dX3_startAnew_40 : decode cX3_startAnew 40 = .ok (.getfield 41, 3) := by decide +kernel
theorem dX3_startAnew_43 : decode cX3_startAnew 43 = .ok (.invokevirtual 50, 3) := by decide +kernel
theorem dX3_startAnew_46 : decode cX3_startAnew 46 = .ok (.aload_n 0, 1) := by decide +kernel
theorem dX3_startAnew_47 : decode cX3_startAnew 47 = .ok (.getfield 44, 3) := by decide +kernel
theorem dX3_startAnew_50 : decode cX3_startAnew 50 = .ok (.invokevirtual 50, 3) := by decide +kernel
theorem dX3_startAnew_53 : decode cX3_startAnew 53 = .ok (.return_, 1) := by decide +kernel
set_option maxRecDepth 20000 in
theorem ggX3_become_X1_become : GoodIn wsX3_become wsX1_become := goodIn_r _ [18, 19, 20, 21, 4, 5, 6, 22, 23, 24, 25, 48, 49, 50, 51, 52, 53, 54] (by decide +kernel) (by decide +kernel)
set_option maxRecDepth 20000 in
theorem gX3_become_X1_become : GoodIn wsX3_become (wsV RX3 53 RX1 yX1_become wsX1_become) := goodIn_app (goodIn_of _ (by decide +kernel)) ggX3_become_X1_become
set_option maxRecDepth 20000 in
theorem ggX3_become_X2_become : GoodIn wsX3_become wsX2_become := goodIn_r _ [30, 31, 32, 33, 34, 35, 36, 37, 38, 4, 5, 6, 55, 56, 57] (by decide +kernel) (by decide +kernel)
set_option maxRecDepth 20000 in
theorem gX3_become_X2_become : GoodIn wsX3_become (wsV RX3 67 RX2 yX2_become wsX2_become) := goodIn_app (goodIn_of _ (by decide +kernel)) ggX3_become_X2_become
theorem dX3_become_0 : decode cX3_become 0 = .ok (.aload_n 0, 1) := by decide +kernel
theorem dX3_become_1 : decode cX3_become 1 = .ok (.getfield 12, 3) := by decide +kernel
theorem dX3_become_4 : decode cX3_become 4 = .ok (.aload_n 1, 1) := by decide +kernel
theorem dX3_become_5 : decode cX3_become 5 = .ok (.getfield 12, 3) := by decide +kernel
theorem dX3_become_8 : decode cX3_become 8 = .ok (.invokevirtual 53, 3) := by decide +kernel
theorem dX3_become_11 : decode cX3_become 11 = .ok (.aload_n 1, 1) := by decide +kernel
theorem dX3_become_12 : decode cX3_become 12 = .ok (.getfield 18, 3) := by decide +kernel
theorem dX3_become_15 : decode cX3_become 15 = .ok (.iconst 0, 1) := by decide +kernel
theorem dX3_become_16 : decode cX3_become 16 = .ok (.aload_n 0, 1) := by decide +kernel
theorem dX3_become_17 : decode cX3_become 17 = .ok (.getfield 18, 3) := by decide +kernel
theorem dX3_become_20 : decode cX3_become 20 = .ok (.iconst 0, 1) := by decide +kernel
theorem dX3_become_21 : decode cX3_become 21 = .ok (.aload_n 0, 1) := by decide +kernel
theorem dX3_become_22 : decode cX3_become 22 = .ok (.getfield 18, 3) := by decide +kernel
theorem dX3_become_25 : decode cX3_become 25 = .ok (.arraylength, 1) := by decide +kernel
theorem dX3_become_26 : decode cX3_become 26 = .ok (.invokestatic 57, 3) := by decide +kernel
theorem dX3_become_29 : decode cX3_become 29 = .ok (.aload_n 1, 1) := by decide +kernel
theorem dX3_become_30 : decode cX3_become 30 = .ok (.getfield 22, 3) := by decide +kernel
theorem dX3_become_33 : decode cX3_become 33 = .ok (.iconst 0, 1) := by decide +kernel
theorem dX3_become_34 : decode cX3_become 34 = .ok (.aload_n 0, 1) := by decide +kernel
theorem dX3_become_35 : decode cX3_become 35 = .ok (.getfield 22, 3) := by decide +kernel
theorem dX3_become_38 : decode cX3_become 38 = .ok (.iconst 0, 1) := by decide +kernel
theorem dX3_become_39 : decode cX3_become 39 = .ok (.aload_n 0, 1) := by decide +kernel
theorem dX3_become_40 : decode cX3_become 40 = .ok (.getfield 22, 3) := by decide +kernel
theorem dX3_become_43 : decode cX3_become 43 = .ok (.arraylength, 1) := by decide +kernel
theorem dX3_become_44 : decode cX3_become 44 = .ok (.invokestatic 57, 3) := by decide +kernel
theorem dX3_become_47 : decode cX3_become 47 = .ok (.aload_n 1, 1) := by decide +kernel
theorem dX3_become_48 : decode cX3_become 48 = .ok (.getfield 25, 3) := by decide +kernel
theorem dX3_become_51 : decode cX3_become 51 = .ok (.iconst 0, 1) := by decide +kernel
theorem dX3_become_52 : decode cX3_become 52 = .ok (.aload_n 0, 1) := by decide +kernel
theorem dX3_become_53 : decode cX3_become 53 = .ok (.getfield 25, 3) := by decide +kernel
theorem dX3_become_56 : decode cX3_become 56 = .ok (.iconst 0, 1) := by decide +kernel
theorem dX3_become_57 : decode cX3_become 57 = .ok (.aload_n 0, 1) := by decide +kernel
theorem dX3_become_58 : decode cX3_become 58 = .ok (.getfield 25, 3) := by decide +kernel
theorem dX3_become_61 : decode cX3_become 61 = .ok (.arraylength, 1) := by decide +kernel
theorem dX3_become_62 : decode cX3_become 62 = .ok (.invokestatic 57, 3) := by decide +kernel
theorem dX3_become_65 : decode cX3_become 65 = .ok (.aload_n 1, 1) := by decide +kernel
theorem dX3_become_66 : decode cX3_become 66 = .ok (.getfield 29, 3) := by decide +kernel
theorem dX3_become_69 : decode cX3_become 69 = .ok (.iconst 0, 1) := by decide +kernel
theorem dX3_become_70 : decode cX3_become 70 = .ok (.aload_n 0, 1) := by decide +kernel
theorem dX3_become_71 : decode cX3_become 71 = .ok (.getfield 29, 3) := by decide +kernel
theorem dX3_become_74 : decode cX3_become 74 = .ok (.iconst 0, 1) := by decide +kernel
theorem dX3_become_75 : decode cX3_become 75 = .ok (.aload_n 0, 1) := by decide +kernel
theorem dX3_become_76 : decode cX3_become 76 = .ok (.getfield 29, 3) := by decide +kernel
theorem dX3_become_79 : decode cX3_become 79 = .ok (.arraylength, 1) := by decide +kernel
theorem dX3_become_80 : decode cX3_become 80 = .ok (.invokestatic 57, 3) := by decide +kernel
theorem dX3_become_83 : decode cX3_become 83 = .ok (.aload_n 0, 1) := by decide +kernel
theorem dX3_become_84 : decode cX3_become 84 = .ok (.aload_n 1, 1) := by decide +kernel
theorem dX3_become_85 : decode cX3_become 85 = .ok (.getfield 63, 3) := by decide +kernel
theorem dX3_become_88 : decode cX3_become 88 = .ok (.putfield 63, 3) := by decide +kernel
theorem dX3_become_91 : decode cX3_become 91 = .ok (.aload_n 0, 1) := by decide +kernel
theorem dX3_become_92 : decode cX3_become 92 = .ok (.getfield 37, 3) := by decide +kernel
theorem dX3_become_95 : decode cX3_become 95 = .ok (.aload_n 1, 1) := by decide +kernel
theorem dX3_become_96 : decode cX3_become 96 = .ok (.getfield 37, 3) := by decide +kernel
theorem dX3_become_99 : decode cX3_become 99 = .ok (.invokevirtual 67, 3) := by decide +kernel
theorem dX3_become_102 : decode cX3_become 102 = .ok (.aload_n 0, 1) := by decide +kernel
theorem dX3_become_103 : decode cX3_become 103 = .ok (.getfield 41, 3) := by decide +kernel
theorem dX3_become_106 : decode cX3_become 106 = .ok (.aload_n 1, 1) := by decide +kernel
theorem dX3_become_107 : decode cX3_become 107 = .ok (.getfield 41, 3) := by decide +kernel
theorem dX3_become_110 : decode cX3_become 110 = .ok (.invokevirtual 67, 3) := by decide +kernel
theorem dX3_become_113 : decode cX3_become 113 = .ok (.aload_n 0, 1) := by decide +kernel
theorem dX3_become_114 : decode cX3_become 114 = .ok (.getfield 44, 3) := by decide +kernel
theorem dX3_become_117 : decode cX3_become 117 = .ok (.aload_n 1, 1) := by decide +kernel
theorem dX3_become_118 : decode cX3_become 118 = .ok (.getfield 44, 3) := by decide +kernel
theorem dX3_become_121 : decode cX3_become 121 = .ok (.invokevirtual 67, 3) := by decide +kernel
theorem dX3_become_124 : decode cX3_become 124 = .ok (.return_, 1) := by decide +kernel
set_option maxRecDepth 20000 in
theorem ggX3_mayChange_X1_hasRound : GoodIn wsX3_mayChange wsX1_hasRound := goodIn_r _ [6, 7, 30, 31, 32, 33, 34, 35, 36] (by decide +kernel) (by decide +kernel)
set_option maxRecDepth 20000 in
theorem gX3_mayChange_X1_hasRound : GoodIn wsX3_mayChange (wsV RX3 70 RX1 yX1_hasRound wsX1_hasRound) := goodIn_app (goodIn_of _ (by decide +kernel)) ggX3_mayChange_X1_hasRound
set_option maxRecDepth 20000 in
theorem ggX3_mayChange_X1_hasGame : GoodIn wsX3_mayChange wsX1_hasGame := goodIn_r _ [11, 7, 30, 31, 32, 33, 34, 35, 36] (by decide +kernel) (by decide +kernel)
set_option maxRecDepth 20000 in
theorem gX3_mayChange_X1_hasGame : GoodIn wsX3_mayChange (wsV RX3 74 RX1 yX1_hasGame wsX1_hasGame) := goodIn_app (goodIn_of _ (by decide +kernel)) ggX3_mayChange_X1_hasGame
set_option maxRecDepth 20000 in
theorem ggX3_mayChange_X1_hasTeam : GoodIn wsX3_mayChange wsX1_hasTeam := goodIn_r _ [15, 7, 30, 31, 32, 33, 34, 35, 36] (by decide +kernel) (by decide +kernel)
set_option maxRecDepth 20000 in
theorem gX3_mayChange_X1_hasTeam : GoodIn wsX3_mayChange (wsV RX3 78 RX1 yX1_hasTeam wsX1_hasTeam) := goodIn_app (goodIn_of _ (by decide +kernel)) ggX3_mayChange_X1_hasTeam
set_option maxRecDepth 20000 in
theorem ggX3_mayChange_X7_isRate : GoodIn wsX3_mayChange wsX7_isRate := goodIn_r _ [18] (by decide +kernel) (by decide +kernel)
set_option maxRecDepth 20000 in
theorem gX3_mayChange_X7_isRate_n81 : GoodIn wsX3_mayChange (wsX7_isRate) := ggX3_mayChange_X7_isRate
set_option maxRecDepth 20000 in
theorem ggX3_mayChange_X7_isNumber : GoodIn wsX3_mayChange wsX7_isNumber := goodIn_r _ [20] (by decide +kernel) (by decide +kernel)
set_option maxRecDepth 20000 in
theorem gX3_mayChange_X7_isNumber_n84 : GoodIn wsX3_mayChange (wsX7_isNumber) := ggX3_mayChange_X7_isNumber
theorem dX3_mayChange_0 : decode cX3_mayChange 0 = .ok (.iload_n 1, 1) := by decide +kernel
theorem dX3_mayChange_1 : decode cX3_mayChange 1 = .ok (.tableswitch 117 0 3 #[31, 59, 69, 97], 31) := by decide +kernel
theorem dX3_mayChange_32 : decode cX3_mayChange 32 = .ok (.aload_n 0, 1) := by decide +kernel
theorem dX3_mayChange_33 : decode cX3_mayChange 33 = .ok (.getfield 12, 3) := by decide +kernel
theorem dX3_mayChange_36 : decode cX3_mayChange 36 = .ok (.iload_n 2, 1) := by decide +kernel
theorem dX3_mayChange_37 : decode cX3_mayChange 37 = .ok (.invokevirtual 70, 3) := by decide +kernel
theorem dX3_mayChange_40 : decode cX3_mayChange 40 = .ok (.ifCond .eq 18, 3) := by decide +kernel
theorem dX3_mayChange_43 : decode cX3_mayChange 43 = .ok (.aload_n 0, 1) := by decide +kernel
theorem dX3_mayChange_44 : decode cX3_mayChange 44 = .ok (.getfield 12, 3) := by decide +kernel
theorem dX3_mayChange_47 : decode cX3_mayChange 47 = .ok (.iload_n 3, 1) := by decide +kernel
theorem dX3_mayChange_48 : decode cX3_mayChange 48 = .ok (.invokevirtual 70, 3) := by decide +kernel
theorem dX3_mayChange_51 : decode cX3_mayChange 51 = .ok (.ifCond .eq 7, 3) := by decide +kernel
theorem dX3_mayChange_54 : decode cX3_mayChange 54 = .ok (.iconst 1, 1) := by decide +kernel
theorem dX3_mayChange_55 : decode cX3_mayChange 55 = .ok (.goto 4, 3) := by decide +kernel
theorem dX3_mayChange_58 : decode cX3_mayChange 58 = .ok (.iconst 0, 1) := by decide +kernel
theorem dX3_mayChange_59 : decode cX3_mayChange 59 = .ok (.ireturn, 1) := by decide +kernel
theorem dX3_mayChange_60 : decode cX3_mayChange 60 = .ok (.aload_n 0, 1) := by decide +kernel
theorem dX3_mayChange_61 : decode cX3_mayChange 61 = .ok (.getfield 12, 3) := by decide +kernel
theorem dX3_mayChange_64 : decode cX3_mayChange 64 = .ok (.iload_n 2, 1) := by decide +kernel
theorem dX3_mayChange_65 : decode cX3_mayChange 65 = .ok (.iload_n 3, 1) := by decide +kernel
theorem dX3_mayChange_66 : decode cX3_mayChange 66 = .ok (.invokevirtual 74, 3) := by decide +kernel
theorem dX3_mayChange_69 : decode cX3_mayChange 69 = .ok (.ireturn, 1) := by decide +kernel
theorem dX3_mayChange_70 : decode cX3_mayChange 70 = .ok (.aload_n 0, 1) := by decide +kernel
theorem dX3_mayChange_71 : decode cX3_mayChange 71 = .ok (.getfield 12, 3) := by decide +kernel
theorem dX3_mayChange_74 : decode cX3_mayChange 74 = .ok (.iload_n 2, 1) := by decide +kernel
theorem dX3_mayChange_75 : decode cX3_mayChange 75 = .ok (.invokevirtual 78, 3) := by decide +kernel
theorem dX3_mayChange_78 : decode cX3_mayChange 78 = .ok (.ifCond .eq 18, 3) := by decide +kernel
theorem dX3_mayChange_81 : decode cX3_mayChange 81 = .ok (.aload_n 0, 1) := by decide +kernel
theorem dX3_mayChange_82 : decode cX3_mayChange 82 = .ok (.getfield 12, 3) := by decide +kernel
theorem dX3_mayChange_85 : decode cX3_mayChange 85 = .ok (.iload_n 3, 1) := by decide +kernel
theorem dX3_mayChange_86 : decode cX3_mayChange 86 = .ok (.invokevirtual 78, 3) := by decide +kernel
theorem dX3_mayChange_89 : decode cX3_mayChange 89 = .ok (.ifCond .eq 7, 3) := by decide +kernel
theorem dX3_mayChange_92 : decode cX3_mayChange 92 = .ok (.iconst 1, 1) := by decide +kernel
theorem dX3_mayChange_93 : decode cX3_mayChange 93 = .ok (.goto 4, 3) := by decide +kernel
theorem dX3_mayChange_96 : decode cX3_mayChange 96 = .ok (.iconst 0, 1) := by decide +kernel
theorem dX3_mayChange_97 : decode cX3_mayChange 97 = .ok (.ireturn, 1) := by decide +kernel
theorem dX3_mayChange_98 : decode cX3_mayChange 98 = .ok (.iload_n 2, 1) := by decide +kernel
theorem dX3_mayChange_99 : decode cX3_mayChange 99 = .ok (.invokestatic 81, 3) := by decide +kernel
theorem dX3_mayChange_102 : decode cX3_mayChange 102 = .ok (.ifCond .eq 14, 3) := by decide +kernel
theorem dX3_mayChange_105 : decode cX3_mayChange 105 = .ok (.iload_n 3, 1) := by decide +kernel
theorem dX3_mayChange_106 : decode cX3_mayChange 106 = .ok (.invokestatic 84, 3) := by decide +kernel
theorem dX3_mayChange_109 : decode cX3_mayChange 109 = .ok (.ifCond .eq 7, 3) := by decide +kernel
theorem dX3_mayChange_112 : decode cX3_mayChange 112 = .ok (.iconst 1, 1) := by decide +kernel
theorem dX3_mayChange_113 : decode cX3_mayChange 113 = .ok (.goto 4, 3) := by decide +kernel
theorem dX3_mayChange_116 : decode cX3_mayChange 116 = .ok (.iconst 0, 1) := by decide +kernel
theorem dX3_mayChange_117 : decode cX3_mayChange 117 = .ok (.ireturn, 1) := by decide +kernel
theorem dX3_mayChange_118 : decode cX3_mayChange 118 = .ok (.iconst 0, 1) := by decide +kernel
theorem dX3_mayChange_119 : decode cX3_mayChange 119 = .ok (.ireturn, 1) := by decide +kernel
set_option maxRecDepth 20000 in
theorem ggX3_change_X1_swapRounds : GoodIn wsX3_change wsX1_swapRounds := goodIn_r _ [7, 8, 9, 10, 11, 6, 12, 13, 14, 15, 16, 17, 18, 19, 20, 21, 22, 23, 24, 25, 26, 27, 28, 29, 30, 31, 32, 33, 34, 35, 36, 59, 60, 61, 62, 63, 64, 65] (by decide +kernel) (by decide +kernel)
set_option maxRecDepth 20000 in
theorem gX3_change_X1_swapRounds : GoodIn wsX3_change (wsV RX3 87 RX1 yX1_swapRounds wsX1_swapRounds) := goodIn_app (goodIn_of _ (by decide +kernel)) ggX3_change_X1_swapRounds
set_option maxRecDepth 20000 in
theorem ggX3_change_X1_turnGame : GoodIn wsX3_change wsX1_turnGame := goodIn_r _ [40, 18, 19, 20, 6, 21, 22, 14, 15, 16, 17, 8, 9, 10, 11, 12, 13, 23, 24, 25, 26, 27, 28, 29, 30, 31, 32, 33, 34, 35, 36, 59, 60, 61, 62, 63, 64, 65] (by decide +kernel) (by decide +kernel)
set_option maxRecDepth 20000 in
theorem gX3_change_X1_turnGame : GoodIn wsX3_change (wsV RX3 91 RX1 yX1_turnGame wsX1_turnGame) := goodIn_app (goodIn_of _ (by decide +kernel)) ggX3_change_X1_turnGame
set_option maxRecDepth 20000 in
theorem ggX3_change_X1_exchangeTeams : GoodIn wsX3_change wsX1_exchangeTeams := goodIn_r _ [44, 8, 9, 10, 11, 6, 12, 13, 14, 15, 16, 17, 45, 46, 47, 18, 19, 20, 21, 22, 23, 24, 25, 26, 27, 28, 29, 30, 31, 32, 33, 34, 35, 36, 59, 60, 61, 62, 63, 64, 65] (by decide +kernel) (by decide +kernel)
set_option maxRecDepth 20000 in
theorem gX3_change_X1_exchangeTeams : GoodIn wsX3_change (wsV RX3 94 RX1 yX1_exchangeTeams wsX1_exchangeTeams) := goodIn_app (goodIn_of _ (by decide +kernel)) ggX3_change_X1_exchangeTeams
set_option maxRecDepth 20000 in
theorem ggX3_change_X7_isRate : GoodIn wsX3_change wsX7_isRate := goodIn_r _ [49] (by decide +kernel) (by decide +kernel)
set_option maxRecDepth 20000 in
theorem gX3_change_X7_isRate_n81 : GoodIn wsX3_change (wsX7_isRate) := ggX3_change_X7_isRate
theorem dX3_change_0 : decode cX3_change 0 = .ok (.iload_n 1, 1) := by decide +kernel
theorem dX3_change_1 : decode cX3_change 1 = .ok (.tableswitch 63 0 2 #[27, 39, 51], 27) := by decide +kernel
theorem dX3_change_28 : decode cX3_change 28 = .ok (.aload_n 0, 1) := by decide +kernel
theorem dX3_change_29 : decode cX3_change 29 = .ok (.getfield 12, 3) := by decide +kernel
theorem dX3_change_32 : decode cX3_change 32 = .ok (.iload_n 2, 1) := by decide +kernel
theorem dX3_change_33 : decode cX3_change 33 = .ok (.iload_n 3, 1) := by decide +kernel
theorem dX3_change_34 : decode cX3_change 34 = .ok (.invokevirtual 87, 3) := by decide +kernel
theorem dX3_change_37 : decode cX3_change 37 = .ok (.goto 41, 3) := by decide +kernel
theorem dX3_change_40 : decode cX3_change 40 = .ok (.aload_n 0, 1) := by decide +kernel
theorem dX3_change_41 : decode cX3_change 41 = .ok (.getfield 12, 3) := by decide +kernel
theorem dX3_change_44 : decode cX3_change 44 = .ok (.iload_n 2, 1) := by decide +kernel
theorem dX3_change_45 : decode cX3_change 45 = .ok (.iload_n 3, 1) := by decide +kernel
theorem dX3_change_46 : decode cX3_change 46 = .ok (.invokevirtual 91, 3) := by decide +kernel
theorem dX3_change_49 : decode cX3_change 49 = .ok (.goto 29, 3) := by decide +kernel
theorem dX3_change_52 : decode cX3_change 52 = .ok (.aload_n 0, 1) := by decide +kernel
theorem dX3_change_53 : decode cX3_change 53 = .ok (.getfield 12, 3) := by decide +kernel
theorem dX3_change_56 : decode cX3_change 56 = .ok (.iload_n 2, 1) := by decide +kernel
theorem dX3_change_57 : decode cX3_change 57 = .ok (.iload_n 3, 1) := by decide +kernel
theorem dX3_change_58 : decode cX3_change 58 = .ok (.invokevirtual 94, 3) := by decide +kernel
theorem dX3_change_61 : decode cX3_change 61 = .ok (.goto 17, 3) := by decide +kernel
theorem dX3_change_64 : decode cX3_change 64 = .ok (.iload_n 2, 1) := by decide +kernel
theorem dX3_change_65 : decode cX3_change 65 = .ok (.invokestatic 81, 3) := by decide +kernel
theorem dX3_change_68 : decode cX3_change 68 = .ok (.ifCond .eq 10, 3) := by decide +kernel
theorem dX3_change_71 : decode cX3_change 71 = .ok (.aload_n 0, 1) := by decide +kernel
theorem dX3_change_72 : decode cX3_change 72 = .ok (.getfield 29, 3) := by decide +kernel
theorem dX3_change_75 : decode cX3_change 75 = .ok (.iload_n 2, 1) := by decide +kernel
theorem dX3_change_76 : decode cX3_change 76 = .ok (.iload_n 3, 1) := by decide +kernel
theorem dX3_change_77 : decode cX3_change 77 = .ok (.iastore, 1) := by decide +kernel
theorem dX3_change_78 : decode cX3_change 78 = .ok (.return_, 1) := by decide +kernel
set_option maxRecDepth 20000 in
theorem ggX3_costIf_X3_change : GoodIn wsX3_costIf wsX3_change := goodIn_r _ [5, 6, 7, 8, 9, 10, 11, 12, 13, 14, 15, 16, 17, 18, 19, 20, 21, 22, 23, 24, 25, 26, 27, 28, 29, 30, 31, 32, 33, 34, 35, 36, 37, 38, 39, 40, 41, 42, 43, 44, 45, 46, 47, 48, 49, 50, 51, 52, 53, 54, 136, 137, 138, 139, 140, 141, 142, 143, 144, 145, 146, 147, 148, 149, 150, 151] (by decide +kernel) (by decide +kernel)
set_option maxRecDepth 20000 in
theorem gX3_costIf_X3_change : GoodIn wsX3_costIf (wsV RX3 97 RX3 yX3_change wsX3_change) := goodIn_app (goodIn_of _ (by decide +kernel)) ggX3_costIf_X3_change
set_option maxRecDepth 20000 in
theorem ggX3_costIf_X3_fullCost : GoodIn wsX3_costIf wsX3_fullCost := goodIn_r _ [58, 6, 59, 60, 61, 11, 62, 13, 63, 64, 65, 66, 67, 68, 69, 70, 33, 71, 72, 73, 74, 39, 40, 41, 75, 76, 77, 4, 78, 7, 79, 53, 54, 80, 81, 82, 83, 84, 85, 15, 16, 17, 18, 19, 20, 21, 22, 86, 87, 88, 89, 90, 91, 92, 93, 94, 95, 96, 97, 98, 99, 100, 101, 102, 103, 104, 105, 106, 107, 108, 32, 109, 110, 111, 112, 113, 114, 115, 116, 117, 118, 119, 120, 121, 122, 123, 124, 125, 126, 127, 128, 129, 130, 131, 132, 133, 134, 135, 136, 137, 138, 139, 140, 141, 142, 143, 144, 145, 146, 147, 148, 149, 150, 151] (by decide +kernel) (by decide +kernel)
set_option maxRecDepth 20000 in
theorem gX3_costIf_X3_fullCost : GoodIn wsX3_costIf (wsV RX3 101 RX3 yX3_fullCost wsX3_fullCost) := goodIn_app (goodIn_of _ (by decide +kernel)) ggX3_costIf_X3_fullCost
theorem dX3_costIf_0 : decode cX3_costIf 0 = .ok (.aload_n 0, 1) := by decide +kernel
theorem dX3_costIf_1 : decode cX3_costIf 1 = .ok (.iload_n 1, 1) := by decide +kernel
theorem dX3_costIf_2 : decode cX3_costIf 2 = .ok (.iload_n 2, 1) := by decide +kernel
theorem dX3_costIf_3 : decode cX3_costIf 3 = .ok (.iload_n 3, 1) := by decide +kernel
theorem dX3_costIf_4 : decode cX3_costIf 4 = .ok (.invokevirtual 97, 3) := by decide +kernel
theorem dX3_costIf_7 : decode cX3_costIf 7 = .ok (.aload_n 0, 1) := by decide +kernel
theorem dX3_costIf_8 : decode cX3_costIf 8 = .ok (.invokevirtual 101, 3) := by decide +kernel
theorem dX3_costIf_11 : decode cX3_costIf 11 = .ok (.fstore 4, 2) := by decide +kernel
theorem dX3_costIf_13 : decode cX3_costIf 13 = .ok (.aload_n 0, 1) := by decide +kernel
theorem dX3_costIf_14 : decode cX3_costIf 14 = .ok (.iload_n 1, 1) := by decide +kernel
theorem dX3_costIf_15 : decode cX3_costIf 15 = .ok (.iload_n 2, 1) := by decide +kernel
theorem dX3_costIf_16 : decode cX3_costIf 16 = .ok (.iload_n 3, 1) := by decide +kernel
theorem dX3_costIf_17 : decode cX3_costIf 17 = .ok (.invokevirtual 97, 3) := by decide +kernel
theorem dX3_costIf_20 : decode cX3_costIf 20 = .ok (.fload 4, 2) := by decide +kernel
theorem dX3_costIf_22 : decode cX3_costIf 22 = .ok (.freturn, 1) := by decide +kernel
set_option maxRecDepth 20000 in
theorem ggX3_takeStep_X3_fullCost : GoodIn wsX3_takeStep wsX3_fullCost := goodIn_r _ [7, 1, 8, 9, 10, 11, 12, 13, 14, 15, 16, 17, 18, 19, 20, 21, 22, 23, 24, 25, 26, 27, 28, 29, 30, 31, 32, 6, 33, 34, 35, 36, 37, 38, 39, 40, 41, 2, 42, 43, 44, 45, 46, 47, 48, 49, 50, 51, 52, 53, 54, 55, 56, 57, 58, 59, 60, 61, 62, 63, 64, 65, 66, 67, 68, 69, 70, 71, 72, 73, 74, 75, 76, 77, 78, 79, 80, 81, 82, 83, 84, 85, 86, 87, 88, 89, 90, 91, 92, 93, 94, 95, 96, 97, 98, 99, 100, 101, 140, 141, 142, 143, 144, 145, 146, 147, 148, 149, 150, 151, 152, 153, 154, 155] (by decide +kernel) (by decide +kernel)
set_option maxRecDepth 20000 in
theorem gX3_takeStep_X3_fullCost : GoodIn wsX3_takeStep (wsV RX3 101 RX3 yX3_fullCost wsX3_fullCost) := goodIn_app (goodIn_of _ (by decide +kernel)) ggX3_takeStep_X3_fullCost
set_option maxRecDepth 20000 in
theorem ggX3_takeStep_X3_costIf : GoodIn wsX3_takeStep wsX3_costIf := goodIn_r _ [105, 106, 107, 108, 6, 109, 1, 34, 110, 111, 112, 11, 113, 13, 114, 43, 44, 45, 46, 47, 48, 49, 50, 115, 116, 117, 118, 119, 120, 121, 122, 123, 74, 22, 124, 125, 126, 127, 128, 27, 28, 29, 129, 130, 131, 132, 133, 134, 135, 136, 137, 138, 139, 36, 37, 3, 4, 5, 7, 8, 9, 10, 12, 14, 15, 16, 17, 18, 19, 20, 21, 23, 24, 25, 26, 30, 31, 32, 33, 35, 38, 39, 40, 41, 2, 42, 51, 52, 53, 54, 55, 56, 57, 58, 59, 60, 61, 62, 63, 64, 65, 66, 67, 68, 69, 70, 71, 72, 73, 75, 76, 77, 78, 79, 80, 81, 82, 83, 84, 85, 86, 87, 88, 89, 90, 91, 92, 93, 94, 95, 96, 97, 98, 99, 100, 101, 140, 141, 142, 143, 144, 145, 146, 147, 148, 149, 150, 151, 152, 153, 154, 155] (by decide +kernel) (by decide +kernel)
set_option maxRecDepth 20000 in
theorem gX3_takeStep_X3_costIf : GoodIn wsX3_takeStep (wsV RX3 108 RX3 yX3_costIf wsX3_costIf) := goodIn_app (goodIn_of _ (by decide +kernel)) ggX3_takeStep_X3_costIf
set_option maxRecDepth 20000 in
theorem ggX3_takeStep_X3_change : GoodIn wsX3_takeStep wsX3_change := goodIn_r _ [109, 1, 34, 110, 111, 112, 11, 113, 13, 114, 43, 44, 45, 46, 47, 48, 49, 50, 115, 116, 117, 118, 119, 120, 121, 122, 123, 74, 22, 124, 125, 126, 127, 128, 27, 28, 29, 129, 130, 131, 132, 133, 134, 135, 136, 137, 138, 139, 36, 37, 140, 141, 142, 143, 144, 145, 146, 147, 148, 149, 150, 151, 152, 153, 154, 155] (by decide +kernel) (by decide +kernel)
set_option maxRecDepth 20000 in
theorem gX3_takeStep_X3_change : GoodIn wsX3_takeStep (wsV RX3 97 RX3 yX3_change wsX3_change) := goodIn_app (goodIn_of _ (by decide +kernel)) ggX3_takeStep_X3_change
theorem dX3_takeStep_0 : decode cX3_takeStep 0 = .ok (.aload_n 0, 1) := by decide +kernel
theorem dX3_takeStep_1 : decode cX3_takeStep 1 = .ok (.invokevirtual 101, 3) := by decide +kernel
theorem dX3_takeStep_4 : decode cX3_takeStep 4 = .ok (.fstore_n 2, 1) := by decide +kernel
theorem dX3_takeStep_5 : decode cX3_takeStep 5 = .ok (.iconst (-1), 1) := by decide +kernel
theorem dX3_takeStep_6 : decode cX3_takeStep 6 = .ok (.istore_n 3, 1) := by decide +kernel
theorem dX3_takeStep_7 : decode cX3_takeStep 7 = .ok (.iconst (-1), 1) := by decide +kernel
theorem dX3_takeStep_8 : decode cX3_takeStep 8 = .ok (.istore 4, 2) := by decide +kernel
theorem dX3_takeStep_10 : decode cX3_takeStep 10 = .ok (.iload_n 1, 1) := by decide +kernel
theorem dX3_takeStep_11 : decode cX3_takeStep 11 = .ok (.iconst 2, 1) := by decide +kernel
theorem dX3_takeStep_12 : decode cX3_takeStep 12 = .ok (.if_icmp .ne 13, 3) := by decide +kernel
theorem dX3_takeStep_15 : decode cX3_takeStep 15 = .ok (.aload_n 0, 1) := by decide +kernel
theorem dX3_takeStep_16 : decode cX3_takeStep 16 = .ok (.getfield 12, 3) := by decide +kernel
theorem dX3_takeStep_19 : decode cX3_takeStep 19 = .ok (.getfield 105, 3) := by decide +kernel
theorem dX3_takeStep_22 : decode cX3_takeStep 22 = .ok (.goto 12, 3) := by decide +kernel
theorem dX3_takeStep_25 : decode cX3_takeStep 25 = .ok (.aload_n 0, 1) := by decide +kernel
theorem dX3_takeStep_26 : decode cX3_takeStep 26 = .ok (.getfield 12, 3) := by decide +kernel
theorem dX3_takeStep_29 : decode cX3_takeStep 29 = .ok (.getfield 105, 3) := by decide +kernel
theorem dX3_takeStep_32 : decode cX3_takeStep 32 = .ok (.iconst 1, 1) := by decide +kernel
theorem dX3_takeStep_33 : decode cX3_takeStep 33 = .ok (.isub, 1) := by decide +kernel
theorem dX3_takeStep_34 : decode cX3_takeStep 34 = .ok (.istore 5, 2) := by decide +kernel
theorem dX3_takeStep_36 : decode cX3_takeStep 36 = .ok (.aload_n 0, 1) := by decide +kernel
theorem dX3_takeStep_37 : decode cX3_takeStep 37 = .ok (.getfield 12, 3) := by decide +kernel
theorem dX3_takeStep_40 : decode cX3_takeStep 40 = .ok (.getfield 105, 3) := by decide +kernel
theorem dX3_takeStep_43 : decode cX3_takeStep 43 = .ok (.iconst 2, 1) := by decide +kernel
theorem dX3_takeStep_44 : decode cX3_takeStep 44 = .ok (.idiv, 1) := by decide +kernel
theorem dX3_takeStep_45 : decode cX3_takeStep 45 = .ok (.istore 6, 2) := by decide +kernel
theorem dX3_takeStep_47 : decode cX3_takeStep 47 = .ok (.iconst 0, 1) := by decide +kernel
theorem dX3_takeStep_48 : decode cX3_takeStep 48 = .ok (.istore 7, 2) := by decide +kernel
theorem dX3_takeStep_50 : decode cX3_takeStep 50 = .ok (.iload 7, 2) := by decide +kernel
theorem dX3_takeStep_52 : decode cX3_takeStep 52 = .ok (.iload 5, 2) := by decide +kernel
theorem dX3_takeStep_54 : decode cX3_takeStep 54 = .ok (.if_icmp .ge 83, 3) := by decide +kernel
theorem dX3_takeStep_57 : decode cX3_takeStep 57 = .ok (.iload_n 1, 1) := by decide +kernel
theorem dX3_takeStep_58 : decode cX3_takeStep 58 = .ok (.iconst 1, 1) := by decide +kernel
theorem dX3_takeStep_59 : decode cX3_takeStep 59 = .ok (.if_icmp .ne 7, 3) := by decide +kernel
theorem dX3_takeStep_62 : decode cX3_takeStep 62 = .ok (.iconst 0, 1) := by decide +kernel
theorem dX3_takeStep_63 : decode cX3_takeStep 63 = .ok (.goto 7, 3) := by decide +kernel
theorem dX3_takeStep_66 : decode cX3_takeStep 66 = .ok (.iload 7, 2) := by decide +kernel
theorem dX3_takeStep_68 : decode cX3_takeStep 68 = .ok (.iconst 1, 1) := by decide +kernel
theorem dX3_takeStep_69 : decode cX3_takeStep 69 = .ok (.iadd, 1) := by decide +kernel
theorem dX3_takeStep_70 : decode cX3_takeStep 70 = .ok (.istore 8, 2) := by decide +kernel
theorem dX3_takeStep_72 : decode cX3_takeStep 72 = .ok (.iload_n 1, 1) := by decide +kernel
theorem dX3_takeStep_73 : decode cX3_takeStep 73 = .ok (.iconst 1, 1) := by decide +kernel
theorem dX3_takeStep_74 : decode cX3_takeStep 74 = .ok (.if_icmp .ne 8, 3) := by decide +kernel
theorem dX3_takeStep_77 : decode cX3_takeStep 77 = .ok (.iload 6, 2) := by decide +kernel
theorem dX3_takeStep_79 : decode cX3_takeStep 79 = .ok (.goto 5, 3) := by decide +kernel
theorem dX3_takeStep_82 : decode cX3_takeStep 82 = .ok (.iload 5, 2) := by decide +kernel
theorem dX3_takeStep_84 : decode cX3_takeStep 84 = .ok (.istore 9, 2) := by decide +kernel
theorem dX3_takeStep_86 : decode cX3_takeStep 86 = .ok (.iload 8, 2) := by decide +kernel
theorem dX3_takeStep_88 : decode cX3_takeStep 88 = .ok (.istore 10, 2) := by decide +kernel
theorem dX3_takeStep_90 : decode cX3_takeStep 90 = .ok (.iload 10, 2) := by decide +kernel
theorem dX3_takeStep_92 : decode cX3_takeStep 92 = .ok (.iload 9, 2) := by decide +kernel
theorem dX3_takeStep_94 : decode cX3_takeStep 94 = .ok (.if_icmp .ge 37, 3) := by decide +kernel
theorem dX3_takeStep_97 : decode cX3_takeStep 97 = .ok (.aload_n 0, 1) := by decide +kernel
theorem dX3_takeStep_98 : decode cX3_takeStep 98 = .ok (.iload_n 1, 1) := by decide +kernel
theorem dX3_takeStep_99 : decode cX3_takeStep 99 = .ok (.iload 7, 2) := by decide +kernel
theorem dX3_takeStep_101 : decode cX3_takeStep 101 = .ok (.iload 10, 2) := by decide +kernel
theorem dX3_takeStep_103 : decode cX3_takeStep 103 = .ok (.invokevirtual 108, 3) := by decide +kernel
theorem dX3_takeStep_106 : decode cX3_takeStep 106 = .ok (.fstore 11, 2) := by decide +kernel
theorem dX3_takeStep_108 : decode cX3_takeStep 108 = .ok (.fload 11, 2) := by decide +kernel
theorem dX3_takeStep_110 : decode cX3_takeStep 110 = .ok (.fload_n 2, 1) := by decide +kernel
theorem dX3_takeStep_111 : decode cX3_takeStep 111 = .ok (.fcmp .g, 1) := by decide +kernel
theorem dX3_takeStep_112 : decode cX3_takeStep 112 = .ok (.ifCond .ge 13, 3) := by decide +kernel
theorem dX3_takeStep_115 : decode cX3_takeStep 115 = .ok (.fload 11, 2) := by decide +kernel
theorem dX3_takeStep_117 : decode cX3_takeStep 117 = .ok (.fstore_n 2, 1) := by decide +kernel
theorem dX3_takeStep_118 : decode cX3_takeStep 118 = .ok (.iload 7, 2) := by decide +kernel
theorem dX3_takeStep_120 : decode cX3_takeStep 120 = .ok (.istore_n 3, 1) := by decide +kernel
theorem dX3_takeStep_121 : decode cX3_takeStep 121 = .ok (.iload 10, 2) := by decide +kernel
theorem dX3_takeStep_123 : decode cX3_takeStep 123 = .ok (.istore 4, 2) := by decide +kernel
theorem dX3_takeStep_125 : decode cX3_takeStep 125 = .ok (.iinc 10 1, 3) := by decide +kernel
theorem dX3_takeStep_128 : decode cX3_takeStep 128 = .ok (.goto (-38), 3) := by decide +kernel
theorem dX3_takeStep_131 : decode cX3_takeStep 131 = .ok (.iinc 7 1, 3) := by decide +kernel
theorem dX3_takeStep_134 : decode cX3_takeStep 134 = .ok (.goto (-84), 3) := by decide +kernel
theorem dX3_takeStep_137 : decode cX3_takeStep 137 = .ok (.iload_n 3, 1) := by decide +kernel
theorem dX3_takeStep_138 : decode cX3_takeStep 138 = .ok (.iconst (-1), 1) := by decide +kernel
theorem dX3_takeStep_139 : decode cX3_takeStep 139 = .ok (.if_icmp .ne 5, 3) := by decide +kernel
theorem dX3_takeStep_142 : decode cX3_takeStep 142 = .ok (.iconst 0, 1) := by decide +kernel
theorem dX3_takeStep_143 : decode cX3_takeStep 143 = .ok (.ireturn, 1) := by decide +kernel
theorem dX3_takeStep_144 : decode cX3_takeStep 144 = .ok (.aload_n 0, 1) := by decide +kernel
theorem dX3_takeStep_145 : decode cX3_takeStep 145 = .ok (.iload_n 1, 1) := by decide +kernel
theorem dX3_takeStep_146 : decode cX3_takeStep 146 = .ok (.iload_n 3, 1) := by decide +kernel
theorem dX3_takeStep_147 : decode cX3_takeStep 147 = .ok (.iload 4, 2) := by decide +kernel
theorem dX3_takeStep_149 : decode cX3_takeStep 149 = .ok (.invokevirtual 97, 3) := by decide +kernel
theorem dX3_takeStep_152 : decode cX3_takeStep 152 = .ok (.iconst 1, 1) := by decide +kernel
theorem dX3_takeStep_153 : decode cX3_takeStep 153 = .ok (.ireturn, 1) := by decide +kernel
set_option maxRecDepth 20000 in
theorem ggX3_isBarred_X1_hasPlace : GoodIn wsX3_isBarred wsX1_hasPlace := goodIn_r _ [7, 8, 21, 22, 23, 24, 25, 26, 27] (by decide +kernel) (by decide +kernel)
set_option maxRecDepth 20000 in
theorem gX3_isBarred_X1_hasPlace : GoodIn wsX3_isBarred (wsV RX3 112 RX1 yX1_hasPlace wsX1_hasPlace) := goodIn_app (goodIn_of _ (by decide +kernel)) ggX3_isBarred_X1_hasPlace
set_option maxRecDepth 20000 in
theorem ggX3_isBarred_X7_cellOf : GoodIn wsX3_isBarred wsX7_cellOf := goodIn_r _ [11] (by decide +kernel) (by decide +kernel)
set_option maxRecDepth 20000 in
theorem gX3_isBarred_X7_cellOf_n115 : GoodIn wsX3_isBarred (wsX7_cellOf) := ggX3_isBarred_X7_cellOf
theorem dX3_isBarred_0 : decode cX3_isBarred 0 = .ok (.aload_n 0, 1) := by decide +kernel
theorem dX3_isBarred_1 : decode cX3_isBarred 1 = .ok (.getfield 12, 3) := by decide +kernel
theorem dX3_isBarred_4 : decode cX3_isBarred 4 = .ok (.iload_n 1, 1) := by decide +kernel
theorem dX3_isBarred_5 : decode cX3_isBarred 5 = .ok (.iload_n 2, 1) := by decide +kernel
theorem dX3_isBarred_6 : decode cX3_isBarred 6 = .ok (.invokevirtual 112, 3) := by decide +kernel
theorem dX3_isBarred_9 : decode cX3_isBarred 9 = .ok (.ifCond .eq 20, 3) := by decide +kernel
theorem dX3_isBarred_12 : decode cX3_isBarred 12 = .ok (.aload_n 0, 1) := by decide +kernel
theorem dX3_isBarred_13 : decode cX3_isBarred 13 = .ok (.getfield 25, 3) := by decide +kernel
theorem dX3_isBarred_16 : decode cX3_isBarred 16 = .ok (.iload_n 1, 1) := by decide +kernel
theorem dX3_isBarred_17 : decode cX3_isBarred 17 = .ok (.iload_n 2, 1) := by decide +kernel
theorem dX3_isBarred_18 : decode cX3_isBarred 18 = .ok (.invokestatic 115, 3) := by decide +kernel
theorem dX3_isBarred_21 : decode cX3_isBarred 21 = .ok (.baload, 1) := by decide +kernel
theorem dX3_isBarred_22 : decode cX3_isBarred 22 = .ok (.ifCond .eq 7, 3) := by decide +kernel
theorem dX3_isBarred_25 : decode cX3_isBarred 25 = .ok (.iconst 1, 1) := by decide +kernel
theorem dX3_isBarred_26 : decode cX3_isBarred 26 = .ok (.goto 4, 3) := by decide +kernel
theorem dX3_isBarred_29 : decode cX3_isBarred 29 = .ok (.iconst 0, 1) := by decide +kernel
theorem dX3_isBarred_30 : decode cX3_isBarred 30 = .ok (.ireturn, 1) := by decide +kernel
theorem dX3_allBars_0 : decode cX3_allBars 0 = .ok (.iconst 0, 1) := by decide +kernel
theorem dX3_allBars_1 : decode cX3_allBars 1 = .ok (.istore_n 1, 1) := by decide +kernel
theorem dX3_allBars_2 : decode cX3_allBars 2 = .ok (.iconst 0, 1) := by decide +kernel
theorem dX3_allBars_3 : decode cX3_allBars 3 = .ok (.istore_n 2, 1) := by decide +kernel
theorem dX3_allBars_4 : decode cX3_allBars 4 = .ok (.iload_n 2, 1) := by decide +kernel
theorem dX3_allBars_5 : decode cX3_allBars 5 = .ok (.aload_n 0, 1) := by decide +kernel
theorem dX3_allBars_6 : decode cX3_allBars 6 = .ok (.getfield 25, 3) := by decide +kernel
theorem dX3_allBars_9 : decode cX3_allBars 9 = .ok (.arraylength, 1) := by decide +kernel
theorem dX3_allBars_10 : decode cX3_allBars 10 = .ok (.if_icmp .ge 26, 3) := by decide +kernel
theorem dX3_allBars_13 : decode cX3_allBars 13 = .ok (.iload_n 1, 1) := by decide +kernel
theorem dX3_allBars_14 : decode cX3_allBars 14 = .ok (.aload_n 0, 1) := by decide +kernel
theorem dX3_allBars_15 : decode cX3_allBars 15 = .ok (.getfield 25, 3) := by decide +kernel
theorem dX3_allBars_18 : decode cX3_allBars 18 = .ok (.iload_n 2, 1) := by decide +kernel
theorem dX3_allBars_19 : decode cX3_allBars 19 = .ok (.baload, 1) := by decide +kernel
theorem dX3_allBars_20 : decode cX3_allBars 20 = .ok (.ifCond .eq 7, 3) := by decide +kernel
theorem dX3_allBars_23 : decode cX3_allBars 23 = .ok (.iconst 1, 1) := by decide +kernel
theorem dX3_allBars_24 : decode cX3_allBars 24 = .ok (.goto 4, 3) := by decide +kernel
theorem dX3_allBars_27 : decode cX3_allBars 27 = .ok (.iconst 0, 1) := by decide +kernel
theorem dX3_allBars_28 : decode cX3_allBars 28 = .ok (.iadd, 1) := by decide +kernel
theorem dX3_allBars_29 : decode cX3_allBars 29 = .ok (.istore_n 1, 1) := by decide +kernel
theorem dX3_allBars_30 : decode cX3_allBars 30 = .ok (.iinc 2 1, 3) := by decide +kernel
theorem dX3_allBars_33 : decode cX3_allBars 33 = .ok (.goto (-29), 3) := by decide +kernel
theorem dX3_allBars_36 : decode cX3_allBars 36 = .ok (.iload_n 1, 1) := by decide +kernel
theorem dX3_allBars_37 : decode cX3_allBars 37 = .ok (.ireturn, 1) := by decide +kernel
set_option maxRecDepth 20000 in
theorem ggX3_violations_X1_homeOf : GoodIn wsX3_violations wsX1_homeOf := goodIn_r _ [7, 8, 9, 10, 11, 6, 12, 13, 36, 37, 38, 39, 40, 41, 42] (by decide +kernel) (by decide +kernel)
set_option maxRecDepth 20000 in
theorem gX3_violations_X1_homeOf : GoodIn wsX3_violations (wsV RX3 119 RX1 yX1_homeOf wsX1_homeOf) := goodIn_app (goodIn_of _ (by decide +kernel)) ggX3_violations_X1_homeOf
set_option maxRecDepth 20000 in
theorem ggX3_violations_X3_isBarred : GoodIn wsX3_violations wsX3_isBarred := goodIn_r _ [18, 1, 19, 20, 21, 22, 6, 23, 13, 24, 25, 26, 27, 28, 29, 30, 31, 32, 33, 34, 35, 36, 37, 38, 39, 40, 41, 42] (by decide +kernel) (by decide +kernel)
set_option maxRecDepth 20000 in
theorem gX3_violations_X3_isBarred : GoodIn wsX3_violations (wsV RX3 122 RX3 yX3_isBarred wsX3_isBarred) := goodIn_app (goodIn_of _ (by decide +kernel)) ggX3_violations_X3_isBarred
theorem dX3_violations_0 : decode cX3_violations 0 = .ok (.iconst 0, 1) := by decide +kernel
theorem dX3_violations_1 : decode cX3_violations 1 = .ok (.istore_n 1, 1) := by decide +kernel
theorem dX3_violations_2 : decode cX3_violations 2 = .ok (.iconst 0, 1) := by decide +kernel
theorem dX3_violations_3 : decode cX3_violations 3 = .ok (.istore_n 2, 1) := by decide +kernel
theorem dX3_violations_4 : decode cX3_violations 4 = .ok (.iload_n 2, 1) := by decide +kernel
theorem dX3_violations_5 : decode cX3_violations 5 = .ok (.aload_n 0, 1) := by decide +kernel
theorem dX3_violations_6 : decode cX3_violations 6 = .ok (.getfield 12, 3) := by decide +kernel
theorem dX3_violations_9 : decode cX3_violations 9 = .ok (.getfield 105, 3) := by decide +kernel
theorem dX3_violations_12 : decode cX3_violations 12 = .ok (.iconst 1, 1) := by decide +kernel
theorem dX3_violations_13 : decode cX3_violations 13 = .ok (.isub, 1) := by decide +kernel
theorem dX3_violations_14 : decode cX3_violations 14 = .ok (.if_icmp .ge 55, 3) := by decide +kernel
theorem dX3_violations_17 : decode cX3_violations 17 = .ok (.iconst 0, 1) := by decide +kernel
theorem dX3_violations_18 : decode cX3_violations 18 = .ok (.istore_n 3, 1) := by decide +kernel
theorem dX3_violations_19 : decode cX3_violations 19 = .ok (.iload_n 3, 1) := by decide +kernel
theorem dX3_violations_20 : decode cX3_violations 20 = .ok (.aload_n 0, 1) := by decide +kernel
theorem dX3_violations_21 : decode cX3_violations 21 = .ok (.getfield 12, 3) := by decide +kernel
theorem dX3_violations_24 : decode cX3_violations 24 = .ok (.getfield 105, 3) := by decide +kernel
theorem dX3_violations_27 : decode cX3_violations 27 = .ok (.iconst 2, 1) := by decide +kernel
theorem dX3_violations_28 : decode cX3_violations 28 = .ok (.idiv, 1) := by decide +kernel
theorem dX3_violations_29 : decode cX3_violations 29 = .ok (.if_icmp .ge 34, 3) := by decide +kernel
theorem dX3_violations_32 : decode cX3_violations 32 = .ok (.iload_n 1, 1) := by decide +kernel
theorem dX3_violations_33 : decode cX3_violations 33 = .ok (.aload_n 0, 1) := by decide +kernel
theorem dX3_violations_34 : decode cX3_violations 34 = .ok (.aload_n 0, 1) := by decide +kernel
theorem dX3_violations_35 : decode cX3_violations 35 = .ok (.getfield 12, 3) := by decide +kernel
theorem dX3_violations_38 : decode cX3_violations 38 = .ok (.iload_n 2, 1) := by decide +kernel
theorem dX3_violations_39 : decode cX3_violations 39 = .ok (.iload_n 3, 1) := by decide +kernel
theorem dX3_violations_40 : decode cX3_violations 40 = .ok (.invokevirtual 119, 3) := by decide +kernel
theorem dX3_violations_43 : decode cX3_violations 43 = .ok (.iload_n 2, 1) := by decide +kernel
theorem dX3_violations_44 : decode cX3_violations 44 = .ok (.invokevirtual 122, 3) := by decide +kernel
theorem dX3_violations_47 : decode cX3_violations 47 = .ok (.ifCond .eq 7, 3) := by decide +kernel
theorem dX3_violations_50 : decode cX3_violations 50 = .ok (.iconst 1, 1) := by decide +kernel
theorem dX3_violations_51 : decode cX3_violations 51 = .ok (.goto 4, 3) := by decide +kernel
theorem dX3_violations_54 : decode cX3_violations 54 = .ok (.iconst 0, 1) := by decide +kernel
theorem dX3_violations_55 : decode cX3_violations 55 = .ok (.iadd, 1) := by decide +kernel
theorem dX3_violations_56 : decode cX3_violations 56 = .ok (.istore_n 1, 1) := by decide +kernel
theorem dX3_violations_57 : decode cX3_violations 57 = .ok (.iinc 3 1, 3) := by decide +kernel
theorem dX3_violations_60 : decode cX3_violations 60 = .ok (.goto (-41), 3) := by decide +kernel
theorem dX3_violations_63 : decode cX3_violations 63 = .ok (.iinc 2 1, 3) := by decide +kernel
theorem dX3_violations_66 : decode cX3_violations 66 = .ok (.goto (-62), 3) := by decide +kernel
theorem dX3_violations_69 : decode cX3_violations 69 = .ok (.iload_n 1, 1) := by decide +kernel
theorem dX3_violations_70 : decode cX3_violations 70 = .ok (.ireturn, 1) := by decide +kernel
set_option maxRecDepth 20000 in
theorem ggX3_far_X1_hasTeam : GoodIn wsX3_far wsX1_hasTeam := goodIn_r _ [12, 13, 23, 24, 25, 26, 27, 28, 29] (by decide +kernel) (by decide +kernel)
set_option maxRecDepth 20000 in
theorem gX3_far_X1_hasTeam : GoodIn wsX3_far (wsV RX3 78 RX1 yX1_hasTeam wsX1_hasTeam) := goodIn_app (goodIn_of _ (by decide +kernel)) ggX3_far_X1_hasTeam
theorem dX3_far_0 : decode cX3_far 0 = .ok (.aload_n 0, 1) := by decide +kernel
theorem dX3_far_1 : decode cX3_far 1 = .ok (.getfield 12, 3) := by decide +kernel
theorem dX3_far_4 : decode cX3_far 4 = .ok (.iload_n 1, 1) := by decide +kernel
theorem dX3_far_5 : decode cX3_far 5 = .ok (.invokevirtual 78, 3) := by decide +kernel
theorem dX3_far_8 : decode cX3_far 8 = .ok (.ifCond .eq 14, 3) := by decide +kernel
theorem dX3_far_11 : decode cX3_far 11 = .ok (.aload_n 0, 1) := by decide +kernel
theorem dX3_far_12 : decode cX3_far 12 = .ok (.getfield 12, 3) := by decide +kernel
theorem dX3_far_15 : decode cX3_far 15 = .ok (.iload_n 2, 1) := by decide +kernel
theorem dX3_far_16 : decode cX3_far 16 = .ok (.invokevirtual 78, 3) := by decide +kernel
theorem dX3_far_19 : decode cX3_far 19 = .ok (.ifCond .ne 5, 3) := by decide +kernel
theorem dX3_far_22 : decode cX3_far 22 = .ok (.iconst 0, 1) := by decide +kernel
theorem dX3_far_23 : decode cX3_far 23 = .ok (.ireturn, 1) := by decide +kernel
theorem dX3_far_24 : decode cX3_far 24 = .ok (.aload_n 0, 1) := by decide +kernel
theorem dX3_far_25 : decode cX3_far 25 = .ok (.getfield 18, 3) := by decide +kernel
theorem dX3_far_28 : decode cX3_far 28 = .ok (.iload_n 1, 1) := by decide +kernel
theorem dX3_far_29 : decode cX3_far 29 = .ok (.iaload, 1) := by decide +kernel
theorem dX3_far_30 : decode cX3_far 30 = .ok (.aload_n 0, 1) := by decide +kernel
theorem dX3_far_31 : decode cX3_far 31 = .ok (.getfield 18, 3) := by decide +kernel
theorem dX3_far_34 : decode cX3_far 34 = .ok (.iload_n 2, 1) := by decide +kernel
theorem dX3_far_35 : decode cX3_far 35 = .ok (.iaload, 1) := by decide +kernel
theorem dX3_far_36 : decode cX3_far 36 = .ok (.isub, 1) := by decide +kernel
theorem dX3_far_37 : decode cX3_far 37 = .ok (.invokestatic 125, 3) := by decide +kernel
theorem dX3_far_40 : decode cX3_far 40 = .ok (.aload_n 0, 1) := by decide +kernel
theorem dX3_far_41 : decode cX3_far 41 = .ok (.getfield 22, 3) := by decide +kernel
theorem dX3_far_44 : decode cX3_far 44 = .ok (.iload_n 1, 1) := by decide +kernel
theorem dX3_far_45 : decode cX3_far 45 = .ok (.iaload, 1) := by decide +kernel
theorem dX3_far_46 : decode cX3_far 46 = .ok (.aload_n 0, 1) := by decide +kernel
theorem dX3_far_47 : decode cX3_far 47 = .ok (.getfield 22, 3) := by decide +kernel
theorem dX3_far_50 : decode cX3_far 50 = .ok (.iload_n 2, 1) := by decide +kernel
theorem dX3_far_51 : decode cX3_far 51 = .ok (.iaload, 1) := by decide +kernel
theorem dX3_far_52 : decode cX3_far 52 = .ok (.isub, 1) := by decide +kernel
theorem dX3_far_53 : decode cX3_far 53 = .ok (.invokestatic 125, 3) := by decide +kernel
theorem dX3_far_56 : decode cX3_far 56 = .ok (.iadd, 1) := by decide +kernel
theorem dX3_far_57 : decode cX3_far 57 = .ok (.ireturn, 1) := by decide +kernel
set_option maxRecDepth 20000 in
theorem ggX3_wayOf_X1_hostOf : GoodIn wsX3_wayOf wsX1_hostOf := goodIn_r _ [6, 7, 8, 9, 10, 11, 5, 12, 13, 14, 15, 16, 41, 42, 43, 44, 45, 46, 47] (by decide +kernel) (by decide +kernel)
set_option maxRecDepth 20000 in
theorem gX3_wayOf_X1_hostOf : GoodIn wsX3_wayOf (wsV RX3 131 RX1 yX1_hostOf wsX1_hostOf) := goodIn_app (goodIn_of _ (by decide +kernel)) ggX3_wayOf_X1_hostOf
set_option maxRecDepth 20000 in
theorem ggX3_wayOf_X3_far : GoodIn wsX3_wayOf wsX3_far := goodIn_r _ [21, 1, 22, 23, 24, 25, 26, 27, 28, 29, 30, 5, 31, 13, 32, 33, 34, 35, 36, 37, 38, 39, 40, 41, 42, 43, 44, 45, 46, 47] (by decide +kernel) (by decide +kernel)
set_option maxRecDepth 20000 in
theorem gX3_wayOf_X3_far : GoodIn wsX3_wayOf (wsV RX3 134 RX3 yX3_far wsX3_far) := goodIn_app (goodIn_of _ (by decide +kernel)) ggX3_wayOf_X3_far
theorem dX3_wayOf_0 : decode cX3_wayOf 0 = .ok (.aload_n 0, 1) := by decide +kernel
theorem dX3_wayOf_1 : decode cX3_wayOf 1 = .ok (.aload_n 0, 1) := by decide +kernel
theorem dX3_wayOf_2 : decode cX3_wayOf 2 = .ok (.getfield 12, 3) := by decide +kernel
theorem dX3_wayOf_5 : decode cX3_wayOf 5 = .ok (.iload_n 1, 1) := by decide +kernel
theorem dX3_wayOf_6 : decode cX3_wayOf 6 = .ok (.iload_n 2, 1) := by decide +kernel
theorem dX3_wayOf_7 : decode cX3_wayOf 7 = .ok (.iconst 1, 1) := by decide +kernel
theorem dX3_wayOf_8 : decode cX3_wayOf 8 = .ok (.isub, 1) := by decide +kernel
theorem dX3_wayOf_9 : decode cX3_wayOf 9 = .ok (.invokevirtual 131, 3) := by decide +kernel
theorem dX3_wayOf_12 : decode cX3_wayOf 12 = .ok (.aload_n 0, 1) := by decide +kernel
theorem dX3_wayOf_13 : decode cX3_wayOf 13 = .ok (.getfield 12, 3) := by decide +kernel
theorem dX3_wayOf_16 : decode cX3_wayOf 16 = .ok (.iload_n 1, 1) := by decide +kernel
theorem dX3_wayOf_17 : decode cX3_wayOf 17 = .ok (.iload_n 2, 1) := by decide +kernel
theorem dX3_wayOf_18 : decode cX3_wayOf 18 = .ok (.invokevirtual 131, 3) := by decide +kernel
theorem dX3_wayOf_21 : decode cX3_wayOf 21 = .ok (.invokevirtual 134, 3) := by decide +kernel
theorem dX3_wayOf_24 : decode cX3_wayOf 24 = .ok (.ireturn, 1) := by decide +kernel
set_option maxRecDepth 20000 in
theorem ggX3_milesOf_X1_hostOf : GoodIn wsX3_milesOf wsX1_hostOf := goodIn_r _ [7, 8, 9, 10, 11, 12, 6, 13, 14, 15, 16, 17, 42, 43, 44, 45, 46, 47, 48] (by decide +kernel) (by decide +kernel)
set_option maxRecDepth 20000 in
theorem gX3_milesOf_X1_hostOf : GoodIn wsX3_milesOf (wsV RX3 131 RX1 yX1_hostOf wsX1_hostOf) := goodIn_app (goodIn_of _ (by decide +kernel)) ggX3_milesOf_X1_hostOf
set_option maxRecDepth 20000 in
theorem ggX3_milesOf_X3_far : GoodIn wsX3_milesOf wsX3_far := goodIn_r _ [22, 1, 23, 24, 25, 26, 27, 28, 29, 30, 31, 6, 32, 14, 33, 34, 35, 36, 37, 38, 39, 40, 41, 42, 43, 44, 45, 46, 47, 48] (by decide +kernel) (by decide +kernel)
set_option maxRecDepth 20000 in
theorem gX3_milesOf_X3_far : GoodIn wsX3_milesOf (wsV RX3 134 RX3 yX3_far wsX3_far) := goodIn_app (goodIn_of _ (by decide +kernel)) ggX3_milesOf_X3_far
theorem dX3_milesOf_0 : decode cX3_milesOf 0 = .ok (.iconst 0, 1) := by decide +kernel
theorem dX3_milesOf_1 : decode cX3_milesOf 1 = .ok (.istore_n 2, 1) := by decide +kernel
theorem dX3_milesOf_2 : decode cX3_milesOf 2 = .ok (.iload_n 1, 1) := by decide +kernel
theorem dX3_milesOf_3 : decode cX3_milesOf 3 = .ok (.istore_n 3, 1) := by decide +kernel
theorem dX3_milesOf_4 : decode cX3_milesOf 4 = .ok (.iconst 0, 1) := by decide +kernel
theorem dX3_milesOf_5 : decode cX3_milesOf 5 = .ok (.istore 4, 2) := by decide +kernel
theorem dX3_milesOf_7 : decode cX3_milesOf 7 = .ok (.iload 4, 2) := by decide +kernel
theorem dX3_milesOf_9 : decode cX3_milesOf 9 = .ok (.aload_n 0, 1) := by decide +kernel
theorem dX3_milesOf_10 : decode cX3_milesOf 10 = .ok (.getfield 12, 3) := by decide +kernel
theorem dX3_milesOf_13 : decode cX3_milesOf 13 = .ok (.getfield 105, 3) := by decide +kernel
theorem dX3_milesOf_16 : decode cX3_milesOf 16 = .ok (.iconst 1, 1) := by decide +kernel
theorem dX3_milesOf_17 : decode cX3_milesOf 17 = .ok (.isub, 1) := by decide +kernel
theorem dX3_milesOf_18 : decode cX3_milesOf 18 = .ok (.if_icmp .ge 34, 3) := by decide +kernel
theorem dX3_milesOf_21 : decode cX3_milesOf 21 = .ok (.aload_n 0, 1) := by decide +kernel
theorem dX3_milesOf_22 : decode cX3_milesOf 22 = .ok (.getfield 12, 3) := by decide +kernel
theorem dX3_milesOf_25 : decode cX3_milesOf 25 = .ok (.iload_n 1, 1) := by decide +kernel
theorem dX3_milesOf_26 : decode cX3_milesOf 26 = .ok (.iload 4, 2) := by decide +kernel
theorem dX3_milesOf_28 : decode cX3_milesOf 28 = .ok (.invokevirtual 131, 3) := by decide +kernel
theorem dX3_milesOf_31 : decode cX3_milesOf 31 = .ok (.istore 5, 2) := by decide +kernel
theorem dX3_milesOf_33 : decode cX3_milesOf 33 = .ok (.iload_n 2, 1) := by decide +kernel
theorem dX3_milesOf_34 : decode cX3_milesOf 34 = .ok (.aload_n 0, 1) := by decide +kernel
theorem dX3_milesOf_35 : decode cX3_milesOf 35 = .ok (.iload_n 3, 1) := by decide +kernel
theorem dX3_milesOf_36 : decode cX3_milesOf 36 = .ok (.iload 5, 2) := by decide +kernel
theorem dX3_milesOf_38 : decode cX3_milesOf 38 = .ok (.invokevirtual 134, 3) := by decide +kernel
theorem dX3_milesOf_41 : decode cX3_milesOf 41 = .ok (.iadd, 1) := by decide +kernel
theorem dX3_milesOf_42 : decode cX3_milesOf 42 = .ok (.istore_n 2, 1) := by decide +kernel
theorem dX3_milesOf_43 : decode cX3_milesOf 43 = .ok (.iload 5, 2) := by decide +kernel
theorem dX3_milesOf_45 : decode cX3_milesOf 45 = .ok (.istore_n 3, 1) := by decide +kernel
theorem dX3_milesOf_46 : decode cX3_milesOf 46 = .ok (.iinc 4 1, 3) := by decide +kernel
theorem dX3_milesOf_49 : decode cX3_milesOf 49 = .ok (.goto (-42), 3) := by decide +kernel
theorem dX3_milesOf_52 : decode cX3_milesOf 52 = .ok (.iload_n 2, 1) := by decide +kernel
theorem dX3_milesOf_53 : decode cX3_milesOf 53 = .ok (.aload_n 0, 1) := by decide +kernel
theorem dX3_milesOf_54 : decode cX3_milesOf 54 = .ok (.iload_n 3, 1) := by decide +kernel
theorem dX3_milesOf_55 : decode cX3_milesOf 55 = .ok (.iload_n 1, 1) := by decide +kernel
theorem dX3_milesOf_56 : decode cX3_milesOf 56 = .ok (.invokevirtual 134, 3) := by decide +kernel
theorem dX3_milesOf_59 : decode cX3_milesOf 59 = .ok (.iadd, 1) := by decide +kernel
theorem dX3_milesOf_60 : decode cX3_milesOf 60 = .ok (.ireturn, 1) := by decide +kernel
set_option maxRecDepth 20000 in
theorem ggX3_allMiles_X3_milesOf : GoodIn wsX3_allMiles wsX3_milesOf := goodIn_r _ [7, 1, 2, 8, 9, 10, 11, 12, 13, 14, 15, 16, 17, 18, 19, 20, 21, 22, 23, 24, 25, 6, 26, 27, 28, 29, 30, 31, 32, 33, 34, 35, 36, 37, 38, 39, 40, 41, 42, 43, 44, 45, 46, 47, 48, 49, 50, 51, 52] (by decide +kernel) (by decide +kernel)
set_option maxRecDepth 20000 in
theorem gX3_allMiles_X3_milesOf : GoodIn wsX3_allMiles (wsV RX3 137 RX3 yX3_milesOf wsX3_milesOf) := goodIn_app (goodIn_of _ (by decide +kernel)) ggX3_allMiles_X3_milesOf
theorem dX3_allMiles_0 : decode cX3_allMiles 0 = .ok (.iconst 0, 1) := by decide +kernel
theorem dX3_allMiles_1 : decode cX3_allMiles 1 = .ok (.istore_n 1, 1) := by decide +kernel
theorem dX3_allMiles_2 : decode cX3_allMiles 2 = .ok (.iconst 0, 1) := by decide +kernel
theorem dX3_allMiles_3 : decode cX3_allMiles 3 = .ok (.istore_n 2, 1) := by decide +kernel
theorem dX3_allMiles_4 : decode cX3_allMiles 4 = .ok (.iload_n 2, 1) := by decide +kernel
theorem dX3_allMiles_5 : decode cX3_allMiles 5 = .ok (.aload_n 0, 1) := by decide +kernel
theorem dX3_allMiles_6 : decode cX3_allMiles 6 = .ok (.getfield 12, 3) := by decide +kernel
theorem dX3_allMiles_9 : decode cX3_allMiles 9 = .ok (.getfield 105, 3) := by decide +kernel
theorem dX3_allMiles_12 : decode cX3_allMiles 12 = .ok (.if_icmp .ge 17, 3) := by decide +kernel
theorem dX3_allMiles_15 : decode cX3_allMiles 15 = .ok (.iload_n 1, 1) := by decide +kernel
theorem dX3_allMiles_16 : decode cX3_allMiles 16 = .ok (.aload_n 0, 1) := by decide +kernel
theorem dX3_allMiles_17 : decode cX3_allMiles 17 = .ok (.iload_n 2, 1) := by decide +kernel
theorem dX3_allMiles_18 : decode cX3_allMiles 18 = .ok (.invokevirtual 137, 3) := by decide +kernel
theorem dX3_allMiles_21 : decode cX3_allMiles 21 = .ok (.iadd, 1) := by decide +kernel
theorem dX3_allMiles_22 : decode cX3_allMiles 22 = .ok (.istore_n 1, 1) := by decide +kernel
theorem dX3_allMiles_23 : decode cX3_allMiles 23 = .ok (.iinc 2 1, 3) := by decide +kernel
theorem dX3_allMiles_26 : decode cX3_allMiles 26 = .ok (.goto (-22), 3) := by decide +kernel
theorem dX3_allMiles_29 : decode cX3_allMiles 29 = .ok (.iload_n 1, 1) := by decide +kernel
theorem dX3_allMiles_30 : decode cX3_allMiles 30 = .ok (.ireturn, 1) := by decide +kernel
set_option maxRecDepth 20000 in
theorem ggX3_wearBehind_X3_wayOf : GoodIn wsX3_wearBehind wsX3_wayOf := goodIn_r _ [7, 8, 9, 10, 11, 12, 13, 14, 15, 16, 17, 18, 19, 20, 21, 22, 23, 24, 25, 26, 6, 27, 28, 29, 30, 31, 32, 33, 34, 35, 36, 37, 38, 39, 40, 41, 42, 43, 44, 45, 46, 47, 48, 49, 50, 51, 52, 53] (by decide +kernel) (by decide +kernel)
set_option maxRecDepth 20000 in
theorem gX3_wearBehind_X3_wayOf : GoodIn wsX3_wearBehind (wsV RX3 141 RX3 yX3_wayOf wsX3_wayOf) := goodIn_app (goodIn_of _ (by decide +kernel)) ggX3_wearBehind_X3_wayOf
theorem dX3_wearBehind_0 : decode cX3_wearBehind 0 = .ok (.fconst 0, 1) := by decide +kernel
theorem dX3_wearBehind_1 : decode cX3_wearBehind 1 = .ok (.fstore_n 3, 1) := by decide +kernel
theorem dX3_wearBehind_2 : decode cX3_wearBehind 2 = .ok (.iconst 0, 1) := by decide +kernel
theorem dX3_wearBehind_3 : decode cX3_wearBehind 3 = .ok (.istore 4, 2) := by decide +kernel
theorem dX3_wearBehind_5 : decode cX3_wearBehind 5 = .ok (.iload 4, 2) := by decide +kernel
theorem dX3_wearBehind_7 : decode cX3_wearBehind 7 = .ok (.iload_n 2, 1) := by decide +kernel
theorem dX3_wearBehind_8 : decode cX3_wearBehind 8 = .ok (.if_icmp .gt 32, 3) := by decide +kernel
theorem dX3_wearBehind_11 : decode cX3_wearBehind 11 = .ok (.iload 4, 2) := by decide +kernel
theorem dX3_wearBehind_13 : decode cX3_wearBehind 13 = .ok (.iconst 5, 1) := by decide +kernel
theorem dX3_wearBehind_14 : decode cX3_wearBehind 14 = .ok (.if_icmp .ge 26, 3) := by decide +kernel
theorem dX3_wearBehind_17 : decode cX3_wearBehind 17 = .ok (.fload_n 3, 1) := by decide +kernel
theorem dX3_wearBehind_18 : decode cX3_wearBehind 18 = .ok (.ldc 140, 2) := by decide +kernel
theorem dX3_wearBehind_20 : decode cX3_wearBehind 20 = .ok (.fmul, 1) := by decide +kernel
theorem dX3_wearBehind_21 : decode cX3_wearBehind 21 = .ok (.aload_n 0, 1) := by decide +kernel
theorem dX3_wearBehind_22 : decode cX3_wearBehind 22 = .ok (.iload_n 1, 1) := by decide +kernel
theorem dX3_wearBehind_23 : decode cX3_wearBehind 23 = .ok (.iload 4, 2) := by decide +kernel
theorem dX3_wearBehind_25 : decode cX3_wearBehind 25 = .ok (.invokevirtual 141, 3) := by decide +kernel
theorem dX3_wearBehind_28 : decode cX3_wearBehind 28 = .ok (.i2f, 1) := by decide +kernel
theorem dX3_wearBehind_29 : decode cX3_wearBehind 29 = .ok (.ldc 144, 2) := by decide +kernel
theorem dX3_wearBehind_31 : decode cX3_wearBehind 31 = .ok (.fdiv, 1) := by decide +kernel
theorem dX3_wearBehind_32 : decode cX3_wearBehind 32 = .ok (.fadd, 1) := by decide +kernel
theorem dX3_wearBehind_33 : decode cX3_wearBehind 33 = .ok (.fstore_n 3, 1) := by decide +kernel
theorem dX3_wearBehind_34 : decode cX3_wearBehind 34 = .ok (.iinc 4 1, 3) := by decide +kernel
theorem dX3_wearBehind_37 : decode cX3_wearBehind 37 = .ok (.goto (-32), 3) := by decide +kernel
theorem dX3_wearBehind_40 : decode cX3_wearBehind 40 = .ok (.fload_n 3, 1) := by decide +kernel
theorem dX3_wearBehind_41 : decode cX3_wearBehind 41 = .ok (.freturn, 1) := by decide +kernel
set_option maxRecDepth 20000 in
theorem ggX3_lastWear_X3_wearBehind : GoodIn wsX3_lastWear wsX3_wearBehind := goodIn_r _ [7, 8, 9, 10, 11, 12, 6, 13, 1, 14, 15, 16, 17, 18, 19, 20, 21, 22, 23, 24, 25, 26, 27, 28, 29, 30, 31, 32, 33, 34, 35, 36, 37, 38, 39, 40, 41, 42, 43, 44, 45, 46, 47, 48, 49, 50, 51, 52, 53, 54, 55, 56, 57, 58] (by decide +kernel) (by decide +kernel)
set_option maxRecDepth 20000 in
theorem gX3_lastWear_X3_wearBehind : GoodIn wsX3_lastWear (wsV RX3 145 RX3 yX3_wearBehind wsX3_wearBehind) := goodIn_app (goodIn_of _ (by decide +kernel)) ggX3_lastWear_X3_wearBehind
theorem dX3_lastWear_0 : decode cX3_lastWear 0 = .ok (.aload_n 0, 1) := by decide +kernel
theorem dX3_lastWear_1 : decode cX3_lastWear 1 = .ok (.iload_n 1, 1) := by decide +kernel
theorem dX3_lastWear_2 : decode cX3_lastWear 2 = .ok (.aload_n 0, 1) := by decide +kernel
theorem dX3_lastWear_3 : decode cX3_lastWear 3 = .ok (.getfield 12, 3) := by decide +kernel
theorem dX3_lastWear_6 : decode cX3_lastWear 6 = .ok (.getfield 105, 3) := by decide +kernel
theorem dX3_lastWear_9 : decode cX3_lastWear 9 = .ok (.iconst 2, 1) := by decide +kernel
theorem dX3_lastWear_10 : decode cX3_lastWear 10 = .ok (.isub, 1) := by decide +kernel
theorem dX3_lastWear_11 : decode cX3_lastWear 11 = .ok (.invokevirtual 145, 3) := by decide +kernel
theorem dX3_lastWear_14 : decode cX3_lastWear 14 = .ok (.freturn, 1) := by decide +kernel
set_option maxRecDepth 20000 in
theorem ggX3_mostWorn_X3_lastWear : GoodIn wsX3_mostWorn wsX3_lastWear := goodIn_r _ [7, 1, 2, 8, 9, 10, 6, 11, 12, 13, 14, 15, 16, 17, 18, 19, 20, 21, 22, 23, 24, 25, 26, 27, 28, 29, 30, 31, 32, 33, 34, 35, 36, 37, 38, 39, 40, 41, 42, 43, 44, 45, 46, 47, 48, 49, 50, 51, 52, 53, 54, 55, 56, 57, 58, 59, 60, 61, 62] (by decide +kernel) (by decide +kernel)
set_option maxRecDepth 20000 in
theorem gX3_mostWorn_X3_lastWear : GoodIn wsX3_mostWorn (wsV RX3 149 RX3 yX3_lastWear wsX3_lastWear) := goodIn_app (goodIn_of _ (by decide +kernel)) ggX3_mostWorn_X3_lastWear
theorem dX3_mostWorn_0 : decode cX3_mostWorn 0 = .ok (.iconst 0, 1) := by decide +kernel
theorem dX3_mostWorn_1 : decode cX3_mostWorn 1 = .ok (.istore_n 1, 1) := by decide +kernel
theorem dX3_mostWorn_2 : decode cX3_mostWorn 2 = .ok (.aload_n 0, 1) := by decide +kernel
theorem dX3_mostWorn_3 : decode cX3_mostWorn 3 = .ok (.iconst 0, 1) := by decide +kernel
theorem dX3_mostWorn_4 : decode cX3_mostWorn 4 = .ok (.invokevirtual 149, 3) := by decide +kernel
theorem dX3_mostWorn_7 : decode cX3_mostWorn 7 = .ok (.fstore_n 2, 1) := by decide +kernel
theorem dX3_mostWorn_8 : decode cX3_mostWorn 8 = .ok (.iconst 1, 1) := by decide +kernel
theorem dX3_mostWorn_9 : decode cX3_mostWorn 9 = .ok (.istore_n 3, 1) := by decide +kernel
theorem dX3_mostWorn_10 : decode cX3_mostWorn 10 = .ok (.iload_n 3, 1) := by decide +kernel
theorem dX3_mostWorn_11 : decode cX3_mostWorn 11 = .ok (.aload_n 0, 1) := by decide +kernel
theorem dX3_mostWorn_12 : decode cX3_mostWorn 12 = .ok (.getfield 12, 3) := by decide +kernel
theorem dX3_mostWorn_15 : decode cX3_mostWorn 15 = .ok (.getfield 105, 3) := by decide +kernel
theorem dX3_mostWorn_18 : decode cX3_mostWorn 18 = .ok (.if_icmp .ge 28, 3) := by decide +kernel
theorem dX3_mostWorn_21 : decode cX3_mostWorn 21 = .ok (.aload_n 0, 1) := by decide +kernel
theorem dX3_mostWorn_22 : decode cX3_mostWorn 22 = .ok (.iload_n 3, 1) := by decide +kernel
theorem dX3_mostWorn_23 : decode cX3_mostWorn 23 = .ok (.invokevirtual 149, 3) := by decide +kernel
theorem dX3_mostWorn_26 : decode cX3_mostWorn 26 = .ok (.fstore 4, 2) := by decide +kernel
theorem dX3_mostWorn_28 : decode cX3_mostWorn 28 = .ok (.fload 4, 2) := by decide +kernel
theorem dX3_mostWorn_30 : decode cX3_mostWorn 30 = .ok (.fload_n 2, 1) := by decide +kernel
theorem dX3_mostWorn_31 : decode cX3_mostWorn 31 = .ok (.fcmp .l, 1) := by decide +kernel
theorem dX3_mostWorn_32 : decode cX3_mostWorn 32 = .ok (.ifCond .le 8, 3) := by decide +kernel
theorem dX3_mostWorn_35 : decode cX3_mostWorn 35 = .ok (.fload 4, 2) := by decide +kernel
theorem dX3_mostWorn_37 : decode cX3_mostWorn 37 = .ok (.fstore_n 2, 1) := by decide +kernel
theorem dX3_mostWorn_38 : decode cX3_mostWorn 38 = .ok (.iload_n 3, 1) := by decide +kernel
theorem dX3_mostWorn_39 : decode cX3_mostWorn 39 = .ok (.istore_n 1, 1) := by decide +kernel
theorem dX3_mostWorn_40 : decode cX3_mostWorn 40 = .ok (.iinc 3 1, 3) := by decide +kernel
theorem dX3_mostWorn_43 : decode cX3_mostWorn 43 = .ok (.goto (-33), 3) := by decide +kernel
theorem dX3_mostWorn_46 : decode cX3_mostWorn 46 = .ok (.iload_n 1, 1) := by decide +kernel
theorem dX3_mostWorn_47 : decode cX3_mostWorn 47 = .ok (.ireturn, 1) := by decide +kernel
set_option maxRecDepth 20000 in
theorem ggX3_spreadOfWear_X3_lastWear : GoodIn wsX3_spreadOfWear wsX3_lastWear := goodIn_r _ [7, 1, 2, 8, 9, 10, 6, 11, 12, 13, 14, 15, 16, 17, 18, 19, 20, 21, 22, 23, 24, 25, 26, 27, 28, 29, 30, 31, 32, 33, 34, 35, 36, 37, 38, 39, 40, 41, 42, 43, 44, 45, 46, 47, 48, 49, 50, 51, 52, 53, 54, 55, 56, 57, 58, 59, 60, 61, 62] (by decide +kernel) (by decide +kernel)
set_option maxRecDepth 20000 in
theorem gX3_spreadOfWear_X3_lastWear : GoodIn wsX3_spreadOfWear (wsV RX3 149 RX3 yX3_lastWear wsX3_lastWear) := goodIn_app (goodIn_of _ (by decide +kernel)) ggX3_spreadOfWear_X3_lastWear
theorem dX3_spreadOfWear_0 : decode cX3_spreadOfWear 0 = .ok (.aload_n 0, 1) := by decide +kernel
theorem dX3_spreadOfWear_1 : decode cX3_spreadOfWear 1 = .ok (.getfield 12, 3) := by decide +kernel
theorem dX3_spreadOfWear_4 : decode cX3_spreadOfWear 4 = .ok (.getfield 105, 3) := by decide +kernel
theorem dX3_spreadOfWear_7 : decode cX3_spreadOfWear 7 = .ok (.i2d, 1) := by decide +kernel
theorem dX3_spreadOfWear_8 : decode cX3_spreadOfWear 8 = .ok (.dstore_n 1, 1) := by decide +kernel
theorem dX3_spreadOfWear_9 : decode cX3_spreadOfWear 9 = .ok (.dconst 0, 1) := by decide +kernel
theorem dX3_spreadOfWear_10 : decode cX3_spreadOfWear 10 = .ok (.dstore_n 3, 1) := by decide +kernel
theorem dX3_spreadOfWear_11 : decode cX3_spreadOfWear 11 = .ok (.iconst 0, 1) := by decide +kernel
theorem dX3_spreadOfWear_12 : decode cX3_spreadOfWear 12 = .ok (.istore 5, 2) := by decide +kernel
theorem dX3_spreadOfWear_14 : decode cX3_spreadOfWear 14 = .ok (.iload 5, 2) := by decide +kernel
theorem dX3_spreadOfWear_16 : decode cX3_spreadOfWear 16 = .ok (.aload_n 0, 1) := by decide +kernel
theorem dX3_spreadOfWear_17 : decode cX3_spreadOfWear 17 = .ok (.getfield 12, 3) := by decide +kernel
theorem dX3_spreadOfWear_20 : decode cX3_spreadOfWear 20 = .ok (.getfield 105, 3) := by decide +kernel
theorem dX3_spreadOfWear_23 : decode cX3_spreadOfWear 23 = .ok (.if_icmp .ge 19, 3) := by decide +kernel
theorem dX3_spreadOfWear_26 : decode cX3_spreadOfWear 26 = .ok (.dload_n 3, 1) := by decide +kernel
theorem dX3_spreadOfWear_27 : decode cX3_spreadOfWear 27 = .ok (.aload_n 0, 1) := by decide +kernel
theorem dX3_spreadOfWear_28 : decode cX3_spreadOfWear 28 = .ok (.iload 5, 2) := by decide +kernel
theorem dX3_spreadOfWear_30 : decode cX3_spreadOfWear 30 = .ok (.invokevirtual 149, 3) := by decide +kernel
theorem dX3_spreadOfWear_33 : decode cX3_spreadOfWear 33 = .ok (.f2d, 1) := by decide +kernel
theorem dX3_spreadOfWear_34 : decode cX3_spreadOfWear 34 = .ok (.dadd, 1) := by decide +kernel
theorem dX3_spreadOfWear_35 : decode cX3_spreadOfWear 35 = .ok (.dstore_n 3, 1) := by decide +kernel
theorem dX3_spreadOfWear_36 : decode cX3_spreadOfWear 36 = .ok (.iinc 5 1, 3) := by decide +kernel
theorem dX3_spreadOfWear_39 : decode cX3_spreadOfWear 39 = .ok (.goto (-25), 3) := by decide +kernel
theorem dX3_spreadOfWear_42 : decode cX3_spreadOfWear 42 = .ok (.dload_n 3, 1) := by decide +kernel
theorem dX3_spreadOfWear_43 : decode cX3_spreadOfWear 43 = .ok (.dload_n 1, 1) := by decide +kernel
theorem dX3_spreadOfWear_44 : decode cX3_spreadOfWear 44 = .ok (.ddiv, 1) := by decide +kernel
theorem dX3_spreadOfWear_45 : decode cX3_spreadOfWear 45 = .ok (.dstore 5, 2) := by decide +kernel
theorem dX3_spreadOfWear_47 : decode cX3_spreadOfWear 47 = .ok (.dconst 0, 1) := by decide +kernel
theorem dX3_spreadOfWear_48 : decode cX3_spreadOfWear 48 = .ok (.dstore 7, 2) := by decide +kernel
theorem dX3_spreadOfWear_50 : decode cX3_spreadOfWear 50 = .ok (.iconst 0, 1) := by decide +kernel
theorem dX3_spreadOfWear_51 : decode cX3_spreadOfWear 51 = .ok (.istore 9, 2) := by decide +kernel
theorem dX3_spreadOfWear_53 : decode cX3_spreadOfWear 53 = .ok (.iload 9, 2) := by decide +kernel
theorem dX3_spreadOfWear_55 : decode cX3_spreadOfWear 55 = .ok (.aload_n 0, 1) := by decide +kernel
theorem dX3_spreadOfWear_56 : decode cX3_spreadOfWear 56 = .ok (.getfield 12, 3) := by decide +kernel
theorem dX3_spreadOfWear_59 : decode cX3_spreadOfWear 59 = .ok (.getfield 105, 3) := by decide +kernel
theorem dX3_spreadOfWear_62 : decode cX3_spreadOfWear 62 = .ok (.if_icmp .ge 31, 3) := by decide +kernel
theorem dX3_spreadOfWear_65 : decode cX3_spreadOfWear 65 = .ok (.aload_n 0, 1) := by decide +kernel
theorem dX3_spreadOfWear_66 : decode cX3_spreadOfWear 66 = .ok (.iload 9, 2) := by decide +kernel
theorem dX3_spreadOfWear_68 : decode cX3_spreadOfWear 68 = .ok (.invokevirtual 149, 3) := by decide +kernel
theorem dX3_spreadOfWear_71 : decode cX3_spreadOfWear 71 = .ok (.f2d, 1) := by decide +kernel
theorem dX3_spreadOfWear_72 : decode cX3_spreadOfWear 72 = .ok (.dload 5, 2) := by decide +kernel
theorem dX3_spreadOfWear_74 : decode cX3_spreadOfWear 74 = .ok (.dsub, 1) := by decide +kernel
theorem dX3_spreadOfWear_75 : decode cX3_spreadOfWear 75 = .ok (.dstore 10, 2) := by decide +kernel
theorem dX3_spreadOfWear_77 : decode cX3_spreadOfWear 77 = .ok (.dload 7, 2) := by decide +kernel
theorem dX3_spreadOfWear_79 : decode cX3_spreadOfWear 79 = .ok (.dload 10, 2) := by decide +kernel
theorem dX3_spreadOfWear_81 : decode cX3_spreadOfWear 81 = .ok (.dload 10, 2) := by decide +kernel
theorem dX3_spreadOfWear_83 : decode cX3_spreadOfWear 83 = .ok (.dmul, 1) := by decide +kernel
theorem dX3_spreadOfWear_84 : decode cX3_spreadOfWear 84 = .ok (.dadd, 1) := by decide +kernel
theorem dX3_spreadOfWear_85 : decode cX3_spreadOfWear 85 = .ok (.dstore 7, 2) := by decide +kernel
theorem dX3_spreadOfWear_87 : decode cX3_spreadOfWear 87 = .ok (.iinc 9 1, 3) := by decide +kernel
theorem dX3_spreadOfWear_90 : decode cX3_spreadOfWear 90 = .ok (.goto (-37), 3) := by decide +kernel
theorem dX3_spreadOfWear_93 : decode cX3_spreadOfWear 93 = .ok (.dload 7, 2) := by decide +kernel
theorem dX3_spreadOfWear_95 : decode cX3_spreadOfWear 95 = .ok (.dload_n 1, 1) := by decide +kernel
theorem dX3_spreadOfWear_96 : decode cX3_spreadOfWear 96 = .ok (.ddiv, 1) := by decide +kernel
theorem dX3_spreadOfWear_97 : decode cX3_spreadOfWear 97 = .ok (.dreturn, 1) := by decide +kernel
set_option maxRecDepth 20000 in
theorem ggX3_weighed_X7_isRate : GoodIn wsX3_weighed wsX7_isRate := goodIn_r _ [5] (by decide +kernel) (by decide +kernel)
set_option maxRecDepth 20000 in
theorem gX3_weighed_X7_isRate_n81 : GoodIn wsX3_weighed (wsX7_isRate) := ggX3_weighed_X7_isRate
theorem dX3_weighed_0 : decode cX3_weighed 0 = .ok (.iload_n 1, 1) := by decide +kernel
theorem dX3_weighed_1 : decode cX3_weighed 1 = .ok (.invokestatic 81, 3) := by decide +kernel
theorem dX3_weighed_4 : decode cX3_weighed 4 = .ok (.ifCond .eq 19, 3) := by decide +kernel
theorem dX3_weighed_7 : decode cX3_weighed 7 = .ok (.aload_n 0, 1) := by decide +kernel
theorem dX3_weighed_8 : decode cX3_weighed 8 = .ok (.getfield 29, 3) := by decide +kernel
theorem dX3_weighed_11 : decode cX3_weighed 11 = .ok (.iload_n 1, 1) := by decide +kernel
theorem dX3_weighed_12 : decode cX3_weighed 12 = .ok (.iaload, 1) := by decide +kernel
theorem dX3_weighed_13 : decode cX3_weighed 13 = .ok (.i2f, 1) := by decide +kernel
theorem dX3_weighed_14 : decode cX3_weighed 14 = .ok (.ldc 153, 2) := by decide +kernel
theorem dX3_weighed_16 : decode cX3_weighed 16 = .ok (.fdiv, 1) := by decide +kernel
theorem dX3_weighed_17 : decode cX3_weighed 17 = .ok (.iload_n 2, 1) := by decide +kernel
theorem dX3_weighed_18 : decode cX3_weighed 18 = .ok (.i2f, 1) := by decide +kernel
theorem dX3_weighed_19 : decode cX3_weighed 19 = .ok (.fmul, 1) := by decide +kernel
theorem dX3_weighed_20 : decode cX3_weighed 20 = .ok (.goto 4, 3) := by decide +kernel
theorem dX3_weighed_23 : decode cX3_weighed 23 = .ok (.fconst 0, 1) := by decide +kernel
theorem dX3_weighed_24 : decode cX3_weighed 24 = .ok (.freturn, 1) := by decide +kernel
set_option maxRecDepth 20000 in
theorem ggX3_fullCost_X1_allBreaks : GoodIn wsX3_fullCost wsX1_allBreaks := goodIn_r _ [6, 7, 8, 9, 10, 5, 11, 12, 13, 14, 15, 16, 17, 18, 19, 20, 21, 22, 23, 107, 108, 109, 110, 111, 112, 113] (by decide +kernel) (by decide +kernel)
set_option maxRecDepth 20000 in
theorem gX3_fullCost_X1_allBreaks : GoodIn wsX3_fullCost (wsV RX3 154 RX1 yX1_allBreaks wsX1_allBreaks) := goodIn_app (goodIn_of _ (by decide +kernel)) ggX3_fullCost_X1_allBreaks
set_option maxRecDepth 20000 in
theorem ggX3_fullCost_X3_weighed : GoodIn wsX3_fullCost wsX3_weighed := goodIn_r _ [28, 29, 30, 31, 22, 32, 98, 99, 100, 101, 102, 103, 104, 105, 106] (by decide +kernel) (by decide +kernel)
set_option maxRecDepth 20000 in
theorem gX3_fullCost_X3_weighed : GoodIn wsX3_fullCost (wsV RX3 158 RX3 yX3_weighed wsX3_weighed) := goodIn_app (goodIn_of _ (by decide +kernel)) ggX3_fullCost_X3_weighed
set_option maxRecDepth 20000 in
theorem ggX3_fullCost_X3_violations : GoodIn wsX3_fullCost wsX3_violations := goodIn_r _ [36, 1, 37, 38, 39, 40, 5, 41, 42, 43, 44, 45, 46, 7, 47, 48, 49, 27, 50, 51, 52, 18, 19, 20, 21, 22, 23, 98, 99, 100, 101, 102, 103, 104, 105, 106, 107, 108, 109, 110, 111, 112, 113] (by decide +kernel) (by decide +kernel)
set_option maxRecDepth 20000 in
theorem gX3_fullCost_X3_violations : GoodIn wsX3_fullCost (wsV RX3 161 RX3 yX3_violations wsX3_violations) := goodIn_app (goodIn_of _ (by decide +kernel)) ggX3_fullCost_X3_violations
set_option maxRecDepth 20000 in
theorem ggX3_fullCost_X1_carry : GoodIn wsX3_fullCost wsX1_carry := goodIn_r _ [56, 7, 57, 58, 59, 60, 5, 61, 62, 63, 64, 65, 66, 67, 68, 69, 70, 17, 18, 19, 20, 21, 22, 23, 71, 72, 73, 74, 107, 108, 109, 110, 111, 112, 113] (by decide +kernel) (by decide +kernel)
set_option maxRecDepth 20000 in
theorem gX3_fullCost_X1_carry : GoodIn wsX3_fullCost (wsV RX3 164 RX1 yX1_carry wsX1_carry) := goodIn_app (goodIn_of _ (by decide +kernel)) ggX3_fullCost_X1_carry
set_option maxRecDepth 20000 in
theorem ggX3_fullCost_X3_allMiles : GoodIn wsX3_fullCost wsX3_allMiles := goodIn_r _ [78, 1, 37, 79, 80, 81, 27, 82, 83, 84, 85, 5, 86, 16, 70, 17, 18, 19, 20, 7, 21, 22, 23, 87, 88, 89, 90, 91, 92, 93, 94, 95, 96, 97, 72, 73, 74, 98, 99, 100, 101, 102, 103, 104, 105, 106, 107, 108, 109, 110, 111, 112, 113] (by decide +kernel) (by decide +kernel)
set_option maxRecDepth 20000 in
theorem gX3_fullCost_X3_allMiles : GoodIn wsX3_fullCost (wsV RX3 167 RX3 yX3_allMiles wsX3_allMiles) := goodIn_app (goodIn_of _ (by decide +kernel)) ggX3_fullCost_X3_allMiles
theorem dX3_fullCost_0 : decode cX3_fullCost 0 = .ok (.aload_n 0, 1) := by decide +kernel
theorem dX3_fullCost_1 : decode cX3_fullCost 1 = .ok (.iconst 0, 1) := by decide +kernel
theorem dX3_fullCost_2 : decode cX3_fullCost 2 = .ok (.aload_n 0, 1) := by decide +kernel
theorem dX3_fullCost_3 : decode cX3_fullCost 3 = .ok (.getfield 12, 3) := by decide +kernel
theorem dX3_fullCost_6 : decode cX3_fullCost 6 = .ok (.invokevirtual 154, 3) := by decide +kernel
theorem dX3_fullCost_9 : decode cX3_fullCost 9 = .ok (.invokevirtual 158, 3) := by decide +kernel
theorem dX3_fullCost_12 : decode cX3_fullCost 12 = .ok (.fstore_n 1, 1) := by decide +kernel
theorem dX3_fullCost_13 : decode cX3_fullCost 13 = .ok (.fload_n 1, 1) := by decide +kernel
theorem dX3_fullCost_14 : decode cX3_fullCost 14 = .ok (.aload_n 0, 1) := by decide +kernel
theorem dX3_fullCost_15 : decode cX3_fullCost 15 = .ok (.iconst 1, 1) := by decide +kernel
theorem dX3_fullCost_16 : decode cX3_fullCost 16 = .ok (.aload_n 0, 1) := by decide +kernel
theorem dX3_fullCost_17 : decode cX3_fullCost 17 = .ok (.invokevirtual 161, 3) := by decide +kernel
theorem dX3_fullCost_20 : decode cX3_fullCost 20 = .ok (.invokevirtual 158, 3) := by decide +kernel
theorem dX3_fullCost_23 : decode cX3_fullCost 23 = .ok (.fadd, 1) := by decide +kernel
theorem dX3_fullCost_24 : decode cX3_fullCost 24 = .ok (.fstore_n 1, 1) := by decide +kernel
theorem dX3_fullCost_25 : decode cX3_fullCost 25 = .ok (.fload_n 1, 1) := by decide +kernel
theorem dX3_fullCost_26 : decode cX3_fullCost 26 = .ok (.aload_n 0, 1) := by decide +kernel
theorem dX3_fullCost_27 : decode cX3_fullCost 27 = .ok (.iconst 2, 1) := by decide +kernel
theorem dX3_fullCost_28 : decode cX3_fullCost 28 = .ok (.aload_n 0, 1) := by decide +kernel
theorem dX3_fullCost_29 : decode cX3_fullCost 29 = .ok (.getfield 12, 3) := by decide +kernel
theorem dX3_fullCost_32 : decode cX3_fullCost 32 = .ok (.invokevirtual 164, 3) := by decide +kernel
theorem dX3_fullCost_35 : decode cX3_fullCost 35 = .ok (.invokevirtual 158, 3) := by decide +kernel
theorem dX3_fullCost_38 : decode cX3_fullCost 38 = .ok (.fadd, 1) := by decide +kernel
theorem dX3_fullCost_39 : decode cX3_fullCost 39 = .ok (.fstore_n 1, 1) := by decide +kernel
theorem dX3_fullCost_40 : decode cX3_fullCost 40 = .ok (.fload_n 1, 1) := by decide +kernel
theorem dX3_fullCost_41 : decode cX3_fullCost 41 = .ok (.aload_n 0, 1) := by decide +kernel
theorem dX3_fullCost_42 : decode cX3_fullCost 42 = .ok (.iconst 3, 1) := by decide +kernel
theorem dX3_fullCost_43 : decode cX3_fullCost 43 = .ok (.aload_n 0, 1) := by decide +kernel
theorem dX3_fullCost_44 : decode cX3_fullCost 44 = .ok (.invokevirtual 167, 3) := by decide +kernel
theorem dX3_fullCost_47 : decode cX3_fullCost 47 = .ok (.invokevirtual 158, 3) := by decide +kernel
theorem dX3_fullCost_50 : decode cX3_fullCost 50 = .ok (.fadd, 1) := by decide +kernel
theorem dX3_fullCost_51 : decode cX3_fullCost 51 = .ok (.fstore_n 1, 1) := by decide +kernel
theorem dX3_fullCost_52 : decode cX3_fullCost 52 = .ok (.fload_n 1, 1) := by decide +kernel
theorem dX3_fullCost_53 : decode cX3_fullCost 53 = .ok (.freturn, 1) := by decide +kernel
set_option maxRecDepth 20000 in
theorem ggX3_isSeenBy_X2_at : GoodIn wsX3_isSeenBy wsX2_at := goodIn_r _ [8, 9, 10, 50, 51, 52] (by decide +kernel) (by decide +kernel)
set_option maxRecDepth 20000 in
theorem gX3_isSeenBy_X2_at : GoodIn wsX3_isSeenBy (wsV RX3 173 RX2 yX2_at wsX2_at) := goodIn_app (goodIn_of _ (by decide +kernel)) ggX3_isSeenBy_X2_at
set_option maxRecDepth 20000 in
theorem ggX3_isSeenBy_X1_hasSeasonRound : GoodIn wsX3_isSeenBy wsX1_hasSeasonRound := goodIn_r _ [15, 16, 17, 18, 14, 19, 20, 53, 54, 55, 56, 57, 58, 59] (by decide +kernel) (by decide +kernel)
set_option maxRecDepth 20000 in
theorem gX3_isSeenBy_X1_hasSeasonRound : GoodIn wsX3_isSeenBy (wsV RX3 176 RX1 yX1_hasSeasonRound wsX1_hasSeasonRound) := goodIn_app (goodIn_of _ (by decide +kernel)) ggX3_isSeenBy_X1_hasSeasonRound
set_option maxRecDepth 20000 in
theorem ggX3_isSeenBy_X1_seasonSide : GoodIn wsX3_isSeenBy wsX1_seasonSide := goodIn_r _ [24, 20, 25, 26, 27, 14, 28, 29, 30, 31, 32, 33, 34, 35, 36, 37, 38, 39, 40, 53, 54, 55, 56, 57, 58, 59] (by decide +kernel) (by decide +kernel)
set_option maxRecDepth 20000 in
theorem gX3_isSeenBy_X1_seasonSide : GoodIn wsX3_isSeenBy (wsV RX3 179 RX1 yX1_seasonSide wsX1_seasonSide) := goodIn_app (goodIn_of _ (by decide +kernel)) ggX3_isSeenBy_X1_seasonSide
theorem dX3_isSeenBy_0 : decode cX3_isSeenBy 0 = .ok (.iconst 0, 1) := by decide +kernel
theorem dX3_isSeenBy_1 : decode cX3_isSeenBy 1 = .ok (.istore_n 2, 1) := by decide +kernel
theorem dX3_isSeenBy_2 : decode cX3_isSeenBy 2 = .ok (.iload_n 2, 1) := by decide +kernel
theorem dX3_isSeenBy_3 : decode cX3_isSeenBy 3 = .ok (.aload_n 0, 1) := by decide +kernel
theorem dX3_isSeenBy_4 : decode cX3_isSeenBy 4 = .ok (.getfield 37, 3) := by decide +kernel
theorem dX3_isSeenBy_7 : decode cX3_isSeenBy 7 = .ok (.getfield 170, 3) := by decide +kernel
theorem dX3_isSeenBy_10 : decode cX3_isSeenBy 10 = .ok (.if_icmp .ge 64, 3) := by decide +kernel
theorem dX3_isSeenBy_13 : decode cX3_isSeenBy 13 = .ok (.aload_n 0, 1) := by decide +kernel
theorem dX3_isSeenBy_14 : decode cX3_isSeenBy 14 = .ok (.getfield 37, 3) := by decide +kernel
theorem dX3_isSeenBy_17 : decode cX3_isSeenBy 17 = .ok (.iload_n 2, 1) := by decide +kernel
theorem dX3_isSeenBy_18 : decode cX3_isSeenBy 18 = .ok (.iconst 1, 1) := by decide +kernel
theorem dX3_isSeenBy_19 : decode cX3_isSeenBy 19 = .ok (.invokevirtual 173, 3) := by decide +kernel
theorem dX3_isSeenBy_22 : decode cX3_isSeenBy 22 = .ok (.istore_n 3, 1) := by decide +kernel
theorem dX3_isSeenBy_23 : decode cX3_isSeenBy 23 = .ok (.aload_n 0, 1) := by decide +kernel
theorem dX3_isSeenBy_24 : decode cX3_isSeenBy 24 = .ok (.getfield 12, 3) := by decide +kernel
theorem dX3_isSeenBy_27 : decode cX3_isSeenBy 27 = .ok (.iload_n 3, 1) := by decide +kernel
theorem dX3_isSeenBy_28 : decode cX3_isSeenBy 28 = .ok (.invokevirtual 176, 3) := by decide +kernel
theorem dX3_isSeenBy_31 : decode cX3_isSeenBy 31 = .ok (.ifCond .ne 5, 3) := by decide +kernel
theorem dX3_isSeenBy_34 : decode cX3_isSeenBy 34 = .ok (.iconst 0, 1) := by decide +kernel
theorem dX3_isSeenBy_35 : decode cX3_isSeenBy 35 = .ok (.ireturn, 1) := by decide +kernel
theorem dX3_isSeenBy_36 : decode cX3_isSeenBy 36 = .ok (.aload_n 0, 1) := by decide +kernel
theorem dX3_isSeenBy_37 : decode cX3_isSeenBy 37 = .ok (.getfield 12, 3) := by decide +kernel
theorem dX3_isSeenBy_40 : decode cX3_isSeenBy 40 = .ok (.aload_n 0, 1) := by decide +kernel
theorem dX3_isSeenBy_41 : decode cX3_isSeenBy 41 = .ok (.getfield 37, 3) := by decide +kernel
theorem dX3_isSeenBy_44 : decode cX3_isSeenBy 44 = .ok (.iload_n 2, 1) := by decide +kernel
theorem dX3_isSeenBy_45 : decode cX3_isSeenBy 45 = .ok (.iconst 0, 1) := by decide +kernel
theorem dX3_isSeenBy_46 : decode cX3_isSeenBy 46 = .ok (.invokevirtual 173, 3) := by decide +kernel
theorem dX3_isSeenBy_49 : decode cX3_isSeenBy 49 = .ok (.iload_n 3, 1) := by decide +kernel
theorem dX3_isSeenBy_50 : decode cX3_isSeenBy 50 = .ok (.iload_n 1, 1) := by decide +kernel
theorem dX3_isSeenBy_51 : decode cX3_isSeenBy 51 = .ok (.invokevirtual 179, 3) := by decide +kernel
theorem dX3_isSeenBy_54 : decode cX3_isSeenBy 54 = .ok (.aload_n 0, 1) := by decide +kernel
theorem dX3_isSeenBy_55 : decode cX3_isSeenBy 55 = .ok (.getfield 37, 3) := by decide +kernel
theorem dX3_isSeenBy_58 : decode cX3_isSeenBy 58 = .ok (.iload_n 2, 1) := by decide +kernel
theorem dX3_isSeenBy_59 : decode cX3_isSeenBy 59 = .ok (.iconst 2, 1) := by decide +kernel
theorem dX3_isSeenBy_60 : decode cX3_isSeenBy 60 = .ok (.invokevirtual 173, 3) := by decide +kernel
theorem dX3_isSeenBy_63 : decode cX3_isSeenBy 63 = .ok (.if_icmp .eq 5, 3) := by decide +kernel
theorem dX3_isSeenBy_66 : decode cX3_isSeenBy 66 = .ok (.iconst 0, 1) := by decide +kernel
theorem dX3_isSeenBy_67 : decode cX3_isSeenBy 67 = .ok (.ireturn, 1) := by decide +kernel
theorem dX3_isSeenBy_68 : decode cX3_isSeenBy 68 = .ok (.iinc 2 1, 3) := by decide +kernel
theorem dX3_isSeenBy_71 : decode cX3_isSeenBy 71 = .ok (.goto (-69), 3) := by decide +kernel
theorem dX3_isSeenBy_74 : decode cX3_isSeenBy 74 = .ok (.iconst 1, 1) := by decide +kernel
theorem dX3_isSeenBy_75 : decode cX3_isSeenBy 75 = .ok (.ireturn, 1) := by decide +kernel
