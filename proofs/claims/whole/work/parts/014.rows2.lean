theorem dX10_thingOf_81 : decode cX10_thingOf 81 = .ok (.iload_n 1, 1) := by decide +kernel
theorem dX10_thingOf_82 : decode cX10_thingOf 82 = .ok (.iaload, 1) := by decide +kernel
theorem dX10_thingOf_83 : decode cX10_thingOf 83 = .ok (.ireturn, 1) := by decide +kernel
theorem dX10_thingOf_84 : decode cX10_thingOf 84 = .ok (.bipush (-2), 2) := by decide +kernel
theorem dX10_thingOf_86 : decode cX10_thingOf 86 = .ok (.ireturn, 1) := by decide +kernel
set_option maxRecDepth 20000 in
theorem ggX10_cartOf_X9_isCart : GoodIn wsX10_cartOf wsX9_isCart := goodIn_r _ [9, 10, 78, 79, 80, 81, 82, 83, 84, 85, 86, 87, 88, 89, 90, 91, 92, 93] (by decide +kernel) (by decide +kernel)
set_option maxRecDepth 20000 in
theorem gX10_cartOf_X9_isCart : GoodIn wsX10_cartOf (wsV RX10 208 RX9 yX9_isCart wsX9_isCart) := goodIn_app (goodIn_of _ (by decide +kernel)) ggX10_cartOf_X9_isCart
set_option maxRecDepth 20000 in
theorem ggX10_cartOf_X9_premisesOn : GoodIn wsX10_cartOf wsX9_premisesOn := goodIn_r _ [14, 15, 16, 17, 78, 79, 80, 81, 82, 83, 84, 85, 86, 87, 88, 89, 90, 91, 92, 93] (by decide +kernel) (by decide +kernel)
set_option maxRecDepth 20000 in
theorem gX10_cartOf_X9_premisesOn : GoodIn wsX10_cartOf (wsV RX10 214 RX9 yX9_premisesOn wsX9_premisesOn) := goodIn_app (goodIn_of _ (by decide +kernel)) ggX10_cartOf_X9_premisesOn
set_option maxRecDepth 20000 in
theorem ggX10_cartOf_X9_weightOn : GoodIn wsX10_cartOf wsX9_weightOn := goodIn_r _ [21, 15, 16, 17, 22, 78, 79, 80, 81, 82, 83, 84, 85, 86, 87, 88, 89, 90, 91, 92, 93] (by decide +kernel) (by decide +kernel)
set_option maxRecDepth 20000 in
theorem gX10_cartOf_X9_weightOn : GoodIn wsX10_cartOf (wsV RX10 217 RX9 yX9_weightOn wsX9_weightOn) := goodIn_app (goodIn_of _ (by decide +kernel)) ggX10_cartOf_X9_weightOn
set_option maxRecDepth 20000 in
theorem ggX10_cartOf_X9_thingAt : GoodIn wsX10_cartOf wsX9_thingAt := goodIn_r _ [26, 15, 16, 27, 78, 79, 80, 81, 82, 83, 84, 85, 86, 87, 88, 89, 90, 91, 92, 93] (by decide +kernel) (by decide +kernel)
set_option maxRecDepth 20000 in
theorem gX10_cartOf_X9_thingAt : GoodIn wsX10_cartOf (wsV RX10 220 RX9 yX9_thingAt wsX9_thingAt) := goodIn_app (goodIn_of _ (by decide +kernel)) ggX10_cartOf_X9_thingAt
set_option maxRecDepth 20000 in
theorem ggX10_cartOf_X9_weightOfAllOn : GoodIn wsX10_cartOf wsX9_weightOfAllOn := goodIn_r _ [31, 32, 19, 20, 8, 21, 15, 16, 17, 22, 78, 79, 80, 81, 82, 83, 84, 85, 86, 87, 88, 89, 90, 91, 92, 93] (by decide +kernel) (by decide +kernel)
set_option maxRecDepth 20000 in
theorem gX10_cartOf_X9_weightOfAllOn : GoodIn wsX10_cartOf (wsV RX10 223 RX9 yX9_weightOfAllOn wsX9_weightOfAllOn) := goodIn_app (goodIn_of _ (by decide +kernel)) ggX10_cartOf_X9_weightOfAllOn
set_option maxRecDepth 20000 in
theorem ggX10_cartOf_X7_imbalance : GoodIn wsX10_cartOf wsX7_imbalance := goodIn_r _ [37, 38, 39, 40, 41, 42, 43, 44, 36, 45, 46, 47, 48, 49, 50, 51, 94, 78, 79, 80, 81, 82, 83, 84, 85, 86, 87, 88, 89, 90, 91, 92, 93] (by decide +kernel) (by decide +kernel)
set_option maxRecDepth 20000 in
theorem gX10_cartOf_X7_imbalance : GoodIn wsX10_cartOf (wsV RX10 229 RX7 yX7_imbalance wsX7_imbalance) := goodIn_app (goodIn_of _ (by decide +kernel)) ggX10_cartOf_X7_imbalance
set_option maxRecDepth 20000 in
theorem ggX10_cartOf_X7_creakingAxles : GoodIn wsX10_cartOf wsX7_creakingAxles := goodIn_r _ [55, 56, 57, 58, 36, 59, 60, 42, 43, 44, 45, 46, 47, 48, 49, 50, 51, 61, 62, 63, 64, 65, 94, 78, 79, 80, 81, 82, 83, 84, 85, 86, 87, 88, 89, 90, 91, 92, 93] (by decide +kernel) (by decide +kernel)
set_option maxRecDepth 20000 in
theorem gX10_cartOf_X7_creakingAxles : GoodIn wsX10_cartOf (wsV RX10 232 RX7 yX7_creakingAxles wsX7_creakingAxles) := goodIn_app (goodIn_of _ (by decide +kernel)) ggX10_cartOf_X7_creakingAxles
theorem dX10_cartOf_0 : decode cX10_cartOf 0 = .ok (.aload_n 0, 1) := by decide +kernel
theorem dX10_cartOf_1 : decode cX10_cartOf 1 = .ok (.getfield 10, 3) := by decide +kernel
theorem dX10_cartOf_4 : decode cX10_cartOf 4 = .ok (.iload_n 1, 1) := by decide +kernel
theorem dX10_cartOf_5 : decode cX10_cartOf 5 = .ok (.invokevirtual 208, 3) := by decide +kernel
theorem dX10_cartOf_8 : decode cX10_cartOf 8 = .ok (.ifCond .ne 5, 3) := by decide +kernel
theorem dX10_cartOf_11 : decode cX10_cartOf 11 = .ok (.iconst (-1), 1) := by decide +kernel
theorem dX10_cartOf_12 : decode cX10_cartOf 12 = .ok (.ireturn, 1) := by decide +kernel
theorem dX10_cartOf_13 : decode cX10_cartOf 13 = .ok (.iload_n 2, 1) := by decide +kernel
theorem dX10_cartOf_14 : decode cX10_cartOf 14 = .ok (.tableswitch 123 0 7 #[46, 56, 65, 75, 86, 95, 105, 114], 46) := by decide +kernel
theorem dX10_cartOf_60 : decode cX10_cartOf 60 = .ok (.aload_n 0, 1) := by decide +kernel
theorem dX10_cartOf_61 : decode cX10_cartOf 61 = .ok (.getfield 10, 3) := by decide +kernel
theorem dX10_cartOf_64 : decode cX10_cartOf 64 = .ok (.getfield 211, 3) := by decide +kernel
theorem dX10_cartOf_67 : decode cX10_cartOf 67 = .ok (.iload_n 1, 1) := by decide +kernel
theorem dX10_cartOf_68 : decode cX10_cartOf 68 = .ok (.iaload, 1) := by decide +kernel
theorem dX10_cartOf_69 : decode cX10_cartOf 69 = .ok (.ireturn, 1) := by decide +kernel
theorem dX10_cartOf_70 : decode cX10_cartOf 70 = .ok (.aload_n 0, 1) := by decide +kernel
theorem dX10_cartOf_71 : decode cX10_cartOf 71 = .ok (.getfield 10, 3) := by decide +kernel
theorem dX10_cartOf_74 : decode cX10_cartOf 74 = .ok (.iload_n 1, 1) := by decide +kernel
theorem dX10_cartOf_75 : decode cX10_cartOf 75 = .ok (.invokevirtual 214, 3) := by decide +kernel
theorem dX10_cartOf_78 : decode cX10_cartOf 78 = .ok (.ireturn, 1) := by decide +kernel
theorem dX10_cartOf_79 : decode cX10_cartOf 79 = .ok (.aload_n 0, 1) := by decide +kernel
theorem dX10_cartOf_80 : decode cX10_cartOf 80 = .ok (.getfield 10, 3) := by decide +kernel
theorem dX10_cartOf_83 : decode cX10_cartOf 83 = .ok (.iload_n 1, 1) := by decide +kernel
theorem dX10_cartOf_84 : decode cX10_cartOf 84 = .ok (.iconst 0, 1) := by decide +kernel
theorem dX10_cartOf_85 : decode cX10_cartOf 85 = .ok (.invokevirtual 217, 3) := by decide +kernel
theorem dX10_cartOf_88 : decode cX10_cartOf 88 = .ok (.ireturn, 1) := by decide +kernel
theorem dX10_cartOf_89 : decode cX10_cartOf 89 = .ok (.aload_n 0, 1) := by decide +kernel
theorem dX10_cartOf_90 : decode cX10_cartOf 90 = .ok (.getfield 10, 3) := by decide +kernel
theorem dX10_cartOf_93 : decode cX10_cartOf 93 = .ok (.iload_n 1, 1) := by decide +kernel
theorem dX10_cartOf_94 : decode cX10_cartOf 94 = .ok (.bipush 6, 2) := by decide +kernel
theorem dX10_cartOf_96 : decode cX10_cartOf 96 = .ok (.invokevirtual 220, 3) := by decide +kernel
theorem dX10_cartOf_99 : decode cX10_cartOf 99 = .ok (.ireturn, 1) := by decide +kernel
theorem dX10_cartOf_100 : decode cX10_cartOf 100 = .ok (.aload_n 0, 1) := by decide +kernel
theorem dX10_cartOf_101 : decode cX10_cartOf 101 = .ok (.getfield 10, 3) := by decide +kernel
theorem dX10_cartOf_104 : decode cX10_cartOf 104 = .ok (.iload_n 1, 1) := by decide +kernel
theorem dX10_cartOf_105 : decode cX10_cartOf 105 = .ok (.invokevirtual 223, 3) := by decide +kernel
theorem dX10_cartOf_108 : decode cX10_cartOf 108 = .ok (.ireturn, 1) := by decide +kernel
theorem dX10_cartOf_109 : decode cX10_cartOf 109 = .ok (.aload_n 0, 1) := by decide +kernel
theorem dX10_cartOf_110 : decode cX10_cartOf 110 = .ok (.getfield 10, 3) := by decide +kernel
theorem dX10_cartOf_113 : decode cX10_cartOf 113 = .ok (.getfield 226, 3) := by decide +kernel
theorem dX10_cartOf_116 : decode cX10_cartOf 116 = .ok (.iload_n 1, 1) := by decide +kernel
theorem dX10_cartOf_117 : decode cX10_cartOf 117 = .ok (.iaload, 1) := by decide +kernel
theorem dX10_cartOf_118 : decode cX10_cartOf 118 = .ok (.ireturn, 1) := by decide +kernel
theorem dX10_cartOf_119 : decode cX10_cartOf 119 = .ok (.aload_n 0, 1) := by decide +kernel
theorem dX10_cartOf_120 : decode cX10_cartOf 120 = .ok (.getfield 42, 3) := by decide +kernel
theorem dX10_cartOf_123 : decode cX10_cartOf 123 = .ok (.iload_n 1, 1) := by decide +kernel
theorem dX10_cartOf_124 : decode cX10_cartOf 124 = .ok (.invokevirtual 229, 3) := by decide +kernel
theorem dX10_cartOf_127 : decode cX10_cartOf 127 = .ok (.ireturn, 1) := by decide +kernel
theorem dX10_cartOf_128 : decode cX10_cartOf 128 = .ok (.aload_n 0, 1) := by decide +kernel
theorem dX10_cartOf_129 : decode cX10_cartOf 129 = .ok (.getfield 42, 3) := by decide +kernel
theorem dX10_cartOf_132 : decode cX10_cartOf 132 = .ok (.iload_n 1, 1) := by decide +kernel
theorem dX10_cartOf_133 : decode cX10_cartOf 133 = .ok (.invokevirtual 232, 3) := by decide +kernel
theorem dX10_cartOf_136 : decode cX10_cartOf 136 = .ok (.ireturn, 1) := by decide +kernel
theorem dX10_cartOf_137 : decode cX10_cartOf 137 = .ok (.bipush (-2), 2) := by decide +kernel
theorem dX10_cartOf_139 : decode cX10_cartOf 139 = .ok (.ireturn, 1) := by decide +kernel
set_option maxRecDepth 20000 in
theorem ggX10_at_X9_isCart : GoodIn wsX10_at wsX9_isCart := goodIn_r _ [6, 7, 27, 28, 29, 30, 31, 32, 33, 34, 35, 36, 37, 38, 39, 40, 41, 42] (by decide +kernel) (by decide +kernel)
set_option maxRecDepth 20000 in
theorem gX10_at_X9_isCart : GoodIn wsX10_at (wsV RX10 208 RX9 yX9_isCart wsX9_isCart) := goodIn_app (goodIn_of _ (by decide +kernel)) ggX10_at_X9_isCart
set_option maxRecDepth 20000 in
theorem ggX10_at_X9_thingAt : GoodIn wsX10_at wsX9_thingAt := goodIn_r _ [11, 12, 13, 14, 27, 28, 29, 30, 31, 32, 33, 34, 35, 36, 37, 38, 39, 40, 41, 42] (by decide +kernel) (by decide +kernel)
set_option maxRecDepth 20000 in
theorem gX10_at_X9_thingAt : GoodIn wsX10_at (wsV RX10 220 RX9 yX9_thingAt wsX9_thingAt) := goodIn_app (goodIn_of _ (by decide +kernel)) ggX10_at_X9_thingAt
theorem dX10_at_0 : decode cX10_at 0 = .ok (.aload_n 0, 1) := by decide +kernel
theorem dX10_at_1 : decode cX10_at 1 = .ok (.getfield 10, 3) := by decide +kernel
theorem dX10_at_4 : decode cX10_at 4 = .ok (.iload_n 1, 1) := by decide +kernel
theorem dX10_at_5 : decode cX10_at 5 = .ok (.invokevirtual 208, 3) := by decide +kernel
theorem dX10_at_8 : decode cX10_at 8 = .ok (.ifCond .ne 5, 3) := by decide +kernel
theorem dX10_at_11 : decode cX10_at 11 = .ok (.iconst (-1), 1) := by decide +kernel
theorem dX10_at_12 : decode cX10_at 12 = .ok (.ireturn, 1) := by decide +kernel
theorem dX10_at_13 : decode cX10_at 13 = .ok (.iload_n 2, 1) := by decide +kernel
theorem dX10_at_14 : decode cX10_at 14 = .ok (.ifCond .lt 9, 3) := by decide +kernel
theorem dX10_at_17 : decode cX10_at 17 = .ok (.iload_n 2, 1) := by decide +kernel
theorem dX10_at_18 : decode cX10_at 18 = .ok (.bipush 6, 2) := by decide +kernel
theorem dX10_at_20 : decode cX10_at 20 = .ok (.if_icmp .le 6, 3) := by decide +kernel
theorem dX10_at_23 : decode cX10_at 23 = .ok (.bipush (-2), 2) := by decide +kernel
theorem dX10_at_25 : decode cX10_at 25 = .ok (.ireturn, 1) := by decide +kernel
theorem dX10_at_26 : decode cX10_at 26 = .ok (.aload_n 0, 1) := by decide +kernel
theorem dX10_at_27 : decode cX10_at 27 = .ok (.getfield 10, 3) := by decide +kernel
theorem dX10_at_30 : decode cX10_at 30 = .ok (.iload_n 1, 1) := by decide +kernel
theorem dX10_at_31 : decode cX10_at 31 = .ok (.iload_n 2, 1) := by decide +kernel
theorem dX10_at_32 : decode cX10_at 32 = .ok (.invokevirtual 220, 3) := by decide +kernel
theorem dX10_at_35 : decode cX10_at 35 = .ok (.ireturn, 1) := by decide +kernel
set_option maxRecDepth 20000 in
theorem ggX10_roadOf_X9_isRoad : GoodIn wsX10_roadOf wsX9_isRoad := goodIn_r _ [10, 11, 24, 25, 26, 27, 28, 29, 30, 31, 32, 33, 34, 35, 36, 37, 38, 39] (by decide +kernel) (by decide +kernel)
set_option maxRecDepth 20000 in
theorem gX10_roadOf_X9_isRoad : GoodIn wsX10_roadOf (wsV RX10 235 RX9 yX9_isRoad wsX9_isRoad) := goodIn_app (goodIn_of _ (by decide +kernel)) ggX10_roadOf_X9_isRoad
theorem dX10_roadOf_0 : decode cX10_roadOf 0 = .ok (.aload_n 0, 1) := by decide +kernel
theorem dX10_roadOf_1 : decode cX10_roadOf 1 = .ok (.getfield 10, 3) := by decide +kernel
theorem dX10_roadOf_4 : decode cX10_roadOf 4 = .ok (.iload_n 1, 1) := by decide +kernel
theorem dX10_roadOf_5 : decode cX10_roadOf 5 = .ok (.invokevirtual 235, 3) := by decide +kernel
theorem dX10_roadOf_8 : decode cX10_roadOf 8 = .ok (.ifCond .ne 5, 3) := by decide +kernel
theorem dX10_roadOf_11 : decode cX10_roadOf 11 = .ok (.iconst (-1), 1) := by decide +kernel
theorem dX10_roadOf_12 : decode cX10_roadOf 12 = .ok (.ireturn, 1) := by decide +kernel
theorem dX10_roadOf_13 : decode cX10_roadOf 13 = .ok (.iload_n 2, 1) := by decide +kernel
theorem dX10_roadOf_14 : decode cX10_roadOf 14 = .ok (.tableswitch 70 0 3 #[30, 40, 50, 60], 30) := by decide +kernel
theorem dX10_roadOf_44 : decode cX10_roadOf 44 = .ok (.aload_n 0, 1) := by decide +kernel
theorem dX10_roadOf_45 : decode cX10_roadOf 45 = .ok (.getfield 10, 3) := by decide +kernel
theorem dX10_roadOf_48 : decode cX10_roadOf 48 = .ok (.getfield 238, 3) := by decide +kernel
theorem dX10_roadOf_51 : decode cX10_roadOf 51 = .ok (.iload_n 1, 1) := by decide +kernel
theorem dX10_roadOf_52 : decode cX10_roadOf 52 = .ok (.iaload, 1) := by decide +kernel
theorem dX10_roadOf_53 : decode cX10_roadOf 53 = .ok (.ireturn, 1) := by decide +kernel
theorem dX10_roadOf_54 : decode cX10_roadOf 54 = .ok (.aload_n 0, 1) := by decide +kernel
theorem dX10_roadOf_55 : decode cX10_roadOf 55 = .ok (.getfield 10, 3) := by decide +kernel
theorem dX10_roadOf_58 : decode cX10_roadOf 58 = .ok (.getfield 241, 3) := by decide +kernel
theorem dX10_roadOf_61 : decode cX10_roadOf 61 = .ok (.iload_n 1, 1) := by decide +kernel
theorem dX10_roadOf_62 : decode cX10_roadOf 62 = .ok (.iaload, 1) := by decide +kernel
theorem dX10_roadOf_63 : decode cX10_roadOf 63 = .ok (.ireturn, 1) := by decide +kernel
theorem dX10_roadOf_64 : decode cX10_roadOf 64 = .ok (.aload_n 0, 1) := by decide +kernel
theorem dX10_roadOf_65 : decode cX10_roadOf 65 = .ok (.getfield 10, 3) := by decide +kernel
theorem dX10_roadOf_68 : decode cX10_roadOf 68 = .ok (.getfield 244, 3) := by decide +kernel
theorem dX10_roadOf_71 : decode cX10_roadOf 71 = .ok (.iload_n 1, 1) := by decide +kernel
theorem dX10_roadOf_72 : decode cX10_roadOf 72 = .ok (.iaload, 1) := by decide +kernel
theorem dX10_roadOf_73 : decode cX10_roadOf 73 = .ok (.ireturn, 1) := by decide +kernel
theorem dX10_roadOf_74 : decode cX10_roadOf 74 = .ok (.aload_n 0, 1) := by decide +kernel
theorem dX10_roadOf_75 : decode cX10_roadOf 75 = .ok (.getfield 10, 3) := by decide +kernel
theorem dX10_roadOf_78 : decode cX10_roadOf 78 = .ok (.getfield 247, 3) := by decide +kernel
theorem dX10_roadOf_81 : decode cX10_roadOf 81 = .ok (.iload_n 1, 1) := by decide +kernel
theorem dX10_roadOf_82 : decode cX10_roadOf 82 = .ok (.iaload, 1) := by decide +kernel
theorem dX10_roadOf_83 : decode cX10_roadOf 83 = .ok (.ireturn, 1) := by decide +kernel
theorem dX10_roadOf_84 : decode cX10_roadOf 84 = .ok (.bipush (-2), 2) := by decide +kernel
theorem dX10_roadOf_86 : decode cX10_roadOf 86 = .ok (.ireturn, 1) := by decide +kernel
set_option maxRecDepth 20000 in
theorem ggX10_tenths_X9_isCart : GoodIn wsX10_tenths wsX9_isCart := goodIn_r _ [7, 8, 32, 33, 34, 35, 36, 37, 38, 39, 40, 41, 42, 43, 44, 45, 46, 47] (by decide +kernel) (by decide +kernel)
set_option maxRecDepth 20000 in
theorem gX10_tenths_X9_isCart : GoodIn wsX10_tenths (wsV RX10 208 RX9 yX9_isCart wsX9_isCart) := goodIn_app (goodIn_of _ (by decide +kernel)) ggX10_tenths_X9_isCart
set_option maxRecDepth 20000 in
theorem ggX10_tenths_X7_tenthsByThings : GoodIn wsX10_tenths wsX7_tenthsByThings := goodIn_r _ [13, 14, 15, 16, 17, 18, 19, 48, 32, 33, 34, 35, 36, 37, 38, 39, 40, 41, 42, 43, 44, 45, 46, 47] (by decide +kernel) (by decide +kernel)
set_option maxRecDepth 20000 in
theorem gX10_tenths_X7_tenthsByThings : GoodIn wsX10_tenths (wsV RX10 250 RX7 yX7_tenthsByThings wsX7_tenthsByThings) := goodIn_app (goodIn_of _ (by decide +kernel)) ggX10_tenths_X7_tenthsByThings
theorem dX10_tenths_0 : decode cX10_tenths 0 = .ok (.aload_n 0, 1) := by decide +kernel
theorem dX10_tenths_1 : decode cX10_tenths 1 = .ok (.getfield 10, 3) := by decide +kernel
theorem dX10_tenths_4 : decode cX10_tenths 4 = .ok (.iload_n 1, 1) := by decide +kernel
theorem dX10_tenths_5 : decode cX10_tenths 5 = .ok (.invokevirtual 208, 3) := by decide +kernel
theorem dX10_tenths_8 : decode cX10_tenths 8 = .ok (.ifCond .eq 15, 3) := by decide +kernel
theorem dX10_tenths_11 : decode cX10_tenths 11 = .ok (.aload_n 0, 1) := by decide +kernel
theorem dX10_tenths_12 : decode cX10_tenths 12 = .ok (.getfield 42, 3) := by decide +kernel
theorem dX10_tenths_15 : decode cX10_tenths 15 = .ok (.iload_n 1, 1) := by decide +kernel
theorem dX10_tenths_16 : decode cX10_tenths 16 = .ok (.iload_n 2, 1) := by decide +kernel
theorem dX10_tenths_17 : decode cX10_tenths 17 = .ok (.invokevirtual 250, 3) := by decide +kernel
theorem dX10_tenths_20 : decode cX10_tenths 20 = .ok (.goto 4, 3) := by decide +kernel
theorem dX10_tenths_23 : decode cX10_tenths 23 = .ok (.iconst (-1), 1) := by decide +kernel
theorem dX10_tenths_24 : decode cX10_tenths 24 = .ok (.ireturn, 1) := by decide +kernel
set_option maxRecDepth 20000 in
theorem ggX10_tenthsAgain_X9_isCart : GoodIn wsX10_tenthsAgain wsX9_isCart := goodIn_r _ [7, 8, 48, 49, 50, 51, 52, 53, 54, 55, 56, 57, 58, 59, 60, 61, 62, 63] (by decide +kernel) (by decide +kernel)
set_option maxRecDepth 20000 in
theorem gX10_tenthsAgain_X9_isCart : GoodIn wsX10_tenthsAgain (wsV RX10 208 RX9 yX9_isCart wsX9_isCart) := goodIn_app (goodIn_of _ (by decide +kernel)) ggX10_tenthsAgain_X9_isCart
set_option maxRecDepth 20000 in
theorem ggX10_tenthsAgain_X7_tenthsByOther : GoodIn wsX10_tenthsAgain wsX7_tenthsByOther := goodIn_r _ [13, 14, 15, 16, 17, 6, 18, 19, 20, 21, 22, 23, 24, 25, 26, 27, 28, 29, 12, 30, 31, 32, 33, 34, 35, 64, 48, 49, 50, 51, 52, 53, 54, 55, 56, 57, 58, 59, 60, 61, 62, 63] (by decide +kernel) (by decide +kernel)
set_option maxRecDepth 20000 in
theorem gX10_tenthsAgain_X7_tenthsByOther : GoodIn wsX10_tenthsAgain (wsV RX10 254 RX7 yX7_tenthsByOther wsX7_tenthsByOther) := goodIn_app (goodIn_of _ (by decide +kernel)) ggX10_tenthsAgain_X7_tenthsByOther
theorem dX10_tenthsAgain_0 : decode cX10_tenthsAgain 0 = .ok (.aload_n 0, 1) := by decide +kernel
theorem dX10_tenthsAgain_1 : decode cX10_tenthsAgain 1 = .ok (.getfield 10, 3) := by decide +kernel
theorem dX10_tenthsAgain_4 : decode cX10_tenthsAgain 4 = .ok (.iload_n 1, 1) := by decide +kernel
theorem dX10_tenthsAgain_5 : decode cX10_tenthsAgain 5 = .ok (.invokevirtual 208, 3) := by decide +kernel
theorem dX10_tenthsAgain_8 : decode cX10_tenthsAgain 8 = .ok (.ifCond .eq 15, 3) := by decide +kernel
theorem dX10_tenthsAgain_11 : decode cX10_tenthsAgain 11 = .ok (.aload_n 0, 1) := by decide +kernel
theorem dX10_tenthsAgain_12 : decode cX10_tenthsAgain 12 = .ok (.getfield 42, 3) := by decide +kernel
theorem dX10_tenthsAgain_15 : decode cX10_tenthsAgain 15 = .ok (.iload_n 1, 1) := by decide +kernel
theorem dX10_tenthsAgain_16 : decode cX10_tenthsAgain 16 = .ok (.iload_n 2, 1) := by decide +kernel
theorem dX10_tenthsAgain_17 : decode cX10_tenthsAgain 17 = .ok (.invokevirtual 254, 3) := by decide +kernel
theorem dX10_tenthsAgain_20 : decode cX10_tenthsAgain 20 = .ok (.goto 4, 3) := by decide +kernel
theorem dX10_tenthsAgain_23 : decode cX10_tenthsAgain 23 = .ok (.iconst (-1), 1) := by decide +kernel
theorem dX10_tenthsAgain_24 : decode cX10_tenthsAgain 24 = .ok (.ireturn, 1) := by decide +kernel
set_option maxRecDepth 20000 in
theorem ggX10_axle_X9_isCart : GoodIn wsX10_axle wsX9_isCart := goodIn_r _ [8, 9, 38, 39, 40, 41, 42, 43, 44, 45, 46, 47, 48, 49, 50, 51, 52, 53] (by decide +kernel) (by decide +kernel)
set_option maxRecDepth 20000 in
theorem gX10_axle_X9_isCart : GoodIn wsX10_axle (wsV RX10 208 RX9 yX9_isCart wsX9_isCart) := goodIn_app (goodIn_of _ (by decide +kernel)) ggX10_axle_X9_isCart
set_option maxRecDepth 20000 in
theorem ggX10_axle_X7_axleLoad : GoodIn wsX10_axle wsX7_axleLoad := goodIn_r _ [14, 15, 16, 17, 18, 13, 19, 20, 21, 22, 23, 24, 25, 54, 38, 39, 40, 41, 42, 43, 44, 45, 46, 47, 48, 49, 50, 51, 52, 53] (by decide +kernel) (by decide +kernel)
set_option maxRecDepth 20000 in
theorem gX10_axle_X7_axleLoad : GoodIn wsX10_axle (wsV RX10 257 RX7 yX7_axleLoad wsX7_axleLoad) := goodIn_app (goodIn_of _ (by decide +kernel)) ggX10_axle_X7_axleLoad
theorem dX10_axle_0 : decode cX10_axle 0 = .ok (.aload_n 0, 1) := by decide +kernel
theorem dX10_axle_1 : decode cX10_axle 1 = .ok (.getfield 10, 3) := by decide +kernel
theorem dX10_axle_4 : decode cX10_axle 4 = .ok (.iload_n 1, 1) := by decide +kernel
theorem dX10_axle_5 : decode cX10_axle 5 = .ok (.invokevirtual 208, 3) := by decide +kernel
theorem dX10_axle_8 : decode cX10_axle 8 = .ok (.ifCond .eq 15, 3) := by decide +kernel
theorem dX10_axle_11 : decode cX10_axle 11 = .ok (.aload_n 0, 1) := by decide +kernel
theorem dX10_axle_12 : decode cX10_axle 12 = .ok (.getfield 42, 3) := by decide +kernel
theorem dX10_axle_15 : decode cX10_axle 15 = .ok (.iload_n 1, 1) := by decide +kernel
theorem dX10_axle_16 : decode cX10_axle 16 = .ok (.iload_n 2, 1) := by decide +kernel
theorem dX10_axle_17 : decode cX10_axle 17 = .ok (.invokevirtual 257, 3) := by decide +kernel
theorem dX10_axle_20 : decode cX10_axle 20 = .ok (.goto 6, 3) := by decide +kernel
theorem dX10_axle_23 : decode cX10_axle 23 = .ok (.ldc_w 261, 3) := by decide +kernel
theorem dX10_axle_26 : decode cX10_axle 26 = .ok (.freturn, 1) := by decide +kernel
set_option maxRecDepth 20000 in
theorem ggX10_wear_X9_isCart : GoodIn wsX10_wear wsX9_isCart := goodIn_r _ [7, 8, 29, 30, 31, 32, 33, 34, 35, 36, 37, 38, 39, 40, 41, 42, 43, 44] (by decide +kernel) (by decide +kernel)
set_option maxRecDepth 20000 in
theorem gX10_wear_X9_isCart : GoodIn wsX10_wear (wsV RX10 208 RX9 yX9_isCart wsX9_isCart) := goodIn_app (goodIn_of _ (by decide +kernel)) ggX10_wear_X9_isCart
set_option maxRecDepth 20000 in
theorem ggX10_wear_X9_wearOf : GoodIn wsX10_wear wsX9_wearOf := goodIn_r _ [12, 13, 14, 15, 6, 16, 29, 30, 31, 32, 33, 34, 35, 36, 37, 38, 39, 40, 41, 42, 43, 44] (by decide +kernel) (by decide +kernel)
set_option maxRecDepth 20000 in
theorem gX10_wear_X9_wearOf : GoodIn wsX10_wear (wsV RX10 262 RX9 yX9_wearOf wsX9_wearOf) := goodIn_app (goodIn_of _ (by decide +kernel)) ggX10_wear_X9_wearOf
theorem dX10_wear_0 : decode cX10_wear 0 = .ok (.aload_n 0, 1) := by decide +kernel
theorem dX10_wear_1 : decode cX10_wear 1 = .ok (.getfield 10, 3) := by decide +kernel
theorem dX10_wear_4 : decode cX10_wear 4 = .ok (.iload_n 1, 1) := by decide +kernel
theorem dX10_wear_5 : decode cX10_wear 5 = .ok (.invokevirtual 208, 3) := by decide +kernel
theorem dX10_wear_8 : decode cX10_wear 8 = .ok (.ifCond .eq 15, 3) := by decide +kernel
theorem dX10_wear_11 : decode cX10_wear 11 = .ok (.aload_n 0, 1) := by decide +kernel
theorem dX10_wear_12 : decode cX10_wear 12 = .ok (.getfield 10, 3) := by decide +kernel
theorem dX10_wear_15 : decode cX10_wear 15 = .ok (.iload_n 1, 1) := by decide +kernel
theorem dX10_wear_16 : decode cX10_wear 16 = .ok (.iload_n 2, 1) := by decide +kernel
theorem dX10_wear_17 : decode cX10_wear 17 = .ok (.invokevirtual 262, 3) := by decide +kernel
theorem dX10_wear_20 : decode cX10_wear 20 = .ok (.goto 6, 3) := by decide +kernel
theorem dX10_wear_23 : decode cX10_wear 23 = .ok (.ldc_w 261, 3) := by decide +kernel
theorem dX10_wear_26 : decode cX10_wear 26 = .ok (.freturn, 1) := by decide +kernel
theorem dX10_tolls_0 : decode cX10_tolls 0 = .ok (.aload_n 0, 1) := by decide +kernel
theorem dX10_tolls_1 : decode cX10_tolls 1 = .ok (.getfield 10, 3) := by decide +kernel
theorem dX10_tolls_4 : decode cX10_tolls 4 = .ok (.getfield 265, 3) := by decide +kernel
theorem dX10_tolls_7 : decode cX10_tolls 7 = .ok (.freturn, 1) := by decide +kernel
set_option maxRecDepth 20000 in
theorem ggX10_best_X9_isCart : GoodIn wsX10_best wsX9_isCart := goodIn_r _ [7, 8, 48, 49, 50, 51, 52, 53, 54, 55, 56, 57, 58, 59, 60, 61, 62, 63] (by decide +kernel) (by decide +kernel)
set_option maxRecDepth 20000 in
theorem gX10_best_X9_isCart : GoodIn wsX10_best (wsV RX10 208 RX9 yX9_isCart wsX9_isCart) := goodIn_app (goodIn_of _ (by decide +kernel)) ggX10_best_X9_isCart
set_option maxRecDepth 20000 in
theorem ggX10_best_X1_leastByWays : GoodIn wsX10_best wsX1_leastByWays := goodIn_r _ [13, 14, 15, 16, 17, 18, 12, 19, 20, 21, 22, 23, 24, 25, 26, 27, 28, 29, 30, 31, 32, 33, 34, 35, 64, 65, 66, 67, 68, 69, 48, 49, 50, 51, 52, 53, 54, 55, 56, 57, 58, 59, 60, 61, 62, 63] (by decide +kernel) (by decide +kernel)
set_option maxRecDepth 20000 in
theorem gX10_best_X1_leastByWays : GoodIn wsX10_best (wsV RX10 269 RX1 yX1_leastByWays wsX1_leastByWays) := goodIn_app (goodIn_of _ (by decide +kernel)) ggX10_best_X1_leastByWays
theorem dX10_best_0 : decode cX10_best 0 = .ok (.aload_n 0, 1) := by decide +kernel
theorem dX10_best_1 : decode cX10_best 1 = .ok (.getfield 10, 3) := by decide +kernel
theorem dX10_best_4 : decode cX10_best 4 = .ok (.iload_n 1, 1) := by decide +kernel
theorem dX10_best_5 : decode cX10_best 5 = .ok (.invokevirtual 208, 3) := by decide +kernel
theorem dX10_best_8 : decode cX10_best 8 = .ok (.ifCond .eq 14, 3) := by decide +kernel
theorem dX10_best_11 : decode cX10_best 11 = .ok (.aload_n 0, 1) := by decide +kernel
theorem dX10_best_12 : decode cX10_best 12 = .ok (.getfield 58, 3) := by decide +kernel
theorem dX10_best_15 : decode cX10_best 15 = .ok (.iload_n 1, 1) := by decide +kernel
theorem dX10_best_16 : decode cX10_best 16 = .ok (.invokevirtual 269, 3) := by decide +kernel
theorem dX10_best_19 : decode cX10_best 19 = .ok (.goto 4, 3) := by decide +kernel
theorem dX10_best_22 : decode cX10_best 22 = .ok (.iconst (-1), 1) := by decide +kernel
theorem dX10_best_23 : decode cX10_best 23 = .ok (.ireturn, 1) := by decide +kernel
set_option maxRecDepth 20000 in
theorem ggX10_bestAgain_X9_isCart : GoodIn wsX10_bestAgain wsX9_isCart := goodIn_r _ [7, 8, 64, 65, 66, 67, 68, 69, 70, 71, 72, 73, 74, 75, 76, 77, 78, 79] (by decide +kernel) (by decide +kernel)
set_option maxRecDepth 20000 in
theorem gX10_bestAgain_X9_isCart : GoodIn wsX10_bestAgain (wsV RX10 208 RX9 yX9_isCart wsX9_isCart) := goodIn_app (goodIn_of _ (by decide +kernel)) ggX10_bestAgain_X9_isCart
set_option maxRecDepth 20000 in
theorem ggX10_bestAgain_X1_leastBySets : GoodIn wsX10_bestAgain wsX1_leastBySets := goodIn_r _ [13, 14, 15, 16, 17, 18, 19, 20, 12, 21, 22, 23, 24, 25, 26, 27, 28, 29, 30, 31, 32, 33, 34, 35, 36, 37, 38, 39, 40, 41, 42, 43, 44, 45, 46, 47, 48, 49, 50, 51, 80, 81, 82, 83, 84, 85, 64, 65, 66, 67, 68, 69, 70, 71, 72, 73, 74, 75, 76, 77, 78, 79] (by decide +kernel) (by decide +kernel)
set_option maxRecDepth 20000 in
theorem gX10_bestAgain_X1_leastBySets : GoodIn wsX10_bestAgain (wsV RX10 272 RX1 yX1_leastBySets wsX1_leastBySets) := goodIn_app (goodIn_of _ (by decide +kernel)) ggX10_bestAgain_X1_leastBySets
theorem dX10_bestAgain_0 : decode cX10_bestAgain 0 = .ok (.aload_n 0, 1) := by decide +kernel
theorem dX10_bestAgain_1 : decode cX10_bestAgain 1 = .ok (.getfield 10, 3) := by decide +kernel
theorem dX10_bestAgain_4 : decode cX10_bestAgain 4 = .ok (.iload_n 1, 1) := by decide +kernel
theorem dX10_bestAgain_5 : decode cX10_bestAgain 5 = .ok (.invokevirtual 208, 3) := by decide +kernel
theorem dX10_bestAgain_8 : decode cX10_bestAgain 8 = .ok (.ifCond .eq 14, 3) := by decide +kernel
theorem dX10_bestAgain_11 : decode cX10_bestAgain 11 = .ok (.aload_n 0, 1) := by decide +kernel
theorem dX10_bestAgain_12 : decode cX10_bestAgain 12 = .ok (.getfield 58, 3) := by decide +kernel
theorem dX10_bestAgain_15 : decode cX10_bestAgain 15 = .ok (.iload_n 1, 1) := by decide +kernel
theorem dX10_bestAgain_16 : decode cX10_bestAgain 16 = .ok (.invokevirtual 272, 3) := by decide +kernel
theorem dX10_bestAgain_19 : decode cX10_bestAgain 19 = .ok (.goto 4, 3) := by decide +kernel
theorem dX10_bestAgain_22 : decode cX10_bestAgain 22 = .ok (.iconst (-1), 1) := by decide +kernel
theorem dX10_bestAgain_23 : decode cX10_bestAgain 23 = .ok (.ireturn, 1) := by decide +kernel
set_option maxRecDepth 20000 in
theorem ggX10_could_X9_isCart : GoodIn wsX10_could wsX9_isCart := goodIn_r _ [7, 8, 90, 91, 92, 93, 94, 95, 96, 97, 98, 99, 100, 101, 102, 103, 104, 105] (by decide +kernel) (by decide +kernel)
set_option maxRecDepth 20000 in
theorem gX10_could_X9_isCart : GoodIn wsX10_could (wsV RX10 208 RX9 yX9_isCart wsX9_isCart) := goodIn_app (goodIn_of _ (by decide +kernel)) ggX10_could_X9_isCart
set_option maxRecDepth 20000 in
theorem ggX10_could_X9_isRoad : GoodIn wsX10_could wsX9_isRoad := goodIn_r _ [12, 13, 90, 91, 92, 93, 94, 95, 96, 97, 98, 99, 100, 101, 102, 103, 104, 105] (by decide +kernel) (by decide +kernel)
set_option maxRecDepth 20000 in
theorem gX10_could_X9_isRoad : GoodIn wsX10_could (wsV RX10 235 RX9 yX9_isRoad wsX9_isRoad) := goodIn_app (goodIn_of _ (by decide +kernel)) ggX10_could_X9_isRoad
set_option maxRecDepth 20000 in
theorem ggX10_could_X8_tripsLeft : GoodIn wsX10_could wsX8_tripsLeft := goodIn_r _ [18, 19, 20, 21, 22, 23, 6, 24, 25, 26, 27, 28, 29, 30, 31, 32, 33, 34, 35, 36, 37, 38, 39, 40, 41, 42, 43, 44, 45, 46, 47, 48, 49, 50, 51, 52, 53, 54, 55, 56, 57, 58, 59, 60, 61, 62, 63, 64, 65, 66, 67, 68, 69, 70, 71, 72, 73, 74, 75, 76, 77, 106, 107, 108, 90, 91, 92, 93, 94, 95, 96, 97, 98, 99, 100, 101, 102, 103, 104, 105, 109] (by decide +kernel) (by decide +kernel)
set_option maxRecDepth 20000 in
theorem gX10_could_X8_tripsLeft : GoodIn wsX10_could (wsV RX10 275 RX8 yX8_tripsLeft wsX8_tripsLeft) := goodIn_app (goodIn_of _ (by decide +kernel)) ggX10_could_X8_tripsLeft
theorem dX10_could_0 : decode cX10_could 0 = .ok (.aload_n 0, 1) := by decide +kernel
theorem dX10_could_1 : decode cX10_could 1 = .ok (.getfield 10, 3) := by decide +kernel
theorem dX10_could_4 : decode cX10_could 4 = .ok (.iload_n 1, 1) := by decide +kernel
theorem dX10_could_5 : decode cX10_could 5 = .ok (.invokevirtual 208, 3) := by decide +kernel
theorem dX10_could_8 : decode cX10_could 8 = .ok (.ifCond .eq 14, 3) := by decide +kernel
theorem dX10_could_11 : decode cX10_could 11 = .ok (.aload_n 0, 1) := by decide +kernel
theorem dX10_could_12 : decode cX10_could 12 = .ok (.getfield 10, 3) := by decide +kernel
theorem dX10_could_15 : decode cX10_could 15 = .ok (.iload_n 2, 1) := by decide +kernel
theorem dX10_could_16 : decode cX10_could 16 = .ok (.invokevirtual 235, 3) := by decide +kernel
theorem dX10_could_19 : decode cX10_could 19 = .ok (.ifCond .ne 5, 3) := by decide +kernel
theorem dX10_could_22 : decode cX10_could 22 = .ok (.iconst (-1), 1) := by decide +kernel
theorem dX10_could_23 : decode cX10_could 23 = .ok (.ireturn, 1) := by decide +kernel
theorem dX10_could_24 : decode cX10_could 24 = .ok (.aload_n 0, 1) := by decide +kernel
theorem dX10_could_25 : decode cX10_could 25 = .ok (.getfield 51, 3) := by decide +kernel
theorem dX10_could_28 : decode cX10_could 28 = .ok (.iload_n 1, 1) := by decide +kernel
theorem dX10_could_29 : decode cX10_could 29 = .ok (.iload_n 2, 1) := by decide +kernel
theorem dX10_could_30 : decode cX10_could 30 = .ok (.invokevirtual 275, 3) := by decide +kernel
theorem dX10_could_33 : decode cX10_could 33 = .ok (.ireturn, 1) := by decide +kernel
set_option maxRecDepth 20000 in
theorem ggX10_takes_X9_isCart : GoodIn wsX10_takes wsX9_isCart := goodIn_r _ [7, 8, 38, 39, 40, 41, 42, 43, 44, 45, 46, 47, 48, 49, 50, 51, 52, 53] (by decide +kernel) (by decide +kernel)
set_option maxRecDepth 20000 in
theorem gX10_takes_X9_isCart : GoodIn wsX10_takes (wsV RX10 208 RX9 yX9_isCart wsX9_isCart) := goodIn_app (goodIn_of _ (by decide +kernel)) ggX10_takes_X9_isCart
set_option maxRecDepth 20000 in
theorem ggX10_takes_X9_isWithinLimit : GoodIn wsX10_takes wsX9_isWithinLimit := goodIn_r _ [12, 13, 14, 15, 16, 6, 17, 18, 19, 20, 21, 22, 23, 24, 25, 38, 39, 40, 41, 42, 43, 44, 45, 46, 47, 48, 49, 50, 51, 52, 53] (by decide +kernel) (by decide +kernel)
set_option maxRecDepth 20000 in
theorem gX10_takes_X9_isWithinLimit : GoodIn wsX10_takes (wsV RX10 281 RX9 yX9_isWithinLimit wsX9_isWithinLimit) := goodIn_app (goodIn_of _ (by decide +kernel)) ggX10_takes_X9_isWithinLimit
theorem dX10_takes_0 : decode cX10_takes 0 = .ok (.aload_n 0, 1) := by decide +kernel
theorem dX10_takes_1 : decode cX10_takes 1 = .ok (.getfield 10, 3) := by decide +kernel
theorem dX10_takes_4 : decode cX10_takes 4 = .ok (.iload_n 1, 1) := by decide +kernel
theorem dX10_takes_5 : decode cX10_takes 5 = .ok (.invokevirtual 208, 3) := by decide +kernel
theorem dX10_takes_8 : decode cX10_takes 8 = .ok (.ifCond .ne 5, 3) := by decide +kernel
theorem dX10_takes_11 : decode cX10_takes 11 = .ok (.iconst (-1), 1) := by decide +kernel
theorem dX10_takes_12 : decode cX10_takes 12 = .ok (.ireturn, 1) := by decide +kernel
theorem dX10_takes_13 : decode cX10_takes 13 = .ok (.iconst 0, 1) := by decide +kernel
theorem dX10_takes_14 : decode cX10_takes 14 = .ok (.istore_n 2, 1) := by decide +kernel
theorem dX10_takes_15 : decode cX10_takes 15 = .ok (.iconst 0, 1) := by decide +kernel
theorem dX10_takes_16 : decode cX10_takes 16 = .ok (.istore_n 3, 1) := by decide +kernel
theorem dX10_takes_17 : decode cX10_takes 17 = .ok (.iload_n 3, 1) := by decide +kernel
theorem dX10_takes_18 : decode cX10_takes 18 = .ok (.aload_n 0, 1) := by decide +kernel
theorem dX10_takes_19 : decode cX10_takes 19 = .ok (.getfield 10, 3) := by decide +kernel
theorem dX10_takes_22 : decode cX10_takes 22 = .ok (.getfield 278, 3) := by decide +kernel
theorem dX10_takes_25 : decode cX10_takes 25 = .ok (.if_icmp .ge 27, 3) := by decide +kernel
theorem dX10_takes_28 : decode cX10_takes 28 = .ok (.aload_n 0, 1) := by decide +kernel
theorem dX10_takes_29 : decode cX10_takes 29 = .ok (.getfield 10, 3) := by decide +kernel
theorem dX10_takes_32 : decode cX10_takes 32 = .ok (.iload_n 1, 1) := by decide +kernel
theorem dX10_takes_33 : decode cX10_takes 33 = .ok (.iload_n 3, 1) := by decide +kernel
theorem dX10_takes_34 : decode cX10_takes 34 = .ok (.invokevirtual 281, 3) := by decide +kernel
theorem dX10_takes_37 : decode cX10_takes 37 = .ok (.ifCond .eq 9, 3) := by decide +kernel
theorem dX10_takes_40 : decode cX10_takes 40 = .ok (.iload_n 2, 1) := by decide +kernel
theorem dX10_takes_41 : decode cX10_takes 41 = .ok (.iconst 1, 1) := by decide +kernel
theorem dX10_takes_42 : decode cX10_takes 42 = .ok (.iload_n 3, 1) := by decide +kernel
theorem dX10_takes_43 : decode cX10_takes 43 = .ok (.ishl, 1) := by decide +kernel
theorem dX10_takes_44 : decode cX10_takes 44 = .ok (.ior, 1) := by decide +kernel
theorem dX10_takes_45 : decode cX10_takes 45 = .ok (.istore_n 2, 1) := by decide +kernel
theorem dX10_takes_46 : decode cX10_takes 46 = .ok (.iinc 3 1, 3) := by decide +kernel
theorem dX10_takes_49 : decode cX10_takes 49 = .ok (.goto (-32), 3) := by decide +kernel
theorem dX10_takes_52 : decode cX10_takes 52 = .ok (.iload_n 2, 1) := by decide +kernel
theorem dX10_takes_53 : decode cX10_takes 53 = .ok (.ireturn, 1) := by decide +kernel
set_option maxRecDepth 20000 in
theorem ggX10_cheapest_X9_isCart : GoodIn wsX10_cheapest wsX9_isCart := goodIn_r _ [7, 8, 65, 66, 67, 68, 69, 70, 71, 72, 73, 74, 75, 76, 77, 78, 79, 80] (by decide +kernel) (by decide +kernel)
set_option maxRecDepth 20000 in
theorem gX10_cheapest_X9_isCart : GoodIn wsX10_cheapest (wsV RX10 208 RX9 yX9_isCart wsX9_isCart) := goodIn_app (goodIn_of _ (by decide +kernel)) ggX10_cheapest_X9_isCart
set_option maxRecDepth 20000 in
theorem ggX10_cheapest_X5_cheapestRoad : GoodIn wsX10_cheapest wsX5_cheapestRoad := goodIn_r _ [13, 14, 15, 16, 17, 18, 6, 19, 20, 21, 22, 23, 24, 25, 26, 27, 28, 29, 30, 31, 32, 33, 34, 35, 36, 37, 38, 39, 40, 12, 41, 42, 43, 44, 45, 46, 47, 48, 49, 50, 51, 52, 81, 82, 65, 66, 67, 68, 69, 70, 71, 72, 73, 74, 75, 76, 77, 78, 79, 80, 83] (by decide +kernel) (by decide +kernel)
set_option maxRecDepth 20000 in
theorem gX10_cheapest_X5_cheapestRoad : GoodIn wsX10_cheapest (wsV RX10 285 RX5 yX5_cheapestRoad wsX5_cheapestRoad) := goodIn_app (goodIn_of _ (by decide +kernel)) ggX10_cheapest_X5_cheapestRoad
theorem dX10_cheapest_0 : decode cX10_cheapest 0 = .ok (.aload_n 0, 1) := by decide +kernel
theorem dX10_cheapest_1 : decode cX10_cheapest 1 = .ok (.getfield 10, 3) := by decide +kernel
theorem dX10_cheapest_4 : decode cX10_cheapest 4 = .ok (.iload_n 1, 1) := by decide +kernel
theorem dX10_cheapest_5 : decode cX10_cheapest 5 = .ok (.invokevirtual 208, 3) := by decide +kernel
theorem dX10_cheapest_8 : decode cX10_cheapest 8 = .ok (.ifCond .eq 14, 3) := by decide +kernel
theorem dX10_cheapest_11 : decode cX10_cheapest 11 = .ok (.aload_n 0, 1) := by decide +kernel
theorem dX10_cheapest_12 : decode cX10_cheapest 12 = .ok (.getfield 67, 3) := by decide +kernel
theorem dX10_cheapest_15 : decode cX10_cheapest 15 = .ok (.iload_n 1, 1) := by decide +kernel
theorem dX10_cheapest_16 : decode cX10_cheapest 16 = .ok (.invokevirtual 285, 3) := by decide +kernel
theorem dX10_cheapest_19 : decode cX10_cheapest 19 = .ok (.goto 4, 3) := by decide +kernel
theorem dX10_cheapest_22 : decode cX10_cheapest 22 = .ok (.iconst (-1), 1) := by decide +kernel
theorem dX10_cheapest_23 : decode cX10_cheapest 23 = .ok (.ireturn, 1) := by decide +kernel
set_option maxRecDepth 20000 in
theorem ggX10_heaviest_X5_thingInOrder : GoodIn wsX10_heaviest wsX5_thingInOrder := goodIn_r _ [6, 7, 8, 9, 10, 11, 5, 12, 13, 14, 27, 28, 29, 30, 31, 32, 33, 34, 35, 36, 37, 38, 39, 40, 41, 42, 43, 44] (by decide +kernel) (by decide +kernel)
set_option maxRecDepth 20000 in
theorem gX10_heaviest_X5_thingInOrder : GoodIn wsX10_heaviest (wsV RX10 288 RX5 yX5_thingInOrder wsX5_thingInOrder) := goodIn_app (goodIn_of _ (by decide +kernel)) ggX10_heaviest_X5_thingInOrder
theorem dX10_heaviest_0 : decode cX10_heaviest 0 = .ok (.aload_n 0, 1) := by decide +kernel
theorem dX10_heaviest_1 : decode cX10_heaviest 1 = .ok (.getfield 67, 3) := by decide +kernel
theorem dX10_heaviest_4 : decode cX10_heaviest 4 = .ok (.iload_n 1, 1) := by decide +kernel
theorem dX10_heaviest_5 : decode cX10_heaviest 5 = .ok (.invokevirtual 288, 3) := by decide +kernel
theorem dX10_heaviest_8 : decode cX10_heaviest 8 = .ok (.ireturn, 1) := by decide +kernel
set_option maxRecDepth 20000 in
theorem ggX10_fullest_X5_cartInOrder : GoodIn wsX10_fullest wsX5_cartInOrder := goodIn_r _ [6, 7, 8, 9, 10, 11, 5, 12, 13, 14, 15, 16, 17, 18, 19, 20, 21, 22, 23, 24, 25, 26, 27, 28, 29, 30, 31, 32, 33, 34, 35, 36, 37, 38, 39, 40, 41, 42, 43, 44, 45, 58, 59, 60, 61, 62, 63, 64, 65, 66, 67, 68, 69, 70, 71, 72, 73, 74, 75, 76] (by decide +kernel) (by decide +kernel)
set_option maxRecDepth 20000 in
theorem gX10_fullest_X5_cartInOrder : GoodIn wsX10_fullest (wsV RX10 291 RX5 yX5_cartInOrder wsX5_cartInOrder) := goodIn_app (goodIn_of _ (by decide +kernel)) ggX10_fullest_X5_cartInOrder
theorem dX10_fullest_0 : decode cX10_fullest 0 = .ok (.aload_n 0, 1) := by decide +kernel
theorem dX10_fullest_1 : decode cX10_fullest 1 = .ok (.getfield 67, 3) := by decide +kernel
theorem dX10_fullest_4 : decode cX10_fullest 4 = .ok (.iload_n 1, 1) := by decide +kernel
theorem dX10_fullest_5 : decode cX10_fullest 5 = .ok (.invokevirtual 291, 3) := by decide +kernel
theorem dX10_fullest_8 : decode cX10_fullest 8 = .ok (.ireturn, 1) := by decide +kernel
set_option maxRecDepth 20000 in
theorem ggX10_write_X9_isCart : GoodIn wsX10_write wsX9_isCart := goodIn_r _ [7, 8, 209, 210, 211, 212, 213, 214, 215, 216, 217, 218, 219, 220, 221, 222, 223, 224] (by decide +kernel) (by decide +kernel)
set_option maxRecDepth 20000 in
theorem gX10_write_X9_isCart : GoodIn wsX10_write (wsV RX10 208 RX9 yX9_isCart wsX9_isCart) := goodIn_app (goodIn_of _ (by decide +kernel)) ggX10_write_X9_isCart
set_option maxRecDepth 20000 in
theorem ggX10_write_J4_setLength_d00df : GoodIn wsX10_write wsJ4_setLength_d00df := goodIn_r _ [13, 14, 15, 16, 17, 18, 19, 20, 21, 22, 23, 24, 25, 26, 27, 28, 29, 30, 31, 32, 33, 34, 35, 36, 37, 38, 39, 40, 41, 42, 43, 44, 45, 46, 47, 48, 49, 50, 51, 52, 53, 54, 55, 56, 57, 58, 59, 60, 61, 62, 63, 64, 65, 66, 67, 68, 69, 70, 71, 72, 73, 74, 75, 76, 77, 78, 79, 80, 81, 82, 83, 84, 85, 225, 226, 227, 228] (by decide +kernel) (by decide +kernel)
set_option maxRecDepth 20000 in
theorem gX10_write_J4_setLength_d00df : GoodIn wsX10_write (wsV RX10 294 RJ4 yJ4_setLength_d00df wsJ4_setLength_d00df) := goodIn_app (goodIn_of _ (by decide +kernel)) ggX10_write_J4_setLength_d00df
set_option maxRecDepth 20000 in
theorem ggX10_write_J4_append_bf812 : GoodIn wsX10_write wsJ4_append_bf812 := goodIn_r _ [89, 90, 91, 16, 92, 18, 93, 20, 21, 94, 95, 96, 97, 23, 24, 25, 26, 27, 28, 29, 30, 31, 32, 33, 34, 35, 36, 37, 38, 39, 40, 41, 42, 43, 44, 45, 46, 47, 48, 49, 50, 51, 52, 53, 54, 55, 56, 57, 58, 59, 60, 61, 62, 63, 64, 65, 66, 67, 68, 69, 70, 98, 99, 100, 101, 102, 103, 104, 83, 105, 106, 107, 108, 109, 110, 111, 112, 113, 114, 115, 116, 117, 118, 119, 120, 121, 122, 123, 124, 125, 126, 127, 128, 129, 130, 131, 225, 226, 227, 228] (by decide +kernel) (by decide +kernel)
set_option maxRecDepth 20000 in
theorem gX10_write_J4_append_bf812 : GoodIn wsX10_write (wsV RX10 298 RJ4 yJ4_append_bf812 wsJ4_append_bf812) := goodIn_app (goodIn_of _ (by decide +kernel)) ggX10_write_J4_append_bf812
set_option maxRecDepth 20000 in
theorem ggX10_write_J4_append_cf468 : GoodIn wsX10_write wsJ4_append_cf468 := goodIn_r _ [135, 136, 137, 16, 138, 18, 139, 20, 21, 23, 24, 25, 26, 27, 28, 29, 30, 31, 32, 33, 34, 35, 36, 37, 38, 39, 40, 41, 42, 43, 44, 45, 46, 47, 48, 49, 50, 51, 52, 53, 54, 55, 56, 57, 58, 59, 60, 61, 62, 63, 64, 65, 66, 67, 68, 69, 70, 140, 141, 73, 142, 143, 144, 145, 146, 147, 148, 149, 83, 150, 151, 152, 153, 154, 155, 156, 157, 158, 159, 160, 161, 162, 163, 110, 111, 112, 164, 165, 115, 166, 117, 167, 168, 120, 169, 127, 128, 129, 106, 130, 131, 170, 171, 172, 173, 174, 175, 176, 177, 178, 179, 180, 181, 225, 226, 227, 228] (by decide +kernel) (by decide +kernel)
set_option maxRecDepth 20000 in
theorem gX10_write_J4_append_cf468 : GoodIn wsX10_write (wsV RX10 302 RJ4 yJ4_append_cf468 wsJ4_append_cf468) := goodIn_app (goodIn_of _ (by decide +kernel)) ggX10_write_J4_append_cf468
set_option maxRecDepth 20000 in
theorem ggX10_write_X9_thingAt : GoodIn wsX10_write wsX9_thingAt := goodIn_r _ [185, 186, 187, 188, 209, 210, 211, 212, 213, 214, 215, 216, 217, 218, 219, 220, 221, 222, 223, 224] (by decide +kernel) (by decide +kernel)
set_option maxRecDepth 20000 in
theorem gX10_write_X9_thingAt : GoodIn wsX10_write (wsV RX10 220 RX9 yX9_thingAt wsX9_thingAt) := goodIn_app (goodIn_of _ (by decide +kernel)) ggX10_write_X9_thingAt
set_option maxRecDepth 20000 in
theorem ggX10_write_J4_length_8abf5 : GoodIn wsX10_write wsJ4_length_8abf5 := goodIn_r _ [192, 193, 194, 16, 195, 18, 196, 20, 225, 226, 227, 228] (by decide +kernel) (by decide +kernel)
set_option maxRecDepth 20000 in
theorem gX10_write_J4_length_8abf5 : GoodIn wsX10_write (wsV RX10 305 RJ4 yJ4_length_8abf5 wsJ4_length_8abf5) := goodIn_app (goodIn_of _ (by decide +kernel)) ggX10_write_J4_length_8abf5
theorem dX10_write_0 : decode cX10_write 0 = .ok (.aload_n 0, 1) := by decide +kernel
theorem dX10_write_1 : decode cX10_write 1 = .ok (.getfield 10, 3) := by decide +kernel
theorem dX10_write_4 : decode cX10_write 4 = .ok (.iload_n 1, 1) := by decide +kernel
theorem dX10_write_5 : decode cX10_write 5 = .ok (.invokevirtual 208, 3) := by decide +kernel
theorem dX10_write_8 : decode cX10_write 8 = .ok (.ifCond .ne 5, 3) := by decide +kernel
theorem dX10_write_11 : decode cX10_write 11 = .ok (.iconst (-1), 1) := by decide +kernel
theorem dX10_write_12 : decode cX10_write 12 = .ok (.ireturn, 1) := by decide +kernel
theorem dX10_write_13 : decode cX10_write 13 = .ok (.aload_n 0, 1) := by decide +kernel
theorem dX10_write_14 : decode cX10_write 14 = .ok (.getfield 85, 3) := by decide +kernel
theorem dX10_write_17 : decode cX10_write 17 = .ok (.iconst 0, 1) := by decide +kernel
theorem dX10_write_18 : decode cX10_write 18 = .ok (.invokevirtual 294, 3) := by decide +kernel
theorem dX10_write_21 : decode cX10_write 21 = .ok (.aload_n 0, 1) := by decide +kernel
theorem dX10_write_22 : decode cX10_write 22 = .ok (.getfield 85, 3) := by decide +kernel
theorem dX10_write_25 : decode cX10_write 25 = .ok (.iload_n 1, 1) := by decide +kernel
theorem dX10_write_26 : decode cX10_write 26 = .ok (.invokevirtual 298, 3) := by decide +kernel
theorem dX10_write_29 : decode cX10_write 29 = .ok (.bipush 91, 2) := by decide +kernel
theorem dX10_write_31 : decode cX10_write 31 = .ok (.invokevirtual 302, 3) := by decide +kernel
theorem dX10_write_34 : decode cX10_write 34 = .ok (.pop, 1) := by decide +kernel
theorem dX10_write_35 : decode cX10_write 35 = .ok (.iconst 0, 1) := by decide +kernel
theorem dX10_write_36 : decode cX10_write 36 = .ok (.istore_n 2, 1) := by decide +kernel
theorem dX10_write_37 : decode cX10_write 37 = .ok (.iload_n 2, 1) := by decide +kernel
theorem dX10_write_38 : decode cX10_write 38 = .ok (.bipush 6, 2) := by decide +kernel
theorem dX10_write_40 : decode cX10_write 40 = .ok (.if_icmp .ge 61, 3) := by decide +kernel
theorem dX10_write_43 : decode cX10_write 43 = .ok (.iload_n 2, 1) := by decide +kernel
theorem dX10_write_44 : decode cX10_write 44 = .ok (.ifCond .le 13, 3) := by decide +kernel
theorem dX10_write_47 : decode cX10_write 47 = .ok (.aload_n 0, 1) := by decide +kernel
theorem dX10_write_48 : decode cX10_write 48 = .ok (.getfield 85, 3) := by decide +kernel
theorem dX10_write_51 : decode cX10_write 51 = .ok (.bipush 44, 2) := by decide +kernel
theorem dX10_write_53 : decode cX10_write 53 = .ok (.invokevirtual 302, 3) := by decide +kernel
theorem dX10_write_56 : decode cX10_write 56 = .ok (.pop, 1) := by decide +kernel
theorem dX10_write_57 : decode cX10_write 57 = .ok (.aload_n 0, 1) := by decide +kernel
theorem dX10_write_58 : decode cX10_write 58 = .ok (.getfield 10, 3) := by decide +kernel
theorem dX10_write_61 : decode cX10_write 61 = .ok (.iload_n 1, 1) := by decide +kernel
theorem dX10_write_62 : decode cX10_write 62 = .ok (.iload_n 2, 1) := by decide +kernel
theorem dX10_write_63 : decode cX10_write 63 = .ok (.invokevirtual 220, 3) := by decide +kernel
theorem dX10_write_66 : decode cX10_write 66 = .ok (.istore_n 3, 1) := by decide +kernel
theorem dX10_write_67 : decode cX10_write 67 = .ok (.iload_n 3, 1) := by decide +kernel
theorem dX10_write_68 : decode cX10_write 68 = .ok (.bipush (-4), 2) := by decide +kernel
theorem dX10_write_70 : decode cX10_write 70 = .ok (.if_icmp .ne 16, 3) := by decide +kernel
theorem dX10_write_73 : decode cX10_write 73 = .ok (.aload_n 0, 1) := by decide +kernel
theorem dX10_write_74 : decode cX10_write 74 = .ok (.getfield 85, 3) := by decide +kernel
theorem dX10_write_77 : decode cX10_write 77 = .ok (.bipush 46, 2) := by decide +kernel
theorem dX10_write_79 : decode cX10_write 79 = .ok (.invokevirtual 302, 3) := by decide +kernel
theorem dX10_write_82 : decode cX10_write 82 = .ok (.pop, 1) := by decide +kernel
theorem dX10_write_83 : decode cX10_write 83 = .ok (.goto 12, 3) := by decide +kernel
theorem dX10_write_86 : decode cX10_write 86 = .ok (.aload_n 0, 1) := by decide +kernel
theorem dX10_write_87 : decode cX10_write 87 = .ok (.getfield 85, 3) := by decide +kernel
theorem dX10_write_90 : decode cX10_write 90 = .ok (.iload_n 3, 1) := by decide +kernel
theorem dX10_write_91 : decode cX10_write 91 = .ok (.invokevirtual 298, 3) := by decide +kernel
theorem dX10_write_94 : decode cX10_write 94 = .ok (.pop, 1) := by decide +kernel
theorem dX10_write_95 : decode cX10_write 95 = .ok (.iinc 2 1, 3) := by decide +kernel
theorem dX10_write_98 : decode cX10_write 98 = .ok (.goto (-61), 3) := by decide +kernel
theorem dX10_write_101 : decode cX10_write 101 = .ok (.aload_n 0, 1) := by decide +kernel
theorem dX10_write_102 : decode cX10_write 102 = .ok (.getfield 85, 3) := by decide +kernel
theorem dX10_write_105 : decode cX10_write 105 = .ok (.bipush 93, 2) := by decide +kernel
theorem dX10_write_107 : decode cX10_write 107 = .ok (.invokevirtual 302, 3) := by decide +kernel
theorem dX10_write_110 : decode cX10_write 110 = .ok (.pop, 1) := by decide +kernel
theorem dX10_write_111 : decode cX10_write 111 = .ok (.aload_n 0, 1) := by decide +kernel
theorem dX10_write_112 : decode cX10_write 112 = .ok (.getfield 10, 3) := by decide +kernel
theorem dX10_write_115 : decode cX10_write 115 = .ok (.iload_n 1, 1) := by decide +kernel
theorem dX10_write_116 : decode cX10_write 116 = .ok (.bipush 6, 2) := by decide +kernel
theorem dX10_write_118 : decode cX10_write 118 = .ok (.invokevirtual 220, 3) := by decide +kernel
theorem dX10_write_121 : decode cX10_write 121 = .ok (.istore_n 2, 1) := by decide +kernel
theorem dX10_write_122 : decode cX10_write 122 = .ok (.iload_n 2, 1) := by decide +kernel
theorem dX10_write_123 : decode cX10_write 123 = .ok (.bipush (-4), 2) := by decide +kernel
theorem dX10_write_125 : decode cX10_write 125 = .ok (.if_icmp .eq 17, 3) := by decide +kernel
theorem dX10_write_128 : decode cX10_write 128 = .ok (.aload_n 0, 1) := by decide +kernel
theorem dX10_write_129 : decode cX10_write 129 = .ok (.getfield 85, 3) := by decide +kernel
theorem dX10_write_132 : decode cX10_write 132 = .ok (.bipush 94, 2) := by decide +kernel
theorem dX10_write_134 : decode cX10_write 134 = .ok (.invokevirtual 302, 3) := by decide +kernel
theorem dX10_write_137 : decode cX10_write 137 = .ok (.iload_n 2, 1) := by decide +kernel
theorem dX10_write_138 : decode cX10_write 138 = .ok (.invokevirtual 298, 3) := by decide +kernel
theorem dX10_write_141 : decode cX10_write 141 = .ok (.pop, 1) := by decide +kernel
theorem dX10_write_142 : decode cX10_write 142 = .ok (.aload_n 0, 1) := by decide +kernel
theorem dX10_write_143 : decode cX10_write 143 = .ok (.getfield 85, 3) := by decide +kernel
theorem dX10_write_146 : decode cX10_write 146 = .ok (.invokevirtual 305, 3) := by decide +kernel
theorem dX10_write_149 : decode cX10_write 149 = .ok (.ireturn, 1) := by decide +kernel
set_option maxRecDepth 20000 in
theorem ggX10_writeRoads_J4_setLength_d00df : GoodIn wsX10_writeRoads wsJ4_setLength_d00df := goodIn_r _ [11, 12, 13, 14, 15, 16, 17, 18, 19, 20, 21, 22, 23, 24, 25, 26, 27, 28, 29, 30, 31, 32, 33, 34, 35, 36, 37, 38, 39, 40, 41, 42, 43, 44, 45, 46, 47, 48, 49, 50, 51, 52, 53, 54, 55, 56, 57, 58, 59, 60, 61, 62, 63, 64, 65, 66, 67, 68, 69, 70, 71, 72, 73, 74, 75, 76, 77, 78, 79, 80, 81, 82, 83, 216, 217, 218, 219] (by decide +kernel) (by decide +kernel)
set_option maxRecDepth 20000 in
theorem gX10_writeRoads_J4_setLength_d00df : GoodIn wsX10_writeRoads (wsV RX10 294 RJ4 yJ4_setLength_d00df wsJ4_setLength_d00df) := goodIn_app (goodIn_of _ (by decide +kernel)) ggX10_writeRoads_J4_setLength_d00df
set_option maxRecDepth 20000 in
theorem ggX10_writeRoads_J4_append_cf468 : GoodIn wsX10_writeRoads wsJ4_append_cf468 := goodIn_r _ [87, 88, 89, 14, 90, 16, 91, 18, 19, 21, 22, 23, 24, 25, 26, 27, 28, 29, 30, 31, 32, 33, 34, 35, 36, 37, 38, 39, 40, 41, 42, 43, 44, 45, 46, 47, 48, 49, 50, 51, 52, 53, 54, 55, 56, 57, 58, 59, 60, 61, 62, 63, 64, 65, 66, 67, 68, 92, 93, 71, 94, 95, 96, 97, 98, 99, 100, 101, 81, 102, 103, 104, 105, 106, 107, 108, 109, 110, 111, 112, 113, 114, 115, 116, 117, 118, 119, 120, 121, 122, 123, 124, 125, 126, 127, 128, 129, 130, 131, 132, 133, 134, 135, 136, 137, 138, 139, 140, 141, 142, 143, 144, 145, 216, 217, 218, 219] (by decide +kernel) (by decide +kernel)
set_option maxRecDepth 20000 in
theorem gX10_writeRoads_J4_append_cf468 : GoodIn wsX10_writeRoads (wsV RX10 302 RJ4 yJ4_append_cf468 wsJ4_append_cf468) := goodIn_app (goodIn_of _ (by decide +kernel)) ggX10_writeRoads_J4_append_cf468
set_option maxRecDepth 20000 in
theorem ggX10_writeRoads_J4_append_bf812 : GoodIn wsX10_writeRoads wsJ4_append_bf812 := goodIn_r _ [149, 150, 151, 14, 152, 16, 153, 18, 19, 154, 155, 156, 157, 21, 22, 23, 24, 25, 26, 27, 28, 29, 30, 31, 32, 33, 34, 35, 36, 37, 38, 39, 40, 41, 42, 43, 44, 45, 46, 47, 48, 49, 50, 51, 52, 53, 54, 55, 56, 57, 58, 59, 60, 61, 62, 63, 64, 65, 66, 67, 68, 158, 159, 160, 161, 162, 163, 164, 81, 165, 131, 166, 167, 168, 116, 117, 118, 169, 170, 121, 171, 123, 172, 173, 126, 174, 175, 176, 177, 178, 179, 128, 129, 130, 132, 133, 216, 217, 218, 219] (by decide +kernel) (by decide +kernel)
set_option maxRecDepth 20000 in
theorem gX10_writeRoads_J4_append_bf812 : GoodIn wsX10_writeRoads (wsV RX10 298 RJ4 yJ4_append_bf812 wsJ4_append_bf812) := goodIn_app (goodIn_of _ (by decide +kernel)) ggX10_writeRoads_J4_append_bf812
set_option maxRecDepth 20000 in
theorem ggX10_writeRoads_J4_length_8abf5 : GoodIn wsX10_writeRoads wsJ4_length_8abf5 := goodIn_r _ [183, 184, 185, 14, 186, 16, 187, 18, 216, 217, 218, 219] (by decide +kernel) (by decide +kernel)
set_option maxRecDepth 20000 in
theorem gX10_writeRoads_J4_length_8abf5 : GoodIn wsX10_writeRoads (wsV RX10 305 RJ4 yJ4_length_8abf5 wsJ4_length_8abf5) := goodIn_app (goodIn_of _ (by decide +kernel)) ggX10_writeRoads_J4_length_8abf5
theorem dX10_writeRoads_0 : decode cX10_writeRoads 0 = .ok (.aload_n 0, 1) := by decide +kernel
theorem dX10_writeRoads_1 : decode cX10_writeRoads 1 = .ok (.getfield 85, 3) := by decide +kernel
theorem dX10_writeRoads_4 : decode cX10_writeRoads 4 = .ok (.iconst 0, 1) := by decide +kernel
theorem dX10_writeRoads_5 : decode cX10_writeRoads 5 = .ok (.invokevirtual 294, 3) := by decide +kernel
theorem dX10_writeRoads_8 : decode cX10_writeRoads 8 = .ok (.iconst 0, 1) := by decide +kernel
theorem dX10_writeRoads_9 : decode cX10_writeRoads 9 = .ok (.istore_n 1, 1) := by decide +kernel
theorem dX10_writeRoads_10 : decode cX10_writeRoads 10 = .ok (.iload_n 1, 1) := by decide +kernel
theorem dX10_writeRoads_11 : decode cX10_writeRoads 11 = .ok (.aload_n 0, 1) := by decide +kernel
theorem dX10_writeRoads_12 : decode cX10_writeRoads 12 = .ok (.getfield 10, 3) := by decide +kernel
theorem dX10_writeRoads_15 : decode cX10_writeRoads 15 = .ok (.getfield 278, 3) := by decide +kernel
theorem dX10_writeRoads_18 : decode cX10_writeRoads 18 = .ok (.if_icmp .ge 79, 3) := by decide +kernel
theorem dX10_writeRoads_21 : decode cX10_writeRoads 21 = .ok (.iload_n 1, 1) := by decide +kernel
theorem dX10_writeRoads_22 : decode cX10_writeRoads 22 = .ok (.ifCond .le 13, 3) := by decide +kernel
theorem dX10_writeRoads_25 : decode cX10_writeRoads 25 = .ok (.aload_n 0, 1) := by decide +kernel
theorem dX10_writeRoads_26 : decode cX10_writeRoads 26 = .ok (.getfield 85, 3) := by decide +kernel
theorem dX10_writeRoads_29 : decode cX10_writeRoads 29 = .ok (.bipush 32, 2) := by decide +kernel
theorem dX10_writeRoads_31 : decode cX10_writeRoads 31 = .ok (.invokevirtual 302, 3) := by decide +kernel
theorem dX10_writeRoads_34 : decode cX10_writeRoads 34 = .ok (.pop, 1) := by decide +kernel
theorem dX10_writeRoads_35 : decode cX10_writeRoads 35 = .ok (.aload_n 0, 1) := by decide +kernel
theorem dX10_writeRoads_36 : decode cX10_writeRoads 36 = .ok (.getfield 85, 3) := by decide +kernel
theorem dX10_writeRoads_39 : decode cX10_writeRoads 39 = .ok (.aload_n 0, 1) := by decide +kernel
theorem dX10_writeRoads_40 : decode cX10_writeRoads 40 = .ok (.getfield 10, 3) := by decide +kernel
theorem dX10_writeRoads_43 : decode cX10_writeRoads 43 = .ok (.getfield 238, 3) := by decide +kernel
theorem dX10_writeRoads_46 : decode cX10_writeRoads 46 = .ok (.iload_n 1, 1) := by decide +kernel
theorem dX10_writeRoads_47 : decode cX10_writeRoads 47 = .ok (.iaload, 1) := by decide +kernel
theorem dX10_writeRoads_48 : decode cX10_writeRoads 48 = .ok (.invokevirtual 298, 3) := by decide +kernel
theorem dX10_writeRoads_51 : decode cX10_writeRoads 51 = .ok (.bipush 42, 2) := by decide +kernel
theorem dX10_writeRoads_53 : decode cX10_writeRoads 53 = .ok (.invokevirtual 302, 3) := by decide +kernel
theorem dX10_writeRoads_56 : decode cX10_writeRoads 56 = .ok (.aload_n 0, 1) := by decide +kernel
theorem dX10_writeRoads_57 : decode cX10_writeRoads 57 = .ok (.getfield 10, 3) := by decide +kernel
theorem dX10_writeRoads_60 : decode cX10_writeRoads 60 = .ok (.getfield 241, 3) := by decide +kernel
theorem dX10_writeRoads_63 : decode cX10_writeRoads 63 = .ok (.iload_n 1, 1) := by decide +kernel
theorem dX10_writeRoads_64 : decode cX10_writeRoads 64 = .ok (.iaload, 1) := by decide +kernel
theorem dX10_writeRoads_65 : decode cX10_writeRoads 65 = .ok (.invokevirtual 298, 3) := by decide +kernel
theorem dX10_writeRoads_68 : decode cX10_writeRoads 68 = .ok (.pop, 1) := by decide +kernel
theorem dX10_writeRoads_69 : decode cX10_writeRoads 69 = .ok (.aload_n 0, 1) := by decide +kernel
theorem dX10_writeRoads_70 : decode cX10_writeRoads 70 = .ok (.getfield 85, 3) := by decide +kernel
theorem dX10_writeRoads_73 : decode cX10_writeRoads 73 = .ok (.bipush 58, 2) := by decide +kernel
theorem dX10_writeRoads_75 : decode cX10_writeRoads 75 = .ok (.invokevirtual 302, 3) := by decide +kernel
theorem dX10_writeRoads_78 : decode cX10_writeRoads 78 = .ok (.aload_n 0, 1) := by decide +kernel
theorem dX10_writeRoads_79 : decode cX10_writeRoads 79 = .ok (.getfield 10, 3) := by decide +kernel
theorem dX10_writeRoads_82 : decode cX10_writeRoads 82 = .ok (.getfield 244, 3) := by decide +kernel
theorem dX10_writeRoads_85 : decode cX10_writeRoads 85 = .ok (.iload_n 1, 1) := by decide +kernel
theorem dX10_writeRoads_86 : decode cX10_writeRoads 86 = .ok (.iaload, 1) := by decide +kernel
theorem dX10_writeRoads_87 : decode cX10_writeRoads 87 = .ok (.invokevirtual 298, 3) := by decide +kernel
theorem dX10_writeRoads_90 : decode cX10_writeRoads 90 = .ok (.pop, 1) := by decide +kernel
theorem dX10_writeRoads_91 : decode cX10_writeRoads 91 = .ok (.iinc 1 1, 3) := by decide +kernel
theorem dX10_writeRoads_94 : decode cX10_writeRoads 94 = .ok (.goto (-84), 3) := by decide +kernel
theorem dX10_writeRoads_97 : decode cX10_writeRoads 97 = .ok (.aload_n 0, 1) := by decide +kernel
theorem dX10_writeRoads_98 : decode cX10_writeRoads 98 = .ok (.getfield 85, 3) := by decide +kernel
theorem dX10_writeRoads_101 : decode cX10_writeRoads 101 = .ok (.invokevirtual 305, 3) := by decide +kernel
theorem dX10_writeRoads_104 : decode cX10_writeRoads 104 = .ok (.ireturn, 1) := by decide +kernel
set_option maxRecDepth 20000 in
theorem ggX10_written_J4_length_8abf5 : GoodIn wsX10_written wsJ4_length_8abf5 := goodIn_r _ [6, 7, 8, 9, 10, 11, 12, 13, 59, 60, 61, 62] (by decide +kernel) (by decide +kernel)
set_option maxRecDepth 20000 in
theorem gX10_written_J4_length_8abf5 : GoodIn wsX10_written (wsV RX10 305 RJ4 yJ4_length_8abf5 wsJ4_length_8abf5) := goodIn_app (goodIn_of _ (by decide +kernel)) ggX10_written_J4_length_8abf5
set_option maxRecDepth 20000 in
theorem ggX10_written_J4_charAt_5068e : GoodIn wsX10_written wsJ4_charAt_5068e := goodIn_r _ [17, 18, 19, 9, 20, 11, 21, 22, 23, 13, 24, 25, 26, 27, 28, 29, 30, 31, 32, 33, 34, 35, 36, 37, 38, 39, 40, 41, 42, 43, 44, 45, 46, 59, 60, 61, 62] (by decide +kernel) (by decide +kernel)
set_option maxRecDepth 20000 in
theorem gX10_written_J4_charAt_5068e : GoodIn wsX10_written (wsV RX10 308 RJ4 yJ4_charAt_5068e wsJ4_charAt_5068e) := goodIn_app (goodIn_of _ (by decide +kernel)) ggX10_written_J4_charAt_5068e
theorem dX10_written_0 : decode cX10_written 0 = .ok (.iload_n 1, 1) := by decide +kernel
theorem dX10_written_1 : decode cX10_written 1 = .ok (.ifCond .lt 25, 3) := by decide +kernel
theorem dX10_written_4 : decode cX10_written 4 = .ok (.iload_n 1, 1) := by decide +kernel
theorem dX10_written_5 : decode cX10_written 5 = .ok (.aload_n 0, 1) := by decide +kernel
theorem dX10_written_6 : decode cX10_written 6 = .ok (.getfield 85, 3) := by decide +kernel
theorem dX10_written_9 : decode cX10_written 9 = .ok (.invokevirtual 305, 3) := by decide +kernel
theorem dX10_written_12 : decode cX10_written 12 = .ok (.if_icmp .ge 14, 3) := by decide +kernel
theorem dX10_written_15 : decode cX10_written 15 = .ok (.aload_n 0, 1) := by decide +kernel
theorem dX10_written_16 : decode cX10_written 16 = .ok (.getfield 85, 3) := by decide +kernel
theorem dX10_written_19 : decode cX10_written 19 = .ok (.iload_n 1, 1) := by decide +kernel
theorem dX10_written_20 : decode cX10_written 20 = .ok (.invokevirtual 308, 3) := by decide +kernel
theorem dX10_written_23 : decode cX10_written 23 = .ok (.goto 4, 3) := by decide +kernel
theorem dX10_written_26 : decode cX10_written 26 = .ok (.iconst (-1), 1) := by decide +kernel
theorem dX10_written_27 : decode cX10_written 27 = .ok (.ireturn, 1) := by decide +kernel
set_option maxRecDepth 20000 in
theorem ggX10_isWell_X10_isCartWell : GoodIn wsX10_isWell wsX10_isCartWell := goodIn_r _ [7, 8, 9, 1, 10, 11, 12, 13, 14, 15, 16, 17, 18, 19, 20, 21, 22, 23, 24, 25, 26, 27, 28, 29, 30, 31, 32, 33, 34, 35, 36, 37, 38, 39, 40, 41, 42, 43, 44, 45, 46, 47, 48, 49, 50, 51, 52, 53, 54, 55, 56, 57, 58, 59, 60, 61, 62, 63, 64, 65, 66, 67, 68, 69, 70, 71, 72, 73, 74, 75, 76, 77, 78, 79, 80, 81, 82, 83, 84, 85, 86, 87, 88, 89, 99, 100, 101, 102, 103, 104, 105, 106, 107, 108, 109, 110, 127, 111, 112, 113, 114, 115, 116, 117, 118, 119, 120, 121, 122, 123, 124, 125, 126, 128, 129, 130, 131, 132, 133] (by decide +kernel) (by decide +kernel)
set_option maxRecDepth 20000 in
theorem gX10_isWell_X10_isCartWell : GoodIn wsX10_isWell (wsV RX10 315 RX10 yX10_isCartWell wsX10_isCartWell) := goodIn_app (goodIn_of _ (by decide +kernel)) ggX10_isWell_X10_isCartWell
set_option maxRecDepth 20000 in
theorem ggX10_isWell_X10_isAnyThingTwice : GoodIn wsX10_isWell wsX10_isAnyThingTwice := goodIn_r _ [93, 1, 2, 94, 95, 96, 28, 97, 34, 35, 98, 99, 100, 101, 102, 103, 104, 105, 106, 107, 108, 109, 110, 111, 112, 113, 114, 115, 116, 117, 118, 119, 120, 121, 122, 123, 124, 125, 126] (by decide +kernel) (by decide +kernel)
set_option maxRecDepth 20000 in
theorem gX10_isWell_X10_isAnyThingTwice : GoodIn wsX10_isWell (wsV RX10 318 RX10 yX10_isAnyThingTwice wsX10_isAnyThingTwice) := goodIn_app (goodIn_of _ (by decide +kernel)) ggX10_isWell_X10_isAnyThingTwice
theorem dX10_isWell_0 : decode cX10_isWell 0 = .ok (.iconst 0, 1) := by decide +kernel
theorem dX10_isWell_1 : decode cX10_isWell 1 = .ok (.istore_n 1, 1) := by decide +kernel
theorem dX10_isWell_2 : decode cX10_isWell 2 = .ok (.iload_n 1, 1) := by decide +kernel
theorem dX10_isWell_3 : decode cX10_isWell 3 = .ok (.aload_n 0, 1) := by decide +kernel
theorem dX10_isWell_4 : decode cX10_isWell 4 = .ok (.getfield 10, 3) := by decide +kernel
theorem dX10_isWell_7 : decode cX10_isWell 7 = .ok (.getfield 312, 3) := by decide +kernel
theorem dX10_isWell_10 : decode cX10_isWell 10 = .ok (.if_icmp .ge 19, 3) := by decide +kernel
theorem dX10_isWell_13 : decode cX10_isWell 13 = .ok (.aload_n 0, 1) := by decide +kernel
theorem dX10_isWell_14 : decode cX10_isWell 14 = .ok (.iload_n 1, 1) := by decide +kernel
theorem dX10_isWell_15 : decode cX10_isWell 15 = .ok (.invokevirtual 315, 3) := by decide +kernel
theorem dX10_isWell_18 : decode cX10_isWell 18 = .ok (.ifCond .ne 5, 3) := by decide +kernel
theorem dX10_isWell_21 : decode cX10_isWell 21 = .ok (.iconst 0, 1) := by decide +kernel
theorem dX10_isWell_22 : decode cX10_isWell 22 = .ok (.ireturn, 1) := by decide +kernel
theorem dX10_isWell_23 : decode cX10_isWell 23 = .ok (.iinc 1 1, 3) := by decide +kernel
theorem dX10_isWell_26 : decode cX10_isWell 26 = .ok (.goto (-24), 3) := by decide +kernel
theorem dX10_isWell_29 : decode cX10_isWell 29 = .ok (.aload_n 0, 1) := by decide +kernel
theorem dX10_isWell_30 : decode cX10_isWell 30 = .ok (.invokevirtual 318, 3) := by decide +kernel
theorem dX10_isWell_33 : decode cX10_isWell 33 = .ok (.ifCond .eq 7, 3) := by decide +kernel
theorem dX10_isWell_36 : decode cX10_isWell 36 = .ok (.iconst 0, 1) := by decide +kernel
theorem dX10_isWell_37 : decode cX10_isWell 37 = .ok (.goto 4, 3) := by decide +kernel
theorem dX10_isWell_40 : decode cX10_isWell 40 = .ok (.iconst 1, 1) := by decide +kernel
theorem dX10_isWell_41 : decode cX10_isWell 41 = .ok (.ireturn, 1) := by decide +kernel
set_option maxRecDepth 20000 in
theorem ggX10_isCartWell_X7_tenthsByThings : GoodIn wsX10_isCartWell wsX7_tenthsByThings := goodIn_r _ [8, 9, 10, 11, 12, 13, 14, 96, 97, 98, 99, 100, 101, 102, 103, 104, 105, 106, 107, 108, 109, 110, 111, 112] (by decide +kernel) (by decide +kernel)
set_option maxRecDepth 20000 in
theorem gX10_isCartWell_X7_tenthsByThings : GoodIn wsX10_isCartWell (wsV RX10 250 RX7 yX7_tenthsByThings wsX7_tenthsByThings) := goodIn_app (goodIn_of _ (by decide +kernel)) ggX10_isCartWell_X7_tenthsByThings
set_option maxRecDepth 20000 in
theorem ggX10_isCartWell_X7_tenthsByOther : GoodIn wsX10_isCartWell wsX7_tenthsByOther := goodIn_r _ [18, 9, 19, 20, 21, 22, 23, 24, 25, 26, 27, 28, 29, 30, 31, 32, 5, 6, 7, 8, 10, 11, 12, 13, 14, 96, 97, 98, 99, 100, 101, 102, 103, 104, 105, 106, 107, 108, 109, 110, 111, 112] (by decide +kernel) (by decide +kernel)
set_option maxRecDepth 20000 in
theorem gX10_isCartWell_X7_tenthsByOther : GoodIn wsX10_isCartWell (wsV RX10 254 RX7 yX7_tenthsByOther wsX7_tenthsByOther) := goodIn_app (goodIn_of _ (by decide +kernel)) ggX10_isCartWell_X7_tenthsByOther
set_option maxRecDepth 20000 in
theorem ggX10_isCartWell_X1_leastByWays : GoodIn wsX10_isCartWell wsX1_leastByWays := goodIn_r _ [37, 38, 39, 40, 41, 42, 36, 43, 44, 45, 46, 47, 48, 49, 50, 51, 52, 53, 54, 55, 56, 57, 58, 59, 113, 114, 115, 116, 117, 118, 97, 98, 99, 100, 101, 102, 103, 104, 105, 106, 107, 108, 109, 110, 111, 112] (by decide +kernel) (by decide +kernel)
set_option maxRecDepth 20000 in
theorem gX10_isCartWell_X1_leastByWays : GoodIn wsX10_isCartWell (wsV RX10 269 RX1 yX1_leastByWays wsX1_leastByWays) := goodIn_app (goodIn_of _ (by decide +kernel)) ggX10_isCartWell_X1_leastByWays
set_option maxRecDepth 20000 in
theorem ggX10_isCartWell_X1_leastBySets : GoodIn wsX10_isCartWell wsX1_leastBySets := goodIn_r _ [63, 39, 64, 65, 66, 40, 41, 42, 36, 43, 44, 45, 46, 47, 38, 48, 67, 68, 69, 70, 71, 72, 73, 74, 75, 76, 77, 78, 56, 52, 53, 54, 55, 57, 58, 59, 79, 80, 81, 82, 113, 114, 115, 116, 117, 118, 97, 98, 99, 100, 101, 102, 103, 104, 105, 106, 107, 108, 109, 110, 111, 112] (by decide +kernel) (by decide +kernel)
set_option maxRecDepth 20000 in
theorem gX10_isCartWell_X1_leastBySets : GoodIn wsX10_isCartWell (wsV RX10 272 RX1 yX1_leastBySets wsX1_leastBySets) := goodIn_app (goodIn_of _ (by decide +kernel)) ggX10_isCartWell_X1_leastBySets
set_option maxRecDepth 20000 in
theorem ggX10_isCartWell_X9_weightOn : GoodIn wsX10_isCartWell wsX9_weightOn := goodIn_r _ [27, 28, 29, 30, 31, 97, 98, 99, 100, 101, 102, 103, 104, 105, 106, 107, 108, 109, 110, 111, 112] (by decide +kernel) (by decide +kernel)
set_option maxRecDepth 20000 in
theorem gX10_isCartWell_X9_weightOn : GoodIn wsX10_isCartWell (wsV RX10 217 RX9 yX9_weightOn wsX9_weightOn) := goodIn_app (goodIn_of _ (by decide +kernel)) ggX10_isCartWell_X9_weightOn
theorem dX10_isCartWell_0 : decode cX10_isCartWell 0 = .ok (.aload_n 0, 1) := by decide +kernel
theorem dX10_isCartWell_1 : decode cX10_isCartWell 1 = .ok (.getfield 42, 3) := by decide +kernel
theorem dX10_isCartWell_4 : decode cX10_isCartWell 4 = .ok (.iload_n 1, 1) := by decide +kernel
theorem dX10_isCartWell_5 : decode cX10_isCartWell 5 = .ok (.iconst 0, 1) := by decide +kernel
theorem dX10_isCartWell_6 : decode cX10_isCartWell 6 = .ok (.invokevirtual 250, 3) := by decide +kernel
theorem dX10_isCartWell_9 : decode cX10_isCartWell 9 = .ok (.aload_n 0, 1) := by decide +kernel
theorem dX10_isCartWell_10 : decode cX10_isCartWell 10 = .ok (.getfield 42, 3) := by decide +kernel
theorem dX10_isCartWell_13 : decode cX10_isCartWell 13 = .ok (.iload_n 1, 1) := by decide +kernel
theorem dX10_isCartWell_14 : decode cX10_isCartWell 14 = .ok (.iconst 0, 1) := by decide +kernel
theorem dX10_isCartWell_15 : decode cX10_isCartWell 15 = .ok (.invokevirtual 254, 3) := by decide +kernel
theorem dX10_isCartWell_18 : decode cX10_isCartWell 18 = .ok (.if_icmp .ne 68, 3) := by decide +kernel
theorem dX10_isCartWell_21 : decode cX10_isCartWell 21 = .ok (.aload_n 0, 1) := by decide +kernel
theorem dX10_isCartWell_22 : decode cX10_isCartWell 22 = .ok (.getfield 42, 3) := by decide +kernel
theorem dX10_isCartWell_25 : decode cX10_isCartWell 25 = .ok (.iload_n 1, 1) := by decide +kernel
theorem dX10_isCartWell_26 : decode cX10_isCartWell 26 = .ok (.iconst 1, 1) := by decide +kernel
theorem dX10_isCartWell_27 : decode cX10_isCartWell 27 = .ok (.invokevirtual 250, 3) := by decide +kernel
theorem dX10_isCartWell_30 : decode cX10_isCartWell 30 = .ok (.aload_n 0, 1) := by decide +kernel
theorem dX10_isCartWell_31 : decode cX10_isCartWell 31 = .ok (.getfield 42, 3) := by decide +kernel
theorem dX10_isCartWell_34 : decode cX10_isCartWell 34 = .ok (.iload_n 1, 1) := by decide +kernel
theorem dX10_isCartWell_35 : decode cX10_isCartWell 35 = .ok (.iconst 1, 1) := by decide +kernel
theorem dX10_isCartWell_36 : decode cX10_isCartWell 36 = .ok (.invokevirtual 254, 3) := by decide +kernel
theorem dX10_isCartWell_39 : decode cX10_isCartWell 39 = .ok (.if_icmp .ne 47, 3) := by decide +kernel
theorem dX10_isCartWell_42 : decode cX10_isCartWell 42 = .ok (.aload_n 0, 1) := by decide +kernel
theorem dX10_isCartWell_43 : decode cX10_isCartWell 43 = .ok (.getfield 58, 3) := by decide +kernel
theorem dX10_isCartWell_46 : decode cX10_isCartWell 46 = .ok (.iload_n 1, 1) := by decide +kernel
theorem dX10_isCartWell_47 : decode cX10_isCartWell 47 = .ok (.invokevirtual 269, 3) := by decide +kernel
theorem dX10_isCartWell_50 : decode cX10_isCartWell 50 = .ok (.aload_n 0, 1) := by decide +kernel
theorem dX10_isCartWell_51 : decode cX10_isCartWell 51 = .ok (.getfield 58, 3) := by decide +kernel
theorem dX10_isCartWell_54 : decode cX10_isCartWell 54 = .ok (.iload_n 1, 1) := by decide +kernel
theorem dX10_isCartWell_55 : decode cX10_isCartWell 55 = .ok (.invokevirtual 272, 3) := by decide +kernel
theorem dX10_isCartWell_58 : decode cX10_isCartWell 58 = .ok (.if_icmp .ne 28, 3) := by decide +kernel
theorem dX10_isCartWell_61 : decode cX10_isCartWell 61 = .ok (.aload_n 0, 1) := by decide +kernel
theorem dX10_isCartWell_62 : decode cX10_isCartWell 62 = .ok (.getfield 10, 3) := by decide +kernel
theorem dX10_isCartWell_65 : decode cX10_isCartWell 65 = .ok (.iload_n 1, 1) := by decide +kernel
theorem dX10_isCartWell_66 : decode cX10_isCartWell 66 = .ok (.iconst 1, 1) := by decide +kernel
theorem dX10_isCartWell_67 : decode cX10_isCartWell 67 = .ok (.invokevirtual 217, 3) := by decide +kernel
theorem dX10_isCartWell_70 : decode cX10_isCartWell 70 = .ok (.aload_n 0, 1) := by decide +kernel
theorem dX10_isCartWell_71 : decode cX10_isCartWell 71 = .ok (.getfield 10, 3) := by decide +kernel
theorem dX10_isCartWell_74 : decode cX10_isCartWell 74 = .ok (.iload_n 1, 1) := by decide +kernel
theorem dX10_isCartWell_75 : decode cX10_isCartWell 75 = .ok (.iconst 0, 1) := by decide +kernel
theorem dX10_isCartWell_76 : decode cX10_isCartWell 76 = .ok (.invokevirtual 217, 3) := by decide +kernel
theorem dX10_isCartWell_79 : decode cX10_isCartWell 79 = .ok (.if_icmp .gt 7, 3) := by decide +kernel
theorem dX10_isCartWell_82 : decode cX10_isCartWell 82 = .ok (.iconst 1, 1) := by decide +kernel
theorem dX10_isCartWell_83 : decode cX10_isCartWell 83 = .ok (.goto 4, 3) := by decide +kernel
theorem dX10_isCartWell_86 : decode cX10_isCartWell 86 = .ok (.iconst 0, 1) := by decide +kernel
theorem dX10_isCartWell_87 : decode cX10_isCartWell 87 = .ok (.ireturn, 1) := by decide +kernel
set_option maxRecDepth 20000 in
theorem ggX10_isAnyThingTwice_X9_thingAt : GoodIn wsX10_isAnyThingTwice wsX9_thingAt := goodIn_r _ [7, 8, 9, 10, 23, 24, 25, 26, 27, 28, 29, 30, 31, 32, 33, 34, 35, 36, 37, 38] (by decide +kernel) (by decide +kernel)
set_option maxRecDepth 20000 in
theorem gX10_isAnyThingTwice_X9_thingAt : GoodIn wsX10_isAnyThingTwice (wsV RX10 220 RX9 yX9_thingAt wsX9_thingAt) := goodIn_app (goodIn_of _ (by decide +kernel)) ggX10_isAnyThingTwice_X9_thingAt
theorem dX10_isAnyThingTwice_0 : decode cX10_isAnyThingTwice 0 = .ok (.iconst 0, 1) := by decide +kernel
theorem dX10_isAnyThingTwice_1 : decode cX10_isAnyThingTwice 1 = .ok (.istore_n 1, 1) := by decide +kernel
theorem dX10_isAnyThingTwice_2 : decode cX10_isAnyThingTwice 2 = .ok (.iconst 0, 1) := by decide +kernel
theorem dX10_isAnyThingTwice_3 : decode cX10_isAnyThingTwice 3 = .ok (.istore_n 2, 1) := by decide +kernel
theorem dX10_isAnyThingTwice_4 : decode cX10_isAnyThingTwice 4 = .ok (.iload_n 2, 1) := by decide +kernel
theorem dX10_isAnyThingTwice_5 : decode cX10_isAnyThingTwice 5 = .ok (.aload_n 0, 1) := by decide +kernel
theorem dX10_isAnyThingTwice_6 : decode cX10_isAnyThingTwice 6 = .ok (.getfield 10, 3) := by decide +kernel
theorem dX10_isAnyThingTwice_9 : decode cX10_isAnyThingTwice 9 = .ok (.getfield 312, 3) := by decide +kernel
theorem dX10_isAnyThingTwice_12 : decode cX10_isAnyThingTwice 12 = .ok (.if_icmp .ge 59, 3) := by decide +kernel
theorem dX10_isAnyThingTwice_15 : decode cX10_isAnyThingTwice 15 = .ok (.iconst 0, 1) := by decide +kernel
theorem dX10_isAnyThingTwice_16 : decode cX10_isAnyThingTwice 16 = .ok (.istore_n 3, 1) := by decide +kernel
theorem dX10_isAnyThingTwice_17 : decode cX10_isAnyThingTwice 17 = .ok (.iload_n 3, 1) := by decide +kernel
theorem dX10_isAnyThingTwice_18 : decode cX10_isAnyThingTwice 18 = .ok (.bipush 6, 2) := by decide +kernel
theorem dX10_isAnyThingTwice_20 : decode cX10_isAnyThingTwice 20 = .ok (.if_icmp .gt 45, 3) := by decide +kernel
theorem dX10_isAnyThingTwice_23 : decode cX10_isAnyThingTwice 23 = .ok (.aload_n 0, 1) := by decide +kernel
theorem dX10_isAnyThingTwice_24 : decode cX10_isAnyThingTwice 24 = .ok (.getfield 10, 3) := by decide +kernel
theorem dX10_isAnyThingTwice_27 : decode cX10_isAnyThingTwice 27 = .ok (.iload_n 2, 1) := by decide +kernel
theorem dX10_isAnyThingTwice_28 : decode cX10_isAnyThingTwice 28 = .ok (.iload_n 3, 1) := by decide +kernel
theorem dX10_isAnyThingTwice_29 : decode cX10_isAnyThingTwice 29 = .ok (.invokevirtual 220, 3) := by decide +kernel
theorem dX10_isAnyThingTwice_32 : decode cX10_isAnyThingTwice 32 = .ok (.istore 4, 2) := by decide +kernel
theorem dX10_isAnyThingTwice_34 : decode cX10_isAnyThingTwice 34 = .ok (.iload 4, 2) := by decide +kernel
theorem dX10_isAnyThingTwice_36 : decode cX10_isAnyThingTwice 36 = .ok (.bipush (-4), 2) := by decide +kernel
theorem dX10_isAnyThingTwice_38 : decode cX10_isAnyThingTwice 38 = .ok (.if_icmp .eq 21, 3) := by decide +kernel
theorem dX10_isAnyThingTwice_41 : decode cX10_isAnyThingTwice 41 = .ok (.iload_n 1, 1) := by decide +kernel
theorem dX10_isAnyThingTwice_42 : decode cX10_isAnyThingTwice 42 = .ok (.iload 4, 2) := by decide +kernel
theorem dX10_isAnyThingTwice_44 : decode cX10_isAnyThingTwice 44 = .ok (.ishr, 1) := by decide +kernel
theorem dX10_isAnyThingTwice_45 : decode cX10_isAnyThingTwice 45 = .ok (.iconst 1, 1) := by decide +kernel
theorem dX10_isAnyThingTwice_46 : decode cX10_isAnyThingTwice 46 = .ok (.iand, 1) := by decide +kernel
theorem dX10_isAnyThingTwice_47 : decode cX10_isAnyThingTwice 47 = .ok (.ifCond .eq 5, 3) := by decide +kernel
theorem dX10_isAnyThingTwice_50 : decode cX10_isAnyThingTwice 50 = .ok (.iconst 1, 1) := by decide +kernel
theorem dX10_isAnyThingTwice_51 : decode cX10_isAnyThingTwice 51 = .ok (.ireturn, 1) := by decide +kernel
theorem dX10_isAnyThingTwice_52 : decode cX10_isAnyThingTwice 52 = .ok (.iload_n 1, 1) := by decide +kernel
theorem dX10_isAnyThingTwice_53 : decode cX10_isAnyThingTwice 53 = .ok (.iconst 1, 1) := by decide +kernel
theorem dX10_isAnyThingTwice_54 : decode cX10_isAnyThingTwice 54 = .ok (.iload 4, 2) := by decide +kernel
theorem dX10_isAnyThingTwice_56 : decode cX10_isAnyThingTwice 56 = .ok (.ishl, 1) := by decide +kernel
theorem dX10_isAnyThingTwice_57 : decode cX10_isAnyThingTwice 57 = .ok (.ior, 1) := by decide +kernel
theorem dX10_isAnyThingTwice_58 : decode cX10_isAnyThingTwice 58 = .ok (.istore_n 1, 1) := by decide +kernel
theorem dX10_isAnyThingTwice_59 : decode cX10_isAnyThingTwice 59 = .ok (.iinc 3 1, 3) := by decide +kernel
theorem dX10_isAnyThingTwice_62 : decode cX10_isAnyThingTwice 62 = .ok (.goto (-45), 3) := by decide +kernel
theorem dX10_isAnyThingTwice_65 : decode cX10_isAnyThingTwice 65 = .ok (.iinc 2 1, 3) := by decide +kernel
theorem dX10_isAnyThingTwice_68 : decode cX10_isAnyThingTwice 68 = .ok (.goto (-64), 3) := by decide +kernel
theorem dX10_isAnyThingTwice_71 : decode cX10_isAnyThingTwice 71 = .ok (.iconst 0, 1) := by decide +kernel
theorem dX10_isAnyThingTwice_72 : decode cX10_isAnyThingTwice 72 = .ok (.ireturn, 1) := by decide +kernel
theorem dX10_meanWeight_0 : decode cX10_meanWeight 0 = .ok (.aload_n 0, 1) := by decide +kernel
theorem dX10_meanWeight_1 : decode cX10_meanWeight 1 = .ok (.getfield 10, 3) := by decide +kernel
theorem dX10_meanWeight_4 : decode cX10_meanWeight 4 = .ok (.getfield 89, 3) := by decide +kernel
theorem dX10_meanWeight_7 : decode cX10_meanWeight 7 = .ok (.ifCond .gt 5, 3) := by decide +kernel
theorem dX10_meanWeight_10 : decode cX10_meanWeight 10 = .ok (.dconst 0, 1) := by decide +kernel
theorem dX10_meanWeight_11 : decode cX10_meanWeight 11 = .ok (.dreturn, 1) := by decide +kernel
theorem dX10_meanWeight_12 : decode cX10_meanWeight 12 = .ok (.iconst 0, 1) := by decide +kernel
theorem dX10_meanWeight_13 : decode cX10_meanWeight 13 = .ok (.istore_n 1, 1) := by decide +kernel
theorem dX10_meanWeight_14 : decode cX10_meanWeight 14 = .ok (.iconst 0, 1) := by decide +kernel
theorem dX10_meanWeight_15 : decode cX10_meanWeight 15 = .ok (.istore_n 2, 1) := by decide +kernel
theorem dX10_meanWeight_16 : decode cX10_meanWeight 16 = .ok (.iload_n 2, 1) := by decide +kernel
theorem dX10_meanWeight_17 : decode cX10_meanWeight 17 = .ok (.aload_n 0, 1) := by decide +kernel
theorem dX10_meanWeight_18 : decode cX10_meanWeight 18 = .ok (.getfield 10, 3) := by decide +kernel
theorem dX10_meanWeight_21 : decode cX10_meanWeight 21 = .ok (.getfield 89, 3) := by decide +kernel
theorem dX10_meanWeight_24 : decode cX10_meanWeight 24 = .ok (.if_icmp .ge 21, 3) := by decide +kernel
theorem dX10_meanWeight_27 : decode cX10_meanWeight 27 = .ok (.iload_n 1, 1) := by decide +kernel
theorem dX10_meanWeight_28 : decode cX10_meanWeight 28 = .ok (.aload_n 0, 1) := by decide +kernel
theorem dX10_meanWeight_29 : decode cX10_meanWeight 29 = .ok (.getfield 10, 3) := by decide +kernel
theorem dX10_meanWeight_32 : decode cX10_meanWeight 32 = .ok (.getfield 199, 3) := by decide +kernel
theorem dX10_meanWeight_35 : decode cX10_meanWeight 35 = .ok (.iload_n 2, 1) := by decide +kernel
theorem dX10_meanWeight_36 : decode cX10_meanWeight 36 = .ok (.iaload, 1) := by decide +kernel
theorem dX10_meanWeight_37 : decode cX10_meanWeight 37 = .ok (.iadd, 1) := by decide +kernel
theorem dX10_meanWeight_38 : decode cX10_meanWeight 38 = .ok (.istore_n 1, 1) := by decide +kernel
theorem dX10_meanWeight_39 : decode cX10_meanWeight 39 = .ok (.iinc 2 1, 3) := by decide +kernel
theorem dX10_meanWeight_42 : decode cX10_meanWeight 42 = .ok (.goto (-26), 3) := by decide +kernel
theorem dX10_meanWeight_45 : decode cX10_meanWeight 45 = .ok (.iload_n 1, 1) := by decide +kernel
theorem dX10_meanWeight_46 : decode cX10_meanWeight 46 = .ok (.i2d, 1) := by decide +kernel
theorem dX10_meanWeight_47 : decode cX10_meanWeight 47 = .ok (.aload_n 0, 1) := by decide +kernel
theorem dX10_meanWeight_48 : decode cX10_meanWeight 48 = .ok (.getfield 10, 3) := by decide +kernel
theorem dX10_meanWeight_51 : decode cX10_meanWeight 51 = .ok (.getfield 89, 3) := by decide +kernel
theorem dX10_meanWeight_54 : decode cX10_meanWeight 54 = .ok (.i2d, 1) := by decide +kernel
theorem dX10_meanWeight_55 : decode cX10_meanWeight 55 = .ok (.ddiv, 1) := by decide +kernel
theorem dX10_meanWeight_56 : decode cX10_meanWeight 56 = .ok (.dreturn, 1) := by decide +kernel
set_option maxRecDepth 20000 in
theorem ggX10_creakShare_X7_allCreakingAxles : GoodIn wsX10_creakShare wsX7_allCreakingAxles := goodIn_r _ [8, 9, 10, 11, 12, 13, 7, 14, 15, 16, 17, 18, 19, 20, 21, 22, 23, 24, 25, 26, 27, 28, 29, 30, 31, 32, 33, 62, 46, 47, 48, 49, 50, 51, 52, 53, 54, 55, 56, 57, 58, 59, 60, 61] (by decide +kernel) (by decide +kernel)
set_option maxRecDepth 20000 in
theorem gX10_creakShare_X7_allCreakingAxles : GoodIn wsX10_creakShare (wsV RX10 322 RX7 yX7_allCreakingAxles wsX7_allCreakingAxles) := goodIn_app (goodIn_of _ (by decide +kernel)) ggX10_creakShare_X7_allCreakingAxles
theorem dX10_creakShare_0 : decode cX10_creakShare 0 = .ok (.aload_n 0, 1) := by decide +kernel
theorem dX10_creakShare_1 : decode cX10_creakShare 1 = .ok (.getfield 10, 3) := by decide +kernel
theorem dX10_creakShare_4 : decode cX10_creakShare 4 = .ok (.getfield 312, 3) := by decide +kernel
theorem dX10_creakShare_7 : decode cX10_creakShare 7 = .ok (.ifCond .gt 5, 3) := by decide +kernel
theorem dX10_creakShare_10 : decode cX10_creakShare 10 = .ok (.fconst 0, 1) := by decide +kernel
theorem dX10_creakShare_11 : decode cX10_creakShare 11 = .ok (.freturn, 1) := by decide +kernel
theorem dX10_creakShare_12 : decode cX10_creakShare 12 = .ok (.aload_n 0, 1) := by decide +kernel
theorem dX10_creakShare_13 : decode cX10_creakShare 13 = .ok (.getfield 42, 3) := by decide +kernel
theorem dX10_creakShare_16 : decode cX10_creakShare 16 = .ok (.invokevirtual 322, 3) := by decide +kernel
theorem dX10_creakShare_19 : decode cX10_creakShare 19 = .ok (.i2f, 1) := by decide +kernel
theorem dX10_creakShare_20 : decode cX10_creakShare 20 = .ok (.iconst 2, 1) := by decide +kernel
theorem dX10_creakShare_21 : decode cX10_creakShare 21 = .ok (.aload_n 0, 1) := by decide +kernel
theorem dX10_creakShare_22 : decode cX10_creakShare 22 = .ok (.getfield 10, 3) := by decide +kernel
theorem dX10_creakShare_25 : decode cX10_creakShare 25 = .ok (.getfield 312, 3) := by decide +kernel
theorem dX10_creakShare_28 : decode cX10_creakShare 28 = .ok (.imul, 1) := by decide +kernel
theorem dX10_creakShare_29 : decode cX10_creakShare 29 = .ok (.i2f, 1) := by decide +kernel
theorem dX10_creakShare_30 : decode cX10_creakShare 30 = .ok (.fdiv, 1) := by decide +kernel
theorem dX10_creakShare_31 : decode cX10_creakShare 31 = .ok (.freturn, 1) := by decide +kernel
set_option maxRecDepth 20000 in
theorem ggX10_account_X9_thingsOfKind : GoodIn wsX10_account wsX9_thingsOfKind := goodIn_r _ [15, 16, 17, 104, 105, 106, 107, 108, 109, 110, 111, 112, 113, 114, 115, 116, 117, 118, 119] (by decide +kernel) (by decide +kernel)
set_option maxRecDepth 20000 in
theorem gX10_account_X9_thingsOfKind : GoodIn wsX10_account (wsV RX10 325 RX9 yX9_thingsOfKind wsX9_thingsOfKind) := goodIn_app (goodIn_of _ (by decide +kernel)) ggX10_account_X9_thingsOfKind
set_option maxRecDepth 20000 in
theorem ggX10_account_X9_thingsOnCarts : GoodIn wsX10_account wsX9_thingsOnCarts := goodIn_r _ [21, 16, 22, 104, 105, 106, 107, 108, 109, 110, 111, 112, 113, 114, 115, 116, 117, 118, 119] (by decide +kernel) (by decide +kernel)
set_option maxRecDepth 20000 in
theorem gX10_account_X9_thingsOnCarts : GoodIn wsX10_account (wsV RX10 328 RX9 yX9_thingsOnCarts wsX9_thingsOnCarts) := goodIn_app (goodIn_of _ (by decide +kernel)) ggX10_account_X9_thingsOnCarts
set_option maxRecDepth 20000 in
theorem ggX10_account_X9_weightOnCarts : GoodIn wsX10_account wsX9_weightOnCarts := goodIn_r _ [26, 27, 28, 29, 30, 14, 31, 32, 33, 34, 35, 16, 22, 17, 36, 104, 105, 106, 107, 108, 109, 110, 111, 112, 113, 114, 115, 116, 117, 118, 119] (by decide +kernel) (by decide +kernel)
set_option maxRecDepth 20000 in
theorem gX10_account_X9_weightOnCarts : GoodIn wsX10_account (wsV RX10 331 RX9 yX9_weightOnCarts wsX9_weightOnCarts) := goodIn_app (goodIn_of _ (by decide +kernel)) ggX10_account_X9_weightOnCarts
set_option maxRecDepth 20000 in
theorem ggX10_account_X7_allCreakingAxles : GoodIn wsX10_account wsX7_allCreakingAxles := goodIn_r _ [41, 42, 43, 44, 45, 46, 40, 47, 48, 49, 50, 51, 52, 53, 54, 55, 56, 57, 58, 59, 60, 61, 62, 63, 64, 65, 66, 128, 104, 105, 106, 107, 108, 109, 110, 111, 112, 113, 114, 115, 116, 117, 118, 119] (by decide +kernel) (by decide +kernel)
set_option maxRecDepth 20000 in
theorem gX10_account_X7_allCreakingAxles : GoodIn wsX10_account (wsV RX10 322 RX7 yX7_allCreakingAxles wsX7_allCreakingAxles) := goodIn_app (goodIn_of _ (by decide +kernel)) ggX10_account_X7_allCreakingAxles
set_option maxRecDepth 20000 in
theorem ggX10_account_X9_allWornOutAxles : GoodIn wsX10_account wsX9_allWornOutAxles := goodIn_r _ [70, 27, 71, 72, 73, 14, 74, 75, 76, 77, 78, 79, 80, 81, 82, 83, 84, 85, 86, 104, 105, 106, 107, 108, 109, 110, 111, 112, 113, 114, 115, 116, 117, 118, 119] (by decide +kernel) (by decide +kernel)
set_option maxRecDepth 20000 in
theorem gX10_account_X9_allWornOutAxles : GoodIn wsX10_account (wsV RX10 334 RX9 yX9_allWornOutAxles wsX9_allWornOutAxles) := goodIn_app (goodIn_of _ (by decide +kernel)) ggX10_account_X9_allWornOutAxles
set_option maxRecDepth 20000 in
theorem ggX10_account_X9_tripsSoFar : GoodIn wsX10_account wsX9_tripsSoFar := goodIn_r _ [90, 27, 91, 104, 105, 106, 107, 108, 109, 110, 111, 112, 113, 114, 115, 116, 117, 118, 119] (by decide +kernel) (by decide +kernel)
set_option maxRecDepth 20000 in
theorem gX10_account_X9_tripsSoFar : GoodIn wsX10_account (wsV RX10 337 RX9 yX9_tripsSoFar wsX9_tripsSoFar) := goodIn_app (goodIn_of _ (by decide +kernel)) ggX10_account_X9_tripsSoFar
theorem dX10_account_0 : decode cX10_account 0 = .ok (.iload_n 1, 1) := by decide +kernel
theorem dX10_account_1 : decode cX10_account 1 = .ok (.tableswitch 173 0 12 #[67, 75, 84, 93, 101, 109, 117, 125, 133, 141, 149, 157, 165], 67) := by decide +kernel
theorem dX10_account_68 : decode cX10_account 68 = .ok (.aload_n 0, 1) := by decide +kernel
theorem dX10_account_69 : decode cX10_account 69 = .ok (.getfield 10, 3) := by decide +kernel
theorem dX10_account_72 : decode cX10_account 72 = .ok (.getfield 89, 3) := by decide +kernel
theorem dX10_account_75 : decode cX10_account 75 = .ok (.ireturn, 1) := by decide +kernel
theorem dX10_account_76 : decode cX10_account 76 = .ok (.aload_n 0, 1) := by decide +kernel
theorem dX10_account_77 : decode cX10_account 77 = .ok (.getfield 10, 3) := by decide +kernel
theorem dX10_account_80 : decode cX10_account 80 = .ok (.iconst 0, 1) := by decide +kernel
theorem dX10_account_81 : decode cX10_account 81 = .ok (.invokevirtual 325, 3) := by decide +kernel
theorem dX10_account_84 : decode cX10_account 84 = .ok (.ireturn, 1) := by decide +kernel
theorem dX10_account_85 : decode cX10_account 85 = .ok (.aload_n 0, 1) := by decide +kernel
theorem dX10_account_86 : decode cX10_account 86 = .ok (.getfield 10, 3) := by decide +kernel
theorem dX10_account_89 : decode cX10_account 89 = .ok (.iconst 1, 1) := by decide +kernel
theorem dX10_account_90 : decode cX10_account 90 = .ok (.invokevirtual 325, 3) := by decide +kernel
theorem dX10_account_93 : decode cX10_account 93 = .ok (.ireturn, 1) := by decide +kernel
theorem dX10_account_94 : decode cX10_account 94 = .ok (.aload_n 0, 1) := by decide +kernel
theorem dX10_account_95 : decode cX10_account 95 = .ok (.getfield 10, 3) := by decide +kernel
theorem dX10_account_98 : decode cX10_account 98 = .ok (.invokevirtual 328, 3) := by decide +kernel
theorem dX10_account_101 : decode cX10_account 101 = .ok (.ireturn, 1) := by decide +kernel
theorem dX10_account_102 : decode cX10_account 102 = .ok (.aload_n 0, 1) := by decide +kernel
theorem dX10_account_103 : decode cX10_account 103 = .ok (.getfield 10, 3) := by decide +kernel
theorem dX10_account_106 : decode cX10_account 106 = .ok (.getfield 312, 3) := by decide +kernel
theorem dX10_account_109 : decode cX10_account 109 = .ok (.ireturn, 1) := by decide +kernel
theorem dX10_account_110 : decode cX10_account 110 = .ok (.aload_n 0, 1) := by decide +kernel
theorem dX10_account_111 : decode cX10_account 111 = .ok (.getfield 10, 3) := by decide +kernel
theorem dX10_account_114 : decode cX10_account 114 = .ok (.getfield 278, 3) := by decide +kernel
theorem dX10_account_117 : decode cX10_account 117 = .ok (.ireturn, 1) := by decide +kernel
theorem dX10_account_118 : decode cX10_account 118 = .ok (.aload_n 0, 1) := by decide +kernel
theorem dX10_account_119 : decode cX10_account 119 = .ok (.getfield 10, 3) := by decide +kernel
theorem dX10_account_122 : decode cX10_account 122 = .ok (.invokevirtual 331, 3) := by decide +kernel
theorem dX10_account_125 : decode cX10_account 125 = .ok (.ireturn, 1) := by decide +kernel
theorem dX10_account_126 : decode cX10_account 126 = .ok (.aload_n 0, 1) := by decide +kernel
theorem dX10_account_127 : decode cX10_account 127 = .ok (.getfield 42, 3) := by decide +kernel
theorem dX10_account_130 : decode cX10_account 130 = .ok (.invokevirtual 322, 3) := by decide +kernel
theorem dX10_account_133 : decode cX10_account 133 = .ok (.ireturn, 1) := by decide +kernel
theorem dX10_account_134 : decode cX10_account 134 = .ok (.aload_n 0, 1) := by decide +kernel
theorem dX10_account_135 : decode cX10_account 135 = .ok (.getfield 10, 3) := by decide +kernel
theorem dX10_account_138 : decode cX10_account 138 = .ok (.invokevirtual 334, 3) := by decide +kernel
theorem dX10_account_141 : decode cX10_account 141 = .ok (.ireturn, 1) := by decide +kernel
theorem dX10_account_142 : decode cX10_account 142 = .ok (.aload_n 0, 1) := by decide +kernel
theorem dX10_account_143 : decode cX10_account 143 = .ok (.getfield 10, 3) := by decide +kernel
theorem dX10_account_146 : decode cX10_account 146 = .ok (.invokevirtual 337, 3) := by decide +kernel
theorem dX10_account_149 : decode cX10_account 149 = .ok (.ireturn, 1) := by decide +kernel
theorem dX10_account_150 : decode cX10_account 150 = .ok (.aload_n 0, 1) := by decide +kernel
theorem dX10_account_151 : decode cX10_account 151 = .ok (.getfield 10, 3) := by decide +kernel
theorem dX10_account_154 : decode cX10_account 154 = .ok (.getfield 340, 3) := by decide +kernel
theorem dX10_account_157 : decode cX10_account 157 = .ok (.ireturn, 1) := by decide +kernel
theorem dX10_account_158 : decode cX10_account 158 = .ok (.aload_n 0, 1) := by decide +kernel
theorem dX10_account_159 : decode cX10_account 159 = .ok (.getfield 74, 3) := by decide +kernel
theorem dX10_account_162 : decode cX10_account 162 = .ok (.getfield 343, 3) := by decide +kernel
theorem dX10_account_165 : decode cX10_account 165 = .ok (.ireturn, 1) := by decide +kernel
theorem dX10_account_166 : decode cX10_account 166 = .ok (.aload_n 0, 1) := by decide +kernel
theorem dX10_account_167 : decode cX10_account 167 = .ok (.getfield 26, 3) := by decide +kernel
theorem dX10_account_170 : decode cX10_account 170 = .ok (.getfield 345, 3) := by decide +kernel
theorem dX10_account_173 : decode cX10_account 173 = .ok (.ireturn, 1) := by decide +kernel
theorem dX10_account_174 : decode cX10_account 174 = .ok (.bipush (-2), 2) := by decide +kernel
theorem dX10_account_176 : decode cX10_account 176 = .ok (.ireturn, 1) := by decide +kernel
set_option maxRecDepth 20000 in
theorem ggX10_undo_X3_stepBack : GoodIn wsX10_undo wsX3_stepBack := goodIn_r _ [7, 8, 9, 10, 11, 12, 13, 14, 15, 16, 17, 18, 19, 20, 21, 22, 23, 24, 25, 26, 27, 28, 29, 30, 31, 32, 33, 34, 35, 48, 49, 50, 51, 52, 53, 54, 55, 56, 57, 58, 59, 60, 61, 62, 63, 64, 65, 66] (by decide +kernel) (by decide +kernel)
set_option maxRecDepth 20000 in
theorem gX10_undo_X3_stepBack : GoodIn wsX10_undo (wsV RX10 348 RX3 yX3_stepBack wsX3_stepBack) := goodIn_app (goodIn_of _ (by decide +kernel)) ggX10_undo_X3_stepBack
theorem dX10_undo_0 : decode cX10_undo 0 = .ok (.aload_n 0, 1) := by decide +kernel
theorem dX10_undo_1 : decode cX10_undo 1 = .ok (.getfield 26, 3) := by decide +kernel
theorem dX10_undo_4 : decode cX10_undo 4 = .ok (.aload_n 0, 1) := by decide +kernel
theorem dX10_undo_5 : decode cX10_undo 5 = .ok (.getfield 10, 3) := by decide +kernel
theorem dX10_undo_8 : decode cX10_undo 8 = .ok (.invokevirtual 348, 3) := by decide +kernel
theorem dX10_undo_11 : decode cX10_undo 11 = .ok (.ireturn, 1) := by decide +kernel
set_option maxRecDepth 20000 in
theorem ggX10_save_X9_copyFrom : GoodIn wsX10_save wsX9_copyFrom := goodIn_r _ [9, 10, 11, 12, 13, 14, 15, 16, 17, 18, 19, 20, 21, 22, 23, 24, 25, 26, 27, 28, 29, 42, 43, 44, 45, 46, 47, 48, 49, 50, 51, 52, 53, 54, 55, 56, 57] (by decide +kernel) (by decide +kernel)
set_option maxRecDepth 20000 in
theorem gX10_save_X9_copyFrom : GoodIn wsX10_save (wsV RX10 352 RX9 yX9_copyFrom wsX9_copyFrom) := goodIn_app (goodIn_of _ (by decide +kernel)) ggX10_save_X9_copyFrom
theorem dX10_save_0 : decode cX10_save 0 = .ok (.aload_n 0, 1) := by decide +kernel
theorem dX10_save_1 : decode cX10_save 1 = .ok (.getfield 16, 3) := by decide +kernel
theorem dX10_save_4 : decode cX10_save 4 = .ok (.aload_n 0, 1) := by decide +kernel
theorem dX10_save_5 : decode cX10_save 5 = .ok (.getfield 10, 3) := by decide +kernel
theorem dX10_save_8 : decode cX10_save 8 = .ok (.invokevirtual 352, 3) := by decide +kernel
theorem dX10_save_11 : decode cX10_save 11 = .ok (.aload_n 0, 1) := by decide +kernel
theorem dX10_save_12 : decode cX10_save 12 = .ok (.iconst 1, 1) := by decide +kernel
theorem dX10_save_13 : decode cX10_save 13 = .ok (.putfield 19, 3) := by decide +kernel
theorem dX10_save_16 : decode cX10_save 16 = .ok (.aload_n 0, 1) := by decide +kernel
theorem dX10_save_17 : decode cX10_save 17 = .ok (.getfield 10, 3) := by decide +kernel
theorem dX10_save_20 : decode cX10_save 20 = .ok (.getfield 89, 3) := by decide +kernel
theorem dX10_save_23 : decode cX10_save 23 = .ok (.ireturn, 1) := by decide +kernel
set_option maxRecDepth 20000 in
theorem ggX10_restore_X9_copyFrom : GoodIn wsX10_restore wsX9_copyFrom := goodIn_r _ [10, 11, 12, 13, 14, 15, 16, 17, 18, 19, 20, 21, 22, 23, 24, 25, 26, 27, 28, 29, 30, 49, 50, 51, 52, 53, 54, 55, 56, 57, 58, 59, 60, 61, 62, 63, 64] (by decide +kernel) (by decide +kernel)
set_option maxRecDepth 20000 in
theorem gX10_restore_X9_copyFrom : GoodIn wsX10_restore (wsV RX10 352 RX9 yX9_copyFrom wsX9_copyFrom) := goodIn_app (goodIn_of _ (by decide +kernel)) ggX10_restore_X9_copyFrom
set_option maxRecDepth 20000 in
theorem ggX10_restore_X3_forget : GoodIn wsX10_restore wsX3_forget := goodIn_r _ [35, 36, 65, 66, 67] (by decide +kernel) (by decide +kernel)
set_option maxRecDepth 20000 in
theorem gX10_restore_X3_forget : GoodIn wsX10_restore (wsV RX10 95 RX3 yX3_forget wsX3_forget) := goodIn_app (goodIn_of _ (by decide +kernel)) ggX10_restore_X3_forget
theorem dX10_restore_0 : decode cX10_restore 0 = .ok (.aload_n 0, 1) := by decide +kernel
theorem dX10_restore_1 : decode cX10_restore 1 = .ok (.getfield 19, 3) := by decide +kernel
theorem dX10_restore_4 : decode cX10_restore 4 = .ok (.ifCond .ne 6, 3) := by decide +kernel
theorem dX10_restore_7 : decode cX10_restore 7 = .ok (.bipush (-4), 2) := by decide +kernel
theorem dX10_restore_9 : decode cX10_restore 9 = .ok (.ireturn, 1) := by decide +kernel
theorem dX10_restore_10 : decode cX10_restore 10 = .ok (.aload_n 0, 1) := by decide +kernel
theorem dX10_restore_11 : decode cX10_restore 11 = .ok (.getfield 10, 3) := by decide +kernel
theorem dX10_restore_14 : decode cX10_restore 14 = .ok (.aload_n 0, 1) := by decide +kernel
theorem dX10_restore_15 : decode cX10_restore 15 = .ok (.getfield 16, 3) := by decide +kernel
theorem dX10_restore_18 : decode cX10_restore 18 = .ok (.invokevirtual 352, 3) := by decide +kernel
theorem dX10_restore_21 : decode cX10_restore 21 = .ok (.aload_n 0, 1) := by decide +kernel
theorem dX10_restore_22 : decode cX10_restore 22 = .ok (.getfield 26, 3) := by decide +kernel
theorem dX10_restore_25 : decode cX10_restore 25 = .ok (.invokevirtual 95, 3) := by decide +kernel
theorem dX10_restore_28 : decode cX10_restore 28 = .ok (.aload_n 0, 1) := by decide +kernel
theorem dX10_restore_29 : decode cX10_restore 29 = .ok (.getfield 10, 3) := by decide +kernel
theorem dX10_restore_32 : decode cX10_restore 32 = .ok (.getfield 89, 3) := by decide +kernel
theorem dX10_restore_35 : decode cX10_restore 35 = .ok (.ireturn, 1) := by decide +kernel
theorem dX11_init_0 : decode cX11_init 0 = .ok (.aload_n 0, 1) := by decide +kernel
theorem dX11_init_1 : decode cX11_init 1 = .ok (.invokespecial 1, 3) := by decide +kernel
theorem dX11_init_4 : decode cX11_init 4 = .ok (.aload_n 0, 1) := by decide +kernel
theorem dX11_init_5 : decode cX11_init 5 = .ok (.sipush 972, 3) := by decide +kernel
theorem dX11_init_8 : decode cX11_init 8 = .ok (.newarray .int, 2) := by decide +kernel
theorem dX11_init_10 : decode cX11_init 10 = .ok (.putfield 9, 3) := by decide +kernel
theorem dX11_init_13 : decode cX11_init 13 = .ok (.aload_n 0, 1) := by decide +kernel
theorem dX11_init_14 : decode cX11_init 14 = .ok (.bipush 108, 2) := by decide +kernel
theorem dX11_init_16 : decode cX11_init 16 = .ok (.newarray .float, 2) := by decide +kernel
theorem dX11_init_18 : decode cX11_init 18 = .ok (.putfield 13, 3) := by decide +kernel
theorem dX11_init_21 : decode cX11_init 21 = .ok (.aload_n 0, 1) := by decide +kernel
theorem dX11_init_22 : decode cX11_init 22 = .ok (.bipush 6, 2) := by decide +kernel
theorem dX11_init_24 : decode cX11_init 24 = .ok (.newarray .int, 2) := by decide +kernel
theorem dX11_init_26 : decode cX11_init 26 = .ok (.putfield 17, 3) := by decide +kernel
theorem dX11_init_29 : decode cX11_init 29 = .ok (.aload_n 0, 1) := by decide +kernel
theorem dX11_init_30 : decode cX11_init 30 = .ok (.bipush 60, 2) := by decide +kernel
theorem dX11_init_32 : decode cX11_init 32 = .ok (.newarray .char, 2) := by decide +kernel
theorem dX11_init_34 : decode cX11_init 34 = .ok (.putfield 20, 3) := by decide +kernel
theorem dX11_init_37 : decode cX11_init 37 = .ok (.aload_n 0, 1) := by decide +kernel
theorem dX11_init_38 : decode cX11_init 38 = .ok (.bipush 60, 2) := by decide +kernel
theorem dX11_init_40 : decode cX11_init 40 = .ok (.newarray .char, 2) := by decide +kernel
theorem dX11_init_42 : decode cX11_init 42 = .ok (.putfield 24, 3) := by decide +kernel
theorem dX11_init_45 : decode cX11_init 45 = .ok (.aload_n 0, 1) := by decide +kernel
theorem dX11_init_46 : decode cX11_init 46 = .ok (.bipush (-4), 2) := by decide +kernel
theorem dX11_init_48 : decode cX11_init 48 = .ok (.putfield 27, 3) := by decide +kernel
theorem dX11_init_51 : decode cX11_init 51 = .ok (.aload_n 0, 1) := by decide +kernel
theorem dX11_init_52 : decode cX11_init 52 = .ok (.sipush 244, 3) := by decide +kernel
theorem dX11_init_55 : decode cX11_init 55 = .ok (.newarray .int, 2) := by decide +kernel
theorem dX11_init_57 : decode cX11_init 57 = .ok (.putfield 31, 3) := by decide +kernel
theorem dX11_init_60 : decode cX11_init 60 = .ok (.return_, 1) := by decide +kernel
theorem dX11_in_0 : decode cX11_in 0 = .ok (.iload_n 0, 1) := by decide +kernel
theorem dX11_in_1 : decode cX11_in 1 = .ok (.iload_n 1, 1) := by decide +kernel
theorem dX11_in_2 : decode cX11_in 2 = .ok (.if_icmp .lt 12, 3) := by decide +kernel
theorem dX11_in_5 : decode cX11_in 5 = .ok (.iload_n 0, 1) := by decide +kernel
theorem dX11_in_6 : decode cX11_in 6 = .ok (.iload_n 2, 1) := by decide +kernel
theorem dX11_in_7 : decode cX11_in 7 = .ok (.if_icmp .gt 7, 3) := by decide +kernel
theorem dX11_in_10 : decode cX11_in 10 = .ok (.iconst 1, 1) := by decide +kernel
theorem dX11_in_11 : decode cX11_in 11 = .ok (.goto 4, 3) := by decide +kernel
theorem dX11_in_14 : decode cX11_in 14 = .ok (.iconst 0, 1) := by decide +kernel
theorem dX11_in_15 : decode cX11_in 15 = .ok (.ireturn, 1) := by decide +kernel
theorem dX11_copies_0 : decode cX11_copies 0 = .ok (.iconst 0, 1) := by decide +kernel
theorem dX11_copies_1 : decode cX11_copies 1 = .ok (.istore_n 3, 1) := by decide +kernel
theorem dX11_copies_2 : decode cX11_copies 2 = .ok (.iload_n 3, 1) := by decide +kernel
theorem dX11_copies_3 : decode cX11_copies 3 = .ok (.bipush 81, 2) := by decide +kernel
theorem dX11_copies_5 : decode cX11_copies 5 = .ok (.if_icmp .ge 31, 3) := by decide +kernel
theorem dX11_copies_8 : decode cX11_copies 8 = .ok (.aload_n 0, 1) := by decide +kernel
theorem dX11_copies_9 : decode cX11_copies 9 = .ok (.getfield 9, 3) := by decide +kernel
theorem dX11_copies_12 : decode cX11_copies 12 = .ok (.bipush 81, 2) := by decide +kernel
theorem dX11_copies_14 : decode cX11_copies 14 = .ok (.iload_n 2, 1) := by decide +kernel
theorem dX11_copies_15 : decode cX11_copies 15 = .ok (.imul, 1) := by decide +kernel
theorem dX11_copies_16 : decode cX11_copies 16 = .ok (.iload_n 3, 1) := by decide +kernel
theorem dX11_copies_17 : decode cX11_copies 17 = .ok (.iadd, 1) := by decide +kernel
theorem dX11_copies_18 : decode cX11_copies 18 = .ok (.aload_n 0, 1) := by decide +kernel
theorem dX11_copies_19 : decode cX11_copies 19 = .ok (.getfield 9, 3) := by decide +kernel
theorem dX11_copies_22 : decode cX11_copies 22 = .ok (.bipush 81, 2) := by decide +kernel
theorem dX11_copies_24 : decode cX11_copies 24 = .ok (.iload_n 1, 1) := by decide +kernel
theorem dX11_copies_25 : decode cX11_copies 25 = .ok (.imul, 1) := by decide +kernel
theorem dX11_copies_26 : decode cX11_copies 26 = .ok (.iload_n 3, 1) := by decide +kernel
theorem dX11_copies_27 : decode cX11_copies 27 = .ok (.iadd, 1) := by decide +kernel
theorem dX11_copies_28 : decode cX11_copies 28 = .ok (.iaload, 1) := by decide +kernel
theorem dX11_copies_29 : decode cX11_copies 29 = .ok (.iastore, 1) := by decide +kernel
theorem dX11_copies_30 : decode cX11_copies 30 = .ok (.iinc 3 1, 3) := by decide +kernel
theorem dX11_copies_33 : decode cX11_copies 33 = .ok (.goto (-31), 3) := by decide +kernel
theorem dX11_copies_36 : decode cX11_copies 36 = .ok (.iconst 0, 1) := by decide +kernel
theorem dX11_copies_37 : decode cX11_copies 37 = .ok (.istore_n 3, 1) := by decide +kernel
theorem dX11_copies_38 : decode cX11_copies 38 = .ok (.iload_n 3, 1) := by decide +kernel
theorem dX11_copies_39 : decode cX11_copies 39 = .ok (.bipush 9, 2) := by decide +kernel
theorem dX11_copies_41 : decode cX11_copies 41 = .ok (.if_icmp .ge 31, 3) := by decide +kernel
theorem dX11_copies_44 : decode cX11_copies 44 = .ok (.aload_n 0, 1) := by decide +kernel
theorem dX11_copies_45 : decode cX11_copies 45 = .ok (.getfield 13, 3) := by decide +kernel
theorem dX11_copies_48 : decode cX11_copies 48 = .ok (.bipush 9, 2) := by decide +kernel
theorem dX11_copies_50 : decode cX11_copies 50 = .ok (.iload_n 2, 1) := by decide +kernel
theorem dX11_copies_51 : decode cX11_copies 51 = .ok (.imul, 1) := by decide +kernel
theorem dX11_copies_52 : decode cX11_copies 52 = .ok (.iload_n 3, 1) := by decide +kernel
theorem dX11_copies_53 : decode cX11_copies 53 = .ok (.iadd, 1) := by decide +kernel
theorem dX11_copies_54 : decode cX11_copies 54 = .ok (.aload_n 0, 1) := by decide +kernel
theorem dX11_copies_55 : decode cX11_copies 55 = .ok (.getfield 13, 3) := by decide +kernel
theorem dX11_copies_58 : decode cX11_copies 58 = .ok (.bipush 9, 2) := by decide +kernel
theorem dX11_copies_60 : decode cX11_copies 60 = .ok (.iload_n 1, 1) := by decide +kernel
theorem dX11_copies_61 : decode cX11_copies 61 = .ok (.imul, 1) := by decide +kernel
theorem dX11_copies_62 : decode cX11_copies 62 = .ok (.iload_n 3, 1) := by decide +kernel
theorem dX11_copies_63 : decode cX11_copies 63 = .ok (.iadd, 1) := by decide +kernel
theorem dX11_copies_64 : decode cX11_copies 64 = .ok (.faload, 1) := by decide +kernel
theorem dX11_copies_65 : decode cX11_copies 65 = .ok (.fastore, 1) := by decide +kernel
theorem dX11_copies_66 : decode cX11_copies 66 = .ok (.iinc 3 1, 3) := by decide +kernel
theorem dX11_copies_69 : decode cX11_copies 69 = .ok (.goto (-31), 3) := by decide +kernel
theorem dX11_copies_72 : decode cX11_copies 72 = .ok (.return_, 1) := by decide +kernel
set_option maxRecDepth 20000 in
theorem ggX11_begins_X11_copies : GoodIn wsX11_begins wsX11_copies := goodIn_r _ [5, 6, 7, 8, 9, 10, 11, 12, 13, 14, 15, 16, 17, 18, 19, 20, 21, 22, 23, 24, 25, 26] (by decide +kernel) (by decide +kernel)
set_option maxRecDepth 20000 in
theorem gX11_begins_X11_copies : GoodIn wsX11_begins (wsV RX11 34 RX11 yX11_copies wsX11_copies) := goodIn_app (goodIn_of _ (by decide +kernel)) ggX11_begins_X11_copies
theorem dX11_begins_0 : decode cX11_begins 0 = .ok (.aload_n 0, 1) := by decide +kernel
theorem dX11_begins_1 : decode cX11_begins 1 = .ok (.iconst 0, 1) := by decide +kernel
theorem dX11_begins_2 : decode cX11_begins 2 = .ok (.bipush 10, 2) := by decide +kernel
theorem dX11_begins_4 : decode cX11_begins 4 = .ok (.invokevirtual 34, 3) := by decide +kernel
theorem dX11_begins_7 : decode cX11_begins 7 = .ok (.return_, 1) := by decide +kernel
set_option maxRecDepth 20000 in
theorem ggX11_ends_X11_copies : GoodIn wsX11_ends wsX11_copies := goodIn_r _ [6, 7, 8, 9, 10, 11, 12, 13, 14, 15, 16, 17, 18, 19, 20, 21, 22, 23, 24, 25, 26, 27] (by decide +kernel) (by decide +kernel)
set_option maxRecDepth 20000 in
theorem gX11_ends_X11_copies : GoodIn wsX11_ends (wsV RX11 34 RX11 yX11_copies wsX11_copies) := goodIn_app (goodIn_of _ (by decide +kernel)) ggX11_ends_X11_copies
theorem dX11_ends_0 : decode cX11_ends 0 = .ok (.iload_n 1, 1) := by decide +kernel
theorem dX11_ends_1 : decode cX11_ends 1 = .ok (.ifCond .ge 12, 3) := by decide +kernel
theorem dX11_ends_4 : decode cX11_ends 4 = .ok (.aload_n 0, 1) := by decide +kernel
theorem dX11_ends_5 : decode cX11_ends 5 = .ok (.bipush 10, 2) := by decide +kernel
theorem dX11_ends_7 : decode cX11_ends 7 = .ok (.iconst 0, 1) := by decide +kernel
theorem dX11_ends_8 : decode cX11_ends 8 = .ok (.invokevirtual 34, 3) := by decide +kernel
theorem dX11_ends_11 : decode cX11_ends 11 = .ok (.iload_n 1, 1) := by decide +kernel
theorem dX11_ends_12 : decode cX11_ends 12 = .ok (.ireturn, 1) := by decide +kernel
theorem dX11_ends_13 : decode cX11_ends 13 = .ok (.aload_n 0, 1) := by decide +kernel
theorem dX11_ends_14 : decode cX11_ends 14 = .ok (.getfield 38, 3) := by decide +kernel
theorem dX11_ends_17 : decode cX11_ends 17 = .ok (.bipush 8, 2) := by decide +kernel
theorem dX11_ends_19 : decode cX11_ends 19 = .ok (.if_icmp .ne 35, 3) := by decide +kernel
theorem dX11_ends_22 : decode cX11_ends 22 = .ok (.iconst 1, 1) := by decide +kernel
theorem dX11_ends_23 : decode cX11_ends 23 = .ok (.istore_n 2, 1) := by decide +kernel
theorem dX11_ends_24 : decode cX11_ends 24 = .ok (.iload_n 2, 1) := by decide +kernel
theorem dX11_ends_25 : decode cX11_ends 25 = .ok (.bipush 8, 2) := by decide +kernel
theorem dX11_ends_27 : decode cX11_ends 27 = .ok (.if_icmp .ge 17, 3) := by decide +kernel
theorem dX11_ends_30 : decode cX11_ends 30 = .ok (.aload_n 0, 1) := by decide +kernel
theorem dX11_ends_31 : decode cX11_ends 31 = .ok (.iload_n 2, 1) := by decide +kernel
theorem dX11_ends_32 : decode cX11_ends 32 = .ok (.iconst 1, 1) := by decide +kernel
theorem dX11_ends_33 : decode cX11_ends 33 = .ok (.iadd, 1) := by decide +kernel
theorem dX11_ends_34 : decode cX11_ends 34 = .ok (.iload_n 2, 1) := by decide +kernel
theorem dX11_ends_35 : decode cX11_ends 35 = .ok (.invokevirtual 34, 3) := by decide +kernel
theorem dX11_ends_38 : decode cX11_ends 38 = .ok (.iinc 2 1, 3) := by decide +kernel
theorem dX11_ends_41 : decode cX11_ends 41 = .ok (.goto (-17), 3) := by decide +kernel
theorem dX11_ends_44 : decode cX11_ends 44 = .ok (.aload_n 0, 1) := by decide +kernel
theorem dX11_ends_45 : decode cX11_ends 45 = .ok (.dup, 1) := by decide +kernel
theorem dX11_ends_46 : decode cX11_ends 46 = .ok (.getfield 38, 3) := by decide +kernel
theorem dX11_ends_49 : decode cX11_ends 49 = .ok (.iconst 1, 1) := by decide +kernel
theorem dX11_ends_50 : decode cX11_ends 50 = .ok (.isub, 1) := by decide +kernel
theorem dX11_ends_51 : decode cX11_ends 51 = .ok (.putfield 38, 3) := by decide +kernel
theorem dX11_ends_54 : decode cX11_ends 54 = .ok (.aload_n 0, 1) := by decide +kernel
theorem dX11_ends_55 : decode cX11_ends 55 = .ok (.dup, 1) := by decide +kernel
theorem dX11_ends_56 : decode cX11_ends 56 = .ok (.getfield 38, 3) := by decide +kernel
theorem dX11_ends_59 : decode cX11_ends 59 = .ok (.iconst 1, 1) := by decide +kernel
theorem dX11_ends_60 : decode cX11_ends 60 = .ok (.iadd, 1) := by decide +kernel
theorem dX11_ends_61 : decode cX11_ends 61 = .ok (.putfield 38, 3) := by decide +kernel
theorem dX11_ends_64 : decode cX11_ends 64 = .ok (.aload_n 0, 1) := by decide +kernel
theorem dX11_ends_65 : decode cX11_ends 65 = .ok (.bipush 10, 2) := by decide +kernel
theorem dX11_ends_67 : decode cX11_ends 67 = .ok (.aload_n 0, 1) := by decide +kernel
theorem dX11_ends_68 : decode cX11_ends 68 = .ok (.getfield 38, 3) := by decide +kernel
theorem dX11_ends_71 : decode cX11_ends 71 = .ok (.invokevirtual 34, 3) := by decide +kernel
theorem dX11_ends_74 : decode cX11_ends 74 = .ok (.iload_n 1, 1) := by decide +kernel
theorem dX11_ends_75 : decode cX11_ends 75 = .ok (.ireturn, 1) := by decide +kernel
theorem dX11_refuses_0 : decode cX11_refuses 0 = .ok (.iload_n 1, 1) := by decide +kernel
theorem dX11_refuses_1 : decode cX11_refuses 1 = .ok (.ifCond .eq 18, 3) := by decide +kernel
theorem dX11_refuses_4 : decode cX11_refuses 4 = .ok (.aload_n 0, 1) := by decide +kernel
theorem dX11_refuses_5 : decode cX11_refuses 5 = .ok (.iload_n 2, 1) := by decide +kernel
theorem dX11_refuses_6 : decode cX11_refuses 6 = .ok (.putfield 41, 3) := by decide +kernel
theorem dX11_refuses_9 : decode cX11_refuses 9 = .ok (.aload_n 0, 1) := by decide +kernel
theorem dX11_refuses_10 : decode cX11_refuses 10 = .ok (.iload_n 3, 1) := by decide +kernel
theorem dX11_refuses_11 : decode cX11_refuses 11 = .ok (.putfield 44, 3) := by decide +kernel
theorem dX11_refuses_14 : decode cX11_refuses 14 = .ok (.aload_n 0, 1) := by decide +kernel
theorem dX11_refuses_15 : decode cX11_refuses 15 = .ok (.iconst 0, 1) := by decide +kernel
theorem dX11_refuses_16 : decode cX11_refuses 16 = .ok (.putfield 47, 3) := by decide +kernel
theorem dX11_refuses_19 : decode cX11_refuses 19 = .ok (.iload_n 1, 1) := by decide +kernel
theorem dX11_refuses_20 : decode cX11_refuses 20 = .ok (.ireturn, 1) := by decide +kernel
set_option maxRecDepth 20000 in
theorem ggX11_reason_X11_in : GoodIn wsX11_reason wsX11_in := goodIn_r _ [8] (by decide +kernel) (by decide +kernel)
set_option maxRecDepth 20000 in
theorem gX11_reason_X11_in : GoodIn wsX11_reason (va_wsS RX11 50 yX11_in wsX11_in) := goodIn_app (goodIn_of _ (by decide +kernel)) ggX11_reason_X11_in
theorem dX11_reason_0 : decode cX11_reason 0 = .ok (.iload_n 1, 1) := by decide +kernel
theorem dX11_reason_1 : decode cX11_reason 1 = .ok (.iconst 0, 1) := by decide +kernel
theorem dX11_reason_2 : decode cX11_reason 2 = .ok (.iconst 1, 1) := by decide +kernel
theorem dX11_reason_3 : decode cX11_reason 3 = .ok (.invokestatic 50, 3) := by decide +kernel
theorem dX11_reason_6 : decode cX11_reason 6 = .ok (.ifCond .ne 6, 3) := by decide +kernel
theorem dX11_reason_9 : decode cX11_reason 9 = .ok (.bipush (-2), 2) := by decide +kernel
theorem dX11_reason_11 : decode cX11_reason 11 = .ok (.ireturn, 1) := by decide +kernel
theorem dX11_reason_12 : decode cX11_reason 12 = .ok (.iload_n 1, 1) := by decide +kernel
theorem dX11_reason_13 : decode cX11_reason 13 = .ok (.ifCond .ne 10, 3) := by decide +kernel
theorem dX11_reason_16 : decode cX11_reason 16 = .ok (.aload_n 0, 1) := by decide +kernel
theorem dX11_reason_17 : decode cX11_reason 17 = .ok (.getfield 41, 3) := by decide +kernel
theorem dX11_reason_20 : decode cX11_reason 20 = .ok (.goto 7, 3) := by decide +kernel
theorem dX11_reason_23 : decode cX11_reason 23 = .ok (.aload_n 0, 1) := by decide +kernel
theorem dX11_reason_24 : decode cX11_reason 24 = .ok (.getfield 47, 3) := by decide +kernel
theorem dX11_reason_27 : decode cX11_reason 27 = .ok (.ifCond .ne 6, 3) := by decide +kernel
theorem dX11_reason_30 : decode cX11_reason 30 = .ok (.bipush (-4), 2) := by decide +kernel
theorem dX11_reason_32 : decode cX11_reason 32 = .ok (.ireturn, 1) := by decide +kernel
theorem dX11_reason_33 : decode cX11_reason 33 = .ok (.iload_n 1, 1) := by decide +kernel
theorem dX11_reason_34 : decode cX11_reason 34 = .ok (.ifCond .ne 21, 3) := by decide +kernel
theorem dX11_reason_37 : decode cX11_reason 37 = .ok (.iload_n 2, 1) := by decide +kernel
theorem dX11_reason_38 : decode cX11_reason 38 = .ok (.ifCond .eq 10, 3) := by decide +kernel
theorem dX11_reason_41 : decode cX11_reason 41 = .ok (.aload_n 0, 1) := by decide +kernel
theorem dX11_reason_42 : decode cX11_reason 42 = .ok (.getfield 44, 3) := by decide +kernel
theorem dX11_reason_45 : decode cX11_reason 45 = .ok (.goto 25, 3) := by decide +kernel
theorem dX11_reason_48 : decode cX11_reason 48 = .ok (.aload_n 0, 1) := by decide +kernel
theorem dX11_reason_49 : decode cX11_reason 49 = .ok (.getfield 41, 3) := by decide +kernel
theorem dX11_reason_52 : decode cX11_reason 52 = .ok (.goto 18, 3) := by decide +kernel
theorem dX11_reason_55 : decode cX11_reason 55 = .ok (.iload_n 2, 1) := by decide +kernel
theorem dX11_reason_56 : decode cX11_reason 56 = .ok (.ifCond .eq 10, 3) := by decide +kernel
theorem dX11_reason_59 : decode cX11_reason 59 = .ok (.aload_n 0, 1) := by decide +kernel
theorem dX11_reason_60 : decode cX11_reason 60 = .ok (.getfield 54, 3) := by decide +kernel
theorem dX11_reason_63 : decode cX11_reason 63 = .ok (.goto 7, 3) := by decide +kernel
theorem dX11_reason_66 : decode cX11_reason 66 = .ok (.aload_n 0, 1) := by decide +kernel
theorem dX11_reason_67 : decode cX11_reason 67 = .ok (.getfield 47, 3) := by decide +kernel
theorem dX11_reason_70 : decode cX11_reason 70 = .ok (.ireturn, 1) := by decide +kernel
theorem dX11_t_0 : decode cX11_t 0 = .ok (.aload_n 0, 1) := by decide +kernel
theorem dX11_t_1 : decode cX11_t 1 = .ok (.getfield 9, 3) := by decide +kernel
theorem dX11_t_4 : decode cX11_t 4 = .ok (.iconst 5, 1) := by decide +kernel
theorem dX11_t_5 : decode cX11_t 5 = .ok (.iconst 4, 1) := by decide +kernel
theorem dX11_t_6 : decode cX11_t 6 = .ok (.iload_n 1, 1) := by decide +kernel
theorem dX11_t_7 : decode cX11_t 7 = .ok (.imul, 1) := by decide +kernel
theorem dX11_t_8 : decode cX11_t 8 = .ok (.iadd, 1) := by decide +kernel
theorem dX11_t_9 : decode cX11_t 9 = .ok (.iload_n 2, 1) := by decide +kernel
theorem dX11_t_10 : decode cX11_t 10 = .ok (.iadd, 1) := by decide +kernel
theorem dX11_t_11 : decode cX11_t 11 = .ok (.iaload, 1) := by decide +kernel
theorem dX11_t_12 : decode cX11_t 12 = .ok (.ireturn, 1) := by decide +kernel
theorem dX11_r_0 : decode cX11_r 0 = .ok (.aload_n 0, 1) := by decide +kernel
theorem dX11_r_1 : decode cX11_r 1 = .ok (.getfield 9, 3) := by decide +kernel
theorem dX11_r_4 : decode cX11_r 4 = .ok (.bipush 61, 2) := by decide +kernel
theorem dX11_r_6 : decode cX11_r 6 = .ok (.iconst 4, 1) := by decide +kernel
theorem dX11_r_7 : decode cX11_r 7 = .ok (.iload_n 1, 1) := by decide +kernel
theorem dX11_r_8 : decode cX11_r 8 = .ok (.imul, 1) := by decide +kernel
theorem dX11_r_9 : decode cX11_r 9 = .ok (.iadd, 1) := by decide +kernel
theorem dX11_r_10 : decode cX11_r 10 = .ok (.iload_n 2, 1) := by decide +kernel
theorem dX11_r_11 : decode cX11_r 11 = .ok (.iadd, 1) := by decide +kernel
theorem dX11_r_12 : decode cX11_r 12 = .ok (.iaload, 1) := by decide +kernel
theorem dX11_r_13 : decode cX11_r 13 = .ok (.ireturn, 1) := by decide +kernel
set_option maxRecDepth 20000 in
theorem ggX11_isThing_X11_in : GoodIn wsX11_isThing wsX11_in := goodIn_r _ [5] (by decide +kernel) (by decide +kernel)
set_option maxRecDepth 20000 in
theorem gX11_isThing_X11_in : GoodIn wsX11_isThing (va_wsS RX11 50 yX11_in wsX11_in) := goodIn_app (goodIn_of _ (by decide +kernel)) ggX11_isThing_X11_in
theorem dX11_isThing_0 : decode cX11_isThing 0 = .ok (.iload_n 1, 1) := by decide +kernel
theorem dX11_isThing_1 : decode cX11_isThing 1 = .ok (.iconst 0, 1) := by decide +kernel
theorem dX11_isThing_2 : decode cX11_isThing 2 = .ok (.aload_n 0, 1) := by decide +kernel
theorem dX11_isThing_3 : decode cX11_isThing 3 = .ok (.getfield 9, 3) := by decide +kernel
theorem dX11_isThing_6 : decode cX11_isThing 6 = .ok (.iconst 0, 1) := by decide +kernel
theorem dX11_isThing_7 : decode cX11_isThing 7 = .ok (.iaload, 1) := by decide +kernel
theorem dX11_isThing_8 : decode cX11_isThing 8 = .ok (.iconst 1, 1) := by decide +kernel
theorem dX11_isThing_9 : decode cX11_isThing 9 = .ok (.isub, 1) := by decide +kernel
theorem dX11_isThing_10 : decode cX11_isThing 10 = .ok (.invokestatic 50, 3) := by decide +kernel
theorem dX11_isThing_13 : decode cX11_isThing 13 = .ok (.ireturn, 1) := by decide +kernel
set_option maxRecDepth 20000 in
theorem ggX11_isCart_X11_in : GoodIn wsX11_isCart wsX11_in := goodIn_r _ [5] (by decide +kernel) (by decide +kernel)
set_option maxRecDepth 20000 in
theorem gX11_isCart_X11_in : GoodIn wsX11_isCart (va_wsS RX11 50 yX11_in wsX11_in) := goodIn_app (goodIn_of _ (by decide +kernel)) ggX11_isCart_X11_in
theorem dX11_isCart_0 : decode cX11_isCart 0 = .ok (.iload_n 1, 1) := by decide +kernel
theorem dX11_isCart_1 : decode cX11_isCart 1 = .ok (.iconst 0, 1) := by decide +kernel
theorem dX11_isCart_2 : decode cX11_isCart 2 = .ok (.aload_n 0, 1) := by decide +kernel
theorem dX11_isCart_3 : decode cX11_isCart 3 = .ok (.getfield 9, 3) := by decide +kernel
theorem dX11_isCart_6 : decode cX11_isCart 6 = .ok (.iconst 1, 1) := by decide +kernel
theorem dX11_isCart_7 : decode cX11_isCart 7 = .ok (.iaload, 1) := by decide +kernel
theorem dX11_isCart_8 : decode cX11_isCart 8 = .ok (.iconst 1, 1) := by decide +kernel
theorem dX11_isCart_9 : decode cX11_isCart 9 = .ok (.isub, 1) := by decide +kernel
theorem dX11_isCart_10 : decode cX11_isCart 10 = .ok (.invokestatic 50, 3) := by decide +kernel
theorem dX11_isCart_13 : decode cX11_isCart 13 = .ok (.ireturn, 1) := by decide +kernel
set_option maxRecDepth 20000 in
theorem ggX11_isRoad_X11_in : GoodIn wsX11_isRoad wsX11_in := goodIn_r _ [5] (by decide +kernel) (by decide +kernel)
set_option maxRecDepth 20000 in
theorem gX11_isRoad_X11_in : GoodIn wsX11_isRoad (va_wsS RX11 50 yX11_in wsX11_in) := goodIn_app (goodIn_of _ (by decide +kernel)) ggX11_isRoad_X11_in
theorem dX11_isRoad_0 : decode cX11_isRoad 0 = .ok (.iload_n 1, 1) := by decide +kernel
theorem dX11_isRoad_1 : decode cX11_isRoad 1 = .ok (.iconst 0, 1) := by decide +kernel
theorem dX11_isRoad_2 : decode cX11_isRoad 2 = .ok (.aload_n 0, 1) := by decide +kernel
theorem dX11_isRoad_3 : decode cX11_isRoad 3 = .ok (.getfield 9, 3) := by decide +kernel
theorem dX11_isRoad_6 : decode cX11_isRoad 6 = .ok (.iconst 2, 1) := by decide +kernel
theorem dX11_isRoad_7 : decode cX11_isRoad 7 = .ok (.iaload, 1) := by decide +kernel
theorem dX11_isRoad_8 : decode cX11_isRoad 8 = .ok (.iconst 1, 1) := by decide +kernel
theorem dX11_isRoad_9 : decode cX11_isRoad 9 = .ok (.isub, 1) := by decide +kernel
theorem dX11_isRoad_10 : decode cX11_isRoad 10 = .ok (.invokestatic 50, 3) := by decide +kernel
theorem dX11_isRoad_13 : decode cX11_isRoad 13 = .ok (.ireturn, 1) := by decide +kernel
theorem dX11_strength_0 : decode cX11_strength 0 = .ok (.aload_n 0, 1) := by decide +kernel
theorem dX11_strength_1 : decode cX11_strength 1 = .ok (.getfield 9, 3) := by decide +kernel
theorem dX11_strength_4 : decode cX11_strength 4 = .ok (.bipush 53, 2) := by decide +kernel
theorem dX11_strength_6 : decode cX11_strength 6 = .ok (.iconst 2, 1) := by decide +kernel
theorem dX11_strength_7 : decode cX11_strength 7 = .ok (.iload_n 1, 1) := by decide +kernel
theorem dX11_strength_8 : decode cX11_strength 8 = .ok (.imul, 1) := by decide +kernel
theorem dX11_strength_9 : decode cX11_strength 9 = .ok (.iadd, 1) := by decide +kernel
theorem dX11_strength_10 : decode cX11_strength 10 = .ok (.iaload, 1) := by decide +kernel
theorem dX11_strength_11 : decode cX11_strength 11 = .ok (.ireturn, 1) := by decide +kernel
set_option maxRecDepth 20000 in
theorem ggX11_isOn_X11_t : GoodIn wsX11_isOn wsX11_t := goodIn_r _ [5, 6, 7, 8, 9, 10, 11, 12, 13, 14, 15, 16, 17, 18, 19, 20, 21, 22, 23, 24, 25] (by decide +kernel) (by decide +kernel)
set_option maxRecDepth 20000 in
theorem gX11_isOn_X11_t : GoodIn wsX11_isOn (wsV RX11 57 RX11 yX11_t wsX11_t) := goodIn_app (goodIn_of _ (by decide +kernel)) ggX11_isOn_X11_t
theorem dX11_isOn_0 : decode cX11_isOn 0 = .ok (.aload_n 0, 1) := by decide +kernel
theorem dX11_isOn_1 : decode cX11_isOn 1 = .ok (.iload_n 1, 1) := by decide +kernel
theorem dX11_isOn_2 : decode cX11_isOn 2 = .ok (.iconst 2, 1) := by decide +kernel
theorem dX11_isOn_3 : decode cX11_isOn 3 = .ok (.invokevirtual 57, 3) := by decide +kernel
theorem dX11_isOn_6 : decode cX11_isOn 6 = .ok (.iload_n 2, 1) := by decide +kernel
theorem dX11_isOn_7 : decode cX11_isOn 7 = .ok (.iconst 1, 1) := by decide +kernel
theorem dX11_isOn_8 : decode cX11_isOn 8 = .ok (.iadd, 1) := by decide +kernel
theorem dX11_isOn_9 : decode cX11_isOn 9 = .ok (.if_icmp .ne 7, 3) := by decide +kernel
theorem dX11_isOn_12 : decode cX11_isOn 12 = .ok (.iconst 1, 1) := by decide +kernel
theorem dX11_isOn_13 : decode cX11_isOn 13 = .ok (.goto 4, 3) := by decide +kernel
theorem dX11_isOn_16 : decode cX11_isOn 16 = .ok (.iconst 0, 1) := by decide +kernel
theorem dX11_isOn_17 : decode cX11_isOn 17 = .ok (.ireturn, 1) := by decide +kernel
set_option maxRecDepth 20000 in
theorem ggX11_thingAt_X11_isOn : GoodIn wsX11_thingAt wsX11_isOn := goodIn_r _ [6, 7, 8, 9, 5, 10, 1, 11, 12, 13, 14, 15, 16, 17, 18, 19, 20, 21, 22, 23, 24, 25, 26, 27, 28, 29] (by decide +kernel) (by decide +kernel)
set_option maxRecDepth 20000 in
theorem gX11_thingAt_X11_isOn : GoodIn wsX11_thingAt (wsV RX11 61 RX11 yX11_isOn wsX11_isOn) := goodIn_app (goodIn_of _ (by decide +kernel)) ggX11_thingAt_X11_isOn
set_option maxRecDepth 20000 in
theorem ggX11_thingAt_X11_t : GoodIn wsX11_thingAt wsX11_t := goodIn_r _ [10, 1, 11, 12, 13, 14, 15, 16, 17, 18, 19, 20, 21, 22, 23, 24, 25, 26, 27, 28, 29] (by decide +kernel) (by decide +kernel)
set_option maxRecDepth 20000 in
theorem gX11_thingAt_X11_t : GoodIn wsX11_thingAt (wsV RX11 57 RX11 yX11_t wsX11_t) := goodIn_app (goodIn_of _ (by decide +kernel)) ggX11_thingAt_X11_t
theorem dX11_thingAt_0 : decode cX11_thingAt 0 = .ok (.iconst 0, 1) := by decide +kernel
theorem dX11_thingAt_1 : decode cX11_thingAt 1 = .ok (.istore_n 3, 1) := by decide +kernel
theorem dX11_thingAt_2 : decode cX11_thingAt 2 = .ok (.iload_n 3, 1) := by decide +kernel
theorem dX11_thingAt_3 : decode cX11_thingAt 3 = .ok (.aload_n 0, 1) := by decide +kernel
theorem dX11_thingAt_4 : decode cX11_thingAt 4 = .ok (.getfield 9, 3) := by decide +kernel
theorem dX11_thingAt_7 : decode cX11_thingAt 7 = .ok (.iconst 0, 1) := by decide +kernel
theorem dX11_thingAt_8 : decode cX11_thingAt 8 = .ok (.iaload, 1) := by decide +kernel
theorem dX11_thingAt_9 : decode cX11_thingAt 9 = .ok (.if_icmp .ge 30, 3) := by decide +kernel
theorem dX11_thingAt_12 : decode cX11_thingAt 12 = .ok (.aload_n 0, 1) := by decide +kernel
theorem dX11_thingAt_13 : decode cX11_thingAt 13 = .ok (.iload_n 3, 1) := by decide +kernel
theorem dX11_thingAt_14 : decode cX11_thingAt 14 = .ok (.iload_n 1, 1) := by decide +kernel
theorem dX11_thingAt_15 : decode cX11_thingAt 15 = .ok (.invokevirtual 61, 3) := by decide +kernel
theorem dX11_thingAt_18 : decode cX11_thingAt 18 = .ok (.ifCond .eq 15, 3) := by decide +kernel
theorem dX11_thingAt_21 : decode cX11_thingAt 21 = .ok (.aload_n 0, 1) := by decide +kernel
theorem dX11_thingAt_22 : decode cX11_thingAt 22 = .ok (.iload_n 3, 1) := by decide +kernel
theorem dX11_thingAt_23 : decode cX11_thingAt 23 = .ok (.iconst 3, 1) := by decide +kernel
theorem dX11_thingAt_24 : decode cX11_thingAt 24 = .ok (.invokevirtual 57, 3) := by decide +kernel
theorem dX11_thingAt_27 : decode cX11_thingAt 27 = .ok (.iload_n 2, 1) := by decide +kernel
theorem dX11_thingAt_28 : decode cX11_thingAt 28 = .ok (.if_icmp .ne 5, 3) := by decide +kernel
theorem dX11_thingAt_31 : decode cX11_thingAt 31 = .ok (.iload_n 3, 1) := by decide +kernel
theorem dX11_thingAt_32 : decode cX11_thingAt 32 = .ok (.ireturn, 1) := by decide +kernel
theorem dX11_thingAt_33 : decode cX11_thingAt 33 = .ok (.iinc 3 1, 3) := by decide +kernel
theorem dX11_thingAt_36 : decode cX11_thingAt 36 = .ok (.goto (-34), 3) := by decide +kernel
theorem dX11_thingAt_39 : decode cX11_thingAt 39 = .ok (.bipush (-4), 2) := by decide +kernel
theorem dX11_thingAt_41 : decode cX11_thingAt 41 = .ok (.ireturn, 1) := by decide +kernel
set_option maxRecDepth 20000 in
theorem ggX11_onCart_X11_isOn : GoodIn wsX11_onCart wsX11_isOn := goodIn_r _ [6, 7, 8, 9, 5, 10, 1, 11, 12, 13, 14, 15, 16, 17, 18, 19, 20, 21, 22, 23, 24, 25, 26, 27, 28, 29] (by decide +kernel) (by decide +kernel)
set_option maxRecDepth 20000 in
theorem gX11_onCart_X11_isOn : GoodIn wsX11_onCart (wsV RX11 61 RX11 yX11_isOn wsX11_isOn) := goodIn_app (goodIn_of _ (by decide +kernel)) ggX11_onCart_X11_isOn
set_option maxRecDepth 20000 in
theorem ggX11_onCart_X11_t : GoodIn wsX11_onCart wsX11_t := goodIn_r _ [10, 1, 11, 12, 13, 14, 15, 16, 17, 18, 19, 20, 21, 22, 23, 24, 25, 26, 27, 28, 29] (by decide +kernel) (by decide +kernel)
set_option maxRecDepth 20000 in
theorem gX11_onCart_X11_t : GoodIn wsX11_onCart (wsV RX11 57 RX11 yX11_t wsX11_t) := goodIn_app (goodIn_of _ (by decide +kernel)) ggX11_onCart_X11_t
theorem dX11_onCart_0 : decode cX11_onCart 0 = .ok (.iconst 0, 1) := by decide +kernel
theorem dX11_onCart_1 : decode cX11_onCart 1 = .ok (.istore 4, 2) := by decide +kernel
theorem dX11_onCart_3 : decode cX11_onCart 3 = .ok (.iconst 0, 1) := by decide +kernel
theorem dX11_onCart_4 : decode cX11_onCart 4 = .ok (.istore 5, 2) := by decide +kernel
theorem dX11_onCart_6 : decode cX11_onCart 6 = .ok (.iload 5, 2) := by decide +kernel
theorem dX11_onCart_8 : decode cX11_onCart 8 = .ok (.aload_n 0, 1) := by decide +kernel
theorem dX11_onCart_9 : decode cX11_onCart 9 = .ok (.getfield 9, 3) := by decide +kernel
theorem dX11_onCart_12 : decode cX11_onCart 12 = .ok (.iconst 0, 1) := by decide +kernel
theorem dX11_onCart_13 : decode cX11_onCart 13 = .ok (.iaload, 1) := by decide +kernel
theorem dX11_onCart_14 : decode cX11_onCart 14 = .ok (.if_icmp .ge 54, 3) := by decide +kernel
theorem dX11_onCart_17 : decode cX11_onCart 17 = .ok (.iload 4, 2) := by decide +kernel
theorem dX11_onCart_19 : decode cX11_onCart 19 = .ok (.aload_n 0, 1) := by decide +kernel
theorem dX11_onCart_20 : decode cX11_onCart 20 = .ok (.iload 5, 2) := by decide +kernel
theorem dX11_onCart_22 : decode cX11_onCart 22 = .ok (.iload_n 1, 1) := by decide +kernel
theorem dX11_onCart_23 : decode cX11_onCart 23 = .ok (.invokevirtual 61, 3) := by decide +kernel
theorem dX11_onCart_26 : decode cX11_onCart 26 = .ok (.ifCond .eq 32, 3) := by decide +kernel
theorem dX11_onCart_29 : decode cX11_onCart 29 = .ok (.aload_n 0, 1) := by decide +kernel
theorem dX11_onCart_30 : decode cX11_onCart 30 = .ok (.iload 5, 2) := by decide +kernel
theorem dX11_onCart_32 : decode cX11_onCart 32 = .ok (.iconst 0, 1) := by decide +kernel
theorem dX11_onCart_33 : decode cX11_onCart 33 = .ok (.invokevirtual 57, 3) := by decide +kernel
theorem dX11_onCart_36 : decode cX11_onCart 36 = .ok (.iload_n 2, 1) := by decide +kernel
theorem dX11_onCart_37 : decode cX11_onCart 37 = .ok (.if_icmp .ne 21, 3) := by decide +kernel
theorem dX11_onCart_40 : decode cX11_onCart 40 = .ok (.iload_n 3, 1) := by decide +kernel
theorem dX11_onCart_41 : decode cX11_onCart 41 = .ok (.ifCond .eq 13, 3) := by decide +kernel
theorem dX11_onCart_44 : decode cX11_onCart 44 = .ok (.aload_n 0, 1) := by decide +kernel
theorem dX11_onCart_45 : decode cX11_onCart 45 = .ok (.iload 5, 2) := by decide +kernel
theorem dX11_onCart_47 : decode cX11_onCart 47 = .ok (.iconst 1, 1) := by decide +kernel
theorem dX11_onCart_48 : decode cX11_onCart 48 = .ok (.invokevirtual 57, 3) := by decide +kernel
theorem dX11_onCart_51 : decode cX11_onCart 51 = .ok (.goto 8, 3) := by decide +kernel
theorem dX11_onCart_54 : decode cX11_onCart 54 = .ok (.iconst 1, 1) := by decide +kernel
theorem dX11_onCart_55 : decode cX11_onCart 55 = .ok (.goto 4, 3) := by decide +kernel
theorem dX11_onCart_58 : decode cX11_onCart 58 = .ok (.iconst 0, 1) := by decide +kernel
theorem dX11_onCart_59 : decode cX11_onCart 59 = .ok (.iadd, 1) := by decide +kernel
theorem dX11_onCart_60 : decode cX11_onCart 60 = .ok (.istore 4, 2) := by decide +kernel
theorem dX11_onCart_62 : decode cX11_onCart 62 = .ok (.iinc 5 1, 3) := by decide +kernel
theorem dX11_onCart_65 : decode cX11_onCart 65 = .ok (.goto (-59), 3) := by decide +kernel
theorem dX11_onCart_68 : decode cX11_onCart 68 = .ok (.iload 4, 2) := by decide +kernel
theorem dX11_onCart_70 : decode cX11_onCart 70 = .ok (.ireturn, 1) := by decide +kernel
set_option maxRecDepth 20000 in
theorem ggX11_weightOf_X11_onCart : GoodIn wsX11_weightOf wsX11_onCart := goodIn_r _ [5, 6, 7, 8, 9, 4, 10, 11, 12, 13, 14, 15, 16, 17, 18, 19, 20, 21, 22, 23, 24, 25, 26, 27, 28, 29, 30, 31, 32, 33] (by decide +kernel) (by decide +kernel)
set_option maxRecDepth 20000 in
theorem gX11_weightOf_X11_onCart : GoodIn wsX11_weightOf (wsV RX11 65 RX11 yX11_onCart wsX11_onCart) := goodIn_app (goodIn_of _ (by decide +kernel)) ggX11_weightOf_X11_onCart
theorem dX11_weightOf_0 : decode cX11_weightOf 0 = .ok (.aload_n 0, 1) := by decide +kernel
theorem dX11_weightOf_1 : decode cX11_weightOf 1 = .ok (.iload_n 1, 1) := by decide +kernel
theorem dX11_weightOf_2 : decode cX11_weightOf 2 = .ok (.iconst 0, 1) := by decide +kernel
theorem dX11_weightOf_3 : decode cX11_weightOf 3 = .ok (.iconst 1, 1) := by decide +kernel
theorem dX11_weightOf_4 : decode cX11_weightOf 4 = .ok (.invokevirtual 65, 3) := by decide +kernel
theorem dX11_weightOf_7 : decode cX11_weightOf 7 = .ok (.aload_n 0, 1) := by decide +kernel
theorem dX11_weightOf_8 : decode cX11_weightOf 8 = .ok (.iload_n 1, 1) := by decide +kernel
theorem dX11_weightOf_9 : decode cX11_weightOf 9 = .ok (.iconst 1, 1) := by decide +kernel
theorem dX11_weightOf_10 : decode cX11_weightOf 10 = .ok (.iconst 1, 1) := by decide +kernel
theorem dX11_weightOf_11 : decode cX11_weightOf 11 = .ok (.invokevirtual 65, 3) := by decide +kernel
theorem dX11_weightOf_14 : decode cX11_weightOf 14 = .ok (.iadd, 1) := by decide +kernel
theorem dX11_weightOf_15 : decode cX11_weightOf 15 = .ok (.ireturn, 1) := by decide +kernel
set_option maxRecDepth 20000 in
theorem ggX11_tenthsOf_X11_t : GoodIn wsX11_tenthsOf wsX11_t := goodIn_r _ [6, 1, 11, 12, 13, 14, 15, 16, 17, 18, 19, 20, 21, 22, 23, 24, 25, 26, 27, 28, 29] (by decide +kernel) (by decide +kernel)
set_option maxRecDepth 20000 in
theorem gX11_tenthsOf_X11_t : GoodIn wsX11_tenthsOf (wsV RX11 57 RX11 yX11_t wsX11_t) := goodIn_app (goodIn_of _ (by decide +kernel)) ggX11_tenthsOf_X11_t
set_option maxRecDepth 20000 in
theorem ggX11_tenthsOf_X11_isOn : GoodIn wsX11_tenthsOf wsX11_isOn := goodIn_r _ [10, 2, 3, 4, 5, 6, 1, 11, 12, 13, 14, 15, 16, 17, 18, 19, 20, 21, 22, 23, 24, 25, 26, 27, 28, 29] (by decide +kernel) (by decide +kernel)
set_option maxRecDepth 20000 in
theorem gX11_tenthsOf_X11_isOn : GoodIn wsX11_tenthsOf (wsV RX11 61 RX11 yX11_isOn wsX11_isOn) := goodIn_app (goodIn_of _ (by decide +kernel)) ggX11_tenthsOf_X11_isOn
theorem dX11_tenthsOf_0 : decode cX11_tenthsOf 0 = .ok (.iconst 0, 1) := by decide +kernel
theorem dX11_tenthsOf_1 : decode cX11_tenthsOf 1 = .ok (.istore_n 3, 1) := by decide +kernel
theorem dX11_tenthsOf_2 : decode cX11_tenthsOf 2 = .ok (.iconst 0, 1) := by decide +kernel
theorem dX11_tenthsOf_3 : decode cX11_tenthsOf 3 = .ok (.istore 4, 2) := by decide +kernel
theorem dX11_tenthsOf_5 : decode cX11_tenthsOf 5 = .ok (.iload 4, 2) := by decide +kernel
theorem dX11_tenthsOf_7 : decode cX11_tenthsOf 7 = .ok (.aload_n 0, 1) := by decide +kernel
theorem dX11_tenthsOf_8 : decode cX11_tenthsOf 8 = .ok (.getfield 9, 3) := by decide +kernel
theorem dX11_tenthsOf_11 : decode cX11_tenthsOf 11 = .ok (.iconst 0, 1) := by decide +kernel
theorem dX11_tenthsOf_12 : decode cX11_tenthsOf 12 = .ok (.iaload, 1) := by decide +kernel
theorem dX11_tenthsOf_13 : decode cX11_tenthsOf 13 = .ok (.if_icmp .ge 80, 3) := by decide +kernel
theorem dX11_tenthsOf_16 : decode cX11_tenthsOf 16 = .ok (.aload_n 0, 1) := by decide +kernel
theorem dX11_tenthsOf_17 : decode cX11_tenthsOf 17 = .ok (.iload 4, 2) := by decide +kernel
theorem dX11_tenthsOf_19 : decode cX11_tenthsOf 19 = .ok (.iconst 0, 1) := by decide +kernel
theorem dX11_tenthsOf_20 : decode cX11_tenthsOf 20 = .ok (.invokevirtual 57, 3) := by decide +kernel
theorem dX11_tenthsOf_23 : decode cX11_tenthsOf 23 = .ok (.iconst 1, 1) := by decide +kernel
theorem dX11_tenthsOf_24 : decode cX11_tenthsOf 24 = .ok (.if_icmp .ne 7, 3) := by decide +kernel
theorem dX11_tenthsOf_27 : decode cX11_tenthsOf 27 = .ok (.iconst 5, 1) := by decide +kernel
theorem dX11_tenthsOf_28 : decode cX11_tenthsOf 28 = .ok (.goto 30, 3) := by decide +kernel
theorem dX11_tenthsOf_31 : decode cX11_tenthsOf 31 = .ok (.iload_n 2, 1) := by decide +kernel
theorem dX11_tenthsOf_32 : decode cX11_tenthsOf 32 = .ok (.ifCond .eq 15, 3) := by decide +kernel
theorem dX11_tenthsOf_35 : decode cX11_tenthsOf 35 = .ok (.iconst 2, 1) := by decide +kernel
theorem dX11_tenthsOf_36 : decode cX11_tenthsOf 36 = .ok (.aload_n 0, 1) := by decide +kernel
theorem dX11_tenthsOf_37 : decode cX11_tenthsOf 37 = .ok (.iload 4, 2) := by decide +kernel
theorem dX11_tenthsOf_39 : decode cX11_tenthsOf 39 = .ok (.iconst 3, 1) := by decide +kernel
theorem dX11_tenthsOf_40 : decode cX11_tenthsOf 40 = .ok (.invokevirtual 57, 3) := by decide +kernel
theorem dX11_tenthsOf_43 : decode cX11_tenthsOf 43 = .ok (.imul, 1) := by decide +kernel
theorem dX11_tenthsOf_44 : decode cX11_tenthsOf 44 = .ok (.goto 14, 3) := by decide +kernel
theorem dX11_tenthsOf_47 : decode cX11_tenthsOf 47 = .ok (.iconst 2, 1) := by decide +kernel
theorem dX11_tenthsOf_48 : decode cX11_tenthsOf 48 = .ok (.iconst 5, 1) := by decide +kernel
theorem dX11_tenthsOf_49 : decode cX11_tenthsOf 49 = .ok (.aload_n 0, 1) := by decide +kernel
theorem dX11_tenthsOf_50 : decode cX11_tenthsOf 50 = .ok (.iload 4, 2) := by decide +kernel
theorem dX11_tenthsOf_52 : decode cX11_tenthsOf 52 = .ok (.iconst 3, 1) := by decide +kernel
theorem dX11_tenthsOf_53 : decode cX11_tenthsOf 53 = .ok (.invokevirtual 57, 3) := by decide +kernel
theorem dX11_tenthsOf_56 : decode cX11_tenthsOf 56 = .ok (.isub, 1) := by decide +kernel
theorem dX11_tenthsOf_57 : decode cX11_tenthsOf 57 = .ok (.imul, 1) := by decide +kernel
theorem dX11_tenthsOf_58 : decode cX11_tenthsOf 58 = .ok (.istore 5, 2) := by decide +kernel
theorem dX11_tenthsOf_60 : decode cX11_tenthsOf 60 = .ok (.iload_n 3, 1) := by decide +kernel
theorem dX11_tenthsOf_61 : decode cX11_tenthsOf 61 = .ok (.aload_n 0, 1) := by decide +kernel
theorem dX11_tenthsOf_62 : decode cX11_tenthsOf 62 = .ok (.iload 4, 2) := by decide +kernel
theorem dX11_tenthsOf_64 : decode cX11_tenthsOf 64 = .ok (.iload_n 1, 1) := by decide +kernel
theorem dX11_tenthsOf_65 : decode cX11_tenthsOf 65 = .ok (.invokevirtual 61, 3) := by decide +kernel
theorem dX11_tenthsOf_68 : decode cX11_tenthsOf 68 = .ok (.ifCond .eq 16, 3) := by decide +kernel
theorem dX11_tenthsOf_71 : decode cX11_tenthsOf 71 = .ok (.aload_n 0, 1) := by decide +kernel
theorem dX11_tenthsOf_72 : decode cX11_tenthsOf 72 = .ok (.iload 4, 2) := by decide +kernel
theorem dX11_tenthsOf_74 : decode cX11_tenthsOf 74 = .ok (.iconst 1, 1) := by decide +kernel
theorem dX11_tenthsOf_75 : decode cX11_tenthsOf 75 = .ok (.invokevirtual 57, 3) := by decide +kernel
theorem dX11_tenthsOf_78 : decode cX11_tenthsOf 78 = .ok (.iload 5, 2) := by decide +kernel
theorem dX11_tenthsOf_80 : decode cX11_tenthsOf 80 = .ok (.imul, 1) := by decide +kernel
theorem dX11_tenthsOf_81 : decode cX11_tenthsOf 81 = .ok (.goto 4, 3) := by decide +kernel
theorem dX11_tenthsOf_84 : decode cX11_tenthsOf 84 = .ok (.iconst 0, 1) := by decide +kernel
theorem dX11_tenthsOf_85 : decode cX11_tenthsOf 85 = .ok (.iadd, 1) := by decide +kernel
theorem dX11_tenthsOf_86 : decode cX11_tenthsOf 86 = .ok (.istore_n 3, 1) := by decide +kernel
theorem dX11_tenthsOf_87 : decode cX11_tenthsOf 87 = .ok (.iinc 4 1, 3) := by decide +kernel
theorem dX11_tenthsOf_90 : decode cX11_tenthsOf 90 = .ok (.goto (-85), 3) := by decide +kernel
theorem dX11_tenthsOf_93 : decode cX11_tenthsOf 93 = .ok (.iload_n 3, 1) := by decide +kernel
theorem dX11_tenthsOf_94 : decode cX11_tenthsOf 94 = .ok (.ireturn, 1) := by decide +kernel
set_option maxRecDepth 20000 in
theorem ggX11_loadOf_X11_tenthsOf : GoodIn wsX11_loadOf wsX11_tenthsOf := goodIn_r _ [6, 7, 8, 9, 10, 5, 11, 12, 13, 14, 15, 16, 17, 18, 19, 20, 21, 22, 23, 24, 25, 26, 27, 28, 29, 30, 31, 32, 33, 34] (by decide +kernel) (by decide +kernel)
set_option maxRecDepth 20000 in
theorem gX11_loadOf_X11_tenthsOf : GoodIn wsX11_loadOf (wsV RX11 69 RX11 yX11_tenthsOf wsX11_tenthsOf) := goodIn_app (goodIn_of _ (by decide +kernel)) ggX11_loadOf_X11_tenthsOf
theorem dX11_loadOf_0 : decode cX11_loadOf 0 = .ok (.aload_n 0, 1) := by decide +kernel
theorem dX11_loadOf_1 : decode cX11_loadOf 1 = .ok (.iload_n 1, 1) := by decide +kernel
theorem dX11_loadOf_2 : decode cX11_loadOf 2 = .ok (.iload_n 2, 1) := by decide +kernel
theorem dX11_loadOf_3 : decode cX11_loadOf 3 = .ok (.invokevirtual 69, 3) := by decide +kernel
theorem dX11_loadOf_6 : decode cX11_loadOf 6 = .ok (.i2f, 1) := by decide +kernel
theorem dX11_loadOf_7 : decode cX11_loadOf 7 = .ok (.ldc 73, 2) := by decide +kernel
theorem dX11_loadOf_9 : decode cX11_loadOf 9 = .ok (.fdiv, 1) := by decide +kernel
theorem dX11_loadOf_10 : decode cX11_loadOf 10 = .ok (.freturn, 1) := by decide +kernel
set_option maxRecDepth 20000 in
theorem ggX11_creaks_X11_loadOf : GoodIn wsX11_creaks wsX11_loadOf := goodIn_r _ [5, 6, 7, 8, 9, 4, 10, 11, 12, 13, 14, 15, 16, 17, 18, 19, 24, 25, 26, 27, 28, 29, 30, 31, 32, 33, 34, 35, 36, 37, 38, 39, 40, 41, 42] (by decide +kernel) (by decide +kernel)
set_option maxRecDepth 20000 in
theorem gX11_creaks_X11_loadOf : GoodIn wsX11_creaks (wsV RX11 74 RX11 yX11_loadOf wsX11_loadOf) := goodIn_app (goodIn_of _ (by decide +kernel)) ggX11_creaks_X11_loadOf
set_option maxRecDepth 20000 in
theorem ggX11_creaks_X11_strength : GoodIn wsX11_creaks wsX11_strength := goodIn_r _ [23, 11, 24, 25, 26, 27, 28, 29, 30, 31, 32, 33, 34, 35, 36, 37, 38, 39, 40, 41, 42] (by decide +kernel) (by decide +kernel)
set_option maxRecDepth 20000 in
theorem gX11_creaks_X11_strength : GoodIn wsX11_creaks (wsV RX11 78 RX11 yX11_strength wsX11_strength) := goodIn_app (goodIn_of _ (by decide +kernel)) ggX11_creaks_X11_strength
theorem dX11_creaks_0 : decode cX11_creaks 0 = .ok (.aload_n 0, 1) := by decide +kernel
theorem dX11_creaks_1 : decode cX11_creaks 1 = .ok (.iload_n 1, 1) := by decide +kernel
theorem dX11_creaks_2 : decode cX11_creaks 2 = .ok (.iload_n 2, 1) := by decide +kernel
theorem dX11_creaks_3 : decode cX11_creaks 3 = .ok (.invokevirtual 74, 3) := by decide +kernel
theorem dX11_creaks_6 : decode cX11_creaks 6 = .ok (.aload_n 0, 1) := by decide +kernel
theorem dX11_creaks_7 : decode cX11_creaks 7 = .ok (.iload_n 1, 1) := by decide +kernel
theorem dX11_creaks_8 : decode cX11_creaks 8 = .ok (.invokevirtual 78, 3) := by decide +kernel
theorem dX11_creaks_11 : decode cX11_creaks 11 = .ok (.i2f, 1) := by decide +kernel
theorem dX11_creaks_12 : decode cX11_creaks 12 = .ok (.fcmp .l, 1) := by decide +kernel
theorem dX11_creaks_13 : decode cX11_creaks 13 = .ok (.ifCond .le 7, 3) := by decide +kernel
theorem dX11_creaks_16 : decode cX11_creaks 16 = .ok (.iconst 1, 1) := by decide +kernel
theorem dX11_creaks_17 : decode cX11_creaks 17 = .ok (.goto 4, 3) := by decide +kernel
theorem dX11_creaks_20 : decode cX11_creaks 20 = .ok (.iconst 0, 1) := by decide +kernel
theorem dX11_creaks_21 : decode cX11_creaks 21 = .ok (.ireturn, 1) := by decide +kernel
set_option maxRecDepth 20000 in
theorem ggX11_creaking_X11_creaks : GoodIn wsX11_creaking wsX11_creaks := goodIn_r _ [5, 6, 7, 8, 4, 9, 10, 11, 12, 13, 14, 15, 16, 17, 18, 19, 20, 21, 22, 23, 24, 25, 26, 27, 28, 29, 30, 31, 32, 33, 34, 35, 36, 37, 38, 39, 40, 41, 42, 43, 44, 45, 46] (by decide +kernel) (by decide +kernel)
set_option maxRecDepth 20000 in
theorem gX11_creaking_X11_creaks : GoodIn wsX11_creaking (wsV RX11 82 RX11 yX11_creaks wsX11_creaks) := goodIn_app (goodIn_of _ (by decide +kernel)) ggX11_creaking_X11_creaks
theorem dX11_creaking_0 : decode cX11_creaking 0 = .ok (.aload_n 0, 1) := by decide +kernel
theorem dX11_creaking_1 : decode cX11_creaking 1 = .ok (.iload_n 1, 1) := by decide +kernel
theorem dX11_creaking_2 : decode cX11_creaking 2 = .ok (.iconst 0, 1) := by decide +kernel
theorem dX11_creaking_3 : decode cX11_creaking 3 = .ok (.invokevirtual 82, 3) := by decide +kernel
theorem dX11_creaking_6 : decode cX11_creaking 6 = .ok (.ifCond .eq 7, 3) := by decide +kernel
theorem dX11_creaking_9 : decode cX11_creaking 9 = .ok (.iconst 1, 1) := by decide +kernel
theorem dX11_creaking_10 : decode cX11_creaking 10 = .ok (.goto 4, 3) := by decide +kernel
theorem dX11_creaking_13 : decode cX11_creaking 13 = .ok (.iconst 0, 1) := by decide +kernel
theorem dX11_creaking_14 : decode cX11_creaking 14 = .ok (.aload_n 0, 1) := by decide +kernel
theorem dX11_creaking_15 : decode cX11_creaking 15 = .ok (.iload_n 1, 1) := by decide +kernel
theorem dX11_creaking_16 : decode cX11_creaking 16 = .ok (.iconst 1, 1) := by decide +kernel
theorem dX11_creaking_17 : decode cX11_creaking 17 = .ok (.invokevirtual 82, 3) := by decide +kernel
theorem dX11_creaking_20 : decode cX11_creaking 20 = .ok (.ifCond .eq 7, 3) := by decide +kernel
theorem dX11_creaking_23 : decode cX11_creaking 23 = .ok (.iconst 1, 1) := by decide +kernel
theorem dX11_creaking_24 : decode cX11_creaking 24 = .ok (.goto 4, 3) := by decide +kernel
theorem dX11_creaking_27 : decode cX11_creaking 27 = .ok (.iconst 0, 1) := by decide +kernel
theorem dX11_creaking_28 : decode cX11_creaking 28 = .ok (.iadd, 1) := by decide +kernel
theorem dX11_creaking_29 : decode cX11_creaking 29 = .ok (.ireturn, 1) := by decide +kernel
theorem dX11_wearOf_0 : decode cX11_wearOf 0 = .ok (.aload_n 0, 1) := by decide +kernel
theorem dX11_wearOf_1 : decode cX11_wearOf 1 = .ok (.getfield 13, 3) := by decide +kernel
theorem dX11_wearOf_4 : decode cX11_wearOf 4 = .ok (.iconst 2, 1) := by decide +kernel
theorem dX11_wearOf_5 : decode cX11_wearOf 5 = .ok (.iload_n 1, 1) := by decide +kernel
theorem dX11_wearOf_6 : decode cX11_wearOf 6 = .ok (.imul, 1) := by decide +kernel
theorem dX11_wearOf_7 : decode cX11_wearOf 7 = .ok (.iload_n 2, 1) := by decide +kernel
theorem dX11_wearOf_8 : decode cX11_wearOf 8 = .ok (.ifCond .eq 7, 3) := by decide +kernel
theorem dX11_wearOf_11 : decode cX11_wearOf 11 = .ok (.iconst 1, 1) := by decide +kernel
theorem dX11_wearOf_12 : decode cX11_wearOf 12 = .ok (.goto 4, 3) := by decide +kernel
theorem dX11_wearOf_15 : decode cX11_wearOf 15 = .ok (.iconst 0, 1) := by decide +kernel
theorem dX11_wearOf_16 : decode cX11_wearOf 16 = .ok (.iadd, 1) := by decide +kernel
theorem dX11_wearOf_17 : decode cX11_wearOf 17 = .ok (.faload, 1) := by decide +kernel
theorem dX11_wearOf_18 : decode cX11_wearOf 18 = .ok (.freturn, 1) := by decide +kernel
set_option maxRecDepth 20000 in
theorem ggX11_isWorn_X11_wearOf : GoodIn wsX11_isWorn wsX11_wearOf := goodIn_r _ [5, 6, 7, 8, 9, 10, 11, 12, 13, 14, 15, 16, 17, 18, 19, 20, 21, 22, 23, 24, 25] (by decide +kernel) (by decide +kernel)
set_option maxRecDepth 20000 in
theorem gX11_isWorn_X11_wearOf : GoodIn wsX11_isWorn (wsV RX11 86 RX11 yX11_wearOf wsX11_wearOf) := goodIn_app (goodIn_of _ (by decide +kernel)) ggX11_isWorn_X11_wearOf
theorem dX11_isWorn_0 : decode cX11_isWorn 0 = .ok (.aload_n 0, 1) := by decide +kernel
theorem dX11_isWorn_1 : decode cX11_isWorn 1 = .ok (.iload_n 1, 1) := by decide +kernel
theorem dX11_isWorn_2 : decode cX11_isWorn 2 = .ok (.iload_n 2, 1) := by decide +kernel
theorem dX11_isWorn_3 : decode cX11_isWorn 3 = .ok (.invokevirtual 86, 3) := by decide +kernel
theorem dX11_isWorn_6 : decode cX11_isWorn 6 = .ok (.fconst 1, 1) := by decide +kernel
theorem dX11_isWorn_7 : decode cX11_isWorn 7 = .ok (.fcmp .l, 1) := by decide +kernel
theorem dX11_isWorn_8 : decode cX11_isWorn 8 = .ok (.ifCond .lt 7, 3) := by decide +kernel
theorem dX11_isWorn_11 : decode cX11_isWorn 11 = .ok (.iconst 1, 1) := by decide +kernel
theorem dX11_isWorn_12 : decode cX11_isWorn 12 = .ok (.goto 4, 3) := by decide +kernel
theorem dX11_isWorn_15 : decode cX11_isWorn 15 = .ok (.iconst 0, 1) := by decide +kernel
theorem dX11_isWorn_16 : decode cX11_isWorn 16 = .ok (.ireturn, 1) := by decide +kernel
theorem dX11_size_0 : decode cX11_size 0 = .ok (.iload_n 0, 1) := by decide +kernel
theorem dX11_size_1 : decode cX11_size 1 = .ok (.ifCond .ge 8, 3) := by decide +kernel
theorem dX11_size_4 : decode cX11_size 4 = .ok (.iload_n 0, 1) := by decide +kernel
theorem dX11_size_5 : decode cX11_size 5 = .ok (.ineg, 1) := by decide +kernel
theorem dX11_size_6 : decode cX11_size 6 = .ok (.goto 4, 3) := by decide +kernel
theorem dX11_size_9 : decode cX11_size 9 = .ok (.iload_n 0, 1) := by decide +kernel
theorem dX11_size_10 : decode cX11_size 10 = .ok (.ireturn, 1) := by decide +kernel
set_option maxRecDepth 20000 in
theorem ggX11_imbalance_X11_tenthsOf : GoodIn wsX11_imbalance wsX11_tenthsOf := goodIn_r _ [5, 6, 7, 8, 9, 4, 10, 11, 12, 13, 14, 18, 19, 20, 21, 22, 23, 24, 25, 26, 27, 28, 29, 30, 31, 32, 33, 34, 35, 36] (by decide +kernel) (by decide +kernel)
set_option maxRecDepth 20000 in
theorem gX11_imbalance_X11_tenthsOf : GoodIn wsX11_imbalance (wsV RX11 69 RX11 yX11_tenthsOf wsX11_tenthsOf) := goodIn_app (goodIn_of _ (by decide +kernel)) ggX11_imbalance_X11_tenthsOf
set_option maxRecDepth 20000 in
theorem ggX11_imbalance_X11_size : GoodIn wsX11_imbalance wsX11_size := goodIn_r _ [17] (by decide +kernel) (by decide +kernel)
set_option maxRecDepth 20000 in
theorem gX11_imbalance_X11_size : GoodIn wsX11_imbalance (va_wsS RX11 89 yX11_size wsX11_size) := goodIn_app (goodIn_of _ (by decide +kernel)) ggX11_imbalance_X11_size
theorem dX11_imbalance_0 : decode cX11_imbalance 0 = .ok (.aload_n 0, 1) := by decide +kernel
theorem dX11_imbalance_1 : decode cX11_imbalance 1 = .ok (.iload_n 1, 1) := by decide +kernel
theorem dX11_imbalance_2 : decode cX11_imbalance 2 = .ok (.iconst 0, 1) := by decide +kernel
theorem dX11_imbalance_3 : decode cX11_imbalance 3 = .ok (.invokevirtual 69, 3) := by decide +kernel
theorem dX11_imbalance_6 : decode cX11_imbalance 6 = .ok (.aload_n 0, 1) := by decide +kernel
theorem dX11_imbalance_7 : decode cX11_imbalance 7 = .ok (.iload_n 1, 1) := by decide +kernel
theorem dX11_imbalance_8 : decode cX11_imbalance 8 = .ok (.iconst 1, 1) := by decide +kernel
theorem dX11_imbalance_9 : decode cX11_imbalance 9 = .ok (.invokevirtual 69, 3) := by decide +kernel
theorem dX11_imbalance_12 : decode cX11_imbalance 12 = .ok (.isub, 1) := by decide +kernel
theorem dX11_imbalance_13 : decode cX11_imbalance 13 = .ok (.invokestatic 89, 3) := by decide +kernel
theorem dX11_imbalance_16 : decode cX11_imbalance 16 = .ok (.ireturn, 1) := by decide +kernel
set_option maxRecDepth 20000 in
theorem ggX11_adds_X11_in : GoodIn wsX11_adds wsX11_in := goodIn_r _ [5] (by decide +kernel) (by decide +kernel)
set_option maxRecDepth 20000 in
theorem gX11_adds_X11_in : GoodIn wsX11_adds (va_wsS RX11 50 yX11_in wsX11_in) := goodIn_app (goodIn_of _ (by decide +kernel)) ggX11_adds_X11_in
set_option maxRecDepth 20000 in
theorem ggX11_adds_X11_refuses : GoodIn wsX11_adds wsX11_refuses := goodIn_r _ [9, 10, 11, 12, 13, 14, 15, 16, 17, 18, 19, 20, 21, 22, 23, 24, 25, 26, 27, 28, 29, 30, 31] (by decide +kernel) (by decide +kernel)
set_option maxRecDepth 20000 in
theorem gX11_adds_X11_refuses : GoodIn wsX11_adds (wsV RX11 92 RX11 yX11_refuses wsX11_refuses) := goodIn_app (goodIn_of _ (by decide +kernel)) ggX11_adds_X11_refuses
theorem dX11_adds_0 : decode cX11_adds 0 = .ok (.iload_n 2, 1) := by decide +kernel
theorem dX11_adds_1 : decode cX11_adds 1 = .ok (.iconst 1, 1) := by decide +kernel
theorem dX11_adds_2 : decode cX11_adds 2 = .ok (.iload_n 1, 1) := by decide +kernel
theorem dX11_adds_3 : decode cX11_adds 3 = .ok (.iconst 1, 1) := by decide +kernel
theorem dX11_adds_4 : decode cX11_adds 4 = .ok (.if_icmp .ne 8, 3) := by decide +kernel
theorem dX11_adds_7 : decode cX11_adds 7 = .ok (.bipush 54, 2) := by decide +kernel
theorem dX11_adds_9 : decode cX11_adds 9 = .ok (.goto 5, 3) := by decide +kernel
theorem dX11_adds_12 : decode cX11_adds 12 = .ok (.bipush 9, 2) := by decide +kernel
theorem dX11_adds_14 : decode cX11_adds 14 = .ok (.invokestatic 50, 3) := by decide +kernel
theorem dX11_adds_17 : decode cX11_adds 17 = .ok (.ifCond .ne 6, 3) := by decide +kernel
theorem dX11_adds_20 : decode cX11_adds 20 = .ok (.bipush (-2), 2) := by decide +kernel
theorem dX11_adds_22 : decode cX11_adds 22 = .ok (.ireturn, 1) := by decide +kernel
theorem dX11_adds_23 : decode cX11_adds 23 = .ok (.aload_n 0, 1) := by decide +kernel
theorem dX11_adds_24 : decode cX11_adds 24 = .ok (.getfield 9, 3) := by decide +kernel
theorem dX11_adds_27 : decode cX11_adds 27 = .ok (.iconst 0, 1) := by decide +kernel
theorem dX11_adds_28 : decode cX11_adds 28 = .ok (.iaload, 1) := by decide +kernel
theorem dX11_adds_29 : decode cX11_adds 29 = .ok (.istore_n 3, 1) := by decide +kernel
theorem dX11_adds_30 : decode cX11_adds 30 = .ok (.aload_n 0, 1) := by decide +kernel
theorem dX11_adds_31 : decode cX11_adds 31 = .ok (.iload_n 3, 1) := by decide +kernel
theorem dX11_adds_32 : decode cX11_adds 32 = .ok (.bipush 12, 2) := by decide +kernel
theorem dX11_adds_34 : decode cX11_adds 34 = .ok (.if_icmp .ne 7, 3) := by decide +kernel
theorem dX11_adds_37 : decode cX11_adds 37 = .ok (.iconst 1, 1) := by decide +kernel
theorem dX11_adds_38 : decode cX11_adds 38 = .ok (.goto 4, 3) := by decide +kernel
theorem dX11_adds_41 : decode cX11_adds 41 = .ok (.iconst 0, 1) := by decide +kernel
theorem dX11_adds_42 : decode cX11_adds 42 = .ok (.iconst 1, 1) := by decide +kernel
theorem dX11_adds_43 : decode cX11_adds 43 = .ok (.bipush 12, 2) := by decide +kernel
theorem dX11_adds_45 : decode cX11_adds 45 = .ok (.invokevirtual 92, 3) := by decide +kernel
theorem dX11_adds_48 : decode cX11_adds 48 = .ok (.ifCond .eq 6, 3) := by decide +kernel
theorem dX11_adds_51 : decode cX11_adds 51 = .ok (.bipush (-3), 2) := by decide +kernel
theorem dX11_adds_53 : decode cX11_adds 53 = .ok (.ireturn, 1) := by decide +kernel
theorem dX11_adds_54 : decode cX11_adds 54 = .ok (.aload_n 0, 1) := by decide +kernel
theorem dX11_adds_55 : decode cX11_adds 55 = .ok (.getfield 9, 3) := by decide +kernel
theorem dX11_adds_58 : decode cX11_adds 58 = .ok (.iconst 0, 1) := by decide +kernel
theorem dX11_adds_59 : decode cX11_adds 59 = .ok (.dup2, 1) := by decide +kernel
theorem dX11_adds_60 : decode cX11_adds 60 = .ok (.iaload, 1) := by decide +kernel
theorem dX11_adds_61 : decode cX11_adds 61 = .ok (.iconst 1, 1) := by decide +kernel
theorem dX11_adds_62 : decode cX11_adds 62 = .ok (.iadd, 1) := by decide +kernel
theorem dX11_adds_63 : decode cX11_adds 63 = .ok (.iastore, 1) := by decide +kernel
theorem dX11_adds_64 : decode cX11_adds 64 = .ok (.iconst 0, 1) := by decide +kernel
theorem dX11_adds_65 : decode cX11_adds 65 = .ok (.istore 4, 2) := by decide +kernel
theorem dX11_adds_67 : decode cX11_adds 67 = .ok (.iload 4, 2) := by decide +kernel
theorem dX11_adds_69 : decode cX11_adds 69 = .ok (.iconst 4, 1) := by decide +kernel
theorem dX11_adds_70 : decode cX11_adds 70 = .ok (.if_icmp .ge 23, 3) := by decide +kernel
theorem dX11_adds_73 : decode cX11_adds 73 = .ok (.aload_n 0, 1) := by decide +kernel
theorem dX11_adds_74 : decode cX11_adds 74 = .ok (.getfield 9, 3) := by decide +kernel
theorem dX11_adds_77 : decode cX11_adds 77 = .ok (.iconst 5, 1) := by decide +kernel
theorem dX11_adds_78 : decode cX11_adds 78 = .ok (.iconst 4, 1) := by decide +kernel
theorem dX11_adds_79 : decode cX11_adds 79 = .ok (.iload_n 3, 1) := by decide +kernel
theorem dX11_adds_80 : decode cX11_adds 80 = .ok (.imul, 1) := by decide +kernel
theorem dX11_adds_81 : decode cX11_adds 81 = .ok (.iadd, 1) := by decide +kernel
theorem dX11_adds_82 : decode cX11_adds 82 = .ok (.iload 4, 2) := by decide +kernel
theorem dX11_adds_84 : decode cX11_adds 84 = .ok (.iadd, 1) := by decide +kernel
theorem dX11_adds_85 : decode cX11_adds 85 = .ok (.iconst 0, 1) := by decide +kernel
theorem dX11_adds_86 : decode cX11_adds 86 = .ok (.iastore, 1) := by decide +kernel
theorem dX11_adds_87 : decode cX11_adds 87 = .ok (.iinc 4 1, 3) := by decide +kernel
theorem dX11_adds_90 : decode cX11_adds 90 = .ok (.goto (-23), 3) := by decide +kernel
theorem dX11_adds_93 : decode cX11_adds 93 = .ok (.aload_n 0, 1) := by decide +kernel
theorem dX11_adds_94 : decode cX11_adds 94 = .ok (.getfield 9, 3) := by decide +kernel
theorem dX11_adds_97 : decode cX11_adds 97 = .ok (.iconst 5, 1) := by decide +kernel
theorem dX11_adds_98 : decode cX11_adds 98 = .ok (.iconst 4, 1) := by decide +kernel
theorem dX11_adds_99 : decode cX11_adds 99 = .ok (.iload_n 3, 1) := by decide +kernel
theorem dX11_adds_100 : decode cX11_adds 100 = .ok (.imul, 1) := by decide +kernel
theorem dX11_adds_101 : decode cX11_adds 101 = .ok (.iadd, 1) := by decide +kernel
theorem dX11_adds_102 : decode cX11_adds 102 = .ok (.iconst 0, 1) := by decide +kernel
theorem dX11_adds_103 : decode cX11_adds 103 = .ok (.iadd, 1) := by decide +kernel
theorem dX11_adds_104 : decode cX11_adds 104 = .ok (.iload_n 1, 1) := by decide +kernel
theorem dX11_adds_105 : decode cX11_adds 105 = .ok (.iastore, 1) := by decide +kernel
theorem dX11_adds_106 : decode cX11_adds 106 = .ok (.aload_n 0, 1) := by decide +kernel
theorem dX11_adds_107 : decode cX11_adds 107 = .ok (.getfield 9, 3) := by decide +kernel
theorem dX11_adds_110 : decode cX11_adds 110 = .ok (.iconst 5, 1) := by decide +kernel
theorem dX11_adds_111 : decode cX11_adds 111 = .ok (.iconst 4, 1) := by decide +kernel
theorem dX11_adds_112 : decode cX11_adds 112 = .ok (.iload_n 3, 1) := by decide +kernel
theorem dX11_adds_113 : decode cX11_adds 113 = .ok (.imul, 1) := by decide +kernel
theorem dX11_adds_114 : decode cX11_adds 114 = .ok (.iadd, 1) := by decide +kernel
theorem dX11_adds_115 : decode cX11_adds 115 = .ok (.iconst 1, 1) := by decide +kernel
theorem dX11_adds_116 : decode cX11_adds 116 = .ok (.iadd, 1) := by decide +kernel
theorem dX11_adds_117 : decode cX11_adds 117 = .ok (.iload_n 2, 1) := by decide +kernel
theorem dX11_adds_118 : decode cX11_adds 118 = .ok (.iastore, 1) := by decide +kernel
theorem dX11_adds_119 : decode cX11_adds 119 = .ok (.iload_n 3, 1) := by decide +kernel
theorem dX11_adds_120 : decode cX11_adds 120 = .ok (.ireturn, 1) := by decide +kernel
set_option maxRecDepth 20000 in
theorem ggX11_premise_X11_begins : GoodIn wsX11_premise wsX11_begins := goodIn_r _ [5, 6, 7, 8, 4, 9, 10, 11, 31, 32, 33, 34, 35, 36, 37, 38, 39, 40, 41, 42, 43, 44, 45, 46, 47, 48, 49] (by decide +kernel) (by decide +kernel)
set_option maxRecDepth 20000 in
theorem gX11_premise_X11_begins : GoodIn wsX11_premise (wsV RX11 96 RX11 yX11_begins wsX11_begins) := goodIn_app (goodIn_of _ (by decide +kernel)) ggX11_premise_X11_begins
set_option maxRecDepth 20000 in
theorem ggX11_premise_X11_adds : GoodIn wsX11_premise wsX11_adds := goodIn_r _ [15, 10, 16, 17, 4, 18, 19, 20, 21, 22, 23, 24, 25, 31, 32, 33, 34, 35, 36, 37, 38, 39, 40, 41, 42, 43, 44, 45, 46, 47, 48, 49] (by decide +kernel) (by decide +kernel)
set_option maxRecDepth 20000 in
theorem gX11_premise_X11_adds : GoodIn wsX11_premise (wsV RX11 99 RX11 yX11_adds wsX11_adds) := goodIn_app (goodIn_of _ (by decide +kernel)) ggX11_premise_X11_adds
set_option maxRecDepth 20000 in
theorem ggX11_premise_X11_ends : GoodIn wsX11_premise wsX11_ends := goodIn_r _ [29, 30, 6, 7, 8, 4, 9, 10, 11, 31, 32, 33, 34, 35, 36, 37, 38, 39, 40, 41, 42, 43, 44, 45, 46, 47, 48, 49] (by decide +kernel) (by decide +kernel)
set_option maxRecDepth 20000 in
theorem gX11_premise_X11_ends : GoodIn wsX11_premise (wsV RX11 102 RX11 yX11_ends wsX11_ends) := goodIn_app (goodIn_of _ (by decide +kernel)) ggX11_premise_X11_ends
theorem dX11_premise_0 : decode cX11_premise 0 = .ok (.aload_n 0, 1) := by decide +kernel
theorem dX11_premise_1 : decode cX11_premise 1 = .ok (.invokevirtual 96, 3) := by decide +kernel
theorem dX11_premise_4 : decode cX11_premise 4 = .ok (.aload_n 0, 1) := by decide +kernel
theorem dX11_premise_5 : decode cX11_premise 5 = .ok (.aload_n 0, 1) := by decide +kernel
theorem dX11_premise_6 : decode cX11_premise 6 = .ok (.iconst 0, 1) := by decide +kernel
theorem dX11_premise_7 : decode cX11_premise 7 = .ok (.iload_n 1, 1) := by decide +kernel
theorem dX11_premise_8 : decode cX11_premise 8 = .ok (.invokevirtual 99, 3) := by decide +kernel
theorem dX11_premise_11 : decode cX11_premise 11 = .ok (.invokevirtual 102, 3) := by decide +kernel
theorem dX11_premise_14 : decode cX11_premise 14 = .ok (.ireturn, 1) := by decide +kernel
set_option maxRecDepth 20000 in
theorem ggX11_conclusion_X11_begins : GoodIn wsX11_conclusion wsX11_begins := goodIn_r _ [5, 6, 7, 8, 4, 9, 10, 11, 31, 32, 33, 34, 35, 36, 37, 38, 39, 40, 41, 42, 43, 44, 45, 46, 47, 48, 49] (by decide +kernel) (by decide +kernel)
set_option maxRecDepth 20000 in
theorem gX11_conclusion_X11_begins : GoodIn wsX11_conclusion (wsV RX11 96 RX11 yX11_begins wsX11_begins) := goodIn_app (goodIn_of _ (by decide +kernel)) ggX11_conclusion_X11_begins
set_option maxRecDepth 20000 in
theorem ggX11_conclusion_X11_adds : GoodIn wsX11_conclusion wsX11_adds := goodIn_r _ [15, 10, 16, 17, 4, 18, 19, 20, 21, 22, 23, 24, 25, 31, 32, 33, 34, 35, 36, 37, 38, 39, 40, 41, 42, 43, 44, 45, 46, 47, 48, 49] (by decide +kernel) (by decide +kernel)
set_option maxRecDepth 20000 in
theorem gX11_conclusion_X11_adds : GoodIn wsX11_conclusion (wsV RX11 99 RX11 yX11_adds wsX11_adds) := goodIn_app (goodIn_of _ (by decide +kernel)) ggX11_conclusion_X11_adds
set_option maxRecDepth 20000 in
theorem ggX11_conclusion_X11_ends : GoodIn wsX11_conclusion wsX11_ends := goodIn_r _ [29, 30, 6, 7, 8, 4, 9, 10, 11, 31, 32, 33, 34, 35, 36, 37, 38, 39, 40, 41, 42, 43, 44, 45, 46, 47, 48, 49] (by decide +kernel) (by decide +kernel)
set_option maxRecDepth 20000 in
theorem gX11_conclusion_X11_ends : GoodIn wsX11_conclusion (wsV RX11 102 RX11 yX11_ends wsX11_ends) := goodIn_app (goodIn_of _ (by decide +kernel)) ggX11_conclusion_X11_ends
theorem dX11_conclusion_0 : decode cX11_conclusion 0 = .ok (.aload_n 0, 1) := by decide +kernel
theorem dX11_conclusion_1 : decode cX11_conclusion 1 = .ok (.invokevirtual 96, 3) := by decide +kernel
theorem dX11_conclusion_4 : decode cX11_conclusion 4 = .ok (.aload_n 0, 1) := by decide +kernel
theorem dX11_conclusion_5 : decode cX11_conclusion 5 = .ok (.aload_n 0, 1) := by decide +kernel
theorem dX11_conclusion_6 : decode cX11_conclusion 6 = .ok (.iconst 1, 1) := by decide +kernel
theorem dX11_conclusion_7 : decode cX11_conclusion 7 = .ok (.iload_n 1, 1) := by decide +kernel
theorem dX11_conclusion_8 : decode cX11_conclusion 8 = .ok (.invokevirtual 99, 3) := by decide +kernel
theorem dX11_conclusion_11 : decode cX11_conclusion 11 = .ok (.invokevirtual 102, 3) := by decide +kernel
theorem dX11_conclusion_14 : decode cX11_conclusion 14 = .ok (.ireturn, 1) := by decide +kernel
set_option maxRecDepth 20000 in
theorem ggX11_addsCart_X11_in : GoodIn wsX11_addsCart wsX11_in := goodIn_r _ [5] (by decide +kernel) (by decide +kernel)
set_option maxRecDepth 20000 in
theorem gX11_addsCart_X11_in : GoodIn wsX11_addsCart (va_wsS RX11 50 yX11_in wsX11_in) := goodIn_app (goodIn_of _ (by decide +kernel)) ggX11_addsCart_X11_in
set_option maxRecDepth 20000 in
theorem ggX11_addsCart_X11_refuses : GoodIn wsX11_addsCart wsX11_refuses := goodIn_r _ [9, 10, 11, 12, 13, 14, 15, 16, 17, 18, 19, 20, 21, 22, 23, 24, 25, 26, 27, 28, 29, 30, 31] (by decide +kernel) (by decide +kernel)
set_option maxRecDepth 20000 in
theorem gX11_addsCart_X11_refuses : GoodIn wsX11_addsCart (wsV RX11 92 RX11 yX11_refuses wsX11_refuses) := goodIn_app (goodIn_of _ (by decide +kernel)) ggX11_addsCart_X11_refuses
theorem dX11_addsCart_0 : decode cX11_addsCart 0 = .ok (.iload_n 1, 1) := by decide +kernel
theorem dX11_addsCart_1 : decode cX11_addsCart 1 = .ok (.iconst 1, 1) := by decide +kernel
theorem dX11_addsCart_2 : decode cX11_addsCart 2 = .ok (.bipush 60, 2) := by decide +kernel
theorem dX11_addsCart_4 : decode cX11_addsCart 4 = .ok (.invokestatic 50, 3) := by decide +kernel
theorem dX11_addsCart_7 : decode cX11_addsCart 7 = .ok (.ifCond .ne 6, 3) := by decide +kernel
theorem dX11_addsCart_10 : decode cX11_addsCart 10 = .ok (.bipush (-2), 2) := by decide +kernel
theorem dX11_addsCart_12 : decode cX11_addsCart 12 = .ok (.ireturn, 1) := by decide +kernel
theorem dX11_addsCart_13 : decode cX11_addsCart 13 = .ok (.aload_n 0, 1) := by decide +kernel
theorem dX11_addsCart_14 : decode cX11_addsCart 14 = .ok (.getfield 9, 3) := by decide +kernel
theorem dX11_addsCart_17 : decode cX11_addsCart 17 = .ok (.iconst 1, 1) := by decide +kernel
theorem dX11_addsCart_18 : decode cX11_addsCart 18 = .ok (.iaload, 1) := by decide +kernel
theorem dX11_addsCart_19 : decode cX11_addsCart 19 = .ok (.istore_n 2, 1) := by decide +kernel
theorem dX11_addsCart_20 : decode cX11_addsCart 20 = .ok (.aload_n 0, 1) := by decide +kernel
theorem dX11_addsCart_21 : decode cX11_addsCart 21 = .ok (.iload_n 2, 1) := by decide +kernel
theorem dX11_addsCart_22 : decode cX11_addsCart 22 = .ok (.iconst 4, 1) := by decide +kernel
theorem dX11_addsCart_23 : decode cX11_addsCart 23 = .ok (.if_icmp .ne 7, 3) := by decide +kernel
theorem dX11_addsCart_26 : decode cX11_addsCart 26 = .ok (.iconst 1, 1) := by decide +kernel
theorem dX11_addsCart_27 : decode cX11_addsCart 27 = .ok (.goto 4, 3) := by decide +kernel
theorem dX11_addsCart_30 : decode cX11_addsCart 30 = .ok (.iconst 0, 1) := by decide +kernel
theorem dX11_addsCart_31 : decode cX11_addsCart 31 = .ok (.iconst 1, 1) := by decide +kernel
theorem dX11_addsCart_32 : decode cX11_addsCart 32 = .ok (.iconst 4, 1) := by decide +kernel
theorem dX11_addsCart_33 : decode cX11_addsCart 33 = .ok (.invokevirtual 92, 3) := by decide +kernel
theorem dX11_addsCart_36 : decode cX11_addsCart 36 = .ok (.ifCond .eq 6, 3) := by decide +kernel
theorem dX11_addsCart_39 : decode cX11_addsCart 39 = .ok (.bipush (-3), 2) := by decide +kernel
theorem dX11_addsCart_41 : decode cX11_addsCart 41 = .ok (.ireturn, 1) := by decide +kernel
theorem dX11_addsCart_42 : decode cX11_addsCart 42 = .ok (.aload_n 0, 1) := by decide +kernel
theorem dX11_addsCart_43 : decode cX11_addsCart 43 = .ok (.getfield 9, 3) := by decide +kernel
theorem dX11_addsCart_46 : decode cX11_addsCart 46 = .ok (.iconst 1, 1) := by decide +kernel
theorem dX11_addsCart_47 : decode cX11_addsCart 47 = .ok (.dup2, 1) := by decide +kernel
theorem dX11_addsCart_48 : decode cX11_addsCart 48 = .ok (.iaload, 1) := by decide +kernel
theorem dX11_addsCart_49 : decode cX11_addsCart 49 = .ok (.iconst 1, 1) := by decide +kernel
theorem dX11_addsCart_50 : decode cX11_addsCart 50 = .ok (.iadd, 1) := by decide +kernel
theorem dX11_addsCart_51 : decode cX11_addsCart 51 = .ok (.iastore, 1) := by decide +kernel
theorem dX11_addsCart_52 : decode cX11_addsCart 52 = .ok (.aload_n 0, 1) := by decide +kernel
theorem dX11_addsCart_53 : decode cX11_addsCart 53 = .ok (.getfield 9, 3) := by decide +kernel
theorem dX11_addsCart_56 : decode cX11_addsCart 56 = .ok (.bipush 53, 2) := by decide +kernel
theorem dX11_addsCart_58 : decode cX11_addsCart 58 = .ok (.iconst 2, 1) := by decide +kernel
theorem dX11_addsCart_59 : decode cX11_addsCart 59 = .ok (.iload_n 2, 1) := by decide +kernel
theorem dX11_addsCart_60 : decode cX11_addsCart 60 = .ok (.imul, 1) := by decide +kernel
theorem dX11_addsCart_61 : decode cX11_addsCart 61 = .ok (.iadd, 1) := by decide +kernel
theorem dX11_addsCart_62 : decode cX11_addsCart 62 = .ok (.iload_n 1, 1) := by decide +kernel
theorem dX11_addsCart_63 : decode cX11_addsCart 63 = .ok (.iastore, 1) := by decide +kernel
theorem dX11_addsCart_64 : decode cX11_addsCart 64 = .ok (.aload_n 0, 1) := by decide +kernel
theorem dX11_addsCart_65 : decode cX11_addsCart 65 = .ok (.getfield 9, 3) := by decide +kernel
theorem dX11_addsCart_68 : decode cX11_addsCart 68 = .ok (.bipush 53, 2) := by decide +kernel
theorem dX11_addsCart_70 : decode cX11_addsCart 70 = .ok (.iconst 2, 1) := by decide +kernel
theorem dX11_addsCart_71 : decode cX11_addsCart 71 = .ok (.iload_n 2, 1) := by decide +kernel
theorem dX11_addsCart_72 : decode cX11_addsCart 72 = .ok (.imul, 1) := by decide +kernel
theorem dX11_addsCart_73 : decode cX11_addsCart 73 = .ok (.iadd, 1) := by decide +kernel
theorem dX11_addsCart_74 : decode cX11_addsCart 74 = .ok (.iconst 1, 1) := by decide +kernel
theorem dX11_addsCart_75 : decode cX11_addsCart 75 = .ok (.iadd, 1) := by decide +kernel
theorem dX11_addsCart_76 : decode cX11_addsCart 76 = .ok (.iconst 0, 1) := by decide +kernel
theorem dX11_addsCart_77 : decode cX11_addsCart 77 = .ok (.iastore, 1) := by decide +kernel
theorem dX11_addsCart_78 : decode cX11_addsCart 78 = .ok (.iload_n 2, 1) := by decide +kernel
theorem dX11_addsCart_79 : decode cX11_addsCart 79 = .ok (.ireturn, 1) := by decide +kernel
set_option maxRecDepth 20000 in
theorem ggX11_cart_X11_begins : GoodIn wsX11_cart wsX11_begins := goodIn_r _ [5, 6, 7, 8, 4, 9, 10, 11, 31, 32, 33, 34, 35, 36, 37, 38, 39, 40, 41, 42, 43, 44, 45, 46, 47, 48, 49] (by decide +kernel) (by decide +kernel)
set_option maxRecDepth 20000 in
theorem gX11_cart_X11_begins : GoodIn wsX11_cart (wsV RX11 96 RX11 yX11_begins wsX11_begins) := goodIn_app (goodIn_of _ (by decide +kernel)) ggX11_cart_X11_begins
set_option maxRecDepth 20000 in
theorem ggX11_cart_X11_addsCart : GoodIn wsX11_cart wsX11_addsCart := goodIn_r _ [15, 10, 16, 17, 4, 18, 19, 20, 21, 22, 23, 24, 25, 31, 32, 33, 34, 35, 36, 37, 38, 39, 40, 41, 42, 43, 44, 45, 46, 47, 48, 49] (by decide +kernel) (by decide +kernel)
set_option maxRecDepth 20000 in
theorem gX11_cart_X11_addsCart : GoodIn wsX11_cart (wsV RX11 105 RX11 yX11_addsCart wsX11_addsCart) := goodIn_app (goodIn_of _ (by decide +kernel)) ggX11_cart_X11_addsCart
set_option maxRecDepth 20000 in
theorem ggX11_cart_X11_ends : GoodIn wsX11_cart wsX11_ends := goodIn_r _ [29, 30, 6, 7, 8, 4, 9, 10, 11, 31, 32, 33, 34, 35, 36, 37, 38, 39, 40, 41, 42, 43, 44, 45, 46, 47, 48, 49] (by decide +kernel) (by decide +kernel)
set_option maxRecDepth 20000 in
theorem gX11_cart_X11_ends : GoodIn wsX11_cart (wsV RX11 102 RX11 yX11_ends wsX11_ends) := goodIn_app (goodIn_of _ (by decide +kernel)) ggX11_cart_X11_ends
theorem dX11_cart_0 : decode cX11_cart 0 = .ok (.aload_n 0, 1) := by decide +kernel
theorem dX11_cart_1 : decode cX11_cart 1 = .ok (.invokevirtual 96, 3) := by decide +kernel
theorem dX11_cart_4 : decode cX11_cart 4 = .ok (.aload_n 0, 1) := by decide +kernel
theorem dX11_cart_5 : decode cX11_cart 5 = .ok (.aload_n 0, 1) := by decide +kernel
theorem dX11_cart_6 : decode cX11_cart 6 = .ok (.iload_n 1, 1) := by decide +kernel
theorem dX11_cart_7 : decode cX11_cart 7 = .ok (.invokevirtual 105, 3) := by decide +kernel
theorem dX11_cart_10 : decode cX11_cart 10 = .ok (.invokevirtual 102, 3) := by decide +kernel
theorem dX11_cart_13 : decode cX11_cart 13 = .ok (.ireturn, 1) := by decide +kernel
set_option maxRecDepth 20000 in
theorem ggX11_addsRoad_X11_in : GoodIn wsX11_addsRoad wsX11_in := goodIn_r _ [5] (by decide +kernel) (by decide +kernel)
set_option maxRecDepth 20000 in
theorem gX11_addsRoad_X11_in : GoodIn wsX11_addsRoad (va_wsS RX11 50 yX11_in wsX11_in) := goodIn_app (goodIn_of _ (by decide +kernel)) ggX11_addsRoad_X11_in
set_option maxRecDepth 20000 in
theorem ggX11_addsRoad_X11_refuses : GoodIn wsX11_addsRoad wsX11_refuses := goodIn_r _ [9, 10, 11, 12, 13, 14, 15, 16, 17, 18, 19, 20, 21, 22, 23, 24, 25, 26, 27, 28, 29, 30, 31] (by decide +kernel) (by decide +kernel)
set_option maxRecDepth 20000 in
theorem gX11_addsRoad_X11_refuses : GoodIn wsX11_addsRoad (wsV RX11 92 RX11 yX11_refuses wsX11_refuses) := goodIn_app (goodIn_of _ (by decide +kernel)) ggX11_addsRoad_X11_refuses
theorem dX11_addsRoad_0 : decode cX11_addsRoad 0 = .ok (.iload_n 1, 1) := by decide +kernel
theorem dX11_addsRoad_1 : decode cX11_addsRoad 1 = .ok (.iconst 1, 1) := by decide +kernel
theorem dX11_addsRoad_2 : decode cX11_addsRoad 2 = .ok (.bipush 99, 2) := by decide +kernel
theorem dX11_addsRoad_4 : decode cX11_addsRoad 4 = .ok (.invokestatic 50, 3) := by decide +kernel
theorem dX11_addsRoad_7 : decode cX11_addsRoad 7 = .ok (.ifCond .eq 23, 3) := by decide +kernel
theorem dX11_addsRoad_10 : decode cX11_addsRoad 10 = .ok (.iload_n 2, 1) := by decide +kernel
theorem dX11_addsRoad_11 : decode cX11_addsRoad 11 = .ok (.iconst 1, 1) := by decide +kernel
theorem dX11_addsRoad_12 : decode cX11_addsRoad 12 = .ok (.bipush 9, 2) := by decide +kernel
theorem dX11_addsRoad_14 : decode cX11_addsRoad 14 = .ok (.invokestatic 50, 3) := by decide +kernel
theorem dX11_addsRoad_17 : decode cX11_addsRoad 17 = .ok (.ifCond .eq 13, 3) := by decide +kernel
theorem dX11_addsRoad_20 : decode cX11_addsRoad 20 = .ok (.iload_n 3, 1) := by decide +kernel
theorem dX11_addsRoad_21 : decode cX11_addsRoad 21 = .ok (.iconst 0, 1) := by decide +kernel
theorem dX11_addsRoad_22 : decode cX11_addsRoad 22 = .ok (.bipush 9, 2) := by decide +kernel
theorem dX11_addsRoad_24 : decode cX11_addsRoad 24 = .ok (.invokestatic 50, 3) := by decide +kernel
theorem dX11_addsRoad_27 : decode cX11_addsRoad 27 = .ok (.ifCond .ne 6, 3) := by decide +kernel
theorem dX11_addsRoad_30 : decode cX11_addsRoad 30 = .ok (.bipush (-2), 2) := by decide +kernel
theorem dX11_addsRoad_32 : decode cX11_addsRoad 32 = .ok (.ireturn, 1) := by decide +kernel
theorem dX11_addsRoad_33 : decode cX11_addsRoad 33 = .ok (.aload_n 0, 1) := by decide +kernel
theorem dX11_addsRoad_34 : decode cX11_addsRoad 34 = .ok (.getfield 9, 3) := by decide +kernel
theorem dX11_addsRoad_37 : decode cX11_addsRoad 37 = .ok (.iconst 2, 1) := by decide +kernel
theorem dX11_addsRoad_38 : decode cX11_addsRoad 38 = .ok (.iaload, 1) := by decide +kernel
theorem dX11_addsRoad_39 : decode cX11_addsRoad 39 = .ok (.istore 4, 2) := by decide +kernel
theorem dX11_addsRoad_41 : decode cX11_addsRoad 41 = .ok (.aload_n 0, 1) := by decide +kernel
theorem dX11_addsRoad_42 : decode cX11_addsRoad 42 = .ok (.iload 4, 2) := by decide +kernel
theorem dX11_addsRoad_44 : decode cX11_addsRoad 44 = .ok (.iconst 5, 1) := by decide +kernel
theorem dX11_addsRoad_45 : decode cX11_addsRoad 45 = .ok (.if_icmp .ne 7, 3) := by decide +kernel
theorem dX11_addsRoad_48 : decode cX11_addsRoad 48 = .ok (.iconst 1, 1) := by decide +kernel
theorem dX11_addsRoad_49 : decode cX11_addsRoad 49 = .ok (.goto 4, 3) := by decide +kernel
theorem dX11_addsRoad_52 : decode cX11_addsRoad 52 = .ok (.iconst 0, 1) := by decide +kernel
theorem dX11_addsRoad_53 : decode cX11_addsRoad 53 = .ok (.iconst 1, 1) := by decide +kernel
theorem dX11_addsRoad_54 : decode cX11_addsRoad 54 = .ok (.iconst 5, 1) := by decide +kernel
theorem dX11_addsRoad_55 : decode cX11_addsRoad 55 = .ok (.invokevirtual 92, 3) := by decide +kernel
theorem dX11_addsRoad_58 : decode cX11_addsRoad 58 = .ok (.ifCond .eq 6, 3) := by decide +kernel
theorem dX11_addsRoad_61 : decode cX11_addsRoad 61 = .ok (.bipush (-3), 2) := by decide +kernel
theorem dX11_addsRoad_63 : decode cX11_addsRoad 63 = .ok (.ireturn, 1) := by decide +kernel
theorem dX11_addsRoad_64 : decode cX11_addsRoad 64 = .ok (.aload_n 0, 1) := by decide +kernel
theorem dX11_addsRoad_65 : decode cX11_addsRoad 65 = .ok (.getfield 9, 3) := by decide +kernel
theorem dX11_addsRoad_68 : decode cX11_addsRoad 68 = .ok (.iconst 2, 1) := by decide +kernel
theorem dX11_addsRoad_69 : decode cX11_addsRoad 69 = .ok (.dup2, 1) := by decide +kernel
theorem dX11_addsRoad_70 : decode cX11_addsRoad 70 = .ok (.iaload, 1) := by decide +kernel
theorem dX11_addsRoad_71 : decode cX11_addsRoad 71 = .ok (.iconst 1, 1) := by decide +kernel
theorem dX11_addsRoad_72 : decode cX11_addsRoad 72 = .ok (.iadd, 1) := by decide +kernel
theorem dX11_addsRoad_73 : decode cX11_addsRoad 73 = .ok (.iastore, 1) := by decide +kernel
theorem dX11_addsRoad_74 : decode cX11_addsRoad 74 = .ok (.aload_n 0, 1) := by decide +kernel
theorem dX11_addsRoad_75 : decode cX11_addsRoad 75 = .ok (.getfield 9, 3) := by decide +kernel
theorem dX11_addsRoad_78 : decode cX11_addsRoad 78 = .ok (.bipush 61, 2) := by decide +kernel
theorem dX11_addsRoad_80 : decode cX11_addsRoad 80 = .ok (.iconst 4, 1) := by decide +kernel
theorem dX11_addsRoad_81 : decode cX11_addsRoad 81 = .ok (.iload 4, 2) := by decide +kernel
theorem dX11_addsRoad_83 : decode cX11_addsRoad 83 = .ok (.imul, 1) := by decide +kernel
theorem dX11_addsRoad_84 : decode cX11_addsRoad 84 = .ok (.iadd, 1) := by decide +kernel
theorem dX11_addsRoad_85 : decode cX11_addsRoad 85 = .ok (.iload_n 1, 1) := by decide +kernel
theorem dX11_addsRoad_86 : decode cX11_addsRoad 86 = .ok (.iastore, 1) := by decide +kernel
theorem dX11_addsRoad_87 : decode cX11_addsRoad 87 = .ok (.aload_n 0, 1) := by decide +kernel
theorem dX11_addsRoad_88 : decode cX11_addsRoad 88 = .ok (.getfield 9, 3) := by decide +kernel
theorem dX11_addsRoad_91 : decode cX11_addsRoad 91 = .ok (.bipush 61, 2) := by decide +kernel
theorem dX11_addsRoad_93 : decode cX11_addsRoad 93 = .ok (.iconst 4, 1) := by decide +kernel
theorem dX11_addsRoad_94 : decode cX11_addsRoad 94 = .ok (.iload 4, 2) := by decide +kernel
theorem dX11_addsRoad_96 : decode cX11_addsRoad 96 = .ok (.imul, 1) := by decide +kernel
theorem dX11_addsRoad_97 : decode cX11_addsRoad 97 = .ok (.iadd, 1) := by decide +kernel
