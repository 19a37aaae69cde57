theorem dX8_putOn_210 : decode cX8_putOn 210 = .ok (.iload_n 2, 1) := by decide +kernel
theorem dX8_putOn_211 : decode cX8_putOn 211 = .ok (.invokevirtual 89, 3) := by decide +kernel
theorem dX8_putOn_214 : decode cX8_putOn 214 = .ok (.ireturn, 1) := by decide +kernel
set_option maxRecDepth 20000 in
theorem ggX8_takeOff_X9_isThing : GoodIn wsX8_takeOff wsX9_isThing := goodIn_r _ [11, 12, 32, 33, 34, 35, 36, 37, 38, 39, 40, 41, 42, 43, 44, 45, 46, 47] (by decide +kernel) (by decide +kernel)
set_option maxRecDepth 20000 in
theorem gX8_takeOff_X9_isThing : GoodIn wsX8_takeOff (wsV RX8 76 RX9 yX9_isThing wsX9_isThing) := goodIn_app (goodIn_of _ (by decide +kernel)) ggX8_takeOff_X9_isThing
set_option maxRecDepth 20000 in
theorem ggX8_takeOff_X6_refuse : GoodIn wsX8_takeOff wsX6_refuse := goodIn_r _ [17, 18, 19, 20, 21, 48, 49, 50, 51] (by decide +kernel) (by decide +kernel)
set_option maxRecDepth 20000 in
theorem gX8_takeOff_X6_refuse : GoodIn wsX8_takeOff (wsV RX8 29 RX6 yX6_refuse wsX6_refuse) := goodIn_app (goodIn_of _ (by decide +kernel)) ggX8_takeOff_X6_refuse
set_option maxRecDepth 20000 in
theorem ggX8_takeOff_X9_weightOn : GoodIn wsX8_takeOff wsX9_weightOn := goodIn_r _ [25, 12, 26, 27, 28, 32, 33, 34, 35, 36, 37, 38, 39, 40, 41, 42, 43, 44, 45, 46, 47] (by decide +kernel) (by decide +kernel)
set_option maxRecDepth 20000 in
theorem gX8_takeOff_X9_weightOn : GoodIn wsX8_takeOff (wsV RX8 86 RX9 yX9_weightOn wsX9_weightOn) := goodIn_app (goodIn_of _ (by decide +kernel)) ggX8_takeOff_X9_weightOn
theorem dX8_takeOff_0 : decode cX8_takeOff 0 = .ok (.aload_n 0, 1) := by decide +kernel
theorem dX8_takeOff_1 : decode cX8_takeOff 1 = .ok (.getfield 9, 3) := by decide +kernel
theorem dX8_takeOff_4 : decode cX8_takeOff 4 = .ok (.iload_n 1, 1) := by decide +kernel
theorem dX8_takeOff_5 : decode cX8_takeOff 5 = .ok (.invokevirtual 76, 3) := by decide +kernel
theorem dX8_takeOff_8 : decode cX8_takeOff 8 = .ok (.ifCond .ne 5, 3) := by decide +kernel
theorem dX8_takeOff_11 : decode cX8_takeOff 11 = .ok (.iconst (-1), 1) := by decide +kernel
theorem dX8_takeOff_12 : decode cX8_takeOff 12 = .ok (.ireturn, 1) := by decide +kernel
theorem dX8_takeOff_13 : decode cX8_takeOff 13 = .ok (.aload_n 0, 1) := by decide +kernel
theorem dX8_takeOff_14 : decode cX8_takeOff 14 = .ok (.getfield 9, 3) := by decide +kernel
theorem dX8_takeOff_17 : decode cX8_takeOff 17 = .ok (.getfield 42, 3) := by decide +kernel
theorem dX8_takeOff_20 : decode cX8_takeOff 20 = .ok (.iload_n 1, 1) := by decide +kernel
theorem dX8_takeOff_21 : decode cX8_takeOff 21 = .ok (.iaload, 1) := by decide +kernel
theorem dX8_takeOff_22 : decode cX8_takeOff 22 = .ok (.istore_n 2, 1) := by decide +kernel
theorem dX8_takeOff_23 : decode cX8_takeOff 23 = .ok (.iload_n 2, 1) := by decide +kernel
theorem dX8_takeOff_24 : decode cX8_takeOff 24 = .ok (.bipush (-4), 2) := by decide +kernel
theorem dX8_takeOff_26 : decode cX8_takeOff 26 = .ok (.if_icmp .ne 14, 3) := by decide +kernel
theorem dX8_takeOff_29 : decode cX8_takeOff 29 = .ok (.aload_n 0, 1) := by decide +kernel
theorem dX8_takeOff_30 : decode cX8_takeOff 30 = .ok (.getfield 19, 3) := by decide +kernel
theorem dX8_takeOff_33 : decode cX8_takeOff 33 = .ok (.bipush 6, 2) := by decide +kernel
theorem dX8_takeOff_35 : decode cX8_takeOff 35 = .ok (.iload_n 1, 1) := by decide +kernel
theorem dX8_takeOff_36 : decode cX8_takeOff 36 = .ok (.invokevirtual 29, 3) := by decide +kernel
theorem dX8_takeOff_39 : decode cX8_takeOff 39 = .ok (.ireturn, 1) := by decide +kernel
theorem dX8_takeOff_40 : decode cX8_takeOff 40 = .ok (.aload_n 0, 1) := by decide +kernel
theorem dX8_takeOff_41 : decode cX8_takeOff 41 = .ok (.getfield 9, 3) := by decide +kernel
theorem dX8_takeOff_44 : decode cX8_takeOff 44 = .ok (.iload_n 2, 1) := by decide +kernel
theorem dX8_takeOff_45 : decode cX8_takeOff 45 = .ok (.iconst 0, 1) := by decide +kernel
theorem dX8_takeOff_46 : decode cX8_takeOff 46 = .ok (.invokevirtual 86, 3) := by decide +kernel
theorem dX8_takeOff_49 : decode cX8_takeOff 49 = .ok (.aload_n 0, 1) := by decide +kernel
theorem dX8_takeOff_50 : decode cX8_takeOff 50 = .ok (.getfield 9, 3) := by decide +kernel
theorem dX8_takeOff_53 : decode cX8_takeOff 53 = .ok (.getfield 39, 3) := by decide +kernel
theorem dX8_takeOff_56 : decode cX8_takeOff 56 = .ok (.iload_n 1, 1) := by decide +kernel
theorem dX8_takeOff_57 : decode cX8_takeOff 57 = .ok (.iaload, 1) := by decide +kernel
theorem dX8_takeOff_58 : decode cX8_takeOff 58 = .ok (.isub, 1) := by decide +kernel
theorem dX8_takeOff_59 : decode cX8_takeOff 59 = .ok (.istore_n 3, 1) := by decide +kernel
theorem dX8_takeOff_60 : decode cX8_takeOff 60 = .ok (.aload_n 0, 1) := by decide +kernel
theorem dX8_takeOff_61 : decode cX8_takeOff 61 = .ok (.getfield 9, 3) := by decide +kernel
theorem dX8_takeOff_64 : decode cX8_takeOff 64 = .ok (.iload_n 2, 1) := by decide +kernel
theorem dX8_takeOff_65 : decode cX8_takeOff 65 = .ok (.iconst 1, 1) := by decide +kernel
theorem dX8_takeOff_66 : decode cX8_takeOff 66 = .ok (.invokevirtual 86, 3) := by decide +kernel
theorem dX8_takeOff_69 : decode cX8_takeOff 69 = .ok (.iload_n 3, 1) := by decide +kernel
theorem dX8_takeOff_70 : decode cX8_takeOff 70 = .ok (.isub, 1) := by decide +kernel
theorem dX8_takeOff_71 : decode cX8_takeOff 71 = .ok (.istore 4, 2) := by decide +kernel
theorem dX8_takeOff_73 : decode cX8_takeOff 73 = .ok (.aload_n 0, 1) := by decide +kernel
theorem dX8_takeOff_74 : decode cX8_takeOff 74 = .ok (.getfield 9, 3) := by decide +kernel
theorem dX8_takeOff_77 : decode cX8_takeOff 77 = .ok (.getfield 35, 3) := by decide +kernel
theorem dX8_takeOff_80 : decode cX8_takeOff 80 = .ok (.iload_n 1, 1) := by decide +kernel
theorem dX8_takeOff_81 : decode cX8_takeOff 81 = .ok (.iaload, 1) := by decide +kernel
theorem dX8_takeOff_82 : decode cX8_takeOff 82 = .ok (.ifCond .ne 19, 3) := by decide +kernel
theorem dX8_takeOff_85 : decode cX8_takeOff 85 = .ok (.iload 4, 2) := by decide +kernel
theorem dX8_takeOff_87 : decode cX8_takeOff 87 = .ok (.ifCond .le 14, 3) := by decide +kernel
theorem dX8_takeOff_90 : decode cX8_takeOff 90 = .ok (.aload_n 0, 1) := by decide +kernel
theorem dX8_takeOff_91 : decode cX8_takeOff 91 = .ok (.getfield 19, 3) := by decide +kernel
theorem dX8_takeOff_94 : decode cX8_takeOff 94 = .ok (.iconst 5, 1) := by decide +kernel
theorem dX8_takeOff_95 : decode cX8_takeOff 95 = .ok (.iload 4, 2) := by decide +kernel
theorem dX8_takeOff_97 : decode cX8_takeOff 97 = .ok (.invokevirtual 29, 3) := by decide +kernel
theorem dX8_takeOff_100 : decode cX8_takeOff 100 = .ok (.ireturn, 1) := by decide +kernel
theorem dX8_takeOff_101 : decode cX8_takeOff 101 = .ok (.aload_n 0, 1) := by decide +kernel
theorem dX8_takeOff_102 : decode cX8_takeOff 102 = .ok (.getfield 9, 3) := by decide +kernel
theorem dX8_takeOff_105 : decode cX8_takeOff 105 = .ok (.getfield 42, 3) := by decide +kernel
theorem dX8_takeOff_108 : decode cX8_takeOff 108 = .ok (.iload_n 1, 1) := by decide +kernel
theorem dX8_takeOff_109 : decode cX8_takeOff 109 = .ok (.bipush (-4), 2) := by decide +kernel
theorem dX8_takeOff_111 : decode cX8_takeOff 111 = .ok (.iastore, 1) := by decide +kernel
theorem dX8_takeOff_112 : decode cX8_takeOff 112 = .ok (.aload_n 0, 1) := by decide +kernel
theorem dX8_takeOff_113 : decode cX8_takeOff 113 = .ok (.getfield 9, 3) := by decide +kernel
theorem dX8_takeOff_116 : decode cX8_takeOff 116 = .ok (.getfield 45, 3) := by decide +kernel
theorem dX8_takeOff_119 : decode cX8_takeOff 119 = .ok (.iload_n 1, 1) := by decide +kernel
theorem dX8_takeOff_120 : decode cX8_takeOff 120 = .ok (.bipush (-4), 2) := by decide +kernel
theorem dX8_takeOff_122 : decode cX8_takeOff 122 = .ok (.iastore, 1) := by decide +kernel
theorem dX8_takeOff_123 : decode cX8_takeOff 123 = .ok (.iload_n 2, 1) := by decide +kernel
theorem dX8_takeOff_124 : decode cX8_takeOff 124 = .ok (.ireturn, 1) := by decide +kernel
set_option maxRecDepth 20000 in
theorem ggX8_exchange_X9_isCart : GoodIn wsX8_exchange wsX9_isCart := goodIn_r _ [9, 10, 49, 50, 51, 52, 53, 54, 55, 56, 57, 58, 59, 60, 61, 62, 63, 64] (by decide +kernel) (by decide +kernel)
set_option maxRecDepth 20000 in
theorem gX8_exchange_X9_isCart : GoodIn wsX8_exchange (wsV RX8 80 RX9 yX9_isCart wsX9_isCart) := goodIn_app (goodIn_of _ (by decide +kernel)) ggX8_exchange_X9_isCart
set_option maxRecDepth 20000 in
theorem ggX8_exchange_X6_refuse : GoodIn wsX8_exchange wsX6_refuse := goodIn_r _ [15, 16, 17, 18, 19, 65, 66, 67, 68] (by decide +kernel) (by decide +kernel)
set_option maxRecDepth 20000 in
theorem gX8_exchange_X6_refuse : GoodIn wsX8_exchange (wsV RX8 29 RX6 yX6_refuse wsX6_refuse) := goodIn_app (goodIn_of _ (by decide +kernel)) ggX8_exchange_X6_refuse
set_option maxRecDepth 20000 in
theorem ggX8_exchange_X9_thingAt : GoodIn wsX8_exchange wsX9_thingAt := goodIn_r _ [23, 24, 25, 26, 49, 50, 51, 52, 53, 54, 55, 56, 57, 58, 59, 60, 61, 62, 63, 64] (by decide +kernel) (by decide +kernel)
set_option maxRecDepth 20000 in
theorem gX8_exchange_X9_thingAt : GoodIn wsX8_exchange (wsV RX8 83 RX9 yX9_thingAt wsX9_thingAt) := goodIn_app (goodIn_of _ (by decide +kernel)) ggX8_exchange_X9_thingAt
set_option maxRecDepth 20000 in
theorem ggX8_exchange_X7_imbalance : GoodIn wsX8_exchange wsX7_imbalance := goodIn_r _ [31, 32, 33, 34, 35, 36, 37, 38, 30, 39, 40, 41, 42, 43, 44, 45, 69, 49, 50, 51, 52, 53, 54, 55, 56, 57, 58, 59, 60, 61, 62, 63, 64] (by decide +kernel) (by decide +kernel)
set_option maxRecDepth 20000 in
theorem gX8_exchange_X7_imbalance : GoodIn wsX8_exchange (wsV RX8 93 RX7 yX7_imbalance wsX7_imbalance) := goodIn_app (goodIn_of _ (by decide +kernel)) ggX8_exchange_X7_imbalance
theorem dX8_exchange_0 : decode cX8_exchange 0 = .ok (.aload_n 0, 1) := by decide +kernel
theorem dX8_exchange_1 : decode cX8_exchange 1 = .ok (.getfield 9, 3) := by decide +kernel
theorem dX8_exchange_4 : decode cX8_exchange 4 = .ok (.iload_n 1, 1) := by decide +kernel
theorem dX8_exchange_5 : decode cX8_exchange 5 = .ok (.invokevirtual 80, 3) := by decide +kernel
theorem dX8_exchange_8 : decode cX8_exchange 8 = .ok (.ifCond .ne 5, 3) := by decide +kernel
theorem dX8_exchange_11 : decode cX8_exchange 11 = .ok (.iconst (-1), 1) := by decide +kernel
theorem dX8_exchange_12 : decode cX8_exchange 12 = .ok (.ireturn, 1) := by decide +kernel
theorem dX8_exchange_13 : decode cX8_exchange 13 = .ok (.iload_n 2, 1) := by decide +kernel
theorem dX8_exchange_14 : decode cX8_exchange 14 = .ok (.ifCond .lt 17, 3) := by decide +kernel
theorem dX8_exchange_17 : decode cX8_exchange 17 = .ok (.iload_n 2, 1) := by decide +kernel
theorem dX8_exchange_18 : decode cX8_exchange 18 = .ok (.iconst 5, 1) := by decide +kernel
theorem dX8_exchange_19 : decode cX8_exchange 19 = .ok (.if_icmp .gt 12, 3) := by decide +kernel
theorem dX8_exchange_22 : decode cX8_exchange 22 = .ok (.iload_n 3, 1) := by decide +kernel
theorem dX8_exchange_23 : decode cX8_exchange 23 = .ok (.ifCond .lt 8, 3) := by decide +kernel
theorem dX8_exchange_26 : decode cX8_exchange 26 = .ok (.iload_n 3, 1) := by decide +kernel
theorem dX8_exchange_27 : decode cX8_exchange 27 = .ok (.iconst 5, 1) := by decide +kernel
theorem dX8_exchange_28 : decode cX8_exchange 28 = .ok (.if_icmp .le 6, 3) := by decide +kernel
theorem dX8_exchange_31 : decode cX8_exchange 31 = .ok (.bipush (-2), 2) := by decide +kernel
theorem dX8_exchange_33 : decode cX8_exchange 33 = .ok (.ireturn, 1) := by decide +kernel
theorem dX8_exchange_34 : decode cX8_exchange 34 = .ok (.iload_n 2, 1) := by decide +kernel
theorem dX8_exchange_35 : decode cX8_exchange 35 = .ok (.iload_n 3, 1) := by decide +kernel
theorem dX8_exchange_36 : decode cX8_exchange 36 = .ok (.if_icmp .ne 14, 3) := by decide +kernel
theorem dX8_exchange_39 : decode cX8_exchange 39 = .ok (.aload_n 0, 1) := by decide +kernel
theorem dX8_exchange_40 : decode cX8_exchange 40 = .ok (.getfield 19, 3) := by decide +kernel
theorem dX8_exchange_43 : decode cX8_exchange 43 = .ok (.bipush 7, 2) := by decide +kernel
theorem dX8_exchange_45 : decode cX8_exchange 45 = .ok (.iload_n 2, 1) := by decide +kernel
theorem dX8_exchange_46 : decode cX8_exchange 46 = .ok (.invokevirtual 29, 3) := by decide +kernel
theorem dX8_exchange_49 : decode cX8_exchange 49 = .ok (.ireturn, 1) := by decide +kernel
theorem dX8_exchange_50 : decode cX8_exchange 50 = .ok (.aload_n 0, 1) := by decide +kernel
theorem dX8_exchange_51 : decode cX8_exchange 51 = .ok (.getfield 9, 3) := by decide +kernel
theorem dX8_exchange_54 : decode cX8_exchange 54 = .ok (.iload_n 1, 1) := by decide +kernel
theorem dX8_exchange_55 : decode cX8_exchange 55 = .ok (.iload_n 2, 1) := by decide +kernel
theorem dX8_exchange_56 : decode cX8_exchange 56 = .ok (.invokevirtual 83, 3) := by decide +kernel
theorem dX8_exchange_59 : decode cX8_exchange 59 = .ok (.istore 4, 2) := by decide +kernel
theorem dX8_exchange_61 : decode cX8_exchange 61 = .ok (.aload_n 0, 1) := by decide +kernel
theorem dX8_exchange_62 : decode cX8_exchange 62 = .ok (.getfield 9, 3) := by decide +kernel
theorem dX8_exchange_65 : decode cX8_exchange 65 = .ok (.iload_n 1, 1) := by decide +kernel
theorem dX8_exchange_66 : decode cX8_exchange 66 = .ok (.iload_n 3, 1) := by decide +kernel
theorem dX8_exchange_67 : decode cX8_exchange 67 = .ok (.invokevirtual 83, 3) := by decide +kernel
theorem dX8_exchange_70 : decode cX8_exchange 70 = .ok (.istore 5, 2) := by decide +kernel
theorem dX8_exchange_72 : decode cX8_exchange 72 = .ok (.iload 4, 2) := by decide +kernel
theorem dX8_exchange_74 : decode cX8_exchange 74 = .ok (.bipush (-4), 2) := by decide +kernel
theorem dX8_exchange_76 : decode cX8_exchange 76 = .ok (.if_icmp .eq 14, 3) := by decide +kernel
theorem dX8_exchange_79 : decode cX8_exchange 79 = .ok (.aload_n 0, 1) := by decide +kernel
theorem dX8_exchange_80 : decode cX8_exchange 80 = .ok (.getfield 9, 3) := by decide +kernel
theorem dX8_exchange_83 : decode cX8_exchange 83 = .ok (.getfield 45, 3) := by decide +kernel
theorem dX8_exchange_86 : decode cX8_exchange 86 = .ok (.iload 4, 2) := by decide +kernel
theorem dX8_exchange_88 : decode cX8_exchange 88 = .ok (.iload_n 3, 1) := by decide +kernel
theorem dX8_exchange_89 : decode cX8_exchange 89 = .ok (.iastore, 1) := by decide +kernel
theorem dX8_exchange_90 : decode cX8_exchange 90 = .ok (.iload 5, 2) := by decide +kernel
theorem dX8_exchange_92 : decode cX8_exchange 92 = .ok (.bipush (-4), 2) := by decide +kernel
theorem dX8_exchange_94 : decode cX8_exchange 94 = .ok (.if_icmp .eq 14, 3) := by decide +kernel
theorem dX8_exchange_97 : decode cX8_exchange 97 = .ok (.aload_n 0, 1) := by decide +kernel
theorem dX8_exchange_98 : decode cX8_exchange 98 = .ok (.getfield 9, 3) := by decide +kernel
theorem dX8_exchange_101 : decode cX8_exchange 101 = .ok (.getfield 45, 3) := by decide +kernel
theorem dX8_exchange_104 : decode cX8_exchange 104 = .ok (.iload 5, 2) := by decide +kernel
theorem dX8_exchange_106 : decode cX8_exchange 106 = .ok (.iload_n 2, 1) := by decide +kernel
theorem dX8_exchange_107 : decode cX8_exchange 107 = .ok (.iastore, 1) := by decide +kernel
theorem dX8_exchange_108 : decode cX8_exchange 108 = .ok (.aload_n 0, 1) := by decide +kernel
theorem dX8_exchange_109 : decode cX8_exchange 109 = .ok (.getfield 15, 3) := by decide +kernel
theorem dX8_exchange_112 : decode cX8_exchange 112 = .ok (.iload_n 1, 1) := by decide +kernel
theorem dX8_exchange_113 : decode cX8_exchange 113 = .ok (.invokevirtual 93, 3) := by decide +kernel
theorem dX8_exchange_116 : decode cX8_exchange 116 = .ok (.ireturn, 1) := by decide +kernel
set_option maxRecDepth 20000 in
theorem ggX8_drive_X9_isCart : GoodIn wsX8_drive wsX9_isCart := goodIn_r _ [14, 15, 120, 121, 122, 123, 124, 125, 126, 127, 128, 129, 130, 131, 132, 133, 134, 135] (by decide +kernel) (by decide +kernel)
set_option maxRecDepth 20000 in
theorem gX8_drive_X9_isCart : GoodIn wsX8_drive (wsV RX8 80 RX9 yX9_isCart wsX9_isCart) := goodIn_app (goodIn_of _ (by decide +kernel)) ggX8_drive_X9_isCart
set_option maxRecDepth 20000 in
theorem ggX8_drive_X9_isRoad : GoodIn wsX8_drive wsX9_isRoad := goodIn_r _ [19, 20, 120, 121, 122, 123, 124, 125, 126, 127, 128, 129, 130, 131, 132, 133, 134, 135] (by decide +kernel) (by decide +kernel)
set_option maxRecDepth 20000 in
theorem gX8_drive_X9_isRoad : GoodIn wsX8_drive (wsV RX8 98 RX9 yX9_isRoad wsX9_isRoad) := goodIn_app (goodIn_of _ (by decide +kernel)) ggX8_drive_X9_isRoad
set_option maxRecDepth 20000 in
theorem ggX8_drive_X9_thingAt : GoodIn wsX8_drive wsX9_thingAt := goodIn_r _ [24, 25, 26, 27, 120, 121, 122, 123, 124, 125, 126, 127, 128, 129, 130, 131, 132, 133, 134, 135] (by decide +kernel) (by decide +kernel)
set_option maxRecDepth 20000 in
theorem gX8_drive_X9_thingAt : GoodIn wsX8_drive (wsV RX8 83 RX9 yX9_thingAt wsX9_thingAt) := goodIn_app (goodIn_of _ (by decide +kernel)) ggX8_drive_X9_thingAt
set_option maxRecDepth 20000 in
theorem ggX8_drive_X9_premisesOn : GoodIn wsX8_drive wsX9_premisesOn := goodIn_r _ [31, 25, 26, 32, 120, 121, 122, 123, 124, 125, 126, 127, 128, 129, 130, 131, 132, 133, 134, 135] (by decide +kernel) (by decide +kernel)
set_option maxRecDepth 20000 in
theorem gX8_drive_X9_premisesOn : GoodIn wsX8_drive (wsV RX8 101 RX9 yX9_premisesOn wsX9_premisesOn) := goodIn_app (goodIn_of _ (by decide +kernel)) ggX8_drive_X9_premisesOn
set_option maxRecDepth 20000 in
theorem ggX8_drive_X6_refuse : GoodIn wsX8_drive wsX6_refuse := goodIn_r _ [37, 38, 39, 40, 41, 136, 137, 138, 139] (by decide +kernel) (by decide +kernel)
set_option maxRecDepth 20000 in
theorem gX8_drive_X6_refuse : GoodIn wsX8_drive (wsV RX8 29 RX6 yX6_refuse wsX6_refuse) := goodIn_app (goodIn_of _ (by decide +kernel)) ggX8_drive_X6_refuse
set_option maxRecDepth 20000 in
theorem ggX8_drive_X9_isWithinLimit : GoodIn wsX8_drive wsX9_isWithinLimit := goodIn_r _ [45, 46, 47, 48, 49, 13, 50, 51, 52, 53, 54, 25, 26, 32, 55, 120, 121, 122, 123, 124, 125, 126, 127, 128, 129, 130, 131, 132, 133, 134, 135] (by decide +kernel) (by decide +kernel)
set_option maxRecDepth 20000 in
theorem gX8_drive_X9_isWithinLimit : GoodIn wsX8_drive (wsV RX8 104 RX9 yX9_isWithinLimit wsX9_isWithinLimit) := goodIn_app (goodIn_of _ (by decide +kernel)) ggX8_drive_X9_isWithinLimit
set_option maxRecDepth 20000 in
theorem ggX8_drive_X9_weightOfAllOn : GoodIn wsX8_drive wsX9_weightOfAllOn := goodIn_r _ [50, 51, 52, 53, 13, 54, 25, 26, 32, 55, 120, 121, 122, 123, 124, 125, 126, 127, 128, 129, 130, 131, 132, 133, 134, 135] (by decide +kernel) (by decide +kernel)
set_option maxRecDepth 20000 in
theorem gX8_drive_X9_weightOfAllOn : GoodIn wsX8_drive (wsV RX8 89 RX9 yX9_weightOfAllOn wsX9_weightOfAllOn) := goodIn_app (goodIn_of _ (by decide +kernel)) ggX8_drive_X9_weightOfAllOn
set_option maxRecDepth 20000 in
theorem ggX8_drive_X9_wornOutAxles : GoodIn wsX8_drive wsX9_wornOutAxles := goodIn_r _ [60, 61, 62, 63, 13, 64, 65, 66, 67, 68, 69, 70, 71, 72, 120, 121, 122, 123, 124, 125, 126, 127, 128, 129, 130, 131, 132, 133, 134, 135] (by decide +kernel) (by decide +kernel)
set_option maxRecDepth 20000 in
theorem gX8_drive_X9_wornOutAxles : GoodIn wsX8_drive (wsV RX8 108 RX9 yX9_wornOutAxles wsX9_wornOutAxles) := goodIn_app (goodIn_of _ (by decide +kernel)) ggX8_drive_X9_wornOutAxles
set_option maxRecDepth 20000 in
theorem ggX8_drive_X9_isWornOut : GoodIn wsX8_drive wsX9_isWornOut := goodIn_r _ [64, 65, 66, 67, 13, 68, 69, 70, 71, 72, 120, 121, 122, 123, 124, 125, 126, 127, 128, 129, 130, 131, 132, 133, 134, 135] (by decide +kernel) (by decide +kernel)
set_option maxRecDepth 20000 in
theorem gX8_drive_X9_isWornOut : GoodIn wsX8_drive (wsV RX8 111 RX9 yX9_isWornOut wsX9_isWornOut) := goodIn_app (goodIn_of _ (by decide +kernel)) ggX8_drive_X9_isWornOut
set_option maxRecDepth 20000 in
theorem ggX8_drive_X7_tollOf : GoodIn wsX8_drive wsX7_tollOf := goodIn_r _ [78, 79, 80, 81, 82, 52, 53, 13, 54, 25, 26, 32, 55, 140, 120, 121, 122, 123, 124, 125, 126, 127, 128, 129, 130, 131, 132, 133, 134, 135] (by decide +kernel) (by decide +kernel)
set_option maxRecDepth 20000 in
theorem gX8_drive_X7_tollOf : GoodIn wsX8_drive (wsV RX8 119 RX7 yX7_tollOf wsX7_tollOf) := goodIn_app (goodIn_of _ (by decide +kernel)) ggX8_drive_X7_tollOf
set_option maxRecDepth 20000 in
theorem ggX8_drive_X9_wearOf : GoodIn wsX8_drive wsX9_wearOf := goodIn_r _ [68, 69, 70, 71, 13, 72, 120, 121, 122, 123, 124, 125, 126, 127, 128, 129, 130, 131, 132, 133, 134, 135] (by decide +kernel) (by decide +kernel)
set_option maxRecDepth 20000 in
theorem gX8_drive_X9_wearOf : GoodIn wsX8_drive (wsV RX8 123 RX9 yX9_wearOf wsX9_wearOf) := goodIn_app (goodIn_of _ (by decide +kernel)) ggX8_drive_X9_wearOf
set_option maxRecDepth 20000 in
theorem ggX8_drive_X7_wearOfTrip : GoodIn wsX8_drive wsX7_wearOfTrip := goodIn_r _ [87, 79, 88, 89, 90, 91, 92, 77, 93, 94, 95, 96, 97, 98, 99, 100, 101, 102, 103, 104, 105, 106, 107, 108, 140, 120, 121, 122, 123, 124, 125, 126, 127, 128, 129, 130, 131, 132, 133, 134, 135] (by decide +kernel) (by decide +kernel)
set_option maxRecDepth 20000 in
theorem gX8_drive_X7_wearOfTrip : GoodIn wsX8_drive (wsV RX8 127 RX7 yX7_wearOfTrip wsX7_wearOfTrip) := goodIn_app (goodIn_of _ (by decide +kernel)) ggX8_drive_X7_wearOfTrip
set_option maxRecDepth 20000 in
theorem ggX8_drive_X9_setWear : GoodIn wsX8_drive wsX9_setWear := goodIn_r _ [112, 69, 70, 71, 13, 72, 120, 121, 122, 123, 124, 125, 126, 127, 128, 129, 130, 131, 132, 133, 134, 135] (by decide +kernel) (by decide +kernel)
set_option maxRecDepth 20000 in
theorem gX8_drive_X9_setWear : GoodIn wsX8_drive (wsV RX8 57 RX9 yX9_setWear wsX9_setWear) := goodIn_app (goodIn_of _ (by decide +kernel)) ggX8_drive_X9_setWear
set_option maxRecDepth 20000 in
theorem ggX8_drive_X7_creakingAxles : GoodIn wsX8_drive wsX7_creakingAxles := goodIn_r _ [116, 90, 91, 92, 77, 93, 94, 95, 96, 97, 98, 79, 99, 100, 101, 102, 103, 104, 105, 106, 107, 108, 140, 120, 121, 122, 123, 124, 125, 126, 127, 128, 129, 130, 131, 132, 133, 134, 135] (by decide +kernel) (by decide +kernel)
set_option maxRecDepth 20000 in
theorem gX8_drive_X7_creakingAxles : GoodIn wsX8_drive (wsV RX8 134 RX7 yX7_creakingAxles wsX7_creakingAxles) := goodIn_app (goodIn_of _ (by decide +kernel)) ggX8_drive_X7_creakingAxles
theorem dX8_drive_0 : decode cX8_drive 0 = .ok (.aload_n 0, 1) := by decide +kernel
theorem dX8_drive_1 : decode cX8_drive 1 = .ok (.getfield 9, 3) := by decide +kernel
theorem dX8_drive_4 : decode cX8_drive 4 = .ok (.iload_n 1, 1) := by decide +kernel
theorem dX8_drive_5 : decode cX8_drive 5 = .ok (.invokevirtual 80, 3) := by decide +kernel
theorem dX8_drive_8 : decode cX8_drive 8 = .ok (.ifCond .eq 14, 3) := by decide +kernel
theorem dX8_drive_11 : decode cX8_drive 11 = .ok (.aload_n 0, 1) := by decide +kernel
theorem dX8_drive_12 : decode cX8_drive 12 = .ok (.getfield 9, 3) := by decide +kernel
theorem dX8_drive_15 : decode cX8_drive 15 = .ok (.iload_n 2, 1) := by decide +kernel
theorem dX8_drive_16 : decode cX8_drive 16 = .ok (.invokevirtual 98, 3) := by decide +kernel
theorem dX8_drive_19 : decode cX8_drive 19 = .ok (.ifCond .ne 5, 3) := by decide +kernel
theorem dX8_drive_22 : decode cX8_drive 22 = .ok (.iconst (-1), 1) := by decide +kernel
theorem dX8_drive_23 : decode cX8_drive 23 = .ok (.ireturn, 1) := by decide +kernel
theorem dX8_drive_24 : decode cX8_drive 24 = .ok (.aload_n 0, 1) := by decide +kernel
theorem dX8_drive_25 : decode cX8_drive 25 = .ok (.getfield 9, 3) := by decide +kernel
theorem dX8_drive_28 : decode cX8_drive 28 = .ok (.iload_n 1, 1) := by decide +kernel
theorem dX8_drive_29 : decode cX8_drive 29 = .ok (.bipush 6, 2) := by decide +kernel
theorem dX8_drive_31 : decode cX8_drive 31 = .ok (.invokevirtual 83, 3) := by decide +kernel
theorem dX8_drive_34 : decode cX8_drive 34 = .ok (.bipush (-4), 2) := by decide +kernel
theorem dX8_drive_36 : decode cX8_drive 36 = .ok (.if_icmp .ne 21, 3) := by decide +kernel
theorem dX8_drive_39 : decode cX8_drive 39 = .ok (.aload_n 0, 1) := by decide +kernel
theorem dX8_drive_40 : decode cX8_drive 40 = .ok (.getfield 19, 3) := by decide +kernel
theorem dX8_drive_43 : decode cX8_drive 43 = .ok (.bipush 8, 2) := by decide +kernel
theorem dX8_drive_45 : decode cX8_drive 45 = .ok (.aload_n 0, 1) := by decide +kernel
theorem dX8_drive_46 : decode cX8_drive 46 = .ok (.getfield 9, 3) := by decide +kernel
theorem dX8_drive_49 : decode cX8_drive 49 = .ok (.iload_n 1, 1) := by decide +kernel
theorem dX8_drive_50 : decode cX8_drive 50 = .ok (.invokevirtual 101, 3) := by decide +kernel
theorem dX8_drive_53 : decode cX8_drive 53 = .ok (.invokevirtual 29, 3) := by decide +kernel
theorem dX8_drive_56 : decode cX8_drive 56 = .ok (.ireturn, 1) := by decide +kernel
theorem dX8_drive_57 : decode cX8_drive 57 = .ok (.aload_n 0, 1) := by decide +kernel
theorem dX8_drive_58 : decode cX8_drive 58 = .ok (.getfield 9, 3) := by decide +kernel
theorem dX8_drive_61 : decode cX8_drive 61 = .ok (.iload_n 1, 1) := by decide +kernel
theorem dX8_drive_62 : decode cX8_drive 62 = .ok (.iload_n 2, 1) := by decide +kernel
theorem dX8_drive_63 : decode cX8_drive 63 = .ok (.invokevirtual 104, 3) := by decide +kernel
theorem dX8_drive_66 : decode cX8_drive 66 = .ok (.ifCond .ne 31, 3) := by decide +kernel
theorem dX8_drive_69 : decode cX8_drive 69 = .ok (.aload_n 0, 1) := by decide +kernel
theorem dX8_drive_70 : decode cX8_drive 70 = .ok (.getfield 19, 3) := by decide +kernel
theorem dX8_drive_73 : decode cX8_drive 73 = .ok (.bipush 9, 2) := by decide +kernel
theorem dX8_drive_75 : decode cX8_drive 75 = .ok (.aload_n 0, 1) := by decide +kernel
theorem dX8_drive_76 : decode cX8_drive 76 = .ok (.getfield 9, 3) := by decide +kernel
theorem dX8_drive_79 : decode cX8_drive 79 = .ok (.iload_n 1, 1) := by decide +kernel
theorem dX8_drive_80 : decode cX8_drive 80 = .ok (.invokevirtual 89, 3) := by decide +kernel
theorem dX8_drive_83 : decode cX8_drive 83 = .ok (.aload_n 0, 1) := by decide +kernel
theorem dX8_drive_84 : decode cX8_drive 84 = .ok (.getfield 9, 3) := by decide +kernel
theorem dX8_drive_87 : decode cX8_drive 87 = .ok (.getfield 64, 3) := by decide +kernel
theorem dX8_drive_90 : decode cX8_drive 90 = .ok (.iload_n 2, 1) := by decide +kernel
theorem dX8_drive_91 : decode cX8_drive 91 = .ok (.iaload, 1) := by decide +kernel
theorem dX8_drive_92 : decode cX8_drive 92 = .ok (.isub, 1) := by decide +kernel
theorem dX8_drive_93 : decode cX8_drive 93 = .ok (.invokevirtual 29, 3) := by decide +kernel
theorem dX8_drive_96 : decode cX8_drive 96 = .ok (.ireturn, 1) := by decide +kernel
theorem dX8_drive_97 : decode cX8_drive 97 = .ok (.aload_n 0, 1) := by decide +kernel
theorem dX8_drive_98 : decode cX8_drive 98 = .ok (.getfield 9, 3) := by decide +kernel
theorem dX8_drive_101 : decode cX8_drive 101 = .ok (.iload_n 1, 1) := by decide +kernel
theorem dX8_drive_102 : decode cX8_drive 102 = .ok (.invokevirtual 108, 3) := by decide +kernel
theorem dX8_drive_105 : decode cX8_drive 105 = .ok (.ifCond .le 30, 3) := by decide +kernel
theorem dX8_drive_108 : decode cX8_drive 108 = .ok (.aload_n 0, 1) := by decide +kernel
theorem dX8_drive_109 : decode cX8_drive 109 = .ok (.getfield 19, 3) := by decide +kernel
theorem dX8_drive_112 : decode cX8_drive 112 = .ok (.bipush 10, 2) := by decide +kernel
theorem dX8_drive_114 : decode cX8_drive 114 = .ok (.aload_n 0, 1) := by decide +kernel
theorem dX8_drive_115 : decode cX8_drive 115 = .ok (.getfield 9, 3) := by decide +kernel
theorem dX8_drive_118 : decode cX8_drive 118 = .ok (.iload_n 1, 1) := by decide +kernel
theorem dX8_drive_119 : decode cX8_drive 119 = .ok (.iconst 0, 1) := by decide +kernel
theorem dX8_drive_120 : decode cX8_drive 120 = .ok (.invokevirtual 111, 3) := by decide +kernel
theorem dX8_drive_123 : decode cX8_drive 123 = .ok (.ifCond .eq 7, 3) := by decide +kernel
theorem dX8_drive_126 : decode cX8_drive 126 = .ok (.iconst 0, 1) := by decide +kernel
theorem dX8_drive_127 : decode cX8_drive 127 = .ok (.goto 4, 3) := by decide +kernel
theorem dX8_drive_130 : decode cX8_drive 130 = .ok (.iconst 1, 1) := by decide +kernel
theorem dX8_drive_131 : decode cX8_drive 131 = .ok (.invokevirtual 29, 3) := by decide +kernel
theorem dX8_drive_134 : decode cX8_drive 134 = .ok (.ireturn, 1) := by decide +kernel
theorem dX8_drive_135 : decode cX8_drive 135 = .ok (.aload_n 0, 1) := by decide +kernel
theorem dX8_drive_136 : decode cX8_drive 136 = .ok (.getfield 9, 3) := by decide +kernel
theorem dX8_drive_139 : decode cX8_drive 139 = .ok (.aload_n 0, 1) := by decide +kernel
theorem dX8_drive_140 : decode cX8_drive 140 = .ok (.getfield 9, 3) := by decide +kernel
theorem dX8_drive_143 : decode cX8_drive 143 = .ok (.getfield 115, 3) := by decide +kernel
theorem dX8_drive_146 : decode cX8_drive 146 = .ok (.aload_n 0, 1) := by decide +kernel
theorem dX8_drive_147 : decode cX8_drive 147 = .ok (.getfield 15, 3) := by decide +kernel
theorem dX8_drive_150 : decode cX8_drive 150 = .ok (.iload_n 1, 1) := by decide +kernel
theorem dX8_drive_151 : decode cX8_drive 151 = .ok (.iload_n 2, 1) := by decide +kernel
theorem dX8_drive_152 : decode cX8_drive 152 = .ok (.invokevirtual 119, 3) := by decide +kernel
theorem dX8_drive_155 : decode cX8_drive 155 = .ok (.fadd, 1) := by decide +kernel
theorem dX8_drive_156 : decode cX8_drive 156 = .ok (.putfield 115, 3) := by decide +kernel
theorem dX8_drive_159 : decode cX8_drive 159 = .ok (.aload_n 0, 1) := by decide +kernel
theorem dX8_drive_160 : decode cX8_drive 160 = .ok (.getfield 9, 3) := by decide +kernel
theorem dX8_drive_163 : decode cX8_drive 163 = .ok (.iload_n 1, 1) := by decide +kernel
theorem dX8_drive_164 : decode cX8_drive 164 = .ok (.iconst 0, 1) := by decide +kernel
theorem dX8_drive_165 : decode cX8_drive 165 = .ok (.aload_n 0, 1) := by decide +kernel
theorem dX8_drive_166 : decode cX8_drive 166 = .ok (.getfield 9, 3) := by decide +kernel
theorem dX8_drive_169 : decode cX8_drive 169 = .ok (.iload_n 1, 1) := by decide +kernel
theorem dX8_drive_170 : decode cX8_drive 170 = .ok (.iconst 0, 1) := by decide +kernel
theorem dX8_drive_171 : decode cX8_drive 171 = .ok (.invokevirtual 123, 3) := by decide +kernel
theorem dX8_drive_174 : decode cX8_drive 174 = .ok (.aload_n 0, 1) := by decide +kernel
theorem dX8_drive_175 : decode cX8_drive 175 = .ok (.getfield 15, 3) := by decide +kernel
theorem dX8_drive_178 : decode cX8_drive 178 = .ok (.iload_n 1, 1) := by decide +kernel
theorem dX8_drive_179 : decode cX8_drive 179 = .ok (.iload_n 2, 1) := by decide +kernel
theorem dX8_drive_180 : decode cX8_drive 180 = .ok (.iconst 0, 1) := by decide +kernel
theorem dX8_drive_181 : decode cX8_drive 181 = .ok (.invokevirtual 127, 3) := by decide +kernel
theorem dX8_drive_184 : decode cX8_drive 184 = .ok (.fadd, 1) := by decide +kernel
theorem dX8_drive_185 : decode cX8_drive 185 = .ok (.invokevirtual 57, 3) := by decide +kernel
theorem dX8_drive_188 : decode cX8_drive 188 = .ok (.aload_n 0, 1) := by decide +kernel
theorem dX8_drive_189 : decode cX8_drive 189 = .ok (.getfield 9, 3) := by decide +kernel
theorem dX8_drive_192 : decode cX8_drive 192 = .ok (.iload_n 1, 1) := by decide +kernel
theorem dX8_drive_193 : decode cX8_drive 193 = .ok (.iconst 1, 1) := by decide +kernel
theorem dX8_drive_194 : decode cX8_drive 194 = .ok (.aload_n 0, 1) := by decide +kernel
theorem dX8_drive_195 : decode cX8_drive 195 = .ok (.getfield 9, 3) := by decide +kernel
theorem dX8_drive_198 : decode cX8_drive 198 = .ok (.iload_n 1, 1) := by decide +kernel
theorem dX8_drive_199 : decode cX8_drive 199 = .ok (.iconst 1, 1) := by decide +kernel
theorem dX8_drive_200 : decode cX8_drive 200 = .ok (.invokevirtual 123, 3) := by decide +kernel
theorem dX8_drive_203 : decode cX8_drive 203 = .ok (.aload_n 0, 1) := by decide +kernel
theorem dX8_drive_204 : decode cX8_drive 204 = .ok (.getfield 15, 3) := by decide +kernel
theorem dX8_drive_207 : decode cX8_drive 207 = .ok (.iload_n 1, 1) := by decide +kernel
theorem dX8_drive_208 : decode cX8_drive 208 = .ok (.iload_n 2, 1) := by decide +kernel
theorem dX8_drive_209 : decode cX8_drive 209 = .ok (.iconst 1, 1) := by decide +kernel
theorem dX8_drive_210 : decode cX8_drive 210 = .ok (.invokevirtual 127, 3) := by decide +kernel
theorem dX8_drive_213 : decode cX8_drive 213 = .ok (.fadd, 1) := by decide +kernel
theorem dX8_drive_214 : decode cX8_drive 214 = .ok (.invokevirtual 57, 3) := by decide +kernel
theorem dX8_drive_217 : decode cX8_drive 217 = .ok (.aload_n 0, 1) := by decide +kernel
theorem dX8_drive_218 : decode cX8_drive 218 = .ok (.getfield 9, 3) := by decide +kernel
theorem dX8_drive_221 : decode cX8_drive 221 = .ok (.getfield 54, 3) := by decide +kernel
theorem dX8_drive_224 : decode cX8_drive 224 = .ok (.iload_n 1, 1) := by decide +kernel
theorem dX8_drive_225 : decode cX8_drive 225 = .ok (.dup2, 1) := by decide +kernel
theorem dX8_drive_226 : decode cX8_drive 226 = .ok (.iaload, 1) := by decide +kernel
theorem dX8_drive_227 : decode cX8_drive 227 = .ok (.iconst 1, 1) := by decide +kernel
theorem dX8_drive_228 : decode cX8_drive 228 = .ok (.iadd, 1) := by decide +kernel
theorem dX8_drive_229 : decode cX8_drive 229 = .ok (.iastore, 1) := by decide +kernel
theorem dX8_drive_230 : decode cX8_drive 230 = .ok (.aload_n 0, 1) := by decide +kernel
theorem dX8_drive_231 : decode cX8_drive 231 = .ok (.getfield 9, 3) := by decide +kernel
theorem dX8_drive_234 : decode cX8_drive 234 = .ok (.getfield 73, 3) := by decide +kernel
theorem dX8_drive_237 : decode cX8_drive 237 = .ok (.iload_n 2, 1) := by decide +kernel
theorem dX8_drive_238 : decode cX8_drive 238 = .ok (.dup2, 1) := by decide +kernel
theorem dX8_drive_239 : decode cX8_drive 239 = .ok (.iaload, 1) := by decide +kernel
theorem dX8_drive_240 : decode cX8_drive 240 = .ok (.iconst 1, 1) := by decide +kernel
theorem dX8_drive_241 : decode cX8_drive 241 = .ok (.iadd, 1) := by decide +kernel
theorem dX8_drive_242 : decode cX8_drive 242 = .ok (.iastore, 1) := by decide +kernel
theorem dX8_drive_243 : decode cX8_drive 243 = .ok (.aload_n 0, 1) := by decide +kernel
theorem dX8_drive_244 : decode cX8_drive 244 = .ok (.getfield 9, 3) := by decide +kernel
theorem dX8_drive_247 : decode cX8_drive 247 = .ok (.dup, 1) := by decide +kernel
theorem dX8_drive_248 : decode cX8_drive 248 = .ok (.getfield 131, 3) := by decide +kernel
theorem dX8_drive_251 : decode cX8_drive 251 = .ok (.aload_n 0, 1) := by decide +kernel
theorem dX8_drive_252 : decode cX8_drive 252 = .ok (.getfield 9, 3) := by decide +kernel
theorem dX8_drive_255 : decode cX8_drive 255 = .ok (.getfield 67, 3) := by decide +kernel
theorem dX8_drive_258 : decode cX8_drive 258 = .ok (.iload_n 2, 1) := by decide +kernel
theorem dX8_drive_259 : decode cX8_drive 259 = .ok (.iaload, 1) := by decide +kernel
theorem dX8_drive_260 : decode cX8_drive 260 = .ok (.iadd, 1) := by decide +kernel
theorem dX8_drive_261 : decode cX8_drive 261 = .ok (.putfield 131, 3) := by decide +kernel
theorem dX8_drive_264 : decode cX8_drive 264 = .ok (.aload_n 0, 1) := by decide +kernel
theorem dX8_drive_265 : decode cX8_drive 265 = .ok (.getfield 15, 3) := by decide +kernel
theorem dX8_drive_268 : decode cX8_drive 268 = .ok (.iload_n 1, 1) := by decide +kernel
theorem dX8_drive_269 : decode cX8_drive 269 = .ok (.invokevirtual 134, 3) := by decide +kernel
theorem dX8_drive_272 : decode cX8_drive 272 = .ok (.ireturn, 1) := by decide +kernel
set_option maxRecDepth 20000 in
theorem ggX8_greaseAxles_X9_isCart : GoodIn wsX8_greaseAxles wsX9_isCart := goodIn_r _ [7, 8, 42, 43, 44, 45, 46, 47, 48, 49, 50, 51, 52, 53, 54, 55, 56, 57] (by decide +kernel) (by decide +kernel)
set_option maxRecDepth 20000 in
theorem gX8_greaseAxles_X9_isCart : GoodIn wsX8_greaseAxles (wsV RX8 80 RX9 yX9_isCart wsX9_isCart) := goodIn_app (goodIn_of _ (by decide +kernel)) ggX8_greaseAxles_X9_isCart
set_option maxRecDepth 20000 in
theorem ggX8_greaseAxles_X9_wearOf : GoodIn wsX8_greaseAxles wsX9_wearOf := goodIn_r _ [12, 13, 14, 15, 6, 16, 42, 43, 44, 45, 46, 47, 48, 49, 50, 51, 52, 53, 54, 55, 56, 57] (by decide +kernel) (by decide +kernel)
set_option maxRecDepth 20000 in
theorem gX8_greaseAxles_X9_wearOf : GoodIn wsX8_greaseAxles (wsV RX8 123 RX9 yX9_wearOf wsX9_wearOf) := goodIn_app (goodIn_of _ (by decide +kernel)) ggX8_greaseAxles_X9_wearOf
set_option maxRecDepth 20000 in
theorem ggX8_greaseAxles_X6_refuse : GoodIn wsX8_greaseAxles wsX6_refuse := goodIn_r _ [21, 22, 23, 24, 25, 58, 59, 60, 61] (by decide +kernel) (by decide +kernel)
set_option maxRecDepth 20000 in
theorem gX8_greaseAxles_X6_refuse : GoodIn wsX8_greaseAxles (wsV RX8 29 RX6 yX6_refuse wsX6_refuse) := goodIn_app (goodIn_of _ (by decide +kernel)) ggX8_greaseAxles_X6_refuse
set_option maxRecDepth 20000 in
theorem ggX8_greaseAxles_X9_wornOutAxles : GoodIn wsX8_greaseAxles wsX9_wornOutAxles := goodIn_r _ [29, 30, 31, 32, 6, 33, 34, 10, 11, 12, 13, 14, 15, 16, 42, 43, 44, 45, 46, 47, 48, 49, 50, 51, 52, 53, 54, 55, 56, 57] (by decide +kernel) (by decide +kernel)
set_option maxRecDepth 20000 in
theorem gX8_greaseAxles_X9_wornOutAxles : GoodIn wsX8_greaseAxles (wsV RX8 108 RX9 yX9_wornOutAxles wsX9_wornOutAxles) := goodIn_app (goodIn_of _ (by decide +kernel)) ggX8_greaseAxles_X9_wornOutAxles
set_option maxRecDepth 20000 in
theorem ggX8_greaseAxles_X9_setWear : GoodIn wsX8_greaseAxles wsX9_setWear := goodIn_r _ [38, 13, 14, 15, 6, 16, 42, 43, 44, 45, 46, 47, 48, 49, 50, 51, 52, 53, 54, 55, 56, 57] (by decide +kernel) (by decide +kernel)
set_option maxRecDepth 20000 in
theorem gX8_greaseAxles_X9_setWear : GoodIn wsX8_greaseAxles (wsV RX8 57 RX9 yX9_setWear wsX9_setWear) := goodIn_app (goodIn_of _ (by decide +kernel)) ggX8_greaseAxles_X9_setWear
theorem dX8_greaseAxles_0 : decode cX8_greaseAxles 0 = .ok (.aload_n 0, 1) := by decide +kernel
theorem dX8_greaseAxles_1 : decode cX8_greaseAxles 1 = .ok (.getfield 9, 3) := by decide +kernel
theorem dX8_greaseAxles_4 : decode cX8_greaseAxles 4 = .ok (.iload_n 1, 1) := by decide +kernel
theorem dX8_greaseAxles_5 : decode cX8_greaseAxles 5 = .ok (.invokevirtual 80, 3) := by decide +kernel
theorem dX8_greaseAxles_8 : decode cX8_greaseAxles 8 = .ok (.ifCond .ne 5, 3) := by decide +kernel
theorem dX8_greaseAxles_11 : decode cX8_greaseAxles 11 = .ok (.iconst (-1), 1) := by decide +kernel
theorem dX8_greaseAxles_12 : decode cX8_greaseAxles 12 = .ok (.ireturn, 1) := by decide +kernel
theorem dX8_greaseAxles_13 : decode cX8_greaseAxles 13 = .ok (.aload_n 0, 1) := by decide +kernel
theorem dX8_greaseAxles_14 : decode cX8_greaseAxles 14 = .ok (.getfield 9, 3) := by decide +kernel
theorem dX8_greaseAxles_17 : decode cX8_greaseAxles 17 = .ok (.iload_n 1, 1) := by decide +kernel
theorem dX8_greaseAxles_18 : decode cX8_greaseAxles 18 = .ok (.iconst 0, 1) := by decide +kernel
theorem dX8_greaseAxles_19 : decode cX8_greaseAxles 19 = .ok (.invokevirtual 123, 3) := by decide +kernel
theorem dX8_greaseAxles_22 : decode cX8_greaseAxles 22 = .ok (.fconst 0, 1) := by decide +kernel
theorem dX8_greaseAxles_23 : decode cX8_greaseAxles 23 = .ok (.fcmp .g, 1) := by decide +kernel
theorem dX8_greaseAxles_24 : decode cX8_greaseAxles 24 = .ok (.ifCond .gt 28, 3) := by decide +kernel
theorem dX8_greaseAxles_27 : decode cX8_greaseAxles 27 = .ok (.aload_n 0, 1) := by decide +kernel
theorem dX8_greaseAxles_28 : decode cX8_greaseAxles 28 = .ok (.getfield 9, 3) := by decide +kernel
theorem dX8_greaseAxles_31 : decode cX8_greaseAxles 31 = .ok (.iload_n 1, 1) := by decide +kernel
theorem dX8_greaseAxles_32 : decode cX8_greaseAxles 32 = .ok (.iconst 1, 1) := by decide +kernel
theorem dX8_greaseAxles_33 : decode cX8_greaseAxles 33 = .ok (.invokevirtual 123, 3) := by decide +kernel
theorem dX8_greaseAxles_36 : decode cX8_greaseAxles 36 = .ok (.fconst 0, 1) := by decide +kernel
theorem dX8_greaseAxles_37 : decode cX8_greaseAxles 37 = .ok (.fcmp .g, 1) := by decide +kernel
theorem dX8_greaseAxles_38 : decode cX8_greaseAxles 38 = .ok (.ifCond .gt 14, 3) := by decide +kernel
theorem dX8_greaseAxles_41 : decode cX8_greaseAxles 41 = .ok (.aload_n 0, 1) := by decide +kernel
theorem dX8_greaseAxles_42 : decode cX8_greaseAxles 42 = .ok (.getfield 19, 3) := by decide +kernel
theorem dX8_greaseAxles_45 : decode cX8_greaseAxles 45 = .ok (.bipush 11, 2) := by decide +kernel
theorem dX8_greaseAxles_47 : decode cX8_greaseAxles 47 = .ok (.iload_n 1, 1) := by decide +kernel
theorem dX8_greaseAxles_48 : decode cX8_greaseAxles 48 = .ok (.invokevirtual 29, 3) := by decide +kernel
theorem dX8_greaseAxles_51 : decode cX8_greaseAxles 51 = .ok (.ireturn, 1) := by decide +kernel
theorem dX8_greaseAxles_52 : decode cX8_greaseAxles 52 = .ok (.aload_n 0, 1) := by decide +kernel
theorem dX8_greaseAxles_53 : decode cX8_greaseAxles 53 = .ok (.getfield 9, 3) := by decide +kernel
theorem dX8_greaseAxles_56 : decode cX8_greaseAxles 56 = .ok (.iload_n 1, 1) := by decide +kernel
theorem dX8_greaseAxles_57 : decode cX8_greaseAxles 57 = .ok (.invokevirtual 108, 3) := by decide +kernel
theorem dX8_greaseAxles_60 : decode cX8_greaseAxles 60 = .ok (.istore_n 2, 1) := by decide +kernel
theorem dX8_greaseAxles_61 : decode cX8_greaseAxles 61 = .ok (.aload_n 0, 1) := by decide +kernel
theorem dX8_greaseAxles_62 : decode cX8_greaseAxles 62 = .ok (.getfield 9, 3) := by decide +kernel
theorem dX8_greaseAxles_65 : decode cX8_greaseAxles 65 = .ok (.iload_n 1, 1) := by decide +kernel
theorem dX8_greaseAxles_66 : decode cX8_greaseAxles 66 = .ok (.iconst 0, 1) := by decide +kernel
theorem dX8_greaseAxles_67 : decode cX8_greaseAxles 67 = .ok (.fconst 0, 1) := by decide +kernel
theorem dX8_greaseAxles_68 : decode cX8_greaseAxles 68 = .ok (.invokevirtual 57, 3) := by decide +kernel
theorem dX8_greaseAxles_71 : decode cX8_greaseAxles 71 = .ok (.aload_n 0, 1) := by decide +kernel
theorem dX8_greaseAxles_72 : decode cX8_greaseAxles 72 = .ok (.getfield 9, 3) := by decide +kernel
theorem dX8_greaseAxles_75 : decode cX8_greaseAxles 75 = .ok (.iload_n 1, 1) := by decide +kernel
theorem dX8_greaseAxles_76 : decode cX8_greaseAxles 76 = .ok (.iconst 1, 1) := by decide +kernel
theorem dX8_greaseAxles_77 : decode cX8_greaseAxles 77 = .ok (.fconst 0, 1) := by decide +kernel
theorem dX8_greaseAxles_78 : decode cX8_greaseAxles 78 = .ok (.invokevirtual 57, 3) := by decide +kernel
theorem dX8_greaseAxles_81 : decode cX8_greaseAxles 81 = .ok (.iload_n 2, 1) := by decide +kernel
theorem dX8_greaseAxles_82 : decode cX8_greaseAxles 82 = .ok (.ireturn, 1) := by decide +kernel
theorem dX9_init_0 : decode cX9_init 0 = .ok (.aload_n 0, 1) := by decide +kernel
theorem dX9_init_1 : decode cX9_init 1 = .ok (.invokespecial 3, 3) := by decide +kernel
theorem dX9_init_4 : decode cX9_init 4 = .ok (.aload_n 0, 1) := by decide +kernel
theorem dX9_init_5 : decode cX9_init 5 = .ok (.bipush 12, 2) := by decide +kernel
theorem dX9_init_7 : decode cX9_init 7 = .ok (.newarray .int, 2) := by decide +kernel
theorem dX9_init_9 : decode cX9_init 9 = .ok (.putfield 9, 3) := by decide +kernel
theorem dX9_init_12 : decode cX9_init 12 = .ok (.aload_n 0, 1) := by decide +kernel
theorem dX9_init_13 : decode cX9_init 13 = .ok (.bipush 12, 2) := by decide +kernel
theorem dX9_init_15 : decode cX9_init 15 = .ok (.newarray .int, 2) := by decide +kernel
theorem dX9_init_17 : decode cX9_init 17 = .ok (.putfield 15, 3) := by decide +kernel
theorem dX9_init_20 : decode cX9_init 20 = .ok (.aload_n 0, 1) := by decide +kernel
theorem dX9_init_21 : decode cX9_init 21 = .ok (.bipush 12, 2) := by decide +kernel
theorem dX9_init_23 : decode cX9_init 23 = .ok (.newarray .int, 2) := by decide +kernel
theorem dX9_init_25 : decode cX9_init 25 = .ok (.putfield 18, 3) := by decide +kernel
theorem dX9_init_28 : decode cX9_init 28 = .ok (.aload_n 0, 1) := by decide +kernel
theorem dX9_init_29 : decode cX9_init 29 = .ok (.bipush 12, 2) := by decide +kernel
theorem dX9_init_31 : decode cX9_init 31 = .ok (.newarray .int, 2) := by decide +kernel
theorem dX9_init_33 : decode cX9_init 33 = .ok (.putfield 21, 3) := by decide +kernel
theorem dX9_init_36 : decode cX9_init 36 = .ok (.aload_n 0, 1) := by decide +kernel
theorem dX9_init_37 : decode cX9_init 37 = .ok (.iconst 4, 1) := by decide +kernel
theorem dX9_init_38 : decode cX9_init 38 = .ok (.newarray .int, 2) := by decide +kernel
theorem dX9_init_40 : decode cX9_init 40 = .ok (.putfield 24, 3) := by decide +kernel
theorem dX9_init_43 : decode cX9_init 43 = .ok (.aload_n 0, 1) := by decide +kernel
theorem dX9_init_44 : decode cX9_init 44 = .ok (.bipush 8, 2) := by decide +kernel
theorem dX9_init_46 : decode cX9_init 46 = .ok (.newarray .float, 2) := by decide +kernel
theorem dX9_init_48 : decode cX9_init 48 = .ok (.putfield 27, 3) := by decide +kernel
theorem dX9_init_51 : decode cX9_init 51 = .ok (.aload_n 0, 1) := by decide +kernel
theorem dX9_init_52 : decode cX9_init 52 = .ok (.iconst 4, 1) := by decide +kernel
theorem dX9_init_53 : decode cX9_init 53 = .ok (.newarray .int, 2) := by decide +kernel
theorem dX9_init_55 : decode cX9_init 55 = .ok (.putfield 31, 3) := by decide +kernel
theorem dX9_init_58 : decode cX9_init 58 = .ok (.aload_n 0, 1) := by decide +kernel
theorem dX9_init_59 : decode cX9_init 59 = .ok (.iconst 5, 1) := by decide +kernel
theorem dX9_init_60 : decode cX9_init 60 = .ok (.newarray .int, 2) := by decide +kernel
theorem dX9_init_62 : decode cX9_init 62 = .ok (.putfield 34, 3) := by decide +kernel
theorem dX9_init_65 : decode cX9_init 65 = .ok (.aload_n 0, 1) := by decide +kernel
theorem dX9_init_66 : decode cX9_init 66 = .ok (.iconst 5, 1) := by decide +kernel
theorem dX9_init_67 : decode cX9_init 67 = .ok (.newarray .int, 2) := by decide +kernel
theorem dX9_init_69 : decode cX9_init 69 = .ok (.putfield 37, 3) := by decide +kernel
theorem dX9_init_72 : decode cX9_init 72 = .ok (.aload_n 0, 1) := by decide +kernel
theorem dX9_init_73 : decode cX9_init 73 = .ok (.iconst 5, 1) := by decide +kernel
theorem dX9_init_74 : decode cX9_init 74 = .ok (.newarray .int, 2) := by decide +kernel
theorem dX9_init_76 : decode cX9_init 76 = .ok (.putfield 40, 3) := by decide +kernel
theorem dX9_init_79 : decode cX9_init 79 = .ok (.aload_n 0, 1) := by decide +kernel
theorem dX9_init_80 : decode cX9_init 80 = .ok (.iconst 5, 1) := by decide +kernel
theorem dX9_init_81 : decode cX9_init 81 = .ok (.newarray .int, 2) := by decide +kernel
theorem dX9_init_83 : decode cX9_init 83 = .ok (.putfield 43, 3) := by decide +kernel
theorem dX9_init_86 : decode cX9_init 86 = .ok (.return_, 1) := by decide +kernel
theorem dX9_copyFrom_0 : decode cX9_copyFrom 0 = .ok (.aload_n 0, 1) := by decide +kernel
theorem dX9_copyFrom_1 : decode cX9_copyFrom 1 = .ok (.aload_n 1, 1) := by decide +kernel
theorem dX9_copyFrom_2 : decode cX9_copyFrom 2 = .ok (.getfield 46, 3) := by decide +kernel
theorem dX9_copyFrom_5 : decode cX9_copyFrom 5 = .ok (.putfield 46, 3) := by decide +kernel
theorem dX9_copyFrom_8 : decode cX9_copyFrom 8 = .ok (.aload_n 1, 1) := by decide +kernel
theorem dX9_copyFrom_9 : decode cX9_copyFrom 9 = .ok (.getfield 9, 3) := by decide +kernel
theorem dX9_copyFrom_12 : decode cX9_copyFrom 12 = .ok (.iconst 0, 1) := by decide +kernel
theorem dX9_copyFrom_13 : decode cX9_copyFrom 13 = .ok (.aload_n 0, 1) := by decide +kernel
theorem dX9_copyFrom_14 : decode cX9_copyFrom 14 = .ok (.getfield 9, 3) := by decide +kernel
theorem dX9_copyFrom_17 : decode cX9_copyFrom 17 = .ok (.iconst 0, 1) := by decide +kernel
theorem dX9_copyFrom_18 : decode cX9_copyFrom 18 = .ok (.bipush 12, 2) := by decide +kernel
theorem dX9_copyFrom_20 : decode cX9_copyFrom 20 = .ok (.invokestatic 63, 3) := by decide +kernel
theorem dX9_copyFrom_23 : decode cX9_copyFrom 23 = .ok (.aload_n 1, 1) := by decide +kernel
theorem dX9_copyFrom_24 : decode cX9_copyFrom 24 = .ok (.getfield 15, 3) := by decide +kernel
theorem dX9_copyFrom_27 : decode cX9_copyFrom 27 = .ok (.iconst 0, 1) := by decide +kernel
theorem dX9_copyFrom_28 : decode cX9_copyFrom 28 = .ok (.aload_n 0, 1) := by decide +kernel
theorem dX9_copyFrom_29 : decode cX9_copyFrom 29 = .ok (.getfield 15, 3) := by decide +kernel
theorem dX9_copyFrom_32 : decode cX9_copyFrom 32 = .ok (.iconst 0, 1) := by decide +kernel
theorem dX9_copyFrom_33 : decode cX9_copyFrom 33 = .ok (.bipush 12, 2) := by decide +kernel
theorem dX9_copyFrom_35 : decode cX9_copyFrom 35 = .ok (.invokestatic 63, 3) := by decide +kernel
theorem dX9_copyFrom_38 : decode cX9_copyFrom 38 = .ok (.aload_n 1, 1) := by decide +kernel
theorem dX9_copyFrom_39 : decode cX9_copyFrom 39 = .ok (.getfield 18, 3) := by decide +kernel
theorem dX9_copyFrom_42 : decode cX9_copyFrom 42 = .ok (.iconst 0, 1) := by decide +kernel
theorem dX9_copyFrom_43 : decode cX9_copyFrom 43 = .ok (.aload_n 0, 1) := by decide +kernel
theorem dX9_copyFrom_44 : decode cX9_copyFrom 44 = .ok (.getfield 18, 3) := by decide +kernel
theorem dX9_copyFrom_47 : decode cX9_copyFrom 47 = .ok (.iconst 0, 1) := by decide +kernel
theorem dX9_copyFrom_48 : decode cX9_copyFrom 48 = .ok (.bipush 12, 2) := by decide +kernel
theorem dX9_copyFrom_50 : decode cX9_copyFrom 50 = .ok (.invokestatic 63, 3) := by decide +kernel
theorem dX9_copyFrom_53 : decode cX9_copyFrom 53 = .ok (.aload_n 1, 1) := by decide +kernel
theorem dX9_copyFrom_54 : decode cX9_copyFrom 54 = .ok (.getfield 21, 3) := by decide +kernel
theorem dX9_copyFrom_57 : decode cX9_copyFrom 57 = .ok (.iconst 0, 1) := by decide +kernel
theorem dX9_copyFrom_58 : decode cX9_copyFrom 58 = .ok (.aload_n 0, 1) := by decide +kernel
theorem dX9_copyFrom_59 : decode cX9_copyFrom 59 = .ok (.getfield 21, 3) := by decide +kernel
theorem dX9_copyFrom_62 : decode cX9_copyFrom 62 = .ok (.iconst 0, 1) := by decide +kernel
theorem dX9_copyFrom_63 : decode cX9_copyFrom 63 = .ok (.bipush 12, 2) := by decide +kernel
theorem dX9_copyFrom_65 : decode cX9_copyFrom 65 = .ok (.invokestatic 63, 3) := by decide +kernel
theorem dX9_copyFrom_68 : decode cX9_copyFrom 68 = .ok (.aload_n 0, 1) := by decide +kernel
theorem dX9_copyFrom_69 : decode cX9_copyFrom 69 = .ok (.aload_n 1, 1) := by decide +kernel
theorem dX9_copyFrom_70 : decode cX9_copyFrom 70 = .ok (.getfield 50, 3) := by decide +kernel
theorem dX9_copyFrom_73 : decode cX9_copyFrom 73 = .ok (.putfield 50, 3) := by decide +kernel
theorem dX9_copyFrom_76 : decode cX9_copyFrom 76 = .ok (.aload_n 1, 1) := by decide +kernel
theorem dX9_copyFrom_77 : decode cX9_copyFrom 77 = .ok (.getfield 24, 3) := by decide +kernel
theorem dX9_copyFrom_80 : decode cX9_copyFrom 80 = .ok (.iconst 0, 1) := by decide +kernel
theorem dX9_copyFrom_81 : decode cX9_copyFrom 81 = .ok (.aload_n 0, 1) := by decide +kernel
theorem dX9_copyFrom_82 : decode cX9_copyFrom 82 = .ok (.getfield 24, 3) := by decide +kernel
theorem dX9_copyFrom_85 : decode cX9_copyFrom 85 = .ok (.iconst 0, 1) := by decide +kernel
theorem dX9_copyFrom_86 : decode cX9_copyFrom 86 = .ok (.iconst 4, 1) := by decide +kernel
theorem dX9_copyFrom_87 : decode cX9_copyFrom 87 = .ok (.invokestatic 63, 3) := by decide +kernel
theorem dX9_copyFrom_90 : decode cX9_copyFrom 90 = .ok (.aload_n 1, 1) := by decide +kernel
theorem dX9_copyFrom_91 : decode cX9_copyFrom 91 = .ok (.getfield 27, 3) := by decide +kernel
theorem dX9_copyFrom_94 : decode cX9_copyFrom 94 = .ok (.iconst 0, 1) := by decide +kernel
theorem dX9_copyFrom_95 : decode cX9_copyFrom 95 = .ok (.aload_n 0, 1) := by decide +kernel
theorem dX9_copyFrom_96 : decode cX9_copyFrom 96 = .ok (.getfield 27, 3) := by decide +kernel
theorem dX9_copyFrom_99 : decode cX9_copyFrom 99 = .ok (.iconst 0, 1) := by decide +kernel
theorem dX9_copyFrom_100 : decode cX9_copyFrom 100 = .ok (.bipush 8, 2) := by decide +kernel
theorem dX9_copyFrom_102 : decode cX9_copyFrom 102 = .ok (.invokestatic 63, 3) := by decide +kernel
theorem dX9_copyFrom_105 : decode cX9_copyFrom 105 = .ok (.aload_n 1, 1) := by decide +kernel
theorem dX9_copyFrom_106 : decode cX9_copyFrom 106 = .ok (.getfield 31, 3) := by decide +kernel
theorem dX9_copyFrom_109 : decode cX9_copyFrom 109 = .ok (.iconst 0, 1) := by decide +kernel
theorem dX9_copyFrom_110 : decode cX9_copyFrom 110 = .ok (.aload_n 0, 1) := by decide +kernel
theorem dX9_copyFrom_111 : decode cX9_copyFrom 111 = .ok (.getfield 31, 3) := by decide +kernel
theorem dX9_copyFrom_114 : decode cX9_copyFrom 114 = .ok (.iconst 0, 1) := by decide +kernel
theorem dX9_copyFrom_115 : decode cX9_copyFrom 115 = .ok (.iconst 4, 1) := by decide +kernel
theorem dX9_copyFrom_116 : decode cX9_copyFrom 116 = .ok (.invokestatic 63, 3) := by decide +kernel
theorem dX9_copyFrom_119 : decode cX9_copyFrom 119 = .ok (.aload_n 0, 1) := by decide +kernel
theorem dX9_copyFrom_120 : decode cX9_copyFrom 120 = .ok (.aload_n 1, 1) := by decide +kernel
theorem dX9_copyFrom_121 : decode cX9_copyFrom 121 = .ok (.getfield 53, 3) := by decide +kernel
theorem dX9_copyFrom_124 : decode cX9_copyFrom 124 = .ok (.putfield 53, 3) := by decide +kernel
theorem dX9_copyFrom_127 : decode cX9_copyFrom 127 = .ok (.aload_n 1, 1) := by decide +kernel
theorem dX9_copyFrom_128 : decode cX9_copyFrom 128 = .ok (.getfield 34, 3) := by decide +kernel
theorem dX9_copyFrom_131 : decode cX9_copyFrom 131 = .ok (.iconst 0, 1) := by decide +kernel
theorem dX9_copyFrom_132 : decode cX9_copyFrom 132 = .ok (.aload_n 0, 1) := by decide +kernel
theorem dX9_copyFrom_133 : decode cX9_copyFrom 133 = .ok (.getfield 34, 3) := by decide +kernel
theorem dX9_copyFrom_136 : decode cX9_copyFrom 136 = .ok (.iconst 0, 1) := by decide +kernel
theorem dX9_copyFrom_137 : decode cX9_copyFrom 137 = .ok (.iconst 5, 1) := by decide +kernel
theorem dX9_copyFrom_138 : decode cX9_copyFrom 138 = .ok (.invokestatic 63, 3) := by decide +kernel
theorem dX9_copyFrom_141 : decode cX9_copyFrom 141 = .ok (.aload_n 1, 1) := by decide +kernel
theorem dX9_copyFrom_142 : decode cX9_copyFrom 142 = .ok (.getfield 37, 3) := by decide +kernel
theorem dX9_copyFrom_145 : decode cX9_copyFrom 145 = .ok (.iconst 0, 1) := by decide +kernel
theorem dX9_copyFrom_146 : decode cX9_copyFrom 146 = .ok (.aload_n 0, 1) := by decide +kernel
theorem dX9_copyFrom_147 : decode cX9_copyFrom 147 = .ok (.getfield 37, 3) := by decide +kernel
theorem dX9_copyFrom_150 : decode cX9_copyFrom 150 = .ok (.iconst 0, 1) := by decide +kernel
theorem dX9_copyFrom_151 : decode cX9_copyFrom 151 = .ok (.iconst 5, 1) := by decide +kernel
theorem dX9_copyFrom_152 : decode cX9_copyFrom 152 = .ok (.invokestatic 63, 3) := by decide +kernel
theorem dX9_copyFrom_155 : decode cX9_copyFrom 155 = .ok (.aload_n 1, 1) := by decide +kernel
theorem dX9_copyFrom_156 : decode cX9_copyFrom 156 = .ok (.getfield 40, 3) := by decide +kernel
theorem dX9_copyFrom_159 : decode cX9_copyFrom 159 = .ok (.iconst 0, 1) := by decide +kernel
theorem dX9_copyFrom_160 : decode cX9_copyFrom 160 = .ok (.aload_n 0, 1) := by decide +kernel
theorem dX9_copyFrom_161 : decode cX9_copyFrom 161 = .ok (.getfield 40, 3) := by decide +kernel
theorem dX9_copyFrom_164 : decode cX9_copyFrom 164 = .ok (.iconst 0, 1) := by decide +kernel
theorem dX9_copyFrom_165 : decode cX9_copyFrom 165 = .ok (.iconst 5, 1) := by decide +kernel
theorem dX9_copyFrom_166 : decode cX9_copyFrom 166 = .ok (.invokestatic 63, 3) := by decide +kernel
theorem dX9_copyFrom_169 : decode cX9_copyFrom 169 = .ok (.aload_n 1, 1) := by decide +kernel
theorem dX9_copyFrom_170 : decode cX9_copyFrom 170 = .ok (.getfield 43, 3) := by decide +kernel
theorem dX9_copyFrom_173 : decode cX9_copyFrom 173 = .ok (.iconst 0, 1) := by decide +kernel
theorem dX9_copyFrom_174 : decode cX9_copyFrom 174 = .ok (.aload_n 0, 1) := by decide +kernel
theorem dX9_copyFrom_175 : decode cX9_copyFrom 175 = .ok (.getfield 43, 3) := by decide +kernel
theorem dX9_copyFrom_178 : decode cX9_copyFrom 178 = .ok (.iconst 0, 1) := by decide +kernel
theorem dX9_copyFrom_179 : decode cX9_copyFrom 179 = .ok (.iconst 5, 1) := by decide +kernel
theorem dX9_copyFrom_180 : decode cX9_copyFrom 180 = .ok (.invokestatic 63, 3) := by decide +kernel
theorem dX9_copyFrom_183 : decode cX9_copyFrom 183 = .ok (.aload_n 0, 1) := by decide +kernel
theorem dX9_copyFrom_184 : decode cX9_copyFrom 184 = .ok (.aload_n 1, 1) := by decide +kernel
theorem dX9_copyFrom_185 : decode cX9_copyFrom 185 = .ok (.getfield 56, 3) := by decide +kernel
theorem dX9_copyFrom_188 : decode cX9_copyFrom 188 = .ok (.putfield 56, 3) := by decide +kernel
theorem dX9_copyFrom_191 : decode cX9_copyFrom 191 = .ok (.aload_n 0, 1) := by decide +kernel
theorem dX9_copyFrom_192 : decode cX9_copyFrom 192 = .ok (.aload_n 1, 1) := by decide +kernel
theorem dX9_copyFrom_193 : decode cX9_copyFrom 193 = .ok (.getfield 60, 3) := by decide +kernel
theorem dX9_copyFrom_196 : decode cX9_copyFrom 196 = .ok (.putfield 60, 3) := by decide +kernel
theorem dX9_copyFrom_199 : decode cX9_copyFrom 199 = .ok (.return_, 1) := by decide +kernel
theorem dX9_isThing_0 : decode cX9_isThing 0 = .ok (.iload_n 1, 1) := by decide +kernel
theorem dX9_isThing_1 : decode cX9_isThing 1 = .ok (.ifCond .lt 15, 3) := by decide +kernel
theorem dX9_isThing_4 : decode cX9_isThing 4 = .ok (.iload_n 1, 1) := by decide +kernel
theorem dX9_isThing_5 : decode cX9_isThing 5 = .ok (.aload_n 0, 1) := by decide +kernel
theorem dX9_isThing_6 : decode cX9_isThing 6 = .ok (.getfield 46, 3) := by decide +kernel
theorem dX9_isThing_9 : decode cX9_isThing 9 = .ok (.if_icmp .ge 7, 3) := by decide +kernel
theorem dX9_isThing_12 : decode cX9_isThing 12 = .ok (.iconst 1, 1) := by decide +kernel
theorem dX9_isThing_13 : decode cX9_isThing 13 = .ok (.goto 4, 3) := by decide +kernel
theorem dX9_isThing_16 : decode cX9_isThing 16 = .ok (.iconst 0, 1) := by decide +kernel
theorem dX9_isThing_17 : decode cX9_isThing 17 = .ok (.ireturn, 1) := by decide +kernel
theorem dX9_isCart_0 : decode cX9_isCart 0 = .ok (.iload_n 1, 1) := by decide +kernel
theorem dX9_isCart_1 : decode cX9_isCart 1 = .ok (.ifCond .lt 15, 3) := by decide +kernel
theorem dX9_isCart_4 : decode cX9_isCart 4 = .ok (.iload_n 1, 1) := by decide +kernel
theorem dX9_isCart_5 : decode cX9_isCart 5 = .ok (.aload_n 0, 1) := by decide +kernel
theorem dX9_isCart_6 : decode cX9_isCart 6 = .ok (.getfield 50, 3) := by decide +kernel
theorem dX9_isCart_9 : decode cX9_isCart 9 = .ok (.if_icmp .ge 7, 3) := by decide +kernel
theorem dX9_isCart_12 : decode cX9_isCart 12 = .ok (.iconst 1, 1) := by decide +kernel
theorem dX9_isCart_13 : decode cX9_isCart 13 = .ok (.goto 4, 3) := by decide +kernel
theorem dX9_isCart_16 : decode cX9_isCart 16 = .ok (.iconst 0, 1) := by decide +kernel
theorem dX9_isCart_17 : decode cX9_isCart 17 = .ok (.ireturn, 1) := by decide +kernel
theorem dX9_isRoad_0 : decode cX9_isRoad 0 = .ok (.iload_n 1, 1) := by decide +kernel
theorem dX9_isRoad_1 : decode cX9_isRoad 1 = .ok (.ifCond .lt 15, 3) := by decide +kernel
theorem dX9_isRoad_4 : decode cX9_isRoad 4 = .ok (.iload_n 1, 1) := by decide +kernel
theorem dX9_isRoad_5 : decode cX9_isRoad 5 = .ok (.aload_n 0, 1) := by decide +kernel
theorem dX9_isRoad_6 : decode cX9_isRoad 6 = .ok (.getfield 53, 3) := by decide +kernel
theorem dX9_isRoad_9 : decode cX9_isRoad 9 = .ok (.if_icmp .ge 7, 3) := by decide +kernel
theorem dX9_isRoad_12 : decode cX9_isRoad 12 = .ok (.iconst 1, 1) := by decide +kernel
theorem dX9_isRoad_13 : decode cX9_isRoad 13 = .ok (.goto 4, 3) := by decide +kernel
theorem dX9_isRoad_16 : decode cX9_isRoad 16 = .ok (.iconst 0, 1) := by decide +kernel
theorem dX9_isRoad_17 : decode cX9_isRoad 17 = .ok (.ireturn, 1) := by decide +kernel
theorem dX9_thingAt_0 : decode cX9_thingAt 0 = .ok (.iconst 0, 1) := by decide +kernel
theorem dX9_thingAt_1 : decode cX9_thingAt 1 = .ok (.istore_n 3, 1) := by decide +kernel
theorem dX9_thingAt_2 : decode cX9_thingAt 2 = .ok (.iload_n 3, 1) := by decide +kernel
theorem dX9_thingAt_3 : decode cX9_thingAt 3 = .ok (.aload_n 0, 1) := by decide +kernel
theorem dX9_thingAt_4 : decode cX9_thingAt 4 = .ok (.getfield 46, 3) := by decide +kernel
theorem dX9_thingAt_7 : decode cX9_thingAt 7 = .ok (.if_icmp .ge 31, 3) := by decide +kernel
theorem dX9_thingAt_10 : decode cX9_thingAt 10 = .ok (.aload_n 0, 1) := by decide +kernel
theorem dX9_thingAt_11 : decode cX9_thingAt 11 = .ok (.getfield 18, 3) := by decide +kernel
theorem dX9_thingAt_14 : decode cX9_thingAt 14 = .ok (.iload_n 3, 1) := by decide +kernel
theorem dX9_thingAt_15 : decode cX9_thingAt 15 = .ok (.iaload, 1) := by decide +kernel
theorem dX9_thingAt_16 : decode cX9_thingAt 16 = .ok (.iload_n 1, 1) := by decide +kernel
theorem dX9_thingAt_17 : decode cX9_thingAt 17 = .ok (.if_icmp .ne 15, 3) := by decide +kernel
theorem dX9_thingAt_20 : decode cX9_thingAt 20 = .ok (.aload_n 0, 1) := by decide +kernel
theorem dX9_thingAt_21 : decode cX9_thingAt 21 = .ok (.getfield 21, 3) := by decide +kernel
theorem dX9_thingAt_24 : decode cX9_thingAt 24 = .ok (.iload_n 3, 1) := by decide +kernel
theorem dX9_thingAt_25 : decode cX9_thingAt 25 = .ok (.iaload, 1) := by decide +kernel
theorem dX9_thingAt_26 : decode cX9_thingAt 26 = .ok (.iload_n 2, 1) := by decide +kernel
theorem dX9_thingAt_27 : decode cX9_thingAt 27 = .ok (.if_icmp .ne 5, 3) := by decide +kernel
theorem dX9_thingAt_30 : decode cX9_thingAt 30 = .ok (.iload_n 3, 1) := by decide +kernel
theorem dX9_thingAt_31 : decode cX9_thingAt 31 = .ok (.ireturn, 1) := by decide +kernel
theorem dX9_thingAt_32 : decode cX9_thingAt 32 = .ok (.iinc 3 1, 3) := by decide +kernel
theorem dX9_thingAt_35 : decode cX9_thingAt 35 = .ok (.goto (-33), 3) := by decide +kernel
theorem dX9_thingAt_38 : decode cX9_thingAt 38 = .ok (.bipush (-4), 2) := by decide +kernel
theorem dX9_thingAt_40 : decode cX9_thingAt 40 = .ok (.ireturn, 1) := by decide +kernel
theorem dX9_premisesOn_0 : decode cX9_premisesOn 0 = .ok (.iconst 0, 1) := by decide +kernel
theorem dX9_premisesOn_1 : decode cX9_premisesOn 1 = .ok (.istore_n 2, 1) := by decide +kernel
theorem dX9_premisesOn_2 : decode cX9_premisesOn 2 = .ok (.iconst 0, 1) := by decide +kernel
theorem dX9_premisesOn_3 : decode cX9_premisesOn 3 = .ok (.istore_n 3, 1) := by decide +kernel
theorem dX9_premisesOn_4 : decode cX9_premisesOn 4 = .ok (.iload_n 3, 1) := by decide +kernel
theorem dX9_premisesOn_5 : decode cX9_premisesOn 5 = .ok (.aload_n 0, 1) := by decide +kernel
theorem dX9_premisesOn_6 : decode cX9_premisesOn 6 = .ok (.getfield 46, 3) := by decide +kernel
theorem dX9_premisesOn_9 : decode cX9_premisesOn 9 = .ok (.if_icmp .ge 31, 3) := by decide +kernel
theorem dX9_premisesOn_12 : decode cX9_premisesOn 12 = .ok (.aload_n 0, 1) := by decide +kernel
theorem dX9_premisesOn_13 : decode cX9_premisesOn 13 = .ok (.getfield 18, 3) := by decide +kernel
theorem dX9_premisesOn_16 : decode cX9_premisesOn 16 = .ok (.iload_n 3, 1) := by decide +kernel
theorem dX9_premisesOn_17 : decode cX9_premisesOn 17 = .ok (.iaload, 1) := by decide +kernel
theorem dX9_premisesOn_18 : decode cX9_premisesOn 18 = .ok (.iload_n 1, 1) := by decide +kernel
theorem dX9_premisesOn_19 : decode cX9_premisesOn 19 = .ok (.if_icmp .ne 15, 3) := by decide +kernel
theorem dX9_premisesOn_22 : decode cX9_premisesOn 22 = .ok (.aload_n 0, 1) := by decide +kernel
theorem dX9_premisesOn_23 : decode cX9_premisesOn 23 = .ok (.getfield 9, 3) := by decide +kernel
theorem dX9_premisesOn_26 : decode cX9_premisesOn 26 = .ok (.iload_n 3, 1) := by decide +kernel
theorem dX9_premisesOn_27 : decode cX9_premisesOn 27 = .ok (.iaload, 1) := by decide +kernel
theorem dX9_premisesOn_28 : decode cX9_premisesOn 28 = .ok (.ifCond .ne 6, 3) := by decide +kernel
theorem dX9_premisesOn_31 : decode cX9_premisesOn 31 = .ok (.iinc 2 1, 3) := by decide +kernel
theorem dX9_premisesOn_34 : decode cX9_premisesOn 34 = .ok (.iinc 3 1, 3) := by decide +kernel
theorem dX9_premisesOn_37 : decode cX9_premisesOn 37 = .ok (.goto (-33), 3) := by decide +kernel
theorem dX9_premisesOn_40 : decode cX9_premisesOn 40 = .ok (.iload_n 2, 1) := by decide +kernel
theorem dX9_premisesOn_41 : decode cX9_premisesOn 41 = .ok (.ireturn, 1) := by decide +kernel
theorem dX9_weightOn_0 : decode cX9_weightOn 0 = .ok (.iconst 0, 1) := by decide +kernel
theorem dX9_weightOn_1 : decode cX9_weightOn 1 = .ok (.istore_n 3, 1) := by decide +kernel
theorem dX9_weightOn_2 : decode cX9_weightOn 2 = .ok (.iconst 0, 1) := by decide +kernel
theorem dX9_weightOn_3 : decode cX9_weightOn 3 = .ok (.istore 4, 2) := by decide +kernel
theorem dX9_weightOn_5 : decode cX9_weightOn 5 = .ok (.iload 4, 2) := by decide +kernel
theorem dX9_weightOn_7 : decode cX9_weightOn 7 = .ok (.aload_n 0, 1) := by decide +kernel
theorem dX9_weightOn_8 : decode cX9_weightOn 8 = .ok (.getfield 46, 3) := by decide +kernel
theorem dX9_weightOn_11 : decode cX9_weightOn 11 = .ok (.if_icmp .ge 41, 3) := by decide +kernel
theorem dX9_weightOn_14 : decode cX9_weightOn 14 = .ok (.aload_n 0, 1) := by decide +kernel
theorem dX9_weightOn_15 : decode cX9_weightOn 15 = .ok (.getfield 18, 3) := by decide +kernel
theorem dX9_weightOn_18 : decode cX9_weightOn 18 = .ok (.iload 4, 2) := by decide +kernel
theorem dX9_weightOn_20 : decode cX9_weightOn 20 = .ok (.iaload, 1) := by decide +kernel
theorem dX9_weightOn_21 : decode cX9_weightOn 21 = .ok (.iload_n 1, 1) := by decide +kernel
theorem dX9_weightOn_22 : decode cX9_weightOn 22 = .ok (.if_icmp .ne 24, 3) := by decide +kernel
theorem dX9_weightOn_25 : decode cX9_weightOn 25 = .ok (.aload_n 0, 1) := by decide +kernel
theorem dX9_weightOn_26 : decode cX9_weightOn 26 = .ok (.getfield 9, 3) := by decide +kernel
theorem dX9_weightOn_29 : decode cX9_weightOn 29 = .ok (.iload 4, 2) := by decide +kernel
theorem dX9_weightOn_31 : decode cX9_weightOn 31 = .ok (.iaload, 1) := by decide +kernel
theorem dX9_weightOn_32 : decode cX9_weightOn 32 = .ok (.iload_n 2, 1) := by decide +kernel
theorem dX9_weightOn_33 : decode cX9_weightOn 33 = .ok (.if_icmp .ne 13, 3) := by decide +kernel
theorem dX9_weightOn_36 : decode cX9_weightOn 36 = .ok (.iload_n 3, 1) := by decide +kernel
theorem dX9_weightOn_37 : decode cX9_weightOn 37 = .ok (.aload_n 0, 1) := by decide +kernel
theorem dX9_weightOn_38 : decode cX9_weightOn 38 = .ok (.getfield 15, 3) := by decide +kernel
theorem dX9_weightOn_41 : decode cX9_weightOn 41 = .ok (.iload 4, 2) := by decide +kernel
theorem dX9_weightOn_43 : decode cX9_weightOn 43 = .ok (.iaload, 1) := by decide +kernel
theorem dX9_weightOn_44 : decode cX9_weightOn 44 = .ok (.iadd, 1) := by decide +kernel
theorem dX9_weightOn_45 : decode cX9_weightOn 45 = .ok (.istore_n 3, 1) := by decide +kernel
theorem dX9_weightOn_46 : decode cX9_weightOn 46 = .ok (.iinc 4 1, 3) := by decide +kernel
theorem dX9_weightOn_49 : decode cX9_weightOn 49 = .ok (.goto (-44), 3) := by decide +kernel
theorem dX9_weightOn_52 : decode cX9_weightOn 52 = .ok (.iload_n 3, 1) := by decide +kernel
theorem dX9_weightOn_53 : decode cX9_weightOn 53 = .ok (.ireturn, 1) := by decide +kernel
set_option maxRecDepth 20000 in
theorem ggX9_weightOfAllOn_X9_weightOn : GoodIn wsX9_weightOfAllOn wsX9_weightOn := goodIn_r _ [5, 6, 7, 8, 9, 10, 11, 12, 13, 14, 15, 16, 17, 18, 19, 20, 21, 22, 23, 24, 25] (by decide +kernel) (by decide +kernel)
set_option maxRecDepth 20000 in
theorem gX9_weightOfAllOn_X9_weightOn : GoodIn wsX9_weightOfAllOn (wsV RX9 69 RX9 yX9_weightOn wsX9_weightOn) := goodIn_app (goodIn_of _ (by decide +kernel)) ggX9_weightOfAllOn_X9_weightOn
theorem dX9_weightOfAllOn_0 : decode cX9_weightOfAllOn 0 = .ok (.aload_n 0, 1) := by decide +kernel
theorem dX9_weightOfAllOn_1 : decode cX9_weightOfAllOn 1 = .ok (.iload_n 1, 1) := by decide +kernel
theorem dX9_weightOfAllOn_2 : decode cX9_weightOfAllOn 2 = .ok (.iconst 0, 1) := by decide +kernel
theorem dX9_weightOfAllOn_3 : decode cX9_weightOfAllOn 3 = .ok (.invokevirtual 69, 3) := by decide +kernel
theorem dX9_weightOfAllOn_6 : decode cX9_weightOfAllOn 6 = .ok (.aload_n 0, 1) := by decide +kernel
theorem dX9_weightOfAllOn_7 : decode cX9_weightOfAllOn 7 = .ok (.iload_n 1, 1) := by decide +kernel
theorem dX9_weightOfAllOn_8 : decode cX9_weightOfAllOn 8 = .ok (.iconst 1, 1) := by decide +kernel
theorem dX9_weightOfAllOn_9 : decode cX9_weightOfAllOn 9 = .ok (.invokevirtual 69, 3) := by decide +kernel
theorem dX9_weightOfAllOn_12 : decode cX9_weightOfAllOn 12 = .ok (.iadd, 1) := by decide +kernel
theorem dX9_weightOfAllOn_13 : decode cX9_weightOfAllOn 13 = .ok (.ireturn, 1) := by decide +kernel
set_option maxRecDepth 20000 in
theorem ggX9_weightOnCarts_X9_weightOfAllOn : GoodIn wsX9_weightOnCarts wsX9_weightOfAllOn := goodIn_r _ [6, 7, 8, 9, 5, 10, 11, 12, 13, 14, 15, 16, 17, 18, 19, 20, 21, 22, 23, 24, 25, 26, 27, 28, 29, 30] (by decide +kernel) (by decide +kernel)
set_option maxRecDepth 20000 in
theorem gX9_weightOnCarts_X9_weightOfAllOn : GoodIn wsX9_weightOnCarts (wsV RX9 73 RX9 yX9_weightOfAllOn wsX9_weightOfAllOn) := goodIn_app (goodIn_of _ (by decide +kernel)) ggX9_weightOnCarts_X9_weightOfAllOn
theorem dX9_weightOnCarts_0 : decode cX9_weightOnCarts 0 = .ok (.iconst 0, 1) := by decide +kernel
theorem dX9_weightOnCarts_1 : decode cX9_weightOnCarts 1 = .ok (.istore_n 1, 1) := by decide +kernel
theorem dX9_weightOnCarts_2 : decode cX9_weightOnCarts 2 = .ok (.iconst 0, 1) := by decide +kernel
theorem dX9_weightOnCarts_3 : decode cX9_weightOnCarts 3 = .ok (.istore_n 2, 1) := by decide +kernel
theorem dX9_weightOnCarts_4 : decode cX9_weightOnCarts 4 = .ok (.iload_n 2, 1) := by decide +kernel
theorem dX9_weightOnCarts_5 : decode cX9_weightOnCarts 5 = .ok (.aload_n 0, 1) := by decide +kernel
theorem dX9_weightOnCarts_6 : decode cX9_weightOnCarts 6 = .ok (.getfield 50, 3) := by decide +kernel
theorem dX9_weightOnCarts_9 : decode cX9_weightOnCarts 9 = .ok (.if_icmp .ge 17, 3) := by decide +kernel
theorem dX9_weightOnCarts_12 : decode cX9_weightOnCarts 12 = .ok (.iload_n 1, 1) := by decide +kernel
theorem dX9_weightOnCarts_13 : decode cX9_weightOnCarts 13 = .ok (.aload_n 0, 1) := by decide +kernel
theorem dX9_weightOnCarts_14 : decode cX9_weightOnCarts 14 = .ok (.iload_n 2, 1) := by decide +kernel
theorem dX9_weightOnCarts_15 : decode cX9_weightOnCarts 15 = .ok (.invokevirtual 73, 3) := by decide +kernel
theorem dX9_weightOnCarts_18 : decode cX9_weightOnCarts 18 = .ok (.iadd, 1) := by decide +kernel
theorem dX9_weightOnCarts_19 : decode cX9_weightOnCarts 19 = .ok (.istore_n 1, 1) := by decide +kernel
theorem dX9_weightOnCarts_20 : decode cX9_weightOnCarts 20 = .ok (.iinc 2 1, 3) := by decide +kernel
theorem dX9_weightOnCarts_23 : decode cX9_weightOnCarts 23 = .ok (.goto (-19), 3) := by decide +kernel
theorem dX9_weightOnCarts_26 : decode cX9_weightOnCarts 26 = .ok (.iload_n 1, 1) := by decide +kernel
theorem dX9_weightOnCarts_27 : decode cX9_weightOnCarts 27 = .ok (.ireturn, 1) := by decide +kernel
theorem dX9_thingsOfKind_0 : decode cX9_thingsOfKind 0 = .ok (.iconst 0, 1) := by decide +kernel
theorem dX9_thingsOfKind_1 : decode cX9_thingsOfKind 1 = .ok (.istore_n 2, 1) := by decide +kernel
theorem dX9_thingsOfKind_2 : decode cX9_thingsOfKind 2 = .ok (.iconst 0, 1) := by decide +kernel
theorem dX9_thingsOfKind_3 : decode cX9_thingsOfKind 3 = .ok (.istore_n 3, 1) := by decide +kernel
theorem dX9_thingsOfKind_4 : decode cX9_thingsOfKind 4 = .ok (.iload_n 3, 1) := by decide +kernel
theorem dX9_thingsOfKind_5 : decode cX9_thingsOfKind 5 = .ok (.aload_n 0, 1) := by decide +kernel
theorem dX9_thingsOfKind_6 : decode cX9_thingsOfKind 6 = .ok (.getfield 46, 3) := by decide +kernel
theorem dX9_thingsOfKind_9 : decode cX9_thingsOfKind 9 = .ok (.if_icmp .ge 22, 3) := by decide +kernel
theorem dX9_thingsOfKind_12 : decode cX9_thingsOfKind 12 = .ok (.aload_n 0, 1) := by decide +kernel
theorem dX9_thingsOfKind_13 : decode cX9_thingsOfKind 13 = .ok (.getfield 9, 3) := by decide +kernel
theorem dX9_thingsOfKind_16 : decode cX9_thingsOfKind 16 = .ok (.iload_n 3, 1) := by decide +kernel
theorem dX9_thingsOfKind_17 : decode cX9_thingsOfKind 17 = .ok (.iaload, 1) := by decide +kernel
theorem dX9_thingsOfKind_18 : decode cX9_thingsOfKind 18 = .ok (.iload_n 1, 1) := by decide +kernel
theorem dX9_thingsOfKind_19 : decode cX9_thingsOfKind 19 = .ok (.if_icmp .ne 6, 3) := by decide +kernel
theorem dX9_thingsOfKind_22 : decode cX9_thingsOfKind 22 = .ok (.iinc 2 1, 3) := by decide +kernel
theorem dX9_thingsOfKind_25 : decode cX9_thingsOfKind 25 = .ok (.iinc 3 1, 3) := by decide +kernel
theorem dX9_thingsOfKind_28 : decode cX9_thingsOfKind 28 = .ok (.goto (-24), 3) := by decide +kernel
theorem dX9_thingsOfKind_31 : decode cX9_thingsOfKind 31 = .ok (.iload_n 2, 1) := by decide +kernel
theorem dX9_thingsOfKind_32 : decode cX9_thingsOfKind 32 = .ok (.ireturn, 1) := by decide +kernel
theorem dX9_thingsOnCarts_0 : decode cX9_thingsOnCarts 0 = .ok (.iconst 0, 1) := by decide +kernel
theorem dX9_thingsOnCarts_1 : decode cX9_thingsOnCarts 1 = .ok (.istore_n 1, 1) := by decide +kernel
theorem dX9_thingsOnCarts_2 : decode cX9_thingsOnCarts 2 = .ok (.iconst 0, 1) := by decide +kernel
theorem dX9_thingsOnCarts_3 : decode cX9_thingsOnCarts 3 = .ok (.istore_n 2, 1) := by decide +kernel
theorem dX9_thingsOnCarts_4 : decode cX9_thingsOnCarts 4 = .ok (.iload_n 2, 1) := by decide +kernel
theorem dX9_thingsOnCarts_5 : decode cX9_thingsOnCarts 5 = .ok (.aload_n 0, 1) := by decide +kernel
theorem dX9_thingsOnCarts_6 : decode cX9_thingsOnCarts 6 = .ok (.getfield 46, 3) := by decide +kernel
theorem dX9_thingsOnCarts_9 : decode cX9_thingsOnCarts 9 = .ok (.if_icmp .ge 23, 3) := by decide +kernel
theorem dX9_thingsOnCarts_12 : decode cX9_thingsOnCarts 12 = .ok (.aload_n 0, 1) := by decide +kernel
theorem dX9_thingsOnCarts_13 : decode cX9_thingsOnCarts 13 = .ok (.getfield 18, 3) := by decide +kernel
theorem dX9_thingsOnCarts_16 : decode cX9_thingsOnCarts 16 = .ok (.iload_n 2, 1) := by decide +kernel
theorem dX9_thingsOnCarts_17 : decode cX9_thingsOnCarts 17 = .ok (.iaload, 1) := by decide +kernel
theorem dX9_thingsOnCarts_18 : decode cX9_thingsOnCarts 18 = .ok (.bipush (-4), 2) := by decide +kernel
theorem dX9_thingsOnCarts_20 : decode cX9_thingsOnCarts 20 = .ok (.if_icmp .eq 6, 3) := by decide +kernel
theorem dX9_thingsOnCarts_23 : decode cX9_thingsOnCarts 23 = .ok (.iinc 1 1, 3) := by decide +kernel
theorem dX9_thingsOnCarts_26 : decode cX9_thingsOnCarts 26 = .ok (.iinc 2 1, 3) := by decide +kernel
theorem dX9_thingsOnCarts_29 : decode cX9_thingsOnCarts 29 = .ok (.goto (-25), 3) := by decide +kernel
theorem dX9_thingsOnCarts_32 : decode cX9_thingsOnCarts 32 = .ok (.iload_n 1, 1) := by decide +kernel
theorem dX9_thingsOnCarts_33 : decode cX9_thingsOnCarts 33 = .ok (.ireturn, 1) := by decide +kernel
set_option maxRecDepth 20000 in
theorem ggX9_isWithinLimit_X9_weightOfAllOn : GoodIn wsX9_isWithinLimit wsX9_weightOfAllOn := goodIn_r _ [6, 7, 8, 9, 5, 10, 11, 12, 13, 14, 15, 16, 17, 18, 19, 20, 21, 22, 23, 24, 25, 26, 27, 28, 29, 30] (by decide +kernel) (by decide +kernel)
set_option maxRecDepth 20000 in
theorem gX9_isWithinLimit_X9_weightOfAllOn : GoodIn wsX9_isWithinLimit (wsV RX9 73 RX9 yX9_weightOfAllOn wsX9_weightOfAllOn) := goodIn_app (goodIn_of _ (by decide +kernel)) ggX9_isWithinLimit_X9_weightOfAllOn
theorem dX9_isWithinLimit_0 : decode cX9_isWithinLimit 0 = .ok (.aload_n 0, 1) := by decide +kernel
theorem dX9_isWithinLimit_1 : decode cX9_isWithinLimit 1 = .ok (.iload_n 1, 1) := by decide +kernel
theorem dX9_isWithinLimit_2 : decode cX9_isWithinLimit 2 = .ok (.invokevirtual 73, 3) := by decide +kernel
theorem dX9_isWithinLimit_5 : decode cX9_isWithinLimit 5 = .ok (.aload_n 0, 1) := by decide +kernel
theorem dX9_isWithinLimit_6 : decode cX9_isWithinLimit 6 = .ok (.getfield 34, 3) := by decide +kernel
theorem dX9_isWithinLimit_9 : decode cX9_isWithinLimit 9 = .ok (.iload_n 2, 1) := by decide +kernel
theorem dX9_isWithinLimit_10 : decode cX9_isWithinLimit 10 = .ok (.iaload, 1) := by decide +kernel
theorem dX9_isWithinLimit_11 : decode cX9_isWithinLimit 11 = .ok (.if_icmp .gt 7, 3) := by decide +kernel
theorem dX9_isWithinLimit_14 : decode cX9_isWithinLimit 14 = .ok (.iconst 1, 1) := by decide +kernel
theorem dX9_isWithinLimit_15 : decode cX9_isWithinLimit 15 = .ok (.goto 4, 3) := by decide +kernel
theorem dX9_isWithinLimit_18 : decode cX9_isWithinLimit 18 = .ok (.iconst 0, 1) := by decide +kernel
theorem dX9_isWithinLimit_19 : decode cX9_isWithinLimit 19 = .ok (.ireturn, 1) := by decide +kernel
set_option maxRecDepth 20000 in
theorem ggX9_wearOf_X9_wearIndex : GoodIn wsX9_wearOf wsX9_wearIndex := goodIn_r _ [5] (by decide +kernel) (by decide +kernel)
set_option maxRecDepth 20000 in
theorem gX9_wearOf_X9_wearIndex : GoodIn wsX9_wearOf (va_wsS RX9 77 yX9_wearIndex wsX9_wearIndex) := goodIn_app (goodIn_of _ (by decide +kernel)) ggX9_wearOf_X9_wearIndex
theorem dX9_wearOf_0 : decode cX9_wearOf 0 = .ok (.aload_n 0, 1) := by decide +kernel
theorem dX9_wearOf_1 : decode cX9_wearOf 1 = .ok (.getfield 27, 3) := by decide +kernel
theorem dX9_wearOf_4 : decode cX9_wearOf 4 = .ok (.iload_n 1, 1) := by decide +kernel
theorem dX9_wearOf_5 : decode cX9_wearOf 5 = .ok (.iload_n 2, 1) := by decide +kernel
theorem dX9_wearOf_6 : decode cX9_wearOf 6 = .ok (.invokestatic 77, 3) := by decide +kernel
theorem dX9_wearOf_9 : decode cX9_wearOf 9 = .ok (.faload, 1) := by decide +kernel
theorem dX9_wearOf_10 : decode cX9_wearOf 10 = .ok (.freturn, 1) := by decide +kernel
set_option maxRecDepth 20000 in
theorem ggX9_setWear_X9_wearIndex : GoodIn wsX9_setWear wsX9_wearIndex := goodIn_r _ [5] (by decide +kernel) (by decide +kernel)
set_option maxRecDepth 20000 in
theorem gX9_setWear_X9_wearIndex : GoodIn wsX9_setWear (va_wsS RX9 77 yX9_wearIndex wsX9_wearIndex) := goodIn_app (goodIn_of _ (by decide +kernel)) ggX9_setWear_X9_wearIndex
theorem dX9_setWear_0 : decode cX9_setWear 0 = .ok (.aload_n 0, 1) := by decide +kernel
theorem dX9_setWear_1 : decode cX9_setWear 1 = .ok (.getfield 27, 3) := by decide +kernel
theorem dX9_setWear_4 : decode cX9_setWear 4 = .ok (.iload_n 1, 1) := by decide +kernel
theorem dX9_setWear_5 : decode cX9_setWear 5 = .ok (.iload_n 2, 1) := by decide +kernel
theorem dX9_setWear_6 : decode cX9_setWear 6 = .ok (.invokestatic 77, 3) := by decide +kernel
theorem dX9_setWear_9 : decode cX9_setWear 9 = .ok (.fload_n 3, 1) := by decide +kernel
theorem dX9_setWear_10 : decode cX9_setWear 10 = .ok (.fastore, 1) := by decide +kernel
theorem dX9_setWear_11 : decode cX9_setWear 11 = .ok (.return_, 1) := by decide +kernel
theorem dX9_wearIndex_0 : decode cX9_wearIndex 0 = .ok (.iload_n 1, 1) := by decide +kernel
theorem dX9_wearIndex_1 : decode cX9_wearIndex 1 = .ok (.ifCond .eq 11, 3) := by decide +kernel
theorem dX9_wearIndex_4 : decode cX9_wearIndex 4 = .ok (.iconst 2, 1) := by decide +kernel
theorem dX9_wearIndex_5 : decode cX9_wearIndex 5 = .ok (.iload_n 0, 1) := by decide +kernel
theorem dX9_wearIndex_6 : decode cX9_wearIndex 6 = .ok (.imul, 1) := by decide +kernel
theorem dX9_wearIndex_7 : decode cX9_wearIndex 7 = .ok (.iconst 1, 1) := by decide +kernel
theorem dX9_wearIndex_8 : decode cX9_wearIndex 8 = .ok (.iadd, 1) := by decide +kernel
theorem dX9_wearIndex_9 : decode cX9_wearIndex 9 = .ok (.goto 6, 3) := by decide +kernel
theorem dX9_wearIndex_12 : decode cX9_wearIndex 12 = .ok (.iconst 2, 1) := by decide +kernel
theorem dX9_wearIndex_13 : decode cX9_wearIndex 13 = .ok (.iload_n 0, 1) := by decide +kernel
theorem dX9_wearIndex_14 : decode cX9_wearIndex 14 = .ok (.imul, 1) := by decide +kernel
theorem dX9_wearIndex_15 : decode cX9_wearIndex 15 = .ok (.ireturn, 1) := by decide +kernel
set_option maxRecDepth 20000 in
theorem ggX9_isWornOut_X9_wearOf : GoodIn wsX9_isWornOut wsX9_wearOf := goodIn_r _ [5, 6, 7, 8, 4, 9, 10, 11, 12, 13, 14, 15, 16, 17, 18, 19, 20, 21, 22, 23, 24, 25] (by decide +kernel) (by decide +kernel)
set_option maxRecDepth 20000 in
theorem gX9_isWornOut_X9_wearOf : GoodIn wsX9_isWornOut (wsV RX9 81 RX9 yX9_wearOf wsX9_wearOf) := goodIn_app (goodIn_of _ (by decide +kernel)) ggX9_isWornOut_X9_wearOf
theorem dX9_isWornOut_0 : decode cX9_isWornOut 0 = .ok (.aload_n 0, 1) := by decide +kernel
theorem dX9_isWornOut_1 : decode cX9_isWornOut 1 = .ok (.iload_n 1, 1) := by decide +kernel
theorem dX9_isWornOut_2 : decode cX9_isWornOut 2 = .ok (.iload_n 2, 1) := by decide +kernel
theorem dX9_isWornOut_3 : decode cX9_isWornOut 3 = .ok (.invokevirtual 81, 3) := by decide +kernel
theorem dX9_isWornOut_6 : decode cX9_isWornOut 6 = .ok (.fconst 1, 1) := by decide +kernel
theorem dX9_isWornOut_7 : decode cX9_isWornOut 7 = .ok (.fcmp .l, 1) := by decide +kernel
theorem dX9_isWornOut_8 : decode cX9_isWornOut 8 = .ok (.ifCond .lt 7, 3) := by decide +kernel
theorem dX9_isWornOut_11 : decode cX9_isWornOut 11 = .ok (.iconst 1, 1) := by decide +kernel
theorem dX9_isWornOut_12 : decode cX9_isWornOut 12 = .ok (.goto 4, 3) := by decide +kernel
theorem dX9_isWornOut_15 : decode cX9_isWornOut 15 = .ok (.iconst 0, 1) := by decide +kernel
theorem dX9_isWornOut_16 : decode cX9_isWornOut 16 = .ok (.ireturn, 1) := by decide +kernel
set_option maxRecDepth 20000 in
theorem ggX9_wornOutAxles_X9_isWornOut : GoodIn wsX9_wornOutAxles wsX9_isWornOut := goodIn_r _ [5, 6, 7, 8, 4, 9, 10, 11, 12, 13, 14, 15, 16, 17, 18, 19, 20, 21, 22, 23, 24, 25, 26, 27, 28, 29] (by decide +kernel) (by decide +kernel)
set_option maxRecDepth 20000 in
theorem gX9_wornOutAxles_X9_isWornOut : GoodIn wsX9_wornOutAxles (wsV RX9 85 RX9 yX9_isWornOut wsX9_isWornOut) := goodIn_app (goodIn_of _ (by decide +kernel)) ggX9_wornOutAxles_X9_isWornOut
theorem dX9_wornOutAxles_0 : decode cX9_wornOutAxles 0 = .ok (.aload_n 0, 1) := by decide +kernel
theorem dX9_wornOutAxles_1 : decode cX9_wornOutAxles 1 = .ok (.iload_n 1, 1) := by decide +kernel
theorem dX9_wornOutAxles_2 : decode cX9_wornOutAxles 2 = .ok (.iconst 0, 1) := by decide +kernel
theorem dX9_wornOutAxles_3 : decode cX9_wornOutAxles 3 = .ok (.invokevirtual 85, 3) := by decide +kernel
theorem dX9_wornOutAxles_6 : decode cX9_wornOutAxles 6 = .ok (.ifCond .eq 7, 3) := by decide +kernel
theorem dX9_wornOutAxles_9 : decode cX9_wornOutAxles 9 = .ok (.iconst 1, 1) := by decide +kernel
theorem dX9_wornOutAxles_10 : decode cX9_wornOutAxles 10 = .ok (.goto 4, 3) := by decide +kernel
theorem dX9_wornOutAxles_13 : decode cX9_wornOutAxles 13 = .ok (.iconst 0, 1) := by decide +kernel
theorem dX9_wornOutAxles_14 : decode cX9_wornOutAxles 14 = .ok (.aload_n 0, 1) := by decide +kernel
theorem dX9_wornOutAxles_15 : decode cX9_wornOutAxles 15 = .ok (.iload_n 1, 1) := by decide +kernel
theorem dX9_wornOutAxles_16 : decode cX9_wornOutAxles 16 = .ok (.iconst 1, 1) := by decide +kernel
theorem dX9_wornOutAxles_17 : decode cX9_wornOutAxles 17 = .ok (.invokevirtual 85, 3) := by decide +kernel
theorem dX9_wornOutAxles_20 : decode cX9_wornOutAxles 20 = .ok (.ifCond .eq 7, 3) := by decide +kernel
theorem dX9_wornOutAxles_23 : decode cX9_wornOutAxles 23 = .ok (.iconst 1, 1) := by decide +kernel
theorem dX9_wornOutAxles_24 : decode cX9_wornOutAxles 24 = .ok (.goto 4, 3) := by decide +kernel
theorem dX9_wornOutAxles_27 : decode cX9_wornOutAxles 27 = .ok (.iconst 0, 1) := by decide +kernel
theorem dX9_wornOutAxles_28 : decode cX9_wornOutAxles 28 = .ok (.iadd, 1) := by decide +kernel
theorem dX9_wornOutAxles_29 : decode cX9_wornOutAxles 29 = .ok (.ireturn, 1) := by decide +kernel
set_option maxRecDepth 20000 in
theorem ggX9_allWornOutAxles_X9_wornOutAxles : GoodIn wsX9_allWornOutAxles wsX9_wornOutAxles := goodIn_r _ [6, 7, 8, 9, 5, 10, 11, 12, 13, 14, 15, 16, 17, 18, 19, 20, 21, 22, 23, 24, 25, 26, 27, 28, 29, 30, 31, 32, 33, 34] (by decide +kernel) (by decide +kernel)
set_option maxRecDepth 20000 in
theorem gX9_allWornOutAxles_X9_wornOutAxles : GoodIn wsX9_allWornOutAxles (wsV RX9 89 RX9 yX9_wornOutAxles wsX9_wornOutAxles) := goodIn_app (goodIn_of _ (by decide +kernel)) ggX9_allWornOutAxles_X9_wornOutAxles
theorem dX9_allWornOutAxles_0 : decode cX9_allWornOutAxles 0 = .ok (.iconst 0, 1) := by decide +kernel
theorem dX9_allWornOutAxles_1 : decode cX9_allWornOutAxles 1 = .ok (.istore_n 1, 1) := by decide +kernel
theorem dX9_allWornOutAxles_2 : decode cX9_allWornOutAxles 2 = .ok (.iconst 0, 1) := by decide +kernel
theorem dX9_allWornOutAxles_3 : decode cX9_allWornOutAxles 3 = .ok (.istore_n 2, 1) := by decide +kernel
theorem dX9_allWornOutAxles_4 : decode cX9_allWornOutAxles 4 = .ok (.iload_n 2, 1) := by decide +kernel
theorem dX9_allWornOutAxles_5 : decode cX9_allWornOutAxles 5 = .ok (.aload_n 0, 1) := by decide +kernel
theorem dX9_allWornOutAxles_6 : decode cX9_allWornOutAxles 6 = .ok (.getfield 50, 3) := by decide +kernel
theorem dX9_allWornOutAxles_9 : decode cX9_allWornOutAxles 9 = .ok (.if_icmp .ge 17, 3) := by decide +kernel
theorem dX9_allWornOutAxles_12 : decode cX9_allWornOutAxles 12 = .ok (.iload_n 1, 1) := by decide +kernel
theorem dX9_allWornOutAxles_13 : decode cX9_allWornOutAxles 13 = .ok (.aload_n 0, 1) := by decide +kernel
theorem dX9_allWornOutAxles_14 : decode cX9_allWornOutAxles 14 = .ok (.iload_n 2, 1) := by decide +kernel
theorem dX9_allWornOutAxles_15 : decode cX9_allWornOutAxles 15 = .ok (.invokevirtual 89, 3) := by decide +kernel
theorem dX9_allWornOutAxles_18 : decode cX9_allWornOutAxles 18 = .ok (.iadd, 1) := by decide +kernel
theorem dX9_allWornOutAxles_19 : decode cX9_allWornOutAxles 19 = .ok (.istore_n 1, 1) := by decide +kernel
theorem dX9_allWornOutAxles_20 : decode cX9_allWornOutAxles 20 = .ok (.iinc 2 1, 3) := by decide +kernel
theorem dX9_allWornOutAxles_23 : decode cX9_allWornOutAxles 23 = .ok (.goto (-19), 3) := by decide +kernel
theorem dX9_allWornOutAxles_26 : decode cX9_allWornOutAxles 26 = .ok (.iload_n 1, 1) := by decide +kernel
theorem dX9_allWornOutAxles_27 : decode cX9_allWornOutAxles 27 = .ok (.ireturn, 1) := by decide +kernel
theorem dX9_tripsSoFar_0 : decode cX9_tripsSoFar 0 = .ok (.iconst 0, 1) := by decide +kernel
theorem dX9_tripsSoFar_1 : decode cX9_tripsSoFar 1 = .ok (.istore_n 1, 1) := by decide +kernel
theorem dX9_tripsSoFar_2 : decode cX9_tripsSoFar 2 = .ok (.iconst 0, 1) := by decide +kernel
theorem dX9_tripsSoFar_3 : decode cX9_tripsSoFar 3 = .ok (.istore_n 2, 1) := by decide +kernel
theorem dX9_tripsSoFar_4 : decode cX9_tripsSoFar 4 = .ok (.iload_n 2, 1) := by decide +kernel
theorem dX9_tripsSoFar_5 : decode cX9_tripsSoFar 5 = .ok (.aload_n 0, 1) := by decide +kernel
theorem dX9_tripsSoFar_6 : decode cX9_tripsSoFar 6 = .ok (.getfield 50, 3) := by decide +kernel
theorem dX9_tripsSoFar_9 : decode cX9_tripsSoFar 9 = .ok (.if_icmp .ge 18, 3) := by decide +kernel
theorem dX9_tripsSoFar_12 : decode cX9_tripsSoFar 12 = .ok (.iload_n 1, 1) := by decide +kernel
theorem dX9_tripsSoFar_13 : decode cX9_tripsSoFar 13 = .ok (.aload_n 0, 1) := by decide +kernel
theorem dX9_tripsSoFar_14 : decode cX9_tripsSoFar 14 = .ok (.getfield 31, 3) := by decide +kernel
theorem dX9_tripsSoFar_17 : decode cX9_tripsSoFar 17 = .ok (.iload_n 2, 1) := by decide +kernel
theorem dX9_tripsSoFar_18 : decode cX9_tripsSoFar 18 = .ok (.iaload, 1) := by decide +kernel
theorem dX9_tripsSoFar_19 : decode cX9_tripsSoFar 19 = .ok (.iadd, 1) := by decide +kernel
theorem dX9_tripsSoFar_20 : decode cX9_tripsSoFar 20 = .ok (.istore_n 1, 1) := by decide +kernel
theorem dX9_tripsSoFar_21 : decode cX9_tripsSoFar 21 = .ok (.iinc 2 1, 3) := by decide +kernel
theorem dX9_tripsSoFar_24 : decode cX9_tripsSoFar 24 = .ok (.goto (-20), 3) := by decide +kernel
theorem dX9_tripsSoFar_27 : decode cX9_tripsSoFar 27 = .ok (.iload_n 1, 1) := by decide +kernel
theorem dX9_tripsSoFar_28 : decode cX9_tripsSoFar 28 = .ok (.ireturn, 1) := by decide +kernel
set_option maxRecDepth 20000 in
theorem ggX10_init_X9_init : GoodIn wsX10_init wsX9_init := goodIn_r _ [45, 46, 2, 3, 47, 48, 49, 50, 51, 52, 53, 54, 55, 56, 57, 58, 59, 132, 133, 134, 135, 136, 137, 138, 139, 140, 141, 142, 143, 144, 145, 146, 147] (by decide +kernel) (by decide +kernel)
set_option maxRecDepth 20000 in
theorem gX10_init_X9_init : GoodIn wsX10_init (wsX9_init) := ggX10_init_X9_init
set_option maxRecDepth 20000 in
theorem ggX10_init_X3_init : GoodIn wsX10_init wsX3_init := goodIn_r _ [62, 63, 2, 3, 64, 65, 5, 6, 66, 44, 45, 46, 47, 48, 49, 50, 51, 52, 53, 54, 55, 56, 57, 58, 59, 160, 161, 162, 132, 133, 134, 135, 136, 137, 138, 139, 140, 141, 142, 143, 144, 145, 146, 147] (by decide +kernel) (by decide +kernel)
set_option maxRecDepth 20000 in
theorem gX10_init_X3_init : GoodIn wsX10_init (wsX3_init) := ggX10_init_X3_init
set_option maxRecDepth 20000 in
theorem ggX10_init_X6_init : GoodIn wsX10_init wsX6_init := goodIn_r _ [69, 70, 2, 3, 71, 72, 73, 74, 163, 164, 165, 166] (by decide +kernel) (by decide +kernel)
set_option maxRecDepth 20000 in
theorem gX10_init_X6_init : GoodIn wsX10_init (wsX6_init) := ggX10_init_X6_init
set_option maxRecDepth 20000 in
theorem ggX10_init_X7_init : GoodIn wsX10_init wsX7_init := goodIn_r _ [77, 78, 2, 3, 79, 167] (by decide +kernel) (by decide +kernel)
set_option maxRecDepth 20000 in
theorem gX10_init_X7_init : GoodIn wsX10_init (wsX7_init) := ggX10_init_X7_init
set_option maxRecDepth 20000 in
theorem ggX10_init_X8_init : GoodIn wsX10_init wsX8_init := goodIn_r _ [82, 83, 2, 3, 84, 85, 86, 168, 169, 170] (by decide +kernel) (by decide +kernel)
set_option maxRecDepth 20000 in
theorem gX10_init_X8_init : GoodIn wsX10_init (wsX8_init) := ggX10_init_X8_init
set_option maxRecDepth 20000 in
theorem ggX10_init_X1_init : GoodIn wsX10_init wsX1_init := goodIn_r _ [89, 90, 2, 3, 91, 47, 92, 93, 94, 95, 96, 171, 172, 173, 174, 175, 176] (by decide +kernel) (by decide +kernel)
set_option maxRecDepth 20000 in
theorem gX10_init_X1_init : GoodIn wsX10_init (wsX1_init) := ggX10_init_X1_init
set_option maxRecDepth 20000 in
theorem ggX10_init_X5_init : GoodIn wsX10_init wsX5_init := goodIn_r _ [99, 100, 2, 3, 101, 102, 177, 178] (by decide +kernel) (by decide +kernel)
set_option maxRecDepth 20000 in
theorem gX10_init_X5_init : GoodIn wsX10_init (wsX5_init) := ggX10_init_X5_init
set_option maxRecDepth 20000 in
theorem ggX10_init_X4_init : GoodIn wsX10_init wsX4_init := goodIn_r _ [105, 106, 2, 3, 107, 108, 109, 110, 47, 111, 179, 180, 181, 182, 183] (by decide +kernel) (by decide +kernel)
set_option maxRecDepth 20000 in
theorem gX10_init_X4_init : GoodIn wsX10_init (wsX4_init) := ggX10_init_X4_init
set_option maxRecDepth 20000 in
theorem ggX10_init_J4_init_da8c8 : GoodIn wsX10_init wsJ4_init_da8c8 := goodIn_r _ [114, 115, 116, 117, 118, 119, 2, 3, 120, 121, 122, 123, 124, 125, 126, 127, 128, 129, 130, 131, 184, 185, 186, 187] (by decide +kernel) (by decide +kernel)
set_option maxRecDepth 20000 in
theorem gX10_init_J4_init_da8c8 : GoodIn wsX10_init (wsJ4_init_da8c8) := ggX10_init_J4_init_da8c8
theorem dX10_init_0 : decode cX10_init 0 = .ok (.aload_n 0, 1) := by decide +kernel
theorem dX10_init_1 : decode cX10_init 1 = .ok (.invokespecial 1, 3) := by decide +kernel
theorem dX10_init_4 : decode cX10_init 4 = .ok (.aload_n 0, 1) := by decide +kernel
theorem dX10_init_5 : decode cX10_init 5 = .ok (.new 7, 3) := by decide +kernel
theorem dX10_init_8 : decode cX10_init 8 = .ok (.dup, 1) := by decide +kernel
theorem dX10_init_9 : decode cX10_init 9 = .ok (.invokespecial 9, 3) := by decide +kernel
theorem dX10_init_12 : decode cX10_init 12 = .ok (.putfield 10, 3) := by decide +kernel
theorem dX10_init_15 : decode cX10_init 15 = .ok (.aload_n 0, 1) := by decide +kernel
theorem dX10_init_16 : decode cX10_init 16 = .ok (.new 7, 3) := by decide +kernel
theorem dX10_init_19 : decode cX10_init 19 = .ok (.dup, 1) := by decide +kernel
theorem dX10_init_20 : decode cX10_init 20 = .ok (.invokespecial 9, 3) := by decide +kernel
theorem dX10_init_23 : decode cX10_init 23 = .ok (.putfield 16, 3) := by decide +kernel
theorem dX10_init_26 : decode cX10_init 26 = .ok (.aload_n 0, 1) := by decide +kernel
theorem dX10_init_27 : decode cX10_init 27 = .ok (.iconst 0, 1) := by decide +kernel
theorem dX10_init_28 : decode cX10_init 28 = .ok (.putfield 19, 3) := by decide +kernel
theorem dX10_init_31 : decode cX10_init 31 = .ok (.aload_n 0, 1) := by decide +kernel
theorem dX10_init_32 : decode cX10_init 32 = .ok (.new 23, 3) := by decide +kernel
theorem dX10_init_35 : decode cX10_init 35 = .ok (.dup, 1) := by decide +kernel
theorem dX10_init_36 : decode cX10_init 36 = .ok (.invokespecial 25, 3) := by decide +kernel
theorem dX10_init_39 : decode cX10_init 39 = .ok (.putfield 26, 3) := by decide +kernel
theorem dX10_init_42 : decode cX10_init 42 = .ok (.aload_n 0, 1) := by decide +kernel
theorem dX10_init_43 : decode cX10_init 43 = .ok (.new 30, 3) := by decide +kernel
theorem dX10_init_46 : decode cX10_init 46 = .ok (.dup, 1) := by decide +kernel
theorem dX10_init_47 : decode cX10_init 47 = .ok (.invokespecial 32, 3) := by decide +kernel
theorem dX10_init_50 : decode cX10_init 50 = .ok (.putfield 33, 3) := by decide +kernel
theorem dX10_init_53 : decode cX10_init 53 = .ok (.aload_n 0, 1) := by decide +kernel
theorem dX10_init_54 : decode cX10_init 54 = .ok (.new 37, 3) := by decide +kernel
theorem dX10_init_57 : decode cX10_init 57 = .ok (.dup, 1) := by decide +kernel
theorem dX10_init_58 : decode cX10_init 58 = .ok (.aload_n 0, 1) := by decide +kernel
theorem dX10_init_59 : decode cX10_init 59 = .ok (.getfield 10, 3) := by decide +kernel
theorem dX10_init_62 : decode cX10_init 62 = .ok (.invokespecial 39, 3) := by decide +kernel
theorem dX10_init_65 : decode cX10_init 65 = .ok (.putfield 42, 3) := by decide +kernel
theorem dX10_init_68 : decode cX10_init 68 = .ok (.aload_n 0, 1) := by decide +kernel
theorem dX10_init_69 : decode cX10_init 69 = .ok (.new 46, 3) := by decide +kernel
theorem dX10_init_72 : decode cX10_init 72 = .ok (.dup, 1) := by decide +kernel
theorem dX10_init_73 : decode cX10_init 73 = .ok (.aload_n 0, 1) := by decide +kernel
theorem dX10_init_74 : decode cX10_init 74 = .ok (.getfield 10, 3) := by decide +kernel
theorem dX10_init_77 : decode cX10_init 77 = .ok (.aload_n 0, 1) := by decide +kernel
theorem dX10_init_78 : decode cX10_init 78 = .ok (.getfield 42, 3) := by decide +kernel
theorem dX10_init_81 : decode cX10_init 81 = .ok (.aload_n 0, 1) := by decide +kernel
theorem dX10_init_82 : decode cX10_init 82 = .ok (.getfield 33, 3) := by decide +kernel
theorem dX10_init_85 : decode cX10_init 85 = .ok (.invokespecial 48, 3) := by decide +kernel
theorem dX10_init_88 : decode cX10_init 88 = .ok (.putfield 51, 3) := by decide +kernel
theorem dX10_init_91 : decode cX10_init 91 = .ok (.aload_n 0, 1) := by decide +kernel
theorem dX10_init_92 : decode cX10_init 92 = .ok (.new 55, 3) := by decide +kernel
theorem dX10_init_95 : decode cX10_init 95 = .ok (.dup, 1) := by decide +kernel
theorem dX10_init_96 : decode cX10_init 96 = .ok (.aload_n 0, 1) := by decide +kernel
theorem dX10_init_97 : decode cX10_init 97 = .ok (.getfield 10, 3) := by decide +kernel
theorem dX10_init_100 : decode cX10_init 100 = .ok (.invokespecial 57, 3) := by decide +kernel
theorem dX10_init_103 : decode cX10_init 103 = .ok (.putfield 58, 3) := by decide +kernel
theorem dX10_init_106 : decode cX10_init 106 = .ok (.aload_n 0, 1) := by decide +kernel
theorem dX10_init_107 : decode cX10_init 107 = .ok (.new 62, 3) := by decide +kernel
theorem dX10_init_110 : decode cX10_init 110 = .ok (.dup, 1) := by decide +kernel
theorem dX10_init_111 : decode cX10_init 111 = .ok (.aload_n 0, 1) := by decide +kernel
theorem dX10_init_112 : decode cX10_init 112 = .ok (.getfield 10, 3) := by decide +kernel
theorem dX10_init_115 : decode cX10_init 115 = .ok (.aload_n 0, 1) := by decide +kernel
theorem dX10_init_116 : decode cX10_init 116 = .ok (.getfield 42, 3) := by decide +kernel
theorem dX10_init_119 : decode cX10_init 119 = .ok (.invokespecial 64, 3) := by decide +kernel
theorem dX10_init_122 : decode cX10_init 122 = .ok (.putfield 67, 3) := by decide +kernel
theorem dX10_init_125 : decode cX10_init 125 = .ok (.aload_n 0, 1) := by decide +kernel
theorem dX10_init_126 : decode cX10_init 126 = .ok (.new 71, 3) := by decide +kernel
theorem dX10_init_129 : decode cX10_init 129 = .ok (.dup, 1) := by decide +kernel
theorem dX10_init_130 : decode cX10_init 130 = .ok (.invokespecial 73, 3) := by decide +kernel
theorem dX10_init_133 : decode cX10_init 133 = .ok (.putfield 74, 3) := by decide +kernel
theorem dX10_init_136 : decode cX10_init 136 = .ok (.aload_n 0, 1) := by decide +kernel
theorem dX10_init_137 : decode cX10_init 137 = .ok (.bipush (-4), 2) := by decide +kernel
theorem dX10_init_139 : decode cX10_init 139 = .ok (.putfield 78, 3) := by decide +kernel
theorem dX10_init_142 : decode cX10_init 142 = .ok (.aload_n 0, 1) := by decide +kernel
theorem dX10_init_143 : decode cX10_init 143 = .ok (.new 82, 3) := by decide +kernel
theorem dX10_init_146 : decode cX10_init 146 = .ok (.dup, 1) := by decide +kernel
theorem dX10_init_147 : decode cX10_init 147 = .ok (.invokespecial 84, 3) := by decide +kernel
theorem dX10_init_150 : decode cX10_init 150 = .ok (.putfield 85, 3) := by decide +kernel
theorem dX10_init_153 : decode cX10_init 153 = .ok (.return_, 1) := by decide +kernel
set_option maxRecDepth 20000 in
theorem ggX10_premise_X3_begin : GoodIn wsX10_premise wsX3_begin := goodIn_r _ [8, 9, 10, 11, 12, 13, 14, 15, 16, 17, 18, 19, 20, 21, 22, 23, 24, 25, 26, 27, 28, 29, 30, 31, 32, 33, 34, 35, 78, 79, 80, 81, 82, 83, 84, 85, 86, 87, 88, 89, 90, 91, 92, 93, 94, 95, 96] (by decide +kernel) (by decide +kernel)
set_option maxRecDepth 20000 in
theorem gX10_premise_X3_begin : GoodIn wsX10_premise (wsV RX10 102 RX3 yX3_begin wsX3_begin) := goodIn_app (goodIn_of _ (by decide +kernel)) ggX10_premise_X3_begin
set_option maxRecDepth 20000 in
theorem ggX10_premise_X8_addThing : GoodIn wsX10_premise wsX8_addThing := goodIn_r _ [40, 41, 42, 43, 44, 45, 46, 47, 48, 49, 50, 51, 52, 53, 54, 55, 56, 97, 98, 99, 81, 82, 83, 84, 85, 86, 87, 88, 89, 90, 91, 92, 93, 94, 95, 96, 100, 101, 102, 103] (by decide +kernel) (by decide +kernel)
set_option maxRecDepth 20000 in
theorem gX10_premise_X8_addThing : GoodIn wsX10_premise (wsV RX10 105 RX8 yX8_addThing wsX8_addThing) := goodIn_app (goodIn_of _ (by decide +kernel)) ggX10_premise_X8_addThing
set_option maxRecDepth 20000 in
theorem ggX10_premise_X3_settle : GoodIn wsX10_premise wsX3_settle := goodIn_r _ [60, 10, 61, 62, 63, 64, 65, 78, 79, 80] (by decide +kernel) (by decide +kernel)
set_option maxRecDepth 20000 in
theorem gX10_premise_X3_settle : GoodIn wsX10_premise (wsV RX10 109 RX3 yX3_settle wsX3_settle) := goodIn_app (goodIn_of _ (by decide +kernel)) ggX10_premise_X3_settle
theorem dX10_premise_0 : decode cX10_premise 0 = .ok (.aload_n 0, 1) := by decide +kernel
theorem dX10_premise_1 : decode cX10_premise 1 = .ok (.getfield 26, 3) := by decide +kernel
theorem dX10_premise_4 : decode cX10_premise 4 = .ok (.aload_n 0, 1) := by decide +kernel
theorem dX10_premise_5 : decode cX10_premise 5 = .ok (.getfield 10, 3) := by decide +kernel
theorem dX10_premise_8 : decode cX10_premise 8 = .ok (.invokevirtual 102, 3) := by decide +kernel
theorem dX10_premise_11 : decode cX10_premise 11 = .ok (.aload_n 0, 1) := by decide +kernel
theorem dX10_premise_12 : decode cX10_premise 12 = .ok (.getfield 26, 3) := by decide +kernel
theorem dX10_premise_15 : decode cX10_premise 15 = .ok (.aload_n 0, 1) := by decide +kernel
theorem dX10_premise_16 : decode cX10_premise 16 = .ok (.getfield 51, 3) := by decide +kernel
theorem dX10_premise_19 : decode cX10_premise 19 = .ok (.iconst 0, 1) := by decide +kernel
theorem dX10_premise_20 : decode cX10_premise 20 = .ok (.iload_n 1, 1) := by decide +kernel
theorem dX10_premise_21 : decode cX10_premise 21 = .ok (.bipush 9, 2) := by decide +kernel
theorem dX10_premise_23 : decode cX10_premise 23 = .ok (.invokevirtual 105, 3) := by decide +kernel
theorem dX10_premise_26 : decode cX10_premise 26 = .ok (.invokevirtual 109, 3) := by decide +kernel
theorem dX10_premise_29 : decode cX10_premise 29 = .ok (.ireturn, 1) := by decide +kernel
set_option maxRecDepth 20000 in
theorem ggX10_conclusion_X3_begin : GoodIn wsX10_conclusion wsX3_begin := goodIn_r _ [8, 9, 10, 11, 12, 13, 14, 15, 16, 17, 18, 19, 20, 21, 22, 23, 24, 25, 26, 27, 28, 29, 30, 31, 32, 33, 34, 35, 78, 79, 80, 81, 82, 83, 84, 85, 86, 87, 88, 89, 90, 91, 92, 93, 94, 95, 96] (by decide +kernel) (by decide +kernel)
set_option maxRecDepth 20000 in
theorem gX10_conclusion_X3_begin : GoodIn wsX10_conclusion (wsV RX10 102 RX3 yX3_begin wsX3_begin) := goodIn_app (goodIn_of _ (by decide +kernel)) ggX10_conclusion_X3_begin
set_option maxRecDepth 20000 in
theorem ggX10_conclusion_X8_addThing : GoodIn wsX10_conclusion wsX8_addThing := goodIn_r _ [40, 41, 42, 43, 44, 45, 46, 47, 48, 49, 50, 51, 52, 53, 54, 55, 56, 97, 98, 99, 81, 82, 83, 84, 85, 86, 87, 88, 89, 90, 91, 92, 93, 94, 95, 96, 100, 101, 102, 103] (by decide +kernel) (by decide +kernel)
set_option maxRecDepth 20000 in
theorem gX10_conclusion_X8_addThing : GoodIn wsX10_conclusion (wsV RX10 105 RX8 yX8_addThing wsX8_addThing) := goodIn_app (goodIn_of _ (by decide +kernel)) ggX10_conclusion_X8_addThing
set_option maxRecDepth 20000 in
theorem ggX10_conclusion_X3_settle : GoodIn wsX10_conclusion wsX3_settle := goodIn_r _ [60, 10, 61, 62, 63, 64, 65, 78, 79, 80] (by decide +kernel) (by decide +kernel)
set_option maxRecDepth 20000 in
theorem gX10_conclusion_X3_settle : GoodIn wsX10_conclusion (wsV RX10 109 RX3 yX3_settle wsX3_settle) := goodIn_app (goodIn_of _ (by decide +kernel)) ggX10_conclusion_X3_settle
theorem dX10_conclusion_0 : decode cX10_conclusion 0 = .ok (.aload_n 0, 1) := by decide +kernel
theorem dX10_conclusion_1 : decode cX10_conclusion 1 = .ok (.getfield 26, 3) := by decide +kernel
theorem dX10_conclusion_4 : decode cX10_conclusion 4 = .ok (.aload_n 0, 1) := by decide +kernel
theorem dX10_conclusion_5 : decode cX10_conclusion 5 = .ok (.getfield 10, 3) := by decide +kernel
theorem dX10_conclusion_8 : decode cX10_conclusion 8 = .ok (.invokevirtual 102, 3) := by decide +kernel
theorem dX10_conclusion_11 : decode cX10_conclusion 11 = .ok (.aload_n 0, 1) := by decide +kernel
theorem dX10_conclusion_12 : decode cX10_conclusion 12 = .ok (.getfield 26, 3) := by decide +kernel
theorem dX10_conclusion_15 : decode cX10_conclusion 15 = .ok (.aload_n 0, 1) := by decide +kernel
theorem dX10_conclusion_16 : decode cX10_conclusion 16 = .ok (.getfield 51, 3) := by decide +kernel
theorem dX10_conclusion_19 : decode cX10_conclusion 19 = .ok (.iconst 1, 1) := by decide +kernel
theorem dX10_conclusion_20 : decode cX10_conclusion 20 = .ok (.iload_n 1, 1) := by decide +kernel
theorem dX10_conclusion_21 : decode cX10_conclusion 21 = .ok (.bipush 54, 2) := by decide +kernel
theorem dX10_conclusion_23 : decode cX10_conclusion 23 = .ok (.invokevirtual 105, 3) := by decide +kernel
theorem dX10_conclusion_26 : decode cX10_conclusion 26 = .ok (.invokevirtual 109, 3) := by decide +kernel
theorem dX10_conclusion_29 : decode cX10_conclusion 29 = .ok (.ireturn, 1) := by decide +kernel
set_option maxRecDepth 20000 in
theorem ggX10_cart_X3_begin : GoodIn wsX10_cart wsX3_begin := goodIn_r _ [8, 9, 10, 11, 12, 13, 14, 15, 16, 17, 18, 19, 20, 21, 22, 23, 24, 25, 26, 27, 28, 29, 30, 31, 32, 33, 34, 35, 83, 84, 85, 86, 87, 88, 89, 90, 91, 92, 93, 94, 95, 96, 97, 98, 99, 100, 101] (by decide +kernel) (by decide +kernel)
set_option maxRecDepth 20000 in
theorem gX10_cart_X3_begin : GoodIn wsX10_cart (wsV RX10 102 RX3 yX3_begin wsX3_begin) := goodIn_app (goodIn_of _ (by decide +kernel)) ggX10_cart_X3_begin
set_option maxRecDepth 20000 in
theorem ggX10_cart_X8_addCart : GoodIn wsX10_cart wsX8_addCart := goodIn_r _ [40, 41, 42, 43, 44, 45, 46, 47, 48, 49, 50, 51, 52, 53, 54, 55, 56, 57, 14, 58, 27, 59, 60, 61, 102, 103, 104, 86, 87, 88, 89, 90, 91, 92, 93, 94, 95, 96, 97, 98, 99, 100, 101, 105, 106, 107, 108] (by decide +kernel) (by decide +kernel)
set_option maxRecDepth 20000 in
theorem gX10_cart_X8_addCart : GoodIn wsX10_cart (wsV RX10 113 RX8 yX8_addCart wsX8_addCart) := goodIn_app (goodIn_of _ (by decide +kernel)) ggX10_cart_X8_addCart
set_option maxRecDepth 20000 in
theorem ggX10_cart_X3_settle : GoodIn wsX10_cart wsX3_settle := goodIn_r _ [65, 10, 66, 67, 68, 69, 70, 83, 84, 85] (by decide +kernel) (by decide +kernel)
set_option maxRecDepth 20000 in
theorem gX10_cart_X3_settle : GoodIn wsX10_cart (wsV RX10 109 RX3 yX3_settle wsX3_settle) := goodIn_app (goodIn_of _ (by decide +kernel)) ggX10_cart_X3_settle
theorem dX10_cart_0 : decode cX10_cart 0 = .ok (.aload_n 0, 1) := by decide +kernel
theorem dX10_cart_1 : decode cX10_cart 1 = .ok (.getfield 26, 3) := by decide +kernel
theorem dX10_cart_4 : decode cX10_cart 4 = .ok (.aload_n 0, 1) := by decide +kernel
theorem dX10_cart_5 : decode cX10_cart 5 = .ok (.getfield 10, 3) := by decide +kernel
theorem dX10_cart_8 : decode cX10_cart 8 = .ok (.invokevirtual 102, 3) := by decide +kernel
theorem dX10_cart_11 : decode cX10_cart 11 = .ok (.aload_n 0, 1) := by decide +kernel
theorem dX10_cart_12 : decode cX10_cart 12 = .ok (.getfield 26, 3) := by decide +kernel
theorem dX10_cart_15 : decode cX10_cart 15 = .ok (.aload_n 0, 1) := by decide +kernel
theorem dX10_cart_16 : decode cX10_cart 16 = .ok (.getfield 51, 3) := by decide +kernel
theorem dX10_cart_19 : decode cX10_cart 19 = .ok (.iload_n 1, 1) := by decide +kernel
theorem dX10_cart_20 : decode cX10_cart 20 = .ok (.invokevirtual 113, 3) := by decide +kernel
theorem dX10_cart_23 : decode cX10_cart 23 = .ok (.invokevirtual 109, 3) := by decide +kernel
theorem dX10_cart_26 : decode cX10_cart 26 = .ok (.ireturn, 1) := by decide +kernel
set_option maxRecDepth 20000 in
theorem ggX10_road_X3_begin : GoodIn wsX10_road wsX3_begin := goodIn_r _ [8, 9, 10, 11, 12, 13, 14, 15, 16, 17, 18, 19, 20, 21, 22, 23, 24, 25, 26, 27, 28, 29, 30, 31, 32, 33, 34, 35, 78, 79, 80, 81, 82, 83, 84, 85, 86, 87, 88, 89, 90, 91, 92, 93, 94, 95, 96] (by decide +kernel) (by decide +kernel)
set_option maxRecDepth 20000 in
theorem gX10_road_X3_begin : GoodIn wsX10_road (wsV RX10 102 RX3 yX3_begin wsX3_begin) := goodIn_app (goodIn_of _ (by decide +kernel)) ggX10_road_X3_begin
set_option maxRecDepth 20000 in
theorem ggX10_road_X8_addRoad : GoodIn wsX10_road wsX8_addRoad := goodIn_r _ [40, 41, 42, 43, 44, 45, 46, 47, 48, 49, 50, 51, 52, 53, 54, 55, 56, 97, 98, 99, 81, 82, 83, 84, 85, 86, 87, 88, 89, 90, 91, 92, 93, 94, 95, 96, 100, 101, 102, 103] (by decide +kernel) (by decide +kernel)
set_option maxRecDepth 20000 in
theorem gX10_road_X8_addRoad : GoodIn wsX10_road (wsV RX10 116 RX8 yX8_addRoad wsX8_addRoad) := goodIn_app (goodIn_of _ (by decide +kernel)) ggX10_road_X8_addRoad
set_option maxRecDepth 20000 in
theorem ggX10_road_X3_settle : GoodIn wsX10_road wsX3_settle := goodIn_r _ [60, 10, 61, 62, 63, 64, 65, 78, 79, 80] (by decide +kernel) (by decide +kernel)
set_option maxRecDepth 20000 in
theorem gX10_road_X3_settle : GoodIn wsX10_road (wsV RX10 109 RX3 yX3_settle wsX3_settle) := goodIn_app (goodIn_of _ (by decide +kernel)) ggX10_road_X3_settle
theorem dX10_road_0 : decode cX10_road 0 = .ok (.aload_n 0, 1) := by decide +kernel
theorem dX10_road_1 : decode cX10_road 1 = .ok (.getfield 26, 3) := by decide +kernel
theorem dX10_road_4 : decode cX10_road 4 = .ok (.aload_n 0, 1) := by decide +kernel
theorem dX10_road_5 : decode cX10_road 5 = .ok (.getfield 10, 3) := by decide +kernel
theorem dX10_road_8 : decode cX10_road 8 = .ok (.invokevirtual 102, 3) := by decide +kernel
theorem dX10_road_11 : decode cX10_road 11 = .ok (.aload_n 0, 1) := by decide +kernel
theorem dX10_road_12 : decode cX10_road 12 = .ok (.getfield 26, 3) := by decide +kernel
theorem dX10_road_15 : decode cX10_road 15 = .ok (.aload_n 0, 1) := by decide +kernel
theorem dX10_road_16 : decode cX10_road 16 = .ok (.getfield 51, 3) := by decide +kernel
theorem dX10_road_19 : decode cX10_road 19 = .ok (.iload_n 1, 1) := by decide +kernel
theorem dX10_road_20 : decode cX10_road 20 = .ok (.iload_n 2, 1) := by decide +kernel
theorem dX10_road_21 : decode cX10_road 21 = .ok (.iload_n 3, 1) := by decide +kernel
theorem dX10_road_22 : decode cX10_road 22 = .ok (.invokevirtual 116, 3) := by decide +kernel
theorem dX10_road_25 : decode cX10_road 25 = .ok (.invokevirtual 109, 3) := by decide +kernel
theorem dX10_road_28 : decode cX10_road 28 = .ok (.ireturn, 1) := by decide +kernel
set_option maxRecDepth 20000 in
theorem ggX10_load_X3_begin : GoodIn wsX10_load wsX3_begin := goodIn_r _ [8, 9, 10, 11, 12, 13, 14, 15, 16, 17, 18, 19, 20, 21, 22, 23, 24, 25, 26, 27, 28, 29, 30, 31, 32, 33, 34, 35, 98, 99, 100, 101, 102, 103, 104, 105, 106, 107, 108, 109, 110, 111, 112, 113, 114, 115, 116] (by decide +kernel) (by decide +kernel)
