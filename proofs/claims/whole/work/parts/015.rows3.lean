theorem dX11_addsRoad_98 : decode cX11_addsRoad 98 = .ok (.iconst 1, 1) := by decide +kernel
theorem dX11_addsRoad_99 : decode cX11_addsRoad 99 = .ok (.iadd, 1) := by decide +kernel
theorem dX11_addsRoad_100 : decode cX11_addsRoad 100 = .ok (.iload_n 2, 1) := by decide +kernel
theorem dX11_addsRoad_101 : decode cX11_addsRoad 101 = .ok (.iastore, 1) := by decide +kernel
theorem dX11_addsRoad_102 : decode cX11_addsRoad 102 = .ok (.aload_n 0, 1) := by decide +kernel
theorem dX11_addsRoad_103 : decode cX11_addsRoad 103 = .ok (.getfield 9, 3) := by decide +kernel
theorem dX11_addsRoad_106 : decode cX11_addsRoad 106 = .ok (.bipush 61, 2) := by decide +kernel
theorem dX11_addsRoad_108 : decode cX11_addsRoad 108 = .ok (.iconst 4, 1) := by decide +kernel
theorem dX11_addsRoad_109 : decode cX11_addsRoad 109 = .ok (.iload 4, 2) := by decide +kernel
theorem dX11_addsRoad_111 : decode cX11_addsRoad 111 = .ok (.imul, 1) := by decide +kernel
theorem dX11_addsRoad_112 : decode cX11_addsRoad 112 = .ok (.iadd, 1) := by decide +kernel
theorem dX11_addsRoad_113 : decode cX11_addsRoad 113 = .ok (.iconst 2, 1) := by decide +kernel
theorem dX11_addsRoad_114 : decode cX11_addsRoad 114 = .ok (.iadd, 1) := by decide +kernel
theorem dX11_addsRoad_115 : decode cX11_addsRoad 115 = .ok (.iload_n 3, 1) := by decide +kernel
theorem dX11_addsRoad_116 : decode cX11_addsRoad 116 = .ok (.iastore, 1) := by decide +kernel
theorem dX11_addsRoad_117 : decode cX11_addsRoad 117 = .ok (.aload_n 0, 1) := by decide +kernel
theorem dX11_addsRoad_118 : decode cX11_addsRoad 118 = .ok (.getfield 9, 3) := by decide +kernel
theorem dX11_addsRoad_121 : decode cX11_addsRoad 121 = .ok (.bipush 61, 2) := by decide +kernel
theorem dX11_addsRoad_123 : decode cX11_addsRoad 123 = .ok (.iconst 4, 1) := by decide +kernel
theorem dX11_addsRoad_124 : decode cX11_addsRoad 124 = .ok (.iload 4, 2) := by decide +kernel
theorem dX11_addsRoad_126 : decode cX11_addsRoad 126 = .ok (.imul, 1) := by decide +kernel
theorem dX11_addsRoad_127 : decode cX11_addsRoad 127 = .ok (.iadd, 1) := by decide +kernel
theorem dX11_addsRoad_128 : decode cX11_addsRoad 128 = .ok (.iconst 3, 1) := by decide +kernel
theorem dX11_addsRoad_129 : decode cX11_addsRoad 129 = .ok (.iadd, 1) := by decide +kernel
theorem dX11_addsRoad_130 : decode cX11_addsRoad 130 = .ok (.iconst 0, 1) := by decide +kernel
theorem dX11_addsRoad_131 : decode cX11_addsRoad 131 = .ok (.iastore, 1) := by decide +kernel
theorem dX11_addsRoad_132 : decode cX11_addsRoad 132 = .ok (.iload 4, 2) := by decide +kernel
theorem dX11_addsRoad_134 : decode cX11_addsRoad 134 = .ok (.ireturn, 1) := by decide +kernel
set_option maxRecDepth 20000 in
theorem ggX11_road_X11_begins : GoodIn wsX11_road wsX11_begins := goodIn_r _ [5, 6, 7, 8, 4, 9, 10, 11, 31, 32, 33, 34, 35, 36, 37, 38, 39, 40, 41, 42, 43, 44, 45, 46, 47, 48, 49] (by decide +kernel) (by decide +kernel)
set_option maxRecDepth 20000 in
theorem gX11_road_X11_begins : GoodIn wsX11_road (wsV RX11 96 RX11 yX11_begins wsX11_begins) := goodIn_app (goodIn_of _ (by decide +kernel)) ggX11_road_X11_begins
set_option maxRecDepth 20000 in
theorem ggX11_road_X11_addsRoad : GoodIn wsX11_road wsX11_addsRoad := goodIn_r _ [15, 10, 16, 17, 4, 18, 19, 20, 21, 22, 23, 24, 25, 31, 32, 33, 34, 35, 36, 37, 38, 39, 40, 41, 42, 43, 44, 45, 46, 47, 48, 49] (by decide +kernel) (by decide +kernel)
set_option maxRecDepth 20000 in
theorem gX11_road_X11_addsRoad : GoodIn wsX11_road (wsV RX11 108 RX11 yX11_addsRoad wsX11_addsRoad) := goodIn_app (goodIn_of _ (by decide +kernel)) ggX11_road_X11_addsRoad
set_option maxRecDepth 20000 in
theorem ggX11_road_X11_ends : GoodIn wsX11_road wsX11_ends := goodIn_r _ [29, 30, 6, 7, 8, 4, 9, 10, 11, 31, 32, 33, 34, 35, 36, 37, 38, 39, 40, 41, 42, 43, 44, 45, 46, 47, 48, 49] (by decide +kernel) (by decide +kernel)
set_option maxRecDepth 20000 in
theorem gX11_road_X11_ends : GoodIn wsX11_road (wsV RX11 102 RX11 yX11_ends wsX11_ends) := goodIn_app (goodIn_of _ (by decide +kernel)) ggX11_road_X11_ends
theorem dX11_road_0 : decode cX11_road 0 = .ok (.aload_n 0, 1) := by decide +kernel
theorem dX11_road_1 : decode cX11_road 1 = .ok (.invokevirtual 96, 3) := by decide +kernel
theorem dX11_road_4 : decode cX11_road 4 = .ok (.aload_n 0, 1) := by decide +kernel
theorem dX11_road_5 : decode cX11_road 5 = .ok (.aload_n 0, 1) := by decide +kernel
theorem dX11_road_6 : decode cX11_road 6 = .ok (.iload_n 1, 1) := by decide +kernel
theorem dX11_road_7 : decode cX11_road 7 = .ok (.iload_n 2, 1) := by decide +kernel
theorem dX11_road_8 : decode cX11_road 8 = .ok (.iload_n 3, 1) := by decide +kernel
theorem dX11_road_9 : decode cX11_road 9 = .ok (.invokevirtual 108, 3) := by decide +kernel
theorem dX11_road_12 : decode cX11_road 12 = .ok (.invokevirtual 102, 3) := by decide +kernel
theorem dX11_road_15 : decode cX11_road 15 = .ok (.ireturn, 1) := by decide +kernel
set_option maxRecDepth 20000 in
theorem ggX11_loads_X11_isThing : GoodIn wsX11_loads wsX11_isThing := goodIn_r _ [6, 1, 7, 8, 5, 9, 41, 42, 43, 44, 45, 46, 47, 48, 49, 50, 51, 52, 53, 54, 55, 56, 57, 58, 59] (by decide +kernel) (by decide +kernel)
set_option maxRecDepth 20000 in
theorem gX11_loads_X11_isThing : GoodIn wsX11_loads (wsV RX11 112 RX11 yX11_isThing wsX11_isThing) := goodIn_app (goodIn_of _ (by decide +kernel)) ggX11_loads_X11_isThing
set_option maxRecDepth 20000 in
theorem ggX11_loads_X11_isCart : GoodIn wsX11_loads wsX11_isCart := goodIn_r _ [13, 1, 7, 8, 5, 9, 41, 42, 43, 44, 45, 46, 47, 48, 49, 50, 51, 52, 53, 54, 55, 56, 57, 58, 59] (by decide +kernel) (by decide +kernel)
set_option maxRecDepth 20000 in
theorem gX11_loads_X11_isCart : GoodIn wsX11_loads (wsV RX11 116 RX11 yX11_isCart wsX11_isCart) := goodIn_app (goodIn_of _ (by decide +kernel)) ggX11_loads_X11_isCart
set_option maxRecDepth 20000 in
theorem ggX11_loads_X11_in : GoodIn wsX11_loads wsX11_in := goodIn_r _ [9] (by decide +kernel) (by decide +kernel)
set_option maxRecDepth 20000 in
theorem gX11_loads_X11_in : GoodIn wsX11_loads (va_wsS RX11 50 yX11_in wsX11_in) := goodIn_app (goodIn_of _ (by decide +kernel)) ggX11_loads_X11_in
set_option maxRecDepth 20000 in
theorem ggX11_loads_X11_t : GoodIn wsX11_loads wsX11_t := goodIn_r _ [17, 1, 41, 42, 43, 44, 45, 46, 47, 48, 49, 50, 51, 52, 53, 54, 55, 56, 57, 58, 59] (by decide +kernel) (by decide +kernel)
set_option maxRecDepth 20000 in
theorem gX11_loads_X11_t : GoodIn wsX11_loads (wsV RX11 57 RX11 yX11_t wsX11_t) := goodIn_app (goodIn_of _ (by decide +kernel)) ggX11_loads_X11_t
set_option maxRecDepth 20000 in
theorem ggX11_loads_X11_thingAt : GoodIn wsX11_loads wsX11_thingAt := goodIn_r _ [21, 1, 22, 23, 24, 5, 25, 14, 15, 16, 17, 41, 42, 43, 44, 45, 46, 47, 48, 49, 50, 51, 52, 53, 54, 55, 56, 57, 58, 59] (by decide +kernel) (by decide +kernel)
set_option maxRecDepth 20000 in
theorem gX11_loads_X11_thingAt : GoodIn wsX11_loads (wsV RX11 119 RX11 yX11_thingAt wsX11_thingAt) := goodIn_app (goodIn_of _ (by decide +kernel)) ggX11_loads_X11_thingAt
set_option maxRecDepth 20000 in
theorem ggX11_loads_X11_onCart : GoodIn wsX11_loads wsX11_onCart := goodIn_r _ [29, 1, 22, 23, 24, 5, 25, 14, 15, 16, 17, 41, 42, 43, 44, 45, 46, 47, 48, 49, 50, 51, 52, 53, 54, 55, 56, 57, 58, 59] (by decide +kernel) (by decide +kernel)
set_option maxRecDepth 20000 in
theorem gX11_loads_X11_onCart : GoodIn wsX11_loads (wsV RX11 65 RX11 yX11_onCart wsX11_onCart) := goodIn_app (goodIn_of _ (by decide +kernel)) ggX11_loads_X11_onCart
set_option maxRecDepth 20000 in
theorem ggX11_loads_X11_refuses : GoodIn wsX11_loads wsX11_refuses := goodIn_r _ [33, 34, 35, 36, 41, 42, 43, 44, 45, 46, 47, 48, 49, 50, 51, 52, 53, 54, 55, 56, 57, 58, 59] (by decide +kernel) (by decide +kernel)
set_option maxRecDepth 20000 in
theorem gX11_loads_X11_refuses : GoodIn wsX11_loads (wsV RX11 92 RX11 yX11_refuses wsX11_refuses) := goodIn_app (goodIn_of _ (by decide +kernel)) ggX11_loads_X11_refuses
set_option maxRecDepth 20000 in
theorem ggX11_loads_X11_weightOf : GoodIn wsX11_loads wsX11_weightOf := goodIn_r _ [40, 26, 27, 28, 5, 29, 1, 22, 23, 24, 25, 14, 15, 16, 17, 41, 42, 43, 44, 45, 46, 47, 48, 49, 50, 51, 52, 53, 54, 55, 56, 57, 58, 59] (by decide +kernel) (by decide +kernel)
set_option maxRecDepth 20000 in
theorem gX11_loads_X11_weightOf : GoodIn wsX11_loads (wsV RX11 122 RX11 yX11_weightOf wsX11_weightOf) := goodIn_app (goodIn_of _ (by decide +kernel)) ggX11_loads_X11_weightOf
theorem dX11_loads_0 : decode cX11_loads 0 = .ok (.aload_n 0, 1) := by decide +kernel
theorem dX11_loads_1 : decode cX11_loads 1 = .ok (.iload_n 1, 1) := by decide +kernel
theorem dX11_loads_2 : decode cX11_loads 2 = .ok (.invokevirtual 112, 3) := by decide +kernel
theorem dX11_loads_5 : decode cX11_loads 5 = .ok (.ifCond .eq 11, 3) := by decide +kernel
theorem dX11_loads_8 : decode cX11_loads 8 = .ok (.aload_n 0, 1) := by decide +kernel
theorem dX11_loads_9 : decode cX11_loads 9 = .ok (.iload_n 2, 1) := by decide +kernel
theorem dX11_loads_10 : decode cX11_loads 10 = .ok (.invokevirtual 116, 3) := by decide +kernel
theorem dX11_loads_13 : decode cX11_loads 13 = .ok (.ifCond .ne 5, 3) := by decide +kernel
theorem dX11_loads_16 : decode cX11_loads 16 = .ok (.iconst (-1), 1) := by decide +kernel
theorem dX11_loads_17 : decode cX11_loads 17 = .ok (.ireturn, 1) := by decide +kernel
theorem dX11_loads_18 : decode cX11_loads 18 = .ok (.iload_n 3, 1) := by decide +kernel
theorem dX11_loads_19 : decode cX11_loads 19 = .ok (.iconst 0, 1) := by decide +kernel
theorem dX11_loads_20 : decode cX11_loads 20 = .ok (.bipush 6, 2) := by decide +kernel
theorem dX11_loads_22 : decode cX11_loads 22 = .ok (.invokestatic 50, 3) := by decide +kernel
theorem dX11_loads_25 : decode cX11_loads 25 = .ok (.ifCond .ne 6, 3) := by decide +kernel
theorem dX11_loads_28 : decode cX11_loads 28 = .ok (.bipush (-2), 2) := by decide +kernel
theorem dX11_loads_30 : decode cX11_loads 30 = .ok (.ireturn, 1) := by decide +kernel
theorem dX11_loads_31 : decode cX11_loads 31 = .ok (.aload_n 0, 1) := by decide +kernel
theorem dX11_loads_32 : decode cX11_loads 32 = .ok (.iload_n 1, 1) := by decide +kernel
theorem dX11_loads_33 : decode cX11_loads 33 = .ok (.iconst 0, 1) := by decide +kernel
theorem dX11_loads_34 : decode cX11_loads 34 = .ok (.invokevirtual 57, 3) := by decide +kernel
theorem dX11_loads_37 : decode cX11_loads 37 = .ok (.iconst 1, 1) := by decide +kernel
theorem dX11_loads_38 : decode cX11_loads 38 = .ok (.if_icmp .ne 7, 3) := by decide +kernel
theorem dX11_loads_41 : decode cX11_loads 41 = .ok (.iconst 1, 1) := by decide +kernel
theorem dX11_loads_42 : decode cX11_loads 42 = .ok (.goto 4, 3) := by decide +kernel
theorem dX11_loads_45 : decode cX11_loads 45 = .ok (.iconst 0, 1) := by decide +kernel
theorem dX11_loads_46 : decode cX11_loads 46 = .ok (.istore 4, 2) := by decide +kernel
theorem dX11_loads_48 : decode cX11_loads 48 = .ok (.aload_n 0, 1) := by decide +kernel
theorem dX11_loads_49 : decode cX11_loads 49 = .ok (.iload_n 2, 1) := by decide +kernel
theorem dX11_loads_50 : decode cX11_loads 50 = .ok (.iload_n 3, 1) := by decide +kernel
theorem dX11_loads_51 : decode cX11_loads 51 = .ok (.invokevirtual 119, 3) := by decide +kernel
theorem dX11_loads_54 : decode cX11_loads 54 = .ok (.istore 5, 2) := by decide +kernel
theorem dX11_loads_56 : decode cX11_loads 56 = .ok (.iload 4, 2) := by decide +kernel
theorem dX11_loads_58 : decode cX11_loads 58 = .ok (.ifCond .eq 20, 3) := by decide +kernel
theorem dX11_loads_61 : decode cX11_loads 61 = .ok (.aload_n 0, 1) := by decide +kernel
theorem dX11_loads_62 : decode cX11_loads 62 = .ok (.iload_n 1, 1) := by decide +kernel
theorem dX11_loads_63 : decode cX11_loads 63 = .ok (.iconst 1, 1) := by decide +kernel
theorem dX11_loads_64 : decode cX11_loads 64 = .ok (.invokevirtual 57, 3) := by decide +kernel
theorem dX11_loads_67 : decode cX11_loads 67 = .ok (.aload_n 0, 1) := by decide +kernel
theorem dX11_loads_68 : decode cX11_loads 68 = .ok (.iload_n 2, 1) := by decide +kernel
theorem dX11_loads_69 : decode cX11_loads 69 = .ok (.iconst 0, 1) := by decide +kernel
theorem dX11_loads_70 : decode cX11_loads 70 = .ok (.iconst 1, 1) := by decide +kernel
theorem dX11_loads_71 : decode cX11_loads 71 = .ok (.invokevirtual 65, 3) := by decide +kernel
theorem dX11_loads_74 : decode cX11_loads 74 = .ok (.isub, 1) := by decide +kernel
theorem dX11_loads_75 : decode cX11_loads 75 = .ok (.goto 4, 3) := by decide +kernel
theorem dX11_loads_78 : decode cX11_loads 78 = .ok (.iconst 0, 1) := by decide +kernel
theorem dX11_loads_79 : decode cX11_loads 79 = .ok (.istore 6, 2) := by decide +kernel
theorem dX11_loads_81 : decode cX11_loads 81 = .ok (.aload_n 0, 1) := by decide +kernel
theorem dX11_loads_82 : decode cX11_loads 82 = .ok (.aload_n 0, 1) := by decide +kernel
theorem dX11_loads_83 : decode cX11_loads 83 = .ok (.iload_n 1, 1) := by decide +kernel
theorem dX11_loads_84 : decode cX11_loads 84 = .ok (.iconst 2, 1) := by decide +kernel
theorem dX11_loads_85 : decode cX11_loads 85 = .ok (.invokevirtual 57, 3) := by decide +kernel
theorem dX11_loads_88 : decode cX11_loads 88 = .ok (.ifCond .le 7, 3) := by decide +kernel
theorem dX11_loads_91 : decode cX11_loads 91 = .ok (.iconst 1, 1) := by decide +kernel
theorem dX11_loads_92 : decode cX11_loads 92 = .ok (.goto 4, 3) := by decide +kernel
theorem dX11_loads_95 : decode cX11_loads 95 = .ok (.iconst 0, 1) := by decide +kernel
theorem dX11_loads_96 : decode cX11_loads 96 = .ok (.iconst 2, 1) := by decide +kernel
theorem dX11_loads_97 : decode cX11_loads 97 = .ok (.aload_n 0, 1) := by decide +kernel
theorem dX11_loads_98 : decode cX11_loads 98 = .ok (.iload_n 1, 1) := by decide +kernel
theorem dX11_loads_99 : decode cX11_loads 99 = .ok (.iconst 2, 1) := by decide +kernel
theorem dX11_loads_100 : decode cX11_loads 100 = .ok (.invokevirtual 57, 3) := by decide +kernel
theorem dX11_loads_103 : decode cX11_loads 103 = .ok (.iconst 1, 1) := by decide +kernel
theorem dX11_loads_104 : decode cX11_loads 104 = .ok (.isub, 1) := by decide +kernel
theorem dX11_loads_105 : decode cX11_loads 105 = .ok (.invokevirtual 92, 3) := by decide +kernel
theorem dX11_loads_108 : decode cX11_loads 108 = .ok (.ifCond .ne 75, 3) := by decide +kernel
theorem dX11_loads_111 : decode cX11_loads 111 = .ok (.aload_n 0, 1) := by decide +kernel
theorem dX11_loads_112 : decode cX11_loads 112 = .ok (.iload 4, 2) := by decide +kernel
theorem dX11_loads_114 : decode cX11_loads 114 = .ok (.iload_n 3, 1) := by decide +kernel
theorem dX11_loads_115 : decode cX11_loads 115 = .ok (.bipush 6, 2) := by decide +kernel
theorem dX11_loads_117 : decode cX11_loads 117 = .ok (.if_icmp .ne 7, 3) := by decide +kernel
theorem dX11_loads_120 : decode cX11_loads 120 = .ok (.iconst 1, 1) := by decide +kernel
theorem dX11_loads_121 : decode cX11_loads 121 = .ok (.goto 4, 3) := by decide +kernel
theorem dX11_loads_124 : decode cX11_loads 124 = .ok (.iconst 0, 1) := by decide +kernel
theorem dX11_loads_125 : decode cX11_loads 125 = .ok (.if_icmp .eq 7, 3) := by decide +kernel
theorem dX11_loads_128 : decode cX11_loads 128 = .ok (.iconst 1, 1) := by decide +kernel
theorem dX11_loads_129 : decode cX11_loads 129 = .ok (.goto 4, 3) := by decide +kernel
theorem dX11_loads_132 : decode cX11_loads 132 = .ok (.iconst 0, 1) := by decide +kernel
theorem dX11_loads_133 : decode cX11_loads 133 = .ok (.iconst 3, 1) := by decide +kernel
theorem dX11_loads_134 : decode cX11_loads 134 = .ok (.iload_n 3, 1) := by decide +kernel
theorem dX11_loads_135 : decode cX11_loads 135 = .ok (.invokevirtual 92, 3) := by decide +kernel
theorem dX11_loads_138 : decode cX11_loads 138 = .ok (.ifCond .ne 45, 3) := by decide +kernel
theorem dX11_loads_141 : decode cX11_loads 141 = .ok (.aload_n 0, 1) := by decide +kernel
theorem dX11_loads_142 : decode cX11_loads 142 = .ok (.iload 5, 2) := by decide +kernel
theorem dX11_loads_144 : decode cX11_loads 144 = .ok (.bipush (-4), 2) := by decide +kernel
theorem dX11_loads_146 : decode cX11_loads 146 = .ok (.if_icmp .eq 7, 3) := by decide +kernel
theorem dX11_loads_149 : decode cX11_loads 149 = .ok (.iconst 1, 1) := by decide +kernel
theorem dX11_loads_150 : decode cX11_loads 150 = .ok (.goto 4, 3) := by decide +kernel
theorem dX11_loads_153 : decode cX11_loads 153 = .ok (.iconst 0, 1) := by decide +kernel
theorem dX11_loads_154 : decode cX11_loads 154 = .ok (.iconst 4, 1) := by decide +kernel
theorem dX11_loads_155 : decode cX11_loads 155 = .ok (.iload 5, 2) := by decide +kernel
theorem dX11_loads_157 : decode cX11_loads 157 = .ok (.invokevirtual 92, 3) := by decide +kernel
theorem dX11_loads_160 : decode cX11_loads 160 = .ok (.ifCond .ne 23, 3) := by decide +kernel
theorem dX11_loads_163 : decode cX11_loads 163 = .ok (.aload_n 0, 1) := by decide +kernel
theorem dX11_loads_164 : decode cX11_loads 164 = .ok (.iload 6, 2) := by decide +kernel
theorem dX11_loads_166 : decode cX11_loads 166 = .ok (.ifCond .le 7, 3) := by decide +kernel
theorem dX11_loads_169 : decode cX11_loads 169 = .ok (.iconst 1, 1) := by decide +kernel
theorem dX11_loads_170 : decode cX11_loads 170 = .ok (.goto 4, 3) := by decide +kernel
theorem dX11_loads_173 : decode cX11_loads 173 = .ok (.iconst 0, 1) := by decide +kernel
theorem dX11_loads_174 : decode cX11_loads 174 = .ok (.iconst 5, 1) := by decide +kernel
theorem dX11_loads_175 : decode cX11_loads 175 = .ok (.iload 6, 2) := by decide +kernel
theorem dX11_loads_177 : decode cX11_loads 177 = .ok (.invokevirtual 92, 3) := by decide +kernel
theorem dX11_loads_180 : decode cX11_loads 180 = .ok (.ifCond .eq 6, 3) := by decide +kernel
theorem dX11_loads_183 : decode cX11_loads 183 = .ok (.bipush (-3), 2) := by decide +kernel
theorem dX11_loads_185 : decode cX11_loads 185 = .ok (.ireturn, 1) := by decide +kernel
theorem dX11_loads_186 : decode cX11_loads 186 = .ok (.aload_n 0, 1) := by decide +kernel
theorem dX11_loads_187 : decode cX11_loads 187 = .ok (.getfield 9, 3) := by decide +kernel
theorem dX11_loads_190 : decode cX11_loads 190 = .ok (.iconst 5, 1) := by decide +kernel
theorem dX11_loads_191 : decode cX11_loads 191 = .ok (.iconst 4, 1) := by decide +kernel
theorem dX11_loads_192 : decode cX11_loads 192 = .ok (.iload_n 1, 1) := by decide +kernel
theorem dX11_loads_193 : decode cX11_loads 193 = .ok (.imul, 1) := by decide +kernel
theorem dX11_loads_194 : decode cX11_loads 194 = .ok (.iadd, 1) := by decide +kernel
theorem dX11_loads_195 : decode cX11_loads 195 = .ok (.iconst 2, 1) := by decide +kernel
theorem dX11_loads_196 : decode cX11_loads 196 = .ok (.iadd, 1) := by decide +kernel
theorem dX11_loads_197 : decode cX11_loads 197 = .ok (.iload_n 2, 1) := by decide +kernel
theorem dX11_loads_198 : decode cX11_loads 198 = .ok (.iconst 1, 1) := by decide +kernel
theorem dX11_loads_199 : decode cX11_loads 199 = .ok (.iadd, 1) := by decide +kernel
theorem dX11_loads_200 : decode cX11_loads 200 = .ok (.iastore, 1) := by decide +kernel
theorem dX11_loads_201 : decode cX11_loads 201 = .ok (.aload_n 0, 1) := by decide +kernel
theorem dX11_loads_202 : decode cX11_loads 202 = .ok (.getfield 9, 3) := by decide +kernel
theorem dX11_loads_205 : decode cX11_loads 205 = .ok (.iconst 5, 1) := by decide +kernel
theorem dX11_loads_206 : decode cX11_loads 206 = .ok (.iconst 4, 1) := by decide +kernel
theorem dX11_loads_207 : decode cX11_loads 207 = .ok (.iload_n 1, 1) := by decide +kernel
theorem dX11_loads_208 : decode cX11_loads 208 = .ok (.imul, 1) := by decide +kernel
theorem dX11_loads_209 : decode cX11_loads 209 = .ok (.iadd, 1) := by decide +kernel
theorem dX11_loads_210 : decode cX11_loads 210 = .ok (.iconst 3, 1) := by decide +kernel
theorem dX11_loads_211 : decode cX11_loads 211 = .ok (.iadd, 1) := by decide +kernel
theorem dX11_loads_212 : decode cX11_loads 212 = .ok (.iload_n 3, 1) := by decide +kernel
theorem dX11_loads_213 : decode cX11_loads 213 = .ok (.iastore, 1) := by decide +kernel
theorem dX11_loads_214 : decode cX11_loads 214 = .ok (.aload_n 0, 1) := by decide +kernel
theorem dX11_loads_215 : decode cX11_loads 215 = .ok (.iload_n 2, 1) := by decide +kernel
theorem dX11_loads_216 : decode cX11_loads 216 = .ok (.invokevirtual 122, 3) := by decide +kernel
theorem dX11_loads_219 : decode cX11_loads 219 = .ok (.ireturn, 1) := by decide +kernel
set_option maxRecDepth 20000 in
theorem ggX11_load_X11_begins : GoodIn wsX11_load wsX11_begins := goodIn_r _ [5, 6, 7, 8, 4, 9, 10, 11, 59, 60, 61, 62, 63, 64, 65, 66, 67, 68, 69, 70, 71, 72, 73, 74, 75, 76, 77] (by decide +kernel) (by decide +kernel)
set_option maxRecDepth 20000 in
theorem gX11_load_X11_begins : GoodIn wsX11_load (wsV RX11 96 RX11 yX11_begins wsX11_begins) := goodIn_app (goodIn_of _ (by decide +kernel)) ggX11_load_X11_begins
set_option maxRecDepth 20000 in
theorem ggX11_load_X11_loads : GoodIn wsX11_load wsX11_loads := goodIn_r _ [15, 10, 16, 17, 18, 4, 19, 20, 21, 22, 23, 24, 25, 26, 27, 28, 29, 30, 31, 32, 33, 34, 35, 36, 37, 38, 39, 40, 41, 42, 43, 44, 45, 46, 47, 48, 49, 50, 51, 52, 53, 59, 60, 61, 62, 63, 64, 65, 66, 67, 68, 69, 70, 71, 72, 73, 74, 75, 76, 77] (by decide +kernel) (by decide +kernel)
set_option maxRecDepth 20000 in
theorem gX11_load_X11_loads : GoodIn wsX11_load (wsV RX11 125 RX11 yX11_loads wsX11_loads) := goodIn_app (goodIn_of _ (by decide +kernel)) ggX11_load_X11_loads
set_option maxRecDepth 20000 in
theorem ggX11_load_X11_ends : GoodIn wsX11_load wsX11_ends := goodIn_r _ [57, 58, 6, 7, 8, 4, 9, 10, 11, 59, 60, 61, 62, 63, 64, 65, 66, 67, 68, 69, 70, 71, 72, 73, 74, 75, 76, 77] (by decide +kernel) (by decide +kernel)
set_option maxRecDepth 20000 in
theorem gX11_load_X11_ends : GoodIn wsX11_load (wsV RX11 102 RX11 yX11_ends wsX11_ends) := goodIn_app (goodIn_of _ (by decide +kernel)) ggX11_load_X11_ends
theorem dX11_load_0 : decode cX11_load 0 = .ok (.aload_n 0, 1) := by decide +kernel
theorem dX11_load_1 : decode cX11_load 1 = .ok (.invokevirtual 96, 3) := by decide +kernel
theorem dX11_load_4 : decode cX11_load 4 = .ok (.aload_n 0, 1) := by decide +kernel
theorem dX11_load_5 : decode cX11_load 5 = .ok (.aload_n 0, 1) := by decide +kernel
theorem dX11_load_6 : decode cX11_load 6 = .ok (.iload_n 1, 1) := by decide +kernel
theorem dX11_load_7 : decode cX11_load 7 = .ok (.iload_n 2, 1) := by decide +kernel
theorem dX11_load_8 : decode cX11_load 8 = .ok (.iload_n 3, 1) := by decide +kernel
theorem dX11_load_9 : decode cX11_load 9 = .ok (.invokevirtual 125, 3) := by decide +kernel
theorem dX11_load_12 : decode cX11_load 12 = .ok (.invokevirtual 102, 3) := by decide +kernel
theorem dX11_load_15 : decode cX11_load 15 = .ok (.ireturn, 1) := by decide +kernel
set_option maxRecDepth 20000 in
theorem ggX11_unloads_X11_isThing : GoodIn wsX11_unloads wsX11_isThing := goodIn_r _ [6, 1, 7, 8, 5, 9, 29, 30, 31, 32, 33, 34, 35, 36, 37, 38, 39, 40, 41, 42, 43, 44, 45, 46, 47] (by decide +kernel) (by decide +kernel)
set_option maxRecDepth 20000 in
theorem gX11_unloads_X11_isThing : GoodIn wsX11_unloads (wsV RX11 112 RX11 yX11_isThing wsX11_isThing) := goodIn_app (goodIn_of _ (by decide +kernel)) ggX11_unloads_X11_isThing
set_option maxRecDepth 20000 in
theorem ggX11_unloads_X11_t : GoodIn wsX11_unloads wsX11_t := goodIn_r _ [13, 1, 29, 30, 31, 32, 33, 34, 35, 36, 37, 38, 39, 40, 41, 42, 43, 44, 45, 46, 47] (by decide +kernel) (by decide +kernel)
set_option maxRecDepth 20000 in
theorem gX11_unloads_X11_t : GoodIn wsX11_unloads (wsV RX11 57 RX11 yX11_t wsX11_t) := goodIn_app (goodIn_of _ (by decide +kernel)) ggX11_unloads_X11_t
set_option maxRecDepth 20000 in
theorem ggX11_unloads_X11_onCart : GoodIn wsX11_unloads wsX11_onCart := goodIn_r _ [17, 1, 18, 19, 20, 5, 21, 10, 11, 12, 13, 29, 30, 31, 32, 33, 34, 35, 36, 37, 38, 39, 40, 41, 42, 43, 44, 45, 46, 47] (by decide +kernel) (by decide +kernel)
set_option maxRecDepth 20000 in
theorem gX11_unloads_X11_onCart : GoodIn wsX11_unloads (wsV RX11 65 RX11 yX11_onCart wsX11_onCart) := goodIn_app (goodIn_of _ (by decide +kernel)) ggX11_unloads_X11_onCart
set_option maxRecDepth 20000 in
theorem ggX11_unloads_X11_refuses : GoodIn wsX11_unloads wsX11_refuses := goodIn_r _ [25, 26, 27, 28, 29, 30, 31, 32, 33, 34, 35, 36, 37, 38, 39, 40, 41, 42, 43, 44, 45, 46, 47] (by decide +kernel) (by decide +kernel)
set_option maxRecDepth 20000 in
theorem gX11_unloads_X11_refuses : GoodIn wsX11_unloads (wsV RX11 92 RX11 yX11_refuses wsX11_refuses) := goodIn_app (goodIn_of _ (by decide +kernel)) ggX11_unloads_X11_refuses
theorem dX11_unloads_0 : decode cX11_unloads 0 = .ok (.aload_n 0, 1) := by decide +kernel
theorem dX11_unloads_1 : decode cX11_unloads 1 = .ok (.iload_n 1, 1) := by decide +kernel
theorem dX11_unloads_2 : decode cX11_unloads 2 = .ok (.invokevirtual 112, 3) := by decide +kernel
theorem dX11_unloads_5 : decode cX11_unloads 5 = .ok (.ifCond .ne 5, 3) := by decide +kernel
theorem dX11_unloads_8 : decode cX11_unloads 8 = .ok (.iconst (-1), 1) := by decide +kernel
theorem dX11_unloads_9 : decode cX11_unloads 9 = .ok (.ireturn, 1) := by decide +kernel
theorem dX11_unloads_10 : decode cX11_unloads 10 = .ok (.aload_n 0, 1) := by decide +kernel
theorem dX11_unloads_11 : decode cX11_unloads 11 = .ok (.iload_n 1, 1) := by decide +kernel
theorem dX11_unloads_12 : decode cX11_unloads 12 = .ok (.iconst 2, 1) := by decide +kernel
theorem dX11_unloads_13 : decode cX11_unloads 13 = .ok (.invokevirtual 57, 3) := by decide +kernel
theorem dX11_unloads_16 : decode cX11_unloads 16 = .ok (.iconst 1, 1) := by decide +kernel
theorem dX11_unloads_17 : decode cX11_unloads 17 = .ok (.isub, 1) := by decide +kernel
theorem dX11_unloads_18 : decode cX11_unloads 18 = .ok (.istore_n 2, 1) := by decide +kernel
theorem dX11_unloads_19 : decode cX11_unloads 19 = .ok (.iload_n 2, 1) := by decide +kernel
theorem dX11_unloads_20 : decode cX11_unloads 20 = .ok (.ifCond .lt 13, 3) := by decide +kernel
theorem dX11_unloads_23 : decode cX11_unloads 23 = .ok (.aload_n 0, 1) := by decide +kernel
theorem dX11_unloads_24 : decode cX11_unloads 24 = .ok (.iload_n 1, 1) := by decide +kernel
theorem dX11_unloads_25 : decode cX11_unloads 25 = .ok (.iconst 0, 1) := by decide +kernel
theorem dX11_unloads_26 : decode cX11_unloads 26 = .ok (.invokevirtual 57, 3) := by decide +kernel
theorem dX11_unloads_29 : decode cX11_unloads 29 = .ok (.iconst 1, 1) := by decide +kernel
theorem dX11_unloads_30 : decode cX11_unloads 30 = .ok (.if_icmp .ne 7, 3) := by decide +kernel
theorem dX11_unloads_33 : decode cX11_unloads 33 = .ok (.iconst 0, 1) := by decide +kernel
theorem dX11_unloads_34 : decode cX11_unloads 34 = .ok (.goto 25, 3) := by decide +kernel
theorem dX11_unloads_37 : decode cX11_unloads 37 = .ok (.aload_n 0, 1) := by decide +kernel
theorem dX11_unloads_38 : decode cX11_unloads 38 = .ok (.iload_n 2, 1) := by decide +kernel
theorem dX11_unloads_39 : decode cX11_unloads 39 = .ok (.iconst 1, 1) := by decide +kernel
theorem dX11_unloads_40 : decode cX11_unloads 40 = .ok (.iconst 1, 1) := by decide +kernel
theorem dX11_unloads_41 : decode cX11_unloads 41 = .ok (.invokevirtual 65, 3) := by decide +kernel
theorem dX11_unloads_44 : decode cX11_unloads 44 = .ok (.aload_n 0, 1) := by decide +kernel
theorem dX11_unloads_45 : decode cX11_unloads 45 = .ok (.iload_n 2, 1) := by decide +kernel
theorem dX11_unloads_46 : decode cX11_unloads 46 = .ok (.iconst 0, 1) := by decide +kernel
theorem dX11_unloads_47 : decode cX11_unloads 47 = .ok (.iconst 1, 1) := by decide +kernel
theorem dX11_unloads_48 : decode cX11_unloads 48 = .ok (.invokevirtual 65, 3) := by decide +kernel
theorem dX11_unloads_51 : decode cX11_unloads 51 = .ok (.isub, 1) := by decide +kernel
theorem dX11_unloads_52 : decode cX11_unloads 52 = .ok (.aload_n 0, 1) := by decide +kernel
theorem dX11_unloads_53 : decode cX11_unloads 53 = .ok (.iload_n 1, 1) := by decide +kernel
theorem dX11_unloads_54 : decode cX11_unloads 54 = .ok (.iconst 1, 1) := by decide +kernel
theorem dX11_unloads_55 : decode cX11_unloads 55 = .ok (.invokevirtual 57, 3) := by decide +kernel
theorem dX11_unloads_58 : decode cX11_unloads 58 = .ok (.iadd, 1) := by decide +kernel
theorem dX11_unloads_59 : decode cX11_unloads 59 = .ok (.istore_n 3, 1) := by decide +kernel
theorem dX11_unloads_60 : decode cX11_unloads 60 = .ok (.aload_n 0, 1) := by decide +kernel
theorem dX11_unloads_61 : decode cX11_unloads 61 = .ok (.iload_n 2, 1) := by decide +kernel
theorem dX11_unloads_62 : decode cX11_unloads 62 = .ok (.ifCond .ge 7, 3) := by decide +kernel
theorem dX11_unloads_65 : decode cX11_unloads 65 = .ok (.iconst 1, 1) := by decide +kernel
theorem dX11_unloads_66 : decode cX11_unloads 66 = .ok (.goto 4, 3) := by decide +kernel
theorem dX11_unloads_69 : decode cX11_unloads 69 = .ok (.iconst 0, 1) := by decide +kernel
theorem dX11_unloads_70 : decode cX11_unloads 70 = .ok (.bipush 6, 2) := by decide +kernel
theorem dX11_unloads_72 : decode cX11_unloads 72 = .ok (.iload_n 1, 1) := by decide +kernel
theorem dX11_unloads_73 : decode cX11_unloads 73 = .ok (.invokevirtual 92, 3) := by decide +kernel
theorem dX11_unloads_76 : decode cX11_unloads 76 = .ok (.ifCond .ne 21, 3) := by decide +kernel
theorem dX11_unloads_79 : decode cX11_unloads 79 = .ok (.aload_n 0, 1) := by decide +kernel
theorem dX11_unloads_80 : decode cX11_unloads 80 = .ok (.iload_n 3, 1) := by decide +kernel
theorem dX11_unloads_81 : decode cX11_unloads 81 = .ok (.ifCond .le 7, 3) := by decide +kernel
theorem dX11_unloads_84 : decode cX11_unloads 84 = .ok (.iconst 1, 1) := by decide +kernel
theorem dX11_unloads_85 : decode cX11_unloads 85 = .ok (.goto 4, 3) := by decide +kernel
theorem dX11_unloads_88 : decode cX11_unloads 88 = .ok (.iconst 0, 1) := by decide +kernel
theorem dX11_unloads_89 : decode cX11_unloads 89 = .ok (.iconst 5, 1) := by decide +kernel
theorem dX11_unloads_90 : decode cX11_unloads 90 = .ok (.iload_n 3, 1) := by decide +kernel
theorem dX11_unloads_91 : decode cX11_unloads 91 = .ok (.invokevirtual 92, 3) := by decide +kernel
theorem dX11_unloads_94 : decode cX11_unloads 94 = .ok (.ifCond .eq 6, 3) := by decide +kernel
theorem dX11_unloads_97 : decode cX11_unloads 97 = .ok (.bipush (-3), 2) := by decide +kernel
theorem dX11_unloads_99 : decode cX11_unloads 99 = .ok (.ireturn, 1) := by decide +kernel
theorem dX11_unloads_100 : decode cX11_unloads 100 = .ok (.aload_n 0, 1) := by decide +kernel
theorem dX11_unloads_101 : decode cX11_unloads 101 = .ok (.getfield 9, 3) := by decide +kernel
theorem dX11_unloads_104 : decode cX11_unloads 104 = .ok (.iconst 5, 1) := by decide +kernel
theorem dX11_unloads_105 : decode cX11_unloads 105 = .ok (.iconst 4, 1) := by decide +kernel
theorem dX11_unloads_106 : decode cX11_unloads 106 = .ok (.iload_n 1, 1) := by decide +kernel
theorem dX11_unloads_107 : decode cX11_unloads 107 = .ok (.imul, 1) := by decide +kernel
theorem dX11_unloads_108 : decode cX11_unloads 108 = .ok (.iadd, 1) := by decide +kernel
theorem dX11_unloads_109 : decode cX11_unloads 109 = .ok (.iconst 2, 1) := by decide +kernel
theorem dX11_unloads_110 : decode cX11_unloads 110 = .ok (.iadd, 1) := by decide +kernel
theorem dX11_unloads_111 : decode cX11_unloads 111 = .ok (.iconst 0, 1) := by decide +kernel
theorem dX11_unloads_112 : decode cX11_unloads 112 = .ok (.iastore, 1) := by decide +kernel
theorem dX11_unloads_113 : decode cX11_unloads 113 = .ok (.aload_n 0, 1) := by decide +kernel
theorem dX11_unloads_114 : decode cX11_unloads 114 = .ok (.getfield 9, 3) := by decide +kernel
theorem dX11_unloads_117 : decode cX11_unloads 117 = .ok (.iconst 5, 1) := by decide +kernel
theorem dX11_unloads_118 : decode cX11_unloads 118 = .ok (.iconst 4, 1) := by decide +kernel
theorem dX11_unloads_119 : decode cX11_unloads 119 = .ok (.iload_n 1, 1) := by decide +kernel
theorem dX11_unloads_120 : decode cX11_unloads 120 = .ok (.imul, 1) := by decide +kernel
theorem dX11_unloads_121 : decode cX11_unloads 121 = .ok (.iadd, 1) := by decide +kernel
theorem dX11_unloads_122 : decode cX11_unloads 122 = .ok (.iconst 3, 1) := by decide +kernel
theorem dX11_unloads_123 : decode cX11_unloads 123 = .ok (.iadd, 1) := by decide +kernel
theorem dX11_unloads_124 : decode cX11_unloads 124 = .ok (.iconst 0, 1) := by decide +kernel
theorem dX11_unloads_125 : decode cX11_unloads 125 = .ok (.iastore, 1) := by decide +kernel
theorem dX11_unloads_126 : decode cX11_unloads 126 = .ok (.iload_n 2, 1) := by decide +kernel
theorem dX11_unloads_127 : decode cX11_unloads 127 = .ok (.ireturn, 1) := by decide +kernel
set_option maxRecDepth 20000 in
theorem ggX11_unload_X11_begins : GoodIn wsX11_unload wsX11_begins := goodIn_r _ [5, 6, 7, 8, 4, 9, 10, 11, 47, 48, 49, 50, 51, 52, 53, 54, 55, 56, 57, 58, 59, 60, 61, 62, 63, 64, 65] (by decide +kernel) (by decide +kernel)
set_option maxRecDepth 20000 in
theorem gX11_unload_X11_begins : GoodIn wsX11_unload (wsV RX11 96 RX11 yX11_begins wsX11_begins) := goodIn_app (goodIn_of _ (by decide +kernel)) ggX11_unload_X11_begins
set_option maxRecDepth 20000 in
theorem ggX11_unload_X11_unloads : GoodIn wsX11_unload wsX11_unloads := goodIn_r _ [15, 10, 16, 17, 18, 4, 19, 20, 21, 22, 23, 24, 25, 26, 27, 28, 29, 30, 31, 32, 33, 34, 35, 36, 37, 38, 39, 40, 41, 47, 48, 49, 50, 51, 52, 53, 54, 55, 56, 57, 58, 59, 60, 61, 62, 63, 64, 65] (by decide +kernel) (by decide +kernel)
set_option maxRecDepth 20000 in
theorem gX11_unload_X11_unloads : GoodIn wsX11_unload (wsV RX11 128 RX11 yX11_unloads wsX11_unloads) := goodIn_app (goodIn_of _ (by decide +kernel)) ggX11_unload_X11_unloads
set_option maxRecDepth 20000 in
theorem ggX11_unload_X11_ends : GoodIn wsX11_unload wsX11_ends := goodIn_r _ [45, 46, 6, 7, 8, 4, 9, 10, 11, 47, 48, 49, 50, 51, 52, 53, 54, 55, 56, 57, 58, 59, 60, 61, 62, 63, 64, 65] (by decide +kernel) (by decide +kernel)
set_option maxRecDepth 20000 in
theorem gX11_unload_X11_ends : GoodIn wsX11_unload (wsV RX11 102 RX11 yX11_ends wsX11_ends) := goodIn_app (goodIn_of _ (by decide +kernel)) ggX11_unload_X11_ends
theorem dX11_unload_0 : decode cX11_unload 0 = .ok (.aload_n 0, 1) := by decide +kernel
theorem dX11_unload_1 : decode cX11_unload 1 = .ok (.invokevirtual 96, 3) := by decide +kernel
theorem dX11_unload_4 : decode cX11_unload 4 = .ok (.aload_n 0, 1) := by decide +kernel
theorem dX11_unload_5 : decode cX11_unload 5 = .ok (.aload_n 0, 1) := by decide +kernel
theorem dX11_unload_6 : decode cX11_unload 6 = .ok (.iload_n 1, 1) := by decide +kernel
theorem dX11_unload_7 : decode cX11_unload 7 = .ok (.invokevirtual 128, 3) := by decide +kernel
theorem dX11_unload_10 : decode cX11_unload 10 = .ok (.invokevirtual 102, 3) := by decide +kernel
theorem dX11_unload_13 : decode cX11_unload 13 = .ok (.ireturn, 1) := by decide +kernel
set_option maxRecDepth 20000 in
theorem ggX11_swaps_X11_isCart : GoodIn wsX11_swaps wsX11_isCart := goodIn_r _ [6, 1, 7, 8, 5, 9, 40, 41, 42, 43, 44, 45, 46, 47, 48, 49, 50, 51, 52, 53, 54, 55, 56, 57, 58] (by decide +kernel) (by decide +kernel)
set_option maxRecDepth 20000 in
theorem gX11_swaps_X11_isCart : GoodIn wsX11_swaps (wsV RX11 116 RX11 yX11_isCart wsX11_isCart) := goodIn_app (goodIn_of _ (by decide +kernel)) ggX11_swaps_X11_isCart
set_option maxRecDepth 20000 in
theorem ggX11_swaps_X11_in : GoodIn wsX11_swaps wsX11_in := goodIn_r _ [9] (by decide +kernel) (by decide +kernel)
set_option maxRecDepth 20000 in
theorem gX11_swaps_X11_in : GoodIn wsX11_swaps (va_wsS RX11 50 yX11_in wsX11_in) := goodIn_app (goodIn_of _ (by decide +kernel)) ggX11_swaps_X11_in
set_option maxRecDepth 20000 in
theorem ggX11_swaps_X11_refuses : GoodIn wsX11_swaps wsX11_refuses := goodIn_r _ [13, 14, 15, 16, 40, 41, 42, 43, 44, 45, 46, 47, 48, 49, 50, 51, 52, 53, 54, 55, 56, 57, 58] (by decide +kernel) (by decide +kernel)
set_option maxRecDepth 20000 in
theorem gX11_swaps_X11_refuses : GoodIn wsX11_swaps (wsV RX11 92 RX11 yX11_refuses wsX11_refuses) := goodIn_app (goodIn_of _ (by decide +kernel)) ggX11_swaps_X11_refuses
set_option maxRecDepth 20000 in
theorem ggX11_swaps_X11_thingAt : GoodIn wsX11_swaps wsX11_thingAt := goodIn_r _ [20, 1, 21, 22, 23, 5, 24, 25, 26, 27, 28, 40, 41, 42, 43, 44, 45, 46, 47, 48, 49, 50, 51, 52, 53, 54, 55, 56, 57, 58] (by decide +kernel) (by decide +kernel)
set_option maxRecDepth 20000 in
theorem gX11_swaps_X11_thingAt : GoodIn wsX11_swaps (wsV RX11 119 RX11 yX11_thingAt wsX11_thingAt) := goodIn_app (goodIn_of _ (by decide +kernel)) ggX11_swaps_X11_thingAt
set_option maxRecDepth 20000 in
theorem ggX11_swaps_X11_imbalance : GoodIn wsX11_swaps wsX11_imbalance := goodIn_r _ [32, 33, 34, 35, 5, 36, 1, 25, 26, 27, 28, 21, 22, 23, 24, 37, 38, 39, 40, 41, 42, 43, 44, 45, 46, 47, 48, 49, 50, 51, 52, 53, 54, 55, 56, 57, 58] (by decide +kernel) (by decide +kernel)
set_option maxRecDepth 20000 in
theorem gX11_swaps_X11_imbalance : GoodIn wsX11_swaps (wsV RX11 131 RX11 yX11_imbalance wsX11_imbalance) := goodIn_app (goodIn_of _ (by decide +kernel)) ggX11_swaps_X11_imbalance
theorem dX11_swaps_0 : decode cX11_swaps 0 = .ok (.aload_n 0, 1) := by decide +kernel
theorem dX11_swaps_1 : decode cX11_swaps 1 = .ok (.iload_n 1, 1) := by decide +kernel
theorem dX11_swaps_2 : decode cX11_swaps 2 = .ok (.invokevirtual 116, 3) := by decide +kernel
theorem dX11_swaps_5 : decode cX11_swaps 5 = .ok (.ifCond .ne 5, 3) := by decide +kernel
theorem dX11_swaps_8 : decode cX11_swaps 8 = .ok (.iconst (-1), 1) := by decide +kernel
theorem dX11_swaps_9 : decode cX11_swaps 9 = .ok (.ireturn, 1) := by decide +kernel
theorem dX11_swaps_10 : decode cX11_swaps 10 = .ok (.iload_n 2, 1) := by decide +kernel
theorem dX11_swaps_11 : decode cX11_swaps 11 = .ok (.iconst 0, 1) := by decide +kernel
theorem dX11_swaps_12 : decode cX11_swaps 12 = .ok (.iconst 5, 1) := by decide +kernel
theorem dX11_swaps_13 : decode cX11_swaps 13 = .ok (.invokestatic 50, 3) := by decide +kernel
theorem dX11_swaps_16 : decode cX11_swaps 16 = .ok (.ifCond .eq 12, 3) := by decide +kernel
theorem dX11_swaps_19 : decode cX11_swaps 19 = .ok (.iload_n 3, 1) := by decide +kernel
theorem dX11_swaps_20 : decode cX11_swaps 20 = .ok (.iconst 0, 1) := by decide +kernel
theorem dX11_swaps_21 : decode cX11_swaps 21 = .ok (.iconst 5, 1) := by decide +kernel
theorem dX11_swaps_22 : decode cX11_swaps 22 = .ok (.invokestatic 50, 3) := by decide +kernel
theorem dX11_swaps_25 : decode cX11_swaps 25 = .ok (.ifCond .ne 6, 3) := by decide +kernel
theorem dX11_swaps_28 : decode cX11_swaps 28 = .ok (.bipush (-2), 2) := by decide +kernel
theorem dX11_swaps_30 : decode cX11_swaps 30 = .ok (.ireturn, 1) := by decide +kernel
theorem dX11_swaps_31 : decode cX11_swaps 31 = .ok (.aload_n 0, 1) := by decide +kernel
theorem dX11_swaps_32 : decode cX11_swaps 32 = .ok (.iload_n 2, 1) := by decide +kernel
theorem dX11_swaps_33 : decode cX11_swaps 33 = .ok (.iload_n 3, 1) := by decide +kernel
theorem dX11_swaps_34 : decode cX11_swaps 34 = .ok (.if_icmp .ne 7, 3) := by decide +kernel
theorem dX11_swaps_37 : decode cX11_swaps 37 = .ok (.iconst 1, 1) := by decide +kernel
theorem dX11_swaps_38 : decode cX11_swaps 38 = .ok (.goto 4, 3) := by decide +kernel
theorem dX11_swaps_41 : decode cX11_swaps 41 = .ok (.iconst 0, 1) := by decide +kernel
theorem dX11_swaps_42 : decode cX11_swaps 42 = .ok (.bipush 7, 2) := by decide +kernel
theorem dX11_swaps_44 : decode cX11_swaps 44 = .ok (.iload_n 2, 1) := by decide +kernel
theorem dX11_swaps_45 : decode cX11_swaps 45 = .ok (.invokevirtual 92, 3) := by decide +kernel
theorem dX11_swaps_48 : decode cX11_swaps 48 = .ok (.ifCond .eq 6, 3) := by decide +kernel
theorem dX11_swaps_51 : decode cX11_swaps 51 = .ok (.bipush (-3), 2) := by decide +kernel
theorem dX11_swaps_53 : decode cX11_swaps 53 = .ok (.ireturn, 1) := by decide +kernel
theorem dX11_swaps_54 : decode cX11_swaps 54 = .ok (.aload_n 0, 1) := by decide +kernel
theorem dX11_swaps_55 : decode cX11_swaps 55 = .ok (.iload_n 1, 1) := by decide +kernel
theorem dX11_swaps_56 : decode cX11_swaps 56 = .ok (.iload_n 2, 1) := by decide +kernel
theorem dX11_swaps_57 : decode cX11_swaps 57 = .ok (.invokevirtual 119, 3) := by decide +kernel
theorem dX11_swaps_60 : decode cX11_swaps 60 = .ok (.istore 4, 2) := by decide +kernel
theorem dX11_swaps_62 : decode cX11_swaps 62 = .ok (.aload_n 0, 1) := by decide +kernel
theorem dX11_swaps_63 : decode cX11_swaps 63 = .ok (.iload_n 1, 1) := by decide +kernel
theorem dX11_swaps_64 : decode cX11_swaps 64 = .ok (.iload_n 3, 1) := by decide +kernel
theorem dX11_swaps_65 : decode cX11_swaps 65 = .ok (.invokevirtual 119, 3) := by decide +kernel
theorem dX11_swaps_68 : decode cX11_swaps 68 = .ok (.istore 5, 2) := by decide +kernel
theorem dX11_swaps_70 : decode cX11_swaps 70 = .ok (.iload 4, 2) := by decide +kernel
theorem dX11_swaps_72 : decode cX11_swaps 72 = .ok (.bipush (-4), 2) := by decide +kernel
theorem dX11_swaps_74 : decode cX11_swaps 74 = .ok (.if_icmp .eq 17, 3) := by decide +kernel
theorem dX11_swaps_77 : decode cX11_swaps 77 = .ok (.aload_n 0, 1) := by decide +kernel
theorem dX11_swaps_78 : decode cX11_swaps 78 = .ok (.getfield 9, 3) := by decide +kernel
theorem dX11_swaps_81 : decode cX11_swaps 81 = .ok (.iconst 5, 1) := by decide +kernel
theorem dX11_swaps_82 : decode cX11_swaps 82 = .ok (.iconst 4, 1) := by decide +kernel
theorem dX11_swaps_83 : decode cX11_swaps 83 = .ok (.iload 4, 2) := by decide +kernel
theorem dX11_swaps_85 : decode cX11_swaps 85 = .ok (.imul, 1) := by decide +kernel
theorem dX11_swaps_86 : decode cX11_swaps 86 = .ok (.iadd, 1) := by decide +kernel
theorem dX11_swaps_87 : decode cX11_swaps 87 = .ok (.iconst 3, 1) := by decide +kernel
theorem dX11_swaps_88 : decode cX11_swaps 88 = .ok (.iadd, 1) := by decide +kernel
theorem dX11_swaps_89 : decode cX11_swaps 89 = .ok (.iload_n 3, 1) := by decide +kernel
theorem dX11_swaps_90 : decode cX11_swaps 90 = .ok (.iastore, 1) := by decide +kernel
theorem dX11_swaps_91 : decode cX11_swaps 91 = .ok (.iload 5, 2) := by decide +kernel
theorem dX11_swaps_93 : decode cX11_swaps 93 = .ok (.bipush (-4), 2) := by decide +kernel
theorem dX11_swaps_95 : decode cX11_swaps 95 = .ok (.if_icmp .eq 17, 3) := by decide +kernel
theorem dX11_swaps_98 : decode cX11_swaps 98 = .ok (.aload_n 0, 1) := by decide +kernel
theorem dX11_swaps_99 : decode cX11_swaps 99 = .ok (.getfield 9, 3) := by decide +kernel
theorem dX11_swaps_102 : decode cX11_swaps 102 = .ok (.iconst 5, 1) := by decide +kernel
theorem dX11_swaps_103 : decode cX11_swaps 103 = .ok (.iconst 4, 1) := by decide +kernel
theorem dX11_swaps_104 : decode cX11_swaps 104 = .ok (.iload 5, 2) := by decide +kernel
theorem dX11_swaps_106 : decode cX11_swaps 106 = .ok (.imul, 1) := by decide +kernel
theorem dX11_swaps_107 : decode cX11_swaps 107 = .ok (.iadd, 1) := by decide +kernel
theorem dX11_swaps_108 : decode cX11_swaps 108 = .ok (.iconst 3, 1) := by decide +kernel
theorem dX11_swaps_109 : decode cX11_swaps 109 = .ok (.iadd, 1) := by decide +kernel
theorem dX11_swaps_110 : decode cX11_swaps 110 = .ok (.iload_n 2, 1) := by decide +kernel
theorem dX11_swaps_111 : decode cX11_swaps 111 = .ok (.iastore, 1) := by decide +kernel
theorem dX11_swaps_112 : decode cX11_swaps 112 = .ok (.aload_n 0, 1) := by decide +kernel
theorem dX11_swaps_113 : decode cX11_swaps 113 = .ok (.iload_n 1, 1) := by decide +kernel
theorem dX11_swaps_114 : decode cX11_swaps 114 = .ok (.invokevirtual 131, 3) := by decide +kernel
theorem dX11_swaps_117 : decode cX11_swaps 117 = .ok (.ireturn, 1) := by decide +kernel
set_option maxRecDepth 20000 in
theorem ggX11_swap_X11_begins : GoodIn wsX11_swap wsX11_begins := goodIn_r _ [5, 6, 7, 8, 4, 9, 10, 11, 58, 59, 60, 61, 62, 63, 64, 65, 66, 67, 68, 69, 70, 71, 72, 73, 74, 75, 76] (by decide +kernel) (by decide +kernel)
set_option maxRecDepth 20000 in
theorem gX11_swap_X11_begins : GoodIn wsX11_swap (wsV RX11 96 RX11 yX11_begins wsX11_begins) := goodIn_app (goodIn_of _ (by decide +kernel)) ggX11_swap_X11_begins
set_option maxRecDepth 20000 in
theorem ggX11_swap_X11_swaps : GoodIn wsX11_swap wsX11_swaps := goodIn_r _ [15, 10, 16, 17, 18, 4, 19, 20, 21, 22, 23, 24, 25, 26, 27, 28, 29, 30, 31, 32, 33, 34, 35, 36, 37, 38, 39, 40, 41, 42, 43, 44, 45, 46, 47, 48, 49, 50, 51, 52, 58, 59, 60, 61, 62, 63, 64, 65, 66, 67, 68, 69, 70, 71, 72, 73, 74, 75, 76] (by decide +kernel) (by decide +kernel)
set_option maxRecDepth 20000 in
theorem gX11_swap_X11_swaps : GoodIn wsX11_swap (wsV RX11 134 RX11 yX11_swaps wsX11_swaps) := goodIn_app (goodIn_of _ (by decide +kernel)) ggX11_swap_X11_swaps
set_option maxRecDepth 20000 in
theorem ggX11_swap_X11_ends : GoodIn wsX11_swap wsX11_ends := goodIn_r _ [56, 57, 6, 7, 8, 4, 9, 10, 11, 58, 59, 60, 61, 62, 63, 64, 65, 66, 67, 68, 69, 70, 71, 72, 73, 74, 75, 76] (by decide +kernel) (by decide +kernel)
set_option maxRecDepth 20000 in
theorem gX11_swap_X11_ends : GoodIn wsX11_swap (wsV RX11 102 RX11 yX11_ends wsX11_ends) := goodIn_app (goodIn_of _ (by decide +kernel)) ggX11_swap_X11_ends
theorem dX11_swap_0 : decode cX11_swap 0 = .ok (.aload_n 0, 1) := by decide +kernel
theorem dX11_swap_1 : decode cX11_swap 1 = .ok (.invokevirtual 96, 3) := by decide +kernel
theorem dX11_swap_4 : decode cX11_swap 4 = .ok (.aload_n 0, 1) := by decide +kernel
theorem dX11_swap_5 : decode cX11_swap 5 = .ok (.aload_n 0, 1) := by decide +kernel
theorem dX11_swap_6 : decode cX11_swap 6 = .ok (.iload_n 1, 1) := by decide +kernel
theorem dX11_swap_7 : decode cX11_swap 7 = .ok (.iload_n 2, 1) := by decide +kernel
theorem dX11_swap_8 : decode cX11_swap 8 = .ok (.iload_n 3, 1) := by decide +kernel
theorem dX11_swap_9 : decode cX11_swap 9 = .ok (.invokevirtual 134, 3) := by decide +kernel
theorem dX11_swap_12 : decode cX11_swap 12 = .ok (.invokevirtual 102, 3) := by decide +kernel
theorem dX11_swap_15 : decode cX11_swap 15 = .ok (.ireturn, 1) := by decide +kernel
set_option maxRecDepth 20000 in
theorem ggX11_wears_X11_loadOf : GoodIn wsX11_wears wsX11_loadOf := goodIn_r _ [7, 8, 9, 10, 11, 6, 12, 13, 14, 15, 16, 17, 18, 19, 20, 21, 30, 31, 32, 33, 34, 35, 36, 37, 38, 39, 40, 41, 42, 43, 44, 45, 46, 47, 48] (by decide +kernel) (by decide +kernel)
set_option maxRecDepth 20000 in
theorem gX11_wears_X11_loadOf : GoodIn wsX11_wears (wsV RX11 74 RX11 yX11_loadOf wsX11_loadOf) := goodIn_app (goodIn_of _ (by decide +kernel)) ggX11_wears_X11_loadOf
set_option maxRecDepth 20000 in
theorem ggX11_wears_X11_creaks : GoodIn wsX11_wears wsX11_creaks := goodIn_r _ [25, 3, 4, 5, 6, 7, 8, 9, 10, 11, 12, 13, 14, 15, 16, 17, 18, 19, 20, 21, 26, 27, 28, 29, 30, 31, 32, 33, 34, 35, 36, 37, 38, 39, 40, 41, 42, 43, 44, 45, 46, 47, 48] (by decide +kernel) (by decide +kernel)
set_option maxRecDepth 20000 in
theorem gX11_wears_X11_creaks : GoodIn wsX11_wears (wsV RX11 82 RX11 yX11_creaks wsX11_creaks) := goodIn_app (goodIn_of _ (by decide +kernel)) ggX11_wears_X11_creaks
theorem dX11_wears_0 : decode cX11_wears 0 = .ok (.aload_n 0, 1) := by decide +kernel
theorem dX11_wears_1 : decode cX11_wears 1 = .ok (.iload_n 1, 1) := by decide +kernel
theorem dX11_wears_2 : decode cX11_wears 2 = .ok (.iload_n 2, 1) := by decide +kernel
theorem dX11_wears_3 : decode cX11_wears 3 = .ok (.invokevirtual 74, 3) := by decide +kernel
theorem dX11_wears_6 : decode cX11_wears 6 = .ok (.iload_n 3, 1) := by decide +kernel
theorem dX11_wears_7 : decode cX11_wears 7 = .ok (.i2f, 1) := by decide +kernel
theorem dX11_wears_8 : decode cX11_wears 8 = .ok (.fmul, 1) := by decide +kernel
theorem dX11_wears_9 : decode cX11_wears 9 = .ok (.ldc 137, 2) := by decide +kernel
theorem dX11_wears_11 : decode cX11_wears 11 = .ok (.fmul, 1) := by decide +kernel
theorem dX11_wears_12 : decode cX11_wears 12 = .ok (.fstore 4, 2) := by decide +kernel
theorem dX11_wears_14 : decode cX11_wears 14 = .ok (.aload_n 0, 1) := by decide +kernel
theorem dX11_wears_15 : decode cX11_wears 15 = .ok (.iload_n 1, 1) := by decide +kernel
theorem dX11_wears_16 : decode cX11_wears 16 = .ok (.iload_n 2, 1) := by decide +kernel
theorem dX11_wears_17 : decode cX11_wears 17 = .ok (.invokevirtual 82, 3) := by decide +kernel
theorem dX11_wears_20 : decode cX11_wears 20 = .ok (.ifCond .eq 10, 3) := by decide +kernel
theorem dX11_wears_23 : decode cX11_wears 23 = .ok (.fload 4, 2) := by decide +kernel
theorem dX11_wears_25 : decode cX11_wears 25 = .ok (.fconst 2, 1) := by decide +kernel
theorem dX11_wears_26 : decode cX11_wears 26 = .ok (.fmul, 1) := by decide +kernel
theorem dX11_wears_27 : decode cX11_wears 27 = .ok (.goto 5, 3) := by decide +kernel
theorem dX11_wears_30 : decode cX11_wears 30 = .ok (.fload 4, 2) := by decide +kernel
theorem dX11_wears_32 : decode cX11_wears 32 = .ok (.fstore 5, 2) := by decide +kernel
theorem dX11_wears_34 : decode cX11_wears 34 = .ok (.iconst 2, 1) := by decide +kernel
theorem dX11_wears_35 : decode cX11_wears 35 = .ok (.iload_n 1, 1) := by decide +kernel
theorem dX11_wears_36 : decode cX11_wears 36 = .ok (.imul, 1) := by decide +kernel
theorem dX11_wears_37 : decode cX11_wears 37 = .ok (.iload_n 2, 1) := by decide +kernel
theorem dX11_wears_38 : decode cX11_wears 38 = .ok (.ifCond .eq 7, 3) := by decide +kernel
theorem dX11_wears_41 : decode cX11_wears 41 = .ok (.iconst 1, 1) := by decide +kernel
theorem dX11_wears_42 : decode cX11_wears 42 = .ok (.goto 4, 3) := by decide +kernel
theorem dX11_wears_45 : decode cX11_wears 45 = .ok (.iconst 0, 1) := by decide +kernel
theorem dX11_wears_46 : decode cX11_wears 46 = .ok (.iadd, 1) := by decide +kernel
theorem dX11_wears_47 : decode cX11_wears 47 = .ok (.istore 6, 2) := by decide +kernel
theorem dX11_wears_49 : decode cX11_wears 49 = .ok (.aload_n 0, 1) := by decide +kernel
theorem dX11_wears_50 : decode cX11_wears 50 = .ok (.getfield 13, 3) := by decide +kernel
theorem dX11_wears_53 : decode cX11_wears 53 = .ok (.iload 6, 2) := by decide +kernel
theorem dX11_wears_55 : decode cX11_wears 55 = .ok (.aload_n 0, 1) := by decide +kernel
theorem dX11_wears_56 : decode cX11_wears 56 = .ok (.getfield 13, 3) := by decide +kernel
theorem dX11_wears_59 : decode cX11_wears 59 = .ok (.iload 6, 2) := by decide +kernel
theorem dX11_wears_61 : decode cX11_wears 61 = .ok (.faload, 1) := by decide +kernel
theorem dX11_wears_62 : decode cX11_wears 62 = .ok (.fload 5, 2) := by decide +kernel
theorem dX11_wears_64 : decode cX11_wears 64 = .ok (.fadd, 1) := by decide +kernel
theorem dX11_wears_65 : decode cX11_wears 65 = .ok (.fastore, 1) := by decide +kernel
theorem dX11_wears_66 : decode cX11_wears 66 = .ok (.return_, 1) := by decide +kernel
set_option maxRecDepth 20000 in
theorem ggX11_tollOf_X11_onCart : GoodIn wsX11_tollOf wsX11_onCart := goodIn_r _ [6, 7, 8, 9, 10, 5, 11, 12, 13, 14, 15, 20, 21, 22, 23, 24, 25, 26, 27, 28, 29, 30, 31, 32, 33, 34, 35, 36, 37, 38] (by decide +kernel) (by decide +kernel)
set_option maxRecDepth 20000 in
theorem gX11_tollOf_X11_onCart : GoodIn wsX11_tollOf (wsV RX11 65 RX11 yX11_onCart wsX11_onCart) := goodIn_app (goodIn_of _ (by decide +kernel)) ggX11_tollOf_X11_onCart
set_option maxRecDepth 20000 in
theorem ggX11_tollOf_X11_r : GoodIn wsX11_tollOf wsX11_r := goodIn_r _ [19, 7, 20, 21, 22, 23, 24, 25, 26, 27, 28, 29, 30, 31, 32, 33, 34, 35, 36, 37, 38] (by decide +kernel) (by decide +kernel)
set_option maxRecDepth 20000 in
theorem gX11_tollOf_X11_r : GoodIn wsX11_tollOf (wsV RX11 138 RX11 yX11_r wsX11_r) := goodIn_app (goodIn_of _ (by decide +kernel)) ggX11_tollOf_X11_r
theorem dX11_tollOf_0 : decode cX11_tollOf 0 = .ok (.aload_n 0, 1) := by decide +kernel
theorem dX11_tollOf_1 : decode cX11_tollOf 1 = .ok (.iload_n 1, 1) := by decide +kernel
theorem dX11_tollOf_2 : decode cX11_tollOf 2 = .ok (.iconst 1, 1) := by decide +kernel
theorem dX11_tollOf_3 : decode cX11_tollOf 3 = .ok (.iconst 1, 1) := by decide +kernel
theorem dX11_tollOf_4 : decode cX11_tollOf 4 = .ok (.invokevirtual 65, 3) := by decide +kernel
theorem dX11_tollOf_7 : decode cX11_tollOf 7 = .ok (.i2f, 1) := by decide +kernel
theorem dX11_tollOf_8 : decode cX11_tollOf 8 = .ok (.aload_n 0, 1) := by decide +kernel
theorem dX11_tollOf_9 : decode cX11_tollOf 9 = .ok (.iload_n 2, 1) := by decide +kernel
theorem dX11_tollOf_10 : decode cX11_tollOf 10 = .ok (.iconst 2, 1) := by decide +kernel
theorem dX11_tollOf_11 : decode cX11_tollOf 11 = .ok (.invokevirtual 138, 3) := by decide +kernel
theorem dX11_tollOf_14 : decode cX11_tollOf 14 = .ok (.i2f, 1) := by decide +kernel
theorem dX11_tollOf_15 : decode cX11_tollOf 15 = .ok (.fmul, 1) := by decide +kernel
theorem dX11_tollOf_16 : decode cX11_tollOf 16 = .ok (.ldc 141, 2) := by decide +kernel
theorem dX11_tollOf_18 : decode cX11_tollOf 18 = .ok (.fmul, 1) := by decide +kernel
theorem dX11_tollOf_19 : decode cX11_tollOf 19 = .ok (.freturn, 1) := by decide +kernel
set_option maxRecDepth 20000 in
theorem ggX11_goes_X11_isCart : GoodIn wsX11_goes wsX11_isCart := goodIn_r _ [7, 2, 8, 9, 6, 10, 81, 82, 83, 84, 85, 86, 87, 88, 89, 90, 91, 92, 93, 94, 95, 96, 97, 98, 99] (by decide +kernel) (by decide +kernel)
set_option maxRecDepth 20000 in
theorem gX11_goes_X11_isCart : GoodIn wsX11_goes (wsV RX11 116 RX11 yX11_isCart wsX11_isCart) := goodIn_app (goodIn_of _ (by decide +kernel)) ggX11_goes_X11_isCart
set_option maxRecDepth 20000 in
theorem ggX11_goes_X11_isRoad : GoodIn wsX11_goes wsX11_isRoad := goodIn_r _ [14, 2, 8, 9, 6, 10, 81, 82, 83, 84, 85, 86, 87, 88, 89, 90, 91, 92, 93, 94, 95, 96, 97, 98, 99] (by decide +kernel) (by decide +kernel)
set_option maxRecDepth 20000 in
theorem gX11_goes_X11_isRoad : GoodIn wsX11_goes (wsV RX11 142 RX11 yX11_isRoad wsX11_isRoad) := goodIn_app (goodIn_of _ (by decide +kernel)) ggX11_goes_X11_isRoad
set_option maxRecDepth 20000 in
theorem ggX11_goes_X11_weightOf : GoodIn wsX11_goes wsX11_weightOf := goodIn_r _ [18, 19, 20, 21, 6, 22, 2, 23, 24, 25, 26, 27, 28, 29, 30, 81, 82, 83, 84, 85, 86, 87, 88, 89, 90, 91, 92, 93, 94, 95, 96, 97, 98, 99] (by decide +kernel) (by decide +kernel)
set_option maxRecDepth 20000 in
theorem gX11_goes_X11_weightOf : GoodIn wsX11_goes (wsV RX11 122 RX11 yX11_weightOf wsX11_weightOf) := goodIn_app (goodIn_of _ (by decide +kernel)) ggX11_goes_X11_weightOf
set_option maxRecDepth 20000 in
theorem ggX11_goes_X11_r : GoodIn wsX11_goes wsX11_r := goodIn_r _ [34, 2, 81, 82, 83, 84, 85, 86, 87, 88, 89, 90, 91, 92, 93, 94, 95, 96, 97, 98, 99] (by decide +kernel) (by decide +kernel)
set_option maxRecDepth 20000 in
theorem gX11_goes_X11_r : GoodIn wsX11_goes (wsV RX11 138 RX11 yX11_r wsX11_r) := goodIn_app (goodIn_of _ (by decide +kernel)) ggX11_goes_X11_r
set_option maxRecDepth 20000 in
theorem ggX11_goes_X11_onCart : GoodIn wsX11_goes wsX11_onCart := goodIn_r _ [22, 2, 23, 24, 25, 6, 26, 27, 28, 29, 30, 81, 82, 83, 84, 85, 86, 87, 88, 89, 90, 91, 92, 93, 94, 95, 96, 97, 98, 99] (by decide +kernel) (by decide +kernel)
set_option maxRecDepth 20000 in
theorem gX11_goes_X11_onCart : GoodIn wsX11_goes (wsV RX11 65 RX11 yX11_onCart wsX11_onCart) := goodIn_app (goodIn_of _ (by decide +kernel)) ggX11_goes_X11_onCart
set_option maxRecDepth 20000 in
theorem ggX11_goes_X11_refuses : GoodIn wsX11_goes wsX11_refuses := goodIn_r _ [38, 39, 40, 41, 81, 82, 83, 84, 85, 86, 87, 88, 89, 90, 91, 92, 93, 94, 95, 96, 97, 98, 99] (by decide +kernel) (by decide +kernel)
set_option maxRecDepth 20000 in
theorem gX11_goes_X11_refuses : GoodIn wsX11_goes (wsV RX11 92 RX11 yX11_refuses wsX11_refuses) := goodIn_app (goodIn_of _ (by decide +kernel)) ggX11_goes_X11_refuses
set_option maxRecDepth 20000 in
theorem ggX11_goes_X11_isWorn : GoodIn wsX11_goes wsX11_isWorn := goodIn_r _ [45, 46, 47, 48, 6, 49, 1, 81, 82, 83, 84, 85, 86, 87, 88, 89, 90, 91, 92, 93, 94, 95, 96, 97, 98, 99] (by decide +kernel) (by decide +kernel)
set_option maxRecDepth 20000 in
theorem gX11_goes_X11_isWorn : GoodIn wsX11_goes (wsV RX11 145 RX11 yX11_isWorn wsX11_isWorn) := goodIn_app (goodIn_of _ (by decide +kernel)) ggX11_goes_X11_isWorn
set_option maxRecDepth 20000 in
theorem ggX11_goes_X11_tollOf : GoodIn wsX11_goes wsX11_tollOf := goodIn_r _ [53, 54, 19, 20, 21, 6, 22, 2, 23, 24, 25, 26, 27, 28, 29, 30, 31, 32, 33, 34, 81, 82, 83, 84, 85, 86, 87, 88, 89, 90, 91, 92, 93, 94, 95, 96, 97, 98, 99] (by decide +kernel) (by decide +kernel)
set_option maxRecDepth 20000 in
theorem gX11_goes_X11_tollOf : GoodIn wsX11_goes (wsV RX11 148 RX11 yX11_tollOf wsX11_tollOf) := goodIn_app (goodIn_of _ (by decide +kernel)) ggX11_goes_X11_tollOf
set_option maxRecDepth 20000 in
theorem ggX11_goes_X11_wears : GoodIn wsX11_goes wsX11_wears := goodIn_r _ [58, 59, 1, 60, 61, 62, 6, 63, 64, 65, 66, 67, 68, 2, 27, 28, 29, 30, 23, 24, 25, 26, 69, 70, 71, 72, 73, 74, 75, 76, 81, 82, 83, 84, 85, 86, 87, 88, 89, 90, 91, 92, 93, 94, 95, 96, 97, 98, 99] (by decide +kernel) (by decide +kernel)
set_option maxRecDepth 20000 in
theorem gX11_goes_X11_wears : GoodIn wsX11_goes (wsV RX11 152 RX11 yX11_wears wsX11_wears) := goodIn_app (goodIn_of _ (by decide +kernel)) ggX11_goes_X11_wears
set_option maxRecDepth 20000 in
theorem ggX11_goes_X11_creaking : GoodIn wsX11_goes wsX11_creaking := goodIn_r _ [80, 69, 70, 71, 6, 72, 60, 61, 62, 63, 64, 65, 66, 67, 68, 2, 27, 28, 29, 30, 23, 24, 25, 26, 73, 74, 75, 76, 81, 82, 83, 84, 85, 86, 87, 88, 89, 90, 91, 92, 93, 94, 95, 96, 97, 98, 99] (by decide +kernel) (by decide +kernel)
set_option maxRecDepth 20000 in
theorem gX11_goes_X11_creaking : GoodIn wsX11_goes (wsV RX11 156 RX11 yX11_creaking wsX11_creaking) := goodIn_app (goodIn_of _ (by decide +kernel)) ggX11_goes_X11_creaking
theorem dX11_goes_0 : decode cX11_goes 0 = .ok (.aload_n 0, 1) := by decide +kernel
theorem dX11_goes_1 : decode cX11_goes 1 = .ok (.iload_n 1, 1) := by decide +kernel
theorem dX11_goes_2 : decode cX11_goes 2 = .ok (.invokevirtual 116, 3) := by decide +kernel
theorem dX11_goes_5 : decode cX11_goes 5 = .ok (.ifCond .eq 11, 3) := by decide +kernel
theorem dX11_goes_8 : decode cX11_goes 8 = .ok (.aload_n 0, 1) := by decide +kernel
theorem dX11_goes_9 : decode cX11_goes 9 = .ok (.iload_n 2, 1) := by decide +kernel
theorem dX11_goes_10 : decode cX11_goes 10 = .ok (.invokevirtual 142, 3) := by decide +kernel
theorem dX11_goes_13 : decode cX11_goes 13 = .ok (.ifCond .ne 5, 3) := by decide +kernel
theorem dX11_goes_16 : decode cX11_goes 16 = .ok (.iconst (-1), 1) := by decide +kernel
theorem dX11_goes_17 : decode cX11_goes 17 = .ok (.ireturn, 1) := by decide +kernel
theorem dX11_goes_18 : decode cX11_goes 18 = .ok (.aload_n 0, 1) := by decide +kernel
theorem dX11_goes_19 : decode cX11_goes 19 = .ok (.iload_n 1, 1) := by decide +kernel
theorem dX11_goes_20 : decode cX11_goes 20 = .ok (.invokevirtual 122, 3) := by decide +kernel
theorem dX11_goes_23 : decode cX11_goes 23 = .ok (.aload_n 0, 1) := by decide +kernel
theorem dX11_goes_24 : decode cX11_goes 24 = .ok (.iload_n 2, 1) := by decide +kernel
theorem dX11_goes_25 : decode cX11_goes 25 = .ok (.iconst 0, 1) := by decide +kernel
theorem dX11_goes_26 : decode cX11_goes 26 = .ok (.invokevirtual 138, 3) := by decide +kernel
theorem dX11_goes_29 : decode cX11_goes 29 = .ok (.isub, 1) := by decide +kernel
theorem dX11_goes_30 : decode cX11_goes 30 = .ok (.istore_n 3, 1) := by decide +kernel
theorem dX11_goes_31 : decode cX11_goes 31 = .ok (.aload_n 0, 1) := by decide +kernel
theorem dX11_goes_32 : decode cX11_goes 32 = .ok (.aload_n 0, 1) := by decide +kernel
theorem dX11_goes_33 : decode cX11_goes 33 = .ok (.iload_n 1, 1) := by decide +kernel
theorem dX11_goes_34 : decode cX11_goes 34 = .ok (.iconst 1, 1) := by decide +kernel
theorem dX11_goes_35 : decode cX11_goes 35 = .ok (.iconst 0, 1) := by decide +kernel
theorem dX11_goes_36 : decode cX11_goes 36 = .ok (.invokevirtual 65, 3) := by decide +kernel
theorem dX11_goes_39 : decode cX11_goes 39 = .ok (.ifCond .ne 7, 3) := by decide +kernel
theorem dX11_goes_42 : decode cX11_goes 42 = .ok (.iconst 1, 1) := by decide +kernel
theorem dX11_goes_43 : decode cX11_goes 43 = .ok (.goto 4, 3) := by decide +kernel
theorem dX11_goes_46 : decode cX11_goes 46 = .ok (.iconst 0, 1) := by decide +kernel
theorem dX11_goes_47 : decode cX11_goes 47 = .ok (.bipush 8, 2) := by decide +kernel
theorem dX11_goes_49 : decode cX11_goes 49 = .ok (.aload_n 0, 1) := by decide +kernel
theorem dX11_goes_50 : decode cX11_goes 50 = .ok (.iload_n 1, 1) := by decide +kernel
theorem dX11_goes_51 : decode cX11_goes 51 = .ok (.iconst 0, 1) := by decide +kernel
theorem dX11_goes_52 : decode cX11_goes 52 = .ok (.iconst 0, 1) := by decide +kernel
theorem dX11_goes_53 : decode cX11_goes 53 = .ok (.invokevirtual 65, 3) := by decide +kernel
theorem dX11_goes_56 : decode cX11_goes 56 = .ok (.invokevirtual 92, 3) := by decide +kernel
theorem dX11_goes_59 : decode cX11_goes 59 = .ok (.ifCond .ne 54, 3) := by decide +kernel
theorem dX11_goes_62 : decode cX11_goes 62 = .ok (.aload_n 0, 1) := by decide +kernel
theorem dX11_goes_63 : decode cX11_goes 63 = .ok (.iload_n 3, 1) := by decide +kernel
theorem dX11_goes_64 : decode cX11_goes 64 = .ok (.ifCond .le 7, 3) := by decide +kernel
theorem dX11_goes_67 : decode cX11_goes 67 = .ok (.iconst 1, 1) := by decide +kernel
theorem dX11_goes_68 : decode cX11_goes 68 = .ok (.goto 4, 3) := by decide +kernel
theorem dX11_goes_71 : decode cX11_goes 71 = .ok (.iconst 0, 1) := by decide +kernel
theorem dX11_goes_72 : decode cX11_goes 72 = .ok (.bipush 9, 2) := by decide +kernel
theorem dX11_goes_74 : decode cX11_goes 74 = .ok (.iload_n 3, 1) := by decide +kernel
theorem dX11_goes_75 : decode cX11_goes 75 = .ok (.invokevirtual 92, 3) := by decide +kernel
theorem dX11_goes_78 : decode cX11_goes 78 = .ok (.ifCond .ne 35, 3) := by decide +kernel
theorem dX11_goes_81 : decode cX11_goes 81 = .ok (.aload_n 0, 1) := by decide +kernel
theorem dX11_goes_82 : decode cX11_goes 82 = .ok (.aload_n 0, 1) := by decide +kernel
theorem dX11_goes_83 : decode cX11_goes 83 = .ok (.iload_n 1, 1) := by decide +kernel
theorem dX11_goes_84 : decode cX11_goes 84 = .ok (.iconst 0, 1) := by decide +kernel
theorem dX11_goes_85 : decode cX11_goes 85 = .ok (.invokevirtual 145, 3) := by decide +kernel
theorem dX11_goes_88 : decode cX11_goes 88 = .ok (.bipush 10, 2) := by decide +kernel
theorem dX11_goes_90 : decode cX11_goes 90 = .ok (.iconst 0, 1) := by decide +kernel
theorem dX11_goes_91 : decode cX11_goes 91 = .ok (.invokevirtual 92, 3) := by decide +kernel
theorem dX11_goes_94 : decode cX11_goes 94 = .ok (.ifCond .ne 19, 3) := by decide +kernel
theorem dX11_goes_97 : decode cX11_goes 97 = .ok (.aload_n 0, 1) := by decide +kernel
theorem dX11_goes_98 : decode cX11_goes 98 = .ok (.aload_n 0, 1) := by decide +kernel
theorem dX11_goes_99 : decode cX11_goes 99 = .ok (.iload_n 1, 1) := by decide +kernel
theorem dX11_goes_100 : decode cX11_goes 100 = .ok (.iconst 1, 1) := by decide +kernel
theorem dX11_goes_101 : decode cX11_goes 101 = .ok (.invokevirtual 145, 3) := by decide +kernel
theorem dX11_goes_104 : decode cX11_goes 104 = .ok (.bipush 10, 2) := by decide +kernel
theorem dX11_goes_106 : decode cX11_goes 106 = .ok (.iconst 1, 1) := by decide +kernel
theorem dX11_goes_107 : decode cX11_goes 107 = .ok (.invokevirtual 92, 3) := by decide +kernel
theorem dX11_goes_110 : decode cX11_goes 110 = .ok (.ifCond .eq 6, 3) := by decide +kernel
theorem dX11_goes_113 : decode cX11_goes 113 = .ok (.bipush (-3), 2) := by decide +kernel
theorem dX11_goes_115 : decode cX11_goes 115 = .ok (.ireturn, 1) := by decide +kernel
theorem dX11_goes_116 : decode cX11_goes 116 = .ok (.aload_n 0, 1) := by decide +kernel
theorem dX11_goes_117 : decode cX11_goes 117 = .ok (.getfield 13, 3) := by decide +kernel
theorem dX11_goes_120 : decode cX11_goes 120 = .ok (.bipush 8, 2) := by decide +kernel
theorem dX11_goes_122 : decode cX11_goes 122 = .ok (.aload_n 0, 1) := by decide +kernel
theorem dX11_goes_123 : decode cX11_goes 123 = .ok (.getfield 13, 3) := by decide +kernel
theorem dX11_goes_126 : decode cX11_goes 126 = .ok (.bipush 8, 2) := by decide +kernel
theorem dX11_goes_128 : decode cX11_goes 128 = .ok (.faload, 1) := by decide +kernel
theorem dX11_goes_129 : decode cX11_goes 129 = .ok (.aload_n 0, 1) := by decide +kernel
theorem dX11_goes_130 : decode cX11_goes 130 = .ok (.iload_n 1, 1) := by decide +kernel
theorem dX11_goes_131 : decode cX11_goes 131 = .ok (.iload_n 2, 1) := by decide +kernel
theorem dX11_goes_132 : decode cX11_goes 132 = .ok (.invokevirtual 148, 3) := by decide +kernel
theorem dX11_goes_135 : decode cX11_goes 135 = .ok (.fadd, 1) := by decide +kernel
theorem dX11_goes_136 : decode cX11_goes 136 = .ok (.fastore, 1) := by decide +kernel
theorem dX11_goes_137 : decode cX11_goes 137 = .ok (.aload_n 0, 1) := by decide +kernel
theorem dX11_goes_138 : decode cX11_goes 138 = .ok (.iload_n 1, 1) := by decide +kernel
theorem dX11_goes_139 : decode cX11_goes 139 = .ok (.iconst 0, 1) := by decide +kernel
theorem dX11_goes_140 : decode cX11_goes 140 = .ok (.aload_n 0, 1) := by decide +kernel
theorem dX11_goes_141 : decode cX11_goes 141 = .ok (.iload_n 2, 1) := by decide +kernel
theorem dX11_goes_142 : decode cX11_goes 142 = .ok (.iconst 1, 1) := by decide +kernel
theorem dX11_goes_143 : decode cX11_goes 143 = .ok (.invokevirtual 138, 3) := by decide +kernel
theorem dX11_goes_146 : decode cX11_goes 146 = .ok (.invokevirtual 152, 3) := by decide +kernel
theorem dX11_goes_149 : decode cX11_goes 149 = .ok (.aload_n 0, 1) := by decide +kernel
theorem dX11_goes_150 : decode cX11_goes 150 = .ok (.iload_n 1, 1) := by decide +kernel
theorem dX11_goes_151 : decode cX11_goes 151 = .ok (.iconst 1, 1) := by decide +kernel
theorem dX11_goes_152 : decode cX11_goes 152 = .ok (.aload_n 0, 1) := by decide +kernel
theorem dX11_goes_153 : decode cX11_goes 153 = .ok (.iload_n 2, 1) := by decide +kernel
theorem dX11_goes_154 : decode cX11_goes 154 = .ok (.iconst 1, 1) := by decide +kernel
theorem dX11_goes_155 : decode cX11_goes 155 = .ok (.invokevirtual 138, 3) := by decide +kernel
theorem dX11_goes_158 : decode cX11_goes 158 = .ok (.invokevirtual 152, 3) := by decide +kernel
theorem dX11_goes_161 : decode cX11_goes 161 = .ok (.aload_n 0, 1) := by decide +kernel
theorem dX11_goes_162 : decode cX11_goes 162 = .ok (.getfield 9, 3) := by decide +kernel
theorem dX11_goes_165 : decode cX11_goes 165 = .ok (.bipush 53, 2) := by decide +kernel
theorem dX11_goes_167 : decode cX11_goes 167 = .ok (.iconst 2, 1) := by decide +kernel
theorem dX11_goes_168 : decode cX11_goes 168 = .ok (.iload_n 1, 1) := by decide +kernel
theorem dX11_goes_169 : decode cX11_goes 169 = .ok (.imul, 1) := by decide +kernel
theorem dX11_goes_170 : decode cX11_goes 170 = .ok (.iadd, 1) := by decide +kernel
theorem dX11_goes_171 : decode cX11_goes 171 = .ok (.iconst 1, 1) := by decide +kernel
theorem dX11_goes_172 : decode cX11_goes 172 = .ok (.iadd, 1) := by decide +kernel
theorem dX11_goes_173 : decode cX11_goes 173 = .ok (.dup2, 1) := by decide +kernel
theorem dX11_goes_174 : decode cX11_goes 174 = .ok (.iaload, 1) := by decide +kernel
theorem dX11_goes_175 : decode cX11_goes 175 = .ok (.iconst 1, 1) := by decide +kernel
theorem dX11_goes_176 : decode cX11_goes 176 = .ok (.iadd, 1) := by decide +kernel
theorem dX11_goes_177 : decode cX11_goes 177 = .ok (.iastore, 1) := by decide +kernel
theorem dX11_goes_178 : decode cX11_goes 178 = .ok (.aload_n 0, 1) := by decide +kernel
theorem dX11_goes_179 : decode cX11_goes 179 = .ok (.getfield 9, 3) := by decide +kernel
theorem dX11_goes_182 : decode cX11_goes 182 = .ok (.bipush 61, 2) := by decide +kernel
theorem dX11_goes_184 : decode cX11_goes 184 = .ok (.iconst 4, 1) := by decide +kernel
theorem dX11_goes_185 : decode cX11_goes 185 = .ok (.iload_n 2, 1) := by decide +kernel
theorem dX11_goes_186 : decode cX11_goes 186 = .ok (.imul, 1) := by decide +kernel
theorem dX11_goes_187 : decode cX11_goes 187 = .ok (.iadd, 1) := by decide +kernel
theorem dX11_goes_188 : decode cX11_goes 188 = .ok (.iconst 3, 1) := by decide +kernel
theorem dX11_goes_189 : decode cX11_goes 189 = .ok (.iadd, 1) := by decide +kernel
theorem dX11_goes_190 : decode cX11_goes 190 = .ok (.dup2, 1) := by decide +kernel
theorem dX11_goes_191 : decode cX11_goes 191 = .ok (.iaload, 1) := by decide +kernel
theorem dX11_goes_192 : decode cX11_goes 192 = .ok (.iconst 1, 1) := by decide +kernel
theorem dX11_goes_193 : decode cX11_goes 193 = .ok (.iadd, 1) := by decide +kernel
theorem dX11_goes_194 : decode cX11_goes 194 = .ok (.iastore, 1) := by decide +kernel
theorem dX11_goes_195 : decode cX11_goes 195 = .ok (.aload_n 0, 1) := by decide +kernel
theorem dX11_goes_196 : decode cX11_goes 196 = .ok (.getfield 9, 3) := by decide +kernel
theorem dX11_goes_199 : decode cX11_goes 199 = .ok (.iconst 3, 1) := by decide +kernel
theorem dX11_goes_200 : decode cX11_goes 200 = .ok (.dup2, 1) := by decide +kernel
theorem dX11_goes_201 : decode cX11_goes 201 = .ok (.iaload, 1) := by decide +kernel
theorem dX11_goes_202 : decode cX11_goes 202 = .ok (.iconst 1, 1) := by decide +kernel
theorem dX11_goes_203 : decode cX11_goes 203 = .ok (.iadd, 1) := by decide +kernel
theorem dX11_goes_204 : decode cX11_goes 204 = .ok (.iastore, 1) := by decide +kernel
theorem dX11_goes_205 : decode cX11_goes 205 = .ok (.aload_n 0, 1) := by decide +kernel
theorem dX11_goes_206 : decode cX11_goes 206 = .ok (.getfield 9, 3) := by decide +kernel
theorem dX11_goes_209 : decode cX11_goes 209 = .ok (.iconst 4, 1) := by decide +kernel
theorem dX11_goes_210 : decode cX11_goes 210 = .ok (.dup2, 1) := by decide +kernel
theorem dX11_goes_211 : decode cX11_goes 211 = .ok (.iaload, 1) := by decide +kernel
theorem dX11_goes_212 : decode cX11_goes 212 = .ok (.aload_n 0, 1) := by decide +kernel
theorem dX11_goes_213 : decode cX11_goes 213 = .ok (.iload_n 2, 1) := by decide +kernel
theorem dX11_goes_214 : decode cX11_goes 214 = .ok (.iconst 1, 1) := by decide +kernel
theorem dX11_goes_215 : decode cX11_goes 215 = .ok (.invokevirtual 138, 3) := by decide +kernel
theorem dX11_goes_218 : decode cX11_goes 218 = .ok (.iadd, 1) := by decide +kernel
theorem dX11_goes_219 : decode cX11_goes 219 = .ok (.iastore, 1) := by decide +kernel
theorem dX11_goes_220 : decode cX11_goes 220 = .ok (.aload_n 0, 1) := by decide +kernel
theorem dX11_goes_221 : decode cX11_goes 221 = .ok (.iload_n 1, 1) := by decide +kernel
theorem dX11_goes_222 : decode cX11_goes 222 = .ok (.invokevirtual 156, 3) := by decide +kernel
theorem dX11_goes_225 : decode cX11_goes 225 = .ok (.ireturn, 1) := by decide +kernel
set_option maxRecDepth 20000 in
theorem ggX11_trip_X11_begins : GoodIn wsX11_trip wsX11_begins := goodIn_r _ [5, 6, 7, 8, 4, 9, 10, 11, 98, 99, 100, 101, 102, 103, 104, 105, 106, 107, 108, 109, 110, 111, 112, 113, 114, 115, 116] (by decide +kernel) (by decide +kernel)
set_option maxRecDepth 20000 in
theorem gX11_trip_X11_begins : GoodIn wsX11_trip (wsV RX11 96 RX11 yX11_begins wsX11_begins) := goodIn_app (goodIn_of _ (by decide +kernel)) ggX11_trip_X11_begins
set_option maxRecDepth 20000 in
theorem ggX11_trip_X11_goes : GoodIn wsX11_trip wsX11_goes := goodIn_r _ [15, 11, 10, 16, 17, 18, 4, 19, 20, 21, 22, 23, 24, 25, 26, 27, 28, 29, 30, 31, 32, 33, 34, 35, 36, 37, 38, 39, 40, 41, 42, 43, 44, 45, 46, 47, 48, 49, 50, 51, 52, 53, 54, 55, 56, 57, 58, 59, 60, 61, 62, 63, 64, 65, 66, 67, 68, 69, 70, 71, 72, 73, 74, 75, 76, 77, 78, 79, 80, 81, 82, 83, 84, 85, 86, 87, 88, 89, 90, 91, 92, 98, 99, 100, 101, 102, 103, 104, 105, 106, 107, 108, 109, 110, 111, 112, 113, 114, 115, 116] (by decide +kernel) (by decide +kernel)
set_option maxRecDepth 20000 in
theorem gX11_trip_X11_goes : GoodIn wsX11_trip (wsV RX11 159 RX11 yX11_goes wsX11_goes) := goodIn_app (goodIn_of _ (by decide +kernel)) ggX11_trip_X11_goes
set_option maxRecDepth 20000 in
theorem ggX11_trip_X11_ends : GoodIn wsX11_trip wsX11_ends := goodIn_r _ [96, 97, 6, 7, 8, 4, 9, 10, 11, 98, 99, 100, 101, 102, 103, 104, 105, 106, 107, 108, 109, 110, 111, 112, 113, 114, 115, 116] (by decide +kernel) (by decide +kernel)
set_option maxRecDepth 20000 in
theorem gX11_trip_X11_ends : GoodIn wsX11_trip (wsV RX11 102 RX11 yX11_ends wsX11_ends) := goodIn_app (goodIn_of _ (by decide +kernel)) ggX11_trip_X11_ends
theorem dX11_trip_0 : decode cX11_trip 0 = .ok (.aload_n 0, 1) := by decide +kernel
theorem dX11_trip_1 : decode cX11_trip 1 = .ok (.invokevirtual 96, 3) := by decide +kernel
theorem dX11_trip_4 : decode cX11_trip 4 = .ok (.aload_n 0, 1) := by decide +kernel
theorem dX11_trip_5 : decode cX11_trip 5 = .ok (.aload_n 0, 1) := by decide +kernel
theorem dX11_trip_6 : decode cX11_trip 6 = .ok (.iload_n 1, 1) := by decide +kernel
theorem dX11_trip_7 : decode cX11_trip 7 = .ok (.iload_n 2, 1) := by decide +kernel
theorem dX11_trip_8 : decode cX11_trip 8 = .ok (.invokevirtual 159, 3) := by decide +kernel
theorem dX11_trip_11 : decode cX11_trip 11 = .ok (.invokevirtual 102, 3) := by decide +kernel
theorem dX11_trip_14 : decode cX11_trip 14 = .ok (.ireturn, 1) := by decide +kernel
set_option maxRecDepth 20000 in
theorem ggX11_greases_X11_isCart : GoodIn wsX11_greases wsX11_isCart := goodIn_r _ [6, 7, 8, 9, 5, 10, 26, 27, 28, 29, 30, 31, 32, 33, 34, 35, 36, 37, 38, 39, 40, 41, 42, 43, 44] (by decide +kernel) (by decide +kernel)
set_option maxRecDepth 20000 in
theorem gX11_greases_X11_isCart : GoodIn wsX11_greases (wsV RX11 116 RX11 yX11_isCart wsX11_isCart) := goodIn_app (goodIn_of _ (by decide +kernel)) ggX11_greases_X11_isCart
set_option maxRecDepth 20000 in
theorem ggX11_greases_X11_wearOf : GoodIn wsX11_greases wsX11_wearOf := goodIn_r _ [14, 1, 26, 27, 28, 29, 30, 31, 32, 33, 34, 35, 36, 37, 38, 39, 40, 41, 42, 43, 44] (by decide +kernel) (by decide +kernel)
set_option maxRecDepth 20000 in
theorem gX11_greases_X11_wearOf : GoodIn wsX11_greases (wsV RX11 86 RX11 yX11_wearOf wsX11_wearOf) := goodIn_app (goodIn_of _ (by decide +kernel)) ggX11_greases_X11_wearOf
set_option maxRecDepth 20000 in
theorem ggX11_greases_X11_refuses : GoodIn wsX11_greases wsX11_refuses := goodIn_r _ [18, 19, 20, 21, 26, 27, 28, 29, 30, 31, 32, 33, 34, 35, 36, 37, 38, 39, 40, 41, 42, 43, 44] (by decide +kernel) (by decide +kernel)
set_option maxRecDepth 20000 in
theorem gX11_greases_X11_refuses : GoodIn wsX11_greases (wsV RX11 92 RX11 yX11_refuses wsX11_refuses) := goodIn_app (goodIn_of _ (by decide +kernel)) ggX11_greases_X11_refuses
set_option maxRecDepth 20000 in
theorem ggX11_greases_X11_isWorn : GoodIn wsX11_greases wsX11_isWorn := goodIn_r _ [25, 11, 12, 13, 5, 14, 1, 26, 27, 28, 29, 30, 31, 32, 33, 34, 35, 36, 37, 38, 39, 40, 41, 42, 43, 44] (by decide +kernel) (by decide +kernel)
set_option maxRecDepth 20000 in
theorem gX11_greases_X11_isWorn : GoodIn wsX11_greases (wsV RX11 145 RX11 yX11_isWorn wsX11_isWorn) := goodIn_app (goodIn_of _ (by decide +kernel)) ggX11_greases_X11_isWorn
theorem dX11_greases_0 : decode cX11_greases 0 = .ok (.aload_n 0, 1) := by decide +kernel
theorem dX11_greases_1 : decode cX11_greases 1 = .ok (.iload_n 1, 1) := by decide +kernel
theorem dX11_greases_2 : decode cX11_greases 2 = .ok (.invokevirtual 116, 3) := by decide +kernel
theorem dX11_greases_5 : decode cX11_greases 5 = .ok (.ifCond .ne 5, 3) := by decide +kernel
theorem dX11_greases_8 : decode cX11_greases 8 = .ok (.iconst (-1), 1) := by decide +kernel
theorem dX11_greases_9 : decode cX11_greases 9 = .ok (.ireturn, 1) := by decide +kernel
theorem dX11_greases_10 : decode cX11_greases 10 = .ok (.aload_n 0, 1) := by decide +kernel
theorem dX11_greases_11 : decode cX11_greases 11 = .ok (.aload_n 0, 1) := by decide +kernel
theorem dX11_greases_12 : decode cX11_greases 12 = .ok (.iload_n 1, 1) := by decide +kernel
theorem dX11_greases_13 : decode cX11_greases 13 = .ok (.iconst 0, 1) := by decide +kernel
theorem dX11_greases_14 : decode cX11_greases 14 = .ok (.invokevirtual 86, 3) := by decide +kernel
theorem dX11_greases_17 : decode cX11_greases 17 = .ok (.fconst 0, 1) := by decide +kernel
theorem dX11_greases_18 : decode cX11_greases 18 = .ok (.fcmp .l, 1) := by decide +kernel
theorem dX11_greases_19 : decode cX11_greases 19 = .ok (.ifCond .ne 18, 3) := by decide +kernel
theorem dX11_greases_22 : decode cX11_greases 22 = .ok (.aload_n 0, 1) := by decide +kernel
theorem dX11_greases_23 : decode cX11_greases 23 = .ok (.iload_n 1, 1) := by decide +kernel
theorem dX11_greases_24 : decode cX11_greases 24 = .ok (.iconst 1, 1) := by decide +kernel
theorem dX11_greases_25 : decode cX11_greases 25 = .ok (.invokevirtual 86, 3) := by decide +kernel
theorem dX11_greases_28 : decode cX11_greases 28 = .ok (.fconst 0, 1) := by decide +kernel
theorem dX11_greases_29 : decode cX11_greases 29 = .ok (.fcmp .l, 1) := by decide +kernel
theorem dX11_greases_30 : decode cX11_greases 30 = .ok (.ifCond .ne 7, 3) := by decide +kernel
theorem dX11_greases_33 : decode cX11_greases 33 = .ok (.iconst 1, 1) := by decide +kernel
theorem dX11_greases_34 : decode cX11_greases 34 = .ok (.goto 4, 3) := by decide +kernel
theorem dX11_greases_37 : decode cX11_greases 37 = .ok (.iconst 0, 1) := by decide +kernel
theorem dX11_greases_38 : decode cX11_greases 38 = .ok (.bipush 11, 2) := by decide +kernel
theorem dX11_greases_40 : decode cX11_greases 40 = .ok (.iload_n 1, 1) := by decide +kernel
theorem dX11_greases_41 : decode cX11_greases 41 = .ok (.invokevirtual 92, 3) := by decide +kernel
theorem dX11_greases_44 : decode cX11_greases 44 = .ok (.ifCond .eq 6, 3) := by decide +kernel
theorem dX11_greases_47 : decode cX11_greases 47 = .ok (.bipush (-3), 2) := by decide +kernel
theorem dX11_greases_49 : decode cX11_greases 49 = .ok (.ireturn, 1) := by decide +kernel
theorem dX11_greases_50 : decode cX11_greases 50 = .ok (.aload_n 0, 1) := by decide +kernel
theorem dX11_greases_51 : decode cX11_greases 51 = .ok (.iload_n 1, 1) := by decide +kernel
theorem dX11_greases_52 : decode cX11_greases 52 = .ok (.iconst 0, 1) := by decide +kernel
theorem dX11_greases_53 : decode cX11_greases 53 = .ok (.invokevirtual 145, 3) := by decide +kernel
theorem dX11_greases_56 : decode cX11_greases 56 = .ok (.ifCond .eq 7, 3) := by decide +kernel
theorem dX11_greases_59 : decode cX11_greases 59 = .ok (.iconst 1, 1) := by decide +kernel
theorem dX11_greases_60 : decode cX11_greases 60 = .ok (.goto 4, 3) := by decide +kernel
theorem dX11_greases_63 : decode cX11_greases 63 = .ok (.iconst 0, 1) := by decide +kernel
theorem dX11_greases_64 : decode cX11_greases 64 = .ok (.aload_n 0, 1) := by decide +kernel
theorem dX11_greases_65 : decode cX11_greases 65 = .ok (.iload_n 1, 1) := by decide +kernel
theorem dX11_greases_66 : decode cX11_greases 66 = .ok (.iconst 1, 1) := by decide +kernel
theorem dX11_greases_67 : decode cX11_greases 67 = .ok (.invokevirtual 145, 3) := by decide +kernel
theorem dX11_greases_70 : decode cX11_greases 70 = .ok (.ifCond .eq 7, 3) := by decide +kernel
theorem dX11_greases_73 : decode cX11_greases 73 = .ok (.iconst 1, 1) := by decide +kernel
theorem dX11_greases_74 : decode cX11_greases 74 = .ok (.goto 4, 3) := by decide +kernel
theorem dX11_greases_77 : decode cX11_greases 77 = .ok (.iconst 0, 1) := by decide +kernel
theorem dX11_greases_78 : decode cX11_greases 78 = .ok (.iadd, 1) := by decide +kernel
theorem dX11_greases_79 : decode cX11_greases 79 = .ok (.istore_n 2, 1) := by decide +kernel
theorem dX11_greases_80 : decode cX11_greases 80 = .ok (.aload_n 0, 1) := by decide +kernel
theorem dX11_greases_81 : decode cX11_greases 81 = .ok (.getfield 13, 3) := by decide +kernel
theorem dX11_greases_84 : decode cX11_greases 84 = .ok (.iconst 2, 1) := by decide +kernel
theorem dX11_greases_85 : decode cX11_greases 85 = .ok (.iload_n 1, 1) := by decide +kernel
theorem dX11_greases_86 : decode cX11_greases 86 = .ok (.imul, 1) := by decide +kernel
theorem dX11_greases_87 : decode cX11_greases 87 = .ok (.fconst 0, 1) := by decide +kernel
theorem dX11_greases_88 : decode cX11_greases 88 = .ok (.fastore, 1) := by decide +kernel
theorem dX11_greases_89 : decode cX11_greases 89 = .ok (.aload_n 0, 1) := by decide +kernel
theorem dX11_greases_90 : decode cX11_greases 90 = .ok (.getfield 13, 3) := by decide +kernel
theorem dX11_greases_93 : decode cX11_greases 93 = .ok (.iconst 2, 1) := by decide +kernel
theorem dX11_greases_94 : decode cX11_greases 94 = .ok (.iload_n 1, 1) := by decide +kernel
theorem dX11_greases_95 : decode cX11_greases 95 = .ok (.imul, 1) := by decide +kernel
theorem dX11_greases_96 : decode cX11_greases 96 = .ok (.iconst 1, 1) := by decide +kernel
theorem dX11_greases_97 : decode cX11_greases 97 = .ok (.iadd, 1) := by decide +kernel
theorem dX11_greases_98 : decode cX11_greases 98 = .ok (.fconst 0, 1) := by decide +kernel
theorem dX11_greases_99 : decode cX11_greases 99 = .ok (.fastore, 1) := by decide +kernel
theorem dX11_greases_100 : decode cX11_greases 100 = .ok (.iload_n 2, 1) := by decide +kernel
theorem dX11_greases_101 : decode cX11_greases 101 = .ok (.ireturn, 1) := by decide +kernel
set_option maxRecDepth 20000 in
theorem ggX11_grease_X11_begins : GoodIn wsX11_grease wsX11_begins := goodIn_r _ [5, 6, 7, 8, 4, 9, 10, 11, 43, 44, 45, 46, 47, 48, 49, 50, 51, 52, 53, 54, 55, 56, 57, 58, 59, 60, 61] (by decide +kernel) (by decide +kernel)
set_option maxRecDepth 20000 in
theorem gX11_grease_X11_begins : GoodIn wsX11_grease (wsV RX11 96 RX11 yX11_begins wsX11_begins) := goodIn_app (goodIn_of _ (by decide +kernel)) ggX11_grease_X11_begins
set_option maxRecDepth 20000 in
theorem ggX11_grease_X11_greases : GoodIn wsX11_grease wsX11_greases := goodIn_r _ [15, 11, 16, 17, 18, 4, 19, 10, 20, 21, 22, 23, 24, 25, 26, 27, 28, 29, 30, 31, 32, 33, 34, 35, 36, 37, 43, 44, 45, 46, 47, 48, 49, 50, 51, 52, 53, 54, 55, 56, 57, 58, 59, 60, 61] (by decide +kernel) (by decide +kernel)
set_option maxRecDepth 20000 in
theorem gX11_grease_X11_greases : GoodIn wsX11_grease (wsV RX11 162 RX11 yX11_greases wsX11_greases) := goodIn_app (goodIn_of _ (by decide +kernel)) ggX11_grease_X11_greases
set_option maxRecDepth 20000 in
theorem ggX11_grease_X11_ends : GoodIn wsX11_grease wsX11_ends := goodIn_r _ [41, 42, 6, 7, 8, 4, 9, 10, 11, 43, 44, 45, 46, 47, 48, 49, 50, 51, 52, 53, 54, 55, 56, 57, 58, 59, 60, 61] (by decide +kernel) (by decide +kernel)
set_option maxRecDepth 20000 in
theorem gX11_grease_X11_ends : GoodIn wsX11_grease (wsV RX11 102 RX11 yX11_ends wsX11_ends) := goodIn_app (goodIn_of _ (by decide +kernel)) ggX11_grease_X11_ends
theorem dX11_grease_0 : decode cX11_grease 0 = .ok (.aload_n 0, 1) := by decide +kernel
theorem dX11_grease_1 : decode cX11_grease 1 = .ok (.invokevirtual 96, 3) := by decide +kernel
theorem dX11_grease_4 : decode cX11_grease 4 = .ok (.aload_n 0, 1) := by decide +kernel
theorem dX11_grease_5 : decode cX11_grease 5 = .ok (.aload_n 0, 1) := by decide +kernel
theorem dX11_grease_6 : decode cX11_grease 6 = .ok (.iload_n 1, 1) := by decide +kernel
theorem dX11_grease_7 : decode cX11_grease 7 = .ok (.invokevirtual 162, 3) := by decide +kernel
theorem dX11_grease_10 : decode cX11_grease 10 = .ok (.invokevirtual 102, 3) := by decide +kernel
theorem dX11_grease_13 : decode cX11_grease 13 = .ok (.ireturn, 1) := by decide +kernel
theorem dX11_clear_0 : decode cX11_clear 0 = .ok (.aload_n 0, 1) := by decide +kernel
theorem dX11_clear_1 : decode cX11_clear 1 = .ok (.getfield 9, 3) := by decide +kernel
theorem dX11_clear_4 : decode cX11_clear 4 = .ok (.iconst 0, 1) := by decide +kernel
theorem dX11_clear_5 : decode cX11_clear 5 = .ok (.iaload, 1) := by decide +kernel
theorem dX11_clear_6 : decode cX11_clear 6 = .ok (.istore_n 1, 1) := by decide +kernel
theorem dX11_clear_7 : decode cX11_clear 7 = .ok (.iconst 0, 1) := by decide +kernel
theorem dX11_clear_8 : decode cX11_clear 8 = .ok (.istore_n 2, 1) := by decide +kernel
theorem dX11_clear_9 : decode cX11_clear 9 = .ok (.iload_n 2, 1) := by decide +kernel
theorem dX11_clear_10 : decode cX11_clear 10 = .ok (.bipush 81, 2) := by decide +kernel
theorem dX11_clear_12 : decode cX11_clear 12 = .ok (.if_icmp .ge 16, 3) := by decide +kernel
theorem dX11_clear_15 : decode cX11_clear 15 = .ok (.aload_n 0, 1) := by decide +kernel
theorem dX11_clear_16 : decode cX11_clear 16 = .ok (.getfield 9, 3) := by decide +kernel
theorem dX11_clear_19 : decode cX11_clear 19 = .ok (.iload_n 2, 1) := by decide +kernel
theorem dX11_clear_20 : decode cX11_clear 20 = .ok (.iconst 0, 1) := by decide +kernel
theorem dX11_clear_21 : decode cX11_clear 21 = .ok (.iastore, 1) := by decide +kernel
theorem dX11_clear_22 : decode cX11_clear 22 = .ok (.iinc 2 1, 3) := by decide +kernel
theorem dX11_clear_25 : decode cX11_clear 25 = .ok (.goto (-16), 3) := by decide +kernel
theorem dX11_clear_28 : decode cX11_clear 28 = .ok (.iconst 0, 1) := by decide +kernel
theorem dX11_clear_29 : decode cX11_clear 29 = .ok (.istore_n 2, 1) := by decide +kernel
theorem dX11_clear_30 : decode cX11_clear 30 = .ok (.iload_n 2, 1) := by decide +kernel
theorem dX11_clear_31 : decode cX11_clear 31 = .ok (.bipush 9, 2) := by decide +kernel
theorem dX11_clear_33 : decode cX11_clear 33 = .ok (.if_icmp .ge 16, 3) := by decide +kernel
theorem dX11_clear_36 : decode cX11_clear 36 = .ok (.aload_n 0, 1) := by decide +kernel
theorem dX11_clear_37 : decode cX11_clear 37 = .ok (.getfield 13, 3) := by decide +kernel
theorem dX11_clear_40 : decode cX11_clear 40 = .ok (.iload_n 2, 1) := by decide +kernel
theorem dX11_clear_41 : decode cX11_clear 41 = .ok (.fconst 0, 1) := by decide +kernel
theorem dX11_clear_42 : decode cX11_clear 42 = .ok (.fastore, 1) := by decide +kernel
theorem dX11_clear_43 : decode cX11_clear 43 = .ok (.iinc 2 1, 3) := by decide +kernel
theorem dX11_clear_46 : decode cX11_clear 46 = .ok (.goto (-16), 3) := by decide +kernel
theorem dX11_clear_49 : decode cX11_clear 49 = .ok (.aload_n 0, 1) := by decide +kernel
theorem dX11_clear_50 : decode cX11_clear 50 = .ok (.iconst 0, 1) := by decide +kernel
theorem dX11_clear_51 : decode cX11_clear 51 = .ok (.putfield 38, 3) := by decide +kernel
theorem dX11_clear_54 : decode cX11_clear 54 = .ok (.iload_n 1, 1) := by decide +kernel
theorem dX11_clear_55 : decode cX11_clear 55 = .ok (.ireturn, 1) := by decide +kernel
set_option maxRecDepth 20000 in
theorem ggX11_thingOf_X11_isThing : GoodIn wsX11_thingOf wsX11_isThing := goodIn_r _ [5, 6, 7, 8, 4, 9, 14, 15, 16, 17, 18, 19, 20, 21, 22, 23, 24, 25, 26, 27, 28, 29, 30, 31, 32] (by decide +kernel) (by decide +kernel)
set_option maxRecDepth 20000 in
theorem gX11_thingOf_X11_isThing : GoodIn wsX11_thingOf (wsV RX11 112 RX11 yX11_isThing wsX11_isThing) := goodIn_app (goodIn_of _ (by decide +kernel)) ggX11_thingOf_X11_isThing
set_option maxRecDepth 20000 in
theorem ggX11_thingOf_X11_t : GoodIn wsX11_thingOf wsX11_t := goodIn_r _ [13, 6, 14, 15, 16, 17, 18, 19, 20, 21, 22, 23, 24, 25, 26, 27, 28, 29, 30, 31, 32] (by decide +kernel) (by decide +kernel)
set_option maxRecDepth 20000 in
theorem gX11_thingOf_X11_t : GoodIn wsX11_thingOf (wsV RX11 57 RX11 yX11_t wsX11_t) := goodIn_app (goodIn_of _ (by decide +kernel)) ggX11_thingOf_X11_t
theorem dX11_thingOf_0 : decode cX11_thingOf 0 = .ok (.aload_n 0, 1) := by decide +kernel
theorem dX11_thingOf_1 : decode cX11_thingOf 1 = .ok (.iload_n 1, 1) := by decide +kernel
theorem dX11_thingOf_2 : decode cX11_thingOf 2 = .ok (.invokevirtual 112, 3) := by decide +kernel
theorem dX11_thingOf_5 : decode cX11_thingOf 5 = .ok (.ifCond .ne 5, 3) := by decide +kernel
theorem dX11_thingOf_8 : decode cX11_thingOf 8 = .ok (.iconst (-1), 1) := by decide +kernel
theorem dX11_thingOf_9 : decode cX11_thingOf 9 = .ok (.ireturn, 1) := by decide +kernel
theorem dX11_thingOf_10 : decode cX11_thingOf 10 = .ok (.aload_n 0, 1) := by decide +kernel
theorem dX11_thingOf_11 : decode cX11_thingOf 11 = .ok (.iload_n 1, 1) := by decide +kernel
theorem dX11_thingOf_12 : decode cX11_thingOf 12 = .ok (.iconst 2, 1) := by decide +kernel
theorem dX11_thingOf_13 : decode cX11_thingOf 13 = .ok (.invokevirtual 57, 3) := by decide +kernel
theorem dX11_thingOf_16 : decode cX11_thingOf 16 = .ok (.ifCond .le 7, 3) := by decide +kernel
theorem dX11_thingOf_19 : decode cX11_thingOf 19 = .ok (.iconst 1, 1) := by decide +kernel
theorem dX11_thingOf_20 : decode cX11_thingOf 20 = .ok (.goto 4, 3) := by decide +kernel
theorem dX11_thingOf_23 : decode cX11_thingOf 23 = .ok (.iconst 0, 1) := by decide +kernel
theorem dX11_thingOf_24 : decode cX11_thingOf 24 = .ok (.istore_n 3, 1) := by decide +kernel
theorem dX11_thingOf_25 : decode cX11_thingOf 25 = .ok (.iload_n 2, 1) := by decide +kernel
theorem dX11_thingOf_26 : decode cX11_thingOf 26 = .ok (.tableswitch 71 0 3 #[30, 30, 37, 55], 30) := by decide +kernel
theorem dX11_thingOf_56 : decode cX11_thingOf 56 = .ok (.aload_n 0, 1) := by decide +kernel
theorem dX11_thingOf_57 : decode cX11_thingOf 57 = .ok (.iload_n 1, 1) := by decide +kernel
theorem dX11_thingOf_58 : decode cX11_thingOf 58 = .ok (.iload_n 2, 1) := by decide +kernel
theorem dX11_thingOf_59 : decode cX11_thingOf 59 = .ok (.invokevirtual 57, 3) := by decide +kernel
theorem dX11_thingOf_62 : decode cX11_thingOf 62 = .ok (.ireturn, 1) := by decide +kernel
theorem dX11_thingOf_63 : decode cX11_thingOf 63 = .ok (.iload_n 3, 1) := by decide +kernel
theorem dX11_thingOf_64 : decode cX11_thingOf 64 = .ok (.ifCond .eq 14, 3) := by decide +kernel
theorem dX11_thingOf_67 : decode cX11_thingOf 67 = .ok (.aload_n 0, 1) := by decide +kernel
theorem dX11_thingOf_68 : decode cX11_thingOf 68 = .ok (.iload_n 1, 1) := by decide +kernel
theorem dX11_thingOf_69 : decode cX11_thingOf 69 = .ok (.iconst 2, 1) := by decide +kernel
theorem dX11_thingOf_70 : decode cX11_thingOf 70 = .ok (.invokevirtual 57, 3) := by decide +kernel
theorem dX11_thingOf_73 : decode cX11_thingOf 73 = .ok (.iconst 1, 1) := by decide +kernel
theorem dX11_thingOf_74 : decode cX11_thingOf 74 = .ok (.isub, 1) := by decide +kernel
theorem dX11_thingOf_75 : decode cX11_thingOf 75 = .ok (.goto 5, 3) := by decide +kernel
theorem dX11_thingOf_78 : decode cX11_thingOf 78 = .ok (.bipush (-4), 2) := by decide +kernel
theorem dX11_thingOf_80 : decode cX11_thingOf 80 = .ok (.ireturn, 1) := by decide +kernel
theorem dX11_thingOf_81 : decode cX11_thingOf 81 = .ok (.iload_n 3, 1) := by decide +kernel
theorem dX11_thingOf_82 : decode cX11_thingOf 82 = .ok (.ifCond .eq 12, 3) := by decide +kernel
theorem dX11_thingOf_85 : decode cX11_thingOf 85 = .ok (.aload_n 0, 1) := by decide +kernel
theorem dX11_thingOf_86 : decode cX11_thingOf 86 = .ok (.iload_n 1, 1) := by decide +kernel
theorem dX11_thingOf_87 : decode cX11_thingOf 87 = .ok (.iconst 3, 1) := by decide +kernel
theorem dX11_thingOf_88 : decode cX11_thingOf 88 = .ok (.invokevirtual 57, 3) := by decide +kernel
theorem dX11_thingOf_91 : decode cX11_thingOf 91 = .ok (.goto 5, 3) := by decide +kernel
theorem dX11_thingOf_94 : decode cX11_thingOf 94 = .ok (.bipush (-4), 2) := by decide +kernel
theorem dX11_thingOf_96 : decode cX11_thingOf 96 = .ok (.ireturn, 1) := by decide +kernel
theorem dX11_thingOf_97 : decode cX11_thingOf 97 = .ok (.bipush (-2), 2) := by decide +kernel
theorem dX11_thingOf_99 : decode cX11_thingOf 99 = .ok (.ireturn, 1) := by decide +kernel
set_option maxRecDepth 20000 in
theorem ggX11_cartOf_X11_isCart : GoodIn wsX11_cartOf wsX11_isCart := goodIn_r _ [6, 1, 7, 8, 5, 9, 58, 59, 60, 61, 62, 63, 64, 65, 66, 67, 68, 69, 70, 71, 72, 73, 74, 75, 76] (by decide +kernel) (by decide +kernel)
set_option maxRecDepth 20000 in
theorem gX11_cartOf_X11_isCart : GoodIn wsX11_cartOf (wsV RX11 116 RX11 yX11_isCart wsX11_isCart) := goodIn_app (goodIn_of _ (by decide +kernel)) ggX11_cartOf_X11_isCart
set_option maxRecDepth 20000 in
theorem ggX11_cartOf_X11_strength : GoodIn wsX11_cartOf wsX11_strength := goodIn_r _ [13, 1, 58, 59, 60, 61, 62, 63, 64, 65, 66, 67, 68, 69, 70, 71, 72, 73, 74, 75, 76] (by decide +kernel) (by decide +kernel)
set_option maxRecDepth 20000 in
theorem gX11_cartOf_X11_strength : GoodIn wsX11_cartOf (wsV RX11 78 RX11 yX11_strength wsX11_strength) := goodIn_app (goodIn_of _ (by decide +kernel)) ggX11_cartOf_X11_strength
set_option maxRecDepth 20000 in
theorem ggX11_cartOf_X11_onCart : GoodIn wsX11_cartOf wsX11_onCart := goodIn_r _ [17, 1, 18, 19, 20, 5, 21, 22, 23, 24, 25, 58, 59, 60, 61, 62, 63, 64, 65, 66, 67, 68, 69, 70, 71, 72, 73, 74, 75, 76] (by decide +kernel) (by decide +kernel)
set_option maxRecDepth 20000 in
theorem gX11_cartOf_X11_onCart : GoodIn wsX11_cartOf (wsV RX11 65 RX11 yX11_onCart wsX11_onCart) := goodIn_app (goodIn_of _ (by decide +kernel)) ggX11_cartOf_X11_onCart
set_option maxRecDepth 20000 in
theorem ggX11_cartOf_X11_thingAt : GoodIn wsX11_cartOf wsX11_thingAt := goodIn_r _ [29, 1, 18, 19, 20, 5, 21, 22, 23, 24, 25, 58, 59, 60, 61, 62, 63, 64, 65, 66, 67, 68, 69, 70, 71, 72, 73, 74, 75, 76] (by decide +kernel) (by decide +kernel)
set_option maxRecDepth 20000 in
theorem gX11_cartOf_X11_thingAt : GoodIn wsX11_cartOf (wsV RX11 119 RX11 yX11_thingAt wsX11_thingAt) := goodIn_app (goodIn_of _ (by decide +kernel)) ggX11_cartOf_X11_thingAt
set_option maxRecDepth 20000 in
theorem ggX11_cartOf_X11_weightOf : GoodIn wsX11_cartOf wsX11_weightOf := goodIn_r _ [33, 14, 15, 16, 5, 17, 1, 18, 19, 20, 21, 22, 23, 24, 25, 58, 59, 60, 61, 62, 63, 64, 65, 66, 67, 68, 69, 70, 71, 72, 73, 74, 75, 76] (by decide +kernel) (by decide +kernel)
set_option maxRecDepth 20000 in
theorem gX11_cartOf_X11_weightOf : GoodIn wsX11_cartOf (wsV RX11 122 RX11 yX11_weightOf wsX11_weightOf) := goodIn_app (goodIn_of _ (by decide +kernel)) ggX11_cartOf_X11_weightOf
set_option maxRecDepth 20000 in
theorem ggX11_cartOf_X11_imbalance : GoodIn wsX11_cartOf wsX11_imbalance := goodIn_r _ [37, 38, 39, 40, 5, 41, 1, 22, 23, 24, 25, 18, 19, 20, 21, 42, 43, 44, 58, 59, 60, 61, 62, 63, 64, 65, 66, 67, 68, 69, 70, 71, 72, 73, 74, 75, 76] (by decide +kernel) (by decide +kernel)
set_option maxRecDepth 20000 in
theorem gX11_cartOf_X11_imbalance : GoodIn wsX11_cartOf (wsV RX11 131 RX11 yX11_imbalance wsX11_imbalance) := goodIn_app (goodIn_of _ (by decide +kernel)) ggX11_cartOf_X11_imbalance
set_option maxRecDepth 20000 in
theorem ggX11_cartOf_X11_creaking : GoodIn wsX11_cartOf wsX11_creaking := goodIn_r _ [48, 49, 50, 51, 5, 52, 53, 54, 55, 56, 57, 38, 39, 40, 41, 1, 22, 23, 24, 25, 18, 19, 20, 21, 10, 11, 12, 13, 58, 59, 60, 61, 62, 63, 64, 65, 66, 67, 68, 69, 70, 71, 72, 73, 74, 75, 76] (by decide +kernel) (by decide +kernel)
set_option maxRecDepth 20000 in
theorem gX11_cartOf_X11_creaking : GoodIn wsX11_cartOf (wsV RX11 156 RX11 yX11_creaking wsX11_creaking) := goodIn_app (goodIn_of _ (by decide +kernel)) ggX11_cartOf_X11_creaking
theorem dX11_cartOf_0 : decode cX11_cartOf 0 = .ok (.aload_n 0, 1) := by decide +kernel
theorem dX11_cartOf_1 : decode cX11_cartOf 1 = .ok (.iload_n 1, 1) := by decide +kernel
theorem dX11_cartOf_2 : decode cX11_cartOf 2 = .ok (.invokevirtual 116, 3) := by decide +kernel
theorem dX11_cartOf_5 : decode cX11_cartOf 5 = .ok (.ifCond .ne 5, 3) := by decide +kernel
theorem dX11_cartOf_8 : decode cX11_cartOf 8 = .ok (.iconst (-1), 1) := by decide +kernel
theorem dX11_cartOf_9 : decode cX11_cartOf 9 = .ok (.ireturn, 1) := by decide +kernel
theorem dX11_cartOf_10 : decode cX11_cartOf 10 = .ok (.iload_n 2, 1) := by decide +kernel
theorem dX11_cartOf_11 : decode cX11_cartOf 11 = .ok (.tableswitch 107 0 7 #[45, 51, 59, 67, 75, 81, 95, 101], 45) := by decide +kernel
theorem dX11_cartOf_56 : decode cX11_cartOf 56 = .ok (.aload_n 0, 1) := by decide +kernel
theorem dX11_cartOf_57 : decode cX11_cartOf 57 = .ok (.iload_n 1, 1) := by decide +kernel
theorem dX11_cartOf_58 : decode cX11_cartOf 58 = .ok (.invokevirtual 78, 3) := by decide +kernel
theorem dX11_cartOf_61 : decode cX11_cartOf 61 = .ok (.ireturn, 1) := by decide +kernel
theorem dX11_cartOf_62 : decode cX11_cartOf 62 = .ok (.aload_n 0, 1) := by decide +kernel
theorem dX11_cartOf_63 : decode cX11_cartOf 63 = .ok (.iload_n 1, 1) := by decide +kernel
theorem dX11_cartOf_64 : decode cX11_cartOf 64 = .ok (.iconst 0, 1) := by decide +kernel
theorem dX11_cartOf_65 : decode cX11_cartOf 65 = .ok (.iconst 0, 1) := by decide +kernel
theorem dX11_cartOf_66 : decode cX11_cartOf 66 = .ok (.invokevirtual 65, 3) := by decide +kernel
theorem dX11_cartOf_69 : decode cX11_cartOf 69 = .ok (.ireturn, 1) := by decide +kernel
theorem dX11_cartOf_70 : decode cX11_cartOf 70 = .ok (.aload_n 0, 1) := by decide +kernel
theorem dX11_cartOf_71 : decode cX11_cartOf 71 = .ok (.iload_n 1, 1) := by decide +kernel
theorem dX11_cartOf_72 : decode cX11_cartOf 72 = .ok (.iconst 0, 1) := by decide +kernel
theorem dX11_cartOf_73 : decode cX11_cartOf 73 = .ok (.iconst 1, 1) := by decide +kernel
theorem dX11_cartOf_74 : decode cX11_cartOf 74 = .ok (.invokevirtual 65, 3) := by decide +kernel
theorem dX11_cartOf_77 : decode cX11_cartOf 77 = .ok (.ireturn, 1) := by decide +kernel
theorem dX11_cartOf_78 : decode cX11_cartOf 78 = .ok (.aload_n 0, 1) := by decide +kernel
theorem dX11_cartOf_79 : decode cX11_cartOf 79 = .ok (.iload_n 1, 1) := by decide +kernel
theorem dX11_cartOf_80 : decode cX11_cartOf 80 = .ok (.bipush 6, 2) := by decide +kernel
theorem dX11_cartOf_82 : decode cX11_cartOf 82 = .ok (.invokevirtual 119, 3) := by decide +kernel
theorem dX11_cartOf_85 : decode cX11_cartOf 85 = .ok (.ireturn, 1) := by decide +kernel
theorem dX11_cartOf_86 : decode cX11_cartOf 86 = .ok (.aload_n 0, 1) := by decide +kernel
theorem dX11_cartOf_87 : decode cX11_cartOf 87 = .ok (.iload_n 1, 1) := by decide +kernel
theorem dX11_cartOf_88 : decode cX11_cartOf 88 = .ok (.invokevirtual 122, 3) := by decide +kernel
theorem dX11_cartOf_91 : decode cX11_cartOf 91 = .ok (.ireturn, 1) := by decide +kernel
theorem dX11_cartOf_92 : decode cX11_cartOf 92 = .ok (.aload_n 0, 1) := by decide +kernel
theorem dX11_cartOf_93 : decode cX11_cartOf 93 = .ok (.getfield 9, 3) := by decide +kernel
theorem dX11_cartOf_96 : decode cX11_cartOf 96 = .ok (.bipush 53, 2) := by decide +kernel
theorem dX11_cartOf_98 : decode cX11_cartOf 98 = .ok (.iconst 2, 1) := by decide +kernel
theorem dX11_cartOf_99 : decode cX11_cartOf 99 = .ok (.iload_n 1, 1) := by decide +kernel
theorem dX11_cartOf_100 : decode cX11_cartOf 100 = .ok (.imul, 1) := by decide +kernel
theorem dX11_cartOf_101 : decode cX11_cartOf 101 = .ok (.iadd, 1) := by decide +kernel
theorem dX11_cartOf_102 : decode cX11_cartOf 102 = .ok (.iconst 1, 1) := by decide +kernel
theorem dX11_cartOf_103 : decode cX11_cartOf 103 = .ok (.iadd, 1) := by decide +kernel
theorem dX11_cartOf_104 : decode cX11_cartOf 104 = .ok (.iaload, 1) := by decide +kernel
theorem dX11_cartOf_105 : decode cX11_cartOf 105 = .ok (.ireturn, 1) := by decide +kernel
theorem dX11_cartOf_106 : decode cX11_cartOf 106 = .ok (.aload_n 0, 1) := by decide +kernel
theorem dX11_cartOf_107 : decode cX11_cartOf 107 = .ok (.iload_n 1, 1) := by decide +kernel
theorem dX11_cartOf_108 : decode cX11_cartOf 108 = .ok (.invokevirtual 131, 3) := by decide +kernel
theorem dX11_cartOf_111 : decode cX11_cartOf 111 = .ok (.ireturn, 1) := by decide +kernel
theorem dX11_cartOf_112 : decode cX11_cartOf 112 = .ok (.aload_n 0, 1) := by decide +kernel
theorem dX11_cartOf_113 : decode cX11_cartOf 113 = .ok (.iload_n 1, 1) := by decide +kernel
theorem dX11_cartOf_114 : decode cX11_cartOf 114 = .ok (.invokevirtual 156, 3) := by decide +kernel
theorem dX11_cartOf_117 : decode cX11_cartOf 117 = .ok (.ireturn, 1) := by decide +kernel
theorem dX11_cartOf_118 : decode cX11_cartOf 118 = .ok (.bipush (-2), 2) := by decide +kernel
theorem dX11_cartOf_120 : decode cX11_cartOf 120 = .ok (.ireturn, 1) := by decide +kernel
set_option maxRecDepth 20000 in
theorem ggX11_at_X11_isCart : GoodIn wsX11_at wsX11_isCart := goodIn_r _ [5, 6, 7, 8, 4, 9, 22, 23, 24, 25, 26, 27, 28, 29, 30, 31, 32, 33, 34, 35, 36, 37, 38, 39, 40] (by decide +kernel) (by decide +kernel)
set_option maxRecDepth 20000 in
theorem gX11_at_X11_isCart : GoodIn wsX11_at (wsV RX11 116 RX11 yX11_isCart wsX11_isCart) := goodIn_app (goodIn_of _ (by decide +kernel)) ggX11_at_X11_isCart
set_option maxRecDepth 20000 in
theorem ggX11_at_X11_in : GoodIn wsX11_at wsX11_in := goodIn_r _ [9] (by decide +kernel) (by decide +kernel)
set_option maxRecDepth 20000 in
theorem gX11_at_X11_in : GoodIn wsX11_at (va_wsS RX11 50 yX11_in wsX11_in) := goodIn_app (goodIn_of _ (by decide +kernel)) ggX11_at_X11_in
set_option maxRecDepth 20000 in
theorem ggX11_at_X11_thingAt : GoodIn wsX11_at wsX11_thingAt := goodIn_r _ [13, 6, 14, 15, 16, 4, 17, 18, 19, 20, 21, 22, 23, 24, 25, 26, 27, 28, 29, 30, 31, 32, 33, 34, 35, 36, 37, 38, 39, 40] (by decide +kernel) (by decide +kernel)
set_option maxRecDepth 20000 in
theorem gX11_at_X11_thingAt : GoodIn wsX11_at (wsV RX11 119 RX11 yX11_thingAt wsX11_thingAt) := goodIn_app (goodIn_of _ (by decide +kernel)) ggX11_at_X11_thingAt
theorem dX11_at_0 : decode cX11_at 0 = .ok (.aload_n 0, 1) := by decide +kernel
theorem dX11_at_1 : decode cX11_at 1 = .ok (.iload_n 1, 1) := by decide +kernel
theorem dX11_at_2 : decode cX11_at 2 = .ok (.invokevirtual 116, 3) := by decide +kernel
theorem dX11_at_5 : decode cX11_at 5 = .ok (.ifCond .ne 7, 3) := by decide +kernel
theorem dX11_at_8 : decode cX11_at 8 = .ok (.iconst (-1), 1) := by decide +kernel
theorem dX11_at_9 : decode cX11_at 9 = .ok (.goto 24, 3) := by decide +kernel
theorem dX11_at_12 : decode cX11_at 12 = .ok (.iload_n 2, 1) := by decide +kernel
theorem dX11_at_13 : decode cX11_at 13 = .ok (.iconst 0, 1) := by decide +kernel
theorem dX11_at_14 : decode cX11_at 14 = .ok (.bipush 6, 2) := by decide +kernel
theorem dX11_at_16 : decode cX11_at 16 = .ok (.invokestatic 50, 3) := by decide +kernel
theorem dX11_at_19 : decode cX11_at 19 = .ok (.ifCond .eq 12, 3) := by decide +kernel
theorem dX11_at_22 : decode cX11_at 22 = .ok (.aload_n 0, 1) := by decide +kernel
theorem dX11_at_23 : decode cX11_at 23 = .ok (.iload_n 1, 1) := by decide +kernel
theorem dX11_at_24 : decode cX11_at 24 = .ok (.iload_n 2, 1) := by decide +kernel
theorem dX11_at_25 : decode cX11_at 25 = .ok (.invokevirtual 119, 3) := by decide +kernel
theorem dX11_at_28 : decode cX11_at 28 = .ok (.goto 5, 3) := by decide +kernel
theorem dX11_at_31 : decode cX11_at 31 = .ok (.bipush (-2), 2) := by decide +kernel
theorem dX11_at_33 : decode cX11_at 33 = .ok (.ireturn, 1) := by decide +kernel
set_option maxRecDepth 20000 in
theorem ggX11_roadOf_X11_isRoad : GoodIn wsX11_roadOf wsX11_isRoad := goodIn_r _ [5, 6, 7, 8, 4, 9, 14, 15, 16, 17, 18, 19, 20, 21, 22, 23, 24, 25, 26, 27, 28, 29, 30, 31, 32] (by decide +kernel) (by decide +kernel)
set_option maxRecDepth 20000 in
theorem gX11_roadOf_X11_isRoad : GoodIn wsX11_roadOf (wsV RX11 142 RX11 yX11_isRoad wsX11_isRoad) := goodIn_app (goodIn_of _ (by decide +kernel)) ggX11_roadOf_X11_isRoad
set_option maxRecDepth 20000 in
theorem ggX11_roadOf_X11_in : GoodIn wsX11_roadOf wsX11_in := goodIn_r _ [9] (by decide +kernel) (by decide +kernel)
set_option maxRecDepth 20000 in
theorem gX11_roadOf_X11_in : GoodIn wsX11_roadOf (va_wsS RX11 50 yX11_in wsX11_in) := goodIn_app (goodIn_of _ (by decide +kernel)) ggX11_roadOf_X11_in
set_option maxRecDepth 20000 in
theorem ggX11_roadOf_X11_r : GoodIn wsX11_roadOf wsX11_r := goodIn_r _ [13, 6, 14, 15, 16, 17, 18, 19, 20, 21, 22, 23, 24, 25, 26, 27, 28, 29, 30, 31, 32] (by decide +kernel) (by decide +kernel)
set_option maxRecDepth 20000 in
theorem gX11_roadOf_X11_r : GoodIn wsX11_roadOf (wsV RX11 138 RX11 yX11_r wsX11_r) := goodIn_app (goodIn_of _ (by decide +kernel)) ggX11_roadOf_X11_r
theorem dX11_roadOf_0 : decode cX11_roadOf 0 = .ok (.aload_n 0, 1) := by decide +kernel
theorem dX11_roadOf_1 : decode cX11_roadOf 1 = .ok (.iload_n 1, 1) := by decide +kernel
theorem dX11_roadOf_2 : decode cX11_roadOf 2 = .ok (.invokevirtual 142, 3) := by decide +kernel
theorem dX11_roadOf_5 : decode cX11_roadOf 5 = .ok (.ifCond .ne 7, 3) := by decide +kernel
theorem dX11_roadOf_8 : decode cX11_roadOf 8 = .ok (.iconst (-1), 1) := by decide +kernel
theorem dX11_roadOf_9 : decode cX11_roadOf 9 = .ok (.goto 23, 3) := by decide +kernel
theorem dX11_roadOf_12 : decode cX11_roadOf 12 = .ok (.iload_n 2, 1) := by decide +kernel
theorem dX11_roadOf_13 : decode cX11_roadOf 13 = .ok (.iconst 0, 1) := by decide +kernel
theorem dX11_roadOf_14 : decode cX11_roadOf 14 = .ok (.iconst 3, 1) := by decide +kernel
theorem dX11_roadOf_15 : decode cX11_roadOf 15 = .ok (.invokestatic 50, 3) := by decide +kernel
theorem dX11_roadOf_18 : decode cX11_roadOf 18 = .ok (.ifCond .eq 12, 3) := by decide +kernel
theorem dX11_roadOf_21 : decode cX11_roadOf 21 = .ok (.aload_n 0, 1) := by decide +kernel
theorem dX11_roadOf_22 : decode cX11_roadOf 22 = .ok (.iload_n 1, 1) := by decide +kernel
theorem dX11_roadOf_23 : decode cX11_roadOf 23 = .ok (.iload_n 2, 1) := by decide +kernel
theorem dX11_roadOf_24 : decode cX11_roadOf 24 = .ok (.invokevirtual 138, 3) := by decide +kernel
theorem dX11_roadOf_27 : decode cX11_roadOf 27 = .ok (.goto 5, 3) := by decide +kernel
theorem dX11_roadOf_30 : decode cX11_roadOf 30 = .ok (.bipush (-2), 2) := by decide +kernel
theorem dX11_roadOf_32 : decode cX11_roadOf 32 = .ok (.ireturn, 1) := by decide +kernel
set_option maxRecDepth 20000 in
theorem ggX11_tenths_X11_isCart : GoodIn wsX11_tenths wsX11_isCart := goodIn_r _ [5, 6, 7, 8, 4, 9, 22, 23, 24, 25, 26, 27, 28, 29, 30, 31, 32, 33, 34, 35, 36, 37, 38, 39, 40] (by decide +kernel) (by decide +kernel)
set_option maxRecDepth 20000 in
theorem gX11_tenths_X11_isCart : GoodIn wsX11_tenths (wsV RX11 116 RX11 yX11_isCart wsX11_isCart) := goodIn_app (goodIn_of _ (by decide +kernel)) ggX11_tenths_X11_isCart
set_option maxRecDepth 20000 in
theorem ggX11_tenths_X11_tenthsOf : GoodIn wsX11_tenths wsX11_tenthsOf := goodIn_r _ [13, 6, 14, 15, 16, 4, 17, 18, 19, 20, 21, 22, 23, 24, 25, 26, 27, 28, 29, 30, 31, 32, 33, 34, 35, 36, 37, 38, 39, 40] (by decide +kernel) (by decide +kernel)
set_option maxRecDepth 20000 in
theorem gX11_tenths_X11_tenthsOf : GoodIn wsX11_tenths (wsV RX11 69 RX11 yX11_tenthsOf wsX11_tenthsOf) := goodIn_app (goodIn_of _ (by decide +kernel)) ggX11_tenths_X11_tenthsOf
theorem dX11_tenths_0 : decode cX11_tenths 0 = .ok (.aload_n 0, 1) := by decide +kernel
theorem dX11_tenths_1 : decode cX11_tenths 1 = .ok (.iload_n 1, 1) := by decide +kernel
theorem dX11_tenths_2 : decode cX11_tenths 2 = .ok (.invokevirtual 116, 3) := by decide +kernel
theorem dX11_tenths_5 : decode cX11_tenths 5 = .ok (.ifCond .eq 12, 3) := by decide +kernel
theorem dX11_tenths_8 : decode cX11_tenths 8 = .ok (.aload_n 0, 1) := by decide +kernel
theorem dX11_tenths_9 : decode cX11_tenths 9 = .ok (.iload_n 1, 1) := by decide +kernel
theorem dX11_tenths_10 : decode cX11_tenths 10 = .ok (.iload_n 2, 1) := by decide +kernel
theorem dX11_tenths_11 : decode cX11_tenths 11 = .ok (.invokevirtual 69, 3) := by decide +kernel
theorem dX11_tenths_14 : decode cX11_tenths 14 = .ok (.goto 4, 3) := by decide +kernel
theorem dX11_tenths_17 : decode cX11_tenths 17 = .ok (.iconst (-1), 1) := by decide +kernel
theorem dX11_tenths_18 : decode cX11_tenths 18 = .ok (.ireturn, 1) := by decide +kernel
set_option maxRecDepth 20000 in
theorem ggX11_tenthsAgain_X11_tenths : GoodIn wsX11_tenthsAgain wsX11_tenths := goodIn_r _ [5, 6, 7, 8, 4, 9, 10, 11, 12, 13, 14, 15, 16, 17, 18, 19, 20, 21, 22, 23, 24, 25, 26, 27, 28, 29, 30, 31, 32, 33, 34, 35, 36, 37, 38, 39, 40, 41, 42, 43, 44] (by decide +kernel) (by decide +kernel)
set_option maxRecDepth 20000 in
theorem gX11_tenthsAgain_X11_tenths : GoodIn wsX11_tenthsAgain (wsV RX11 165 RX11 yX11_tenths wsX11_tenths) := goodIn_app (goodIn_of _ (by decide +kernel)) ggX11_tenthsAgain_X11_tenths
theorem dX11_tenthsAgain_0 : decode cX11_tenthsAgain 0 = .ok (.aload_n 0, 1) := by decide +kernel
theorem dX11_tenthsAgain_1 : decode cX11_tenthsAgain 1 = .ok (.iload_n 1, 1) := by decide +kernel
theorem dX11_tenthsAgain_2 : decode cX11_tenthsAgain 2 = .ok (.iload_n 2, 1) := by decide +kernel
theorem dX11_tenthsAgain_3 : decode cX11_tenthsAgain 3 = .ok (.invokevirtual 165, 3) := by decide +kernel
theorem dX11_tenthsAgain_6 : decode cX11_tenthsAgain 6 = .ok (.ireturn, 1) := by decide +kernel
set_option maxRecDepth 20000 in
theorem ggX11_axle_X11_isCart : GoodIn wsX11_axle wsX11_isCart := goodIn_r _ [6, 7, 8, 9, 5, 10, 28, 29, 30, 31, 32, 33, 34, 35, 36, 37, 38, 39, 40, 41, 42, 43, 44, 45, 46] (by decide +kernel) (by decide +kernel)
set_option maxRecDepth 20000 in
theorem gX11_axle_X11_isCart : GoodIn wsX11_axle (wsV RX11 116 RX11 yX11_isCart wsX11_isCart) := goodIn_app (goodIn_of _ (by decide +kernel)) ggX11_axle_X11_isCart
set_option maxRecDepth 20000 in
theorem ggX11_axle_X11_loadOf : GoodIn wsX11_axle wsX11_loadOf := goodIn_r _ [14, 15, 16, 17, 18, 5, 19, 7, 20, 21, 22, 23, 24, 25, 26, 27, 28, 29, 30, 31, 32, 33, 34, 35, 36, 37, 38, 39, 40, 41, 42, 43, 44, 45, 46] (by decide +kernel) (by decide +kernel)
set_option maxRecDepth 20000 in
theorem gX11_axle_X11_loadOf : GoodIn wsX11_axle (wsV RX11 74 RX11 yX11_loadOf wsX11_loadOf) := goodIn_app (goodIn_of _ (by decide +kernel)) ggX11_axle_X11_loadOf
theorem dX11_axle_0 : decode cX11_axle 0 = .ok (.aload_n 0, 1) := by decide +kernel
theorem dX11_axle_1 : decode cX11_axle 1 = .ok (.iload_n 1, 1) := by decide +kernel
theorem dX11_axle_2 : decode cX11_axle 2 = .ok (.invokevirtual 116, 3) := by decide +kernel
theorem dX11_axle_5 : decode cX11_axle 5 = .ok (.ifCond .eq 12, 3) := by decide +kernel
theorem dX11_axle_8 : decode cX11_axle 8 = .ok (.aload_n 0, 1) := by decide +kernel
theorem dX11_axle_9 : decode cX11_axle 9 = .ok (.iload_n 1, 1) := by decide +kernel
theorem dX11_axle_10 : decode cX11_axle 10 = .ok (.iload_n 2, 1) := by decide +kernel
theorem dX11_axle_11 : decode cX11_axle 11 = .ok (.invokevirtual 74, 3) := by decide +kernel
theorem dX11_axle_14 : decode cX11_axle 14 = .ok (.goto 5, 3) := by decide +kernel
theorem dX11_axle_17 : decode cX11_axle 17 = .ok (.ldc 168, 2) := by decide +kernel
theorem dX11_axle_19 : decode cX11_axle 19 = .ok (.freturn, 1) := by decide +kernel
set_option maxRecDepth 20000 in
theorem ggX11_wear_X11_isCart : GoodIn wsX11_wear wsX11_isCart := goodIn_r _ [6, 7, 8, 9, 5, 10, 16, 17, 18, 19, 20, 21, 22, 23, 24, 25, 26, 27, 28, 29, 30, 31, 32, 33, 34] (by decide +kernel) (by decide +kernel)
set_option maxRecDepth 20000 in
theorem gX11_wear_X11_isCart : GoodIn wsX11_wear (wsV RX11 116 RX11 yX11_isCart wsX11_isCart) := goodIn_app (goodIn_of _ (by decide +kernel)) ggX11_wear_X11_isCart
set_option maxRecDepth 20000 in
theorem ggX11_wear_X11_wearOf : GoodIn wsX11_wear wsX11_wearOf := goodIn_r _ [14, 15, 16, 17, 18, 19, 20, 21, 22, 23, 24, 25, 26, 27, 28, 29, 30, 31, 32, 33, 34] (by decide +kernel) (by decide +kernel)
set_option maxRecDepth 20000 in
theorem gX11_wear_X11_wearOf : GoodIn wsX11_wear (wsV RX11 86 RX11 yX11_wearOf wsX11_wearOf) := goodIn_app (goodIn_of _ (by decide +kernel)) ggX11_wear_X11_wearOf
theorem dX11_wear_0 : decode cX11_wear 0 = .ok (.aload_n 0, 1) := by decide +kernel
theorem dX11_wear_1 : decode cX11_wear 1 = .ok (.iload_n 1, 1) := by decide +kernel
theorem dX11_wear_2 : decode cX11_wear 2 = .ok (.invokevirtual 116, 3) := by decide +kernel
theorem dX11_wear_5 : decode cX11_wear 5 = .ok (.ifCond .eq 12, 3) := by decide +kernel
theorem dX11_wear_8 : decode cX11_wear 8 = .ok (.aload_n 0, 1) := by decide +kernel
theorem dX11_wear_9 : decode cX11_wear 9 = .ok (.iload_n 1, 1) := by decide +kernel
theorem dX11_wear_10 : decode cX11_wear 10 = .ok (.iload_n 2, 1) := by decide +kernel
theorem dX11_wear_11 : decode cX11_wear 11 = .ok (.invokevirtual 86, 3) := by decide +kernel
theorem dX11_wear_14 : decode cX11_wear 14 = .ok (.goto 5, 3) := by decide +kernel
theorem dX11_wear_17 : decode cX11_wear 17 = .ok (.ldc 168, 2) := by decide +kernel
theorem dX11_wear_19 : decode cX11_wear 19 = .ok (.freturn, 1) := by decide +kernel
theorem dX11_tolls_0 : decode cX11_tolls 0 = .ok (.aload_n 0, 1) := by decide +kernel
theorem dX11_tolls_1 : decode cX11_tolls 1 = .ok (.getfield 13, 3) := by decide +kernel
theorem dX11_tolls_4 : decode cX11_tolls 4 = .ok (.bipush 8, 2) := by decide +kernel
theorem dX11_tolls_6 : decode cX11_tolls 6 = .ok (.faload, 1) := by decide +kernel
theorem dX11_tolls_7 : decode cX11_tolls 7 = .ok (.freturn, 1) := by decide +kernel
set_option maxRecDepth 20000 in
theorem ggX11_leastOf_X11_size : GoodIn wsX11_leastOf wsX11_size := goodIn_r _ [7] (by decide +kernel) (by decide +kernel)
set_option maxRecDepth 20000 in
theorem gX11_leastOf_X11_size : GoodIn wsX11_leastOf (va_wsS RX11 89 yX11_size wsX11_size) := goodIn_app (goodIn_of _ (by decide +kernel)) ggX11_leastOf_X11_size
set_option maxRecDepth 20000 in
theorem ggX11_leastOf_X11_leastOf : GoodIn wsX11_leastOf wsX11_leastOf := goodIn_r _ [0, 1, 2, 3, 4, 5, 6, 7, 8, 9, 10, 11, 12, 13, 14, 15, 16, 17, 18, 19, 20, 21, 22, 23, 24, 25, 26, 27, 28, 29] (by decide +kernel) (by decide +kernel)
set_option maxRecDepth 20000 in
theorem gX11_leastOf_X11_leastOf : GoodIn wsX11_leastOf (wsV RX11 173 RX11 yX11_leastOf wsX11_leastOf) := goodIn_app (goodIn_of _ (by decide +kernel)) ggX11_leastOf_X11_leastOf
theorem dX11_leastOf_0 : decode cX11_leastOf 0 = .ok (.iload_n 1, 1) := by decide +kernel
theorem dX11_leastOf_1 : decode cX11_leastOf 1 = .ok (.aload_n 0, 1) := by decide +kernel
theorem dX11_leastOf_2 : decode cX11_leastOf 2 = .ok (.getfield 169, 3) := by decide +kernel
theorem dX11_leastOf_5 : decode cX11_leastOf 5 = .ok (.if_icmp .ne 8, 3) := by decide +kernel
theorem dX11_leastOf_8 : decode cX11_leastOf 8 = .ok (.iload_n 3, 1) := by decide +kernel
theorem dX11_leastOf_9 : decode cX11_leastOf 9 = .ok (.invokestatic 89, 3) := by decide +kernel
theorem dX11_leastOf_12 : decode cX11_leastOf 12 = .ok (.ireturn, 1) := by decide +kernel
theorem dX11_leastOf_13 : decode cX11_leastOf 13 = .ok (.ldc 172, 2) := by decide +kernel
theorem dX11_leastOf_15 : decode cX11_leastOf 15 = .ok (.istore 4, 2) := by decide +kernel
theorem dX11_leastOf_17 : decode cX11_leastOf 17 = .ok (.iconst 0, 1) := by decide +kernel
theorem dX11_leastOf_18 : decode cX11_leastOf 18 = .ok (.istore 5, 2) := by decide +kernel
theorem dX11_leastOf_20 : decode cX11_leastOf 20 = .ok (.iload 5, 2) := by decide +kernel
theorem dX11_leastOf_22 : decode cX11_leastOf 22 = .ok (.bipush 6, 2) := by decide +kernel
theorem dX11_leastOf_24 : decode cX11_leastOf 24 = .ok (.if_icmp .ge 70, 3) := by decide +kernel
theorem dX11_leastOf_27 : decode cX11_leastOf 27 = .ok (.iload_n 2, 1) := by decide +kernel
theorem dX11_leastOf_28 : decode cX11_leastOf 28 = .ok (.iload 5, 2) := by decide +kernel
theorem dX11_leastOf_30 : decode cX11_leastOf 30 = .ok (.ishr, 1) := by decide +kernel
theorem dX11_leastOf_31 : decode cX11_leastOf 31 = .ok (.iconst 1, 1) := by decide +kernel
theorem dX11_leastOf_32 : decode cX11_leastOf 32 = .ok (.iand, 1) := by decide +kernel
theorem dX11_leastOf_33 : decode cX11_leastOf 33 = .ok (.iconst 1, 1) := by decide +kernel
theorem dX11_leastOf_34 : decode cX11_leastOf 34 = .ok (.if_icmp .ne 6, 3) := by decide +kernel
theorem dX11_leastOf_37 : decode cX11_leastOf 37 = .ok (.goto 51, 3) := by decide +kernel
theorem dX11_leastOf_40 : decode cX11_leastOf 40 = .ok (.aload_n 0, 1) := by decide +kernel
theorem dX11_leastOf_41 : decode cX11_leastOf 41 = .ok (.iload_n 1, 1) := by decide +kernel
theorem dX11_leastOf_42 : decode cX11_leastOf 42 = .ok (.iconst 1, 1) := by decide +kernel
theorem dX11_leastOf_43 : decode cX11_leastOf 43 = .ok (.iadd, 1) := by decide +kernel
theorem dX11_leastOf_44 : decode cX11_leastOf 44 = .ok (.iload_n 2, 1) := by decide +kernel
theorem dX11_leastOf_45 : decode cX11_leastOf 45 = .ok (.iconst 1, 1) := by decide +kernel
theorem dX11_leastOf_46 : decode cX11_leastOf 46 = .ok (.iload 5, 2) := by decide +kernel
theorem dX11_leastOf_48 : decode cX11_leastOf 48 = .ok (.ishl, 1) := by decide +kernel
theorem dX11_leastOf_49 : decode cX11_leastOf 49 = .ok (.ior, 1) := by decide +kernel
theorem dX11_leastOf_50 : decode cX11_leastOf 50 = .ok (.iload_n 3, 1) := by decide +kernel
theorem dX11_leastOf_51 : decode cX11_leastOf 51 = .ok (.aload_n 0, 1) := by decide +kernel
theorem dX11_leastOf_52 : decode cX11_leastOf 52 = .ok (.getfield 17, 3) := by decide +kernel
theorem dX11_leastOf_55 : decode cX11_leastOf 55 = .ok (.iload_n 1, 1) := by decide +kernel
theorem dX11_leastOf_56 : decode cX11_leastOf 56 = .ok (.iaload, 1) := by decide +kernel
theorem dX11_leastOf_57 : decode cX11_leastOf 57 = .ok (.iconst 2, 1) := by decide +kernel
theorem dX11_leastOf_58 : decode cX11_leastOf 58 = .ok (.imul, 1) := by decide +kernel
theorem dX11_leastOf_59 : decode cX11_leastOf 59 = .ok (.iconst 5, 1) := by decide +kernel
theorem dX11_leastOf_60 : decode cX11_leastOf 60 = .ok (.iconst 2, 1) := by decide +kernel
theorem dX11_leastOf_61 : decode cX11_leastOf 61 = .ok (.iload 5, 2) := by decide +kernel
theorem dX11_leastOf_63 : decode cX11_leastOf 63 = .ok (.imul, 1) := by decide +kernel
theorem dX11_leastOf_64 : decode cX11_leastOf 64 = .ok (.isub, 1) := by decide +kernel
theorem dX11_leastOf_65 : decode cX11_leastOf 65 = .ok (.imul, 1) := by decide +kernel
theorem dX11_leastOf_66 : decode cX11_leastOf 66 = .ok (.iadd, 1) := by decide +kernel
theorem dX11_leastOf_67 : decode cX11_leastOf 67 = .ok (.invokevirtual 173, 3) := by decide +kernel
theorem dX11_leastOf_70 : decode cX11_leastOf 70 = .ok (.istore 6, 2) := by decide +kernel
theorem dX11_leastOf_72 : decode cX11_leastOf 72 = .ok (.iload 6, 2) := by decide +kernel
theorem dX11_leastOf_74 : decode cX11_leastOf 74 = .ok (.iload 4, 2) := by decide +kernel
theorem dX11_leastOf_76 : decode cX11_leastOf 76 = .ok (.if_icmp .ge 8, 3) := by decide +kernel
theorem dX11_leastOf_79 : decode cX11_leastOf 79 = .ok (.iload 6, 2) := by decide +kernel
theorem dX11_leastOf_81 : decode cX11_leastOf 81 = .ok (.goto 5, 3) := by decide +kernel
theorem dX11_leastOf_84 : decode cX11_leastOf 84 = .ok (.iload 4, 2) := by decide +kernel
theorem dX11_leastOf_86 : decode cX11_leastOf 86 = .ok (.istore 4, 2) := by decide +kernel
theorem dX11_leastOf_88 : decode cX11_leastOf 88 = .ok (.iinc 5 1, 3) := by decide +kernel
theorem dX11_leastOf_91 : decode cX11_leastOf 91 = .ok (.goto (-71), 3) := by decide +kernel
theorem dX11_leastOf_94 : decode cX11_leastOf 94 = .ok (.iload 4, 2) := by decide +kernel
theorem dX11_leastOf_96 : decode cX11_leastOf 96 = .ok (.ireturn, 1) := by decide +kernel
set_option maxRecDepth 20000 in
theorem ggX11_best_X11_isCart : GoodIn wsX11_best wsX11_isCart := goodIn_r _ [8, 2, 9, 10, 7, 11, 28, 29, 30, 31, 32, 33, 34, 35, 36, 37, 38, 39, 40, 41, 42, 43, 44, 45, 46] (by decide +kernel) (by decide +kernel)
set_option maxRecDepth 20000 in
theorem gX11_best_X11_isCart : GoodIn wsX11_best (wsV RX11 116 RX11 yX11_isCart wsX11_isCart) := goodIn_app (goodIn_of _ (by decide +kernel)) ggX11_best_X11_isCart
set_option maxRecDepth 20000 in
theorem ggX11_best_X11_isOn : GoodIn wsX11_best wsX11_isOn := goodIn_r _ [15, 16, 17, 18, 7, 19, 2, 28, 29, 30, 31, 32, 33, 34, 35, 36, 37, 38, 39, 40, 41, 42, 43, 44, 45, 46] (by decide +kernel) (by decide +kernel)
set_option maxRecDepth 20000 in
theorem gX11_best_X11_isOn : GoodIn wsX11_best (wsV RX11 61 RX11 yX11_isOn wsX11_isOn) := goodIn_app (goodIn_of _ (by decide +kernel)) ggX11_best_X11_isOn
set_option maxRecDepth 20000 in
theorem ggX11_best_X11_t : GoodIn wsX11_best wsX11_t := goodIn_r _ [19, 2, 28, 29, 30, 31, 32, 33, 34, 35, 36, 37, 38, 39, 40, 41, 42, 43, 44, 45, 46] (by decide +kernel) (by decide +kernel)
set_option maxRecDepth 20000 in
theorem gX11_best_X11_t : GoodIn wsX11_best (wsV RX11 57 RX11 yX11_t wsX11_t) := goodIn_app (goodIn_of _ (by decide +kernel)) ggX11_best_X11_t
set_option maxRecDepth 20000 in
theorem ggX11_best_X11_leastOf : GoodIn wsX11_best wsX11_leastOf := goodIn_r _ [23, 1, 24, 3, 25, 26, 7, 27, 20, 21, 22, 28, 29, 30, 31, 32, 33, 34, 35, 36, 37, 38, 39, 40, 41, 42, 43, 44, 45, 46] (by decide +kernel) (by decide +kernel)
set_option maxRecDepth 20000 in
theorem gX11_best_X11_leastOf : GoodIn wsX11_best (wsV RX11 173 RX11 yX11_leastOf wsX11_leastOf) := goodIn_app (goodIn_of _ (by decide +kernel)) ggX11_best_X11_leastOf
theorem dX11_best_0 : decode cX11_best 0 = .ok (.aload_n 0, 1) := by decide +kernel
theorem dX11_best_1 : decode cX11_best 1 = .ok (.iload_n 1, 1) := by decide +kernel
theorem dX11_best_2 : decode cX11_best 2 = .ok (.invokevirtual 116, 3) := by decide +kernel
theorem dX11_best_5 : decode cX11_best 5 = .ok (.ifCond .ne 5, 3) := by decide +kernel
theorem dX11_best_8 : decode cX11_best 8 = .ok (.iconst (-1), 1) := by decide +kernel
theorem dX11_best_9 : decode cX11_best 9 = .ok (.ireturn, 1) := by decide +kernel
theorem dX11_best_10 : decode cX11_best 10 = .ok (.aload_n 0, 1) := by decide +kernel
theorem dX11_best_11 : decode cX11_best 11 = .ok (.iconst 0, 1) := by decide +kernel
theorem dX11_best_12 : decode cX11_best 12 = .ok (.putfield 169, 3) := by decide +kernel
theorem dX11_best_15 : decode cX11_best 15 = .ok (.iconst 0, 1) := by decide +kernel
theorem dX11_best_16 : decode cX11_best 16 = .ok (.istore_n 2, 1) := by decide +kernel
theorem dX11_best_17 : decode cX11_best 17 = .ok (.iload_n 2, 1) := by decide +kernel
theorem dX11_best_18 : decode cX11_best 18 = .ok (.aload_n 0, 1) := by decide +kernel
theorem dX11_best_19 : decode cX11_best 19 = .ok (.getfield 9, 3) := by decide +kernel
theorem dX11_best_22 : decode cX11_best 22 = .ok (.iconst 0, 1) := by decide +kernel
theorem dX11_best_23 : decode cX11_best 23 = .ok (.iaload, 1) := by decide +kernel
theorem dX11_best_24 : decode cX11_best 24 = .ok (.if_icmp .ge 56, 3) := by decide +kernel
theorem dX11_best_27 : decode cX11_best 27 = .ok (.aload_n 0, 1) := by decide +kernel
theorem dX11_best_28 : decode cX11_best 28 = .ok (.iload_n 2, 1) := by decide +kernel
theorem dX11_best_29 : decode cX11_best 29 = .ok (.iload_n 1, 1) := by decide +kernel
theorem dX11_best_30 : decode cX11_best 30 = .ok (.invokevirtual 61, 3) := by decide +kernel
theorem dX11_best_33 : decode cX11_best 33 = .ok (.ifCond .eq 41, 3) := by decide +kernel
theorem dX11_best_36 : decode cX11_best 36 = .ok (.aload_n 0, 1) := by decide +kernel
theorem dX11_best_37 : decode cX11_best 37 = .ok (.iload_n 2, 1) := by decide +kernel
theorem dX11_best_38 : decode cX11_best 38 = .ok (.iconst 0, 1) := by decide +kernel
theorem dX11_best_39 : decode cX11_best 39 = .ok (.invokevirtual 57, 3) := by decide +kernel
theorem dX11_best_42 : decode cX11_best 42 = .ok (.iconst 1, 1) := by decide +kernel
theorem dX11_best_43 : decode cX11_best 43 = .ok (.if_icmp .ne 6, 3) := by decide +kernel
theorem dX11_best_46 : decode cX11_best 46 = .ok (.goto 28, 3) := by decide +kernel
theorem dX11_best_49 : decode cX11_best 49 = .ok (.aload_n 0, 1) := by decide +kernel
theorem dX11_best_50 : decode cX11_best 50 = .ok (.getfield 17, 3) := by decide +kernel
theorem dX11_best_53 : decode cX11_best 53 = .ok (.aload_n 0, 1) := by decide +kernel
theorem dX11_best_54 : decode cX11_best 54 = .ok (.getfield 169, 3) := by decide +kernel
theorem dX11_best_57 : decode cX11_best 57 = .ok (.aload_n 0, 1) := by decide +kernel
theorem dX11_best_58 : decode cX11_best 58 = .ok (.iload_n 2, 1) := by decide +kernel
theorem dX11_best_59 : decode cX11_best 59 = .ok (.iconst 1, 1) := by decide +kernel
theorem dX11_best_60 : decode cX11_best 60 = .ok (.invokevirtual 57, 3) := by decide +kernel
theorem dX11_best_63 : decode cX11_best 63 = .ok (.iastore, 1) := by decide +kernel
theorem dX11_best_64 : decode cX11_best 64 = .ok (.aload_n 0, 1) := by decide +kernel
theorem dX11_best_65 : decode cX11_best 65 = .ok (.dup, 1) := by decide +kernel
theorem dX11_best_66 : decode cX11_best 66 = .ok (.getfield 169, 3) := by decide +kernel
theorem dX11_best_69 : decode cX11_best 69 = .ok (.iconst 1, 1) := by decide +kernel
theorem dX11_best_70 : decode cX11_best 70 = .ok (.iadd, 1) := by decide +kernel
theorem dX11_best_71 : decode cX11_best 71 = .ok (.putfield 169, 3) := by decide +kernel
theorem dX11_best_74 : decode cX11_best 74 = .ok (.iinc 2 1, 3) := by decide +kernel
theorem dX11_best_77 : decode cX11_best 77 = .ok (.goto (-60), 3) := by decide +kernel
theorem dX11_best_80 : decode cX11_best 80 = .ok (.aload_n 0, 1) := by decide +kernel
theorem dX11_best_81 : decode cX11_best 81 = .ok (.iconst 0, 1) := by decide +kernel
theorem dX11_best_82 : decode cX11_best 82 = .ok (.iconst 0, 1) := by decide +kernel
theorem dX11_best_83 : decode cX11_best 83 = .ok (.iconst 0, 1) := by decide +kernel
theorem dX11_best_84 : decode cX11_best 84 = .ok (.invokevirtual 173, 3) := by decide +kernel
theorem dX11_best_87 : decode cX11_best 87 = .ok (.ireturn, 1) := by decide +kernel
set_option maxRecDepth 20000 in
theorem ggX11_bestAgain_X11_best : GoodIn wsX11_bestAgain wsX11_best := goodIn_r _ [5, 6, 7, 8, 9, 10, 11, 4, 12, 13, 14, 15, 16, 17, 18, 19, 20, 21, 22, 23, 24, 25, 26, 27, 28, 29, 30, 31, 32, 33, 34, 35, 36, 37, 38, 39, 40, 41, 42, 43, 44, 45, 46, 47, 48, 49, 50] (by decide +kernel) (by decide +kernel)
set_option maxRecDepth 20000 in
theorem gX11_bestAgain_X11_best : GoodIn wsX11_bestAgain (wsV RX11 176 RX11 yX11_best wsX11_best) := goodIn_app (goodIn_of _ (by decide +kernel)) ggX11_bestAgain_X11_best
theorem dX11_bestAgain_0 : decode cX11_bestAgain 0 = .ok (.aload_n 0, 1) := by decide +kernel
theorem dX11_bestAgain_1 : decode cX11_bestAgain 1 = .ok (.iload_n 1, 1) := by decide +kernel
theorem dX11_bestAgain_2 : decode cX11_bestAgain 2 = .ok (.invokevirtual 176, 3) := by decide +kernel
theorem dX11_bestAgain_5 : decode cX11_bestAgain 5 = .ok (.ireturn, 1) := by decide +kernel
set_option maxRecDepth 20000 in
theorem ggX11_could_X11_isCart : GoodIn wsX11_could wsX11_isCart := goodIn_r _ [8, 9, 10, 11, 7, 12, 89, 90, 91, 92, 93, 94, 95, 96, 97, 98, 99, 100, 101, 102, 103, 104, 105, 106, 107] (by decide +kernel) (by decide +kernel)
set_option maxRecDepth 20000 in
theorem gX11_could_X11_isCart : GoodIn wsX11_could (wsV RX11 116 RX11 yX11_isCart wsX11_isCart) := goodIn_app (goodIn_of _ (by decide +kernel)) ggX11_could_X11_isCart
set_option maxRecDepth 20000 in
theorem ggX11_could_X11_isRoad : GoodIn wsX11_could wsX11_isRoad := goodIn_r _ [16, 9, 10, 11, 7, 12, 89, 90, 91, 92, 93, 94, 95, 96, 97, 98, 99, 100, 101, 102, 103, 104, 105, 106, 107] (by decide +kernel) (by decide +kernel)
set_option maxRecDepth 20000 in
theorem gX11_could_X11_isRoad : GoodIn wsX11_could (wsV RX11 142 RX11 yX11_isRoad wsX11_isRoad) := goodIn_app (goodIn_of _ (by decide +kernel)) ggX11_could_X11_isRoad
set_option maxRecDepth 20000 in
theorem ggX11_could_X11_copies : GoodIn wsX11_could wsX11_copies := goodIn_r _ [20, 9, 21, 89, 90, 91, 92, 93, 94, 95, 96, 97, 98, 99, 100, 101, 102, 103, 104, 105, 106, 107] (by decide +kernel) (by decide +kernel)
set_option maxRecDepth 20000 in
theorem gX11_could_X11_copies : GoodIn wsX11_could (wsV RX11 34 RX11 yX11_copies wsX11_copies) := goodIn_app (goodIn_of _ (by decide +kernel)) ggX11_could_X11_copies
set_option maxRecDepth 20000 in
theorem ggX11_could_X11_goes : GoodIn wsX11_could wsX11_goes := goodIn_r _ [25, 21, 9, 4, 5, 6, 7, 8, 10, 11, 12, 13, 14, 15, 16, 26, 27, 28, 29, 30, 31, 32, 33, 34, 35, 36, 37, 38, 39, 40, 41, 42, 43, 44, 45, 46, 47, 48, 49, 1, 2, 3, 50, 51, 52, 53, 54, 55, 56, 57, 58, 59, 60, 61, 62, 63, 64, 65, 66, 67, 68, 69, 70, 71, 72, 73, 74, 75, 76, 77, 78, 79, 80, 81, 82, 83, 84, 85, 86, 87, 88, 89, 90, 91, 92, 93, 94, 95, 96, 97, 98, 99, 100, 101, 102, 103, 104, 105, 106, 107] (by decide +kernel) (by decide +kernel)
set_option maxRecDepth 20000 in
theorem gX11_could_X11_goes : GoodIn wsX11_could (wsV RX11 159 RX11 yX11_goes wsX11_goes) := goodIn_app (goodIn_of _ (by decide +kernel)) ggX11_could_X11_goes
theorem dX11_could_0 : decode cX11_could 0 = .ok (.aload_n 0, 1) := by decide +kernel
theorem dX11_could_1 : decode cX11_could 1 = .ok (.iload_n 1, 1) := by decide +kernel
theorem dX11_could_2 : decode cX11_could 2 = .ok (.invokevirtual 116, 3) := by decide +kernel
theorem dX11_could_5 : decode cX11_could 5 = .ok (.ifCond .eq 11, 3) := by decide +kernel
theorem dX11_could_8 : decode cX11_could 8 = .ok (.aload_n 0, 1) := by decide +kernel
theorem dX11_could_9 : decode cX11_could 9 = .ok (.iload_n 2, 1) := by decide +kernel
theorem dX11_could_10 : decode cX11_could 10 = .ok (.invokevirtual 142, 3) := by decide +kernel
theorem dX11_could_13 : decode cX11_could 13 = .ok (.ifCond .ne 5, 3) := by decide +kernel
theorem dX11_could_16 : decode cX11_could 16 = .ok (.iconst (-1), 1) := by decide +kernel
theorem dX11_could_17 : decode cX11_could 17 = .ok (.ireturn, 1) := by decide +kernel
theorem dX11_could_18 : decode cX11_could 18 = .ok (.aload_n 0, 1) := by decide +kernel
theorem dX11_could_19 : decode cX11_could 19 = .ok (.iconst 0, 1) := by decide +kernel
theorem dX11_could_20 : decode cX11_could 20 = .ok (.bipush 11, 2) := by decide +kernel
theorem dX11_could_22 : decode cX11_could 22 = .ok (.invokevirtual 34, 3) := by decide +kernel
theorem dX11_could_25 : decode cX11_could 25 = .ok (.aload_n 0, 1) := by decide +kernel
theorem dX11_could_26 : decode cX11_could 26 = .ok (.getfield 41, 3) := by decide +kernel
theorem dX11_could_29 : decode cX11_could 29 = .ok (.istore_n 3, 1) := by decide +kernel
theorem dX11_could_30 : decode cX11_could 30 = .ok (.aload_n 0, 1) := by decide +kernel
theorem dX11_could_31 : decode cX11_could 31 = .ok (.getfield 44, 3) := by decide +kernel
theorem dX11_could_34 : decode cX11_could 34 = .ok (.istore 4, 2) := by decide +kernel
theorem dX11_could_36 : decode cX11_could 36 = .ok (.aload_n 0, 1) := by decide +kernel
theorem dX11_could_37 : decode cX11_could 37 = .ok (.getfield 47, 3) := by decide +kernel
theorem dX11_could_40 : decode cX11_could 40 = .ok (.istore 5, 2) := by decide +kernel
theorem dX11_could_42 : decode cX11_could 42 = .ok (.iconst 0, 1) := by decide +kernel
theorem dX11_could_43 : decode cX11_could 43 = .ok (.istore 6, 2) := by decide +kernel
theorem dX11_could_45 : decode cX11_could 45 = .ok (.iload 6, 2) := by decide +kernel
theorem dX11_could_47 : decode cX11_could 47 = .ok (.bipush 99, 2) := by decide +kernel
theorem dX11_could_49 : decode cX11_could 49 = .ok (.if_icmp .ge 18, 3) := by decide +kernel
theorem dX11_could_52 : decode cX11_could 52 = .ok (.aload_n 0, 1) := by decide +kernel
theorem dX11_could_53 : decode cX11_could 53 = .ok (.iload_n 1, 1) := by decide +kernel
theorem dX11_could_54 : decode cX11_could 54 = .ok (.iload_n 2, 1) := by decide +kernel
theorem dX11_could_55 : decode cX11_could 55 = .ok (.invokevirtual 159, 3) := by decide +kernel
theorem dX11_could_58 : decode cX11_could 58 = .ok (.ifCond .lt 9, 3) := by decide +kernel
theorem dX11_could_61 : decode cX11_could 61 = .ok (.iinc 6 1, 3) := by decide +kernel
theorem dX11_could_64 : decode cX11_could 64 = .ok (.goto (-19), 3) := by decide +kernel
theorem dX11_could_67 : decode cX11_could 67 = .ok (.aload_n 0, 1) := by decide +kernel
theorem dX11_could_68 : decode cX11_could 68 = .ok (.iload_n 3, 1) := by decide +kernel
theorem dX11_could_69 : decode cX11_could 69 = .ok (.putfield 41, 3) := by decide +kernel
theorem dX11_could_72 : decode cX11_could 72 = .ok (.aload_n 0, 1) := by decide +kernel
theorem dX11_could_73 : decode cX11_could 73 = .ok (.iload 4, 2) := by decide +kernel
theorem dX11_could_75 : decode cX11_could 75 = .ok (.putfield 44, 3) := by decide +kernel
theorem dX11_could_78 : decode cX11_could 78 = .ok (.aload_n 0, 1) := by decide +kernel
theorem dX11_could_79 : decode cX11_could 79 = .ok (.iload 5, 2) := by decide +kernel
theorem dX11_could_81 : decode cX11_could 81 = .ok (.putfield 47, 3) := by decide +kernel
theorem dX11_could_84 : decode cX11_could 84 = .ok (.aload_n 0, 1) := by decide +kernel
theorem dX11_could_85 : decode cX11_could 85 = .ok (.bipush 11, 2) := by decide +kernel
theorem dX11_could_87 : decode cX11_could 87 = .ok (.iconst 0, 1) := by decide +kernel
theorem dX11_could_88 : decode cX11_could 88 = .ok (.invokevirtual 34, 3) := by decide +kernel
theorem dX11_could_91 : decode cX11_could 91 = .ok (.iload 6, 2) := by decide +kernel
theorem dX11_could_93 : decode cX11_could 93 = .ok (.ireturn, 1) := by decide +kernel
set_option maxRecDepth 20000 in
theorem ggX11_takes_X11_isCart : GoodIn wsX11_takes wsX11_isCart := goodIn_r _ [6, 1, 7, 8, 5, 9, 30, 31, 32, 33, 34, 35, 36, 37, 38, 39, 40, 41, 42, 43, 44, 45, 46, 47, 48] (by decide +kernel) (by decide +kernel)
set_option maxRecDepth 20000 in
theorem gX11_takes_X11_isCart : GoodIn wsX11_takes (wsV RX11 116 RX11 yX11_isCart wsX11_isCart) := goodIn_app (goodIn_of _ (by decide +kernel)) ggX11_takes_X11_isCart
set_option maxRecDepth 20000 in
theorem ggX11_takes_X11_weightOf : GoodIn wsX11_takes wsX11_weightOf := goodIn_r _ [13, 14, 15, 16, 5, 17, 1, 18, 19, 20, 21, 22, 23, 24, 25, 30, 31, 32, 33, 34, 35, 36, 37, 38, 39, 40, 41, 42, 43, 44, 45, 46, 47, 48] (by decide +kernel) (by decide +kernel)
set_option maxRecDepth 20000 in
theorem gX11_takes_X11_weightOf : GoodIn wsX11_takes (wsV RX11 122 RX11 yX11_weightOf wsX11_weightOf) := goodIn_app (goodIn_of _ (by decide +kernel)) ggX11_takes_X11_weightOf
set_option maxRecDepth 20000 in
theorem ggX11_takes_X11_r : GoodIn wsX11_takes wsX11_r := goodIn_r _ [29, 1, 30, 31, 32, 33, 34, 35, 36, 37, 38, 39, 40, 41, 42, 43, 44, 45, 46, 47, 48] (by decide +kernel) (by decide +kernel)
set_option maxRecDepth 20000 in
theorem gX11_takes_X11_r : GoodIn wsX11_takes (wsV RX11 138 RX11 yX11_r wsX11_r) := goodIn_app (goodIn_of _ (by decide +kernel)) ggX11_takes_X11_r
theorem dX11_takes_0 : decode cX11_takes 0 = .ok (.aload_n 0, 1) := by decide +kernel
theorem dX11_takes_1 : decode cX11_takes 1 = .ok (.iload_n 1, 1) := by decide +kernel
theorem dX11_takes_2 : decode cX11_takes 2 = .ok (.invokevirtual 116, 3) := by decide +kernel
theorem dX11_takes_5 : decode cX11_takes 5 = .ok (.ifCond .ne 5, 3) := by decide +kernel
theorem dX11_takes_8 : decode cX11_takes 8 = .ok (.iconst (-1), 1) := by decide +kernel
theorem dX11_takes_9 : decode cX11_takes 9 = .ok (.ireturn, 1) := by decide +kernel
theorem dX11_takes_10 : decode cX11_takes 10 = .ok (.iconst 0, 1) := by decide +kernel
theorem dX11_takes_11 : decode cX11_takes 11 = .ok (.istore_n 2, 1) := by decide +kernel
theorem dX11_takes_12 : decode cX11_takes 12 = .ok (.iconst 0, 1) := by decide +kernel
theorem dX11_takes_13 : decode cX11_takes 13 = .ok (.istore_n 3, 1) := by decide +kernel
theorem dX11_takes_14 : decode cX11_takes 14 = .ok (.iload_n 3, 1) := by decide +kernel
theorem dX11_takes_15 : decode cX11_takes 15 = .ok (.aload_n 0, 1) := by decide +kernel
theorem dX11_takes_16 : decode cX11_takes 16 = .ok (.getfield 9, 3) := by decide +kernel
theorem dX11_takes_19 : decode cX11_takes 19 = .ok (.iconst 2, 1) := by decide +kernel
theorem dX11_takes_20 : decode cX11_takes 20 = .ok (.iaload, 1) := by decide +kernel
theorem dX11_takes_21 : decode cX11_takes 21 = .ok (.if_icmp .ge 33, 3) := by decide +kernel
theorem dX11_takes_24 : decode cX11_takes 24 = .ok (.iload_n 2, 1) := by decide +kernel
theorem dX11_takes_25 : decode cX11_takes 25 = .ok (.aload_n 0, 1) := by decide +kernel
theorem dX11_takes_26 : decode cX11_takes 26 = .ok (.iload_n 1, 1) := by decide +kernel
theorem dX11_takes_27 : decode cX11_takes 27 = .ok (.invokevirtual 122, 3) := by decide +kernel
theorem dX11_takes_30 : decode cX11_takes 30 = .ok (.aload_n 0, 1) := by decide +kernel
theorem dX11_takes_31 : decode cX11_takes 31 = .ok (.iload_n 3, 1) := by decide +kernel
theorem dX11_takes_32 : decode cX11_takes 32 = .ok (.iconst 0, 1) := by decide +kernel
theorem dX11_takes_33 : decode cX11_takes 33 = .ok (.invokevirtual 138, 3) := by decide +kernel
theorem dX11_takes_36 : decode cX11_takes 36 = .ok (.if_icmp .gt 9, 3) := by decide +kernel
theorem dX11_takes_39 : decode cX11_takes 39 = .ok (.iconst 1, 1) := by decide +kernel
theorem dX11_takes_40 : decode cX11_takes 40 = .ok (.iload_n 3, 1) := by decide +kernel
theorem dX11_takes_41 : decode cX11_takes 41 = .ok (.ishl, 1) := by decide +kernel
theorem dX11_takes_42 : decode cX11_takes 42 = .ok (.goto 4, 3) := by decide +kernel
theorem dX11_takes_45 : decode cX11_takes 45 = .ok (.iconst 0, 1) := by decide +kernel
theorem dX11_takes_46 : decode cX11_takes 46 = .ok (.ior, 1) := by decide +kernel
theorem dX11_takes_47 : decode cX11_takes 47 = .ok (.istore_n 2, 1) := by decide +kernel
theorem dX11_takes_48 : decode cX11_takes 48 = .ok (.iinc 3 1, 3) := by decide +kernel
theorem dX11_takes_51 : decode cX11_takes 51 = .ok (.goto (-37), 3) := by decide +kernel
theorem dX11_takes_54 : decode cX11_takes 54 = .ok (.iload_n 2, 1) := by decide +kernel
theorem dX11_takes_55 : decode cX11_takes 55 = .ok (.ireturn, 1) := by decide +kernel
set_option maxRecDepth 20000 in
theorem ggX11_cheapest_X11_isCart : GoodIn wsX11_cheapest wsX11_isCart := goodIn_r _ [6, 1, 7, 8, 5, 9, 35, 36, 37, 38, 39, 40, 41, 42, 43, 44, 45, 46, 47, 48, 49, 50, 51, 52, 53] (by decide +kernel) (by decide +kernel)
set_option maxRecDepth 20000 in
theorem gX11_cheapest_X11_isCart : GoodIn wsX11_cheapest (wsV RX11 116 RX11 yX11_isCart wsX11_isCart) := goodIn_app (goodIn_of _ (by decide +kernel)) ggX11_cheapest_X11_isCart
set_option maxRecDepth 20000 in
theorem ggX11_cheapest_X11_weightOf : GoodIn wsX11_cheapest wsX11_weightOf := goodIn_r _ [13, 14, 15, 16, 5, 17, 1, 18, 19, 20, 21, 22, 23, 24, 25, 35, 36, 37, 38, 39, 40, 41, 42, 43, 44, 45, 46, 47, 48, 49, 50, 51, 52, 53] (by decide +kernel) (by decide +kernel)
set_option maxRecDepth 20000 in
theorem gX11_cheapest_X11_weightOf : GoodIn wsX11_cheapest (wsV RX11 122 RX11 yX11_weightOf wsX11_weightOf) := goodIn_app (goodIn_of _ (by decide +kernel)) ggX11_cheapest_X11_weightOf
set_option maxRecDepth 20000 in
theorem ggX11_cheapest_X11_r : GoodIn wsX11_cheapest wsX11_r := goodIn_r _ [29, 1, 35, 36, 37, 38, 39, 40, 41, 42, 43, 44, 45, 46, 47, 48, 49, 50, 51, 52, 53] (by decide +kernel) (by decide +kernel)
set_option maxRecDepth 20000 in
theorem gX11_cheapest_X11_r : GoodIn wsX11_cheapest (wsV RX11 138 RX11 yX11_r wsX11_r) := goodIn_app (goodIn_of _ (by decide +kernel)) ggX11_cheapest_X11_r
set_option maxRecDepth 20000 in
theorem ggX11_cheapest_X11_onCart : GoodIn wsX11_cheapest wsX11_onCart := goodIn_r _ [17, 1, 18, 19, 20, 5, 21, 22, 23, 24, 25, 35, 36, 37, 38, 39, 40, 41, 42, 43, 44, 45, 46, 47, 48, 49, 50, 51, 52, 53] (by decide +kernel) (by decide +kernel)
set_option maxRecDepth 20000 in
theorem gX11_cheapest_X11_onCart : GoodIn wsX11_cheapest (wsV RX11 65 RX11 yX11_onCart wsX11_onCart) := goodIn_app (goodIn_of _ (by decide +kernel)) ggX11_cheapest_X11_onCart
set_option maxRecDepth 20000 in
theorem ggX11_cheapest_X11_tollOf : GoodIn wsX11_cheapest wsX11_tollOf := goodIn_r _ [33, 34, 14, 15, 16, 5, 17, 1, 18, 19, 20, 21, 22, 23, 24, 25, 26, 27, 28, 29, 35, 36, 37, 38, 39, 40, 41, 42, 43, 44, 45, 46, 47, 48, 49, 50, 51, 52, 53] (by decide +kernel) (by decide +kernel)
set_option maxRecDepth 20000 in
theorem gX11_cheapest_X11_tollOf : GoodIn wsX11_cheapest (wsV RX11 148 RX11 yX11_tollOf wsX11_tollOf) := goodIn_app (goodIn_of _ (by decide +kernel)) ggX11_cheapest_X11_tollOf
theorem dX11_cheapest_0 : decode cX11_cheapest 0 = .ok (.aload_n 0, 1) := by decide +kernel
theorem dX11_cheapest_1 : decode cX11_cheapest 1 = .ok (.iload_n 1, 1) := by decide +kernel
theorem dX11_cheapest_2 : decode cX11_cheapest 2 = .ok (.invokevirtual 116, 3) := by decide +kernel
theorem dX11_cheapest_5 : decode cX11_cheapest 5 = .ok (.ifCond .ne 5, 3) := by decide +kernel
theorem dX11_cheapest_8 : decode cX11_cheapest 8 = .ok (.iconst (-1), 1) := by decide +kernel
theorem dX11_cheapest_9 : decode cX11_cheapest 9 = .ok (.ireturn, 1) := by decide +kernel
theorem dX11_cheapest_10 : decode cX11_cheapest 10 = .ok (.bipush (-4), 2) := by decide +kernel
theorem dX11_cheapest_12 : decode cX11_cheapest 12 = .ok (.istore_n 2, 1) := by decide +kernel
theorem dX11_cheapest_13 : decode cX11_cheapest 13 = .ok (.iconst 0, 1) := by decide +kernel
theorem dX11_cheapest_14 : decode cX11_cheapest 14 = .ok (.istore_n 3, 1) := by decide +kernel
theorem dX11_cheapest_15 : decode cX11_cheapest 15 = .ok (.iload_n 3, 1) := by decide +kernel
theorem dX11_cheapest_16 : decode cX11_cheapest 16 = .ok (.aload_n 0, 1) := by decide +kernel
theorem dX11_cheapest_17 : decode cX11_cheapest 17 = .ok (.getfield 9, 3) := by decide +kernel
theorem dX11_cheapest_20 : decode cX11_cheapest 20 = .ok (.iconst 2, 1) := by decide +kernel
theorem dX11_cheapest_21 : decode cX11_cheapest 21 = .ok (.iaload, 1) := by decide +kernel
theorem dX11_cheapest_22 : decode cX11_cheapest 22 = .ok (.if_icmp .ge 119, 3) := by decide +kernel
theorem dX11_cheapest_25 : decode cX11_cheapest 25 = .ok (.aload_n 0, 1) := by decide +kernel
theorem dX11_cheapest_26 : decode cX11_cheapest 26 = .ok (.iload_n 1, 1) := by decide +kernel
theorem dX11_cheapest_27 : decode cX11_cheapest 27 = .ok (.invokevirtual 122, 3) := by decide +kernel
theorem dX11_cheapest_30 : decode cX11_cheapest 30 = .ok (.aload_n 0, 1) := by decide +kernel
theorem dX11_cheapest_31 : decode cX11_cheapest 31 = .ok (.iload_n 3, 1) := by decide +kernel
theorem dX11_cheapest_32 : decode cX11_cheapest 32 = .ok (.iconst 0, 1) := by decide +kernel
theorem dX11_cheapest_33 : decode cX11_cheapest 33 = .ok (.invokevirtual 138, 3) := by decide +kernel
theorem dX11_cheapest_36 : decode cX11_cheapest 36 = .ok (.if_icmp .gt 99, 3) := by decide +kernel
theorem dX11_cheapest_39 : decode cX11_cheapest 39 = .ok (.aload_n 0, 1) := by decide +kernel
theorem dX11_cheapest_40 : decode cX11_cheapest 40 = .ok (.iload_n 1, 1) := by decide +kernel
theorem dX11_cheapest_41 : decode cX11_cheapest 41 = .ok (.iconst 1, 1) := by decide +kernel
theorem dX11_cheapest_42 : decode cX11_cheapest 42 = .ok (.iconst 0, 1) := by decide +kernel
theorem dX11_cheapest_43 : decode cX11_cheapest 43 = .ok (.invokevirtual 65, 3) := by decide +kernel
theorem dX11_cheapest_46 : decode cX11_cheapest 46 = .ok (.ifCond .ne 6, 3) := by decide +kernel
theorem dX11_cheapest_49 : decode cX11_cheapest 49 = .ok (.goto 86, 3) := by decide +kernel
theorem dX11_cheapest_52 : decode cX11_cheapest 52 = .ok (.iload_n 2, 1) := by decide +kernel
theorem dX11_cheapest_53 : decode cX11_cheapest 53 = .ok (.bipush (-4), 2) := by decide +kernel
theorem dX11_cheapest_55 : decode cX11_cheapest 55 = .ok (.if_icmp .ne 7, 3) := by decide +kernel
theorem dX11_cheapest_58 : decode cX11_cheapest 58 = .ok (.iconst 1, 1) := by decide +kernel
theorem dX11_cheapest_59 : decode cX11_cheapest 59 = .ok (.goto 4, 3) := by decide +kernel
theorem dX11_cheapest_62 : decode cX11_cheapest 62 = .ok (.iconst 0, 1) := by decide +kernel
theorem dX11_cheapest_63 : decode cX11_cheapest 63 = .ok (.istore 4, 2) := by decide +kernel
theorem dX11_cheapest_65 : decode cX11_cheapest 65 = .ok (.iload 4, 2) := by decide +kernel
theorem dX11_cheapest_67 : decode cX11_cheapest 67 = .ok (.ifCond .ne 57, 3) := by decide +kernel
theorem dX11_cheapest_70 : decode cX11_cheapest 70 = .ok (.aload_n 0, 1) := by decide +kernel
theorem dX11_cheapest_71 : decode cX11_cheapest 71 = .ok (.iload_n 1, 1) := by decide +kernel
theorem dX11_cheapest_72 : decode cX11_cheapest 72 = .ok (.iload_n 3, 1) := by decide +kernel
theorem dX11_cheapest_73 : decode cX11_cheapest 73 = .ok (.invokevirtual 148, 3) := by decide +kernel
theorem dX11_cheapest_76 : decode cX11_cheapest 76 = .ok (.aload_n 0, 1) := by decide +kernel
theorem dX11_cheapest_77 : decode cX11_cheapest 77 = .ok (.iload_n 1, 1) := by decide +kernel
theorem dX11_cheapest_78 : decode cX11_cheapest 78 = .ok (.iload_n 2, 1) := by decide +kernel
theorem dX11_cheapest_79 : decode cX11_cheapest 79 = .ok (.invokevirtual 148, 3) := by decide +kernel
theorem dX11_cheapest_82 : decode cX11_cheapest 82 = .ok (.fcmp .g, 1) := by decide +kernel
theorem dX11_cheapest_83 : decode cX11_cheapest 83 = .ok (.ifCond .lt 34, 3) := by decide +kernel
theorem dX11_cheapest_86 : decode cX11_cheapest 86 = .ok (.aload_n 0, 1) := by decide +kernel
theorem dX11_cheapest_87 : decode cX11_cheapest 87 = .ok (.iload_n 1, 1) := by decide +kernel
theorem dX11_cheapest_88 : decode cX11_cheapest 88 = .ok (.iload_n 3, 1) := by decide +kernel
theorem dX11_cheapest_89 : decode cX11_cheapest 89 = .ok (.invokevirtual 148, 3) := by decide +kernel
theorem dX11_cheapest_92 : decode cX11_cheapest 92 = .ok (.aload_n 0, 1) := by decide +kernel
theorem dX11_cheapest_93 : decode cX11_cheapest 93 = .ok (.iload_n 1, 1) := by decide +kernel
theorem dX11_cheapest_94 : decode cX11_cheapest 94 = .ok (.iload_n 2, 1) := by decide +kernel
theorem dX11_cheapest_95 : decode cX11_cheapest 95 = .ok (.invokevirtual 148, 3) := by decide +kernel
theorem dX11_cheapest_98 : decode cX11_cheapest 98 = .ok (.fcmp .l, 1) := by decide +kernel
theorem dX11_cheapest_99 : decode cX11_cheapest 99 = .ok (.ifCond .ne 22, 3) := by decide +kernel
theorem dX11_cheapest_102 : decode cX11_cheapest 102 = .ok (.aload_n 0, 1) := by decide +kernel
theorem dX11_cheapest_103 : decode cX11_cheapest 103 = .ok (.iload_n 3, 1) := by decide +kernel
theorem dX11_cheapest_104 : decode cX11_cheapest 104 = .ok (.iconst 1, 1) := by decide +kernel
theorem dX11_cheapest_105 : decode cX11_cheapest 105 = .ok (.invokevirtual 138, 3) := by decide +kernel
theorem dX11_cheapest_108 : decode cX11_cheapest 108 = .ok (.aload_n 0, 1) := by decide +kernel
theorem dX11_cheapest_109 : decode cX11_cheapest 109 = .ok (.iload_n 2, 1) := by decide +kernel
theorem dX11_cheapest_110 : decode cX11_cheapest 110 = .ok (.iconst 1, 1) := by decide +kernel
theorem dX11_cheapest_111 : decode cX11_cheapest 111 = .ok (.invokevirtual 138, 3) := by decide +kernel
theorem dX11_cheapest_114 : decode cX11_cheapest 114 = .ok (.if_icmp .ge 7, 3) := by decide +kernel
theorem dX11_cheapest_117 : decode cX11_cheapest 117 = .ok (.iconst 1, 1) := by decide +kernel
theorem dX11_cheapest_118 : decode cX11_cheapest 118 = .ok (.goto 4, 3) := by decide +kernel
theorem dX11_cheapest_121 : decode cX11_cheapest 121 = .ok (.iconst 0, 1) := by decide +kernel
theorem dX11_cheapest_122 : decode cX11_cheapest 122 = .ok (.istore 4, 2) := by decide +kernel
theorem dX11_cheapest_124 : decode cX11_cheapest 124 = .ok (.iload 4, 2) := by decide +kernel
theorem dX11_cheapest_126 : decode cX11_cheapest 126 = .ok (.ifCond .eq 7, 3) := by decide +kernel
theorem dX11_cheapest_129 : decode cX11_cheapest 129 = .ok (.iload_n 3, 1) := by decide +kernel
theorem dX11_cheapest_130 : decode cX11_cheapest 130 = .ok (.goto 4, 3) := by decide +kernel
theorem dX11_cheapest_133 : decode cX11_cheapest 133 = .ok (.iload_n 2, 1) := by decide +kernel
theorem dX11_cheapest_134 : decode cX11_cheapest 134 = .ok (.istore_n 2, 1) := by decide +kernel
theorem dX11_cheapest_135 : decode cX11_cheapest 135 = .ok (.iinc 3 1, 3) := by decide +kernel
theorem dX11_cheapest_138 : decode cX11_cheapest 138 = .ok (.goto (-123), 3) := by decide +kernel
theorem dX11_cheapest_141 : decode cX11_cheapest 141 = .ok (.iload_n 2, 1) := by decide +kernel
theorem dX11_cheapest_142 : decode cX11_cheapest 142 = .ok (.ireturn, 1) := by decide +kernel
set_option maxRecDepth 20000 in
theorem ggX11_heaviest_X11_t : GoodIn wsX11_heaviest wsX11_t := goodIn_r _ [6, 1, 7, 8, 9, 10, 11, 12, 13, 14, 15, 16, 17, 18, 19, 20, 21, 22, 23, 24, 25] (by decide +kernel) (by decide +kernel)
set_option maxRecDepth 20000 in
theorem gX11_heaviest_X11_t : GoodIn wsX11_heaviest (wsV RX11 57 RX11 yX11_t wsX11_t) := goodIn_app (goodIn_of _ (by decide +kernel)) ggX11_heaviest_X11_t
theorem dX11_heaviest_0 : decode cX11_heaviest 0 = .ok (.iconst 0, 1) := by decide +kernel
theorem dX11_heaviest_1 : decode cX11_heaviest 1 = .ok (.istore_n 2, 1) := by decide +kernel
theorem dX11_heaviest_2 : decode cX11_heaviest 2 = .ok (.iload_n 2, 1) := by decide +kernel
theorem dX11_heaviest_3 : decode cX11_heaviest 3 = .ok (.aload_n 0, 1) := by decide +kernel
theorem dX11_heaviest_4 : decode cX11_heaviest 4 = .ok (.getfield 9, 3) := by decide +kernel
theorem dX11_heaviest_7 : decode cX11_heaviest 7 = .ok (.iconst 0, 1) := by decide +kernel
theorem dX11_heaviest_8 : decode cX11_heaviest 8 = .ok (.iaload, 1) := by decide +kernel
theorem dX11_heaviest_9 : decode cX11_heaviest 9 = .ok (.if_icmp .ge 104, 3) := by decide +kernel
theorem dX11_heaviest_12 : decode cX11_heaviest 12 = .ok (.iconst 0, 1) := by decide +kernel
theorem dX11_heaviest_13 : decode cX11_heaviest 13 = .ok (.istore_n 3, 1) := by decide +kernel
theorem dX11_heaviest_14 : decode cX11_heaviest 14 = .ok (.iconst 0, 1) := by decide +kernel
theorem dX11_heaviest_15 : decode cX11_heaviest 15 = .ok (.istore 4, 2) := by decide +kernel
theorem dX11_heaviest_17 : decode cX11_heaviest 17 = .ok (.iload 4, 2) := by decide +kernel
theorem dX11_heaviest_19 : decode cX11_heaviest 19 = .ok (.aload_n 0, 1) := by decide +kernel
theorem dX11_heaviest_20 : decode cX11_heaviest 20 = .ok (.getfield 9, 3) := by decide +kernel
theorem dX11_heaviest_23 : decode cX11_heaviest 23 = .ok (.iconst 0, 1) := by decide +kernel
theorem dX11_heaviest_24 : decode cX11_heaviest 24 = .ok (.iaload, 1) := by decide +kernel
theorem dX11_heaviest_25 : decode cX11_heaviest 25 = .ok (.if_icmp .ge 75, 3) := by decide +kernel
theorem dX11_heaviest_28 : decode cX11_heaviest 28 = .ok (.aload_n 0, 1) := by decide +kernel
theorem dX11_heaviest_29 : decode cX11_heaviest 29 = .ok (.iload 4, 2) := by decide +kernel
theorem dX11_heaviest_31 : decode cX11_heaviest 31 = .ok (.iconst 1, 1) := by decide +kernel
theorem dX11_heaviest_32 : decode cX11_heaviest 32 = .ok (.invokevirtual 57, 3) := by decide +kernel
theorem dX11_heaviest_35 : decode cX11_heaviest 35 = .ok (.aload_n 0, 1) := by decide +kernel
theorem dX11_heaviest_36 : decode cX11_heaviest 36 = .ok (.iload_n 2, 1) := by decide +kernel
theorem dX11_heaviest_37 : decode cX11_heaviest 37 = .ok (.iconst 1, 1) := by decide +kernel
theorem dX11_heaviest_38 : decode cX11_heaviest 38 = .ok (.invokevirtual 57, 3) := by decide +kernel
theorem dX11_heaviest_41 : decode cX11_heaviest 41 = .ok (.isub, 1) := by decide +kernel
theorem dX11_heaviest_42 : decode cX11_heaviest 42 = .ok (.istore 5, 2) := by decide +kernel
theorem dX11_heaviest_44 : decode cX11_heaviest 44 = .ok (.aload_n 0, 1) := by decide +kernel
theorem dX11_heaviest_45 : decode cX11_heaviest 45 = .ok (.iload_n 2, 1) := by decide +kernel
theorem dX11_heaviest_46 : decode cX11_heaviest 46 = .ok (.iconst 0, 1) := by decide +kernel
theorem dX11_heaviest_47 : decode cX11_heaviest 47 = .ok (.invokevirtual 57, 3) := by decide +kernel
theorem dX11_heaviest_50 : decode cX11_heaviest 50 = .ok (.aload_n 0, 1) := by decide +kernel
theorem dX11_heaviest_51 : decode cX11_heaviest 51 = .ok (.iload 4, 2) := by decide +kernel
theorem dX11_heaviest_53 : decode cX11_heaviest 53 = .ok (.iconst 0, 1) := by decide +kernel
theorem dX11_heaviest_54 : decode cX11_heaviest 54 = .ok (.invokevirtual 57, 3) := by decide +kernel
theorem dX11_heaviest_57 : decode cX11_heaviest 57 = .ok (.isub, 1) := by decide +kernel
theorem dX11_heaviest_58 : decode cX11_heaviest 58 = .ok (.istore 6, 2) := by decide +kernel
theorem dX11_heaviest_60 : decode cX11_heaviest 60 = .ok (.iload_n 3, 1) := by decide +kernel
theorem dX11_heaviest_61 : decode cX11_heaviest 61 = .ok (.iload 5, 2) := by decide +kernel
theorem dX11_heaviest_63 : decode cX11_heaviest 63 = .ok (.ifCond .gt 24, 3) := by decide +kernel
theorem dX11_heaviest_66 : decode cX11_heaviest 66 = .ok (.iload 5, 2) := by decide +kernel
theorem dX11_heaviest_68 : decode cX11_heaviest 68 = .ok (.ifCond .ne 23, 3) := by decide +kernel
theorem dX11_heaviest_71 : decode cX11_heaviest 71 = .ok (.iload 6, 2) := by decide +kernel
theorem dX11_heaviest_73 : decode cX11_heaviest 73 = .ok (.ifCond .gt 14, 3) := by decide +kernel
theorem dX11_heaviest_76 : decode cX11_heaviest 76 = .ok (.iload 6, 2) := by decide +kernel
theorem dX11_heaviest_78 : decode cX11_heaviest 78 = .ok (.ifCond .ne 13, 3) := by decide +kernel
theorem dX11_heaviest_81 : decode cX11_heaviest 81 = .ok (.iload 4, 2) := by decide +kernel
theorem dX11_heaviest_83 : decode cX11_heaviest 83 = .ok (.iload_n 2, 1) := by decide +kernel
theorem dX11_heaviest_84 : decode cX11_heaviest 84 = .ok (.if_icmp .ge 7, 3) := by decide +kernel
theorem dX11_heaviest_87 : decode cX11_heaviest 87 = .ok (.iconst 1, 1) := by decide +kernel
theorem dX11_heaviest_88 : decode cX11_heaviest 88 = .ok (.goto 4, 3) := by decide +kernel
theorem dX11_heaviest_91 : decode cX11_heaviest 91 = .ok (.iconst 0, 1) := by decide +kernel
theorem dX11_heaviest_92 : decode cX11_heaviest 92 = .ok (.iadd, 1) := by decide +kernel
theorem dX11_heaviest_93 : decode cX11_heaviest 93 = .ok (.istore_n 3, 1) := by decide +kernel
theorem dX11_heaviest_94 : decode cX11_heaviest 94 = .ok (.iinc 4 1, 3) := by decide +kernel
theorem dX11_heaviest_97 : decode cX11_heaviest 97 = .ok (.goto (-80), 3) := by decide +kernel
theorem dX11_heaviest_100 : decode cX11_heaviest 100 = .ok (.iload_n 3, 1) := by decide +kernel
theorem dX11_heaviest_101 : decode cX11_heaviest 101 = .ok (.iload_n 1, 1) := by decide +kernel
theorem dX11_heaviest_102 : decode cX11_heaviest 102 = .ok (.if_icmp .ne 5, 3) := by decide +kernel
theorem dX11_heaviest_105 : decode cX11_heaviest 105 = .ok (.iload_n 2, 1) := by decide +kernel
theorem dX11_heaviest_106 : decode cX11_heaviest 106 = .ok (.ireturn, 1) := by decide +kernel
theorem dX11_heaviest_107 : decode cX11_heaviest 107 = .ok (.iinc 2 1, 3) := by decide +kernel
theorem dX11_heaviest_110 : decode cX11_heaviest 110 = .ok (.goto (-108), 3) := by decide +kernel
theorem dX11_heaviest_113 : decode cX11_heaviest 113 = .ok (.iconst (-1), 1) := by decide +kernel
theorem dX11_heaviest_114 : decode cX11_heaviest 114 = .ok (.ireturn, 1) := by decide +kernel
set_option maxRecDepth 20000 in
theorem ggX11_fullest_X11_weightOf : GoodIn wsX11_fullest wsX11_weightOf := goodIn_r _ [6, 7, 8, 9, 5, 10, 1, 11, 12, 13, 14, 15, 16, 17, 18, 30, 31, 32, 33, 34, 35, 36, 37, 38, 39, 40, 41, 42, 43, 44, 45, 46, 47, 48] (by decide +kernel) (by decide +kernel)
set_option maxRecDepth 20000 in
theorem gX11_fullest_X11_weightOf : GoodIn wsX11_fullest (wsV RX11 122 RX11 yX11_weightOf wsX11_weightOf) := goodIn_app (goodIn_of _ (by decide +kernel)) ggX11_fullest_X11_weightOf
set_option maxRecDepth 20000 in
theorem ggX11_fullest_X11_imbalance : GoodIn wsX11_fullest wsX11_imbalance := goodIn_r _ [22, 23, 24, 25, 5, 26, 1, 15, 16, 17, 18, 11, 12, 13, 14, 27, 28, 29, 30, 31, 32, 33, 34, 35, 36, 37, 38, 39, 40, 41, 42, 43, 44, 45, 46, 47, 48] (by decide +kernel) (by decide +kernel)
set_option maxRecDepth 20000 in
theorem gX11_fullest_X11_imbalance : GoodIn wsX11_fullest (wsV RX11 131 RX11 yX11_imbalance wsX11_imbalance) := goodIn_app (goodIn_of _ (by decide +kernel)) ggX11_fullest_X11_imbalance
theorem dX11_fullest_0 : decode cX11_fullest 0 = .ok (.iconst 0, 1) := by decide +kernel
theorem dX11_fullest_1 : decode cX11_fullest 1 = .ok (.istore_n 2, 1) := by decide +kernel
theorem dX11_fullest_2 : decode cX11_fullest 2 = .ok (.iload_n 2, 1) := by decide +kernel
theorem dX11_fullest_3 : decode cX11_fullest 3 = .ok (.aload_n 0, 1) := by decide +kernel
theorem dX11_fullest_4 : decode cX11_fullest 4 = .ok (.getfield 9, 3) := by decide +kernel
theorem dX11_fullest_7 : decode cX11_fullest 7 = .ok (.iconst 1, 1) := by decide +kernel
theorem dX11_fullest_8 : decode cX11_fullest 8 = .ok (.iaload, 1) := by decide +kernel
theorem dX11_fullest_9 : decode cX11_fullest 9 = .ok (.if_icmp .ge 100, 3) := by decide +kernel
theorem dX11_fullest_12 : decode cX11_fullest 12 = .ok (.iconst 0, 1) := by decide +kernel
theorem dX11_fullest_13 : decode cX11_fullest 13 = .ok (.istore_n 3, 1) := by decide +kernel
theorem dX11_fullest_14 : decode cX11_fullest 14 = .ok (.iconst 0, 1) := by decide +kernel
theorem dX11_fullest_15 : decode cX11_fullest 15 = .ok (.istore 4, 2) := by decide +kernel
theorem dX11_fullest_17 : decode cX11_fullest 17 = .ok (.iload 4, 2) := by decide +kernel
theorem dX11_fullest_19 : decode cX11_fullest 19 = .ok (.aload_n 0, 1) := by decide +kernel
theorem dX11_fullest_20 : decode cX11_fullest 20 = .ok (.getfield 9, 3) := by decide +kernel
theorem dX11_fullest_23 : decode cX11_fullest 23 = .ok (.iconst 1, 1) := by decide +kernel
theorem dX11_fullest_24 : decode cX11_fullest 24 = .ok (.iaload, 1) := by decide +kernel
theorem dX11_fullest_25 : decode cX11_fullest 25 = .ok (.if_icmp .ge 71, 3) := by decide +kernel
theorem dX11_fullest_28 : decode cX11_fullest 28 = .ok (.aload_n 0, 1) := by decide +kernel
theorem dX11_fullest_29 : decode cX11_fullest 29 = .ok (.iload 4, 2) := by decide +kernel
theorem dX11_fullest_31 : decode cX11_fullest 31 = .ok (.invokevirtual 122, 3) := by decide +kernel
theorem dX11_fullest_34 : decode cX11_fullest 34 = .ok (.aload_n 0, 1) := by decide +kernel
theorem dX11_fullest_35 : decode cX11_fullest 35 = .ok (.iload_n 2, 1) := by decide +kernel
theorem dX11_fullest_36 : decode cX11_fullest 36 = .ok (.invokevirtual 122, 3) := by decide +kernel
theorem dX11_fullest_39 : decode cX11_fullest 39 = .ok (.isub, 1) := by decide +kernel
theorem dX11_fullest_40 : decode cX11_fullest 40 = .ok (.istore 5, 2) := by decide +kernel
theorem dX11_fullest_42 : decode cX11_fullest 42 = .ok (.aload_n 0, 1) := by decide +kernel
theorem dX11_fullest_43 : decode cX11_fullest 43 = .ok (.iload_n 2, 1) := by decide +kernel
theorem dX11_fullest_44 : decode cX11_fullest 44 = .ok (.invokevirtual 131, 3) := by decide +kernel
theorem dX11_fullest_47 : decode cX11_fullest 47 = .ok (.aload_n 0, 1) := by decide +kernel
theorem dX11_fullest_48 : decode cX11_fullest 48 = .ok (.iload 4, 2) := by decide +kernel
theorem dX11_fullest_50 : decode cX11_fullest 50 = .ok (.invokevirtual 131, 3) := by decide +kernel
theorem dX11_fullest_53 : decode cX11_fullest 53 = .ok (.isub, 1) := by decide +kernel
theorem dX11_fullest_54 : decode cX11_fullest 54 = .ok (.istore 6, 2) := by decide +kernel
theorem dX11_fullest_56 : decode cX11_fullest 56 = .ok (.iload_n 3, 1) := by decide +kernel
theorem dX11_fullest_57 : decode cX11_fullest 57 = .ok (.iload 5, 2) := by decide +kernel
theorem dX11_fullest_59 : decode cX11_fullest 59 = .ok (.ifCond .gt 24, 3) := by decide +kernel
theorem dX11_fullest_62 : decode cX11_fullest 62 = .ok (.iload 5, 2) := by decide +kernel
theorem dX11_fullest_64 : decode cX11_fullest 64 = .ok (.ifCond .ne 23, 3) := by decide +kernel
theorem dX11_fullest_67 : decode cX11_fullest 67 = .ok (.iload 6, 2) := by decide +kernel
theorem dX11_fullest_69 : decode cX11_fullest 69 = .ok (.ifCond .gt 14, 3) := by decide +kernel
theorem dX11_fullest_72 : decode cX11_fullest 72 = .ok (.iload 6, 2) := by decide +kernel
theorem dX11_fullest_74 : decode cX11_fullest 74 = .ok (.ifCond .ne 13, 3) := by decide +kernel
theorem dX11_fullest_77 : decode cX11_fullest 77 = .ok (.iload 4, 2) := by decide +kernel
theorem dX11_fullest_79 : decode cX11_fullest 79 = .ok (.iload_n 2, 1) := by decide +kernel
theorem dX11_fullest_80 : decode cX11_fullest 80 = .ok (.if_icmp .ge 7, 3) := by decide +kernel
theorem dX11_fullest_83 : decode cX11_fullest 83 = .ok (.iconst 1, 1) := by decide +kernel
theorem dX11_fullest_84 : decode cX11_fullest 84 = .ok (.goto 4, 3) := by decide +kernel
theorem dX11_fullest_87 : decode cX11_fullest 87 = .ok (.iconst 0, 1) := by decide +kernel
theorem dX11_fullest_88 : decode cX11_fullest 88 = .ok (.iadd, 1) := by decide +kernel
theorem dX11_fullest_89 : decode cX11_fullest 89 = .ok (.istore_n 3, 1) := by decide +kernel
theorem dX11_fullest_90 : decode cX11_fullest 90 = .ok (.iinc 4 1, 3) := by decide +kernel
theorem dX11_fullest_93 : decode cX11_fullest 93 = .ok (.goto (-76), 3) := by decide +kernel
theorem dX11_fullest_96 : decode cX11_fullest 96 = .ok (.iload_n 3, 1) := by decide +kernel
theorem dX11_fullest_97 : decode cX11_fullest 97 = .ok (.iload_n 1, 1) := by decide +kernel
theorem dX11_fullest_98 : decode cX11_fullest 98 = .ok (.if_icmp .ne 5, 3) := by decide +kernel
theorem dX11_fullest_101 : decode cX11_fullest 101 = .ok (.iload_n 2, 1) := by decide +kernel
theorem dX11_fullest_102 : decode cX11_fullest 102 = .ok (.ireturn, 1) := by decide +kernel
theorem dX11_fullest_103 : decode cX11_fullest 103 = .ok (.iinc 2 1, 3) := by decide +kernel
theorem dX11_fullest_106 : decode cX11_fullest 106 = .ok (.goto (-104), 3) := by decide +kernel
theorem dX11_fullest_109 : decode cX11_fullest 109 = .ok (.iconst (-1), 1) := by decide +kernel
theorem dX11_fullest_110 : decode cX11_fullest 110 = .ok (.ireturn, 1) := by decide +kernel
theorem dX11_writes_0 : decode cX11_writes 0 = .ok (.aload_n 0, 1) := by decide +kernel
theorem dX11_writes_1 : decode cX11_writes 1 = .ok (.getfield 20, 3) := by decide +kernel
theorem dX11_writes_4 : decode cX11_writes 4 = .ok (.aload_n 0, 1) := by decide +kernel
theorem dX11_writes_5 : decode cX11_writes 5 = .ok (.getfield 179, 3) := by decide +kernel
theorem dX11_writes_8 : decode cX11_writes 8 = .ok (.iload_n 1, 1) := by decide +kernel
theorem dX11_writes_9 : decode cX11_writes 9 = .ok (.i2c, 1) := by decide +kernel
theorem dX11_writes_10 : decode cX11_writes 10 = .ok (.castore, 1) := by decide +kernel
theorem dX11_writes_11 : decode cX11_writes 11 = .ok (.aload_n 0, 1) := by decide +kernel
theorem dX11_writes_12 : decode cX11_writes 12 = .ok (.dup, 1) := by decide +kernel
theorem dX11_writes_13 : decode cX11_writes 13 = .ok (.getfield 179, 3) := by decide +kernel
theorem dX11_writes_16 : decode cX11_writes 16 = .ok (.iconst 1, 1) := by decide +kernel
theorem dX11_writes_17 : decode cX11_writes 17 = .ok (.iadd, 1) := by decide +kernel
theorem dX11_writes_18 : decode cX11_writes 18 = .ok (.putfield 179, 3) := by decide +kernel
theorem dX11_writes_21 : decode cX11_writes 21 = .ok (.return_, 1) := by decide +kernel
set_option maxRecDepth 20000 in
theorem ggX11_writesNumber_X11_writesNumber : GoodIn wsX11_writesNumber wsX11_writesNumber := goodIn_r _ [0, 1, 2, 3, 4, 5, 6, 7, 8, 9, 10, 11, 12, 13, 14, 15, 16, 17, 18, 19, 20, 21, 22, 23, 24, 25, 26, 27, 28, 29] (by decide +kernel) (by decide +kernel)
set_option maxRecDepth 20000 in
theorem gX11_writesNumber_X11_writesNumber : GoodIn wsX11_writesNumber (wsV RX11 182 RX11 yX11_writesNumber wsX11_writesNumber) := goodIn_app (goodIn_of _ (by decide +kernel)) ggX11_writesNumber_X11_writesNumber
set_option maxRecDepth 20000 in
theorem ggX11_writesNumber_X11_writes : GoodIn wsX11_writesNumber wsX11_writes := goodIn_r _ [8, 9, 10, 11, 12, 13, 14, 15, 16, 17, 18, 19, 20, 21, 22, 23, 24, 25, 26, 27, 28, 29] (by decide +kernel) (by decide +kernel)
set_option maxRecDepth 20000 in
theorem gX11_writesNumber_X11_writes : GoodIn wsX11_writesNumber (wsV RX11 186 RX11 yX11_writes wsX11_writes) := goodIn_app (goodIn_of _ (by decide +kernel)) ggX11_writesNumber_X11_writes
theorem dX11_writesNumber_0 : decode cX11_writesNumber 0 = .ok (.iload_n 1, 1) := by decide +kernel
theorem dX11_writesNumber_1 : decode cX11_writesNumber 1 = .ok (.bipush 9, 2) := by decide +kernel
theorem dX11_writesNumber_3 : decode cX11_writesNumber 3 = .ok (.if_icmp .le 11, 3) := by decide +kernel
theorem dX11_writesNumber_6 : decode cX11_writesNumber 6 = .ok (.aload_n 0, 1) := by decide +kernel
theorem dX11_writesNumber_7 : decode cX11_writesNumber 7 = .ok (.iload_n 1, 1) := by decide +kernel
theorem dX11_writesNumber_8 : decode cX11_writesNumber 8 = .ok (.bipush 10, 2) := by decide +kernel
theorem dX11_writesNumber_10 : decode cX11_writesNumber 10 = .ok (.idiv, 1) := by decide +kernel
theorem dX11_writesNumber_11 : decode cX11_writesNumber 11 = .ok (.invokevirtual 182, 3) := by decide +kernel
theorem dX11_writesNumber_14 : decode cX11_writesNumber 14 = .ok (.aload_n 0, 1) := by decide +kernel
theorem dX11_writesNumber_15 : decode cX11_writesNumber 15 = .ok (.bipush 48, 2) := by decide +kernel
theorem dX11_writesNumber_17 : decode cX11_writesNumber 17 = .ok (.iload_n 1, 1) := by decide +kernel
theorem dX11_writesNumber_18 : decode cX11_writesNumber 18 = .ok (.bipush 10, 2) := by decide +kernel
theorem dX11_writesNumber_20 : decode cX11_writesNumber 20 = .ok (.irem, 1) := by decide +kernel
theorem dX11_writesNumber_21 : decode cX11_writesNumber 21 = .ok (.iadd, 1) := by decide +kernel
theorem dX11_writesNumber_22 : decode cX11_writesNumber 22 = .ok (.invokevirtual 186, 3) := by decide +kernel
theorem dX11_writesNumber_25 : decode cX11_writesNumber 25 = .ok (.return_, 1) := by decide +kernel
set_option maxRecDepth 20000 in
theorem ggX11_writesThing_X11_writes : GoodIn wsX11_writesThing wsX11_writes := goodIn_r _ [5, 6, 7, 12, 13, 14, 15, 16, 17, 18, 19, 20, 21, 22, 23, 24, 25, 26, 27, 28, 29, 30] (by decide +kernel) (by decide +kernel)
set_option maxRecDepth 20000 in
theorem gX11_writesThing_X11_writes : GoodIn wsX11_writesThing (wsV RX11 186 RX11 yX11_writes wsX11_writes) := goodIn_app (goodIn_of _ (by decide +kernel)) ggX11_writesThing_X11_writes
set_option maxRecDepth 20000 in
theorem ggX11_writesThing_X11_writesNumber : GoodIn wsX11_writesThing wsX11_writesNumber := goodIn_r _ [11, 8, 9, 10, 4, 1, 2, 3, 5, 6, 7, 12, 13, 14, 15, 16, 17, 18, 19, 20, 21, 22, 23, 24, 25, 26, 27, 28, 29, 30] (by decide +kernel) (by decide +kernel)
set_option maxRecDepth 20000 in
theorem gX11_writesThing_X11_writesNumber : GoodIn wsX11_writesThing (wsV RX11 182 RX11 yX11_writesNumber wsX11_writesNumber) := goodIn_app (goodIn_of _ (by decide +kernel)) ggX11_writesThing_X11_writesNumber
theorem dX11_writesThing_0 : decode cX11_writesThing 0 = .ok (.iload_n 1, 1) := by decide +kernel
theorem dX11_writesThing_1 : decode cX11_writesThing 1 = .ok (.bipush (-4), 2) := by decide +kernel
theorem dX11_writesThing_3 : decode cX11_writesThing 3 = .ok (.if_icmp .ne 10, 3) := by decide +kernel
theorem dX11_writesThing_6 : decode cX11_writesThing 6 = .ok (.aload_n 0, 1) := by decide +kernel
theorem dX11_writesThing_7 : decode cX11_writesThing 7 = .ok (.bipush 46, 2) := by decide +kernel
theorem dX11_writesThing_9 : decode cX11_writesThing 9 = .ok (.invokevirtual 186, 3) := by decide +kernel
theorem dX11_writesThing_12 : decode cX11_writesThing 12 = .ok (.return_, 1) := by decide +kernel
theorem dX11_writesThing_13 : decode cX11_writesThing 13 = .ok (.aload_n 0, 1) := by decide +kernel
theorem dX11_writesThing_14 : decode cX11_writesThing 14 = .ok (.iload_n 1, 1) := by decide +kernel
theorem dX11_writesThing_15 : decode cX11_writesThing 15 = .ok (.invokevirtual 182, 3) := by decide +kernel
theorem dX11_writesThing_18 : decode cX11_writesThing 18 = .ok (.return_, 1) := by decide +kernel
set_option maxRecDepth 20000 in
theorem ggX11_write_X11_isCart : GoodIn wsX11_write wsX11_isCart := goodIn_r _ [6, 7, 8, 9, 5, 10, 36, 37, 38, 39, 40, 41, 42, 43, 44, 45, 46, 47, 48, 49, 50, 51, 52, 53, 54] (by decide +kernel) (by decide +kernel)
set_option maxRecDepth 20000 in
theorem gX11_write_X11_isCart : GoodIn wsX11_write (wsV RX11 116 RX11 yX11_isCart wsX11_isCart) := goodIn_app (goodIn_of _ (by decide +kernel)) ggX11_write_X11_isCart
set_option maxRecDepth 20000 in
theorem ggX11_write_X11_writesNumber : GoodIn wsX11_write wsX11_writesNumber := goodIn_r _ [14, 11, 12, 13, 5, 15, 16, 17, 18, 19, 1, 36, 37, 38, 39, 40, 41, 42, 43, 44, 45, 46, 47, 48, 49, 50, 51, 52, 53, 54] (by decide +kernel) (by decide +kernel)
set_option maxRecDepth 20000 in
theorem gX11_write_X11_writesNumber : GoodIn wsX11_write (wsV RX11 182 RX11 yX11_writesNumber wsX11_writesNumber) := goodIn_app (goodIn_of _ (by decide +kernel)) ggX11_write_X11_writesNumber
set_option maxRecDepth 20000 in
theorem ggX11_write_X11_writes : GoodIn wsX11_write wsX11_writes := goodIn_r _ [18, 19, 1, 36, 37, 38, 39, 40, 41, 42, 43, 44, 45, 46, 47, 48, 49, 50, 51, 52, 53, 54] (by decide +kernel) (by decide +kernel)
set_option maxRecDepth 20000 in
theorem gX11_write_X11_writes : GoodIn wsX11_write (wsV RX11 186 RX11 yX11_writes wsX11_writes) := goodIn_app (goodIn_of _ (by decide +kernel)) ggX11_write_X11_writes
set_option maxRecDepth 20000 in
theorem ggX11_write_X11_thingAt : GoodIn wsX11_write wsX11_thingAt := goodIn_r _ [23, 7, 24, 25, 26, 5, 27, 28, 29, 30, 31, 36, 37, 38, 39, 40, 41, 42, 43, 44, 45, 46, 47, 48, 49, 50, 51, 52, 53, 54] (by decide +kernel) (by decide +kernel)
set_option maxRecDepth 20000 in
theorem gX11_write_X11_thingAt : GoodIn wsX11_write (wsV RX11 119 RX11 yX11_thingAt wsX11_thingAt) := goodIn_app (goodIn_of _ (by decide +kernel)) ggX11_write_X11_thingAt
set_option maxRecDepth 20000 in
theorem ggX11_write_X11_writesThing : GoodIn wsX11_write wsX11_writesThing := goodIn_r _ [35, 15, 16, 17, 5, 18, 19, 1, 11, 12, 13, 14, 36, 37, 38, 39, 40, 41, 42, 43, 44, 45, 46, 47, 48, 49, 50, 51, 52, 53, 54] (by decide +kernel) (by decide +kernel)
set_option maxRecDepth 20000 in
theorem gX11_write_X11_writesThing : GoodIn wsX11_write (wsV RX11 189 RX11 yX11_writesThing wsX11_writesThing) := goodIn_app (goodIn_of _ (by decide +kernel)) ggX11_write_X11_writesThing
theorem dX11_write_0 : decode cX11_write 0 = .ok (.aload_n 0, 1) := by decide +kernel
theorem dX11_write_1 : decode cX11_write 1 = .ok (.iload_n 1, 1) := by decide +kernel
theorem dX11_write_2 : decode cX11_write 2 = .ok (.invokevirtual 116, 3) := by decide +kernel
theorem dX11_write_5 : decode cX11_write 5 = .ok (.ifCond .ne 5, 3) := by decide +kernel
theorem dX11_write_8 : decode cX11_write 8 = .ok (.iconst (-1), 1) := by decide +kernel
theorem dX11_write_9 : decode cX11_write 9 = .ok (.ireturn, 1) := by decide +kernel
theorem dX11_write_10 : decode cX11_write 10 = .ok (.aload_n 0, 1) := by decide +kernel
theorem dX11_write_11 : decode cX11_write 11 = .ok (.iconst 0, 1) := by decide +kernel
theorem dX11_write_12 : decode cX11_write 12 = .ok (.putfield 179, 3) := by decide +kernel
theorem dX11_write_15 : decode cX11_write 15 = .ok (.aload_n 0, 1) := by decide +kernel
theorem dX11_write_16 : decode cX11_write 16 = .ok (.iload_n 1, 1) := by decide +kernel
theorem dX11_write_17 : decode cX11_write 17 = .ok (.invokevirtual 182, 3) := by decide +kernel
theorem dX11_write_20 : decode cX11_write 20 = .ok (.aload_n 0, 1) := by decide +kernel
theorem dX11_write_21 : decode cX11_write 21 = .ok (.bipush 91, 2) := by decide +kernel
theorem dX11_write_23 : decode cX11_write 23 = .ok (.invokevirtual 186, 3) := by decide +kernel
theorem dX11_write_26 : decode cX11_write 26 = .ok (.iconst 0, 1) := by decide +kernel
theorem dX11_write_27 : decode cX11_write 27 = .ok (.istore_n 2, 1) := by decide +kernel
theorem dX11_write_28 : decode cX11_write 28 = .ok (.iload_n 2, 1) := by decide +kernel
theorem dX11_write_29 : decode cX11_write 29 = .ok (.bipush 6, 2) := by decide +kernel
theorem dX11_write_31 : decode cX11_write 31 = .ok (.if_icmp .ge 29, 3) := by decide +kernel
theorem dX11_write_34 : decode cX11_write 34 = .ok (.iload_n 2, 1) := by decide +kernel
theorem dX11_write_35 : decode cX11_write 35 = .ok (.ifCond .le 9, 3) := by decide +kernel
theorem dX11_write_38 : decode cX11_write 38 = .ok (.aload_n 0, 1) := by decide +kernel
theorem dX11_write_39 : decode cX11_write 39 = .ok (.bipush 44, 2) := by decide +kernel
theorem dX11_write_41 : decode cX11_write 41 = .ok (.invokevirtual 186, 3) := by decide +kernel
theorem dX11_write_44 : decode cX11_write 44 = .ok (.aload_n 0, 1) := by decide +kernel
theorem dX11_write_45 : decode cX11_write 45 = .ok (.aload_n 0, 1) := by decide +kernel
theorem dX11_write_46 : decode cX11_write 46 = .ok (.iload_n 1, 1) := by decide +kernel
theorem dX11_write_47 : decode cX11_write 47 = .ok (.iload_n 2, 1) := by decide +kernel
theorem dX11_write_48 : decode cX11_write 48 = .ok (.invokevirtual 119, 3) := by decide +kernel
theorem dX11_write_51 : decode cX11_write 51 = .ok (.invokevirtual 189, 3) := by decide +kernel
theorem dX11_write_54 : decode cX11_write 54 = .ok (.iinc 2 1, 3) := by decide +kernel
