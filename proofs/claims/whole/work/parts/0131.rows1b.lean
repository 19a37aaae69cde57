set_option maxRecDepth 20000 in
theorem ggX10_read_X4_findFault : GoodIn wsX10_read wsX4_findFault := goodIn_r _ [7, 8, 9, 10, 11, 12, 6, 13, 14, 15, 16, 17, 18, 19, 20, 21, 22, 23, 24, 25, 26, 27, 28, 29, 30, 31, 32, 33, 34, 35, 36, 37, 38, 39, 40, 41, 42, 43, 44, 45, 46, 47, 48, 49, 50, 51, 52, 53, 54, 55, 56, 57, 58, 59, 60, 61, 62, 63, 64, 65, 66, 67, 68, 69, 70, 71, 72, 73, 74, 75, 76, 77, 78, 79, 80, 81, 82, 83, 84, 85, 86, 87, 339, 340, 341, 342, 343] (by decide +kernel) (by decide +kernel)
set_option maxRecDepth 20000 in
theorem gX10_read_X4_findFault : GoodIn wsX10_read (wsV RX10 135 RX4 yX4_findFault wsX4_findFault) := goodIn_app (goodIn_of _ (by decide +kernel)) ggX10_read_X4_findFault
set_option maxRecDepth 20000 in
theorem ggX10_read_X10_carryOutAll : GoodIn wsX10_read wsX10_carryOutAll := goodIn_r _ [92, 93, 94, 1, 95, 96, 97, 98, 99, 100, 101, 102, 103, 104, 105, 106, 107, 108, 109, 110, 111, 112, 113, 114, 115, 116, 117, 118, 119, 120, 121, 122, 123, 124, 125, 126, 127, 128, 129, 130, 131, 11, 12, 6, 13, 14, 15, 16, 8, 17, 18, 19, 20, 21, 22, 23, 24, 25, 26, 27, 28, 29, 30, 31, 32, 33, 34, 35, 36, 37, 38, 39, 40, 41, 42, 43, 44, 45, 46, 47, 48, 49, 50, 51, 52, 53, 54, 55, 56, 57, 58, 59, 60, 61, 62, 63, 64, 65, 66, 67, 68, 69, 70, 71, 72, 73, 74, 75, 76, 77, 78, 9, 79, 80, 81, 82, 83, 84, 85, 86, 87, 132, 133, 134, 91, 135, 136, 137, 138, 139, 140, 141, 142, 143, 144, 145, 146, 147, 148, 149, 150, 151, 152, 153, 154, 155, 156, 157, 158, 159, 160, 161, 162, 163, 164, 165, 166, 167, 168, 169, 170, 171, 172, 173, 174, 175, 176, 177, 178, 179, 180, 181, 182, 183, 184, 185, 186, 187, 188, 189, 190, 191, 192, 193, 194, 195, 196, 197, 198, 199, 200, 201, 202, 203, 204, 205, 206, 207, 208, 209, 210, 211, 212, 213, 214, 215, 216, 217, 218, 219, 220, 221, 222, 223, 224, 225, 226, 227, 228, 229, 230, 231, 232, 233, 234, 235, 236, 237, 238, 239, 240, 241, 242, 243, 244, 245, 246, 247, 248, 249, 250, 251, 252, 253, 254, 255, 256, 257, 258, 259, 260, 261, 262, 263, 264, 265, 266, 267, 268, 269, 270, 271, 272, 273, 274, 275, 276, 277, 278, 279, 280, 281, 282, 283, 284, 285, 286, 287, 288, 289, 290, 291, 292, 293, 294, 295, 296, 297, 298, 299, 300, 301, 302, 303, 304, 305, 306, 307, 308, 309, 310, 311, 312, 313, 314, 315, 316, 317, 318, 319, 320, 321, 322, 327, 328, 329, 330, 331, 332, 333, 334, 335, 336, 337, 338, 339, 340, 341, 342, 343, 344, 345, 346, 347, 348, 349, 350, 351, 352, 353, 354, 355, 356, 357, 358, 359, 360, 361, 362, 363, 364, 365, 366, 367, 368, 369, 370] (by decide +kernel) (by decide +kernel)
set_option maxRecDepth 20000 in
theorem gX10_read_X10_carryOutAll : GoodIn wsX10_read (wsV RX10 139 RX10 yX10_carryOutAll wsX10_carryOutAll) := goodIn_app (goodIn_of _ (by decide +kernel)) ggX10_read_X10_carryOutAll
set_option maxRecDepth 20000 in
theorem ggX10_read_X4_makeEmpty : GoodIn wsX10_read wsX4_makeEmpty := goodIn_r _ [326, 9, 339, 340, 341, 342, 343] (by decide +kernel) (by decide +kernel)
set_option maxRecDepth 20000 in
theorem gX10_read_X4_makeEmpty : GoodIn wsX10_read (wsV RX10 142 RX4 yX4_makeEmpty wsX4_makeEmpty) := goodIn_app (goodIn_of _ (by decide +kernel)) ggX10_read_X4_makeEmpty
theorem dX10_read_0 : decode cX10_read 0 = .ok (.aload_n 0, 1) := by decide +kernel
theorem dX10_read_1 : decode cX10_read 1 = .ok (.getfield 74, 3) := by decide +kernel
theorem dX10_read_4 : decode cX10_read 4 = .ok (.invokevirtual 135, 3) := by decide +kernel
theorem dX10_read_7 : decode cX10_read 7 = .ok (.istore_n 1, 1) := by decide +kernel
theorem dX10_read_8 : decode cX10_read 8 = .ok (.bipush (-2), 2) := by decide +kernel
theorem dX10_read_10 : decode cX10_read 10 = .ok (.istore_n 2, 1) := by decide +kernel
theorem dX10_read_11 : decode cX10_read 11 = .ok (.iload_n 1, 1) := by decide +kernel
theorem dX10_read_12 : decode cX10_read 12 = .ok (.iconst (-1), 1) := by decide +kernel
theorem dX10_read_13 : decode cX10_read 13 = .ok (.if_icmp .ne 11, 3) := by decide +kernel
theorem dX10_read_16 : decode cX10_read 16 = .ok (.aload_n 0, 1) := by decide +kernel
theorem dX10_read_17 : decode cX10_read 17 = .ok (.invokevirtual 139, 3) := by decide +kernel
theorem dX10_read_20 : decode cX10_read 20 = .ok (.istore_n 2, 1) := by decide +kernel
theorem dX10_read_21 : decode cX10_read 21 = .ok (.goto 8, 3) := by decide +kernel
theorem dX10_read_24 : decode cX10_read 24 = .ok (.aload_n 0, 1) := by decide +kernel
theorem dX10_read_25 : decode cX10_read 25 = .ok (.iload_n 1, 1) := by decide +kernel
theorem dX10_read_26 : decode cX10_read 26 = .ok (.putfield 78, 3) := by decide +kernel
theorem dX10_read_29 : decode cX10_read 29 = .ok (.aload_n 0, 1) := by decide +kernel
theorem dX10_read_30 : decode cX10_read 30 = .ok (.getfield 74, 3) := by decide +kernel
theorem dX10_read_33 : decode cX10_read 33 = .ok (.invokevirtual 142, 3) := by decide +kernel
theorem dX10_read_36 : decode cX10_read 36 = .ok (.iload_n 2, 1) := by decide +kernel
theorem dX10_read_37 : decode cX10_read 37 = .ok (.ireturn, 1) := by decide +kernel
set_option maxRecDepth 20000 in
theorem ggX10_carryOutAll_X3_begin : GoodIn wsX10_carryOutAll wsX3_begin := goodIn_r _ [12, 13, 14, 15, 16, 17, 18, 19, 20, 21, 22, 23, 24, 25, 26, 27, 28, 29, 30, 31, 32, 33, 34, 35, 36, 37, 38, 39, 330, 331, 332, 333, 334, 335, 336, 337, 338, 339, 340, 341, 342, 343, 344, 345, 346, 347, 348] (by decide +kernel) (by decide +kernel)
set_option maxRecDepth 20000 in
theorem gX10_carryOutAll_X3_begin : GoodIn wsX10_carryOutAll (wsV RX10 102 RX3 yX3_begin wsX3_begin) := goodIn_app (goodIn_of _ (by decide +kernel)) ggX10_carryOutAll_X3_begin
set_option maxRecDepth 20000 in
theorem ggX10_carryOutAll_X4_takeCommand : GoodIn wsX10_carryOutAll wsX4_takeCommand := goodIn_r _ [44, 45, 46, 47, 48, 49, 50, 51, 52, 53, 54, 55, 43, 56, 57, 58, 59, 60, 61, 62, 63, 64, 65, 66, 67, 68, 69, 70, 71, 72, 73, 74, 75, 76, 77, 78, 79, 80, 81, 82, 83, 84, 85, 86, 87, 88, 89, 90, 91, 92, 93, 94, 95, 96, 97, 98, 99, 100, 101, 102, 103, 104, 105, 106, 107, 108, 109, 110, 111, 112, 113, 114, 115, 116, 117, 118, 119, 120, 325, 326, 327, 328, 329] (by decide +kernel) (by decide +kernel)
set_option maxRecDepth 20000 in
theorem gX10_carryOutAll_X4_takeCommand : GoodIn wsX10_carryOutAll (wsV RX10 143 RX4 yX4_takeCommand wsX4_takeCommand) := goodIn_app (goodIn_of _ (by decide +kernel)) ggX10_carryOutAll_X4_takeCommand
set_option maxRecDepth 20000 in
theorem ggX10_carryOutAll_X10_carryOut : GoodIn wsX10_carryOutAll wsX10_carryOut := goodIn_r _ [125, 126, 127, 128, 129, 130, 131, 132, 133, 134, 135, 136, 137, 138, 139, 140, 141, 142, 143, 144, 145, 146, 147, 148, 149, 150, 151, 152, 153, 154, 155, 156, 157, 158, 159, 160, 161, 162, 163, 164, 165, 18, 166, 31, 167, 168, 169, 170, 171, 172, 173, 174, 175, 176, 177, 178, 179, 180, 181, 182, 183, 184, 185, 186, 20, 187, 188, 189, 190, 29, 191, 192, 193, 194, 27, 28, 195, 196, 197, 198, 21, 26, 199, 200, 201, 202, 203, 204, 205, 206, 207, 208, 209, 210, 211, 212, 213, 214, 215, 216, 217, 218, 219, 51, 220, 221, 222, 223, 224, 225, 226, 227, 228, 229, 230, 231, 232, 233, 234, 235, 236, 237, 238, 239, 240, 33, 241, 242, 243, 244, 245, 246, 247, 248, 34, 249, 250, 251, 252, 253, 254, 255, 256, 257, 258, 259, 260, 261, 262, 263, 264, 265, 266, 267, 268, 269, 270, 271, 272, 273, 274, 275, 276, 277, 278, 279, 280, 281, 282, 283, 284, 285, 286, 287, 288, 289, 290, 291, 292, 293, 294, 313, 314, 315, 316, 317, 318, 319, 320, 321, 322, 323, 324, 349, 350, 351, 333, 334, 335, 336, 337, 338, 339, 340, 341, 342, 343, 344, 345, 346, 347, 348, 352, 353, 354, 355, 356] (by decide +kernel) (by decide +kernel)
set_option maxRecDepth 20000 in
theorem gX10_carryOutAll_X10_carryOut : GoodIn wsX10_carryOutAll (wsV RX10 155 RX10 yX10_carryOut wsX10_carryOut) := goodIn_app (goodIn_of _ (by decide +kernel)) ggX10_carryOutAll_X10_carryOut
set_option maxRecDepth 20000 in
theorem ggX10_carryOutAll_X3_takeBack : GoodIn wsX10_carryOutAll wsX3_takeBack := goodIn_r _ [298, 13, 14, 15, 16, 17, 18, 19, 20, 21, 22, 23, 24, 25, 26, 27, 28, 29, 30, 31, 32, 33, 34, 35, 36, 37, 38, 39, 330, 331, 332, 333, 334, 335, 336, 337, 338, 339, 340, 341, 342, 343, 344, 345, 346, 347, 348] (by decide +kernel) (by decide +kernel)
set_option maxRecDepth 20000 in
theorem gX10_carryOutAll_X3_takeBack : GoodIn wsX10_carryOutAll (wsV RX10 159 RX3 yX3_takeBack wsX3_takeBack) := goodIn_app (goodIn_of _ (by decide +kernel)) ggX10_carryOutAll_X3_takeBack
set_option maxRecDepth 20000 in
theorem ggX10_carryOutAll_X6_refuseText : GoodIn wsX10_carryOutAll wsX6_refuseText := goodIn_r _ [302, 152, 153, 154, 155, 303, 148, 149, 150, 151, 352, 353, 354, 355] (by decide +kernel) (by decide +kernel)
set_option maxRecDepth 20000 in
theorem gX10_carryOutAll_X6_refuseText : GoodIn wsX10_carryOutAll (wsV RX10 162 RX6 yX6_refuseText wsX6_refuseText) := goodIn_app (goodIn_of _ (by decide +kernel)) ggX10_carryOutAll_X6_refuseText
set_option maxRecDepth 20000 in
theorem ggX10_carryOutAll_X6_refuse : GoodIn wsX10_carryOutAll wsX6_refuse := goodIn_r _ [151, 152, 153, 154, 155, 352, 353, 354, 355] (by decide +kernel) (by decide +kernel)
set_option maxRecDepth 20000 in
theorem gX10_carryOutAll_X6_refuse : GoodIn wsX10_carryOutAll (wsV RX10 165 RX6 yX6_refuse wsX6_refuse) := goodIn_app (goodIn_of _ (by decide +kernel)) ggX10_carryOutAll_X6_refuse
set_option maxRecDepth 20000 in
theorem ggX10_carryOutAll_X3_settle : GoodIn wsX10_carryOutAll wsX3_settle := goodIn_r _ [308, 14, 309, 310, 311, 51, 312, 330, 331, 332] (by decide +kernel) (by decide +kernel)
set_option maxRecDepth 20000 in
theorem gX10_carryOutAll_X3_settle : GoodIn wsX10_carryOutAll (wsV RX10 109 RX3 yX3_settle wsX3_settle) := goodIn_app (goodIn_of _ (by decide +kernel)) ggX10_carryOutAll_X3_settle
theorem dX10_carryOutAll_0 : decode cX10_carryOutAll 0 = .ok (.aload_n 0, 1) := by decide +kernel
theorem dX10_carryOutAll_1 : decode cX10_carryOutAll 1 = .ok (.getfield 26, 3) := by decide +kernel
theorem dX10_carryOutAll_4 : decode cX10_carryOutAll 4 = .ok (.aload_n 0, 1) := by decide +kernel
theorem dX10_carryOutAll_5 : decode cX10_carryOutAll 5 = .ok (.getfield 10, 3) := by decide +kernel
theorem dX10_carryOutAll_8 : decode cX10_carryOutAll 8 = .ok (.invokevirtual 102, 3) := by decide +kernel
theorem dX10_carryOutAll_11 : decode cX10_carryOutAll 11 = .ok (.iconst 0, 1) := by decide +kernel
theorem dX10_carryOutAll_12 : decode cX10_carryOutAll 12 = .ok (.istore_n 1, 1) := by decide +kernel
theorem dX10_carryOutAll_13 : decode cX10_carryOutAll 13 = .ok (.iconst 0, 1) := by decide +kernel
theorem dX10_carryOutAll_14 : decode cX10_carryOutAll 14 = .ok (.istore_n 2, 1) := by decide +kernel
theorem dX10_carryOutAll_15 : decode cX10_carryOutAll 15 = .ok (.iload_n 2, 1) := by decide +kernel
theorem dX10_carryOutAll_16 : decode cX10_carryOutAll 16 = .ok (.bipush 60, 2) := by decide +kernel
theorem dX10_carryOutAll_18 : decode cX10_carryOutAll 18 = .ok (.if_icmp .ge 112, 3) := by decide +kernel
theorem dX10_carryOutAll_21 : decode cX10_carryOutAll 21 = .ok (.aload_n 0, 1) := by decide +kernel
theorem dX10_carryOutAll_22 : decode cX10_carryOutAll 22 = .ok (.getfield 74, 3) := by decide +kernel
theorem dX10_carryOutAll_25 : decode cX10_carryOutAll 25 = .ok (.iload_n 1, 1) := by decide +kernel
theorem dX10_carryOutAll_26 : decode cX10_carryOutAll 26 = .ok (.invokevirtual 143, 3) := by decide +kernel
theorem dX10_carryOutAll_29 : decode cX10_carryOutAll 29 = .ok (.ifCond .eq 101, 3) := by decide +kernel
theorem dX10_carryOutAll_32 : decode cX10_carryOutAll 32 = .ok (.aload_n 0, 1) := by decide +kernel
theorem dX10_carryOutAll_33 : decode cX10_carryOutAll 33 = .ok (.aload_n 0, 1) := by decide +kernel
theorem dX10_carryOutAll_34 : decode cX10_carryOutAll 34 = .ok (.getfield 74, 3) := by decide +kernel
theorem dX10_carryOutAll_37 : decode cX10_carryOutAll 37 = .ok (.getfield 147, 3) := by decide +kernel
theorem dX10_carryOutAll_40 : decode cX10_carryOutAll 40 = .ok (.aload_n 0, 1) := by decide +kernel
theorem dX10_carryOutAll_41 : decode cX10_carryOutAll 41 = .ok (.getfield 74, 3) := by decide +kernel
theorem dX10_carryOutAll_44 : decode cX10_carryOutAll 44 = .ok (.getfield 151, 3) := by decide +kernel
theorem dX10_carryOutAll_47 : decode cX10_carryOutAll 47 = .ok (.iconst 0, 1) := by decide +kernel
theorem dX10_carryOutAll_48 : decode cX10_carryOutAll 48 = .ok (.iaload, 1) := by decide +kernel
theorem dX10_carryOutAll_49 : decode cX10_carryOutAll 49 = .ok (.aload_n 0, 1) := by decide +kernel
theorem dX10_carryOutAll_50 : decode cX10_carryOutAll 50 = .ok (.getfield 74, 3) := by decide +kernel
theorem dX10_carryOutAll_53 : decode cX10_carryOutAll 53 = .ok (.getfield 151, 3) := by decide +kernel
theorem dX10_carryOutAll_56 : decode cX10_carryOutAll 56 = .ok (.iconst 1, 1) := by decide +kernel
theorem dX10_carryOutAll_57 : decode cX10_carryOutAll 57 = .ok (.iaload, 1) := by decide +kernel
theorem dX10_carryOutAll_58 : decode cX10_carryOutAll 58 = .ok (.aload_n 0, 1) := by decide +kernel
theorem dX10_carryOutAll_59 : decode cX10_carryOutAll 59 = .ok (.getfield 74, 3) := by decide +kernel
theorem dX10_carryOutAll_62 : decode cX10_carryOutAll 62 = .ok (.getfield 151, 3) := by decide +kernel
theorem dX10_carryOutAll_65 : decode cX10_carryOutAll 65 = .ok (.iconst 2, 1) := by decide +kernel
theorem dX10_carryOutAll_66 : decode cX10_carryOutAll 66 = .ok (.iaload, 1) := by decide +kernel
theorem dX10_carryOutAll_67 : decode cX10_carryOutAll 67 = .ok (.invokevirtual 155, 3) := by decide +kernel
theorem dX10_carryOutAll_70 : decode cX10_carryOutAll 70 = .ok (.istore_n 3, 1) := by decide +kernel
theorem dX10_carryOutAll_71 : decode cX10_carryOutAll 71 = .ok (.iload_n 3, 1) := by decide +kernel
theorem dX10_carryOutAll_72 : decode cX10_carryOutAll 72 = .ok (.ifCond .ge 42, 3) := by decide +kernel
theorem dX10_carryOutAll_75 : decode cX10_carryOutAll 75 = .ok (.aload_n 0, 1) := by decide +kernel
theorem dX10_carryOutAll_76 : decode cX10_carryOutAll 76 = .ok (.getfield 26, 3) := by decide +kernel
theorem dX10_carryOutAll_79 : decode cX10_carryOutAll 79 = .ok (.aload_n 0, 1) := by decide +kernel
theorem dX10_carryOutAll_80 : decode cX10_carryOutAll 80 = .ok (.getfield 10, 3) := by decide +kernel
theorem dX10_carryOutAll_83 : decode cX10_carryOutAll 83 = .ok (.invokevirtual 159, 3) := by decide +kernel
theorem dX10_carryOutAll_86 : decode cX10_carryOutAll 86 = .ok (.iload_n 3, 1) := by decide +kernel
theorem dX10_carryOutAll_87 : decode cX10_carryOutAll 87 = .ok (.bipush (-3), 2) := by decide +kernel
theorem dX10_carryOutAll_89 : decode cX10_carryOutAll 89 = .ok (.if_icmp .ne 14, 3) := by decide +kernel
theorem dX10_carryOutAll_92 : decode cX10_carryOutAll 92 = .ok (.aload_n 0, 1) := by decide +kernel
theorem dX10_carryOutAll_93 : decode cX10_carryOutAll 93 = .ok (.getfield 33, 3) := by decide +kernel
theorem dX10_carryOutAll_96 : decode cX10_carryOutAll 96 = .ok (.iload_n 2, 1) := by decide +kernel
theorem dX10_carryOutAll_97 : decode cX10_carryOutAll 97 = .ok (.invokevirtual 162, 3) := by decide +kernel
theorem dX10_carryOutAll_100 : decode cX10_carryOutAll 100 = .ok (.goto 13, 3) := by decide +kernel
theorem dX10_carryOutAll_103 : decode cX10_carryOutAll 103 = .ok (.aload_n 0, 1) := by decide +kernel
theorem dX10_carryOutAll_104 : decode cX10_carryOutAll 104 = .ok (.getfield 33, 3) := by decide +kernel
theorem dX10_carryOutAll_107 : decode cX10_carryOutAll 107 = .ok (.bipush 13, 2) := by decide +kernel
theorem dX10_carryOutAll_109 : decode cX10_carryOutAll 109 = .ok (.iload_n 2, 1) := by decide +kernel
theorem dX10_carryOutAll_110 : decode cX10_carryOutAll 110 = .ok (.invokevirtual 165, 3) := by decide +kernel
theorem dX10_carryOutAll_113 : decode cX10_carryOutAll 113 = .ok (.ireturn, 1) := by decide +kernel
theorem dX10_carryOutAll_114 : decode cX10_carryOutAll 114 = .ok (.aload_n 0, 1) := by decide +kernel
theorem dX10_carryOutAll_115 : decode cX10_carryOutAll 115 = .ok (.getfield 74, 3) := by decide +kernel
theorem dX10_carryOutAll_118 : decode cX10_carryOutAll 118 = .ok (.getfield 168, 3) := by decide +kernel
theorem dX10_carryOutAll_121 : decode cX10_carryOutAll 121 = .ok (.iconst 1, 1) := by decide +kernel
theorem dX10_carryOutAll_122 : decode cX10_carryOutAll 122 = .ok (.iadd, 1) := by decide +kernel
theorem dX10_carryOutAll_123 : decode cX10_carryOutAll 123 = .ok (.istore_n 1, 1) := by decide +kernel
theorem dX10_carryOutAll_124 : decode cX10_carryOutAll 124 = .ok (.iinc 2 1, 3) := by decide +kernel
theorem dX10_carryOutAll_127 : decode cX10_carryOutAll 127 = .ok (.goto (-112), 3) := by decide +kernel
theorem dX10_carryOutAll_130 : decode cX10_carryOutAll 130 = .ok (.aload_n 0, 1) := by decide +kernel
theorem dX10_carryOutAll_131 : decode cX10_carryOutAll 131 = .ok (.getfield 26, 3) := by decide +kernel
theorem dX10_carryOutAll_134 : decode cX10_carryOutAll 134 = .ok (.iload_n 2, 1) := by decide +kernel
theorem dX10_carryOutAll_135 : decode cX10_carryOutAll 135 = .ok (.invokevirtual 109, 3) := by decide +kernel
theorem dX10_carryOutAll_138 : decode cX10_carryOutAll 138 = .ok (.ireturn, 1) := by decide +kernel
set_option maxRecDepth 20000 in
theorem ggX10_carryOut_Jx29ce0_ordinal_8abf5 : GoodIn wsX10_carryOut wsJx29ce0_ordinal_8abf5 := goodIn_r _ [8, 9] (by decide +kernel) (by decide +kernel)
set_option maxRecDepth 20000 in
theorem gX10_carryOut_Jx29ce0_ordinal_8abf5_u176X2 : GoodIn wsX10_carryOut (va_wsU RX10 176 RX2 "java/lang/Enum" ⟨"CartArguments$Command", "ordinal", "()I"⟩ yJx29ce0_ordinal_8abf5 wsJx29ce0_ordinal_8abf5) := goodIn_app (goodIn_of _ (by decide +kernel)) ggX10_carryOut_Jx29ce0_ordinal_8abf5
set_option maxRecDepth 20000 in
theorem ggX10_carryOut_X8_addThing : GoodIn wsX10_carryOut wsX8_addThing := goodIn_r _ [14, 15, 16, 17, 18, 19, 20, 21, 22, 23, 24, 25, 26, 27, 28, 29, 30, 193, 194, 195, 196, 197, 198, 199, 200, 201, 202, 203, 204, 205, 206, 207, 208, 209, 210, 211, 212, 213, 214, 215] (by decide +kernel) (by decide +kernel)
set_option maxRecDepth 20000 in
theorem gX10_carryOut_X8_addThing : GoodIn wsX10_carryOut (wsV RX10 105 RX8 yX8_addThing wsX8_addThing) := goodIn_app (goodIn_of _ (by decide +kernel)) ggX10_carryOut_X8_addThing
set_option maxRecDepth 20000 in
theorem ggX10_carryOut_X8_addCart : GoodIn wsX10_carryOut wsX8_addCart := goodIn_r _ [34, 15, 35, 17, 36, 37, 22, 23, 24, 25, 26, 27, 28, 29, 30, 38, 39, 40, 41, 42, 43, 44, 45, 46, 193, 194, 195, 196, 197, 198, 199, 200, 201, 202, 203, 204, 205, 206, 207, 208, 209, 210, 211, 212, 213, 214, 215] (by decide +kernel) (by decide +kernel)
set_option maxRecDepth 20000 in
theorem gX10_carryOut_X8_addCart : GoodIn wsX10_carryOut (wsV RX10 113 RX8 yX8_addCart wsX8_addCart) := goodIn_app (goodIn_of _ (by decide +kernel)) ggX10_carryOut_X8_addCart
set_option maxRecDepth 20000 in
theorem ggX10_carryOut_X8_addRoad : GoodIn wsX10_carryOut wsX8_addRoad := goodIn_r _ [50, 15, 51, 17, 52, 53, 54, 55, 22, 23, 24, 25, 26, 27, 28, 29, 30, 193, 194, 195, 196, 197, 198, 199, 200, 201, 202, 203, 204, 205, 206, 207, 208, 209, 210, 211, 212, 213, 214, 215] (by decide +kernel) (by decide +kernel)
set_option maxRecDepth 20000 in
theorem gX10_carryOut_X8_addRoad : GoodIn wsX10_carryOut (wsV RX10 116 RX8 yX8_addRoad wsX8_addRoad) := goodIn_app (goodIn_of _ (by decide +kernel)) ggX10_carryOut_X8_addRoad
set_option maxRecDepth 20000 in
theorem ggX10_carryOut_X8_putOn : GoodIn wsX10_carryOut wsX8_putOn := goodIn_r _ [59, 15, 20, 17, 18, 19, 21, 60, 61, 62, 41, 63, 64, 65, 66, 67, 68, 69, 22, 23, 24, 25, 26, 27, 28, 29, 30, 70, 71, 72, 73, 74, 75, 76, 77, 78, 79, 80, 81, 82, 83, 84, 85, 86, 193, 194, 195, 196, 197, 198, 199, 200, 201, 202, 203, 204, 205, 206, 207, 208, 209, 210, 211, 212, 213, 214, 215] (by decide +kernel) (by decide +kernel)
set_option maxRecDepth 20000 in
theorem gX10_carryOut_X8_putOn : GoodIn wsX10_carryOut (wsV RX10 119 RX8 yX8_putOn wsX8_putOn) := goodIn_app (goodIn_of _ (by decide +kernel)) ggX10_carryOut_X8_putOn
set_option maxRecDepth 20000 in
theorem ggX10_carryOut_X8_takeOff : GoodIn wsX10_carryOut wsX8_takeOff := goodIn_r _ [90, 15, 20, 17, 19, 18, 21, 60, 61, 62, 41, 63, 64, 22, 23, 24, 25, 26, 27, 28, 29, 30, 76, 77, 78, 79, 74, 80, 81, 193, 194, 195, 196, 197, 198, 199, 200, 201, 202, 203, 204, 205, 206, 207, 208, 209, 210, 211, 212, 213, 214, 215] (by decide +kernel) (by decide +kernel)
set_option maxRecDepth 20000 in
theorem gX10_carryOut_X8_takeOff : GoodIn wsX10_carryOut (wsV RX10 122 RX8 yX8_takeOff wsX8_takeOff) := goodIn_app (goodIn_of _ (by decide +kernel)) ggX10_carryOut_X8_takeOff
set_option maxRecDepth 20000 in
theorem ggX10_carryOut_X8_exchange : GoodIn wsX10_carryOut wsX8_exchange := goodIn_r _ [94, 15, 17, 21, 95, 65, 66, 67, 41, 68, 69, 22, 23, 24, 25, 26, 27, 28, 29, 30, 70, 71, 72, 73, 64, 74, 75, 96, 97, 98, 99, 100, 101, 102, 103, 104, 105, 106, 107, 108, 109, 110, 111, 112, 113, 114, 193, 194, 195, 196, 197, 198, 199, 200, 201, 202, 203, 204, 205, 206, 207, 208, 209, 210, 211, 212, 213, 214, 215, 216] (by decide +kernel) (by decide +kernel)
set_option maxRecDepth 20000 in
theorem gX10_carryOut_X8_exchange : GoodIn wsX10_carryOut (wsV RX10 125 RX8 yX8_exchange wsX8_exchange) := goodIn_app (goodIn_of _ (by decide +kernel)) ggX10_carryOut_X8_exchange
set_option maxRecDepth 20000 in
theorem ggX10_carryOut_X8_drive : GoodIn wsX10_carryOut wsX8_drive := goodIn_r _ [118, 15, 17, 52, 119, 95, 37, 55, 120, 53, 65, 66, 67, 41, 68, 69, 121, 122, 123, 124, 125, 70, 71, 72, 73, 64, 74, 75, 126, 127, 128, 129, 80, 22, 23, 24, 25, 26, 27, 28, 29, 30, 130, 131, 132, 133, 134, 135, 83, 84, 85, 86, 77, 78, 79, 81, 82, 136, 137, 138, 139, 140, 141, 142, 143, 144, 145, 146, 147, 43, 44, 45, 46, 148, 149, 150, 151, 99, 152, 109, 153, 154, 155, 156, 157, 158, 159, 160, 161, 162, 163, 164, 165, 166, 167, 105, 106, 107, 108, 110, 111, 112, 113, 114, 168, 169, 170, 171, 172, 38, 39, 40, 42, 173, 174, 175, 176, 193, 194, 195, 196, 197, 198, 199, 200, 201, 202, 203, 204, 205, 206, 207, 208, 209, 210, 211, 212, 213, 214, 215, 216] (by decide +kernel) (by decide +kernel)
set_option maxRecDepth 20000 in
theorem gX10_carryOut_X8_drive : GoodIn wsX10_carryOut (wsV RX10 128 RX8 yX8_drive wsX8_drive) := goodIn_app (goodIn_of _ (by decide +kernel)) ggX10_carryOut_X8_drive
set_option maxRecDepth 20000 in
theorem ggX10_carryOut_X8_greaseAxles : GoodIn wsX10_carryOut wsX8_greaseAxles := goodIn_r _ [180, 15, 17, 65, 66, 67, 41, 68, 69, 156, 145, 146, 147, 43, 44, 45, 46, 22, 23, 24, 25, 26, 27, 28, 29, 30, 136, 137, 138, 139, 140, 141, 142, 143, 144, 38, 39, 40, 42, 193, 194, 195, 196, 197, 198, 199, 200, 201, 202, 203, 204, 205, 206, 207, 208, 209, 210, 211, 212, 213, 214, 215] (by decide +kernel) (by decide +kernel)
set_option maxRecDepth 20000 in
theorem gX10_carryOut_X8_greaseAxles : GoodIn wsX10_carryOut (wsV RX10 132 RX8 yX8_greaseAxles wsX8_greaseAxles) := goodIn_app (goodIn_of _ (by decide +kernel)) ggX10_carryOut_X8_greaseAxles
theorem dX10_carryOut_0 : decode cX10_carryOut 0 = .ok (.getstatic 171, 3) := by decide +kernel
theorem dX10_carryOut_3 : decode cX10_carryOut 3 = .ok (.aload_n 1, 1) := by decide +kernel
theorem dX10_carryOut_4 : decode cX10_carryOut 4 = .ok (.invokevirtual 176, 3) := by decide +kernel
theorem dX10_carryOut_7 : decode cX10_carryOut 7 = .ok (.iaload, 1) := by decide +kernel
theorem dX10_carryOut_8 : decode cX10_carryOut 8 = .ok (.tableswitch 149 1 9 #[52, 64, 76, 85, 97, 109, 118, 130, 140], 52) := by decide +kernel
theorem dX10_carryOut_60 : decode cX10_carryOut 60 = .ok (.aload_n 0, 1) := by decide +kernel
theorem dX10_carryOut_61 : decode cX10_carryOut 61 = .ok (.getfield 51, 3) := by decide +kernel
theorem dX10_carryOut_64 : decode cX10_carryOut 64 = .ok (.iconst 0, 1) := by decide +kernel
theorem dX10_carryOut_65 : decode cX10_carryOut 65 = .ok (.iload_n 2, 1) := by decide +kernel
theorem dX10_carryOut_66 : decode cX10_carryOut 66 = .ok (.bipush 9, 2) := by decide +kernel
theorem dX10_carryOut_68 : decode cX10_carryOut 68 = .ok (.invokevirtual 105, 3) := by decide +kernel
theorem dX10_carryOut_71 : decode cX10_carryOut 71 = .ok (.ireturn, 1) := by decide +kernel
theorem dX10_carryOut_72 : decode cX10_carryOut 72 = .ok (.aload_n 0, 1) := by decide +kernel
theorem dX10_carryOut_73 : decode cX10_carryOut 73 = .ok (.getfield 51, 3) := by decide +kernel
theorem dX10_carryOut_76 : decode cX10_carryOut 76 = .ok (.iconst 1, 1) := by decide +kernel
theorem dX10_carryOut_77 : decode cX10_carryOut 77 = .ok (.iload_n 2, 1) := by decide +kernel
theorem dX10_carryOut_78 : decode cX10_carryOut 78 = .ok (.bipush 54, 2) := by decide +kernel
theorem dX10_carryOut_80 : decode cX10_carryOut 80 = .ok (.invokevirtual 105, 3) := by decide +kernel
theorem dX10_carryOut_83 : decode cX10_carryOut 83 = .ok (.ireturn, 1) := by decide +kernel
theorem dX10_carryOut_84 : decode cX10_carryOut 84 = .ok (.aload_n 0, 1) := by decide +kernel
theorem dX10_carryOut_85 : decode cX10_carryOut 85 = .ok (.getfield 51, 3) := by decide +kernel
theorem dX10_carryOut_88 : decode cX10_carryOut 88 = .ok (.iload_n 2, 1) := by decide +kernel
theorem dX10_carryOut_89 : decode cX10_carryOut 89 = .ok (.invokevirtual 113, 3) := by decide +kernel
theorem dX10_carryOut_92 : decode cX10_carryOut 92 = .ok (.ireturn, 1) := by decide +kernel
theorem dX10_carryOut_93 : decode cX10_carryOut 93 = .ok (.aload_n 0, 1) := by decide +kernel
theorem dX10_carryOut_94 : decode cX10_carryOut 94 = .ok (.getfield 51, 3) := by decide +kernel
theorem dX10_carryOut_97 : decode cX10_carryOut 97 = .ok (.iload_n 2, 1) := by decide +kernel
theorem dX10_carryOut_98 : decode cX10_carryOut 98 = .ok (.iload_n 3, 1) := by decide +kernel
theorem dX10_carryOut_99 : decode cX10_carryOut 99 = .ok (.iload 4, 2) := by decide +kernel
theorem dX10_carryOut_101 : decode cX10_carryOut 101 = .ok (.invokevirtual 116, 3) := by decide +kernel
theorem dX10_carryOut_104 : decode cX10_carryOut 104 = .ok (.ireturn, 1) := by decide +kernel
theorem dX10_carryOut_105 : decode cX10_carryOut 105 = .ok (.aload_n 0, 1) := by decide +kernel
theorem dX10_carryOut_106 : decode cX10_carryOut 106 = .ok (.getfield 51, 3) := by decide +kernel
theorem dX10_carryOut_109 : decode cX10_carryOut 109 = .ok (.iload_n 2, 1) := by decide +kernel
theorem dX10_carryOut_110 : decode cX10_carryOut 110 = .ok (.iload_n 3, 1) := by decide +kernel
theorem dX10_carryOut_111 : decode cX10_carryOut 111 = .ok (.iload 4, 2) := by decide +kernel
theorem dX10_carryOut_113 : decode cX10_carryOut 113 = .ok (.invokevirtual 119, 3) := by decide +kernel
theorem dX10_carryOut_116 : decode cX10_carryOut 116 = .ok (.ireturn, 1) := by decide +kernel
theorem dX10_carryOut_117 : decode cX10_carryOut 117 = .ok (.aload_n 0, 1) := by decide +kernel
theorem dX10_carryOut_118 : decode cX10_carryOut 118 = .ok (.getfield 51, 3) := by decide +kernel
theorem dX10_carryOut_121 : decode cX10_carryOut 121 = .ok (.iload_n 2, 1) := by decide +kernel
theorem dX10_carryOut_122 : decode cX10_carryOut 122 = .ok (.invokevirtual 122, 3) := by decide +kernel
theorem dX10_carryOut_125 : decode cX10_carryOut 125 = .ok (.ireturn, 1) := by decide +kernel
theorem dX10_carryOut_126 : decode cX10_carryOut 126 = .ok (.aload_n 0, 1) := by decide +kernel
theorem dX10_carryOut_127 : decode cX10_carryOut 127 = .ok (.getfield 51, 3) := by decide +kernel
theorem dX10_carryOut_130 : decode cX10_carryOut 130 = .ok (.iload_n 2, 1) := by decide +kernel
theorem dX10_carryOut_131 : decode cX10_carryOut 131 = .ok (.iload_n 3, 1) := by decide +kernel
theorem dX10_carryOut_132 : decode cX10_carryOut 132 = .ok (.iload 4, 2) := by decide +kernel
theorem dX10_carryOut_134 : decode cX10_carryOut 134 = .ok (.invokevirtual 125, 3) := by decide +kernel
theorem dX10_carryOut_137 : decode cX10_carryOut 137 = .ok (.ireturn, 1) := by decide +kernel
theorem dX10_carryOut_138 : decode cX10_carryOut 138 = .ok (.aload_n 0, 1) := by decide +kernel
theorem dX10_carryOut_139 : decode cX10_carryOut 139 = .ok (.getfield 51, 3) := by decide +kernel
theorem dX10_carryOut_142 : decode cX10_carryOut 142 = .ok (.iload_n 2, 1) := by decide +kernel
theorem dX10_carryOut_143 : decode cX10_carryOut 143 = .ok (.iload_n 3, 1) := by decide +kernel
theorem dX10_carryOut_144 : decode cX10_carryOut 144 = .ok (.invokevirtual 128, 3) := by decide +kernel
theorem dX10_carryOut_147 : decode cX10_carryOut 147 = .ok (.ireturn, 1) := by decide +kernel
theorem dX10_carryOut_148 : decode cX10_carryOut 148 = .ok (.aload_n 0, 1) := by decide +kernel
theorem dX10_carryOut_149 : decode cX10_carryOut 149 = .ok (.getfield 51, 3) := by decide +kernel
theorem dX10_carryOut_152 : decode cX10_carryOut 152 = .ok (.iload_n 2, 1) := by decide +kernel
theorem dX10_carryOut_153 : decode cX10_carryOut 153 = .ok (.invokevirtual 132, 3) := by decide +kernel
theorem dX10_carryOut_156 : decode cX10_carryOut 156 = .ok (.ireturn, 1) := by decide +kernel
theorem dX10_carryOut_157 : decode cX10_carryOut 157 = .ok (.bipush (-2), 2) := by decide +kernel
theorem dX10_carryOut_159 : decode cX10_carryOut 159 = .ok (.ireturn, 1) := by decide +kernel
theorem dX10_fault_0 : decode cX10_fault 0 = .ok (.aload_n 0, 1) := by decide +kernel
theorem dX10_fault_1 : decode cX10_fault 1 = .ok (.getfield 78, 3) := by decide +kernel
theorem dX10_fault_4 : decode cX10_fault 4 = .ok (.ireturn, 1) := by decide +kernel
theorem dX10_reason_0 : decode cX10_reason 0 = .ok (.iload_n 1, 1) := by decide +kernel
theorem dX10_reason_1 : decode cX10_reason 1 = .ok (.ifCond .ne 25, 3) := by decide +kernel
theorem dX10_reason_4 : decode cX10_reason 4 = .ok (.iload_n 2, 1) := by decide +kernel
theorem dX10_reason_5 : decode cX10_reason 5 = .ok (.ifCond .eq 13, 3) := by decide +kernel
theorem dX10_reason_8 : decode cX10_reason 8 = .ok (.aload_n 0, 1) := by decide +kernel
theorem dX10_reason_9 : decode cX10_reason 9 = .ok (.getfield 33, 3) := by decide +kernel
theorem dX10_reason_12 : decode cX10_reason 12 = .ok (.getfield 181, 3) := by decide +kernel
theorem dX10_reason_15 : decode cX10_reason 15 = .ok (.goto 10, 3) := by decide +kernel
theorem dX10_reason_18 : decode cX10_reason 18 = .ok (.aload_n 0, 1) := by decide +kernel
theorem dX10_reason_19 : decode cX10_reason 19 = .ok (.getfield 33, 3) := by decide +kernel
theorem dX10_reason_22 : decode cX10_reason 22 = .ok (.getfield 184, 3) := by decide +kernel
theorem dX10_reason_25 : decode cX10_reason 25 = .ok (.ireturn, 1) := by decide +kernel
theorem dX10_reason_26 : decode cX10_reason 26 = .ok (.iload_n 1, 1) := by decide +kernel
theorem dX10_reason_27 : decode cX10_reason 27 = .ok (.iconst 1, 1) := by decide +kernel
theorem dX10_reason_28 : decode cX10_reason 28 = .ok (.if_icmp .ne 25, 3) := by decide +kernel
theorem dX10_reason_31 : decode cX10_reason 31 = .ok (.iload_n 2, 1) := by decide +kernel
theorem dX10_reason_32 : decode cX10_reason 32 = .ok (.ifCond .eq 13, 3) := by decide +kernel
theorem dX10_reason_35 : decode cX10_reason 35 = .ok (.aload_n 0, 1) := by decide +kernel
theorem dX10_reason_36 : decode cX10_reason 36 = .ok (.getfield 33, 3) := by decide +kernel
theorem dX10_reason_39 : decode cX10_reason 39 = .ok (.getfield 187, 3) := by decide +kernel
theorem dX10_reason_42 : decode cX10_reason 42 = .ok (.goto 10, 3) := by decide +kernel
theorem dX10_reason_45 : decode cX10_reason 45 = .ok (.aload_n 0, 1) := by decide +kernel
theorem dX10_reason_46 : decode cX10_reason 46 = .ok (.getfield 33, 3) := by decide +kernel
theorem dX10_reason_49 : decode cX10_reason 49 = .ok (.getfield 190, 3) := by decide +kernel
theorem dX10_reason_52 : decode cX10_reason 52 = .ok (.ireturn, 1) := by decide +kernel
theorem dX10_reason_53 : decode cX10_reason 53 = .ok (.bipush (-2), 2) := by decide +kernel
theorem dX10_reason_55 : decode cX10_reason 55 = .ok (.ireturn, 1) := by decide +kernel
set_option maxRecDepth 20000 in
theorem ggX10_thingOf_X9_isThing : GoodIn wsX10_thingOf wsX9_isThing := goodIn_r _ [10, 11, 24, 25, 26, 27, 28, 29, 30, 31, 32, 33, 34, 35, 36, 37, 38, 39] (by decide +kernel) (by decide +kernel)
set_option maxRecDepth 20000 in
theorem gX10_thingOf_X9_isThing : GoodIn wsX10_thingOf (wsV RX10 193 RX9 yX9_isThing wsX9_isThing) := goodIn_app (goodIn_of _ (by decide +kernel)) ggX10_thingOf_X9_isThing
theorem dX10_thingOf_0 : decode cX10_thingOf 0 = .ok (.aload_n 0, 1) := by decide +kernel
theorem dX10_thingOf_1 : decode cX10_thingOf 1 = .ok (.getfield 10, 3) := by decide +kernel
theorem dX10_thingOf_4 : decode cX10_thingOf 4 = .ok (.iload_n 1, 1) := by decide +kernel
theorem dX10_thingOf_5 : decode cX10_thingOf 5 = .ok (.invokevirtual 193, 3) := by decide +kernel
theorem dX10_thingOf_8 : decode cX10_thingOf 8 = .ok (.ifCond .ne 5, 3) := by decide +kernel
theorem dX10_thingOf_11 : decode cX10_thingOf 11 = .ok (.iconst (-1), 1) := by decide +kernel
theorem dX10_thingOf_12 : decode cX10_thingOf 12 = .ok (.ireturn, 1) := by decide +kernel
theorem dX10_thingOf_13 : decode cX10_thingOf 13 = .ok (.iload_n 2, 1) := by decide +kernel
theorem dX10_thingOf_14 : decode cX10_thingOf 14 = .ok (.tableswitch 70 0 3 #[30, 40, 50, 60], 30) := by decide +kernel
theorem dX10_thingOf_44 : decode cX10_thingOf 44 = .ok (.aload_n 0, 1) := by decide +kernel
theorem dX10_thingOf_45 : decode cX10_thingOf 45 = .ok (.getfield 10, 3) := by decide +kernel
theorem dX10_thingOf_48 : decode cX10_thingOf 48 = .ok (.getfield 196, 3) := by decide +kernel
theorem dX10_thingOf_51 : decode cX10_thingOf 51 = .ok (.iload_n 1, 1) := by decide +kernel
theorem dX10_thingOf_52 : decode cX10_thingOf 52 = .ok (.iaload, 1) := by decide +kernel
theorem dX10_thingOf_53 : decode cX10_thingOf 53 = .ok (.ireturn, 1) := by decide +kernel
theorem dX10_thingOf_54 : decode cX10_thingOf 54 = .ok (.aload_n 0, 1) := by decide +kernel
theorem dX10_thingOf_55 : decode cX10_thingOf 55 = .ok (.getfield 10, 3) := by decide +kernel
theorem dX10_thingOf_58 : decode cX10_thingOf 58 = .ok (.getfield 199, 3) := by decide +kernel
theorem dX10_thingOf_61 : decode cX10_thingOf 61 = .ok (.iload_n 1, 1) := by decide +kernel
theorem dX10_thingOf_62 : decode cX10_thingOf 62 = .ok (.iaload, 1) := by decide +kernel
theorem dX10_thingOf_63 : decode cX10_thingOf 63 = .ok (.ireturn, 1) := by decide +kernel
theorem dX10_thingOf_64 : decode cX10_thingOf 64 = .ok (.aload_n 0, 1) := by decide +kernel
theorem dX10_thingOf_65 : decode cX10_thingOf 65 = .ok (.getfield 10, 3) := by decide +kernel
theorem dX10_thingOf_68 : decode cX10_thingOf 68 = .ok (.getfield 202, 3) := by decide +kernel
theorem dX10_thingOf_71 : decode cX10_thingOf 71 = .ok (.iload_n 1, 1) := by decide +kernel
theorem dX10_thingOf_72 : decode cX10_thingOf 72 = .ok (.iaload, 1) := by decide +kernel
theorem dX10_thingOf_73 : decode cX10_thingOf 73 = .ok (.ireturn, 1) := by decide +kernel
theorem dX10_thingOf_74 : decode cX10_thingOf 74 = .ok (.aload_n 0, 1) := by decide +kernel
theorem dX10_thingOf_75 : decode cX10_thingOf 75 = .ok (.getfield 10, 3) := by decide +kernel
theorem dX10_thingOf_78 : decode cX10_thingOf 78 = .ok (.getfield 205, 3) := by decide +kernel
