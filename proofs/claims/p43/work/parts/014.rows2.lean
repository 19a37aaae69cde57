set_option maxRecDepth 20000 in
theorem gX10_load_X3_begin : GoodIn wsX10_load (wsV RX10 102 RX3 yX3_begin wsX3_begin) := goodIn_app (goodIn_of _ (by decide +kernel)) ggX10_load_X3_begin
set_option maxRecDepth 20000 in
theorem ggX10_load_X8_putOn : GoodIn wsX10_load wsX8_putOn := goodIn_r _ [40, 41, 42, 43, 44, 45, 46, 47, 48, 49, 14, 50, 16, 51, 52, 53, 54, 25, 55, 56, 57, 58, 59, 60, 61, 62, 63, 64, 65, 66, 67, 23, 24, 68, 69, 70, 71, 17, 22, 72, 73, 74, 75, 76, 117, 118, 119, 101, 102, 103, 104, 105, 106, 107, 108, 109, 110, 111, 112, 113, 114, 115, 116, 120, 121, 122, 123] (by decide +kernel) (by decide +kernel)
set_option maxRecDepth 20000 in
theorem gX10_load_X8_putOn : GoodIn wsX10_load (wsV RX10 119 RX8 yX8_putOn wsX8_putOn) := goodIn_app (goodIn_of _ (by decide +kernel)) ggX10_load_X8_putOn
set_option maxRecDepth 20000 in
theorem ggX10_load_X3_settle : GoodIn wsX10_load wsX3_settle := goodIn_r _ [80, 10, 81, 82, 83, 84, 85, 98, 99, 100] (by decide +kernel) (by decide +kernel)
set_option maxRecDepth 20000 in
theorem gX10_load_X3_settle : GoodIn wsX10_load (wsV RX10 109 RX3 yX3_settle wsX3_settle) := goodIn_app (goodIn_of _ (by decide +kernel)) ggX10_load_X3_settle
theorem dX10_load_0 : decode cX10_load 0 = .ok (.aload_n 0, 1) := by decide +kernel
theorem dX10_load_1 : decode cX10_load 1 = .ok (.getfield 26, 3) := by decide +kernel
theorem dX10_load_4 : decode cX10_load 4 = .ok (.aload_n 0, 1) := by decide +kernel
theorem dX10_load_5 : decode cX10_load 5 = .ok (.getfield 10, 3) := by decide +kernel
theorem dX10_load_8 : decode cX10_load 8 = .ok (.invokevirtual 102, 3) := by decide +kernel
theorem dX10_load_11 : decode cX10_load 11 = .ok (.aload_n 0, 1) := by decide +kernel
theorem dX10_load_12 : decode cX10_load 12 = .ok (.getfield 26, 3) := by decide +kernel
theorem dX10_load_15 : decode cX10_load 15 = .ok (.aload_n 0, 1) := by decide +kernel
theorem dX10_load_16 : decode cX10_load 16 = .ok (.getfield 51, 3) := by decide +kernel
theorem dX10_load_19 : decode cX10_load 19 = .ok (.iload_n 1, 1) := by decide +kernel
theorem dX10_load_20 : decode cX10_load 20 = .ok (.iload_n 2, 1) := by decide +kernel
theorem dX10_load_21 : decode cX10_load 21 = .ok (.iload_n 3, 1) := by decide +kernel
theorem dX10_load_22 : decode cX10_load 22 = .ok (.invokevirtual 119, 3) := by decide +kernel
theorem dX10_load_25 : decode cX10_load 25 = .ok (.invokevirtual 109, 3) := by decide +kernel
theorem dX10_load_28 : decode cX10_load 28 = .ok (.ireturn, 1) := by decide +kernel
set_option maxRecDepth 20000 in
theorem ggX10_unload_X3_begin : GoodIn wsX10_unload wsX3_begin := goodIn_r _ [8, 9, 10, 11, 12, 13, 14, 15, 16, 17, 18, 19, 20, 21, 22, 23, 24, 25, 26, 27, 28, 29, 30, 31, 32, 33, 34, 35, 85, 86, 87, 88, 89, 90, 91, 92, 93, 94, 95, 96, 97, 98, 99, 100, 101, 102, 103] (by decide +kernel) (by decide +kernel)
set_option maxRecDepth 20000 in
theorem gX10_unload_X3_begin : GoodIn wsX10_unload (wsV RX10 102 RX3 yX3_begin wsX3_begin) := goodIn_app (goodIn_of _ (by decide +kernel)) ggX10_unload_X3_begin
set_option maxRecDepth 20000 in
theorem ggX10_unload_X8_takeOff : GoodIn wsX10_unload wsX8_takeOff := goodIn_r _ [40, 41, 42, 43, 44, 45, 46, 47, 48, 49, 14, 50, 16, 51, 52, 53, 54, 55, 56, 57, 58, 59, 60, 61, 62, 63, 23, 17, 22, 104, 105, 106, 88, 89, 90, 91, 92, 93, 94, 95, 96, 97, 98, 99, 100, 101, 102, 103, 107, 108, 109, 110] (by decide +kernel) (by decide +kernel)
set_option maxRecDepth 20000 in
theorem gX10_unload_X8_takeOff : GoodIn wsX10_unload (wsV RX10 122 RX8 yX8_takeOff wsX8_takeOff) := goodIn_app (goodIn_of _ (by decide +kernel)) ggX10_unload_X8_takeOff
set_option maxRecDepth 20000 in
theorem ggX10_unload_X3_settle : GoodIn wsX10_unload wsX3_settle := goodIn_r _ [67, 10, 68, 69, 70, 71, 72, 85, 86, 87] (by decide +kernel) (by decide +kernel)
set_option maxRecDepth 20000 in
theorem gX10_unload_X3_settle : GoodIn wsX10_unload (wsV RX10 109 RX3 yX3_settle wsX3_settle) := goodIn_app (goodIn_of _ (by decide +kernel)) ggX10_unload_X3_settle
theorem dX10_unload_0 : decode cX10_unload 0 = .ok (.aload_n 0, 1) := by decide +kernel
theorem dX10_unload_1 : decode cX10_unload 1 = .ok (.getfield 26, 3) := by decide +kernel
theorem dX10_unload_4 : decode cX10_unload 4 = .ok (.aload_n 0, 1) := by decide +kernel
theorem dX10_unload_5 : decode cX10_unload 5 = .ok (.getfield 10, 3) := by decide +kernel
theorem dX10_unload_8 : decode cX10_unload 8 = .ok (.invokevirtual 102, 3) := by decide +kernel
theorem dX10_unload_11 : decode cX10_unload 11 = .ok (.aload_n 0, 1) := by decide +kernel
theorem dX10_unload_12 : decode cX10_unload 12 = .ok (.getfield 26, 3) := by decide +kernel
theorem dX10_unload_15 : decode cX10_unload 15 = .ok (.aload_n 0, 1) := by decide +kernel
theorem dX10_unload_16 : decode cX10_unload 16 = .ok (.getfield 51, 3) := by decide +kernel
theorem dX10_unload_19 : decode cX10_unload 19 = .ok (.iload_n 1, 1) := by decide +kernel
theorem dX10_unload_20 : decode cX10_unload 20 = .ok (.invokevirtual 122, 3) := by decide +kernel
theorem dX10_unload_23 : decode cX10_unload 23 = .ok (.invokevirtual 109, 3) := by decide +kernel
theorem dX10_unload_26 : decode cX10_unload 26 = .ok (.ireturn, 1) := by decide +kernel
set_option maxRecDepth 20000 in
theorem ggX10_swap_X3_begin : GoodIn wsX10_swap wsX3_begin := goodIn_r _ [8, 9, 10, 11, 12, 13, 14, 15, 16, 17, 18, 19, 20, 21, 22, 23, 24, 25, 26, 27, 28, 29, 30, 31, 32, 33, 34, 35, 101, 102, 103, 104, 105, 106, 107, 108, 109, 110, 111, 112, 113, 114, 115, 116, 117, 118, 119] (by decide +kernel) (by decide +kernel)
set_option maxRecDepth 20000 in
theorem gX10_swap_X3_begin : GoodIn wsX10_swap (wsV RX10 102 RX3 yX3_begin wsX3_begin) := goodIn_app (goodIn_of _ (by decide +kernel)) ggX10_swap_X3_begin
set_option maxRecDepth 20000 in
theorem ggX10_swap_X8_exchange : GoodIn wsX10_swap wsX8_exchange := goodIn_r _ [40, 41, 42, 43, 44, 45, 46, 47, 14, 48, 25, 49, 50, 51, 52, 53, 54, 55, 56, 57, 58, 59, 60, 61, 16, 23, 24, 62, 63, 64, 65, 66, 67, 68, 69, 70, 71, 72, 73, 74, 75, 76, 77, 78, 79, 80, 120, 121, 122, 104, 105, 106, 107, 108, 109, 110, 111, 112, 113, 114, 115, 116, 117, 118, 119, 123, 124, 125, 126, 127] (by decide +kernel) (by decide +kernel)
set_option maxRecDepth 20000 in
theorem gX10_swap_X8_exchange : GoodIn wsX10_swap (wsV RX10 125 RX8 yX8_exchange wsX8_exchange) := goodIn_app (goodIn_of _ (by decide +kernel)) ggX10_swap_X8_exchange
set_option maxRecDepth 20000 in
theorem ggX10_swap_X3_settle : GoodIn wsX10_swap wsX3_settle := goodIn_r _ [84, 10, 85, 86, 87, 69, 88, 101, 102, 103] (by decide +kernel) (by decide +kernel)
set_option maxRecDepth 20000 in
theorem gX10_swap_X3_settle : GoodIn wsX10_swap (wsV RX10 109 RX3 yX3_settle wsX3_settle) := goodIn_app (goodIn_of _ (by decide +kernel)) ggX10_swap_X3_settle
theorem dX10_swap_0 : decode cX10_swap 0 = .ok (.aload_n 0, 1) := by decide +kernel
theorem dX10_swap_1 : decode cX10_swap 1 = .ok (.getfield 26, 3) := by decide +kernel
theorem dX10_swap_4 : decode cX10_swap 4 = .ok (.aload_n 0, 1) := by decide +kernel
theorem dX10_swap_5 : decode cX10_swap 5 = .ok (.getfield 10, 3) := by decide +kernel
theorem dX10_swap_8 : decode cX10_swap 8 = .ok (.invokevirtual 102, 3) := by decide +kernel
theorem dX10_swap_11 : decode cX10_swap 11 = .ok (.aload_n 0, 1) := by decide +kernel
theorem dX10_swap_12 : decode cX10_swap 12 = .ok (.getfield 26, 3) := by decide +kernel
theorem dX10_swap_15 : decode cX10_swap 15 = .ok (.aload_n 0, 1) := by decide +kernel
theorem dX10_swap_16 : decode cX10_swap 16 = .ok (.getfield 51, 3) := by decide +kernel
theorem dX10_swap_19 : decode cX10_swap 19 = .ok (.iload_n 1, 1) := by decide +kernel
theorem dX10_swap_20 : decode cX10_swap 20 = .ok (.iload_n 2, 1) := by decide +kernel
theorem dX10_swap_21 : decode cX10_swap 21 = .ok (.iload_n 3, 1) := by decide +kernel
theorem dX10_swap_22 : decode cX10_swap 22 = .ok (.invokevirtual 125, 3) := by decide +kernel
theorem dX10_swap_25 : decode cX10_swap 25 = .ok (.invokevirtual 109, 3) := by decide +kernel
theorem dX10_swap_28 : decode cX10_swap 28 = .ok (.ireturn, 1) := by decide +kernel
set_option maxRecDepth 20000 in
theorem ggX10_trip_X3_begin : GoodIn wsX10_trip wsX3_begin := goodIn_r _ [8, 9, 10, 11, 12, 13, 14, 15, 16, 17, 18, 19, 20, 21, 22, 23, 24, 25, 26, 27, 28, 29, 30, 31, 32, 33, 34, 35, 168, 169, 170, 171, 172, 173, 174, 175, 176, 177, 178, 179, 180, 181, 182, 183, 184, 185, 186] (by decide +kernel) (by decide +kernel)
set_option maxRecDepth 20000 in
theorem gX10_trip_X3_begin : GoodIn wsX10_trip (wsV RX10 102 RX3 yX3_begin wsX3_begin) := goodIn_app (goodIn_of _ (by decide +kernel)) ggX10_trip_X3_begin
set_option maxRecDepth 20000 in
theorem ggX10_trip_X8_drive : GoodIn wsX10_trip wsX8_drive := goodIn_r _ [40, 41, 42, 43, 44, 45, 46, 47, 48, 49, 50, 51, 52, 14, 53, 25, 54, 55, 56, 57, 29, 58, 59, 60, 61, 16, 23, 24, 62, 63, 64, 65, 17, 66, 67, 68, 69, 70, 71, 72, 73, 74, 75, 76, 77, 78, 30, 79, 80, 81, 82, 83, 84, 85, 86, 22, 87, 88, 89, 90, 91, 92, 93, 94, 95, 96, 97, 98, 99, 27, 100, 101, 102, 103, 104, 105, 106, 107, 108, 109, 110, 111, 112, 113, 114, 115, 116, 117, 118, 119, 120, 121, 122, 123, 124, 125, 126, 127, 128, 129, 130, 131, 132, 133, 134, 135, 136, 137, 138, 139, 140, 141, 142, 143, 144, 145, 146, 187, 188, 189, 171, 172, 173, 174, 175, 176, 177, 178, 179, 180, 181, 182, 183, 184, 185, 186, 190, 191, 192, 193, 194] (by decide +kernel) (by decide +kernel)
set_option maxRecDepth 20000 in
theorem gX10_trip_X8_drive : GoodIn wsX10_trip (wsV RX10 128 RX8 yX8_drive wsX8_drive) := goodIn_app (goodIn_of _ (by decide +kernel)) ggX10_trip_X8_drive
set_option maxRecDepth 20000 in
theorem ggX10_trip_X3_settle : GoodIn wsX10_trip wsX3_settle := goodIn_r _ [150, 10, 151, 152, 153, 154, 155, 168, 169, 170] (by decide +kernel) (by decide +kernel)
set_option maxRecDepth 20000 in
theorem gX10_trip_X3_settle : GoodIn wsX10_trip (wsV RX10 109 RX3 yX3_settle wsX3_settle) := goodIn_app (goodIn_of _ (by decide +kernel)) ggX10_trip_X3_settle
theorem dX10_trip_0 : decode cX10_trip 0 = .ok (.aload_n 0, 1) := by decide +kernel
theorem dX10_trip_1 : decode cX10_trip 1 = .ok (.getfield 26, 3) := by decide +kernel
theorem dX10_trip_4 : decode cX10_trip 4 = .ok (.aload_n 0, 1) := by decide +kernel
theorem dX10_trip_5 : decode cX10_trip 5 = .ok (.getfield 10, 3) := by decide +kernel
theorem dX10_trip_8 : decode cX10_trip 8 = .ok (.invokevirtual 102, 3) := by decide +kernel
theorem dX10_trip_11 : decode cX10_trip 11 = .ok (.aload_n 0, 1) := by decide +kernel
theorem dX10_trip_12 : decode cX10_trip 12 = .ok (.getfield 26, 3) := by decide +kernel
theorem dX10_trip_15 : decode cX10_trip 15 = .ok (.aload_n 0, 1) := by decide +kernel
theorem dX10_trip_16 : decode cX10_trip 16 = .ok (.getfield 51, 3) := by decide +kernel
theorem dX10_trip_19 : decode cX10_trip 19 = .ok (.iload_n 1, 1) := by decide +kernel
theorem dX10_trip_20 : decode cX10_trip 20 = .ok (.iload_n 2, 1) := by decide +kernel
theorem dX10_trip_21 : decode cX10_trip 21 = .ok (.invokevirtual 128, 3) := by decide +kernel
theorem dX10_trip_24 : decode cX10_trip 24 = .ok (.invokevirtual 109, 3) := by decide +kernel
theorem dX10_trip_27 : decode cX10_trip 27 = .ok (.ireturn, 1) := by decide +kernel
set_option maxRecDepth 20000 in
theorem ggX10_grease_X3_begin : GoodIn wsX10_grease wsX3_begin := goodIn_r _ [8, 9, 10, 11, 12, 13, 14, 15, 16, 17, 18, 19, 20, 21, 22, 23, 24, 25, 26, 27, 28, 29, 30, 31, 32, 33, 34, 35, 97, 98, 99, 100, 101, 102, 103, 104, 105, 106, 107, 108, 109, 110, 111, 112, 113, 114, 115] (by decide +kernel) (by decide +kernel)
set_option maxRecDepth 20000 in
theorem gX10_grease_X3_begin : GoodIn wsX10_grease (wsV RX10 102 RX3 yX3_begin wsX3_begin) := goodIn_app (goodIn_of _ (by decide +kernel)) ggX10_grease_X3_begin
set_option maxRecDepth 20000 in
theorem ggX10_grease_X8_greaseAxles : GoodIn wsX10_grease wsX8_greaseAxles := goodIn_r _ [40, 41, 42, 43, 44, 45, 14, 46, 25, 47, 48, 49, 50, 27, 51, 52, 53, 54, 55, 56, 57, 58, 59, 60, 61, 62, 63, 64, 65, 66, 67, 68, 69, 70, 71, 72, 73, 74, 75, 116, 117, 118, 100, 101, 102, 103, 104, 105, 106, 107, 108, 109, 110, 111, 112, 113, 114, 115, 119, 120, 121, 122] (by decide +kernel) (by decide +kernel)
set_option maxRecDepth 20000 in
theorem gX10_grease_X8_greaseAxles : GoodIn wsX10_grease (wsV RX10 132 RX8 yX8_greaseAxles wsX8_greaseAxles) := goodIn_app (goodIn_of _ (by decide +kernel)) ggX10_grease_X8_greaseAxles
set_option maxRecDepth 20000 in
theorem ggX10_grease_X3_settle : GoodIn wsX10_grease wsX3_settle := goodIn_r _ [79, 10, 80, 81, 82, 83, 84, 97, 98, 99] (by decide +kernel) (by decide +kernel)
set_option maxRecDepth 20000 in
theorem gX10_grease_X3_settle : GoodIn wsX10_grease (wsV RX10 109 RX3 yX3_settle wsX3_settle) := goodIn_app (goodIn_of _ (by decide +kernel)) ggX10_grease_X3_settle
theorem dX10_grease_0 : decode cX10_grease 0 = .ok (.aload_n 0, 1) := by decide +kernel
theorem dX10_grease_1 : decode cX10_grease 1 = .ok (.getfield 26, 3) := by decide +kernel
theorem dX10_grease_4 : decode cX10_grease 4 = .ok (.aload_n 0, 1) := by decide +kernel
theorem dX10_grease_5 : decode cX10_grease 5 = .ok (.getfield 10, 3) := by decide +kernel
theorem dX10_grease_8 : decode cX10_grease 8 = .ok (.invokevirtual 102, 3) := by decide +kernel
theorem dX10_grease_11 : decode cX10_grease 11 = .ok (.aload_n 0, 1) := by decide +kernel
theorem dX10_grease_12 : decode cX10_grease 12 = .ok (.getfield 26, 3) := by decide +kernel
theorem dX10_grease_15 : decode cX10_grease 15 = .ok (.aload_n 0, 1) := by decide +kernel
theorem dX10_grease_16 : decode cX10_grease 16 = .ok (.getfield 51, 3) := by decide +kernel
theorem dX10_grease_19 : decode cX10_grease 19 = .ok (.iload_n 1, 1) := by decide +kernel
theorem dX10_grease_20 : decode cX10_grease 20 = .ok (.invokevirtual 132, 3) := by decide +kernel
theorem dX10_grease_23 : decode cX10_grease 23 = .ok (.invokevirtual 109, 3) := by decide +kernel
theorem dX10_grease_26 : decode cX10_grease 26 = .ok (.ireturn, 1) := by decide +kernel
set_option maxRecDepth 20000 in
theorem ggX10_thingOf_X9_isThing : GoodIn wsX10_thingOf wsX9_isThing := goodIn_r _ [10, 11, 24, 25, 26, 27, 28, 29, 30, 31, 32, 33, 34, 35, 36, 37, 38, 39] (by decide +kernel) (by decide +kernel)
set_option maxRecDepth 20000 in
theorem gX10_thingOf_X9_isThing : GoodIn wsX10_thingOf (wsV RX10 193 RX9 yX9_isThing wsX9_isThing) := goodIn_app (goodIn_of _ (by decide +kernel)) ggX10_thingOf_X9_isThing
theorem dX10_thingOf_0 : decode cX10_thingOf 0 = .ok (.aload_n 0, 1) := by decide +kernel
theorem dX10_thingOf_1 : decode cX10_thingOf 1 = .ok (.getfield 10, 3) := by decide +kernel
theorem dX10_thingOf_4 : decode cX10_thingOf 4 = .ok (.iload_n 1, 1) := by decide +kernel
theorem dX10_thingOf_5 : decode cX10_thingOf 5 = .ok (.invokevirtual 193, 3) := by decide +kernel
theorem dX10_thingOf_8 : decode cX10_thingOf 8 = .ok (.ifCond .ne 5, 3) := by decide +kernel
theorem dX10_thingOf_11 : decode cX10_thingOf 11 = .ok (.iconst (-1), 1) := by decide +kernel
theorem dX10_thingOf_12 : decode cX10_thingOf 12 = .ok (.ireturn, 1) := by decide +kernel
theorem dX10_thingOf_13 : decode cX10_thingOf 13 = .ok (.iload_n 2, 1) := by decide +kernel
theorem dX10_thingOf_14 : decode cX10_thingOf 14 = .ok (.tableswitch 70 0 3 #[30, 40, 50, 60], 30) := by decide +kernel
theorem dX10_thingOf_44 : decode cX10_thingOf 44 = .ok (.aload_n 0, 1) := by decide +kernel
theorem dX10_thingOf_45 : decode cX10_thingOf 45 = .ok (.getfield 10, 3) := by decide +kernel
theorem dX10_thingOf_48 : decode cX10_thingOf 48 = .ok (.getfield 196, 3) := by decide +kernel
theorem dX10_thingOf_51 : decode cX10_thingOf 51 = .ok (.iload_n 1, 1) := by decide +kernel
theorem dX10_thingOf_52 : decode cX10_thingOf 52 = .ok (.iaload, 1) := by decide +kernel
theorem dX10_thingOf_53 : decode cX10_thingOf 53 = .ok (.ireturn, 1) := by decide +kernel
theorem dX10_thingOf_54 : decode cX10_thingOf 54 = .ok (.aload_n 0, 1) := by decide +kernel
theorem dX10_thingOf_55 : decode cX10_thingOf 55 = .ok (.getfield 10, 3) := by decide +kernel
theorem dX10_thingOf_58 : decode cX10_thingOf 58 = .ok (.getfield 199, 3) := by decide +kernel
theorem dX10_thingOf_61 : decode cX10_thingOf 61 = .ok (.iload_n 1, 1) := by decide +kernel
theorem dX10_thingOf_62 : decode cX10_thingOf 62 = .ok (.iaload, 1) := by decide +kernel
theorem dX10_thingOf_63 : decode cX10_thingOf 63 = .ok (.ireturn, 1) := by decide +kernel
theorem dX10_thingOf_64 : decode cX10_thingOf 64 = .ok (.aload_n 0, 1) := by decide +kernel
theorem dX10_thingOf_65 : decode cX10_thingOf 65 = .ok (.getfield 10, 3) := by decide +kernel
theorem dX10_thingOf_68 : decode cX10_thingOf 68 = .ok (.getfield 202, 3) := by decide +kernel
theorem dX10_thingOf_71 : decode cX10_thingOf 71 = .ok (.iload_n 1, 1) := by decide +kernel
theorem dX10_thingOf_72 : decode cX10_thingOf 72 = .ok (.iaload, 1) := by decide +kernel
theorem dX10_thingOf_73 : decode cX10_thingOf 73 = .ok (.ireturn, 1) := by decide +kernel
theorem dX10_thingOf_74 : decode cX10_thingOf 74 = .ok (.aload_n 0, 1) := by decide +kernel
theorem dX10_thingOf_75 : decode cX10_thingOf 75 = .ok (.getfield 10, 3) := by decide +kernel
theorem dX10_thingOf_78 : decode cX10_thingOf 78 = .ok (.getfield 205, 3) := by decide +kernel
theorem dX10_thingOf_81 : decode cX10_thingOf 81 = .ok (.iload_n 1, 1) := by decide +kernel
theorem dX10_thingOf_82 : decode cX10_thingOf 82 = .ok (.iaload, 1) := by decide +kernel
theorem dX10_thingOf_83 : decode cX10_thingOf 83 = .ok (.ireturn, 1) := by decide +kernel
theorem dX10_thingOf_84 : decode cX10_thingOf 84 = .ok (.bipush (-2), 2) := by decide +kernel
theorem dX10_thingOf_86 : decode cX10_thingOf 86 = .ok (.ireturn, 1) := by decide +kernel
set_option maxRecDepth 20000 in
theorem ggX10_cartOf_X9_isCart : GoodIn wsX10_cartOf wsX9_isCart := goodIn_r _ [9, 10, 78, 79, 80, 81, 82, 83, 84, 85, 86, 87, 88, 89, 90, 91, 92, 93] (by decide +kernel) (by decide +kernel)
set_option maxRecDepth 20000 in
theorem gX10_cartOf_X9_isCart : GoodIn wsX10_cartOf (wsV RX10 208 RX9 yX9_isCart wsX9_isCart) := goodIn_app (goodIn_of _ (by decide +kernel)) ggX10_cartOf_X9_isCart
set_option maxRecDepth 20000 in
theorem ggX10_cartOf_X9_premisesOn : GoodIn wsX10_cartOf wsX9_premisesOn := goodIn_r _ [14, 15, 16, 17, 78, 79, 80, 81, 82, 83, 84, 85, 86, 87, 88, 89, 90, 91, 92, 93] (by decide +kernel) (by decide +kernel)
set_option maxRecDepth 20000 in
theorem gX10_cartOf_X9_premisesOn : GoodIn wsX10_cartOf (wsV RX10 214 RX9 yX9_premisesOn wsX9_premisesOn) := goodIn_app (goodIn_of _ (by decide +kernel)) ggX10_cartOf_X9_premisesOn
set_option maxRecDepth 20000 in
theorem ggX10_cartOf_X9_weightOn : GoodIn wsX10_cartOf wsX9_weightOn := goodIn_r _ [21, 15, 16, 17, 22, 78, 79, 80, 81, 82, 83, 84, 85, 86, 87, 88, 89, 90, 91, 92, 93] (by decide +kernel) (by decide +kernel)
set_option maxRecDepth 20000 in
theorem gX10_cartOf_X9_weightOn : GoodIn wsX10_cartOf (wsV RX10 217 RX9 yX9_weightOn wsX9_weightOn) := goodIn_app (goodIn_of _ (by decide +kernel)) ggX10_cartOf_X9_weightOn
set_option maxRecDepth 20000 in
theorem ggX10_cartOf_X9_thingAt : GoodIn wsX10_cartOf wsX9_thingAt := goodIn_r _ [26, 15, 16, 27, 78, 79, 80, 81, 82, 83, 84, 85, 86, 87, 88, 89, 90, 91, 92, 93] (by decide +kernel) (by decide +kernel)
set_option maxRecDepth 20000 in
theorem gX10_cartOf_X9_thingAt : GoodIn wsX10_cartOf (wsV RX10 220 RX9 yX9_thingAt wsX9_thingAt) := goodIn_app (goodIn_of _ (by decide +kernel)) ggX10_cartOf_X9_thingAt
set_option maxRecDepth 20000 in
theorem ggX10_cartOf_X9_weightOfAllOn : GoodIn wsX10_cartOf wsX9_weightOfAllOn := goodIn_r _ [31, 32, 19, 20, 8, 21, 15, 16, 17, 22, 78, 79, 80, 81, 82, 83, 84, 85, 86, 87, 88, 89, 90, 91, 92, 93] (by decide +kernel) (by decide +kernel)
set_option maxRecDepth 20000 in
theorem gX10_cartOf_X9_weightOfAllOn : GoodIn wsX10_cartOf (wsV RX10 223 RX9 yX9_weightOfAllOn wsX9_weightOfAllOn) := goodIn_app (goodIn_of _ (by decide +kernel)) ggX10_cartOf_X9_weightOfAllOn
set_option maxRecDepth 20000 in
theorem ggX10_cartOf_X7_imbalance : GoodIn wsX10_cartOf wsX7_imbalance := goodIn_r _ [37, 38, 39, 40, 41, 42, 43, 44, 36, 45, 46, 47, 48, 49, 50, 51, 94, 78, 79, 80, 81, 82, 83, 84, 85, 86, 87, 88, 89, 90, 91, 92, 93] (by decide +kernel) (by decide +kernel)
set_option maxRecDepth 20000 in
theorem gX10_cartOf_X7_imbalance : GoodIn wsX10_cartOf (wsV RX10 229 RX7 yX7_imbalance wsX7_imbalance) := goodIn_app (goodIn_of _ (by decide +kernel)) ggX10_cartOf_X7_imbalance
set_option maxRecDepth 20000 in
theorem ggX10_cartOf_X7_creakingAxles : GoodIn wsX10_cartOf wsX7_creakingAxles := goodIn_r _ [55, 56, 57, 58, 36, 59, 60, 42, 43, 44, 45, 46, 47, 48, 49, 50, 51, 61, 62, 63, 64, 65, 94, 78, 79, 80, 81, 82, 83, 84, 85, 86, 87, 88, 89, 90, 91, 92, 93] (by decide +kernel) (by decide +kernel)
set_option maxRecDepth 20000 in
theorem gX10_cartOf_X7_creakingAxles : GoodIn wsX10_cartOf (wsV RX10 232 RX7 yX7_creakingAxles wsX7_creakingAxles) := goodIn_app (goodIn_of _ (by decide +kernel)) ggX10_cartOf_X7_creakingAxles
theorem dX10_cartOf_0 : decode cX10_cartOf 0 = .ok (.aload_n 0, 1) := by decide +kernel
theorem dX10_cartOf_1 : decode cX10_cartOf 1 = .ok (.getfield 10, 3) := by decide +kernel
theorem dX10_cartOf_4 : decode cX10_cartOf 4 = .ok (.iload_n 1, 1) := by decide +kernel
theorem dX10_cartOf_5 : decode cX10_cartOf 5 = .ok (.invokevirtual 208, 3) := by decide +kernel
theorem dX10_cartOf_8 : decode cX10_cartOf 8 = .ok (.ifCond .ne 5, 3) := by decide +kernel
theorem dX10_cartOf_11 : decode cX10_cartOf 11 = .ok (.iconst (-1), 1) := by decide +kernel
theorem dX10_cartOf_12 : decode cX10_cartOf 12 = .ok (.ireturn, 1) := by decide +kernel
theorem dX10_cartOf_13 : decode cX10_cartOf 13 = .ok (.iload_n 2, 1) := by decide +kernel
theorem dX10_cartOf_14 : decode cX10_cartOf 14 = .ok (.tableswitch 123 0 7 #[46, 56, 65, 75, 86, 95, 105, 114], 46) := by decide +kernel
theorem dX10_cartOf_60 : decode cX10_cartOf 60 = .ok (.aload_n 0, 1) := by decide +kernel
theorem dX10_cartOf_61 : decode cX10_cartOf 61 = .ok (.getfield 10, 3) := by decide +kernel
theorem dX10_cartOf_64 : decode cX10_cartOf 64 = .ok (.getfield 211, 3) := by decide +kernel
theorem dX10_cartOf_67 : decode cX10_cartOf 67 = .ok (.iload_n 1, 1) := by decide +kernel
theorem dX10_cartOf_68 : decode cX10_cartOf 68 = .ok (.iaload, 1) := by decide +kernel
theorem dX10_cartOf_69 : decode cX10_cartOf 69 = .ok (.ireturn, 1) := by decide +kernel
theorem dX10_cartOf_70 : decode cX10_cartOf 70 = .ok (.aload_n 0, 1) := by decide +kernel
theorem dX10_cartOf_71 : decode cX10_cartOf 71 = .ok (.getfield 10, 3) := by decide +kernel
theorem dX10_cartOf_74 : decode cX10_cartOf 74 = .ok (.iload_n 1, 1) := by decide +kernel
theorem dX10_cartOf_75 : decode cX10_cartOf 75 = .ok (.invokevirtual 214, 3) := by decide +kernel
theorem dX10_cartOf_78 : decode cX10_cartOf 78 = .ok (.ireturn, 1) := by decide +kernel
theorem dX10_cartOf_79 : decode cX10_cartOf 79 = .ok (.aload_n 0, 1) := by decide +kernel
theorem dX10_cartOf_80 : decode cX10_cartOf 80 = .ok (.getfield 10, 3) := by decide +kernel
theorem dX10_cartOf_83 : decode cX10_cartOf 83 = .ok (.iload_n 1, 1) := by decide +kernel
theorem dX10_cartOf_84 : decode cX10_cartOf 84 = .ok (.iconst 0, 1) := by decide +kernel
theorem dX10_cartOf_85 : decode cX10_cartOf 85 = .ok (.invokevirtual 217, 3) := by decide +kernel
theorem dX10_cartOf_88 : decode cX10_cartOf 88 = .ok (.ireturn, 1) := by decide +kernel
theorem dX10_cartOf_89 : decode cX10_cartOf 89 = .ok (.aload_n 0, 1) := by decide +kernel
theorem dX10_cartOf_90 : decode cX10_cartOf 90 = .ok (.getfield 10, 3) := by decide +kernel
theorem dX10_cartOf_93 : decode cX10_cartOf 93 = .ok (.iload_n 1, 1) := by decide +kernel
theorem dX10_cartOf_94 : decode cX10_cartOf 94 = .ok (.bipush 6, 2) := by decide +kernel
theorem dX10_cartOf_96 : decode cX10_cartOf 96 = .ok (.invokevirtual 220, 3) := by decide +kernel
theorem dX10_cartOf_99 : decode cX10_cartOf 99 = .ok (.ireturn, 1) := by decide +kernel
theorem dX10_cartOf_100 : decode cX10_cartOf 100 = .ok (.aload_n 0, 1) := by decide +kernel
theorem dX10_cartOf_101 : decode cX10_cartOf 101 = .ok (.getfield 10, 3) := by decide +kernel
theorem dX10_cartOf_104 : decode cX10_cartOf 104 = .ok (.iload_n 1, 1) := by decide +kernel
theorem dX10_cartOf_105 : decode cX10_cartOf 105 = .ok (.invokevirtual 223, 3) := by decide +kernel
theorem dX10_cartOf_108 : decode cX10_cartOf 108 = .ok (.ireturn, 1) := by decide +kernel
theorem dX10_cartOf_109 : decode cX10_cartOf 109 = .ok (.aload_n 0, 1) := by decide +kernel
theorem dX10_cartOf_110 : decode cX10_cartOf 110 = .ok (.getfield 10, 3) := by decide +kernel
theorem dX10_cartOf_113 : decode cX10_cartOf 113 = .ok (.getfield 226, 3) := by decide +kernel
theorem dX10_cartOf_116 : decode cX10_cartOf 116 = .ok (.iload_n 1, 1) := by decide +kernel
theorem dX10_cartOf_117 : decode cX10_cartOf 117 = .ok (.iaload, 1) := by decide +kernel
theorem dX10_cartOf_118 : decode cX10_cartOf 118 = .ok (.ireturn, 1) := by decide +kernel
theorem dX10_cartOf_119 : decode cX10_cartOf 119 = .ok (.aload_n 0, 1) := by decide +kernel
theorem dX10_cartOf_120 : decode cX10_cartOf 120 = .ok (.getfield 42, 3) := by decide +kernel
theorem dX10_cartOf_123 : decode cX10_cartOf 123 = .ok (.iload_n 1, 1) := by decide +kernel
theorem dX10_cartOf_124 : decode cX10_cartOf 124 = .ok (.invokevirtual 229, 3) := by decide +kernel
theorem dX10_cartOf_127 : decode cX10_cartOf 127 = .ok (.ireturn, 1) := by decide +kernel
theorem dX10_cartOf_128 : decode cX10_cartOf 128 = .ok (.aload_n 0, 1) := by decide +kernel
theorem dX10_cartOf_129 : decode cX10_cartOf 129 = .ok (.getfield 42, 3) := by decide +kernel
theorem dX10_cartOf_132 : decode cX10_cartOf 132 = .ok (.iload_n 1, 1) := by decide +kernel
theorem dX10_cartOf_133 : decode cX10_cartOf 133 = .ok (.invokevirtual 232, 3) := by decide +kernel
theorem dX10_cartOf_136 : decode cX10_cartOf 136 = .ok (.ireturn, 1) := by decide +kernel
theorem dX10_cartOf_137 : decode cX10_cartOf 137 = .ok (.bipush (-2), 2) := by decide +kernel
theorem dX10_cartOf_139 : decode cX10_cartOf 139 = .ok (.ireturn, 1) := by decide +kernel
set_option maxRecDepth 20000 in
theorem ggX10_at_X9_isCart : GoodIn wsX10_at wsX9_isCart := goodIn_r _ [6, 7, 27, 28, 29, 30, 31, 32, 33, 34, 35, 36, 37, 38, 39, 40, 41, 42] (by decide +kernel) (by decide +kernel)
set_option maxRecDepth 20000 in
theorem gX10_at_X9_isCart : GoodIn wsX10_at (wsV RX10 208 RX9 yX9_isCart wsX9_isCart) := goodIn_app (goodIn_of _ (by decide +kernel)) ggX10_at_X9_isCart
set_option maxRecDepth 20000 in
theorem ggX10_at_X9_thingAt : GoodIn wsX10_at wsX9_thingAt := goodIn_r _ [11, 12, 13, 14, 27, 28, 29, 30, 31, 32, 33, 34, 35, 36, 37, 38, 39, 40, 41, 42] (by decide +kernel) (by decide +kernel)
set_option maxRecDepth 20000 in
theorem gX10_at_X9_thingAt : GoodIn wsX10_at (wsV RX10 220 RX9 yX9_thingAt wsX9_thingAt) := goodIn_app (goodIn_of _ (by decide +kernel)) ggX10_at_X9_thingAt
theorem dX10_at_0 : decode cX10_at 0 = .ok (.aload_n 0, 1) := by decide +kernel
theorem dX10_at_1 : decode cX10_at 1 = .ok (.getfield 10, 3) := by decide +kernel
theorem dX10_at_4 : decode cX10_at 4 = .ok (.iload_n 1, 1) := by decide +kernel
theorem dX10_at_5 : decode cX10_at 5 = .ok (.invokevirtual 208, 3) := by decide +kernel
theorem dX10_at_8 : decode cX10_at 8 = .ok (.ifCond .ne 5, 3) := by decide +kernel
theorem dX10_at_11 : decode cX10_at 11 = .ok (.iconst (-1), 1) := by decide +kernel
theorem dX10_at_12 : decode cX10_at 12 = .ok (.ireturn, 1) := by decide +kernel
theorem dX10_at_13 : decode cX10_at 13 = .ok (.iload_n 2, 1) := by decide +kernel
theorem dX10_at_14 : decode cX10_at 14 = .ok (.ifCond .lt 9, 3) := by decide +kernel
theorem dX10_at_17 : decode cX10_at 17 = .ok (.iload_n 2, 1) := by decide +kernel
theorem dX10_at_18 : decode cX10_at 18 = .ok (.bipush 6, 2) := by decide +kernel
theorem dX10_at_20 : decode cX10_at 20 = .ok (.if_icmp .le 6, 3) := by decide +kernel
theorem dX10_at_23 : decode cX10_at 23 = .ok (.bipush (-2), 2) := by decide +kernel
theorem dX10_at_25 : decode cX10_at 25 = .ok (.ireturn, 1) := by decide +kernel
theorem dX10_at_26 : decode cX10_at 26 = .ok (.aload_n 0, 1) := by decide +kernel
theorem dX10_at_27 : decode cX10_at 27 = .ok (.getfield 10, 3) := by decide +kernel
theorem dX10_at_30 : decode cX10_at 30 = .ok (.iload_n 1, 1) := by decide +kernel
theorem dX10_at_31 : decode cX10_at 31 = .ok (.iload_n 2, 1) := by decide +kernel
theorem dX10_at_32 : decode cX10_at 32 = .ok (.invokevirtual 220, 3) := by decide +kernel
theorem dX10_at_35 : decode cX10_at 35 = .ok (.ireturn, 1) := by decide +kernel
set_option maxRecDepth 20000 in
theorem ggX10_roadOf_X9_isRoad : GoodIn wsX10_roadOf wsX9_isRoad := goodIn_r _ [10, 11, 24, 25, 26, 27, 28, 29, 30, 31, 32, 33, 34, 35, 36, 37, 38, 39] (by decide +kernel) (by decide +kernel)
set_option maxRecDepth 20000 in
theorem gX10_roadOf_X9_isRoad : GoodIn wsX10_roadOf (wsV RX10 235 RX9 yX9_isRoad wsX9_isRoad) := goodIn_app (goodIn_of _ (by decide +kernel)) ggX10_roadOf_X9_isRoad
theorem dX10_roadOf_0 : decode cX10_roadOf 0 = .ok (.aload_n 0, 1) := by decide +kernel
theorem dX10_roadOf_1 : decode cX10_roadOf 1 = .ok (.getfield 10, 3) := by decide +kernel
theorem dX10_roadOf_4 : decode cX10_roadOf 4 = .ok (.iload_n 1, 1) := by decide +kernel
theorem dX10_roadOf_5 : decode cX10_roadOf 5 = .ok (.invokevirtual 235, 3) := by decide +kernel
theorem dX10_roadOf_8 : decode cX10_roadOf 8 = .ok (.ifCond .ne 5, 3) := by decide +kernel
theorem dX10_roadOf_11 : decode cX10_roadOf 11 = .ok (.iconst (-1), 1) := by decide +kernel
theorem dX10_roadOf_12 : decode cX10_roadOf 12 = .ok (.ireturn, 1) := by decide +kernel
theorem dX10_roadOf_13 : decode cX10_roadOf 13 = .ok (.iload_n 2, 1) := by decide +kernel
theorem dX10_roadOf_14 : decode cX10_roadOf 14 = .ok (.tableswitch 70 0 3 #[30, 40, 50, 60], 30) := by decide +kernel
theorem dX10_roadOf_44 : decode cX10_roadOf 44 = .ok (.aload_n 0, 1) := by decide +kernel
theorem dX10_roadOf_45 : decode cX10_roadOf 45 = .ok (.getfield 10, 3) := by decide +kernel
theorem dX10_roadOf_48 : decode cX10_roadOf 48 = .ok (.getfield 238, 3) := by decide +kernel
theorem dX10_roadOf_51 : decode cX10_roadOf 51 = .ok (.iload_n 1, 1) := by decide +kernel
theorem dX10_roadOf_52 : decode cX10_roadOf 52 = .ok (.iaload, 1) := by decide +kernel
theorem dX10_roadOf_53 : decode cX10_roadOf 53 = .ok (.ireturn, 1) := by decide +kernel
theorem dX10_roadOf_54 : decode cX10_roadOf 54 = .ok (.aload_n 0, 1) := by decide +kernel
theorem dX10_roadOf_55 : decode cX10_roadOf 55 = .ok (.getfield 10, 3) := by decide +kernel
theorem dX10_roadOf_58 : decode cX10_roadOf 58 = .ok (.getfield 241, 3) := by decide +kernel
theorem dX10_roadOf_61 : decode cX10_roadOf 61 = .ok (.iload_n 1, 1) := by decide +kernel
theorem dX10_roadOf_62 : decode cX10_roadOf 62 = .ok (.iaload, 1) := by decide +kernel
theorem dX10_roadOf_63 : decode cX10_roadOf 63 = .ok (.ireturn, 1) := by decide +kernel
theorem dX10_roadOf_64 : decode cX10_roadOf 64 = .ok (.aload_n 0, 1) := by decide +kernel
theorem dX10_roadOf_65 : decode cX10_roadOf 65 = .ok (.getfield 10, 3) := by decide +kernel
theorem dX10_roadOf_68 : decode cX10_roadOf 68 = .ok (.getfield 244, 3) := by decide +kernel
theorem dX10_roadOf_71 : decode cX10_roadOf 71 = .ok (.iload_n 1, 1) := by decide +kernel
theorem dX10_roadOf_72 : decode cX10_roadOf 72 = .ok (.iaload, 1) := by decide +kernel
theorem dX10_roadOf_73 : decode cX10_roadOf 73 = .ok (.ireturn, 1) := by decide +kernel
theorem dX10_roadOf_74 : decode cX10_roadOf 74 = .ok (.aload_n 0, 1) := by decide +kernel
theorem dX10_roadOf_75 : decode cX10_roadOf 75 = .ok (.getfield 10, 3) := by decide +kernel
theorem dX10_roadOf_78 : decode cX10_roadOf 78 = .ok (.getfield 247, 3) := by decide +kernel
theorem dX10_roadOf_81 : decode cX10_roadOf 81 = .ok (.iload_n 1, 1) := by decide +kernel
theorem dX10_roadOf_82 : decode cX10_roadOf 82 = .ok (.iaload, 1) := by decide +kernel
theorem dX10_roadOf_83 : decode cX10_roadOf 83 = .ok (.ireturn, 1) := by decide +kernel
theorem dX10_roadOf_84 : decode cX10_roadOf 84 = .ok (.bipush (-2), 2) := by decide +kernel
theorem dX10_roadOf_86 : decode cX10_roadOf 86 = .ok (.ireturn, 1) := by decide +kernel
set_option maxRecDepth 20000 in
theorem ggX10_tenths_X9_isCart : GoodIn wsX10_tenths wsX9_isCart := goodIn_r _ [7, 8, 32, 33, 34, 35, 36, 37, 38, 39, 40, 41, 42, 43, 44, 45, 46, 47] (by decide +kernel) (by decide +kernel)
set_option maxRecDepth 20000 in
theorem gX10_tenths_X9_isCart : GoodIn wsX10_tenths (wsV RX10 208 RX9 yX9_isCart wsX9_isCart) := goodIn_app (goodIn_of _ (by decide +kernel)) ggX10_tenths_X9_isCart
set_option maxRecDepth 20000 in
theorem ggX10_tenths_X7_tenthsByThings : GoodIn wsX10_tenths wsX7_tenthsByThings := goodIn_r _ [13, 14, 15, 16, 17, 18, 19, 48, 32, 33, 34, 35, 36, 37, 38, 39, 40, 41, 42, 43, 44, 45, 46, 47] (by decide +kernel) (by decide +kernel)
set_option maxRecDepth 20000 in
theorem gX10_tenths_X7_tenthsByThings : GoodIn wsX10_tenths (wsV RX10 250 RX7 yX7_tenthsByThings wsX7_tenthsByThings) := goodIn_app (goodIn_of _ (by decide +kernel)) ggX10_tenths_X7_tenthsByThings
theorem dX10_tenths_0 : decode cX10_tenths 0 = .ok (.aload_n 0, 1) := by decide +kernel
theorem dX10_tenths_1 : decode cX10_tenths 1 = .ok (.getfield 10, 3) := by decide +kernel
theorem dX10_tenths_4 : decode cX10_tenths 4 = .ok (.iload_n 1, 1) := by decide +kernel
theorem dX10_tenths_5 : decode cX10_tenths 5 = .ok (.invokevirtual 208, 3) := by decide +kernel
theorem dX10_tenths_8 : decode cX10_tenths 8 = .ok (.ifCond .eq 15, 3) := by decide +kernel
theorem dX10_tenths_11 : decode cX10_tenths 11 = .ok (.aload_n 0, 1) := by decide +kernel
theorem dX10_tenths_12 : decode cX10_tenths 12 = .ok (.getfield 42, 3) := by decide +kernel
theorem dX10_tenths_15 : decode cX10_tenths 15 = .ok (.iload_n 1, 1) := by decide +kernel
theorem dX10_tenths_16 : decode cX10_tenths 16 = .ok (.iload_n 2, 1) := by decide +kernel
theorem dX10_tenths_17 : decode cX10_tenths 17 = .ok (.invokevirtual 250, 3) := by decide +kernel
theorem dX10_tenths_20 : decode cX10_tenths 20 = .ok (.goto 4, 3) := by decide +kernel
theorem dX10_tenths_23 : decode cX10_tenths 23 = .ok (.iconst (-1), 1) := by decide +kernel
theorem dX10_tenths_24 : decode cX10_tenths 24 = .ok (.ireturn, 1) := by decide +kernel
set_option maxRecDepth 20000 in
theorem ggX10_tenthsAgain_X9_isCart : GoodIn wsX10_tenthsAgain wsX9_isCart := goodIn_r _ [7, 8, 48, 49, 50, 51, 52, 53, 54, 55, 56, 57, 58, 59, 60, 61, 62, 63] (by decide +kernel) (by decide +kernel)
set_option maxRecDepth 20000 in
theorem gX10_tenthsAgain_X9_isCart : GoodIn wsX10_tenthsAgain (wsV RX10 208 RX9 yX9_isCart wsX9_isCart) := goodIn_app (goodIn_of _ (by decide +kernel)) ggX10_tenthsAgain_X9_isCart
set_option maxRecDepth 20000 in
theorem ggX10_tenthsAgain_X7_tenthsByOther : GoodIn wsX10_tenthsAgain wsX7_tenthsByOther := goodIn_r _ [13, 14, 15, 16, 17, 6, 18, 19, 20, 21, 22, 23, 24, 25, 26, 27, 28, 29, 12, 30, 31, 32, 33, 34, 35, 64, 48, 49, 50, 51, 52, 53, 54, 55, 56, 57, 58, 59, 60, 61, 62, 63] (by decide +kernel) (by decide +kernel)
set_option maxRecDepth 20000 in
theorem gX10_tenthsAgain_X7_tenthsByOther : GoodIn wsX10_tenthsAgain (wsV RX10 254 RX7 yX7_tenthsByOther wsX7_tenthsByOther) := goodIn_app (goodIn_of _ (by decide +kernel)) ggX10_tenthsAgain_X7_tenthsByOther
theorem dX10_tenthsAgain_0 : decode cX10_tenthsAgain 0 = .ok (.aload_n 0, 1) := by decide +kernel
theorem dX10_tenthsAgain_1 : decode cX10_tenthsAgain 1 = .ok (.getfield 10, 3) := by decide +kernel
theorem dX10_tenthsAgain_4 : decode cX10_tenthsAgain 4 = .ok (.iload_n 1, 1) := by decide +kernel
theorem dX10_tenthsAgain_5 : decode cX10_tenthsAgain 5 = .ok (.invokevirtual 208, 3) := by decide +kernel
theorem dX10_tenthsAgain_8 : decode cX10_tenthsAgain 8 = .ok (.ifCond .eq 15, 3) := by decide +kernel
theorem dX10_tenthsAgain_11 : decode cX10_tenthsAgain 11 = .ok (.aload_n 0, 1) := by decide +kernel
theorem dX10_tenthsAgain_12 : decode cX10_tenthsAgain 12 = .ok (.getfield 42, 3) := by decide +kernel
theorem dX10_tenthsAgain_15 : decode cX10_tenthsAgain 15 = .ok (.iload_n 1, 1) := by decide +kernel
theorem dX10_tenthsAgain_16 : decode cX10_tenthsAgain 16 = .ok (.iload_n 2, 1) := by decide +kernel
theorem dX10_tenthsAgain_17 : decode cX10_tenthsAgain 17 = .ok (.invokevirtual 254, 3) := by decide +kernel
theorem dX10_tenthsAgain_20 : decode cX10_tenthsAgain 20 = .ok (.goto 4, 3) := by decide +kernel
theorem dX10_tenthsAgain_23 : decode cX10_tenthsAgain 23 = .ok (.iconst (-1), 1) := by decide +kernel
theorem dX10_tenthsAgain_24 : decode cX10_tenthsAgain 24 = .ok (.ireturn, 1) := by decide +kernel
set_option maxRecDepth 20000 in
theorem ggX10_axle_X9_isCart : GoodIn wsX10_axle wsX9_isCart := goodIn_r _ [8, 9, 38, 39, 40, 41, 42, 43, 44, 45, 46, 47, 48, 49, 50, 51, 52, 53] (by decide +kernel) (by decide +kernel)
set_option maxRecDepth 20000 in
theorem gX10_axle_X9_isCart : GoodIn wsX10_axle (wsV RX10 208 RX9 yX9_isCart wsX9_isCart) := goodIn_app (goodIn_of _ (by decide +kernel)) ggX10_axle_X9_isCart
set_option maxRecDepth 20000 in
theorem ggX10_axle_X7_axleLoad : GoodIn wsX10_axle wsX7_axleLoad := goodIn_r _ [14, 15, 16, 17, 18, 13, 19, 20, 21, 22, 23, 24, 25, 54, 38, 39, 40, 41, 42, 43, 44, 45, 46, 47, 48, 49, 50, 51, 52, 53] (by decide +kernel) (by decide +kernel)
set_option maxRecDepth 20000 in
theorem gX10_axle_X7_axleLoad : GoodIn wsX10_axle (wsV RX10 257 RX7 yX7_axleLoad wsX7_axleLoad) := goodIn_app (goodIn_of _ (by decide +kernel)) ggX10_axle_X7_axleLoad
theorem dX10_axle_0 : decode cX10_axle 0 = .ok (.aload_n 0, 1) := by decide +kernel
theorem dX10_axle_1 : decode cX10_axle 1 = .ok (.getfield 10, 3) := by decide +kernel
theorem dX10_axle_4 : decode cX10_axle 4 = .ok (.iload_n 1, 1) := by decide +kernel
theorem dX10_axle_5 : decode cX10_axle 5 = .ok (.invokevirtual 208, 3) := by decide +kernel
theorem dX10_axle_8 : decode cX10_axle 8 = .ok (.ifCond .eq 15, 3) := by decide +kernel
theorem dX10_axle_11 : decode cX10_axle 11 = .ok (.aload_n 0, 1) := by decide +kernel
theorem dX10_axle_12 : decode cX10_axle 12 = .ok (.getfield 42, 3) := by decide +kernel
theorem dX10_axle_15 : decode cX10_axle 15 = .ok (.iload_n 1, 1) := by decide +kernel
theorem dX10_axle_16 : decode cX10_axle 16 = .ok (.iload_n 2, 1) := by decide +kernel
theorem dX10_axle_17 : decode cX10_axle 17 = .ok (.invokevirtual 257, 3) := by decide +kernel
theorem dX10_axle_20 : decode cX10_axle 20 = .ok (.goto 6, 3) := by decide +kernel
theorem dX10_axle_23 : decode cX10_axle 23 = .ok (.ldc_w 261, 3) := by decide +kernel
theorem dX10_axle_26 : decode cX10_axle 26 = .ok (.freturn, 1) := by decide +kernel
set_option maxRecDepth 20000 in
theorem ggX10_wear_X9_isCart : GoodIn wsX10_wear wsX9_isCart := goodIn_r _ [7, 8, 29, 30, 31, 32, 33, 34, 35, 36, 37, 38, 39, 40, 41, 42, 43, 44] (by decide +kernel) (by decide +kernel)
set_option maxRecDepth 20000 in
theorem gX10_wear_X9_isCart : GoodIn wsX10_wear (wsV RX10 208 RX9 yX9_isCart wsX9_isCart) := goodIn_app (goodIn_of _ (by decide +kernel)) ggX10_wear_X9_isCart
set_option maxRecDepth 20000 in
theorem ggX10_wear_X9_wearOf : GoodIn wsX10_wear wsX9_wearOf := goodIn_r _ [12, 13, 14, 15, 6, 16, 29, 30, 31, 32, 33, 34, 35, 36, 37, 38, 39, 40, 41, 42, 43, 44] (by decide +kernel) (by decide +kernel)
set_option maxRecDepth 20000 in
theorem gX10_wear_X9_wearOf : GoodIn wsX10_wear (wsV RX10 262 RX9 yX9_wearOf wsX9_wearOf) := goodIn_app (goodIn_of _ (by decide +kernel)) ggX10_wear_X9_wearOf
theorem dX10_wear_0 : decode cX10_wear 0 = .ok (.aload_n 0, 1) := by decide +kernel
theorem dX10_wear_1 : decode cX10_wear 1 = .ok (.getfield 10, 3) := by decide +kernel
theorem dX10_wear_4 : decode cX10_wear 4 = .ok (.iload_n 1, 1) := by decide +kernel
theorem dX10_wear_5 : decode cX10_wear 5 = .ok (.invokevirtual 208, 3) := by decide +kernel
theorem dX10_wear_8 : decode cX10_wear 8 = .ok (.ifCond .eq 15, 3) := by decide +kernel
theorem dX10_wear_11 : decode cX10_wear 11 = .ok (.aload_n 0, 1) := by decide +kernel
theorem dX10_wear_12 : decode cX10_wear 12 = .ok (.getfield 10, 3) := by decide +kernel
theorem dX10_wear_15 : decode cX10_wear 15 = .ok (.iload_n 1, 1) := by decide +kernel
theorem dX10_wear_16 : decode cX10_wear 16 = .ok (.iload_n 2, 1) := by decide +kernel
theorem dX10_wear_17 : decode cX10_wear 17 = .ok (.invokevirtual 262, 3) := by decide +kernel
theorem dX10_wear_20 : decode cX10_wear 20 = .ok (.goto 6, 3) := by decide +kernel
theorem dX10_wear_23 : decode cX10_wear 23 = .ok (.ldc_w 261, 3) := by decide +kernel
theorem dX10_wear_26 : decode cX10_wear 26 = .ok (.freturn, 1) := by decide +kernel
set_option maxRecDepth 20000 in
theorem ggX10_best_X9_isCart : GoodIn wsX10_best wsX9_isCart := goodIn_r _ [7, 8, 48, 49, 50, 51, 52, 53, 54, 55, 56, 57, 58, 59, 60, 61, 62, 63] (by decide +kernel) (by decide +kernel)
set_option maxRecDepth 20000 in
theorem gX10_best_X9_isCart : GoodIn wsX10_best (wsV RX10 208 RX9 yX9_isCart wsX9_isCart) := goodIn_app (goodIn_of _ (by decide +kernel)) ggX10_best_X9_isCart
set_option maxRecDepth 20000 in
theorem ggX10_best_X1_leastByWays : GoodIn wsX10_best wsX1_leastByWays := goodIn_r _ [13, 14, 15, 16, 17, 18, 12, 19, 20, 21, 22, 23, 24, 25, 26, 27, 28, 29, 30, 31, 32, 33, 34, 35, 64, 65, 66, 67, 68, 69, 48, 49, 50, 51, 52, 53, 54, 55, 56, 57, 58, 59, 60, 61, 62, 63] (by decide +kernel) (by decide +kernel)
set_option maxRecDepth 20000 in
theorem gX10_best_X1_leastByWays : GoodIn wsX10_best (wsV RX10 269 RX1 yX1_leastByWays wsX1_leastByWays) := goodIn_app (goodIn_of _ (by decide +kernel)) ggX10_best_X1_leastByWays
theorem dX10_best_0 : decode cX10_best 0 = .ok (.aload_n 0, 1) := by decide +kernel
theorem dX10_best_1 : decode cX10_best 1 = .ok (.getfield 10, 3) := by decide +kernel
theorem dX10_best_4 : decode cX10_best 4 = .ok (.iload_n 1, 1) := by decide +kernel
theorem dX10_best_5 : decode cX10_best 5 = .ok (.invokevirtual 208, 3) := by decide +kernel
theorem dX10_best_8 : decode cX10_best 8 = .ok (.ifCond .eq 14, 3) := by decide +kernel
theorem dX10_best_11 : decode cX10_best 11 = .ok (.aload_n 0, 1) := by decide +kernel
theorem dX10_best_12 : decode cX10_best 12 = .ok (.getfield 58, 3) := by decide +kernel
theorem dX10_best_15 : decode cX10_best 15 = .ok (.iload_n 1, 1) := by decide +kernel
theorem dX10_best_16 : decode cX10_best 16 = .ok (.invokevirtual 269, 3) := by decide +kernel
theorem dX10_best_19 : decode cX10_best 19 = .ok (.goto 4, 3) := by decide +kernel
theorem dX10_best_22 : decode cX10_best 22 = .ok (.iconst (-1), 1) := by decide +kernel
theorem dX10_best_23 : decode cX10_best 23 = .ok (.ireturn, 1) := by decide +kernel
set_option maxRecDepth 20000 in
theorem ggX10_bestAgain_X9_isCart : GoodIn wsX10_bestAgain wsX9_isCart := goodIn_r _ [7, 8, 64, 65, 66, 67, 68, 69, 70, 71, 72, 73, 74, 75, 76, 77, 78, 79] (by decide +kernel) (by decide +kernel)
set_option maxRecDepth 20000 in
theorem gX10_bestAgain_X9_isCart : GoodIn wsX10_bestAgain (wsV RX10 208 RX9 yX9_isCart wsX9_isCart) := goodIn_app (goodIn_of _ (by decide +kernel)) ggX10_bestAgain_X9_isCart
set_option maxRecDepth 20000 in
theorem ggX10_bestAgain_X1_leastBySets : GoodIn wsX10_bestAgain wsX1_leastBySets := goodIn_r _ [13, 14, 15, 16, 17, 18, 19, 20, 12, 21, 22, 23, 24, 25, 26, 27, 28, 29, 30, 31, 32, 33, 34, 35, 36, 37, 38, 39, 40, 41, 42, 43, 44, 45, 46, 47, 48, 49, 50, 51, 80, 81, 82, 83, 84, 85, 64, 65, 66, 67, 68, 69, 70, 71, 72, 73, 74, 75, 76, 77, 78, 79] (by decide +kernel) (by decide +kernel)
set_option maxRecDepth 20000 in
theorem gX10_bestAgain_X1_leastBySets : GoodIn wsX10_bestAgain (wsV RX10 272 RX1 yX1_leastBySets wsX1_leastBySets) := goodIn_app (goodIn_of _ (by decide +kernel)) ggX10_bestAgain_X1_leastBySets
theorem dX10_bestAgain_0 : decode cX10_bestAgain 0 = .ok (.aload_n 0, 1) := by decide +kernel
theorem dX10_bestAgain_1 : decode cX10_bestAgain 1 = .ok (.getfield 10, 3) := by decide +kernel
theorem dX10_bestAgain_4 : decode cX10_bestAgain 4 = .ok (.iload_n 1, 1) := by decide +kernel
theorem dX10_bestAgain_5 : decode cX10_bestAgain 5 = .ok (.invokevirtual 208, 3) := by decide +kernel
theorem dX10_bestAgain_8 : decode cX10_bestAgain 8 = .ok (.ifCond .eq 14, 3) := by decide +kernel
theorem dX10_bestAgain_11 : decode cX10_bestAgain 11 = .ok (.aload_n 0, 1) := by decide +kernel
theorem dX10_bestAgain_12 : decode cX10_bestAgain 12 = .ok (.getfield 58, 3) := by decide +kernel
theorem dX10_bestAgain_15 : decode cX10_bestAgain 15 = .ok (.iload_n 1, 1) := by decide +kernel
theorem dX10_bestAgain_16 : decode cX10_bestAgain 16 = .ok (.invokevirtual 272, 3) := by decide +kernel
theorem dX10_bestAgain_19 : decode cX10_bestAgain 19 = .ok (.goto 4, 3) := by decide +kernel
theorem dX10_bestAgain_22 : decode cX10_bestAgain 22 = .ok (.iconst (-1), 1) := by decide +kernel
theorem dX10_bestAgain_23 : decode cX10_bestAgain 23 = .ok (.ireturn, 1) := by decide +kernel
set_option maxRecDepth 20000 in
theorem ggX10_takes_X9_isCart : GoodIn wsX10_takes wsX9_isCart := goodIn_r _ [7, 8, 38, 39, 40, 41, 42, 43, 44, 45, 46, 47, 48, 49, 50, 51, 52, 53] (by decide +kernel) (by decide +kernel)
set_option maxRecDepth 20000 in
theorem gX10_takes_X9_isCart : GoodIn wsX10_takes (wsV RX10 208 RX9 yX9_isCart wsX9_isCart) := goodIn_app (goodIn_of _ (by decide +kernel)) ggX10_takes_X9_isCart
set_option maxRecDepth 20000 in
theorem ggX10_takes_X9_isWithinLimit : GoodIn wsX10_takes wsX9_isWithinLimit := goodIn_r _ [12, 13, 14, 15, 16, 6, 17, 18, 19, 20, 21, 22, 23, 24, 25, 38, 39, 40, 41, 42, 43, 44, 45, 46, 47, 48, 49, 50, 51, 52, 53] (by decide +kernel) (by decide +kernel)
set_option maxRecDepth 20000 in
theorem gX10_takes_X9_isWithinLimit : GoodIn wsX10_takes (wsV RX10 281 RX9 yX9_isWithinLimit wsX9_isWithinLimit) := goodIn_app (goodIn_of _ (by decide +kernel)) ggX10_takes_X9_isWithinLimit
theorem dX10_takes_0 : decode cX10_takes 0 = .ok (.aload_n 0, 1) := by decide +kernel
theorem dX10_takes_1 : decode cX10_takes 1 = .ok (.getfield 10, 3) := by decide +kernel
theorem dX10_takes_4 : decode cX10_takes 4 = .ok (.iload_n 1, 1) := by decide +kernel
theorem dX10_takes_5 : decode cX10_takes 5 = .ok (.invokevirtual 208, 3) := by decide +kernel
theorem dX10_takes_8 : decode cX10_takes 8 = .ok (.ifCond .ne 5, 3) := by decide +kernel
theorem dX10_takes_11 : decode cX10_takes 11 = .ok (.iconst (-1), 1) := by decide +kernel
theorem dX10_takes_12 : decode cX10_takes 12 = .ok (.ireturn, 1) := by decide +kernel
theorem dX10_takes_13 : decode cX10_takes 13 = .ok (.iconst 0, 1) := by decide +kernel
theorem dX10_takes_14 : decode cX10_takes 14 = .ok (.istore_n 2, 1) := by decide +kernel
theorem dX10_takes_15 : decode cX10_takes 15 = .ok (.iconst 0, 1) := by decide +kernel
theorem dX10_takes_16 : decode cX10_takes 16 = .ok (.istore_n 3, 1) := by decide +kernel
theorem dX10_takes_17 : decode cX10_takes 17 = .ok (.iload_n 3, 1) := by decide +kernel
theorem dX10_takes_18 : decode cX10_takes 18 = .ok (.aload_n 0, 1) := by decide +kernel
theorem dX10_takes_19 : decode cX10_takes 19 = .ok (.getfield 10, 3) := by decide +kernel
theorem dX10_takes_22 : decode cX10_takes 22 = .ok (.getfield 278, 3) := by decide +kernel
theorem dX10_takes_25 : decode cX10_takes 25 = .ok (.if_icmp .ge 27, 3) := by decide +kernel
theorem dX10_takes_28 : decode cX10_takes 28 = .ok (.aload_n 0, 1) := by decide +kernel
theorem dX10_takes_29 : decode cX10_takes 29 = .ok (.getfield 10, 3) := by decide +kernel
theorem dX10_takes_32 : decode cX10_takes 32 = .ok (.iload_n 1, 1) := by decide +kernel
theorem dX10_takes_33 : decode cX10_takes 33 = .ok (.iload_n 3, 1) := by decide +kernel
theorem dX10_takes_34 : decode cX10_takes 34 = .ok (.invokevirtual 281, 3) := by decide +kernel
theorem dX10_takes_37 : decode cX10_takes 37 = .ok (.ifCond .eq 9, 3) := by decide +kernel
theorem dX10_takes_40 : decode cX10_takes 40 = .ok (.iload_n 2, 1) := by decide +kernel
theorem dX10_takes_41 : decode cX10_takes 41 = .ok (.iconst 1, 1) := by decide +kernel
theorem dX10_takes_42 : decode cX10_takes 42 = .ok (.iload_n 3, 1) := by decide +kernel
theorem dX10_takes_43 : decode cX10_takes 43 = .ok (.ishl, 1) := by decide +kernel
theorem dX10_takes_44 : decode cX10_takes 44 = .ok (.ior, 1) := by decide +kernel
theorem dX10_takes_45 : decode cX10_takes 45 = .ok (.istore_n 2, 1) := by decide +kernel
theorem dX10_takes_46 : decode cX10_takes 46 = .ok (.iinc 3 1, 3) := by decide +kernel
theorem dX10_takes_49 : decode cX10_takes 49 = .ok (.goto (-32), 3) := by decide +kernel
theorem dX10_takes_52 : decode cX10_takes 52 = .ok (.iload_n 2, 1) := by decide +kernel
theorem dX10_takes_53 : decode cX10_takes 53 = .ok (.ireturn, 1) := by decide +kernel
set_option maxRecDepth 20000 in
theorem ggX10_cheapest_X9_isCart : GoodIn wsX10_cheapest wsX9_isCart := goodIn_r _ [7, 8, 65, 66, 67, 68, 69, 70, 71, 72, 73, 74, 75, 76, 77, 78, 79, 80] (by decide +kernel) (by decide +kernel)
set_option maxRecDepth 20000 in
theorem gX10_cheapest_X9_isCart : GoodIn wsX10_cheapest (wsV RX10 208 RX9 yX9_isCart wsX9_isCart) := goodIn_app (goodIn_of _ (by decide +kernel)) ggX10_cheapest_X9_isCart
set_option maxRecDepth 20000 in
theorem ggX10_cheapest_X5_cheapestRoad : GoodIn wsX10_cheapest wsX5_cheapestRoad := goodIn_r _ [13, 14, 15, 16, 17, 18, 6, 19, 20, 21, 22, 23, 24, 25, 26, 27, 28, 29, 30, 31, 32, 33, 34, 35, 36, 37, 38, 39, 40, 12, 41, 42, 43, 44, 45, 46, 47, 48, 49, 50, 51, 52, 81, 82, 65, 66, 67, 68, 69, 70, 71, 72, 73, 74, 75, 76, 77, 78, 79, 80, 83] (by decide +kernel) (by decide +kernel)
set_option maxRecDepth 20000 in
theorem gX10_cheapest_X5_cheapestRoad : GoodIn wsX10_cheapest (wsV RX10 285 RX5 yX5_cheapestRoad wsX5_cheapestRoad) := goodIn_app (goodIn_of _ (by decide +kernel)) ggX10_cheapest_X5_cheapestRoad
theorem dX10_cheapest_0 : decode cX10_cheapest 0 = .ok (.aload_n 0, 1) := by decide +kernel
theorem dX10_cheapest_1 : decode cX10_cheapest 1 = .ok (.getfield 10, 3) := by decide +kernel
theorem dX10_cheapest_4 : decode cX10_cheapest 4 = .ok (.iload_n 1, 1) := by decide +kernel
theorem dX10_cheapest_5 : decode cX10_cheapest 5 = .ok (.invokevirtual 208, 3) := by decide +kernel
theorem dX10_cheapest_8 : decode cX10_cheapest 8 = .ok (.ifCond .eq 14, 3) := by decide +kernel
theorem dX10_cheapest_11 : decode cX10_cheapest 11 = .ok (.aload_n 0, 1) := by decide +kernel
theorem dX10_cheapest_12 : decode cX10_cheapest 12 = .ok (.getfield 67, 3) := by decide +kernel
theorem dX10_cheapest_15 : decode cX10_cheapest 15 = .ok (.iload_n 1, 1) := by decide +kernel
theorem dX10_cheapest_16 : decode cX10_cheapest 16 = .ok (.invokevirtual 285, 3) := by decide +kernel
theorem dX10_cheapest_19 : decode cX10_cheapest 19 = .ok (.goto 4, 3) := by decide +kernel
theorem dX10_cheapest_22 : decode cX10_cheapest 22 = .ok (.iconst (-1), 1) := by decide +kernel
theorem dX10_cheapest_23 : decode cX10_cheapest 23 = .ok (.ireturn, 1) := by decide +kernel
set_option maxRecDepth 20000 in
theorem ggX10_heaviest_X5_thingInOrder : GoodIn wsX10_heaviest wsX5_thingInOrder := goodIn_r _ [6, 7, 8, 9, 10, 11, 5, 12, 13, 14, 27, 28, 29, 30, 31, 32, 33, 34, 35, 36, 37, 38, 39, 40, 41, 42, 43, 44] (by decide +kernel) (by decide +kernel)
set_option maxRecDepth 20000 in
theorem gX10_heaviest_X5_thingInOrder : GoodIn wsX10_heaviest (wsV RX10 288 RX5 yX5_thingInOrder wsX5_thingInOrder) := goodIn_app (goodIn_of _ (by decide +kernel)) ggX10_heaviest_X5_thingInOrder
theorem dX10_heaviest_0 : decode cX10_heaviest 0 = .ok (.aload_n 0, 1) := by decide +kernel
theorem dX10_heaviest_1 : decode cX10_heaviest 1 = .ok (.getfield 67, 3) := by decide +kernel
theorem dX10_heaviest_4 : decode cX10_heaviest 4 = .ok (.iload_n 1, 1) := by decide +kernel
theorem dX10_heaviest_5 : decode cX10_heaviest 5 = .ok (.invokevirtual 288, 3) := by decide +kernel
theorem dX10_heaviest_8 : decode cX10_heaviest 8 = .ok (.ireturn, 1) := by decide +kernel
set_option maxRecDepth 20000 in
theorem ggX10_fullest_X5_cartInOrder : GoodIn wsX10_fullest wsX5_cartInOrder := goodIn_r _ [6, 7, 8, 9, 10, 11, 5, 12, 13, 14, 15, 16, 17, 18, 19, 20, 21, 22, 23, 24, 25, 26, 27, 28, 29, 30, 31, 32, 33, 34, 35, 36, 37, 38, 39, 40, 41, 42, 43, 44, 45, 58, 59, 60, 61, 62, 63, 64, 65, 66, 67, 68, 69, 70, 71, 72, 73, 74, 75, 76] (by decide +kernel) (by decide +kernel)
set_option maxRecDepth 20000 in
theorem gX10_fullest_X5_cartInOrder : GoodIn wsX10_fullest (wsV RX10 291 RX5 yX5_cartInOrder wsX5_cartInOrder) := goodIn_app (goodIn_of _ (by decide +kernel)) ggX10_fullest_X5_cartInOrder
theorem dX10_fullest_0 : decode cX10_fullest 0 = .ok (.aload_n 0, 1) := by decide +kernel
theorem dX10_fullest_1 : decode cX10_fullest 1 = .ok (.getfield 67, 3) := by decide +kernel
theorem dX10_fullest_4 : decode cX10_fullest 4 = .ok (.iload_n 1, 1) := by decide +kernel
theorem dX10_fullest_5 : decode cX10_fullest 5 = .ok (.invokevirtual 291, 3) := by decide +kernel
theorem dX10_fullest_8 : decode cX10_fullest 8 = .ok (.ireturn, 1) := by decide +kernel
set_option maxRecDepth 20000 in
theorem ggX10_write_X9_isCart : GoodIn wsX10_write wsX9_isCart := goodIn_r _ [7, 8, 209, 210, 211, 212, 213, 214, 215, 216, 217, 218, 219, 220, 221, 222, 223, 224] (by decide +kernel) (by decide +kernel)
set_option maxRecDepth 20000 in
theorem gX10_write_X9_isCart : GoodIn wsX10_write (wsV RX10 208 RX9 yX9_isCart wsX9_isCart) := goodIn_app (goodIn_of _ (by decide +kernel)) ggX10_write_X9_isCart
set_option maxRecDepth 20000 in
theorem ggX10_write_J4_setLength_d00df : GoodIn wsX10_write wsJ4_setLength_d00df := goodIn_r _ [13, 14, 15, 16, 17, 18, 19, 20, 21, 22, 23, 24, 25, 26, 27, 28, 29, 30, 31, 32, 33, 34, 35, 36, 37, 38, 39, 40, 41, 42, 43, 44, 45, 46, 47, 48, 49, 50, 51, 52, 53, 54, 55, 56, 57, 58, 59, 60, 61, 62, 63, 64, 65, 66, 67, 68, 69, 70, 71, 72, 73, 74, 75, 76, 77, 78, 79, 80, 81, 82, 83, 84, 85, 225, 226, 227, 228] (by decide +kernel) (by decide +kernel)
set_option maxRecDepth 20000 in
theorem gX10_write_J4_setLength_d00df : GoodIn wsX10_write (wsV RX10 294 RJ4 yJ4_setLength_d00df wsJ4_setLength_d00df) := goodIn_app (goodIn_of _ (by decide +kernel)) ggX10_write_J4_setLength_d00df
set_option maxRecDepth 20000 in
theorem ggX10_write_J4_append_bf812 : GoodIn wsX10_write wsJ4_append_bf812 := goodIn_r _ [89, 90, 91, 16, 92, 18, 93, 20, 21, 94, 95, 96, 97, 23, 24, 25, 26, 27, 28, 29, 30, 31, 32, 33, 34, 35, 36, 37, 38, 39, 40, 41, 42, 43, 44, 45, 46, 47, 48, 49, 50, 51, 52, 53, 54, 55, 56, 57, 58, 59, 60, 61, 62, 63, 64, 65, 66, 67, 68, 69, 70, 98, 99, 100, 101, 102, 103, 104, 83, 105, 106, 107, 108, 109, 110, 111, 112, 113, 114, 115, 116, 117, 118, 119, 120, 121, 122, 123, 124, 125, 126, 127, 128, 129, 130, 131, 225, 226, 227, 228] (by decide +kernel) (by decide +kernel)
set_option maxRecDepth 20000 in
theorem gX10_write_J4_append_bf812 : GoodIn wsX10_write (wsV RX10 298 RJ4 yJ4_append_bf812 wsJ4_append_bf812) := goodIn_app (goodIn_of _ (by decide +kernel)) ggX10_write_J4_append_bf812
set_option maxRecDepth 20000 in
theorem ggX10_write_J4_append_cf468 : GoodIn wsX10_write wsJ4_append_cf468 := goodIn_r _ [135, 136, 137, 16, 138, 18, 139, 20, 21, 23, 24, 25, 26, 27, 28, 29, 30, 31, 32, 33, 34, 35, 36, 37, 38, 39, 40, 41, 42, 43, 44, 45, 46, 47, 48, 49, 50, 51, 52, 53, 54, 55, 56, 57, 58, 59, 60, 61, 62, 63, 64, 65, 66, 67, 68, 69, 70, 140, 141, 73, 142, 143, 144, 145, 146, 147, 148, 149, 83, 150, 151, 152, 153, 154, 155, 156, 157, 158, 159, 160, 161, 162, 163, 110, 111, 112, 164, 165, 115, 166, 117, 167, 168, 120, 169, 127, 128, 129, 106, 130, 131, 170, 171, 172, 173, 174, 175, 176, 177, 178, 179, 180, 181, 225, 226, 227, 228] (by decide +kernel) (by decide +kernel)
set_option maxRecDepth 20000 in
theorem gX10_write_J4_append_cf468 : GoodIn wsX10_write (wsV RX10 302 RJ4 yJ4_append_cf468 wsJ4_append_cf468) := goodIn_app (goodIn_of _ (by decide +kernel)) ggX10_write_J4_append_cf468
set_option maxRecDepth 20000 in
theorem ggX10_write_X9_thingAt : GoodIn wsX10_write wsX9_thingAt := goodIn_r _ [185, 186, 187, 188, 209, 210, 211, 212, 213, 214, 215, 216, 217, 218, 219, 220, 221, 222, 223, 224] (by decide +kernel) (by decide +kernel)
set_option maxRecDepth 20000 in
theorem gX10_write_X9_thingAt : GoodIn wsX10_write (wsV RX10 220 RX9 yX9_thingAt wsX9_thingAt) := goodIn_app (goodIn_of _ (by decide +kernel)) ggX10_write_X9_thingAt
set_option maxRecDepth 20000 in
theorem ggX10_write_J4_length_8abf5 : GoodIn wsX10_write wsJ4_length_8abf5 := goodIn_r _ [192, 193, 194, 16, 195, 18, 196, 20, 225, 226, 227, 228] (by decide +kernel) (by decide +kernel)
set_option maxRecDepth 20000 in
theorem gX10_write_J4_length_8abf5 : GoodIn wsX10_write (wsV RX10 305 RJ4 yJ4_length_8abf5 wsJ4_length_8abf5) := goodIn_app (goodIn_of _ (by decide +kernel)) ggX10_write_J4_length_8abf5
theorem dX10_write_0 : decode cX10_write 0 = .ok (.aload_n 0, 1) := by decide +kernel
theorem dX10_write_1 : decode cX10_write 1 = .ok (.getfield 10, 3) := by decide +kernel
theorem dX10_write_4 : decode cX10_write 4 = .ok (.iload_n 1, 1) := by decide +kernel
theorem dX10_write_5 : decode cX10_write 5 = .ok (.invokevirtual 208, 3) := by decide +kernel
theorem dX10_write_8 : decode cX10_write 8 = .ok (.ifCond .ne 5, 3) := by decide +kernel
theorem dX10_write_11 : decode cX10_write 11 = .ok (.iconst (-1), 1) := by decide +kernel
theorem dX10_write_12 : decode cX10_write 12 = .ok (.ireturn, 1) := by decide +kernel
theorem dX10_write_13 : decode cX10_write 13 = .ok (.aload_n 0, 1) := by decide +kernel
theorem dX10_write_14 : decode cX10_write 14 = .ok (.getfield 85, 3) := by decide +kernel
theorem dX10_write_17 : decode cX10_write 17 = .ok (.iconst 0, 1) := by decide +kernel
theorem dX10_write_18 : decode cX10_write 18 = .ok (.invokevirtual 294, 3) := by decide +kernel
theorem dX10_write_21 : decode cX10_write 21 = .ok (.aload_n 0, 1) := by decide +kernel
theorem dX10_write_22 : decode cX10_write 22 = .ok (.getfield 85, 3) := by decide +kernel
theorem dX10_write_25 : decode cX10_write 25 = .ok (.iload_n 1, 1) := by decide +kernel
theorem dX10_write_26 : decode cX10_write 26 = .ok (.invokevirtual 298, 3) := by decide +kernel
theorem dX10_write_29 : decode cX10_write 29 = .ok (.bipush 91, 2) := by decide +kernel
theorem dX10_write_31 : decode cX10_write 31 = .ok (.invokevirtual 302, 3) := by decide +kernel
theorem dX10_write_34 : decode cX10_write 34 = .ok (.pop, 1) := by decide +kernel
theorem dX10_write_35 : decode cX10_write 35 = .ok (.iconst 0, 1) := by decide +kernel
theorem dX10_write_36 : decode cX10_write 36 = .ok (.istore_n 2, 1) := by decide +kernel
theorem dX10_write_37 : decode cX10_write 37 = .ok (.iload_n 2, 1) := by decide +kernel
theorem dX10_write_38 : decode cX10_write 38 = .ok (.bipush 6, 2) := by decide +kernel
theorem dX10_write_40 : decode cX10_write 40 = .ok (.if_icmp .ge 61, 3) := by decide +kernel
theorem dX10_write_43 : decode cX10_write 43 = .ok (.iload_n 2, 1) := by decide +kernel
theorem dX10_write_44 : decode cX10_write 44 = .ok (.ifCond .le 13, 3) := by decide +kernel
theorem dX10_write_47 : decode cX10_write 47 = .ok (.aload_n 0, 1) := by decide +kernel
theorem dX10_write_48 : decode cX10_write 48 = .ok (.getfield 85, 3) := by decide +kernel
theorem dX10_write_51 : decode cX10_write 51 = .ok (.bipush 44, 2) := by decide +kernel
theorem dX10_write_53 : decode cX10_write 53 = .ok (.invokevirtual 302, 3) := by decide +kernel
theorem dX10_write_56 : decode cX10_write 56 = .ok (.pop, 1) := by decide +kernel
theorem dX10_write_57 : decode cX10_write 57 = .ok (.aload_n 0, 1) := by decide +kernel
theorem dX10_write_58 : decode cX10_write 58 = .ok (.getfield 10, 3) := by decide +kernel
theorem dX10_write_61 : decode cX10_write 61 = .ok (.iload_n 1, 1) := by decide +kernel
theorem dX10_write_62 : decode cX10_write 62 = .ok (.iload_n 2, 1) := by decide +kernel
theorem dX10_write_63 : decode cX10_write 63 = .ok (.invokevirtual 220, 3) := by decide +kernel
theorem dX10_write_66 : decode cX10_write 66 = .ok (.istore_n 3, 1) := by decide +kernel
theorem dX10_write_67 : decode cX10_write 67 = .ok (.iload_n 3, 1) := by decide +kernel
theorem dX10_write_68 : decode cX10_write 68 = .ok (.bipush (-4), 2) := by decide +kernel
theorem dX10_write_70 : decode cX10_write 70 = .ok (.if_icmp .ne 16, 3) := by decide +kernel
theorem dX10_write_73 : decode cX10_write 73 = .ok (.aload_n 0, 1) := by decide +kernel
theorem dX10_write_74 : decode cX10_write 74 = .ok (.getfield 85, 3) := by decide +kernel
theorem dX10_write_77 : decode cX10_write 77 = .ok (.bipush 46, 2) := by decide +kernel
theorem dX10_write_79 : decode cX10_write 79 = .ok (.invokevirtual 302, 3) := by decide +kernel
theorem dX10_write_82 : decode cX10_write 82 = .ok (.pop, 1) := by decide +kernel
theorem dX10_write_83 : decode cX10_write 83 = .ok (.goto 12, 3) := by decide +kernel
theorem dX10_write_86 : decode cX10_write 86 = .ok (.aload_n 0, 1) := by decide +kernel
theorem dX10_write_87 : decode cX10_write 87 = .ok (.getfield 85, 3) := by decide +kernel
theorem dX10_write_90 : decode cX10_write 90 = .ok (.iload_n 3, 1) := by decide +kernel
theorem dX10_write_91 : decode cX10_write 91 = .ok (.invokevirtual 298, 3) := by decide +kernel
theorem dX10_write_94 : decode cX10_write 94 = .ok (.pop, 1) := by decide +kernel
theorem dX10_write_95 : decode cX10_write 95 = .ok (.iinc 2 1, 3) := by decide +kernel
theorem dX10_write_98 : decode cX10_write 98 = .ok (.goto (-61), 3) := by decide +kernel
theorem dX10_write_101 : decode cX10_write 101 = .ok (.aload_n 0, 1) := by decide +kernel
theorem dX10_write_102 : decode cX10_write 102 = .ok (.getfield 85, 3) := by decide +kernel
theorem dX10_write_105 : decode cX10_write 105 = .ok (.bipush 93, 2) := by decide +kernel
theorem dX10_write_107 : decode cX10_write 107 = .ok (.invokevirtual 302, 3) := by decide +kernel
theorem dX10_write_110 : decode cX10_write 110 = .ok (.pop, 1) := by decide +kernel
theorem dX10_write_111 : decode cX10_write 111 = .ok (.aload_n 0, 1) := by decide +kernel
theorem dX10_write_112 : decode cX10_write 112 = .ok (.getfield 10, 3) := by decide +kernel
theorem dX10_write_115 : decode cX10_write 115 = .ok (.iload_n 1, 1) := by decide +kernel
theorem dX10_write_116 : decode cX10_write 116 = .ok (.bipush 6, 2) := by decide +kernel
theorem dX10_write_118 : decode cX10_write 118 = .ok (.invokevirtual 220, 3) := by decide +kernel
theorem dX10_write_121 : decode cX10_write 121 = .ok (.istore_n 2, 1) := by decide +kernel
theorem dX10_write_122 : decode cX10_write 122 = .ok (.iload_n 2, 1) := by decide +kernel
theorem dX10_write_123 : decode cX10_write 123 = .ok (.bipush (-4), 2) := by decide +kernel
theorem dX10_write_125 : decode cX10_write 125 = .ok (.if_icmp .eq 17, 3) := by decide +kernel
theorem dX10_write_128 : decode cX10_write 128 = .ok (.aload_n 0, 1) := by decide +kernel
theorem dX10_write_129 : decode cX10_write 129 = .ok (.getfield 85, 3) := by decide +kernel
theorem dX10_write_132 : decode cX10_write 132 = .ok (.bipush 94, 2) := by decide +kernel
theorem dX10_write_134 : decode cX10_write 134 = .ok (.invokevirtual 302, 3) := by decide +kernel
theorem dX10_write_137 : decode cX10_write 137 = .ok (.iload_n 2, 1) := by decide +kernel
theorem dX10_write_138 : decode cX10_write 138 = .ok (.invokevirtual 298, 3) := by decide +kernel
theorem dX10_write_141 : decode cX10_write 141 = .ok (.pop, 1) := by decide +kernel
theorem dX10_write_142 : decode cX10_write 142 = .ok (.aload_n 0, 1) := by decide +kernel
theorem dX10_write_143 : decode cX10_write 143 = .ok (.getfield 85, 3) := by decide +kernel
theorem dX10_write_146 : decode cX10_write 146 = .ok (.invokevirtual 305, 3) := by decide +kernel
theorem dX10_write_149 : decode cX10_write 149 = .ok (.ireturn, 1) := by decide +kernel
set_option maxRecDepth 20000 in
theorem ggX10_writeRoads_J4_setLength_d00df : GoodIn wsX10_writeRoads wsJ4_setLength_d00df := goodIn_r _ [11, 12, 13, 14, 15, 16, 17, 18, 19, 20, 21, 22, 23, 24, 25, 26, 27, 28, 29, 30, 31, 32, 33, 34, 35, 36, 37, 38, 39, 40, 41, 42, 43, 44, 45, 46, 47, 48, 49, 50, 51, 52, 53, 54, 55, 56, 57, 58, 59, 60, 61, 62, 63, 64, 65, 66, 67, 68, 69, 70, 71, 72, 73, 74, 75, 76, 77, 78, 79, 80, 81, 82, 83, 216, 217, 218, 219] (by decide +kernel) (by decide +kernel)
set_option maxRecDepth 20000 in
theorem gX10_writeRoads_J4_setLength_d00df : GoodIn wsX10_writeRoads (wsV RX10 294 RJ4 yJ4_setLength_d00df wsJ4_setLength_d00df) := goodIn_app (goodIn_of _ (by decide +kernel)) ggX10_writeRoads_J4_setLength_d00df
set_option maxRecDepth 20000 in
theorem ggX10_writeRoads_J4_append_cf468 : GoodIn wsX10_writeRoads wsJ4_append_cf468 := goodIn_r _ [87, 88, 89, 14, 90, 16, 91, 18, 19, 21, 22, 23, 24, 25, 26, 27, 28, 29, 30, 31, 32, 33, 34, 35, 36, 37, 38, 39, 40, 41, 42, 43, 44, 45, 46, 47, 48, 49, 50, 51, 52, 53, 54, 55, 56, 57, 58, 59, 60, 61, 62, 63, 64, 65, 66, 67, 68, 92, 93, 71, 94, 95, 96, 97, 98, 99, 100, 101, 81, 102, 103, 104, 105, 106, 107, 108, 109, 110, 111, 112, 113, 114, 115, 116, 117, 118, 119, 120, 121, 122, 123, 124, 125, 126, 127, 128, 129, 130, 131, 132, 133, 134, 135, 136, 137, 138, 139, 140, 141, 142, 143, 144, 145, 216, 217, 218, 219] (by decide +kernel) (by decide +kernel)
set_option maxRecDepth 20000 in
theorem gX10_writeRoads_J4_append_cf468 : GoodIn wsX10_writeRoads (wsV RX10 302 RJ4 yJ4_append_cf468 wsJ4_append_cf468) := goodIn_app (goodIn_of _ (by decide +kernel)) ggX10_writeRoads_J4_append_cf468
set_option maxRecDepth 20000 in
theorem ggX10_writeRoads_J4_append_bf812 : GoodIn wsX10_writeRoads wsJ4_append_bf812 := goodIn_r _ [149, 150, 151, 14, 152, 16, 153, 18, 19, 154, 155, 156, 157, 21, 22, 23, 24, 25, 26, 27, 28, 29, 30, 31, 32, 33, 34, 35, 36, 37, 38, 39, 40, 41, 42, 43, 44, 45, 46, 47, 48, 49, 50, 51, 52, 53, 54, 55, 56, 57, 58, 59, 60, 61, 62, 63, 64, 65, 66, 67, 68, 158, 159, 160, 161, 162, 163, 164, 81, 165, 131, 166, 167, 168, 116, 117, 118, 169, 170, 121, 171, 123, 172, 173, 126, 174, 175, 176, 177, 178, 179, 128, 129, 130, 132, 133, 216, 217, 218, 219] (by decide +kernel) (by decide +kernel)
set_option maxRecDepth 20000 in
theorem gX10_writeRoads_J4_append_bf812 : GoodIn wsX10_writeRoads (wsV RX10 298 RJ4 yJ4_append_bf812 wsJ4_append_bf812) := goodIn_app (goodIn_of _ (by decide +kernel)) ggX10_writeRoads_J4_append_bf812
set_option maxRecDepth 20000 in
theorem ggX10_writeRoads_J4_length_8abf5 : GoodIn wsX10_writeRoads wsJ4_length_8abf5 := goodIn_r _ [183, 184, 185, 14, 186, 16, 187, 18, 216, 217, 218, 219] (by decide +kernel) (by decide +kernel)
set_option maxRecDepth 20000 in
theorem gX10_writeRoads_J4_length_8abf5 : GoodIn wsX10_writeRoads (wsV RX10 305 RJ4 yJ4_length_8abf5 wsJ4_length_8abf5) := goodIn_app (goodIn_of _ (by decide +kernel)) ggX10_writeRoads_J4_length_8abf5
theorem dX10_writeRoads_0 : decode cX10_writeRoads 0 = .ok (.aload_n 0, 1) := by decide +kernel
theorem dX10_writeRoads_1 : decode cX10_writeRoads 1 = .ok (.getfield 85, 3) := by decide +kernel
theorem dX10_writeRoads_4 : decode cX10_writeRoads 4 = .ok (.iconst 0, 1) := by decide +kernel
theorem dX10_writeRoads_5 : decode cX10_writeRoads 5 = .ok (.invokevirtual 294, 3) := by decide +kernel
theorem dX10_writeRoads_8 : decode cX10_writeRoads 8 = .ok (.iconst 0, 1) := by decide +kernel
theorem dX10_writeRoads_9 : decode cX10_writeRoads 9 = .ok (.istore_n 1, 1) := by decide +kernel
theorem dX10_writeRoads_10 : decode cX10_writeRoads 10 = .ok (.iload_n 1, 1) := by decide +kernel
theorem dX10_writeRoads_11 : decode cX10_writeRoads 11 = .ok (.aload_n 0, 1) := by decide +kernel
theorem dX10_writeRoads_12 : decode cX10_writeRoads 12 = .ok (.getfield 10, 3) := by decide +kernel
theorem dX10_writeRoads_15 : decode cX10_writeRoads 15 = .ok (.getfield 278, 3) := by decide +kernel
theorem dX10_writeRoads_18 : decode cX10_writeRoads 18 = .ok (.if_icmp .ge 79, 3) := by decide +kernel
theorem dX10_writeRoads_21 : decode cX10_writeRoads 21 = .ok (.iload_n 1, 1) := by decide +kernel
theorem dX10_writeRoads_22 : decode cX10_writeRoads 22 = .ok (.ifCond .le 13, 3) := by decide +kernel
theorem dX10_writeRoads_25 : decode cX10_writeRoads 25 = .ok (.aload_n 0, 1) := by decide +kernel
theorem dX10_writeRoads_26 : decode cX10_writeRoads 26 = .ok (.getfield 85, 3) := by decide +kernel
theorem dX10_writeRoads_29 : decode cX10_writeRoads 29 = .ok (.bipush 32, 2) := by decide +kernel
