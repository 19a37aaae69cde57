theorem dX11_write_57 : decode cX11_write 57 = .ok (.goto (-29), 3) := by decide +kernel
theorem dX11_write_60 : decode cX11_write 60 = .ok (.aload_n 0, 1) := by decide +kernel
theorem dX11_write_61 : decode cX11_write 61 = .ok (.bipush 93, 2) := by decide +kernel
theorem dX11_write_63 : decode cX11_write 63 = .ok (.invokevirtual 186, 3) := by decide +kernel
theorem dX11_write_66 : decode cX11_write 66 = .ok (.aload_n 0, 1) := by decide +kernel
theorem dX11_write_67 : decode cX11_write 67 = .ok (.iload_n 1, 1) := by decide +kernel
theorem dX11_write_68 : decode cX11_write 68 = .ok (.bipush 6, 2) := by decide +kernel
theorem dX11_write_70 : decode cX11_write 70 = .ok (.invokevirtual 119, 3) := by decide +kernel
theorem dX11_write_73 : decode cX11_write 73 = .ok (.bipush (-4), 2) := by decide +kernel
theorem dX11_write_75 : decode cX11_write 75 = .ok (.if_icmp .eq 20, 3) := by decide +kernel
theorem dX11_write_78 : decode cX11_write 78 = .ok (.aload_n 0, 1) := by decide +kernel
theorem dX11_write_79 : decode cX11_write 79 = .ok (.bipush 94, 2) := by decide +kernel
theorem dX11_write_81 : decode cX11_write 81 = .ok (.invokevirtual 186, 3) := by decide +kernel
theorem dX11_write_84 : decode cX11_write 84 = .ok (.aload_n 0, 1) := by decide +kernel
theorem dX11_write_85 : decode cX11_write 85 = .ok (.aload_n 0, 1) := by decide +kernel
theorem dX11_write_86 : decode cX11_write 86 = .ok (.iload_n 1, 1) := by decide +kernel
theorem dX11_write_87 : decode cX11_write 87 = .ok (.bipush 6, 2) := by decide +kernel
theorem dX11_write_89 : decode cX11_write 89 = .ok (.invokevirtual 119, 3) := by decide +kernel
theorem dX11_write_92 : decode cX11_write 92 = .ok (.invokevirtual 182, 3) := by decide +kernel
theorem dX11_write_95 : decode cX11_write 95 = .ok (.aload_n 0, 1) := by decide +kernel
theorem dX11_write_96 : decode cX11_write 96 = .ok (.getfield 179, 3) := by decide +kernel
theorem dX11_write_99 : decode cX11_write 99 = .ok (.ireturn, 1) := by decide +kernel
set_option maxRecDepth 20000 in
theorem ggX11_writeRoads_X11_writes : GoodIn wsX11_writeRoads wsX11_writes := goodIn_r _ [7, 8, 1, 17, 18, 19, 20, 21, 22, 23, 24, 25, 26, 27, 28, 29, 30, 31, 32, 33, 34, 35] (by decide +kernel) (by decide +kernel)
set_option maxRecDepth 20000 in
theorem gX11_writeRoads_X11_writes : GoodIn wsX11_writeRoads (wsV RX11 186 RX11 yX11_writes wsX11_writes) := goodIn_app (goodIn_of _ (by decide +kernel)) ggX11_writeRoads_X11_writes
set_option maxRecDepth 20000 in
theorem ggX11_writeRoads_X11_r : GoodIn wsX11_writeRoads wsX11_r := goodIn_r _ [12, 2, 17, 18, 19, 20, 21, 22, 23, 24, 25, 26, 27, 28, 29, 30, 31, 32, 33, 34, 35] (by decide +kernel) (by decide +kernel)
set_option maxRecDepth 20000 in
theorem gX11_writeRoads_X11_r : GoodIn wsX11_writeRoads (wsV RX11 138 RX11 yX11_r wsX11_r) := goodIn_app (goodIn_of _ (by decide +kernel)) ggX11_writeRoads_X11_r
set_option maxRecDepth 20000 in
theorem ggX11_writeRoads_X11_writesNumber : GoodIn wsX11_writeRoads wsX11_writesNumber := goodIn_r _ [16, 13, 14, 15, 6, 3, 4, 5, 7, 8, 1, 17, 18, 19, 20, 21, 22, 23, 24, 25, 26, 27, 28, 29, 30, 31, 32, 33, 34, 35] (by decide +kernel) (by decide +kernel)
set_option maxRecDepth 20000 in
theorem gX11_writeRoads_X11_writesNumber : GoodIn wsX11_writeRoads (wsV RX11 182 RX11 yX11_writesNumber wsX11_writesNumber) := goodIn_app (goodIn_of _ (by decide +kernel)) ggX11_writeRoads_X11_writesNumber
theorem dX11_writeRoads_0 : decode cX11_writeRoads 0 = .ok (.aload_n 0, 1) := by decide +kernel
theorem dX11_writeRoads_1 : decode cX11_writeRoads 1 = .ok (.iconst 0, 1) := by decide +kernel
theorem dX11_writeRoads_2 : decode cX11_writeRoads 2 = .ok (.putfield 179, 3) := by decide +kernel
theorem dX11_writeRoads_5 : decode cX11_writeRoads 5 = .ok (.iconst 0, 1) := by decide +kernel
theorem dX11_writeRoads_6 : decode cX11_writeRoads 6 = .ok (.istore_n 1, 1) := by decide +kernel
theorem dX11_writeRoads_7 : decode cX11_writeRoads 7 = .ok (.iload_n 1, 1) := by decide +kernel
theorem dX11_writeRoads_8 : decode cX11_writeRoads 8 = .ok (.aload_n 0, 1) := by decide +kernel
theorem dX11_writeRoads_9 : decode cX11_writeRoads 9 = .ok (.getfield 9, 3) := by decide +kernel
theorem dX11_writeRoads_12 : decode cX11_writeRoads 12 = .ok (.iconst 2, 1) := by decide +kernel
theorem dX11_writeRoads_13 : decode cX11_writeRoads 13 = .ok (.iaload, 1) := by decide +kernel
theorem dX11_writeRoads_14 : decode cX11_writeRoads 14 = .ok (.if_icmp .ge 61, 3) := by decide +kernel
theorem dX11_writeRoads_17 : decode cX11_writeRoads 17 = .ok (.iload_n 1, 1) := by decide +kernel
theorem dX11_writeRoads_18 : decode cX11_writeRoads 18 = .ok (.ifCond .le 9, 3) := by decide +kernel
theorem dX11_writeRoads_21 : decode cX11_writeRoads 21 = .ok (.aload_n 0, 1) := by decide +kernel
theorem dX11_writeRoads_22 : decode cX11_writeRoads 22 = .ok (.bipush 32, 2) := by decide +kernel
theorem dX11_writeRoads_24 : decode cX11_writeRoads 24 = .ok (.invokevirtual 186, 3) := by decide +kernel
theorem dX11_writeRoads_27 : decode cX11_writeRoads 27 = .ok (.aload_n 0, 1) := by decide +kernel
theorem dX11_writeRoads_28 : decode cX11_writeRoads 28 = .ok (.aload_n 0, 1) := by decide +kernel
theorem dX11_writeRoads_29 : decode cX11_writeRoads 29 = .ok (.iload_n 1, 1) := by decide +kernel
theorem dX11_writeRoads_30 : decode cX11_writeRoads 30 = .ok (.iconst 0, 1) := by decide +kernel
theorem dX11_writeRoads_31 : decode cX11_writeRoads 31 = .ok (.invokevirtual 138, 3) := by decide +kernel
theorem dX11_writeRoads_34 : decode cX11_writeRoads 34 = .ok (.invokevirtual 182, 3) := by decide +kernel
theorem dX11_writeRoads_37 : decode cX11_writeRoads 37 = .ok (.aload_n 0, 1) := by decide +kernel
theorem dX11_writeRoads_38 : decode cX11_writeRoads 38 = .ok (.bipush 42, 2) := by decide +kernel
theorem dX11_writeRoads_40 : decode cX11_writeRoads 40 = .ok (.invokevirtual 186, 3) := by decide +kernel
theorem dX11_writeRoads_43 : decode cX11_writeRoads 43 = .ok (.aload_n 0, 1) := by decide +kernel
theorem dX11_writeRoads_44 : decode cX11_writeRoads 44 = .ok (.aload_n 0, 1) := by decide +kernel
theorem dX11_writeRoads_45 : decode cX11_writeRoads 45 = .ok (.iload_n 1, 1) := by decide +kernel
theorem dX11_writeRoads_46 : decode cX11_writeRoads 46 = .ok (.iconst 1, 1) := by decide +kernel
theorem dX11_writeRoads_47 : decode cX11_writeRoads 47 = .ok (.invokevirtual 138, 3) := by decide +kernel
theorem dX11_writeRoads_50 : decode cX11_writeRoads 50 = .ok (.invokevirtual 182, 3) := by decide +kernel
theorem dX11_writeRoads_53 : decode cX11_writeRoads 53 = .ok (.aload_n 0, 1) := by decide +kernel
theorem dX11_writeRoads_54 : decode cX11_writeRoads 54 = .ok (.bipush 58, 2) := by decide +kernel
theorem dX11_writeRoads_56 : decode cX11_writeRoads 56 = .ok (.invokevirtual 186, 3) := by decide +kernel
theorem dX11_writeRoads_59 : decode cX11_writeRoads 59 = .ok (.aload_n 0, 1) := by decide +kernel
theorem dX11_writeRoads_60 : decode cX11_writeRoads 60 = .ok (.aload_n 0, 1) := by decide +kernel
theorem dX11_writeRoads_61 : decode cX11_writeRoads 61 = .ok (.iload_n 1, 1) := by decide +kernel
theorem dX11_writeRoads_62 : decode cX11_writeRoads 62 = .ok (.iconst 2, 1) := by decide +kernel
theorem dX11_writeRoads_63 : decode cX11_writeRoads 63 = .ok (.invokevirtual 138, 3) := by decide +kernel
theorem dX11_writeRoads_66 : decode cX11_writeRoads 66 = .ok (.invokevirtual 182, 3) := by decide +kernel
theorem dX11_writeRoads_69 : decode cX11_writeRoads 69 = .ok (.iinc 1 1, 3) := by decide +kernel
theorem dX11_writeRoads_72 : decode cX11_writeRoads 72 = .ok (.goto (-65), 3) := by decide +kernel
theorem dX11_writeRoads_75 : decode cX11_writeRoads 75 = .ok (.aload_n 0, 1) := by decide +kernel
theorem dX11_writeRoads_76 : decode cX11_writeRoads 76 = .ok (.getfield 179, 3) := by decide +kernel
theorem dX11_writeRoads_79 : decode cX11_writeRoads 79 = .ok (.ireturn, 1) := by decide +kernel
set_option maxRecDepth 20000 in
theorem ggX11_written_X11_in : GoodIn wsX11_written wsX11_in := goodIn_r _ [6] (by decide +kernel) (by decide +kernel)
set_option maxRecDepth 20000 in
theorem gX11_written_X11_in : GoodIn wsX11_written (va_wsS RX11 50 yX11_in wsX11_in) := goodIn_app (goodIn_of _ (by decide +kernel)) ggX11_written_X11_in
theorem dX11_written_0 : decode cX11_written 0 = .ok (.iload_n 1, 1) := by decide +kernel
theorem dX11_written_1 : decode cX11_written 1 = .ok (.iconst 0, 1) := by decide +kernel
theorem dX11_written_2 : decode cX11_written 2 = .ok (.aload_n 0, 1) := by decide +kernel
theorem dX11_written_3 : decode cX11_written 3 = .ok (.getfield 179, 3) := by decide +kernel
theorem dX11_written_6 : decode cX11_written 6 = .ok (.iconst 1, 1) := by decide +kernel
theorem dX11_written_7 : decode cX11_written 7 = .ok (.isub, 1) := by decide +kernel
theorem dX11_written_8 : decode cX11_written 8 = .ok (.invokestatic 50, 3) := by decide +kernel
theorem dX11_written_11 : decode cX11_written 11 = .ok (.ifCond .eq 12, 3) := by decide +kernel
theorem dX11_written_14 : decode cX11_written 14 = .ok (.aload_n 0, 1) := by decide +kernel
theorem dX11_written_15 : decode cX11_written 15 = .ok (.getfield 20, 3) := by decide +kernel
theorem dX11_written_18 : decode cX11_written 18 = .ok (.iload_n 1, 1) := by decide +kernel
theorem dX11_written_19 : decode cX11_written 19 = .ok (.caload, 1) := by decide +kernel
theorem dX11_written_20 : decode cX11_written 20 = .ok (.goto 4, 3) := by decide +kernel
theorem dX11_written_23 : decode cX11_written 23 = .ok (.iconst (-1), 1) := by decide +kernel
theorem dX11_written_24 : decode cX11_written 24 = .ok (.ireturn, 1) := by decide +kernel
set_option maxRecDepth 20000 in
theorem ggX11_append_X11_in : GoodIn wsX11_append wsX11_in := goodIn_r _ [6] (by decide +kernel) (by decide +kernel)
set_option maxRecDepth 20000 in
theorem gX11_append_X11_in : GoodIn wsX11_append (va_wsS RX11 50 yX11_in wsX11_in) := goodIn_app (goodIn_of _ (by decide +kernel)) ggX11_append_X11_in
theorem dX11_append_0 : decode cX11_append 0 = .ok (.iload_n 1, 1) := by decide +kernel
theorem dX11_append_1 : decode cX11_append 1 = .ok (.bipush 32, 2) := by decide +kernel
theorem dX11_append_3 : decode cX11_append 3 = .ok (.bipush 126, 2) := by decide +kernel
theorem dX11_append_5 : decode cX11_append 5 = .ok (.invokestatic 50, 3) := by decide +kernel
theorem dX11_append_8 : decode cX11_append 8 = .ok (.ifCond .eq 12, 3) := by decide +kernel
theorem dX11_append_11 : decode cX11_append 11 = .ok (.aload_n 0, 1) := by decide +kernel
theorem dX11_append_12 : decode cX11_append 12 = .ok (.getfield 192, 3) := by decide +kernel
theorem dX11_append_15 : decode cX11_append 15 = .ok (.bipush 60, 2) := by decide +kernel
theorem dX11_append_17 : decode cX11_append 17 = .ok (.if_icmp .ne 6, 3) := by decide +kernel
theorem dX11_append_20 : decode cX11_append 20 = .ok (.bipush (-2), 2) := by decide +kernel
theorem dX11_append_22 : decode cX11_append 22 = .ok (.ireturn, 1) := by decide +kernel
theorem dX11_append_23 : decode cX11_append 23 = .ok (.aload_n 0, 1) := by decide +kernel
theorem dX11_append_24 : decode cX11_append 24 = .ok (.getfield 24, 3) := by decide +kernel
theorem dX11_append_27 : decode cX11_append 27 = .ok (.aload_n 0, 1) := by decide +kernel
theorem dX11_append_28 : decode cX11_append 28 = .ok (.getfield 192, 3) := by decide +kernel
theorem dX11_append_31 : decode cX11_append 31 = .ok (.iload_n 1, 1) := by decide +kernel
theorem dX11_append_32 : decode cX11_append 32 = .ok (.castore, 1) := by decide +kernel
theorem dX11_append_33 : decode cX11_append 33 = .ok (.aload_n 0, 1) := by decide +kernel
theorem dX11_append_34 : decode cX11_append 34 = .ok (.dup, 1) := by decide +kernel
theorem dX11_append_35 : decode cX11_append 35 = .ok (.getfield 192, 3) := by decide +kernel
theorem dX11_append_38 : decode cX11_append 38 = .ok (.iconst 1, 1) := by decide +kernel
theorem dX11_append_39 : decode cX11_append 39 = .ok (.iadd, 1) := by decide +kernel
theorem dX11_append_40 : decode cX11_append 40 = .ok (.putfield 192, 3) := by decide +kernel
theorem dX11_append_43 : decode cX11_append 43 = .ok (.aload_n 0, 1) := by decide +kernel
theorem dX11_append_44 : decode cX11_append 44 = .ok (.getfield 192, 3) := by decide +kernel
theorem dX11_append_47 : decode cX11_append 47 = .ok (.ireturn, 1) := by decide +kernel
theorem dX11_sign_0 : decode cX11_sign 0 = .ok (.aload_n 0, 1) := by decide +kernel
theorem dX11_sign_1 : decode cX11_sign 1 = .ok (.getfield 195, 3) := by decide +kernel
theorem dX11_sign_4 : decode cX11_sign 4 = .ok (.aload_n 0, 1) := by decide +kernel
theorem dX11_sign_5 : decode cX11_sign 5 = .ok (.getfield 192, 3) := by decide +kernel
theorem dX11_sign_8 : decode cX11_sign 8 = .ok (.if_icmp .ge 15, 3) := by decide +kernel
theorem dX11_sign_11 : decode cX11_sign 11 = .ok (.aload_n 0, 1) := by decide +kernel
theorem dX11_sign_12 : decode cX11_sign 12 = .ok (.getfield 24, 3) := by decide +kernel
theorem dX11_sign_15 : decode cX11_sign 15 = .ok (.aload_n 0, 1) := by decide +kernel
theorem dX11_sign_16 : decode cX11_sign 16 = .ok (.getfield 195, 3) := by decide +kernel
theorem dX11_sign_19 : decode cX11_sign 19 = .ok (.caload, 1) := by decide +kernel
theorem dX11_sign_20 : decode cX11_sign 20 = .ok (.goto 4, 3) := by decide +kernel
theorem dX11_sign_23 : decode cX11_sign 23 = .ok (.iconst (-1), 1) := by decide +kernel
theorem dX11_sign_24 : decode cX11_sign 24 = .ok (.ireturn, 1) := by decide +kernel
set_option maxRecDepth 20000 in
theorem ggX11_needs_X11_sign : GoodIn wsX11_needs wsX11_sign := goodIn_r _ [7, 2, 8, 9, 10, 11, 12, 13, 14, 15, 16, 17, 18, 19, 20, 21, 22, 23, 24, 25, 26, 27, 28] (by decide +kernel) (by decide +kernel)
set_option maxRecDepth 20000 in
theorem gX11_needs_X11_sign : GoodIn wsX11_needs (wsV RX11 201 RX11 yX11_sign wsX11_sign) := goodIn_app (goodIn_of _ (by decide +kernel)) ggX11_needs_X11_sign
theorem dX11_needs_0 : decode cX11_needs 0 = .ok (.aload_n 0, 1) := by decide +kernel
theorem dX11_needs_1 : decode cX11_needs 1 = .ok (.getfield 198, 3) := by decide +kernel
theorem dX11_needs_4 : decode cX11_needs 4 = .ok (.ifCond .lt 4, 3) := by decide +kernel
theorem dX11_needs_7 : decode cX11_needs 7 = .ok (.return_, 1) := by decide +kernel
theorem dX11_needs_8 : decode cX11_needs 8 = .ok (.aload_n 0, 1) := by decide +kernel
theorem dX11_needs_9 : decode cX11_needs 9 = .ok (.invokevirtual 201, 3) := by decide +kernel
theorem dX11_needs_12 : decode cX11_needs 12 = .ok (.iload_n 1, 1) := by decide +kernel
theorem dX11_needs_13 : decode cX11_needs 13 = .ok (.if_icmp .eq 12, 3) := by decide +kernel
theorem dX11_needs_16 : decode cX11_needs 16 = .ok (.aload_n 0, 1) := by decide +kernel
theorem dX11_needs_17 : decode cX11_needs 17 = .ok (.aload_n 0, 1) := by decide +kernel
theorem dX11_needs_18 : decode cX11_needs 18 = .ok (.getfield 195, 3) := by decide +kernel
theorem dX11_needs_21 : decode cX11_needs 21 = .ok (.putfield 198, 3) := by decide +kernel
theorem dX11_needs_24 : decode cX11_needs 24 = .ok (.return_, 1) := by decide +kernel
theorem dX11_needs_25 : decode cX11_needs 25 = .ok (.aload_n 0, 1) := by decide +kernel
theorem dX11_needs_26 : decode cX11_needs 26 = .ok (.dup, 1) := by decide +kernel
theorem dX11_needs_27 : decode cX11_needs 27 = .ok (.getfield 195, 3) := by decide +kernel
theorem dX11_needs_30 : decode cX11_needs 30 = .ok (.iconst 1, 1) := by decide +kernel
theorem dX11_needs_31 : decode cX11_needs 31 = .ok (.iadd, 1) := by decide +kernel
theorem dX11_needs_32 : decode cX11_needs 32 = .ok (.putfield 195, 3) := by decide +kernel
theorem dX11_needs_35 : decode cX11_needs 35 = .ok (.return_, 1) := by decide +kernel
set_option maxRecDepth 20000 in
theorem ggX11_signs_X11_needs : GoodIn wsX11_signs wsX11_needs := goodIn_r _ [5, 6, 7, 8, 9, 10, 4, 11, 12, 13, 14, 15, 16, 17, 18, 19, 20, 21, 22, 23, 24, 25, 26, 27, 28, 29, 30, 31, 32] (by decide +kernel) (by decide +kernel)
set_option maxRecDepth 20000 in
theorem gX11_signs_X11_needs : GoodIn wsX11_signs (wsV RX11 205 RX11 yX11_needs wsX11_needs) := goodIn_app (goodIn_of _ (by decide +kernel)) ggX11_signs_X11_needs
theorem dX11_signs_0 : decode cX11_signs 0 = .ok (.aload_n 0, 1) := by decide +kernel
theorem dX11_signs_1 : decode cX11_signs 1 = .ok (.iload_n 1, 1) := by decide +kernel
theorem dX11_signs_2 : decode cX11_signs 2 = .ok (.invokevirtual 205, 3) := by decide +kernel
theorem dX11_signs_5 : decode cX11_signs 5 = .ok (.aload_n 0, 1) := by decide +kernel
theorem dX11_signs_6 : decode cX11_signs 6 = .ok (.iload_n 2, 1) := by decide +kernel
theorem dX11_signs_7 : decode cX11_signs 7 = .ok (.invokevirtual 205, 3) := by decide +kernel
theorem dX11_signs_10 : decode cX11_signs 10 = .ok (.iload_n 3, 1) := by decide +kernel
theorem dX11_signs_11 : decode cX11_signs 11 = .ok (.ifCond .eq 8, 3) := by decide +kernel
theorem dX11_signs_14 : decode cX11_signs 14 = .ok (.aload_n 0, 1) := by decide +kernel
theorem dX11_signs_15 : decode cX11_signs 15 = .ok (.iload_n 3, 1) := by decide +kernel
theorem dX11_signs_16 : decode cX11_signs 16 = .ok (.invokevirtual 205, 3) := by decide +kernel
theorem dX11_signs_19 : decode cX11_signs 19 = .ok (.return_, 1) := by decide +kernel
set_option maxRecDepth 20000 in
theorem ggX11_number_X11_sign : GoodIn wsX11_number wsX11_sign := goodIn_r _ [7, 2, 8, 9, 13, 14, 15, 16, 17, 18, 19, 20, 21, 22, 23, 24, 25, 26, 27, 28, 29, 30, 31] (by decide +kernel) (by decide +kernel)
set_option maxRecDepth 20000 in
theorem gX11_number_X11_sign : GoodIn wsX11_number (wsV RX11 201 RX11 yX11_sign wsX11_sign) := goodIn_app (goodIn_of _ (by decide +kernel)) ggX11_number_X11_sign
set_option maxRecDepth 20000 in
theorem ggX11_number_X11_in : GoodIn wsX11_number wsX11_in := goodIn_r _ [12] (by decide +kernel) (by decide +kernel)
set_option maxRecDepth 20000 in
theorem gX11_number_X11_in : GoodIn wsX11_number (va_wsS RX11 50 yX11_in wsX11_in) := goodIn_app (goodIn_of _ (by decide +kernel)) ggX11_number_X11_in
theorem dX11_number_0 : decode cX11_number 0 = .ok (.aload_n 0, 1) := by decide +kernel
theorem dX11_number_1 : decode cX11_number 1 = .ok (.getfield 198, 3) := by decide +kernel
theorem dX11_number_4 : decode cX11_number 4 = .ok (.ifCond .lt 5, 3) := by decide +kernel
theorem dX11_number_7 : decode cX11_number 7 = .ok (.iconst 0, 1) := by decide +kernel
theorem dX11_number_8 : decode cX11_number 8 = .ok (.ireturn, 1) := by decide +kernel
theorem dX11_number_9 : decode cX11_number 9 = .ok (.aload_n 0, 1) := by decide +kernel
theorem dX11_number_10 : decode cX11_number 10 = .ok (.invokevirtual 201, 3) := by decide +kernel
theorem dX11_number_13 : decode cX11_number 13 = .ok (.bipush 48, 2) := by decide +kernel
theorem dX11_number_15 : decode cX11_number 15 = .ok (.bipush 57, 2) := by decide +kernel
theorem dX11_number_17 : decode cX11_number 17 = .ok (.invokestatic 50, 3) := by decide +kernel
theorem dX11_number_20 : decode cX11_number 20 = .ok (.ifCond .ne 13, 3) := by decide +kernel
theorem dX11_number_23 : decode cX11_number 23 = .ok (.aload_n 0, 1) := by decide +kernel
theorem dX11_number_24 : decode cX11_number 24 = .ok (.aload_n 0, 1) := by decide +kernel
theorem dX11_number_25 : decode cX11_number 25 = .ok (.getfield 195, 3) := by decide +kernel
theorem dX11_number_28 : decode cX11_number 28 = .ok (.putfield 198, 3) := by decide +kernel
theorem dX11_number_31 : decode cX11_number 31 = .ok (.iconst 0, 1) := by decide +kernel
theorem dX11_number_32 : decode cX11_number 32 = .ok (.ireturn, 1) := by decide +kernel
theorem dX11_number_33 : decode cX11_number 33 = .ok (.iconst 0, 1) := by decide +kernel
theorem dX11_number_34 : decode cX11_number 34 = .ok (.istore_n 2, 1) := by decide +kernel
theorem dX11_number_35 : decode cX11_number 35 = .ok (.iconst 0, 1) := by decide +kernel
theorem dX11_number_36 : decode cX11_number 36 = .ok (.istore_n 3, 1) := by decide +kernel
theorem dX11_number_37 : decode cX11_number 37 = .ok (.iload_n 3, 1) := by decide +kernel
theorem dX11_number_38 : decode cX11_number 38 = .ok (.iload_n 1, 1) := by decide +kernel
theorem dX11_number_39 : decode cX11_number 39 = .ok (.if_icmp .ge 46, 3) := by decide +kernel
theorem dX11_number_42 : decode cX11_number 42 = .ok (.aload_n 0, 1) := by decide +kernel
theorem dX11_number_43 : decode cX11_number 43 = .ok (.invokevirtual 201, 3) := by decide +kernel
theorem dX11_number_46 : decode cX11_number 46 = .ok (.bipush 48, 2) := by decide +kernel
theorem dX11_number_48 : decode cX11_number 48 = .ok (.bipush 57, 2) := by decide +kernel
theorem dX11_number_50 : decode cX11_number 50 = .ok (.invokestatic 50, 3) := by decide +kernel
theorem dX11_number_53 : decode cX11_number 53 = .ok (.ifCond .eq 32, 3) := by decide +kernel
theorem dX11_number_56 : decode cX11_number 56 = .ok (.bipush 10, 2) := by decide +kernel
theorem dX11_number_58 : decode cX11_number 58 = .ok (.iload_n 2, 1) := by decide +kernel
theorem dX11_number_59 : decode cX11_number 59 = .ok (.imul, 1) := by decide +kernel
theorem dX11_number_60 : decode cX11_number 60 = .ok (.aload_n 0, 1) := by decide +kernel
theorem dX11_number_61 : decode cX11_number 61 = .ok (.invokevirtual 201, 3) := by decide +kernel
theorem dX11_number_64 : decode cX11_number 64 = .ok (.iadd, 1) := by decide +kernel
theorem dX11_number_65 : decode cX11_number 65 = .ok (.bipush 48, 2) := by decide +kernel
theorem dX11_number_67 : decode cX11_number 67 = .ok (.isub, 1) := by decide +kernel
theorem dX11_number_68 : decode cX11_number 68 = .ok (.istore_n 2, 1) := by decide +kernel
theorem dX11_number_69 : decode cX11_number 69 = .ok (.aload_n 0, 1) := by decide +kernel
theorem dX11_number_70 : decode cX11_number 70 = .ok (.dup, 1) := by decide +kernel
theorem dX11_number_71 : decode cX11_number 71 = .ok (.getfield 195, 3) := by decide +kernel
theorem dX11_number_74 : decode cX11_number 74 = .ok (.iconst 1, 1) := by decide +kernel
theorem dX11_number_75 : decode cX11_number 75 = .ok (.iadd, 1) := by decide +kernel
theorem dX11_number_76 : decode cX11_number 76 = .ok (.putfield 195, 3) := by decide +kernel
theorem dX11_number_79 : decode cX11_number 79 = .ok (.iinc 3 1, 3) := by decide +kernel
theorem dX11_number_82 : decode cX11_number 82 = .ok (.goto (-45), 3) := by decide +kernel
theorem dX11_number_85 : decode cX11_number 85 = .ok (.iload_n 2, 1) := by decide +kernel
theorem dX11_number_86 : decode cX11_number 86 = .ok (.ireturn, 1) := by decide +kernel
set_option maxRecDepth 20000 in
theorem ggX11_behind_X11_needs : GoodIn wsX11_behind wsX11_needs := goodIn_r _ [5, 6, 7, 8, 9, 10, 4, 11, 12, 13, 21, 22, 23, 24, 25, 26, 27, 28, 29, 30, 31, 32, 33, 34, 35, 36, 37, 38, 39] (by decide +kernel) (by decide +kernel)
set_option maxRecDepth 20000 in
theorem gX11_behind_X11_needs : GoodIn wsX11_behind (wsV RX11 205 RX11 yX11_needs wsX11_needs) := goodIn_app (goodIn_of _ (by decide +kernel)) ggX11_behind_X11_needs
set_option maxRecDepth 20000 in
theorem ggX11_behind_X11_number : GoodIn wsX11_behind wsX11_number := goodIn_r _ [17, 6, 7, 8, 9, 10, 4, 11, 12, 13, 18, 19, 20, 21, 22, 23, 24, 25, 26, 27, 28, 29, 30, 31, 32, 33, 34, 35, 36, 37, 38, 39] (by decide +kernel) (by decide +kernel)
set_option maxRecDepth 20000 in
theorem gX11_behind_X11_number : GoodIn wsX11_behind (wsV RX11 208 RX11 yX11_number wsX11_number) := goodIn_app (goodIn_of _ (by decide +kernel)) ggX11_behind_X11_number
theorem dX11_behind_0 : decode cX11_behind 0 = .ok (.aload_n 0, 1) := by decide +kernel
theorem dX11_behind_1 : decode cX11_behind 1 = .ok (.bipush 32, 2) := by decide +kernel
theorem dX11_behind_3 : decode cX11_behind 3 = .ok (.invokevirtual 205, 3) := by decide +kernel
theorem dX11_behind_6 : decode cX11_behind 6 = .ok (.aload_n 0, 1) := by decide +kernel
theorem dX11_behind_7 : decode cX11_behind 7 = .ok (.iload_n 1, 1) := by decide +kernel
theorem dX11_behind_8 : decode cX11_behind 8 = .ok (.invokevirtual 208, 3) := by decide +kernel
theorem dX11_behind_11 : decode cX11_behind 11 = .ok (.ireturn, 1) := by decide +kernel
set_option maxRecDepth 20000 in
theorem ggX11_word_X11_sign : GoodIn wsX11_word wsX11_sign := goodIn_r _ [5, 6, 7, 8, 18, 19, 20, 21, 22, 23, 24, 25, 26, 27, 28, 29, 30, 31, 32, 33, 34, 35, 36] (by decide +kernel) (by decide +kernel)
set_option maxRecDepth 20000 in
theorem gX11_word_X11_sign : GoodIn wsX11_word (wsV RX11 201 RX11 yX11_sign wsX11_sign) := goodIn_app (goodIn_of _ (by decide +kernel)) ggX11_word_X11_sign
set_option maxRecDepth 20000 in
theorem ggX11_word_X11_signs : GoodIn wsX11_word wsX11_signs := goodIn_r _ [12, 13, 14, 15, 4, 16, 17, 6, 1, 2, 3, 5, 7, 8, 18, 19, 20, 21, 22, 23, 24, 25, 26, 27, 28, 29, 30, 31, 32, 33, 34, 35, 36] (by decide +kernel) (by decide +kernel)
set_option maxRecDepth 20000 in
theorem gX11_word_X11_signs : GoodIn wsX11_word (wsV RX11 211 RX11 yX11_signs wsX11_signs) := goodIn_app (goodIn_of _ (by decide +kernel)) ggX11_word_X11_signs
theorem dX11_word_0 : decode cX11_word 0 = .ok (.aload_n 0, 1) := by decide +kernel
theorem dX11_word_1 : decode cX11_word 1 = .ok (.invokevirtual 201, 3) := by decide +kernel
theorem dX11_word_4 : decode cX11_word 4 = .ok (.istore_n 2, 1) := by decide +kernel
theorem dX11_word_5 : decode cX11_word 5 = .ok (.iload_n 1, 1) := by decide +kernel
theorem dX11_word_6 : decode cX11_word 6 = .ok (.tableswitch 193 103 117 #[171, 193, 193, 193, 193, 110, 193, 193, 193, 74, 193, 97, 145, 158, 123], 74) := by decide +kernel
theorem dX11_word_80 : decode cX11_word 80 = .ok (.aload_n 0, 1) := by decide +kernel
theorem dX11_word_81 : decode cX11_word 81 = .ok (.bipush 114, 2) := by decide +kernel
theorem dX11_word_83 : decode cX11_word 83 = .ok (.bipush 101, 2) := by decide +kernel
theorem dX11_word_85 : decode cX11_word 85 = .ok (.bipush 109, 2) := by decide +kernel
theorem dX11_word_87 : decode cX11_word 87 = .ok (.invokevirtual 211, 3) := by decide +kernel
theorem dX11_word_90 : decode cX11_word 90 = .ok (.aload_n 0, 1) := by decide +kernel
theorem dX11_word_91 : decode cX11_word 91 = .ok (.bipush 105, 2) := by decide +kernel
theorem dX11_word_93 : decode cX11_word 93 = .ok (.bipush 115, 2) := by decide +kernel
theorem dX11_word_95 : decode cX11_word 95 = .ok (.bipush 101, 2) := by decide +kernel
theorem dX11_word_97 : decode cX11_word 97 = .ok (.invokevirtual 211, 3) := by decide +kernel
theorem dX11_word_100 : decode cX11_word 100 = .ok (.bipush 112, 2) := by decide +kernel
theorem dX11_word_102 : decode cX11_word 102 = .ok (.ireturn, 1) := by decide +kernel
theorem dX11_word_103 : decode cX11_word 103 = .ok (.aload_n 0, 1) := by decide +kernel
theorem dX11_word_104 : decode cX11_word 104 = .ok (.bipush 111, 2) := by decide +kernel
theorem dX11_word_106 : decode cX11_word 106 = .ok (.bipush 97, 2) := by decide +kernel
theorem dX11_word_108 : decode cX11_word 108 = .ok (.bipush 100, 2) := by decide +kernel
theorem dX11_word_110 : decode cX11_word 110 = .ok (.invokevirtual 211, 3) := by decide +kernel
theorem dX11_word_113 : decode cX11_word 113 = .ok (.bipush 114, 2) := by decide +kernel
theorem dX11_word_115 : decode cX11_word 115 = .ok (.ireturn, 1) := by decide +kernel
theorem dX11_word_116 : decode cX11_word 116 = .ok (.aload_n 0, 1) := by decide +kernel
theorem dX11_word_117 : decode cX11_word 117 = .ok (.bipush 111, 2) := by decide +kernel
theorem dX11_word_119 : decode cX11_word 119 = .ok (.bipush 97, 2) := by decide +kernel
theorem dX11_word_121 : decode cX11_word 121 = .ok (.bipush 100, 2) := by decide +kernel
theorem dX11_word_123 : decode cX11_word 123 = .ok (.invokevirtual 211, 3) := by decide +kernel
theorem dX11_word_126 : decode cX11_word 126 = .ok (.bipush 108, 2) := by decide +kernel
theorem dX11_word_128 : decode cX11_word 128 = .ok (.ireturn, 1) := by decide +kernel
theorem dX11_word_129 : decode cX11_word 129 = .ok (.aload_n 0, 1) := by decide +kernel
theorem dX11_word_130 : decode cX11_word 130 = .ok (.bipush 110, 2) := by decide +kernel
theorem dX11_word_132 : decode cX11_word 132 = .ok (.bipush 108, 2) := by decide +kernel
theorem dX11_word_134 : decode cX11_word 134 = .ok (.bipush 111, 2) := by decide +kernel
theorem dX11_word_136 : decode cX11_word 136 = .ok (.invokevirtual 211, 3) := by decide +kernel
theorem dX11_word_139 : decode cX11_word 139 = .ok (.aload_n 0, 1) := by decide +kernel
theorem dX11_word_140 : decode cX11_word 140 = .ok (.bipush 97, 2) := by decide +kernel
theorem dX11_word_142 : decode cX11_word 142 = .ok (.bipush 100, 2) := by decide +kernel
theorem dX11_word_144 : decode cX11_word 144 = .ok (.iconst 0, 1) := by decide +kernel
theorem dX11_word_145 : decode cX11_word 145 = .ok (.invokevirtual 211, 3) := by decide +kernel
theorem dX11_word_148 : decode cX11_word 148 = .ok (.bipush 117, 2) := by decide +kernel
theorem dX11_word_150 : decode cX11_word 150 = .ok (.ireturn, 1) := by decide +kernel
theorem dX11_word_151 : decode cX11_word 151 = .ok (.aload_n 0, 1) := by decide +kernel
theorem dX11_word_152 : decode cX11_word 152 = .ok (.bipush 119, 2) := by decide +kernel
theorem dX11_word_154 : decode cX11_word 154 = .ok (.bipush 97, 2) := by decide +kernel
theorem dX11_word_156 : decode cX11_word 156 = .ok (.bipush 112, 2) := by decide +kernel
theorem dX11_word_158 : decode cX11_word 158 = .ok (.invokevirtual 211, 3) := by decide +kernel
theorem dX11_word_161 : decode cX11_word 161 = .ok (.bipush 115, 2) := by decide +kernel
theorem dX11_word_163 : decode cX11_word 163 = .ok (.ireturn, 1) := by decide +kernel
theorem dX11_word_164 : decode cX11_word 164 = .ok (.aload_n 0, 1) := by decide +kernel
theorem dX11_word_165 : decode cX11_word 165 = .ok (.bipush 114, 2) := by decide +kernel
theorem dX11_word_167 : decode cX11_word 167 = .ok (.bipush 105, 2) := by decide +kernel
theorem dX11_word_169 : decode cX11_word 169 = .ok (.bipush 112, 2) := by decide +kernel
theorem dX11_word_171 : decode cX11_word 171 = .ok (.invokevirtual 211, 3) := by decide +kernel
theorem dX11_word_174 : decode cX11_word 174 = .ok (.bipush 116, 2) := by decide +kernel
theorem dX11_word_176 : decode cX11_word 176 = .ok (.ireturn, 1) := by decide +kernel
theorem dX11_word_177 : decode cX11_word 177 = .ok (.aload_n 0, 1) := by decide +kernel
theorem dX11_word_178 : decode cX11_word 178 = .ok (.bipush 114, 2) := by decide +kernel
theorem dX11_word_180 : decode cX11_word 180 = .ok (.bipush 101, 2) := by decide +kernel
theorem dX11_word_182 : decode cX11_word 182 = .ok (.bipush 97, 2) := by decide +kernel
theorem dX11_word_184 : decode cX11_word 184 = .ok (.invokevirtual 211, 3) := by decide +kernel
theorem dX11_word_187 : decode cX11_word 187 = .ok (.aload_n 0, 1) := by decide +kernel
theorem dX11_word_188 : decode cX11_word 188 = .ok (.bipush 115, 2) := by decide +kernel
theorem dX11_word_190 : decode cX11_word 190 = .ok (.bipush 101, 2) := by decide +kernel
theorem dX11_word_192 : decode cX11_word 192 = .ok (.iconst 0, 1) := by decide +kernel
theorem dX11_word_193 : decode cX11_word 193 = .ok (.invokevirtual 211, 3) := by decide +kernel
theorem dX11_word_196 : decode cX11_word 196 = .ok (.bipush 103, 2) := by decide +kernel
theorem dX11_word_198 : decode cX11_word 198 = .ok (.ireturn, 1) := by decide +kernel
theorem dX11_word_199 : decode cX11_word 199 = .ok (.iload_n 2, 1) := by decide +kernel
theorem dX11_word_200 : decode cX11_word 200 = .ok (.bipush 97, 2) := by decide +kernel
theorem dX11_word_202 : decode cX11_word 202 = .ok (.if_icmp .ne 16, 3) := by decide +kernel
theorem dX11_word_205 : decode cX11_word 205 = .ok (.aload_n 0, 1) := by decide +kernel
theorem dX11_word_206 : decode cX11_word 206 = .ok (.bipush 97, 2) := by decide +kernel
theorem dX11_word_208 : decode cX11_word 208 = .ok (.bipush 114, 2) := by decide +kernel
theorem dX11_word_210 : decode cX11_word 210 = .ok (.bipush 116, 2) := by decide +kernel
theorem dX11_word_212 : decode cX11_word 212 = .ok (.invokevirtual 211, 3) := by decide +kernel
theorem dX11_word_215 : decode cX11_word 215 = .ok (.bipush 97, 2) := by decide +kernel
theorem dX11_word_217 : decode cX11_word 217 = .ok (.ireturn, 1) := by decide +kernel
theorem dX11_word_218 : decode cX11_word 218 = .ok (.aload_n 0, 1) := by decide +kernel
theorem dX11_word_219 : decode cX11_word 219 = .ok (.bipush 111, 2) := by decide +kernel
theorem dX11_word_221 : decode cX11_word 221 = .ok (.bipush 110, 2) := by decide +kernel
theorem dX11_word_223 : decode cX11_word 223 = .ok (.bipush 99, 2) := by decide +kernel
theorem dX11_word_225 : decode cX11_word 225 = .ok (.invokevirtual 211, 3) := by decide +kernel
theorem dX11_word_228 : decode cX11_word 228 = .ok (.aload_n 0, 1) := by decide +kernel
theorem dX11_word_229 : decode cX11_word 229 = .ok (.bipush 108, 2) := by decide +kernel
theorem dX11_word_231 : decode cX11_word 231 = .ok (.bipush 117, 2) := by decide +kernel
theorem dX11_word_233 : decode cX11_word 233 = .ok (.bipush 115, 2) := by decide +kernel
theorem dX11_word_235 : decode cX11_word 235 = .ok (.invokevirtual 211, 3) := by decide +kernel
theorem dX11_word_238 : decode cX11_word 238 = .ok (.aload_n 0, 1) := by decide +kernel
theorem dX11_word_239 : decode cX11_word 239 = .ok (.bipush 105, 2) := by decide +kernel
theorem dX11_word_241 : decode cX11_word 241 = .ok (.bipush 111, 2) := by decide +kernel
theorem dX11_word_243 : decode cX11_word 243 = .ok (.bipush 110, 2) := by decide +kernel
theorem dX11_word_245 : decode cX11_word 245 = .ok (.invokevirtual 211, 3) := by decide +kernel
theorem dX11_word_248 : decode cX11_word 248 = .ok (.bipush 99, 2) := by decide +kernel
theorem dX11_word_250 : decode cX11_word 250 = .ok (.ireturn, 1) := by decide +kernel
set_option maxRecDepth 20000 in
theorem ggX11_command_X11_sign : GoodIn wsX11_command wsX11_sign := goodIn_r _ [9, 3, 10, 11, 35, 36, 37, 38, 39, 40, 41, 42, 43, 44, 45, 46, 47, 48, 49, 50, 51, 52, 53] (by decide +kernel) (by decide +kernel)
set_option maxRecDepth 20000 in
theorem gX11_command_X11_sign : GoodIn wsX11_command (wsV RX11 201 RX11 yX11_sign wsX11_sign) := goodIn_app (goodIn_of _ (by decide +kernel)) ggX11_command_X11_sign
set_option maxRecDepth 20000 in
theorem ggX11_command_X11_word : GoodIn wsX11_command wsX11_word := goodIn_r _ [15, 5, 6, 7, 8, 9, 3, 10, 11, 16, 17, 18, 19, 20, 21, 22, 23, 4, 35, 36, 37, 38, 39, 40, 41, 42, 43, 44, 45, 46, 47, 48, 49, 50, 51, 52, 53] (by decide +kernel) (by decide +kernel)
set_option maxRecDepth 20000 in
theorem gX11_command_X11_word : GoodIn wsX11_command (wsV RX11 218 RX11 yX11_word wsX11_word) := goodIn_app (goodIn_of _ (by decide +kernel)) ggX11_command_X11_word
set_option maxRecDepth 20000 in
theorem ggX11_command_X11_behind : GoodIn wsX11_command wsX11_behind := goodIn_r _ [27, 20, 21, 22, 8, 23, 4, 3, 5, 6, 7, 9, 10, 11, 28, 29, 30, 31, 32, 33, 34, 35, 36, 37, 38, 39, 40, 41, 42, 43, 44, 45, 46, 47, 48, 49, 50, 51, 52, 53] (by decide +kernel) (by decide +kernel)
set_option maxRecDepth 20000 in
theorem gX11_command_X11_behind : GoodIn wsX11_command (wsV RX11 221 RX11 yX11_behind wsX11_behind) := goodIn_app (goodIn_of _ (by decide +kernel)) ggX11_command_X11_behind
set_option maxRecDepth 20000 in
theorem ggX11_command_X11_number : GoodIn wsX11_command wsX11_number := goodIn_r _ [31, 4, 3, 5, 6, 7, 8, 9, 10, 11, 32, 33, 34, 35, 36, 37, 38, 39, 40, 41, 42, 43, 44, 45, 46, 47, 48, 49, 50, 51, 52, 53] (by decide +kernel) (by decide +kernel)
set_option maxRecDepth 20000 in
theorem gX11_command_X11_number : GoodIn wsX11_command (wsV RX11 208 RX11 yX11_number wsX11_number) := goodIn_app (goodIn_of _ (by decide +kernel)) ggX11_command_X11_number
theorem dX11_command_0 : decode cX11_command 0 = .ok (.iconst 4, 1) := by decide +kernel
theorem dX11_command_1 : decode cX11_command 1 = .ok (.aload_n 0, 1) := by decide +kernel
theorem dX11_command_2 : decode cX11_command 2 = .ok (.getfield 215, 3) := by decide +kernel
theorem dX11_command_5 : decode cX11_command 5 = .ok (.imul, 1) := by decide +kernel
theorem dX11_command_6 : decode cX11_command 6 = .ok (.istore_n 1, 1) := by decide +kernel
theorem dX11_command_7 : decode cX11_command 7 = .ok (.aload_n 0, 1) := by decide +kernel
theorem dX11_command_8 : decode cX11_command 8 = .ok (.dup, 1) := by decide +kernel
theorem dX11_command_9 : decode cX11_command 9 = .ok (.getfield 215, 3) := by decide +kernel
theorem dX11_command_12 : decode cX11_command 12 = .ok (.iconst 1, 1) := by decide +kernel
theorem dX11_command_13 : decode cX11_command 13 = .ok (.iadd, 1) := by decide +kernel
theorem dX11_command_14 : decode cX11_command 14 = .ok (.putfield 215, 3) := by decide +kernel
theorem dX11_command_17 : decode cX11_command 17 = .ok (.aload_n 0, 1) := by decide +kernel
theorem dX11_command_18 : decode cX11_command 18 = .ok (.invokevirtual 201, 3) := by decide +kernel
theorem dX11_command_21 : decode cX11_command 21 = .ok (.istore_n 2, 1) := by decide +kernel
theorem dX11_command_22 : decode cX11_command 22 = .ok (.iconst 0, 1) := by decide +kernel
theorem dX11_command_23 : decode cX11_command 23 = .ok (.istore_n 3, 1) := by decide +kernel
theorem dX11_command_24 : decode cX11_command 24 = .ok (.iload_n 3, 1) := by decide +kernel
theorem dX11_command_25 : decode cX11_command 25 = .ok (.iconst 4, 1) := by decide +kernel
theorem dX11_command_26 : decode cX11_command 26 = .ok (.if_icmp .ge 18, 3) := by decide +kernel
theorem dX11_command_29 : decode cX11_command 29 = .ok (.aload_n 0, 1) := by decide +kernel
theorem dX11_command_30 : decode cX11_command 30 = .ok (.getfield 31, 3) := by decide +kernel
theorem dX11_command_33 : decode cX11_command 33 = .ok (.iload_n 1, 1) := by decide +kernel
theorem dX11_command_34 : decode cX11_command 34 = .ok (.iload_n 3, 1) := by decide +kernel
theorem dX11_command_35 : decode cX11_command 35 = .ok (.iadd, 1) := by decide +kernel
theorem dX11_command_36 : decode cX11_command 36 = .ok (.iconst 0, 1) := by decide +kernel
theorem dX11_command_37 : decode cX11_command 37 = .ok (.iastore, 1) := by decide +kernel
theorem dX11_command_38 : decode cX11_command 38 = .ok (.iinc 3 1, 3) := by decide +kernel
theorem dX11_command_41 : decode cX11_command 41 = .ok (.goto (-17), 3) := by decide +kernel
theorem dX11_command_44 : decode cX11_command 44 = .ok (.iload_n 2, 1) := by decide +kernel
theorem dX11_command_45 : decode cX11_command 45 = .ok (.bipush 112, 2) := by decide +kernel
theorem dX11_command_47 : decode cX11_command 47 = .ok (.if_icmp .eq 54, 3) := by decide +kernel
theorem dX11_command_50 : decode cX11_command 50 = .ok (.iload_n 2, 1) := by decide +kernel
theorem dX11_command_51 : decode cX11_command 51 = .ok (.bipush 99, 2) := by decide +kernel
theorem dX11_command_53 : decode cX11_command 53 = .ok (.if_icmp .eq 48, 3) := by decide +kernel
theorem dX11_command_56 : decode cX11_command 56 = .ok (.iload_n 2, 1) := by decide +kernel
theorem dX11_command_57 : decode cX11_command 57 = .ok (.bipush 114, 2) := by decide +kernel
theorem dX11_command_59 : decode cX11_command 59 = .ok (.if_icmp .eq 42, 3) := by decide +kernel
theorem dX11_command_62 : decode cX11_command 62 = .ok (.iload_n 2, 1) := by decide +kernel
theorem dX11_command_63 : decode cX11_command 63 = .ok (.bipush 108, 2) := by decide +kernel
theorem dX11_command_65 : decode cX11_command 65 = .ok (.if_icmp .eq 36, 3) := by decide +kernel
theorem dX11_command_68 : decode cX11_command 68 = .ok (.iload_n 2, 1) := by decide +kernel
theorem dX11_command_69 : decode cX11_command 69 = .ok (.bipush 117, 2) := by decide +kernel
theorem dX11_command_71 : decode cX11_command 71 = .ok (.if_icmp .eq 30, 3) := by decide +kernel
theorem dX11_command_74 : decode cX11_command 74 = .ok (.iload_n 2, 1) := by decide +kernel
theorem dX11_command_75 : decode cX11_command 75 = .ok (.bipush 115, 2) := by decide +kernel
theorem dX11_command_77 : decode cX11_command 77 = .ok (.if_icmp .eq 24, 3) := by decide +kernel
theorem dX11_command_80 : decode cX11_command 80 = .ok (.iload_n 2, 1) := by decide +kernel
theorem dX11_command_81 : decode cX11_command 81 = .ok (.bipush 116, 2) := by decide +kernel
theorem dX11_command_83 : decode cX11_command 83 = .ok (.if_icmp .eq 18, 3) := by decide +kernel
theorem dX11_command_86 : decode cX11_command 86 = .ok (.iload_n 2, 1) := by decide +kernel
theorem dX11_command_87 : decode cX11_command 87 = .ok (.bipush 103, 2) := by decide +kernel
theorem dX11_command_89 : decode cX11_command 89 = .ok (.if_icmp .eq 12, 3) := by decide +kernel
theorem dX11_command_92 : decode cX11_command 92 = .ok (.aload_n 0, 1) := by decide +kernel
theorem dX11_command_93 : decode cX11_command 93 = .ok (.aload_n 0, 1) := by decide +kernel
theorem dX11_command_94 : decode cX11_command 94 = .ok (.getfield 195, 3) := by decide +kernel
theorem dX11_command_97 : decode cX11_command 97 = .ok (.putfield 198, 3) := by decide +kernel
theorem dX11_command_100 : decode cX11_command 100 = .ok (.return_, 1) := by decide +kernel
theorem dX11_command_101 : decode cX11_command 101 = .ok (.aload_n 0, 1) := by decide +kernel
theorem dX11_command_102 : decode cX11_command 102 = .ok (.dup, 1) := by decide +kernel
theorem dX11_command_103 : decode cX11_command 103 = .ok (.getfield 195, 3) := by decide +kernel
theorem dX11_command_106 : decode cX11_command 106 = .ok (.iconst 1, 1) := by decide +kernel
theorem dX11_command_107 : decode cX11_command 107 = .ok (.iadd, 1) := by decide +kernel
theorem dX11_command_108 : decode cX11_command 108 = .ok (.putfield 195, 3) := by decide +kernel
theorem dX11_command_111 : decode cX11_command 111 = .ok (.aload_n 0, 1) := by decide +kernel
theorem dX11_command_112 : decode cX11_command 112 = .ok (.iload_n 2, 1) := by decide +kernel
theorem dX11_command_113 : decode cX11_command 113 = .ok (.invokevirtual 218, 3) := by decide +kernel
theorem dX11_command_116 : decode cX11_command 116 = .ok (.istore_n 3, 1) := by decide +kernel
theorem dX11_command_117 : decode cX11_command 117 = .ok (.aload_n 0, 1) := by decide +kernel
theorem dX11_command_118 : decode cX11_command 118 = .ok (.getfield 31, 3) := by decide +kernel
theorem dX11_command_121 : decode cX11_command 121 = .ok (.iload_n 1, 1) := by decide +kernel
theorem dX11_command_122 : decode cX11_command 122 = .ok (.iload_n 3, 1) := by decide +kernel
theorem dX11_command_123 : decode cX11_command 123 = .ok (.iastore, 1) := by decide +kernel
theorem dX11_command_124 : decode cX11_command 124 = .ok (.aload_n 0, 1) := by decide +kernel
theorem dX11_command_125 : decode cX11_command 125 = .ok (.getfield 31, 3) := by decide +kernel
theorem dX11_command_128 : decode cX11_command 128 = .ok (.iload_n 1, 1) := by decide +kernel
theorem dX11_command_129 : decode cX11_command 129 = .ok (.iconst 1, 1) := by decide +kernel
theorem dX11_command_130 : decode cX11_command 130 = .ok (.iadd, 1) := by decide +kernel
theorem dX11_command_131 : decode cX11_command 131 = .ok (.aload_n 0, 1) := by decide +kernel
theorem dX11_command_132 : decode cX11_command 132 = .ok (.iload_n 3, 1) := by decide +kernel
theorem dX11_command_133 : decode cX11_command 133 = .ok (.bipush 99, 2) := by decide +kernel
theorem dX11_command_135 : decode cX11_command 135 = .ok (.if_icmp .eq 27, 3) := by decide +kernel
theorem dX11_command_138 : decode cX11_command 138 = .ok (.iload_n 3, 1) := by decide +kernel
theorem dX11_command_139 : decode cX11_command 139 = .ok (.bipush 97, 2) := by decide +kernel
theorem dX11_command_141 : decode cX11_command 141 = .ok (.if_icmp .eq 21, 3) := by decide +kernel
theorem dX11_command_144 : decode cX11_command 144 = .ok (.iload_n 3, 1) := by decide +kernel
theorem dX11_command_145 : decode cX11_command 145 = .ok (.bipush 114, 2) := by decide +kernel
theorem dX11_command_147 : decode cX11_command 147 = .ok (.if_icmp .eq 15, 3) := by decide +kernel
theorem dX11_command_150 : decode cX11_command 150 = .ok (.iload_n 3, 1) := by decide +kernel
theorem dX11_command_151 : decode cX11_command 151 = .ok (.bipush 108, 2) := by decide +kernel
theorem dX11_command_153 : decode cX11_command 153 = .ok (.if_icmp .eq 9, 3) := by decide +kernel
theorem dX11_command_156 : decode cX11_command 156 = .ok (.iload_n 3, 1) := by decide +kernel
theorem dX11_command_157 : decode cX11_command 157 = .ok (.bipush 117, 2) := by decide +kernel
theorem dX11_command_159 : decode cX11_command 159 = .ok (.if_icmp .ne 7, 3) := by decide +kernel
theorem dX11_command_162 : decode cX11_command 162 = .ok (.iconst 2, 1) := by decide +kernel
theorem dX11_command_163 : decode cX11_command 163 = .ok (.goto 4, 3) := by decide +kernel
theorem dX11_command_166 : decode cX11_command 166 = .ok (.iconst 1, 1) := by decide +kernel
theorem dX11_command_167 : decode cX11_command 167 = .ok (.invokevirtual 221, 3) := by decide +kernel
theorem dX11_command_170 : decode cX11_command 170 = .ok (.iastore, 1) := by decide +kernel
theorem dX11_command_171 : decode cX11_command 171 = .ok (.iload_n 3, 1) := by decide +kernel
theorem dX11_command_172 : decode cX11_command 172 = .ok (.tableswitch 126 108 116 #[81, 126, 126, 126, 126, 126, 52, 81, 110], 52) := by decide +kernel
theorem dX11_command_224 : decode cX11_command 224 = .ok (.aload_n 0, 1) := by decide +kernel
theorem dX11_command_225 : decode cX11_command 225 = .ok (.getfield 31, 3) := by decide +kernel
theorem dX11_command_228 : decode cX11_command 228 = .ok (.iload_n 1, 1) := by decide +kernel
theorem dX11_command_229 : decode cX11_command 229 = .ok (.iconst 2, 1) := by decide +kernel
theorem dX11_command_230 : decode cX11_command 230 = .ok (.iadd, 1) := by decide +kernel
theorem dX11_command_231 : decode cX11_command 231 = .ok (.aload_n 0, 1) := by decide +kernel
theorem dX11_command_232 : decode cX11_command 232 = .ok (.iconst 1, 1) := by decide +kernel
theorem dX11_command_233 : decode cX11_command 233 = .ok (.invokevirtual 221, 3) := by decide +kernel
theorem dX11_command_236 : decode cX11_command 236 = .ok (.iastore, 1) := by decide +kernel
theorem dX11_command_237 : decode cX11_command 237 = .ok (.aload_n 0, 1) := by decide +kernel
theorem dX11_command_238 : decode cX11_command 238 = .ok (.getfield 31, 3) := by decide +kernel
theorem dX11_command_241 : decode cX11_command 241 = .ok (.iload_n 1, 1) := by decide +kernel
theorem dX11_command_242 : decode cX11_command 242 = .ok (.iconst 3, 1) := by decide +kernel
theorem dX11_command_243 : decode cX11_command 243 = .ok (.iadd, 1) := by decide +kernel
theorem dX11_command_244 : decode cX11_command 244 = .ok (.aload_n 0, 1) := by decide +kernel
theorem dX11_command_245 : decode cX11_command 245 = .ok (.iconst 1, 1) := by decide +kernel
theorem dX11_command_246 : decode cX11_command 246 = .ok (.invokevirtual 221, 3) := by decide +kernel
theorem dX11_command_249 : decode cX11_command 249 = .ok (.iastore, 1) := by decide +kernel
theorem dX11_command_250 : decode cX11_command 250 = .ok (.goto 48, 3) := by decide +kernel
theorem dX11_command_253 : decode cX11_command 253 = .ok (.aload_n 0, 1) := by decide +kernel
theorem dX11_command_254 : decode cX11_command 254 = .ok (.getfield 31, 3) := by decide +kernel
theorem dX11_command_257 : decode cX11_command 257 = .ok (.iload_n 1, 1) := by decide +kernel
theorem dX11_command_258 : decode cX11_command 258 = .ok (.iconst 2, 1) := by decide +kernel
theorem dX11_command_259 : decode cX11_command 259 = .ok (.iadd, 1) := by decide +kernel
theorem dX11_command_260 : decode cX11_command 260 = .ok (.aload_n 0, 1) := by decide +kernel
theorem dX11_command_261 : decode cX11_command 261 = .ok (.iconst 1, 1) := by decide +kernel
theorem dX11_command_262 : decode cX11_command 262 = .ok (.invokevirtual 221, 3) := by decide +kernel
theorem dX11_command_265 : decode cX11_command 265 = .ok (.iastore, 1) := by decide +kernel
theorem dX11_command_266 : decode cX11_command 266 = .ok (.aload_n 0, 1) := by decide +kernel
theorem dX11_command_267 : decode cX11_command 267 = .ok (.getfield 31, 3) := by decide +kernel
theorem dX11_command_270 : decode cX11_command 270 = .ok (.iload_n 1, 1) := by decide +kernel
theorem dX11_command_271 : decode cX11_command 271 = .ok (.iconst 3, 1) := by decide +kernel
theorem dX11_command_272 : decode cX11_command 272 = .ok (.iadd, 1) := by decide +kernel
theorem dX11_command_273 : decode cX11_command 273 = .ok (.aload_n 0, 1) := by decide +kernel
theorem dX11_command_274 : decode cX11_command 274 = .ok (.iconst 1, 1) := by decide +kernel
theorem dX11_command_275 : decode cX11_command 275 = .ok (.invokevirtual 208, 3) := by decide +kernel
theorem dX11_command_278 : decode cX11_command 278 = .ok (.iastore, 1) := by decide +kernel
theorem dX11_command_279 : decode cX11_command 279 = .ok (.goto 19, 3) := by decide +kernel
theorem dX11_command_282 : decode cX11_command 282 = .ok (.aload_n 0, 1) := by decide +kernel
theorem dX11_command_283 : decode cX11_command 283 = .ok (.getfield 31, 3) := by decide +kernel
theorem dX11_command_286 : decode cX11_command 286 = .ok (.iload_n 1, 1) := by decide +kernel
theorem dX11_command_287 : decode cX11_command 287 = .ok (.iconst 2, 1) := by decide +kernel
theorem dX11_command_288 : decode cX11_command 288 = .ok (.iadd, 1) := by decide +kernel
theorem dX11_command_289 : decode cX11_command 289 = .ok (.aload_n 0, 1) := by decide +kernel
theorem dX11_command_290 : decode cX11_command 290 = .ok (.iconst 1, 1) := by decide +kernel
theorem dX11_command_291 : decode cX11_command 291 = .ok (.invokevirtual 221, 3) := by decide +kernel
theorem dX11_command_294 : decode cX11_command 294 = .ok (.iastore, 1) := by decide +kernel
theorem dX11_command_295 : decode cX11_command 295 = .ok (.goto 3, 3) := by decide +kernel
theorem dX11_command_298 : decode cX11_command 298 = .ok (.return_, 1) := by decide +kernel
set_option maxRecDepth 20000 in
theorem ggX11_parse_X11_command : GoodIn wsX11_parse wsX11_command := goodIn_r _ [9, 3, 10, 1, 2, 11, 12, 13, 8, 14, 4, 15, 16, 17, 18, 19, 20, 21, 22, 23, 24, 25, 26, 27, 28, 29, 30, 31, 32, 33, 34, 35, 36, 37, 38, 39, 40, 41, 42, 43, 44, 45, 46, 47, 48, 49, 50, 51, 52, 53, 54, 55, 56, 57] (by decide +kernel) (by decide +kernel)
set_option maxRecDepth 20000 in
theorem gX11_parse_X11_command : GoodIn wsX11_parse (wsV RX11 224 RX11 yX11_command wsX11_command) := goodIn_app (goodIn_of _ (by decide +kernel)) ggX11_parse_X11_command
set_option maxRecDepth 20000 in
theorem ggX11_parse_X11_sign : GoodIn wsX11_parse wsX11_sign := goodIn_r _ [14, 1, 4, 15, 39, 40, 41, 42, 43, 44, 45, 46, 47, 48, 49, 50, 51, 52, 53, 54, 55, 56, 57] (by decide +kernel) (by decide +kernel)
set_option maxRecDepth 20000 in
theorem gX11_parse_X11_sign : GoodIn wsX11_parse (wsV RX11 201 RX11 yX11_sign wsX11_sign) := goodIn_app (goodIn_of _ (by decide +kernel)) ggX11_parse_X11_sign
theorem dX11_parse_0 : decode cX11_parse 0 = .ok (.aload_n 0, 1) := by decide +kernel
theorem dX11_parse_1 : decode cX11_parse 1 = .ok (.iconst 0, 1) := by decide +kernel
theorem dX11_parse_2 : decode cX11_parse 2 = .ok (.putfield 195, 3) := by decide +kernel
theorem dX11_parse_5 : decode cX11_parse 5 = .ok (.aload_n 0, 1) := by decide +kernel
theorem dX11_parse_6 : decode cX11_parse 6 = .ok (.iconst (-1), 1) := by decide +kernel
theorem dX11_parse_7 : decode cX11_parse 7 = .ok (.putfield 198, 3) := by decide +kernel
theorem dX11_parse_10 : decode cX11_parse 10 = .ok (.aload_n 0, 1) := by decide +kernel
theorem dX11_parse_11 : decode cX11_parse 11 = .ok (.iconst 0, 1) := by decide +kernel
theorem dX11_parse_12 : decode cX11_parse 12 = .ok (.putfield 215, 3) := by decide +kernel
theorem dX11_parse_15 : decode cX11_parse 15 = .ok (.aload_n 0, 1) := by decide +kernel
theorem dX11_parse_16 : decode cX11_parse 16 = .ok (.invokevirtual 224, 3) := by decide +kernel
theorem dX11_parse_19 : decode cX11_parse 19 = .ok (.aload_n 0, 1) := by decide +kernel
theorem dX11_parse_20 : decode cX11_parse 20 = .ok (.getfield 198, 3) := by decide +kernel
theorem dX11_parse_23 : decode cX11_parse 23 = .ok (.ifCond .ge 29, 3) := by decide +kernel
theorem dX11_parse_26 : decode cX11_parse 26 = .ok (.aload_n 0, 1) := by decide +kernel
theorem dX11_parse_27 : decode cX11_parse 27 = .ok (.invokevirtual 201, 3) := by decide +kernel
theorem dX11_parse_30 : decode cX11_parse 30 = .ok (.bipush 59, 2) := by decide +kernel
theorem dX11_parse_32 : decode cX11_parse 32 = .ok (.if_icmp .ne 20, 3) := by decide +kernel
theorem dX11_parse_35 : decode cX11_parse 35 = .ok (.aload_n 0, 1) := by decide +kernel
theorem dX11_parse_36 : decode cX11_parse 36 = .ok (.dup, 1) := by decide +kernel
theorem dX11_parse_37 : decode cX11_parse 37 = .ok (.getfield 195, 3) := by decide +kernel
theorem dX11_parse_40 : decode cX11_parse 40 = .ok (.iconst 1, 1) := by decide +kernel
theorem dX11_parse_41 : decode cX11_parse 41 = .ok (.iadd, 1) := by decide +kernel
theorem dX11_parse_42 : decode cX11_parse 42 = .ok (.putfield 195, 3) := by decide +kernel
theorem dX11_parse_45 : decode cX11_parse 45 = .ok (.aload_n 0, 1) := by decide +kernel
theorem dX11_parse_46 : decode cX11_parse 46 = .ok (.invokevirtual 224, 3) := by decide +kernel
theorem dX11_parse_49 : decode cX11_parse 49 = .ok (.goto (-30), 3) := by decide +kernel
theorem dX11_parse_52 : decode cX11_parse 52 = .ok (.aload_n 0, 1) := by decide +kernel
theorem dX11_parse_53 : decode cX11_parse 53 = .ok (.getfield 198, 3) := by decide +kernel
theorem dX11_parse_56 : decode cX11_parse 56 = .ok (.ifCond .ge 22, 3) := by decide +kernel
theorem dX11_parse_59 : decode cX11_parse 59 = .ok (.aload_n 0, 1) := by decide +kernel
theorem dX11_parse_60 : decode cX11_parse 60 = .ok (.getfield 195, 3) := by decide +kernel
theorem dX11_parse_63 : decode cX11_parse 63 = .ok (.aload_n 0, 1) := by decide +kernel
theorem dX11_parse_64 : decode cX11_parse 64 = .ok (.getfield 192, 3) := by decide +kernel
theorem dX11_parse_67 : decode cX11_parse 67 = .ok (.if_icmp .ge 11, 3) := by decide +kernel
theorem dX11_parse_70 : decode cX11_parse 70 = .ok (.aload_n 0, 1) := by decide +kernel
theorem dX11_parse_71 : decode cX11_parse 71 = .ok (.aload_n 0, 1) := by decide +kernel
theorem dX11_parse_72 : decode cX11_parse 72 = .ok (.getfield 195, 3) := by decide +kernel
theorem dX11_parse_75 : decode cX11_parse 75 = .ok (.putfield 198, 3) := by decide +kernel
theorem dX11_parse_78 : decode cX11_parse 78 = .ok (.return_, 1) := by decide +kernel
set_option maxRecDepth 20000 in
theorem ggX11_does_X11_adds : GoodIn wsX11_does wsX11_adds := goodIn_r _ [6, 7, 8, 9, 5, 10, 11, 12, 13, 14, 15, 16, 17, 129, 130, 131, 132, 133, 134, 135, 136, 137, 138, 139, 140, 141, 142, 143, 144, 145, 146, 147] (by decide +kernel) (by decide +kernel)
set_option maxRecDepth 20000 in
theorem gX11_does_X11_adds : GoodIn wsX11_does (wsV RX11 99 RX11 yX11_adds wsX11_adds) := goodIn_app (goodIn_of _ (by decide +kernel)) ggX11_does_X11_adds
set_option maxRecDepth 20000 in
theorem ggX11_does_X11_addsCart : GoodIn wsX11_does wsX11_addsCart := goodIn_r _ [21, 7, 8, 9, 5, 10, 11, 12, 13, 14, 15, 16, 17, 129, 130, 131, 132, 133, 134, 135, 136, 137, 138, 139, 140, 141, 142, 143, 144, 145, 146, 147] (by decide +kernel) (by decide +kernel)
set_option maxRecDepth 20000 in
theorem gX11_does_X11_addsCart : GoodIn wsX11_does (wsV RX11 105 RX11 yX11_addsCart wsX11_addsCart) := goodIn_app (goodIn_of _ (by decide +kernel)) ggX11_does_X11_addsCart
set_option maxRecDepth 20000 in
theorem ggX11_does_X11_addsRoad : GoodIn wsX11_does wsX11_addsRoad := goodIn_r _ [25, 7, 8, 9, 5, 10, 11, 12, 13, 14, 15, 16, 17, 129, 130, 131, 132, 133, 134, 135, 136, 137, 138, 139, 140, 141, 142, 143, 144, 145, 146, 147] (by decide +kernel) (by decide +kernel)
set_option maxRecDepth 20000 in
theorem gX11_does_X11_addsRoad : GoodIn wsX11_does (wsV RX11 108 RX11 yX11_addsRoad wsX11_addsRoad) := goodIn_app (goodIn_of _ (by decide +kernel)) ggX11_does_X11_addsRoad
set_option maxRecDepth 20000 in
theorem ggX11_does_X11_loads : GoodIn wsX11_does wsX11_loads := goodIn_r _ [29, 7, 30, 31, 32, 5, 33, 8, 9, 10, 34, 35, 36, 37, 38, 39, 40, 41, 42, 43, 44, 45, 46, 47, 48, 49, 50, 51, 52, 53, 11, 12, 13, 14, 15, 16, 17, 54, 55, 56, 57, 129, 130, 131, 132, 133, 134, 135, 136, 137, 138, 139, 140, 141, 142, 143, 144, 145, 146, 147] (by decide +kernel) (by decide +kernel)
set_option maxRecDepth 20000 in
theorem gX11_does_X11_loads : GoodIn wsX11_does (wsV RX11 125 RX11 yX11_loads wsX11_loads) := goodIn_app (goodIn_of _ (by decide +kernel)) ggX11_does_X11_loads
set_option maxRecDepth 20000 in
theorem ggX11_does_X11_unloads : GoodIn wsX11_does wsX11_unloads := goodIn_r _ [61, 7, 30, 31, 32, 5, 33, 8, 9, 10, 38, 39, 40, 41, 50, 51, 52, 53, 46, 47, 48, 49, 11, 12, 13, 14, 15, 16, 17, 129, 130, 131, 132, 133, 134, 135, 136, 137, 138, 139, 140, 141, 142, 143, 144, 145, 146, 147] (by decide +kernel) (by decide +kernel)
set_option maxRecDepth 20000 in
theorem gX11_does_X11_unloads : GoodIn wsX11_does (wsV RX11 128 RX11 yX11_unloads wsX11_unloads) := goodIn_app (goodIn_of _ (by decide +kernel)) ggX11_does_X11_unloads
set_option maxRecDepth 20000 in
theorem ggX11_does_X11_swaps : GoodIn wsX11_does wsX11_swaps := goodIn_r _ [65, 7, 34, 35, 36, 5, 37, 8, 9, 10, 11, 12, 13, 14, 15, 16, 17, 42, 43, 44, 45, 46, 47, 48, 49, 38, 39, 40, 41, 66, 67, 68, 69, 70, 71, 72, 73, 74, 75, 76, 129, 130, 131, 132, 133, 134, 135, 136, 137, 138, 139, 140, 141, 142, 143, 144, 145, 146, 147] (by decide +kernel) (by decide +kernel)
set_option maxRecDepth 20000 in
theorem gX11_does_X11_swaps : GoodIn wsX11_does (wsV RX11 134 RX11 yX11_swaps wsX11_swaps) := goodIn_app (goodIn_of _ (by decide +kernel)) ggX11_does_X11_swaps
set_option maxRecDepth 20000 in
theorem ggX11_does_X11_goes : GoodIn wsX11_does wsX11_goes := goodIn_r _ [80, 81, 7, 34, 35, 36, 5, 37, 8, 9, 10, 82, 83, 84, 85, 54, 55, 56, 57, 50, 51, 52, 53, 46, 47, 48, 49, 38, 39, 40, 41, 86, 87, 88, 89, 11, 12, 13, 14, 15, 16, 17, 90, 91, 92, 93, 94, 95, 96, 97, 98, 99, 100, 101, 102, 103, 104, 105, 106, 107, 108, 109, 110, 111, 112, 70, 71, 72, 73, 113, 114, 115, 116, 117, 118, 119, 120, 121, 122, 123, 124, 129, 130, 131, 132, 133, 134, 135, 136, 137, 138, 139, 140, 141, 142, 143, 144, 145, 146, 147] (by decide +kernel) (by decide +kernel)
set_option maxRecDepth 20000 in
theorem gX11_does_X11_goes : GoodIn wsX11_does (wsV RX11 159 RX11 yX11_goes wsX11_goes) := goodIn_app (goodIn_of _ (by decide +kernel)) ggX11_does_X11_goes
set_option maxRecDepth 20000 in
theorem ggX11_does_X11_greases : GoodIn wsX11_does wsX11_greases := goodIn_r _ [128, 81, 34, 35, 36, 5, 37, 7, 8, 9, 10, 94, 95, 96, 97, 11, 12, 13, 14, 15, 16, 17, 90, 91, 92, 93, 129, 130, 131, 132, 133, 134, 135, 136, 137, 138, 139, 140, 141, 142, 143, 144, 145, 146, 147] (by decide +kernel) (by decide +kernel)
set_option maxRecDepth 20000 in
theorem gX11_does_X11_greases : GoodIn wsX11_does (wsV RX11 162 RX11 yX11_greases wsX11_greases) := goodIn_app (goodIn_of _ (by decide +kernel)) ggX11_does_X11_greases
theorem dX11_does_0 : decode cX11_does 0 = .ok (.aload_n 0, 1) := by decide +kernel
theorem dX11_does_1 : decode cX11_does 1 = .ok (.getfield 31, 3) := by decide +kernel
theorem dX11_does_4 : decode cX11_does 4 = .ok (.iload_n 1, 1) := by decide +kernel
theorem dX11_does_5 : decode cX11_does 5 = .ok (.iconst 1, 1) := by decide +kernel
theorem dX11_does_6 : decode cX11_does 6 = .ok (.iadd, 1) := by decide +kernel
theorem dX11_does_7 : decode cX11_does 7 = .ok (.iaload, 1) := by decide +kernel
theorem dX11_does_8 : decode cX11_does 8 = .ok (.istore_n 2, 1) := by decide +kernel
theorem dX11_does_9 : decode cX11_does 9 = .ok (.aload_n 0, 1) := by decide +kernel
theorem dX11_does_10 : decode cX11_does 10 = .ok (.getfield 31, 3) := by decide +kernel
theorem dX11_does_13 : decode cX11_does 13 = .ok (.iload_n 1, 1) := by decide +kernel
theorem dX11_does_14 : decode cX11_does 14 = .ok (.iconst 2, 1) := by decide +kernel
theorem dX11_does_15 : decode cX11_does 15 = .ok (.iadd, 1) := by decide +kernel
theorem dX11_does_16 : decode cX11_does 16 = .ok (.iaload, 1) := by decide +kernel
theorem dX11_does_17 : decode cX11_does 17 = .ok (.istore_n 3, 1) := by decide +kernel
theorem dX11_does_18 : decode cX11_does 18 = .ok (.aload_n 0, 1) := by decide +kernel
theorem dX11_does_19 : decode cX11_does 19 = .ok (.getfield 31, 3) := by decide +kernel
theorem dX11_does_22 : decode cX11_does 22 = .ok (.iload_n 1, 1) := by decide +kernel
theorem dX11_does_23 : decode cX11_does 23 = .ok (.iconst 3, 1) := by decide +kernel
theorem dX11_does_24 : decode cX11_does 24 = .ok (.iadd, 1) := by decide +kernel
theorem dX11_does_25 : decode cX11_does 25 = .ok (.iaload, 1) := by decide +kernel
theorem dX11_does_26 : decode cX11_does 26 = .ok (.istore 4, 2) := by decide +kernel
theorem dX11_does_28 : decode cX11_does 28 = .ok (.aload_n 0, 1) := by decide +kernel
theorem dX11_does_29 : decode cX11_does 29 = .ok (.getfield 31, 3) := by decide +kernel
theorem dX11_does_32 : decode cX11_does 32 = .ok (.iload_n 1, 1) := by decide +kernel
theorem dX11_does_33 : decode cX11_does 33 = .ok (.iaload, 1) := by decide +kernel
theorem dX11_does_34 : decode cX11_does 34 = .ok (.tableswitch 158 97 117 #[112, 158, 105, 158, 158, 158, 158, 158, 158, 158, 158, 127, 158, 158, 158, 98, 158, 118, 142, 151, 136], 98) := by decide +kernel
theorem dX11_does_132 : decode cX11_does 132 = .ok (.aload_n 0, 1) := by decide +kernel
theorem dX11_does_133 : decode cX11_does 133 = .ok (.iconst 0, 1) := by decide +kernel
theorem dX11_does_134 : decode cX11_does 134 = .ok (.iload_n 2, 1) := by decide +kernel
theorem dX11_does_135 : decode cX11_does 135 = .ok (.invokevirtual 99, 3) := by decide +kernel
theorem dX11_does_138 : decode cX11_does 138 = .ok (.ireturn, 1) := by decide +kernel
theorem dX11_does_139 : decode cX11_does 139 = .ok (.aload_n 0, 1) := by decide +kernel
theorem dX11_does_140 : decode cX11_does 140 = .ok (.iconst 1, 1) := by decide +kernel
theorem dX11_does_141 : decode cX11_does 141 = .ok (.iload_n 2, 1) := by decide +kernel
theorem dX11_does_142 : decode cX11_does 142 = .ok (.invokevirtual 99, 3) := by decide +kernel
theorem dX11_does_145 : decode cX11_does 145 = .ok (.ireturn, 1) := by decide +kernel
theorem dX11_does_146 : decode cX11_does 146 = .ok (.aload_n 0, 1) := by decide +kernel
theorem dX11_does_147 : decode cX11_does 147 = .ok (.iload_n 2, 1) := by decide +kernel
theorem dX11_does_148 : decode cX11_does 148 = .ok (.invokevirtual 105, 3) := by decide +kernel
theorem dX11_does_151 : decode cX11_does 151 = .ok (.ireturn, 1) := by decide +kernel
theorem dX11_does_152 : decode cX11_does 152 = .ok (.aload_n 0, 1) := by decide +kernel
theorem dX11_does_153 : decode cX11_does 153 = .ok (.iload_n 2, 1) := by decide +kernel
theorem dX11_does_154 : decode cX11_does 154 = .ok (.iload_n 3, 1) := by decide +kernel
theorem dX11_does_155 : decode cX11_does 155 = .ok (.iload 4, 2) := by decide +kernel
theorem dX11_does_157 : decode cX11_does 157 = .ok (.invokevirtual 108, 3) := by decide +kernel
theorem dX11_does_160 : decode cX11_does 160 = .ok (.ireturn, 1) := by decide +kernel
theorem dX11_does_161 : decode cX11_does 161 = .ok (.aload_n 0, 1) := by decide +kernel
theorem dX11_does_162 : decode cX11_does 162 = .ok (.iload_n 2, 1) := by decide +kernel
theorem dX11_does_163 : decode cX11_does 163 = .ok (.iload_n 3, 1) := by decide +kernel
theorem dX11_does_164 : decode cX11_does 164 = .ok (.iload 4, 2) := by decide +kernel
theorem dX11_does_166 : decode cX11_does 166 = .ok (.invokevirtual 125, 3) := by decide +kernel
theorem dX11_does_169 : decode cX11_does 169 = .ok (.ireturn, 1) := by decide +kernel
theorem dX11_does_170 : decode cX11_does 170 = .ok (.aload_n 0, 1) := by decide +kernel
theorem dX11_does_171 : decode cX11_does 171 = .ok (.iload_n 2, 1) := by decide +kernel
theorem dX11_does_172 : decode cX11_does 172 = .ok (.invokevirtual 128, 3) := by decide +kernel
theorem dX11_does_175 : decode cX11_does 175 = .ok (.ireturn, 1) := by decide +kernel
theorem dX11_does_176 : decode cX11_does 176 = .ok (.aload_n 0, 1) := by decide +kernel
theorem dX11_does_177 : decode cX11_does 177 = .ok (.iload_n 2, 1) := by decide +kernel
theorem dX11_does_178 : decode cX11_does 178 = .ok (.iload_n 3, 1) := by decide +kernel
theorem dX11_does_179 : decode cX11_does 179 = .ok (.iload 4, 2) := by decide +kernel
theorem dX11_does_181 : decode cX11_does 181 = .ok (.invokevirtual 134, 3) := by decide +kernel
theorem dX11_does_184 : decode cX11_does 184 = .ok (.ireturn, 1) := by decide +kernel
theorem dX11_does_185 : decode cX11_does 185 = .ok (.aload_n 0, 1) := by decide +kernel
theorem dX11_does_186 : decode cX11_does 186 = .ok (.iload_n 2, 1) := by decide +kernel
theorem dX11_does_187 : decode cX11_does 187 = .ok (.iload_n 3, 1) := by decide +kernel
theorem dX11_does_188 : decode cX11_does 188 = .ok (.invokevirtual 159, 3) := by decide +kernel
theorem dX11_does_191 : decode cX11_does 191 = .ok (.ireturn, 1) := by decide +kernel
theorem dX11_does_192 : decode cX11_does 192 = .ok (.aload_n 0, 1) := by decide +kernel
theorem dX11_does_193 : decode cX11_does 193 = .ok (.iload_n 2, 1) := by decide +kernel
theorem dX11_does_194 : decode cX11_does 194 = .ok (.invokevirtual 162, 3) := by decide +kernel
theorem dX11_does_197 : decode cX11_does 197 = .ok (.ireturn, 1) := by decide +kernel
set_option maxRecDepth 20000 in
theorem ggX11_read_X11_parse : GoodIn wsX11_read wsX11_parse := goodIn_r _ [13, 14, 2, 4, 1, 15, 16, 17, 12, 18, 19, 20, 21, 22, 23, 24, 25, 26, 27, 28, 29, 30, 31, 32, 33, 34, 35, 36, 37, 38, 39, 40, 41, 42, 43, 44, 45, 46, 47, 185, 186, 187, 188, 189, 190, 191, 192, 193, 194, 195, 196, 197, 198, 199, 200, 201, 202, 203] (by decide +kernel) (by decide +kernel)
set_option maxRecDepth 20000 in
theorem gX11_read_X11_parse : GoodIn wsX11_read (wsV RX11 227 RX11 yX11_parse wsX11_parse) := goodIn_app (goodIn_of _ (by decide +kernel)) ggX11_read_X11_parse
set_option maxRecDepth 20000 in
theorem ggX11_read_X11_begins : GoodIn wsX11_read wsX11_begins := goodIn_r _ [51, 52, 53, 54, 12, 55, 56, 57, 185, 186, 187, 188, 189, 190, 191, 192, 193, 194, 195, 196, 197, 198, 199, 200, 201, 202, 203] (by decide +kernel) (by decide +kernel)
set_option maxRecDepth 20000 in
theorem gX11_read_X11_begins : GoodIn wsX11_read (wsV RX11 96 RX11 yX11_begins wsX11_begins) := goodIn_app (goodIn_of _ (by decide +kernel)) ggX11_read_X11_begins
theorem X11_read_X11_does_p0 : ∀ w ∈ wsX11_read_r1, w ∈ wsX11_read := fun _ h => List.mem_cons_of_mem _ (List.mem_append_left _ (List.mem_append_left _ (h)))
theorem X11_read_X11_does_p1 : ∀ w ∈ wsX11_read_r2, w ∈ wsX11_read := fun _ h => List.mem_cons_of_mem _ (List.mem_append_left _ (List.mem_append_right _ (List.mem_append_left _ (h))))
theorem X11_read_X11_does_p2 : ∀ w ∈ wsX11_read_r3, w ∈ wsX11_read := fun _ h => List.mem_cons_of_mem _ (List.mem_append_left _ (List.mem_append_right _ (List.mem_append_right _ (List.mem_append_left _ (h)))))
theorem X11_read_X11_does_p3 : ∀ w ∈ wsX11_read_r4, w ∈ wsX11_read := fun _ h => List.mem_cons_of_mem _ (List.mem_append_left _ (List.mem_append_right _ (List.mem_append_right _ (List.mem_append_right _ (List.mem_append_left _ (h))))))
theorem X11_read_X11_does_p4 : ∀ w ∈ wsX11_read_r5, w ∈ wsX11_read := fun _ h => List.mem_cons_of_mem _ (List.mem_append_left _ (List.mem_append_right _ (List.mem_append_right _ (List.mem_append_right _ (List.mem_append_right _ (List.mem_append_left _ (h)))))))
theorem X11_read_X11_does_p5 : ∀ w ∈ wsX11_read_r6, w ∈ wsX11_read := fun _ h => List.mem_cons_of_mem _ (List.mem_append_left _ (List.mem_append_right _ (List.mem_append_right _ (List.mem_append_right _ (List.mem_append_right _ (List.mem_append_right _ (List.mem_append_left _ (h))))))))
theorem X11_read_X11_does_p6 : ∀ w ∈ wsX11_read_r7, w ∈ wsX11_read := fun _ h => List.mem_cons_of_mem _ (List.mem_append_left _ (List.mem_append_right _ (List.mem_append_right _ (List.mem_append_right _ (List.mem_append_right _ (List.mem_append_right _ (List.mem_append_right _ (List.mem_append_left _ (h)))))))))
theorem X11_read_X11_does_p7 : ∀ w ∈ wsX11_read_r8, w ∈ wsX11_read := fun _ h => List.mem_cons_of_mem _ (List.mem_append_left _ (List.mem_append_right _ (List.mem_append_right _ (List.mem_append_right _ (List.mem_append_right _ (List.mem_append_right _ (List.mem_append_right _ (List.mem_append_right _ (h)))))))))
theorem X11_read_X11_does_p8 : ∀ w ∈ wsX110, w ∈ wsX11_read := fun _ h => List.mem_cons_of_mem _ (List.mem_append_right _ (h))
theorem X11_read_X11_does_c0 : ∀ w ∈ wsX11_does_r1, w ∈ wsX11_read := List.forall_mem_cons.mpr ⟨X11_read_X11_does_p0 _ (List.mem_of_getElem? (i := 18) rfl), List.forall_mem_cons.mpr ⟨X11_read_X11_does_p2 _ (List.mem_of_getElem? (i := 13) rfl), List.forall_mem_cons.mpr ⟨X11_read_X11_does_p2 _ (List.mem_of_getElem? (i := 14) rfl), List.forall_mem_cons.mpr ⟨X11_read_X11_does_p2 _ (List.mem_of_getElem? (i := 15) rfl), List.forall_mem_cons.mpr ⟨X11_read_X11_does_p0 _ (List.mem_of_getElem? (i := 11) rfl), List.forall_mem_cons.mpr ⟨X11_read_X11_does_p2 _ (List.mem_of_getElem? (i := 16) rfl), List.forall_mem_cons.mpr ⟨X11_read_X11_does_p2 _ (List.mem_of_getElem? (i := 7) rfl), List.forall_mem_cons.mpr ⟨X11_read_X11_does_p1 _ (List.mem_of_getElem? (i := 20) rfl), List.forall_mem_cons.mpr ⟨X11_read_X11_does_p1 _ (List.mem_of_getElem? (i := 21) rfl), List.forall_mem_cons.mpr ⟨X11_read_X11_does_p1 _ (List.mem_of_getElem? (i := 22) rfl), List.forall_mem_cons.mpr ⟨X11_read_X11_does_p2 _ (List.mem_of_getElem? (i := 17) rfl), List.forall_mem_cons.mpr ⟨X11_read_X11_does_p2 _ (List.mem_of_getElem? (i := 18) rfl), List.forall_mem_cons.mpr ⟨X11_read_X11_does_p2 _ (List.mem_of_getElem? (i := 19) rfl), List.forall_mem_cons.mpr ⟨X11_read_X11_does_p2 _ (List.mem_of_getElem? (i := 20) rfl), List.forall_mem_cons.mpr ⟨X11_read_X11_does_p0 _ (List.mem_of_getElem? (i := 4) rfl), List.forall_mem_cons.mpr ⟨X11_read_X11_does_p0 _ (List.mem_of_getElem? (i := 6) rfl), List.forall_mem_cons.mpr ⟨X11_read_X11_does_p0 _ (List.mem_of_getElem? (i := 5) rfl), List.forall_mem_cons.mpr ⟨X11_read_X11_does_p2 _ (List.mem_of_getElem? (i := 21) rfl), List.forall_mem_cons.mpr ⟨X11_read_X11_does_p2 _ (List.mem_of_getElem? (i := 22) rfl), List.forall_mem_cons.mpr ⟨X11_read_X11_does_p2 _ (List.mem_of_getElem? (i := 23) rfl), List.forall_mem_cons.mpr ⟨X11_read_X11_does_p3 _ (List.mem_of_getElem? (i := 0) rfl), List.forall_mem_cons.mpr ⟨X11_read_X11_does_p3 _ (List.mem_of_getElem? (i := 1) rfl), List.forall_mem_cons.mpr ⟨X11_read_X11_does_p3 _ (List.mem_of_getElem? (i := 2) rfl), List.forall_mem_cons.mpr ⟨X11_read_X11_does_p3 _ (List.mem_of_getElem? (i := 3) rfl), fun _ h => absurd h List.not_mem_nil⟩⟩⟩⟩⟩⟩⟩⟩⟩⟩⟩⟩⟩⟩⟩⟩⟩⟩⟩⟩⟩⟩⟩⟩
theorem X11_read_X11_does_c1 : ∀ w ∈ wsX11_does_r2, w ∈ wsX11_read := List.forall_mem_cons.mpr ⟨X11_read_X11_does_p3 _ (List.mem_of_getElem? (i := 4) rfl), List.forall_mem_cons.mpr ⟨X11_read_X11_does_p3 _ (List.mem_of_getElem? (i := 5) rfl), List.forall_mem_cons.mpr ⟨X11_read_X11_does_p3 _ (List.mem_of_getElem? (i := 6) rfl), List.forall_mem_cons.mpr ⟨X11_read_X11_does_p3 _ (List.mem_of_getElem? (i := 7) rfl), List.forall_mem_cons.mpr ⟨X11_read_X11_does_p3 _ (List.mem_of_getElem? (i := 8) rfl), List.forall_mem_cons.mpr ⟨X11_read_X11_does_p3 _ (List.mem_of_getElem? (i := 9) rfl), List.forall_mem_cons.mpr ⟨X11_read_X11_does_p3 _ (List.mem_of_getElem? (i := 10) rfl), List.forall_mem_cons.mpr ⟨X11_read_X11_does_p3 _ (List.mem_of_getElem? (i := 11) rfl), List.forall_mem_cons.mpr ⟨X11_read_X11_does_p3 _ (List.mem_of_getElem? (i := 12) rfl), List.forall_mem_cons.mpr ⟨X11_read_X11_does_p3 _ (List.mem_of_getElem? (i := 13) rfl), List.forall_mem_cons.mpr ⟨X11_read_X11_does_p3 _ (List.mem_of_getElem? (i := 14) rfl), List.forall_mem_cons.mpr ⟨X11_read_X11_does_p3 _ (List.mem_of_getElem? (i := 15) rfl), List.forall_mem_cons.mpr ⟨X11_read_X11_does_p3 _ (List.mem_of_getElem? (i := 16) rfl), List.forall_mem_cons.mpr ⟨X11_read_X11_does_p3 _ (List.mem_of_getElem? (i := 17) rfl), List.forall_mem_cons.mpr ⟨X11_read_X11_does_p3 _ (List.mem_of_getElem? (i := 18) rfl), List.forall_mem_cons.mpr ⟨X11_read_X11_does_p3 _ (List.mem_of_getElem? (i := 19) rfl), List.forall_mem_cons.mpr ⟨X11_read_X11_does_p3 _ (List.mem_of_getElem? (i := 20) rfl), List.forall_mem_cons.mpr ⟨X11_read_X11_does_p3 _ (List.mem_of_getElem? (i := 21) rfl), List.forall_mem_cons.mpr ⟨X11_read_X11_does_p3 _ (List.mem_of_getElem? (i := 22) rfl), List.forall_mem_cons.mpr ⟨X11_read_X11_does_p3 _ (List.mem_of_getElem? (i := 23) rfl), List.forall_mem_cons.mpr ⟨X11_read_X11_does_p4 _ (List.mem_of_getElem? (i := 0) rfl), List.forall_mem_cons.mpr ⟨X11_read_X11_does_p4 _ (List.mem_of_getElem? (i := 1) rfl), List.forall_mem_cons.mpr ⟨X11_read_X11_does_p4 _ (List.mem_of_getElem? (i := 2) rfl), List.forall_mem_cons.mpr ⟨X11_read_X11_does_p4 _ (List.mem_of_getElem? (i := 3) rfl), fun _ h => absurd h List.not_mem_nil⟩⟩⟩⟩⟩⟩⟩⟩⟩⟩⟩⟩⟩⟩⟩⟩⟩⟩⟩⟩⟩⟩⟩⟩
theorem X11_read_X11_does_c2 : ∀ w ∈ wsX11_does_r3, w ∈ wsX11_read := List.forall_mem_cons.mpr ⟨X11_read_X11_does_p4 _ (List.mem_of_getElem? (i := 4) rfl), List.forall_mem_cons.mpr ⟨X11_read_X11_does_p4 _ (List.mem_of_getElem? (i := 5) rfl), List.forall_mem_cons.mpr ⟨X11_read_X11_does_p4 _ (List.mem_of_getElem? (i := 6) rfl), List.forall_mem_cons.mpr ⟨X11_read_X11_does_p4 _ (List.mem_of_getElem? (i := 7) rfl), List.forall_mem_cons.mpr ⟨X11_read_X11_does_p4 _ (List.mem_of_getElem? (i := 8) rfl), List.forall_mem_cons.mpr ⟨X11_read_X11_does_p4 _ (List.mem_of_getElem? (i := 9) rfl), List.forall_mem_cons.mpr ⟨X11_read_X11_does_p4 _ (List.mem_of_getElem? (i := 10) rfl), List.forall_mem_cons.mpr ⟨X11_read_X11_does_p4 _ (List.mem_of_getElem? (i := 11) rfl), List.forall_mem_cons.mpr ⟨X11_read_X11_does_p4 _ (List.mem_of_getElem? (i := 12) rfl), List.forall_mem_cons.mpr ⟨X11_read_X11_does_p4 _ (List.mem_of_getElem? (i := 13) rfl), List.forall_mem_cons.mpr ⟨X11_read_X11_does_p4 _ (List.mem_of_getElem? (i := 14) rfl), List.forall_mem_cons.mpr ⟨X11_read_X11_does_p4 _ (List.mem_of_getElem? (i := 15) rfl), List.forall_mem_cons.mpr ⟨X11_read_X11_does_p4 _ (List.mem_of_getElem? (i := 16) rfl), List.forall_mem_cons.mpr ⟨X11_read_X11_does_p4 _ (List.mem_of_getElem? (i := 17) rfl), List.forall_mem_cons.mpr ⟨X11_read_X11_does_p4 _ (List.mem_of_getElem? (i := 18) rfl), List.forall_mem_cons.mpr ⟨X11_read_X11_does_p4 _ (List.mem_of_getElem? (i := 19) rfl), List.forall_mem_cons.mpr ⟨X11_read_X11_does_p4 _ (List.mem_of_getElem? (i := 20) rfl), List.forall_mem_cons.mpr ⟨X11_read_X11_does_p4 _ (List.mem_of_getElem? (i := 21) rfl), List.forall_mem_cons.mpr ⟨X11_read_X11_does_p4 _ (List.mem_of_getElem? (i := 22) rfl), List.forall_mem_cons.mpr ⟨X11_read_X11_does_p4 _ (List.mem_of_getElem? (i := 23) rfl), List.forall_mem_cons.mpr ⟨X11_read_X11_does_p5 _ (List.mem_of_getElem? (i := 0) rfl), List.forall_mem_cons.mpr ⟨X11_read_X11_does_p5 _ (List.mem_of_getElem? (i := 1) rfl), List.forall_mem_cons.mpr ⟨X11_read_X11_does_p5 _ (List.mem_of_getElem? (i := 2) rfl), List.forall_mem_cons.mpr ⟨X11_read_X11_does_p5 _ (List.mem_of_getElem? (i := 3) rfl), fun _ h => absurd h List.not_mem_nil⟩⟩⟩⟩⟩⟩⟩⟩⟩⟩⟩⟩⟩⟩⟩⟩⟩⟩⟩⟩⟩⟩⟩⟩
theorem X11_read_X11_does_c3 : ∀ w ∈ wsX11_does_r4, w ∈ wsX11_read := List.forall_mem_cons.mpr ⟨X11_read_X11_does_p5 _ (List.mem_of_getElem? (i := 4) rfl), List.forall_mem_cons.mpr ⟨X11_read_X11_does_p5 _ (List.mem_of_getElem? (i := 5) rfl), List.forall_mem_cons.mpr ⟨X11_read_X11_does_p5 _ (List.mem_of_getElem? (i := 6) rfl), List.forall_mem_cons.mpr ⟨X11_read_X11_does_p5 _ (List.mem_of_getElem? (i := 7) rfl), List.forall_mem_cons.mpr ⟨X11_read_X11_does_p5 _ (List.mem_of_getElem? (i := 8) rfl), List.forall_mem_cons.mpr ⟨X11_read_X11_does_p5 _ (List.mem_of_getElem? (i := 9) rfl), List.forall_mem_cons.mpr ⟨X11_read_X11_does_p5 _ (List.mem_of_getElem? (i := 10) rfl), List.forall_mem_cons.mpr ⟨X11_read_X11_does_p5 _ (List.mem_of_getElem? (i := 11) rfl), List.forall_mem_cons.mpr ⟨X11_read_X11_does_p2 _ (List.mem_of_getElem? (i := 8) rfl), List.forall_mem_cons.mpr ⟨X11_read_X11_does_p5 _ (List.mem_of_getElem? (i := 12) rfl), List.forall_mem_cons.mpr ⟨X11_read_X11_does_p5 _ (List.mem_of_getElem? (i := 13) rfl), List.forall_mem_cons.mpr ⟨X11_read_X11_does_p5 _ (List.mem_of_getElem? (i := 14) rfl), List.forall_mem_cons.mpr ⟨X11_read_X11_does_p5 _ (List.mem_of_getElem? (i := 15) rfl), List.forall_mem_cons.mpr ⟨X11_read_X11_does_p5 _ (List.mem_of_getElem? (i := 16) rfl), List.forall_mem_cons.mpr ⟨X11_read_X11_does_p5 _ (List.mem_of_getElem? (i := 17) rfl), List.forall_mem_cons.mpr ⟨X11_read_X11_does_p5 _ (List.mem_of_getElem? (i := 18) rfl), List.forall_mem_cons.mpr ⟨X11_read_X11_does_p5 _ (List.mem_of_getElem? (i := 19) rfl), List.forall_mem_cons.mpr ⟨X11_read_X11_does_p5 _ (List.mem_of_getElem? (i := 20) rfl), List.forall_mem_cons.mpr ⟨X11_read_X11_does_p5 _ (List.mem_of_getElem? (i := 21) rfl), List.forall_mem_cons.mpr ⟨X11_read_X11_does_p5 _ (List.mem_of_getElem? (i := 22) rfl), List.forall_mem_cons.mpr ⟨X11_read_X11_does_p5 _ (List.mem_of_getElem? (i := 23) rfl), List.forall_mem_cons.mpr ⟨X11_read_X11_does_p6 _ (List.mem_of_getElem? (i := 0) rfl), List.forall_mem_cons.mpr ⟨X11_read_X11_does_p6 _ (List.mem_of_getElem? (i := 1) rfl), List.forall_mem_cons.mpr ⟨X11_read_X11_does_p6 _ (List.mem_of_getElem? (i := 2) rfl), fun _ h => absurd h List.not_mem_nil⟩⟩⟩⟩⟩⟩⟩⟩⟩⟩⟩⟩⟩⟩⟩⟩⟩⟩⟩⟩⟩⟩⟩⟩
theorem X11_read_X11_does_c4 : ∀ w ∈ wsX11_does_r5, w ∈ wsX11_read := List.forall_mem_cons.mpr ⟨X11_read_X11_does_p6 _ (List.mem_of_getElem? (i := 3) rfl), List.forall_mem_cons.mpr ⟨X11_read_X11_does_p6 _ (List.mem_of_getElem? (i := 4) rfl), List.forall_mem_cons.mpr ⟨X11_read_X11_does_p6 _ (List.mem_of_getElem? (i := 5) rfl), List.forall_mem_cons.mpr ⟨X11_read_X11_does_p6 _ (List.mem_of_getElem? (i := 6) rfl), List.forall_mem_cons.mpr ⟨X11_read_X11_does_p6 _ (List.mem_of_getElem? (i := 7) rfl), List.forall_mem_cons.mpr ⟨X11_read_X11_does_p6 _ (List.mem_of_getElem? (i := 8) rfl), List.forall_mem_cons.mpr ⟨X11_read_X11_does_p6 _ (List.mem_of_getElem? (i := 9) rfl), List.forall_mem_cons.mpr ⟨X11_read_X11_does_p6 _ (List.mem_of_getElem? (i := 10) rfl), List.forall_mem_cons.mpr ⟨X11_read_X11_does_p6 _ (List.mem_of_getElem? (i := 11) rfl), List.forall_mem_cons.mpr ⟨X11_read_X11_does_p6 _ (List.mem_of_getElem? (i := 12) rfl), List.forall_mem_cons.mpr ⟨X11_read_X11_does_p6 _ (List.mem_of_getElem? (i := 13) rfl), List.forall_mem_cons.mpr ⟨X11_read_X11_does_p6 _ (List.mem_of_getElem? (i := 14) rfl), List.forall_mem_cons.mpr ⟨X11_read_X11_does_p6 _ (List.mem_of_getElem? (i := 15) rfl), List.forall_mem_cons.mpr ⟨X11_read_X11_does_p6 _ (List.mem_of_getElem? (i := 16) rfl), List.forall_mem_cons.mpr ⟨X11_read_X11_does_p6 _ (List.mem_of_getElem? (i := 17) rfl), List.forall_mem_cons.mpr ⟨X11_read_X11_does_p6 _ (List.mem_of_getElem? (i := 18) rfl), List.forall_mem_cons.mpr ⟨X11_read_X11_does_p6 _ (List.mem_of_getElem? (i := 19) rfl), List.forall_mem_cons.mpr ⟨X11_read_X11_does_p6 _ (List.mem_of_getElem? (i := 20) rfl), List.forall_mem_cons.mpr ⟨X11_read_X11_does_p6 _ (List.mem_of_getElem? (i := 21) rfl), List.forall_mem_cons.mpr ⟨X11_read_X11_does_p6 _ (List.mem_of_getElem? (i := 22) rfl), List.forall_mem_cons.mpr ⟨X11_read_X11_does_p6 _ (List.mem_of_getElem? (i := 23) rfl), List.forall_mem_cons.mpr ⟨X11_read_X11_does_p7 _ (List.mem_of_getElem? (i := 0) rfl), List.forall_mem_cons.mpr ⟨X11_read_X11_does_p7 _ (List.mem_of_getElem? (i := 1) rfl), List.forall_mem_cons.mpr ⟨X11_read_X11_does_p7 _ (List.mem_of_getElem? (i := 2) rfl), fun _ h => absurd h List.not_mem_nil⟩⟩⟩⟩⟩⟩⟩⟩⟩⟩⟩⟩⟩⟩⟩⟩⟩⟩⟩⟩⟩⟩⟩⟩
theorem X11_read_X11_does_c5 : ∀ w ∈ wsX11_does_r6, w ∈ wsX11_read := List.forall_mem_cons.mpr ⟨X11_read_X11_does_p7 _ (List.mem_of_getElem? (i := 3) rfl), List.forall_mem_cons.mpr ⟨X11_read_X11_does_p7 _ (List.mem_of_getElem? (i := 4) rfl), List.forall_mem_cons.mpr ⟨X11_read_X11_does_p7 _ (List.mem_of_getElem? (i := 5) rfl), List.forall_mem_cons.mpr ⟨X11_read_X11_does_p7 _ (List.mem_of_getElem? (i := 6) rfl), List.forall_mem_cons.mpr ⟨X11_read_X11_does_p7 _ (List.mem_of_getElem? (i := 7) rfl), List.forall_mem_cons.mpr ⟨X11_read_X11_does_p7 _ (List.mem_of_getElem? (i := 8) rfl), List.forall_mem_cons.mpr ⟨X11_read_X11_does_p7 _ (List.mem_of_getElem? (i := 9) rfl), List.forall_mem_cons.mpr ⟨X11_read_X11_does_p7 _ (List.mem_of_getElem? (i := 10) rfl), fun _ h => absurd h List.not_mem_nil⟩⟩⟩⟩⟩⟩⟩⟩
theorem X11_read_X11_does_m : ∀ w ∈ wsX11_does, w ∈ wsX11_read := List.forall_mem_cons.mpr ⟨X11_read_X11_does_p2 _ (List.mem_of_getElem? (i := 12) rfl), List.forall_mem_append.mpr ⟨List.forall_mem_append.mpr ⟨X11_read_X11_does_c0, List.forall_mem_append.mpr ⟨X11_read_X11_does_c1, List.forall_mem_append.mpr ⟨X11_read_X11_does_c2, List.forall_mem_append.mpr ⟨X11_read_X11_does_c3, List.forall_mem_append.mpr ⟨X11_read_X11_does_c4, X11_read_X11_does_c5⟩⟩⟩⟩⟩, X11_read_X11_does_p8⟩⟩
theorem ggX11_read_X11_does : GoodIn wsX11_read wsX11_does := goodIn_sub X11_read_X11_does_m (by decide +kernel)
set_option maxRecDepth 20000 in
theorem gX11_read_X11_does : GoodIn wsX11_read (wsV RX11 230 RX11 yX11_does wsX11_does) := goodIn_app (goodIn_of _ (by decide +kernel)) ggX11_read_X11_does
set_option maxRecDepth 20000 in
theorem ggX11_read_X11_ends : GoodIn wsX11_read wsX11_ends := goodIn_r _ [183, 184, 52, 53, 54, 12, 55, 56, 57, 185, 186, 187, 188, 189, 190, 191, 192, 193, 194, 195, 196, 197, 198, 199, 200, 201, 202, 203] (by decide +kernel) (by decide +kernel)
set_option maxRecDepth 20000 in
theorem gX11_read_X11_ends : GoodIn wsX11_read (wsV RX11 102 RX11 yX11_ends wsX11_ends) := goodIn_app (goodIn_of _ (by decide +kernel)) ggX11_read_X11_ends
theorem dX11_read_0 : decode cX11_read 0 = .ok (.aload_n 0, 1) := by decide +kernel
theorem dX11_read_1 : decode cX11_read 1 = .ok (.invokevirtual 227, 3) := by decide +kernel
theorem dX11_read_4 : decode cX11_read 4 = .ok (.aload_n 0, 1) := by decide +kernel
theorem dX11_read_5 : decode cX11_read 5 = .ok (.iconst 0, 1) := by decide +kernel
theorem dX11_read_6 : decode cX11_read 6 = .ok (.putfield 192, 3) := by decide +kernel
theorem dX11_read_9 : decode cX11_read 9 = .ok (.aload_n 0, 1) := by decide +kernel
theorem dX11_read_10 : decode cX11_read 10 = .ok (.getfield 198, 3) := by decide +kernel
theorem dX11_read_13 : decode cX11_read 13 = .ok (.ifCond .lt 14, 3) := by decide +kernel
theorem dX11_read_16 : decode cX11_read 16 = .ok (.aload_n 0, 1) := by decide +kernel
theorem dX11_read_17 : decode cX11_read 17 = .ok (.aload_n 0, 1) := by decide +kernel
theorem dX11_read_18 : decode cX11_read 18 = .ok (.getfield 198, 3) := by decide +kernel
theorem dX11_read_21 : decode cX11_read 21 = .ok (.putfield 27, 3) := by decide +kernel
theorem dX11_read_24 : decode cX11_read 24 = .ok (.bipush (-2), 2) := by decide +kernel
theorem dX11_read_26 : decode cX11_read 26 = .ok (.ireturn, 1) := by decide +kernel
theorem dX11_read_27 : decode cX11_read 27 = .ok (.aload_n 0, 1) := by decide +kernel
theorem dX11_read_28 : decode cX11_read 28 = .ok (.invokevirtual 96, 3) := by decide +kernel
theorem dX11_read_31 : decode cX11_read 31 = .ok (.iconst 0, 1) := by decide +kernel
theorem dX11_read_32 : decode cX11_read 32 = .ok (.istore_n 1, 1) := by decide +kernel
theorem dX11_read_33 : decode cX11_read 33 = .ok (.iconst 0, 1) := by decide +kernel
theorem dX11_read_34 : decode cX11_read 34 = .ok (.istore_n 2, 1) := by decide +kernel
theorem dX11_read_35 : decode cX11_read 35 = .ok (.iload_n 2, 1) := by decide +kernel
theorem dX11_read_36 : decode cX11_read 36 = .ok (.aload_n 0, 1) := by decide +kernel
theorem dX11_read_37 : decode cX11_read 37 = .ok (.getfield 215, 3) := by decide +kernel
theorem dX11_read_40 : decode cX11_read 40 = .ok (.if_icmp .ge 21, 3) := by decide +kernel
theorem dX11_read_43 : decode cX11_read 43 = .ok (.iload_n 1, 1) := by decide +kernel
theorem dX11_read_44 : decode cX11_read 44 = .ok (.ifCond .lt 17, 3) := by decide +kernel
theorem dX11_read_47 : decode cX11_read 47 = .ok (.aload_n 0, 1) := by decide +kernel
theorem dX11_read_48 : decode cX11_read 48 = .ok (.iconst 4, 1) := by decide +kernel
theorem dX11_read_49 : decode cX11_read 49 = .ok (.iload_n 2, 1) := by decide +kernel
theorem dX11_read_50 : decode cX11_read 50 = .ok (.imul, 1) := by decide +kernel
theorem dX11_read_51 : decode cX11_read 51 = .ok (.invokevirtual 230, 3) := by decide +kernel
theorem dX11_read_54 : decode cX11_read 54 = .ok (.istore_n 1, 1) := by decide +kernel
theorem dX11_read_55 : decode cX11_read 55 = .ok (.iinc 2 1, 3) := by decide +kernel
theorem dX11_read_58 : decode cX11_read 58 = .ok (.goto (-23), 3) := by decide +kernel
theorem dX11_read_61 : decode cX11_read 61 = .ok (.iload_n 1, 1) := by decide +kernel
theorem dX11_read_62 : decode cX11_read 62 = .ok (.ifCond .ge 60, 3) := by decide +kernel
theorem dX11_read_65 : decode cX11_read 65 = .ok (.aload_n 0, 1) := by decide +kernel
theorem dX11_read_66 : decode cX11_read 66 = .ok (.iload_n 1, 1) := by decide +kernel
theorem dX11_read_67 : decode cX11_read 67 = .ok (.bipush (-3), 2) := by decide +kernel
theorem dX11_read_69 : decode cX11_read 69 = .ok (.if_icmp .ne 10, 3) := by decide +kernel
theorem dX11_read_72 : decode cX11_read 72 = .ok (.aload_n 0, 1) := by decide +kernel
theorem dX11_read_73 : decode cX11_read 73 = .ok (.getfield 41, 3) := by decide +kernel
theorem dX11_read_76 : decode cX11_read 76 = .ok (.goto 4, 3) := by decide +kernel
theorem dX11_read_79 : decode cX11_read 79 = .ok (.iconst 0, 1) := by decide +kernel
theorem dX11_read_80 : decode cX11_read 80 = .ok (.putfield 47, 3) := by decide +kernel
theorem dX11_read_83 : decode cX11_read 83 = .ok (.aload_n 0, 1) := by decide +kernel
theorem dX11_read_84 : decode cX11_read 84 = .ok (.aload_n 0, 1) := by decide +kernel
theorem dX11_read_85 : decode cX11_read 85 = .ok (.getfield 44, 3) := by decide +kernel
theorem dX11_read_88 : decode cX11_read 88 = .ok (.putfield 54, 3) := by decide +kernel
theorem dX11_read_91 : decode cX11_read 91 = .ok (.aload_n 0, 1) := by decide +kernel
theorem dX11_read_92 : decode cX11_read 92 = .ok (.iload_n 1, 1) := by decide +kernel
theorem dX11_read_93 : decode cX11_read 93 = .ok (.bipush (-3), 2) := by decide +kernel
theorem dX11_read_95 : decode cX11_read 95 = .ok (.if_icmp .ne 8, 3) := by decide +kernel
theorem dX11_read_98 : decode cX11_read 98 = .ok (.bipush 12, 2) := by decide +kernel
theorem dX11_read_100 : decode cX11_read 100 = .ok (.goto 5, 3) := by decide +kernel
theorem dX11_read_103 : decode cX11_read 103 = .ok (.bipush 13, 2) := by decide +kernel
theorem dX11_read_105 : decode cX11_read 105 = .ok (.putfield 41, 3) := by decide +kernel
theorem dX11_read_108 : decode cX11_read 108 = .ok (.aload_n 0, 1) := by decide +kernel
theorem dX11_read_109 : decode cX11_read 109 = .ok (.iload_n 2, 1) := by decide +kernel
theorem dX11_read_110 : decode cX11_read 110 = .ok (.iconst 1, 1) := by decide +kernel
theorem dX11_read_111 : decode cX11_read 111 = .ok (.isub, 1) := by decide +kernel
theorem dX11_read_112 : decode cX11_read 112 = .ok (.putfield 44, 3) := by decide +kernel
theorem dX11_read_115 : decode cX11_read 115 = .ok (.aload_n 0, 1) := by decide +kernel
theorem dX11_read_116 : decode cX11_read 116 = .ok (.bipush (-3), 2) := by decide +kernel
theorem dX11_read_118 : decode cX11_read 118 = .ok (.invokevirtual 102, 3) := by decide +kernel
theorem dX11_read_121 : decode cX11_read 121 = .ok (.ireturn, 1) := by decide +kernel
theorem dX11_read_122 : decode cX11_read 122 = .ok (.aload_n 0, 1) := by decide +kernel
theorem dX11_read_123 : decode cX11_read 123 = .ok (.aload_n 0, 1) := by decide +kernel
theorem dX11_read_124 : decode cX11_read 124 = .ok (.getfield 215, 3) := by decide +kernel
theorem dX11_read_127 : decode cX11_read 127 = .ok (.invokevirtual 102, 3) := by decide +kernel
theorem dX11_read_130 : decode cX11_read 130 = .ok (.ireturn, 1) := by decide +kernel
theorem dX11_fault_0 : decode cX11_fault 0 = .ok (.aload_n 0, 1) := by decide +kernel
theorem dX11_fault_1 : decode cX11_fault 1 = .ok (.getfield 27, 3) := by decide +kernel
theorem dX11_fault_4 : decode cX11_fault 4 = .ok (.ireturn, 1) := by decide +kernel
theorem dX11_isWell_0 : decode cX11_isWell 0 = .ok (.iconst 1, 1) := by decide +kernel
theorem dX11_isWell_1 : decode cX11_isWell 1 = .ok (.ireturn, 1) := by decide +kernel
set_option maxRecDepth 20000 in
theorem ggX11_weightsOf_X11_t : GoodIn wsX11_weightsOf wsX11_t := goodIn_r _ [6, 1, 7, 8, 9, 10, 11, 12, 13, 14, 15, 16, 17, 18, 19, 20, 21, 22, 23, 24, 25] (by decide +kernel) (by decide +kernel)
set_option maxRecDepth 20000 in
theorem gX11_weightsOf_X11_t : GoodIn wsX11_weightsOf (wsV RX11 57 RX11 yX11_t wsX11_t) := goodIn_app (goodIn_of _ (by decide +kernel)) ggX11_weightsOf_X11_t
theorem dX11_weightsOf_0 : decode cX11_weightsOf 0 = .ok (.iconst 0, 1) := by decide +kernel
theorem dX11_weightsOf_1 : decode cX11_weightsOf 1 = .ok (.istore_n 2, 1) := by decide +kernel
theorem dX11_weightsOf_2 : decode cX11_weightsOf 2 = .ok (.iconst 0, 1) := by decide +kernel
theorem dX11_weightsOf_3 : decode cX11_weightsOf 3 = .ok (.istore_n 3, 1) := by decide +kernel
theorem dX11_weightsOf_4 : decode cX11_weightsOf 4 = .ok (.iload_n 3, 1) := by decide +kernel
theorem dX11_weightsOf_5 : decode cX11_weightsOf 5 = .ok (.aload_n 0, 1) := by decide +kernel
theorem dX11_weightsOf_6 : decode cX11_weightsOf 6 = .ok (.getfield 9, 3) := by decide +kernel
theorem dX11_weightsOf_9 : decode cX11_weightsOf 9 = .ok (.iconst 0, 1) := by decide +kernel
theorem dX11_weightsOf_10 : decode cX11_weightsOf 10 = .ok (.iaload, 1) := by decide +kernel
theorem dX11_weightsOf_11 : decode cX11_weightsOf 11 = .ok (.if_icmp .ge 37, 3) := by decide +kernel
theorem dX11_weightsOf_14 : decode cX11_weightsOf 14 = .ok (.iload_n 2, 1) := by decide +kernel
theorem dX11_weightsOf_15 : decode cX11_weightsOf 15 = .ok (.iload_n 1, 1) := by decide +kernel
theorem dX11_weightsOf_16 : decode cX11_weightsOf 16 = .ok (.iconst 2, 1) := by decide +kernel
theorem dX11_weightsOf_17 : decode cX11_weightsOf 17 = .ok (.if_icmp .eq 13, 3) := by decide +kernel
theorem dX11_weightsOf_20 : decode cX11_weightsOf 20 = .ok (.aload_n 0, 1) := by decide +kernel
theorem dX11_weightsOf_21 : decode cX11_weightsOf 21 = .ok (.iload_n 3, 1) := by decide +kernel
theorem dX11_weightsOf_22 : decode cX11_weightsOf 22 = .ok (.iconst 0, 1) := by decide +kernel
theorem dX11_weightsOf_23 : decode cX11_weightsOf 23 = .ok (.invokevirtual 57, 3) := by decide +kernel
theorem dX11_weightsOf_26 : decode cX11_weightsOf 26 = .ok (.iload_n 1, 1) := by decide +kernel
theorem dX11_weightsOf_27 : decode cX11_weightsOf 27 = .ok (.if_icmp .ne 12, 3) := by decide +kernel
theorem dX11_weightsOf_30 : decode cX11_weightsOf 30 = .ok (.aload_n 0, 1) := by decide +kernel
theorem dX11_weightsOf_31 : decode cX11_weightsOf 31 = .ok (.iload_n 3, 1) := by decide +kernel
theorem dX11_weightsOf_32 : decode cX11_weightsOf 32 = .ok (.iconst 1, 1) := by decide +kernel
theorem dX11_weightsOf_33 : decode cX11_weightsOf 33 = .ok (.invokevirtual 57, 3) := by decide +kernel
theorem dX11_weightsOf_36 : decode cX11_weightsOf 36 = .ok (.goto 4, 3) := by decide +kernel
theorem dX11_weightsOf_39 : decode cX11_weightsOf 39 = .ok (.iconst 0, 1) := by decide +kernel
theorem dX11_weightsOf_40 : decode cX11_weightsOf 40 = .ok (.iadd, 1) := by decide +kernel
theorem dX11_weightsOf_41 : decode cX11_weightsOf 41 = .ok (.istore_n 2, 1) := by decide +kernel
theorem dX11_weightsOf_42 : decode cX11_weightsOf 42 = .ok (.iinc 3 1, 3) := by decide +kernel
theorem dX11_weightsOf_45 : decode cX11_weightsOf 45 = .ok (.goto (-41), 3) := by decide +kernel
theorem dX11_weightsOf_48 : decode cX11_weightsOf 48 = .ok (.iload_n 2, 1) := by decide +kernel
theorem dX11_weightsOf_49 : decode cX11_weightsOf 49 = .ok (.ireturn, 1) := by decide +kernel
set_option maxRecDepth 20000 in
theorem ggX11_things_X11_t : GoodIn wsX11_things wsX11_t := goodIn_r _ [6, 1, 7, 8, 9, 10, 11, 12, 13, 14, 15, 16, 17, 18, 19, 20, 21, 22, 23, 24, 25] (by decide +kernel) (by decide +kernel)
set_option maxRecDepth 20000 in
theorem gX11_things_X11_t : GoodIn wsX11_things (wsV RX11 57 RX11 yX11_t wsX11_t) := goodIn_app (goodIn_of _ (by decide +kernel)) ggX11_things_X11_t
theorem dX11_things_0 : decode cX11_things 0 = .ok (.iconst 0, 1) := by decide +kernel
theorem dX11_things_1 : decode cX11_things 1 = .ok (.istore_n 2, 1) := by decide +kernel
theorem dX11_things_2 : decode cX11_things 2 = .ok (.iconst 0, 1) := by decide +kernel
theorem dX11_things_3 : decode cX11_things 3 = .ok (.istore_n 3, 1) := by decide +kernel
theorem dX11_things_4 : decode cX11_things 4 = .ok (.iload_n 3, 1) := by decide +kernel
theorem dX11_things_5 : decode cX11_things 5 = .ok (.aload_n 0, 1) := by decide +kernel
theorem dX11_things_6 : decode cX11_things 6 = .ok (.getfield 9, 3) := by decide +kernel
theorem dX11_things_9 : decode cX11_things 9 = .ok (.iconst 0, 1) := by decide +kernel
theorem dX11_things_10 : decode cX11_things 10 = .ok (.iaload, 1) := by decide +kernel
theorem dX11_things_11 : decode cX11_things 11 = .ok (.if_icmp .ge 49, 3) := by decide +kernel
theorem dX11_things_14 : decode cX11_things 14 = .ok (.iload_n 2, 1) := by decide +kernel
theorem dX11_things_15 : decode cX11_things 15 = .ok (.iload_n 1, 1) := by decide +kernel
theorem dX11_things_16 : decode cX11_things 16 = .ok (.iconst 2, 1) := by decide +kernel
theorem dX11_things_17 : decode cX11_things 17 = .ok (.if_icmp .ne 20, 3) := by decide +kernel
theorem dX11_things_20 : decode cX11_things 20 = .ok (.aload_n 0, 1) := by decide +kernel
theorem dX11_things_21 : decode cX11_things 21 = .ok (.iload_n 3, 1) := by decide +kernel
theorem dX11_things_22 : decode cX11_things 22 = .ok (.iconst 2, 1) := by decide +kernel
theorem dX11_things_23 : decode cX11_things 23 = .ok (.invokevirtual 57, 3) := by decide +kernel
theorem dX11_things_26 : decode cX11_things 26 = .ok (.ifCond .le 7, 3) := by decide +kernel
theorem dX11_things_29 : decode cX11_things 29 = .ok (.iconst 1, 1) := by decide +kernel
theorem dX11_things_30 : decode cX11_things 30 = .ok (.goto 22, 3) := by decide +kernel
theorem dX11_things_33 : decode cX11_things 33 = .ok (.iconst 0, 1) := by decide +kernel
theorem dX11_things_34 : decode cX11_things 34 = .ok (.goto 18, 3) := by decide +kernel
theorem dX11_things_37 : decode cX11_things 37 = .ok (.aload_n 0, 1) := by decide +kernel
theorem dX11_things_38 : decode cX11_things 38 = .ok (.iload_n 3, 1) := by decide +kernel
theorem dX11_things_39 : decode cX11_things 39 = .ok (.iconst 0, 1) := by decide +kernel
theorem dX11_things_40 : decode cX11_things 40 = .ok (.invokevirtual 57, 3) := by decide +kernel
theorem dX11_things_43 : decode cX11_things 43 = .ok (.iload_n 1, 1) := by decide +kernel
theorem dX11_things_44 : decode cX11_things 44 = .ok (.if_icmp .ne 7, 3) := by decide +kernel
theorem dX11_things_47 : decode cX11_things 47 = .ok (.iconst 1, 1) := by decide +kernel
theorem dX11_things_48 : decode cX11_things 48 = .ok (.goto 4, 3) := by decide +kernel
theorem dX11_things_51 : decode cX11_things 51 = .ok (.iconst 0, 1) := by decide +kernel
theorem dX11_things_52 : decode cX11_things 52 = .ok (.iadd, 1) := by decide +kernel
theorem dX11_things_53 : decode cX11_things 53 = .ok (.istore_n 2, 1) := by decide +kernel
theorem dX11_things_54 : decode cX11_things 54 = .ok (.iinc 3 1, 3) := by decide +kernel
theorem dX11_things_57 : decode cX11_things 57 = .ok (.goto (-53), 3) := by decide +kernel
theorem dX11_things_60 : decode cX11_things 60 = .ok (.iload_n 2, 1) := by decide +kernel
theorem dX11_things_61 : decode cX11_things 61 = .ok (.ireturn, 1) := by decide +kernel
set_option maxRecDepth 20000 in
theorem ggX11_ofCarts_X11_weightOf : GoodIn wsX11_ofCarts wsX11_weightOf := goodIn_r _ [6, 7, 8, 9, 5, 10, 1, 11, 12, 13, 14, 15, 16, 17, 18, 49, 50, 51, 52, 53, 54, 55, 56, 57, 58, 59, 60, 61, 62, 63, 64, 65, 66, 67] (by decide +kernel) (by decide +kernel)
set_option maxRecDepth 20000 in
theorem gX11_ofCarts_X11_weightOf : GoodIn wsX11_ofCarts (wsV RX11 122 RX11 yX11_weightOf wsX11_weightOf) := goodIn_app (goodIn_of _ (by decide +kernel)) ggX11_ofCarts_X11_weightOf
set_option maxRecDepth 20000 in
theorem ggX11_ofCarts_X11_creaking : GoodIn wsX11_ofCarts wsX11_creaking := goodIn_r _ [22, 23, 24, 25, 5, 26, 27, 28, 29, 30, 31, 32, 33, 34, 35, 1, 15, 16, 17, 18, 11, 12, 13, 14, 36, 37, 38, 39, 49, 50, 51, 52, 53, 54, 55, 56, 57, 58, 59, 60, 61, 62, 63, 64, 65, 66, 67] (by decide +kernel) (by decide +kernel)
set_option maxRecDepth 20000 in
theorem gX11_ofCarts_X11_creaking : GoodIn wsX11_ofCarts (wsV RX11 156 RX11 yX11_creaking wsX11_creaking) := goodIn_app (goodIn_of _ (by decide +kernel)) ggX11_ofCarts_X11_creaking
set_option maxRecDepth 20000 in
theorem ggX11_ofCarts_X11_isWorn : GoodIn wsX11_ofCarts wsX11_isWorn := goodIn_r _ [43, 44, 45, 46, 5, 47, 48, 49, 50, 51, 52, 53, 54, 55, 56, 57, 58, 59, 60, 61, 62, 63, 64, 65, 66, 67] (by decide +kernel) (by decide +kernel)
set_option maxRecDepth 20000 in
theorem gX11_ofCarts_X11_isWorn : GoodIn wsX11_ofCarts (wsV RX11 145 RX11 yX11_isWorn wsX11_isWorn) := goodIn_app (goodIn_of _ (by decide +kernel)) ggX11_ofCarts_X11_isWorn
theorem dX11_ofCarts_0 : decode cX11_ofCarts 0 = .ok (.iconst 0, 1) := by decide +kernel
theorem dX11_ofCarts_1 : decode cX11_ofCarts 1 = .ok (.istore_n 2, 1) := by decide +kernel
theorem dX11_ofCarts_2 : decode cX11_ofCarts 2 = .ok (.iconst 0, 1) := by decide +kernel
theorem dX11_ofCarts_3 : decode cX11_ofCarts 3 = .ok (.istore_n 3, 1) := by decide +kernel
theorem dX11_ofCarts_4 : decode cX11_ofCarts 4 = .ok (.iload_n 3, 1) := by decide +kernel
theorem dX11_ofCarts_5 : decode cX11_ofCarts 5 = .ok (.aload_n 0, 1) := by decide +kernel
theorem dX11_ofCarts_6 : decode cX11_ofCarts 6 = .ok (.getfield 9, 3) := by decide +kernel
theorem dX11_ofCarts_9 : decode cX11_ofCarts 9 = .ok (.iconst 1, 1) := by decide +kernel
theorem dX11_ofCarts_10 : decode cX11_ofCarts 10 = .ok (.iaload, 1) := by decide +kernel
theorem dX11_ofCarts_11 : decode cX11_ofCarts 11 = .ok (.if_icmp .ge 66, 3) := by decide +kernel
theorem dX11_ofCarts_14 : decode cX11_ofCarts 14 = .ok (.iload_n 2, 1) := by decide +kernel
theorem dX11_ofCarts_15 : decode cX11_ofCarts 15 = .ok (.iload_n 1, 1) := by decide +kernel
theorem dX11_ofCarts_16 : decode cX11_ofCarts 16 = .ok (.ifCond .ne 11, 3) := by decide +kernel
theorem dX11_ofCarts_19 : decode cX11_ofCarts 19 = .ok (.aload_n 0, 1) := by decide +kernel
theorem dX11_ofCarts_20 : decode cX11_ofCarts 20 = .ok (.iload_n 3, 1) := by decide +kernel
theorem dX11_ofCarts_21 : decode cX11_ofCarts 21 = .ok (.invokevirtual 122, 3) := by decide +kernel
theorem dX11_ofCarts_24 : decode cX11_ofCarts 24 = .ok (.goto 45, 3) := by decide +kernel
theorem dX11_ofCarts_27 : decode cX11_ofCarts 27 = .ok (.iload_n 1, 1) := by decide +kernel
theorem dX11_ofCarts_28 : decode cX11_ofCarts 28 = .ok (.iconst 1, 1) := by decide +kernel
theorem dX11_ofCarts_29 : decode cX11_ofCarts 29 = .ok (.if_icmp .ne 11, 3) := by decide +kernel
theorem dX11_ofCarts_32 : decode cX11_ofCarts 32 = .ok (.aload_n 0, 1) := by decide +kernel
theorem dX11_ofCarts_33 : decode cX11_ofCarts 33 = .ok (.iload_n 3, 1) := by decide +kernel
theorem dX11_ofCarts_34 : decode cX11_ofCarts 34 = .ok (.invokevirtual 156, 3) := by decide +kernel
theorem dX11_ofCarts_37 : decode cX11_ofCarts 37 = .ok (.goto 32, 3) := by decide +kernel
theorem dX11_ofCarts_40 : decode cX11_ofCarts 40 = .ok (.aload_n 0, 1) := by decide +kernel
theorem dX11_ofCarts_41 : decode cX11_ofCarts 41 = .ok (.iload_n 3, 1) := by decide +kernel
theorem dX11_ofCarts_42 : decode cX11_ofCarts 42 = .ok (.iconst 0, 1) := by decide +kernel
theorem dX11_ofCarts_43 : decode cX11_ofCarts 43 = .ok (.invokevirtual 145, 3) := by decide +kernel
theorem dX11_ofCarts_46 : decode cX11_ofCarts 46 = .ok (.ifCond .eq 7, 3) := by decide +kernel
theorem dX11_ofCarts_49 : decode cX11_ofCarts 49 = .ok (.iconst 1, 1) := by decide +kernel
theorem dX11_ofCarts_50 : decode cX11_ofCarts 50 = .ok (.goto 4, 3) := by decide +kernel
theorem dX11_ofCarts_53 : decode cX11_ofCarts 53 = .ok (.iconst 0, 1) := by decide +kernel
theorem dX11_ofCarts_54 : decode cX11_ofCarts 54 = .ok (.aload_n 0, 1) := by decide +kernel
theorem dX11_ofCarts_55 : decode cX11_ofCarts 55 = .ok (.iload_n 3, 1) := by decide +kernel
theorem dX11_ofCarts_56 : decode cX11_ofCarts 56 = .ok (.iconst 1, 1) := by decide +kernel
theorem dX11_ofCarts_57 : decode cX11_ofCarts 57 = .ok (.invokevirtual 145, 3) := by decide +kernel
theorem dX11_ofCarts_60 : decode cX11_ofCarts 60 = .ok (.ifCond .eq 7, 3) := by decide +kernel
theorem dX11_ofCarts_63 : decode cX11_ofCarts 63 = .ok (.iconst 1, 1) := by decide +kernel
theorem dX11_ofCarts_64 : decode cX11_ofCarts 64 = .ok (.goto 4, 3) := by decide +kernel
theorem dX11_ofCarts_67 : decode cX11_ofCarts 67 = .ok (.iconst 0, 1) := by decide +kernel
theorem dX11_ofCarts_68 : decode cX11_ofCarts 68 = .ok (.iadd, 1) := by decide +kernel
theorem dX11_ofCarts_69 : decode cX11_ofCarts 69 = .ok (.iadd, 1) := by decide +kernel
theorem dX11_ofCarts_70 : decode cX11_ofCarts 70 = .ok (.istore_n 2, 1) := by decide +kernel
theorem dX11_ofCarts_71 : decode cX11_ofCarts 71 = .ok (.iinc 3 1, 3) := by decide +kernel
theorem dX11_ofCarts_74 : decode cX11_ofCarts 74 = .ok (.goto (-70), 3) := by decide +kernel
theorem dX11_ofCarts_77 : decode cX11_ofCarts 77 = .ok (.iload_n 2, 1) := by decide +kernel
theorem dX11_ofCarts_78 : decode cX11_ofCarts 78 = .ok (.ireturn, 1) := by decide +kernel
set_option maxRecDepth 20000 in
theorem ggX11_meanWeight_X11_weightsOf : GoodIn wsX11_meanWeight wsX11_weightsOf := goodIn_r _ [6, 1, 7, 8, 9, 5, 10, 11, 12, 13, 14, 15, 16, 17, 18, 19, 20, 21, 22, 23, 24, 25, 26, 27, 28, 29] (by decide +kernel) (by decide +kernel)
set_option maxRecDepth 20000 in
theorem gX11_meanWeight_X11_weightsOf : GoodIn wsX11_meanWeight (wsV RX11 233 RX11 yX11_weightsOf wsX11_weightsOf) := goodIn_app (goodIn_of _ (by decide +kernel)) ggX11_meanWeight_X11_weightsOf
theorem dX11_meanWeight_0 : decode cX11_meanWeight 0 = .ok (.aload_n 0, 1) := by decide +kernel
theorem dX11_meanWeight_1 : decode cX11_meanWeight 1 = .ok (.getfield 9, 3) := by decide +kernel
theorem dX11_meanWeight_4 : decode cX11_meanWeight 4 = .ok (.iconst 0, 1) := by decide +kernel
theorem dX11_meanWeight_5 : decode cX11_meanWeight 5 = .ok (.iaload, 1) := by decide +kernel
theorem dX11_meanWeight_6 : decode cX11_meanWeight 6 = .ok (.ifCond .ne 7, 3) := by decide +kernel
theorem dX11_meanWeight_9 : decode cX11_meanWeight 9 = .ok (.dconst 0, 1) := by decide +kernel
theorem dX11_meanWeight_10 : decode cX11_meanWeight 10 = .ok (.goto 17, 3) := by decide +kernel
theorem dX11_meanWeight_13 : decode cX11_meanWeight 13 = .ok (.aload_n 0, 1) := by decide +kernel
theorem dX11_meanWeight_14 : decode cX11_meanWeight 14 = .ok (.iconst 2, 1) := by decide +kernel
theorem dX11_meanWeight_15 : decode cX11_meanWeight 15 = .ok (.invokevirtual 233, 3) := by decide +kernel
theorem dX11_meanWeight_18 : decode cX11_meanWeight 18 = .ok (.i2d, 1) := by decide +kernel
theorem dX11_meanWeight_19 : decode cX11_meanWeight 19 = .ok (.aload_n 0, 1) := by decide +kernel
theorem dX11_meanWeight_20 : decode cX11_meanWeight 20 = .ok (.getfield 9, 3) := by decide +kernel
theorem dX11_meanWeight_23 : decode cX11_meanWeight 23 = .ok (.iconst 0, 1) := by decide +kernel
theorem dX11_meanWeight_24 : decode cX11_meanWeight 24 = .ok (.iaload, 1) := by decide +kernel
theorem dX11_meanWeight_25 : decode cX11_meanWeight 25 = .ok (.i2d, 1) := by decide +kernel
theorem dX11_meanWeight_26 : decode cX11_meanWeight 26 = .ok (.ddiv, 1) := by decide +kernel
theorem dX11_meanWeight_27 : decode cX11_meanWeight 27 = .ok (.dreturn, 1) := by decide +kernel
set_option maxRecDepth 20000 in
theorem ggX11_creakShare_X11_ofCarts : GoodIn wsX11_creakShare wsX11_ofCarts := goodIn_r _ [6, 1, 7, 8, 9, 5, 10, 11, 12, 13, 14, 15, 16, 17, 18, 19, 20, 21, 22, 23, 24, 25, 26, 27, 28, 29, 30, 31, 32, 33, 34, 35, 36, 37, 38, 39, 40, 41, 42, 43, 44, 45, 46, 47, 48, 49, 50, 51, 52, 53, 54, 55, 56, 57, 58, 59, 60, 61, 62, 63, 64, 65, 66, 67, 68, 69, 70, 71] (by decide +kernel) (by decide +kernel)
set_option maxRecDepth 20000 in
theorem gX11_creakShare_X11_ofCarts : GoodIn wsX11_creakShare (wsV RX11 236 RX11 yX11_ofCarts wsX11_ofCarts) := goodIn_app (goodIn_of _ (by decide +kernel)) ggX11_creakShare_X11_ofCarts
theorem dX11_creakShare_0 : decode cX11_creakShare 0 = .ok (.aload_n 0, 1) := by decide +kernel
theorem dX11_creakShare_1 : decode cX11_creakShare 1 = .ok (.getfield 9, 3) := by decide +kernel
theorem dX11_creakShare_4 : decode cX11_creakShare 4 = .ok (.iconst 1, 1) := by decide +kernel
theorem dX11_creakShare_5 : decode cX11_creakShare 5 = .ok (.iaload, 1) := by decide +kernel
theorem dX11_creakShare_6 : decode cX11_creakShare 6 = .ok (.ifCond .ne 7, 3) := by decide +kernel
theorem dX11_creakShare_9 : decode cX11_creakShare 9 = .ok (.fconst 0, 1) := by decide +kernel
theorem dX11_creakShare_10 : decode cX11_creakShare 10 = .ok (.goto 19, 3) := by decide +kernel
theorem dX11_creakShare_13 : decode cX11_creakShare 13 = .ok (.aload_n 0, 1) := by decide +kernel
theorem dX11_creakShare_14 : decode cX11_creakShare 14 = .ok (.iconst 1, 1) := by decide +kernel
theorem dX11_creakShare_15 : decode cX11_creakShare 15 = .ok (.invokevirtual 236, 3) := by decide +kernel
theorem dX11_creakShare_18 : decode cX11_creakShare 18 = .ok (.i2f, 1) := by decide +kernel
theorem dX11_creakShare_19 : decode cX11_creakShare 19 = .ok (.iconst 2, 1) := by decide +kernel
theorem dX11_creakShare_20 : decode cX11_creakShare 20 = .ok (.aload_n 0, 1) := by decide +kernel
theorem dX11_creakShare_21 : decode cX11_creakShare 21 = .ok (.getfield 9, 3) := by decide +kernel
theorem dX11_creakShare_24 : decode cX11_creakShare 24 = .ok (.iconst 1, 1) := by decide +kernel
theorem dX11_creakShare_25 : decode cX11_creakShare 25 = .ok (.iaload, 1) := by decide +kernel
theorem dX11_creakShare_26 : decode cX11_creakShare 26 = .ok (.imul, 1) := by decide +kernel
theorem dX11_creakShare_27 : decode cX11_creakShare 27 = .ok (.i2f, 1) := by decide +kernel
theorem dX11_creakShare_28 : decode cX11_creakShare 28 = .ok (.fdiv, 1) := by decide +kernel
theorem dX11_creakShare_29 : decode cX11_creakShare 29 = .ok (.freturn, 1) := by decide +kernel
set_option maxRecDepth 20000 in
theorem ggX11_account_X11_things : GoodIn wsX11_account wsX11_things := goodIn_r _ [8, 1, 9, 10, 11, 7, 12, 59, 60, 61, 62, 63, 64, 65, 66, 67, 68, 69, 70, 71, 72, 73, 74, 75, 76, 77] (by decide +kernel) (by decide +kernel)
set_option maxRecDepth 20000 in
theorem gX11_account_X11_things : GoodIn wsX11_account (wsV RX11 239 RX11 yX11_things wsX11_things) := goodIn_app (goodIn_of _ (by decide +kernel)) ggX11_account_X11_things
set_option maxRecDepth 20000 in
theorem ggX11_account_X11_ofCarts : GoodIn wsX11_account wsX11_ofCarts := goodIn_r _ [16, 1, 17, 18, 19, 7, 20, 21, 22, 23, 24, 25, 26, 27, 28, 9, 10, 11, 12, 29, 30, 31, 32, 33, 34, 35, 36, 37, 38, 39, 40, 41, 42, 43, 44, 45, 46, 47, 48, 49, 50, 51, 52, 53, 54, 55, 56, 57, 58, 59, 60, 61, 62, 63, 64, 65, 66, 67, 68, 69, 70, 71, 72, 73, 74, 75, 76, 77] (by decide +kernel) (by decide +kernel)
set_option maxRecDepth 20000 in
theorem gX11_account_X11_ofCarts : GoodIn wsX11_account (wsV RX11 236 RX11 yX11_ofCarts wsX11_ofCarts) := goodIn_app (goodIn_of _ (by decide +kernel)) ggX11_account_X11_ofCarts
theorem dX11_account_0 : decode cX11_account 0 = .ok (.iload_n 1, 1) := by decide +kernel
theorem dX11_account_1 : decode cX11_account 1 = .ok (.tableswitch 148 0 12 #[67, 74, 80, 86, 92, 99, 106, 112, 118, 124, 131, 138, 143], 67) := by decide +kernel
theorem dX11_account_68 : decode cX11_account 68 = .ok (.aload_n 0, 1) := by decide +kernel
theorem dX11_account_69 : decode cX11_account 69 = .ok (.getfield 9, 3) := by decide +kernel
theorem dX11_account_72 : decode cX11_account 72 = .ok (.iconst 0, 1) := by decide +kernel
theorem dX11_account_73 : decode cX11_account 73 = .ok (.iaload, 1) := by decide +kernel
theorem dX11_account_74 : decode cX11_account 74 = .ok (.ireturn, 1) := by decide +kernel
theorem dX11_account_75 : decode cX11_account 75 = .ok (.aload_n 0, 1) := by decide +kernel
theorem dX11_account_76 : decode cX11_account 76 = .ok (.iconst 0, 1) := by decide +kernel
theorem dX11_account_77 : decode cX11_account 77 = .ok (.invokevirtual 239, 3) := by decide +kernel
theorem dX11_account_80 : decode cX11_account 80 = .ok (.ireturn, 1) := by decide +kernel
theorem dX11_account_81 : decode cX11_account 81 = .ok (.aload_n 0, 1) := by decide +kernel
theorem dX11_account_82 : decode cX11_account 82 = .ok (.iconst 1, 1) := by decide +kernel
theorem dX11_account_83 : decode cX11_account 83 = .ok (.invokevirtual 239, 3) := by decide +kernel
theorem dX11_account_86 : decode cX11_account 86 = .ok (.ireturn, 1) := by decide +kernel
theorem dX11_account_87 : decode cX11_account 87 = .ok (.aload_n 0, 1) := by decide +kernel
theorem dX11_account_88 : decode cX11_account 88 = .ok (.iconst 2, 1) := by decide +kernel
theorem dX11_account_89 : decode cX11_account 89 = .ok (.invokevirtual 239, 3) := by decide +kernel
theorem dX11_account_92 : decode cX11_account 92 = .ok (.ireturn, 1) := by decide +kernel
theorem dX11_account_93 : decode cX11_account 93 = .ok (.aload_n 0, 1) := by decide +kernel
theorem dX11_account_94 : decode cX11_account 94 = .ok (.getfield 9, 3) := by decide +kernel
theorem dX11_account_97 : decode cX11_account 97 = .ok (.iconst 1, 1) := by decide +kernel
theorem dX11_account_98 : decode cX11_account 98 = .ok (.iaload, 1) := by decide +kernel
theorem dX11_account_99 : decode cX11_account 99 = .ok (.ireturn, 1) := by decide +kernel
theorem dX11_account_100 : decode cX11_account 100 = .ok (.aload_n 0, 1) := by decide +kernel
theorem dX11_account_101 : decode cX11_account 101 = .ok (.getfield 9, 3) := by decide +kernel
theorem dX11_account_104 : decode cX11_account 104 = .ok (.iconst 2, 1) := by decide +kernel
theorem dX11_account_105 : decode cX11_account 105 = .ok (.iaload, 1) := by decide +kernel
theorem dX11_account_106 : decode cX11_account 106 = .ok (.ireturn, 1) := by decide +kernel
theorem dX11_account_107 : decode cX11_account 107 = .ok (.aload_n 0, 1) := by decide +kernel
theorem dX11_account_108 : decode cX11_account 108 = .ok (.iconst 0, 1) := by decide +kernel
theorem dX11_account_109 : decode cX11_account 109 = .ok (.invokevirtual 236, 3) := by decide +kernel
theorem dX11_account_112 : decode cX11_account 112 = .ok (.ireturn, 1) := by decide +kernel
theorem dX11_account_113 : decode cX11_account 113 = .ok (.aload_n 0, 1) := by decide +kernel
theorem dX11_account_114 : decode cX11_account 114 = .ok (.iconst 1, 1) := by decide +kernel
theorem dX11_account_115 : decode cX11_account 115 = .ok (.invokevirtual 236, 3) := by decide +kernel
theorem dX11_account_118 : decode cX11_account 118 = .ok (.ireturn, 1) := by decide +kernel
theorem dX11_account_119 : decode cX11_account 119 = .ok (.aload_n 0, 1) := by decide +kernel
theorem dX11_account_120 : decode cX11_account 120 = .ok (.iconst 2, 1) := by decide +kernel
theorem dX11_account_121 : decode cX11_account 121 = .ok (.invokevirtual 236, 3) := by decide +kernel
theorem dX11_account_124 : decode cX11_account 124 = .ok (.ireturn, 1) := by decide +kernel
theorem dX11_account_125 : decode cX11_account 125 = .ok (.aload_n 0, 1) := by decide +kernel
theorem dX11_account_126 : decode cX11_account 126 = .ok (.getfield 9, 3) := by decide +kernel
theorem dX11_account_129 : decode cX11_account 129 = .ok (.iconst 3, 1) := by decide +kernel
theorem dX11_account_130 : decode cX11_account 130 = .ok (.iaload, 1) := by decide +kernel
theorem dX11_account_131 : decode cX11_account 131 = .ok (.ireturn, 1) := by decide +kernel
theorem dX11_account_132 : decode cX11_account 132 = .ok (.aload_n 0, 1) := by decide +kernel
theorem dX11_account_133 : decode cX11_account 133 = .ok (.getfield 9, 3) := by decide +kernel
theorem dX11_account_136 : decode cX11_account 136 = .ok (.iconst 4, 1) := by decide +kernel
theorem dX11_account_137 : decode cX11_account 137 = .ok (.iaload, 1) := by decide +kernel
theorem dX11_account_138 : decode cX11_account 138 = .ok (.ireturn, 1) := by decide +kernel
theorem dX11_account_139 : decode cX11_account 139 = .ok (.aload_n 0, 1) := by decide +kernel
theorem dX11_account_140 : decode cX11_account 140 = .ok (.getfield 192, 3) := by decide +kernel
theorem dX11_account_143 : decode cX11_account 143 = .ok (.ireturn, 1) := by decide +kernel
theorem dX11_account_144 : decode cX11_account 144 = .ok (.aload_n 0, 1) := by decide +kernel
theorem dX11_account_145 : decode cX11_account 145 = .ok (.getfield 38, 3) := by decide +kernel
theorem dX11_account_148 : decode cX11_account 148 = .ok (.ireturn, 1) := by decide +kernel
theorem dX11_account_149 : decode cX11_account 149 = .ok (.bipush (-2), 2) := by decide +kernel
theorem dX11_account_151 : decode cX11_account 151 = .ok (.ireturn, 1) := by decide +kernel
set_option maxRecDepth 20000 in
theorem ggX11_undo_X11_copies : GoodIn wsX11_undo wsX11_copies := goodIn_r _ [6, 7, 8, 9, 10, 11, 12, 13, 14, 15, 16, 17, 18, 19, 20, 21, 22, 23, 24, 25, 26, 27] (by decide +kernel) (by decide +kernel)
set_option maxRecDepth 20000 in
theorem gX11_undo_X11_copies : GoodIn wsX11_undo (wsV RX11 34 RX11 yX11_copies wsX11_copies) := goodIn_app (goodIn_of _ (by decide +kernel)) ggX11_undo_X11_copies
theorem dX11_undo_0 : decode cX11_undo 0 = .ok (.aload_n 0, 1) := by decide +kernel
theorem dX11_undo_1 : decode cX11_undo 1 = .ok (.getfield 38, 3) := by decide +kernel
theorem dX11_undo_4 : decode cX11_undo 4 = .ok (.ifCond .ne 6, 3) := by decide +kernel
theorem dX11_undo_7 : decode cX11_undo 7 = .ok (.bipush (-4), 2) := by decide +kernel
theorem dX11_undo_9 : decode cX11_undo 9 = .ok (.ireturn, 1) := by decide +kernel
theorem dX11_undo_10 : decode cX11_undo 10 = .ok (.aload_n 0, 1) := by decide +kernel
theorem dX11_undo_11 : decode cX11_undo 11 = .ok (.aload_n 0, 1) := by decide +kernel
theorem dX11_undo_12 : decode cX11_undo 12 = .ok (.getfield 38, 3) := by decide +kernel
theorem dX11_undo_15 : decode cX11_undo 15 = .ok (.iconst 0, 1) := by decide +kernel
theorem dX11_undo_16 : decode cX11_undo 16 = .ok (.invokevirtual 34, 3) := by decide +kernel
theorem dX11_undo_19 : decode cX11_undo 19 = .ok (.aload_n 0, 1) := by decide +kernel
theorem dX11_undo_20 : decode cX11_undo 20 = .ok (.dup, 1) := by decide +kernel
theorem dX11_undo_21 : decode cX11_undo 21 = .ok (.getfield 38, 3) := by decide +kernel
theorem dX11_undo_24 : decode cX11_undo 24 = .ok (.iconst 1, 1) := by decide +kernel
theorem dX11_undo_25 : decode cX11_undo 25 = .ok (.isub, 1) := by decide +kernel
theorem dX11_undo_26 : decode cX11_undo 26 = .ok (.putfield 38, 3) := by decide +kernel
theorem dX11_undo_29 : decode cX11_undo 29 = .ok (.aload_n 0, 1) := by decide +kernel
theorem dX11_undo_30 : decode cX11_undo 30 = .ok (.getfield 38, 3) := by decide +kernel
theorem dX11_undo_33 : decode cX11_undo 33 = .ok (.ireturn, 1) := by decide +kernel
set_option maxRecDepth 20000 in
theorem ggX11_save_X11_copies : GoodIn wsX11_save wsX11_copies := goodIn_r _ [7, 2, 8, 9, 10, 11, 12, 13, 14, 15, 16, 17, 18, 19, 20, 21, 22, 23, 24, 25, 26, 27] (by decide +kernel) (by decide +kernel)
set_option maxRecDepth 20000 in
theorem gX11_save_X11_copies : GoodIn wsX11_save (wsV RX11 34 RX11 yX11_copies wsX11_copies) := goodIn_app (goodIn_of _ (by decide +kernel)) ggX11_save_X11_copies
theorem dX11_save_0 : decode cX11_save 0 = .ok (.aload_n 0, 1) := by decide +kernel
theorem dX11_save_1 : decode cX11_save 1 = .ok (.iconst 1, 1) := by decide +kernel
theorem dX11_save_2 : decode cX11_save 2 = .ok (.putfield 242, 3) := by decide +kernel
theorem dX11_save_5 : decode cX11_save 5 = .ok (.aload_n 0, 1) := by decide +kernel
theorem dX11_save_6 : decode cX11_save 6 = .ok (.iconst 0, 1) := by decide +kernel
theorem dX11_save_7 : decode cX11_save 7 = .ok (.bipush 9, 2) := by decide +kernel
theorem dX11_save_9 : decode cX11_save 9 = .ok (.invokevirtual 34, 3) := by decide +kernel
theorem dX11_save_12 : decode cX11_save 12 = .ok (.aload_n 0, 1) := by decide +kernel
theorem dX11_save_13 : decode cX11_save 13 = .ok (.getfield 9, 3) := by decide +kernel
theorem dX11_save_16 : decode cX11_save 16 = .ok (.iconst 0, 1) := by decide +kernel
theorem dX11_save_17 : decode cX11_save 17 = .ok (.iaload, 1) := by decide +kernel
theorem dX11_save_18 : decode cX11_save 18 = .ok (.ireturn, 1) := by decide +kernel
set_option maxRecDepth 20000 in
theorem ggX11_restore_X11_copies : GoodIn wsX11_restore wsX11_copies := goodIn_r _ [8, 3, 9, 10, 11, 12, 13, 14, 15, 16, 17, 18, 19, 20, 21, 22, 23, 24, 25, 26, 27, 28] (by decide +kernel) (by decide +kernel)
set_option maxRecDepth 20000 in
theorem gX11_restore_X11_copies : GoodIn wsX11_restore (wsV RX11 34 RX11 yX11_copies wsX11_copies) := goodIn_app (goodIn_of _ (by decide +kernel)) ggX11_restore_X11_copies
theorem dX11_restore_0 : decode cX11_restore 0 = .ok (.aload_n 0, 1) := by decide +kernel
theorem dX11_restore_1 : decode cX11_restore 1 = .ok (.getfield 242, 3) := by decide +kernel
theorem dX11_restore_4 : decode cX11_restore 4 = .ok (.ifCond .ne 6, 3) := by decide +kernel
theorem dX11_restore_7 : decode cX11_restore 7 = .ok (.bipush (-4), 2) := by decide +kernel
theorem dX11_restore_9 : decode cX11_restore 9 = .ok (.ireturn, 1) := by decide +kernel
theorem dX11_restore_10 : decode cX11_restore 10 = .ok (.aload_n 0, 1) := by decide +kernel
theorem dX11_restore_11 : decode cX11_restore 11 = .ok (.bipush 9, 2) := by decide +kernel
theorem dX11_restore_13 : decode cX11_restore 13 = .ok (.iconst 0, 1) := by decide +kernel
theorem dX11_restore_14 : decode cX11_restore 14 = .ok (.invokevirtual 34, 3) := by decide +kernel
theorem dX11_restore_17 : decode cX11_restore 17 = .ok (.aload_n 0, 1) := by decide +kernel
theorem dX11_restore_18 : decode cX11_restore 18 = .ok (.iconst 0, 1) := by decide +kernel
theorem dX11_restore_19 : decode cX11_restore 19 = .ok (.putfield 38, 3) := by decide +kernel
theorem dX11_restore_22 : decode cX11_restore 22 = .ok (.aload_n 0, 1) := by decide +kernel
theorem dX11_restore_23 : decode cX11_restore 23 = .ok (.getfield 9, 3) := by decide +kernel
theorem dX11_restore_26 : decode cX11_restore 26 = .ok (.iconst 0, 1) := by decide +kernel
theorem dX11_restore_27 : decode cX11_restore 27 = .ok (.iaload, 1) := by decide +kernel
theorem dX11_restore_28 : decode cX11_restore 28 = .ok (.ireturn, 1) := by decide +kernel
set_option maxRecDepth 20000 in
theorem ggJ5_init_d00df_J2_newBytesFor_77867 : GoodIn wsJ5_init_d00df wsJ2_newBytesFor_77867 := goodIn_r _ [11, 5, 12, 13, 10, 14, 15] (by decide +kernel) (by decide +kernel)
set_option maxRecDepth 20000 in
theorem gJ5_init_d00df_J2_newBytesFor_77867 : GoodIn wsJ5_init_d00df (va_wsS RJ5 26 yJ2_newBytesFor_77867 wsJ2_newBytesFor_77867) := goodIn_app (goodIn_of _ (by decide +kernel)) ggJ5_init_d00df_J2_newBytesFor_77867
theorem dJ5_init_d00df_0 : decode cJ5_init_d00df 0 = .ok (.aload_n 0, 1) := by decide +kernel
theorem dJ5_init_d00df_1 : decode cJ5_init_d00df 1 = .ok (.invokespecial 3, 3) := by decide +kernel
theorem dJ5_init_d00df_4 : decode cJ5_init_d00df 4 = .ok (.getstatic 18, 3) := by decide +kernel
theorem dJ5_init_d00df_7 : decode cJ5_init_d00df 7 = .ok (.ifCond .eq 18, 3) := by decide +kernel
theorem dJ5_init_d00df_10 : decode cJ5_init_d00df 10 = .ok (.aload_n 0, 1) := by decide +kernel
theorem dJ5_init_d00df_11 : decode cJ5_init_d00df 11 = .ok (.iload_n 1, 1) := by decide +kernel
theorem dJ5_init_d00df_12 : decode cJ5_init_d00df 12 = .ok (.newarray .byte, 2) := by decide +kernel
theorem dJ5_init_d00df_14 : decode cJ5_init_d00df 14 = .ok (.putfield 15, 3) := by decide +kernel
theorem dJ5_init_d00df_17 : decode cJ5_init_d00df 17 = .ok (.aload_n 0, 1) := by decide +kernel
theorem dJ5_init_d00df_18 : decode cJ5_init_d00df 18 = .ok (.iconst 0, 1) := by decide +kernel
theorem dJ5_init_d00df_19 : decode cJ5_init_d00df 19 = .ok (.putfield 22, 3) := by decide +kernel
theorem dJ5_init_d00df_22 : decode cJ5_init_d00df 22 = .ok (.goto 16, 3) := by decide +kernel
theorem dJ5_init_d00df_25 : decode cJ5_init_d00df 25 = .ok (.aload_n 0, 1) := by decide +kernel
theorem dJ5_init_d00df_26 : decode cJ5_init_d00df 26 = .ok (.iload_n 1, 1) := by decide +kernel
theorem dJ5_init_d00df_27 : decode cJ5_init_d00df 27 = .ok (.invokestatic 26, 3) := by decide +kernel
theorem dJ5_init_d00df_30 : decode cJ5_init_d00df 30 = .ok (.putfield 15, 3) := by decide +kernel
theorem dJ5_init_d00df_33 : decode cJ5_init_d00df 33 = .ok (.aload_n 0, 1) := by decide +kernel
theorem dJ5_init_d00df_34 : decode cJ5_init_d00df 34 = .ok (.iconst 1, 1) := by decide +kernel
theorem dJ5_init_d00df_35 : decode cJ5_init_d00df 35 = .ok (.putfield 22, 3) := by decide +kernel
theorem dJ5_init_d00df_38 : decode cJ5_init_d00df 38 = .ok (.return_, 1) := by decide +kernel
theorem dJ5_length_8abf5_0 : decode cJ5_length_8abf5 0 = .ok (.aload_n 0, 1) := by decide +kernel
theorem dJ5_length_8abf5_1 : decode cJ5_length_8abf5 1 = .ok (.getfield 79, 3) := by decide +kernel
theorem dJ5_length_8abf5_4 : decode cJ5_length_8abf5 4 = .ok (.ireturn, 1) := by decide +kernel
set_option maxRecDepth 20000 in
theorem ggJ5_ensureCapacityInternal_d00df_J5_newCapacity_0f7a4 : GoodIn wsJ5_ensureCapacityInternal_d00df wsJ5_newCapacity_0f7a4 := goodIn_r _ [8, 1, 2, 9, 10, 11, 12, 13, 14, 15, 16, 17, 18, 19, 20, 21, 40, 41, 42, 43] (by decide +kernel) (by decide +kernel)
set_option maxRecDepth 20000 in
theorem gJ5_ensureCapacityInternal_d00df_J5_newCapacity_0f7a4_u104J4 : GoodIn wsJ5_ensureCapacityInternal_d00df (va_wsU RJ5 104 RJ4 "java/lang/AbstractStringBuilder" ⟨"java/lang/AbstractStringBuilder", "newCapacity", "(I)I"⟩ yJ5_newCapacity_0f7a4 wsJ5_newCapacity_0f7a4) := goodIn_app (goodIn_of _ (by decide +kernel)) ggJ5_ensureCapacityInternal_d00df_J5_newCapacity_0f7a4
set_option maxRecDepth 20000 in
theorem ggJ5_ensureCapacityInternal_d00df_J7_copyOf_9075b : GoodIn wsJ5_ensureCapacityInternal_d00df wsJ7_copyOf_9075b := goodIn_r _ [25, 26, 27, 28, 29, 30, 31, 32, 33, 34, 16, 35, 36, 37, 38, 39] (by decide +kernel) (by decide +kernel)
set_option maxRecDepth 20000 in
theorem gJ5_ensureCapacityInternal_d00df_J7_copyOf_9075b : GoodIn wsJ5_ensureCapacityInternal_d00df (va_wsS RJ5 108 yJ7_copyOf_9075b wsJ7_copyOf_9075b) := goodIn_app (goodIn_of _ (by decide +kernel)) ggJ5_ensureCapacityInternal_d00df_J7_copyOf_9075b
theorem dJ5_ensureCapacityInternal_d00df_0 : decode cJ5_ensureCapacityInternal_d00df 0 = .ok (.aload_n 0, 1) := by decide +kernel
theorem dJ5_ensureCapacityInternal_d00df_1 : decode cJ5_ensureCapacityInternal_d00df 1 = .ok (.getfield 15, 3) := by decide +kernel
theorem dJ5_ensureCapacityInternal_d00df_4 : decode cJ5_ensureCapacityInternal_d00df 4 = .ok (.arraylength, 1) := by decide +kernel
theorem dJ5_ensureCapacityInternal_d00df_5 : decode cJ5_ensureCapacityInternal_d00df 5 = .ok (.aload_n 0, 1) := by decide +kernel
theorem dJ5_ensureCapacityInternal_d00df_6 : decode cJ5_ensureCapacityInternal_d00df 6 = .ok (.getfield 22, 3) := by decide +kernel
theorem dJ5_ensureCapacityInternal_d00df_9 : decode cJ5_ensureCapacityInternal_d00df 9 = .ok (.ishr, 1) := by decide +kernel
theorem dJ5_ensureCapacityInternal_d00df_10 : decode cJ5_ensureCapacityInternal_d00df 10 = .ok (.istore_n 2, 1) := by decide +kernel
theorem dJ5_ensureCapacityInternal_d00df_11 : decode cJ5_ensureCapacityInternal_d00df 11 = .ok (.iload_n 1, 1) := by decide +kernel
theorem dJ5_ensureCapacityInternal_d00df_12 : decode cJ5_ensureCapacityInternal_d00df 12 = .ok (.iload_n 2, 1) := by decide +kernel
theorem dJ5_ensureCapacityInternal_d00df_13 : decode cJ5_ensureCapacityInternal_d00df 13 = .ok (.isub, 1) := by decide +kernel
theorem dJ5_ensureCapacityInternal_d00df_14 : decode cJ5_ensureCapacityInternal_d00df 14 = .ok (.ifCond .le 24, 3) := by decide +kernel
theorem dJ5_ensureCapacityInternal_d00df_17 : decode cJ5_ensureCapacityInternal_d00df 17 = .ok (.aload_n 0, 1) := by decide +kernel
theorem dJ5_ensureCapacityInternal_d00df_18 : decode cJ5_ensureCapacityInternal_d00df 18 = .ok (.aload_n 0, 1) := by decide +kernel
theorem dJ5_ensureCapacityInternal_d00df_19 : decode cJ5_ensureCapacityInternal_d00df 19 = .ok (.getfield 15, 3) := by decide +kernel
theorem dJ5_ensureCapacityInternal_d00df_22 : decode cJ5_ensureCapacityInternal_d00df 22 = .ok (.aload_n 0, 1) := by decide +kernel
theorem dJ5_ensureCapacityInternal_d00df_23 : decode cJ5_ensureCapacityInternal_d00df 23 = .ok (.iload_n 1, 1) := by decide +kernel
theorem dJ5_ensureCapacityInternal_d00df_24 : decode cJ5_ensureCapacityInternal_d00df 24 = .ok (.invokevirtual 104, 3) := by decide +kernel
theorem dJ5_ensureCapacityInternal_d00df_27 : decode cJ5_ensureCapacityInternal_d00df 27 = .ok (.aload_n 0, 1) := by decide +kernel
theorem dJ5_ensureCapacityInternal_d00df_28 : decode cJ5_ensureCapacityInternal_d00df 28 = .ok (.getfield 22, 3) := by decide +kernel
theorem dJ5_ensureCapacityInternal_d00df_31 : decode cJ5_ensureCapacityInternal_d00df 31 = .ok (.ishl, 1) := by decide +kernel
theorem dJ5_ensureCapacityInternal_d00df_32 : decode cJ5_ensureCapacityInternal_d00df 32 = .ok (.invokestatic 108, 3) := by decide +kernel
theorem dJ5_ensureCapacityInternal_d00df_35 : decode cJ5_ensureCapacityInternal_d00df 35 = .ok (.putfield 15, 3) := by decide +kernel
theorem dJ5_ensureCapacityInternal_d00df_38 : decode cJ5_ensureCapacityInternal_d00df 38 = .ok (.return_, 1) := by decide +kernel
set_option maxRecDepth 20000 in
theorem ggJ5_newCapacity_0f7a4_J8_newLength_cabcc : GoodIn wsJ5_newCapacity_0f7a4 wsJ8_newLength_cabcc := goodIn_r _ [7, 8, 9, 10, 11, 12, 13, 14, 6, 15] (by decide +kernel) (by decide +kernel)
set_option maxRecDepth 20000 in
theorem gJ5_newCapacity_0f7a4_J8_newLength_cabcc : GoodIn wsJ5_newCapacity_0f7a4 (va_wsS RJ5 114 yJ8_newLength_cabcc wsJ8_newLength_cabcc) := goodIn_app (goodIn_of _ (by decide +kernel)) ggJ5_newCapacity_0f7a4_J8_newLength_cabcc
theorem dJ5_newCapacity_0f7a4_0 : decode cJ5_newCapacity_0f7a4 0 = .ok (.aload_n 0, 1) := by decide +kernel
theorem dJ5_newCapacity_0f7a4_1 : decode cJ5_newCapacity_0f7a4 1 = .ok (.getfield 15, 3) := by decide +kernel
theorem dJ5_newCapacity_0f7a4_4 : decode cJ5_newCapacity_0f7a4 4 = .ok (.arraylength, 1) := by decide +kernel
theorem dJ5_newCapacity_0f7a4_5 : decode cJ5_newCapacity_0f7a4 5 = .ok (.istore_n 2, 1) := by decide +kernel
theorem dJ5_newCapacity_0f7a4_6 : decode cJ5_newCapacity_0f7a4 6 = .ok (.iload_n 1, 1) := by decide +kernel
theorem dJ5_newCapacity_0f7a4_7 : decode cJ5_newCapacity_0f7a4 7 = .ok (.aload_n 0, 1) := by decide +kernel
theorem dJ5_newCapacity_0f7a4_8 : decode cJ5_newCapacity_0f7a4 8 = .ok (.getfield 22, 3) := by decide +kernel
theorem dJ5_newCapacity_0f7a4_11 : decode cJ5_newCapacity_0f7a4 11 = .ok (.ishl, 1) := by decide +kernel
theorem dJ5_newCapacity_0f7a4_12 : decode cJ5_newCapacity_0f7a4 12 = .ok (.istore_n 3, 1) := by decide +kernel
theorem dJ5_newCapacity_0f7a4_13 : decode cJ5_newCapacity_0f7a4 13 = .ok (.iload_n 3, 1) := by decide +kernel
theorem dJ5_newCapacity_0f7a4_14 : decode cJ5_newCapacity_0f7a4 14 = .ok (.iload_n 2, 1) := by decide +kernel
theorem dJ5_newCapacity_0f7a4_15 : decode cJ5_newCapacity_0f7a4 15 = .ok (.isub, 1) := by decide +kernel
theorem dJ5_newCapacity_0f7a4_16 : decode cJ5_newCapacity_0f7a4 16 = .ok (.istore 4, 2) := by decide +kernel
theorem dJ5_newCapacity_0f7a4_18 : decode cJ5_newCapacity_0f7a4 18 = .ok (.iload_n 2, 1) := by decide +kernel
theorem dJ5_newCapacity_0f7a4_19 : decode cJ5_newCapacity_0f7a4 19 = .ok (.iload 4, 2) := by decide +kernel
theorem dJ5_newCapacity_0f7a4_21 : decode cJ5_newCapacity_0f7a4 21 = .ok (.iload_n 2, 1) := by decide +kernel
theorem dJ5_newCapacity_0f7a4_22 : decode cJ5_newCapacity_0f7a4 22 = .ok (.iconst 2, 1) := by decide +kernel
theorem dJ5_newCapacity_0f7a4_23 : decode cJ5_newCapacity_0f7a4 23 = .ok (.aload_n 0, 1) := by decide +kernel
theorem dJ5_newCapacity_0f7a4_24 : decode cJ5_newCapacity_0f7a4 24 = .ok (.getfield 22, 3) := by decide +kernel
theorem dJ5_newCapacity_0f7a4_27 : decode cJ5_newCapacity_0f7a4 27 = .ok (.ishl, 1) := by decide +kernel
theorem dJ5_newCapacity_0f7a4_28 : decode cJ5_newCapacity_0f7a4 28 = .ok (.iadd, 1) := by decide +kernel
theorem dJ5_newCapacity_0f7a4_29 : decode cJ5_newCapacity_0f7a4 29 = .ok (.invokestatic 114, 3) := by decide +kernel
theorem dJ5_newCapacity_0f7a4_32 : decode cJ5_newCapacity_0f7a4 32 = .ok (.istore 5, 2) := by decide +kernel
theorem dJ5_newCapacity_0f7a4_34 : decode cJ5_newCapacity_0f7a4 34 = .ok (.iload 5, 2) := by decide +kernel
theorem dJ5_newCapacity_0f7a4_36 : decode cJ5_newCapacity_0f7a4 36 = .ok (.ldc 39, 2) := by decide +kernel
theorem dJ5_newCapacity_0f7a4_38 : decode cJ5_newCapacity_0f7a4 38 = .ok (.if_icmp .ne 13, 3) := by decide +kernel
theorem dJ5_newCapacity_0f7a4_41 : decode cJ5_newCapacity_0f7a4 41 = .ok (.new 120, 3) := by decide +kernel
theorem dJ5_newCapacity_0f7a4_44 : decode cJ5_newCapacity_0f7a4 44 = .ok (.dup, 1) := by decide +kernel
theorem dJ5_newCapacity_0f7a4_45 : decode cJ5_newCapacity_0f7a4 45 = .ok (.ldc 122, 2) := by decide +kernel
theorem dJ5_newCapacity_0f7a4_47 : decode cJ5_newCapacity_0f7a4 47 = .ok (.invokespecial 124, 3) := by decide +kernel
theorem dJ5_newCapacity_0f7a4_50 : decode cJ5_newCapacity_0f7a4 50 = .ok (.athrow, 1) := by decide +kernel
theorem dJ5_newCapacity_0f7a4_51 : decode cJ5_newCapacity_0f7a4 51 = .ok (.iload 5, 2) := by decide +kernel
theorem dJ5_newCapacity_0f7a4_53 : decode cJ5_newCapacity_0f7a4 53 = .ok (.aload_n 0, 1) := by decide +kernel
theorem dJ5_newCapacity_0f7a4_54 : decode cJ5_newCapacity_0f7a4 54 = .ok (.getfield 22, 3) := by decide +kernel
theorem dJ5_newCapacity_0f7a4_57 : decode cJ5_newCapacity_0f7a4 57 = .ok (.ishr, 1) := by decide +kernel
theorem dJ5_newCapacity_0f7a4_58 : decode cJ5_newCapacity_0f7a4 58 = .ok (.ireturn, 1) := by decide +kernel
set_option maxRecDepth 20000 in
theorem ggJ5_inflate_da8c8_J5_isLatin1_aae02 : GoodIn wsJ5_inflate_da8c8 wsJ5_isLatin1_aae02 := goodIn_r _ [9, 10, 3, 48, 49, 50, 51] (by decide +kernel) (by decide +kernel)
set_option maxRecDepth 20000 in
theorem gJ5_inflate_da8c8_J5_isLatin1_aae02_u83J4 : GoodIn wsJ5_inflate_da8c8 (va_wsU RJ5 83 RJ4 "java/lang/AbstractStringBuilder" ⟨"java/lang/AbstractStringBuilder", "isLatin1", "()Z"⟩ yJ5_isLatin1_aae02 wsJ5_isLatin1_aae02) := goodIn_app (goodIn_of _ (by decide +kernel)) ggJ5_inflate_da8c8_J5_isLatin1_aae02
set_option maxRecDepth 20000 in
theorem ggJ5_inflate_da8c8_J2_newBytesFor_77867 : GoodIn wsJ5_inflate_da8c8 wsJ2_newBytesFor_77867 := goodIn_r _ [14, 15, 16, 17, 13, 18, 19] (by decide +kernel) (by decide +kernel)
set_option maxRecDepth 20000 in
theorem gJ5_inflate_da8c8_J2_newBytesFor_77867 : GoodIn wsJ5_inflate_da8c8 (va_wsS RJ5 26 yJ2_newBytesFor_77867 wsJ2_newBytesFor_77867) := goodIn_app (goodIn_of _ (by decide +kernel)) ggJ5_inflate_da8c8_J2_newBytesFor_77867
set_option maxRecDepth 20000 in
theorem ggJ5_inflate_da8c8_J1_inflate_0e8fd : GoodIn wsJ5_inflate_da8c8 wsJ1_inflate_0e8fd := goodIn_r _ [23, 24, 25, 13, 26, 27, 28, 29, 30, 31, 32, 33, 34, 35, 36, 37, 38, 39, 40, 41, 42, 43, 44, 45, 46, 47] (by decide +kernel) (by decide +kernel)
set_option maxRecDepth 20000 in
theorem gJ5_inflate_da8c8_J1_inflate_0e8fd : GoodIn wsJ5_inflate_da8c8 (va_wsS RJ5 125 yJ1_inflate_0e8fd wsJ1_inflate_0e8fd) := goodIn_app (goodIn_of _ (by decide +kernel)) ggJ5_inflate_da8c8_J1_inflate_0e8fd
theorem dJ5_inflate_da8c8_0 : decode cJ5_inflate_da8c8 0 = .ok (.aload_n 0, 1) := by decide +kernel
theorem dJ5_inflate_da8c8_1 : decode cJ5_inflate_da8c8 1 = .ok (.invokevirtual 83, 3) := by decide +kernel
theorem dJ5_inflate_da8c8_4 : decode cJ5_inflate_da8c8 4 = .ok (.ifCond .ne 4, 3) := by decide +kernel
theorem dJ5_inflate_da8c8_7 : decode cJ5_inflate_da8c8 7 = .ok (.return_, 1) := by decide +kernel
theorem dJ5_inflate_da8c8_8 : decode cJ5_inflate_da8c8 8 = .ok (.aload_n 0, 1) := by decide +kernel
theorem dJ5_inflate_da8c8_9 : decode cJ5_inflate_da8c8 9 = .ok (.getfield 15, 3) := by decide +kernel
theorem dJ5_inflate_da8c8_12 : decode cJ5_inflate_da8c8 12 = .ok (.arraylength, 1) := by decide +kernel
theorem dJ5_inflate_da8c8_13 : decode cJ5_inflate_da8c8 13 = .ok (.invokestatic 26, 3) := by decide +kernel
theorem dJ5_inflate_da8c8_16 : decode cJ5_inflate_da8c8 16 = .ok (.astore_n 1, 1) := by decide +kernel
theorem dJ5_inflate_da8c8_17 : decode cJ5_inflate_da8c8 17 = .ok (.aload_n 0, 1) := by decide +kernel
theorem dJ5_inflate_da8c8_18 : decode cJ5_inflate_da8c8 18 = .ok (.getfield 15, 3) := by decide +kernel
theorem dJ5_inflate_da8c8_21 : decode cJ5_inflate_da8c8 21 = .ok (.iconst 0, 1) := by decide +kernel
theorem dJ5_inflate_da8c8_22 : decode cJ5_inflate_da8c8 22 = .ok (.aload_n 1, 1) := by decide +kernel
theorem dJ5_inflate_da8c8_23 : decode cJ5_inflate_da8c8 23 = .ok (.iconst 0, 1) := by decide +kernel
theorem dJ5_inflate_da8c8_24 : decode cJ5_inflate_da8c8 24 = .ok (.aload_n 0, 1) := by decide +kernel
theorem dJ5_inflate_da8c8_25 : decode cJ5_inflate_da8c8 25 = .ok (.getfield 79, 3) := by decide +kernel
theorem dJ5_inflate_da8c8_28 : decode cJ5_inflate_da8c8 28 = .ok (.invokestatic 125, 3) := by decide +kernel
theorem dJ5_inflate_da8c8_31 : decode cJ5_inflate_da8c8 31 = .ok (.aload_n 0, 1) := by decide +kernel
theorem dJ5_inflate_da8c8_32 : decode cJ5_inflate_da8c8 32 = .ok (.aload_n 1, 1) := by decide +kernel
theorem dJ5_inflate_da8c8_33 : decode cJ5_inflate_da8c8 33 = .ok (.putfield 15, 3) := by decide +kernel
theorem dJ5_inflate_da8c8_36 : decode cJ5_inflate_da8c8 36 = .ok (.aload_n 0, 1) := by decide +kernel
theorem dJ5_inflate_da8c8_37 : decode cJ5_inflate_da8c8 37 = .ok (.iconst 1, 1) := by decide +kernel
theorem dJ5_inflate_da8c8_38 : decode cJ5_inflate_da8c8 38 = .ok (.putfield 22, 3) := by decide +kernel
theorem dJ5_inflate_da8c8_41 : decode cJ5_inflate_da8c8 41 = .ok (.return_, 1) := by decide +kernel
set_option maxRecDepth 20000 in
theorem ggJ5_setLength_d00df_J5_ensureCapacityInternal_d00df : GoodIn wsJ5_setLength_d00df wsJ5_ensureCapacityInternal_d00df := goodIn_r _ [9, 2, 10, 11, 12, 13, 14, 8, 15, 16, 17, 18, 19, 20, 21, 22, 23, 24, 25, 26, 27, 28, 29, 30, 31, 32, 33, 34, 35, 36, 37, 38, 39, 40, 41, 42, 43, 44, 45, 46, 68, 69, 70, 71] (by decide +kernel) (by decide +kernel)
set_option maxRecDepth 20000 in
theorem gJ5_setLength_d00df_J5_ensureCapacityInternal_d00df_u100J4 : GoodIn wsJ5_setLength_d00df (va_wsU RJ5 100 RJ4 "java/lang/AbstractStringBuilder" ⟨"java/lang/AbstractStringBuilder", "ensureCapacityInternal", "(I)V"⟩ yJ5_ensureCapacityInternal_d00df wsJ5_ensureCapacityInternal_d00df) := goodIn_app (goodIn_of _ (by decide +kernel)) ggJ5_setLength_d00df_J5_ensureCapacityInternal_d00df
set_option maxRecDepth 20000 in
theorem ggJ5_setLength_d00df_J5_isLatin1_aae02 : GoodIn wsJ5_setLength_d00df wsJ5_isLatin1_aae02 := goodIn_r _ [51, 52, 10, 68, 69, 70, 71] (by decide +kernel) (by decide +kernel)
set_option maxRecDepth 20000 in
theorem gJ5_setLength_d00df_J5_isLatin1_aae02_u83J4 : GoodIn wsJ5_setLength_d00df (va_wsU RJ5 83 RJ4 "java/lang/AbstractStringBuilder" ⟨"java/lang/AbstractStringBuilder", "isLatin1", "()Z"⟩ yJ5_isLatin1_aae02 wsJ5_isLatin1_aae02) := goodIn_app (goodIn_of _ (by decide +kernel)) ggJ5_setLength_d00df_J5_isLatin1_aae02
set_option maxRecDepth 20000 in
theorem ggJ5_setLength_d00df_J1_fillNull_b72d1 : GoodIn wsJ5_setLength_d00df wsJ1_fillNull_b72d1 := goodIn_r _ [56, 57, 58, 31, 59, 60, 61, 62] (by decide +kernel) (by decide +kernel)
set_option maxRecDepth 20000 in
theorem gJ5_setLength_d00df_J1_fillNull_b72d1 : GoodIn wsJ5_setLength_d00df (va_wsS RJ5 133 yJ1_fillNull_b72d1 wsJ1_fillNull_b72d1) := goodIn_app (goodIn_of _ (by decide +kernel)) ggJ5_setLength_d00df_J1_fillNull_b72d1
set_option maxRecDepth 20000 in
theorem ggJ5_setLength_d00df_J2_fillNull_b72d1 : GoodIn wsJ5_setLength_d00df wsJ2_fillNull_b72d1 := goodIn_r _ [66, 67, 58, 31, 59, 60, 61, 62] (by decide +kernel) (by decide +kernel)
set_option maxRecDepth 20000 in
theorem gJ5_setLength_d00df_J2_fillNull_b72d1 : GoodIn wsJ5_setLength_d00df (va_wsS RJ5 137 yJ2_fillNull_b72d1 wsJ2_fillNull_b72d1) := goodIn_app (goodIn_of _ (by decide +kernel)) ggJ5_setLength_d00df_J2_fillNull_b72d1
theorem dJ5_setLength_d00df_0 : decode cJ5_setLength_d00df 0 = .ok (.iload_n 1, 1) := by decide +kernel
theorem dJ5_setLength_d00df_1 : decode cJ5_setLength_d00df 1 = .ok (.ifCond .ge 12, 3) := by decide +kernel
theorem dJ5_setLength_d00df_4 : decode cJ5_setLength_d00df 4 = .ok (.new 129, 3) := by decide +kernel
theorem dJ5_setLength_d00df_7 : decode cJ5_setLength_d00df 7 = .ok (.dup, 1) := by decide +kernel
theorem dJ5_setLength_d00df_8 : decode cJ5_setLength_d00df 8 = .ok (.iload_n 1, 1) := by decide +kernel
theorem dJ5_setLength_d00df_9 : decode cJ5_setLength_d00df 9 = .ok (.invokespecial 131, 3) := by decide +kernel
theorem dJ5_setLength_d00df_12 : decode cJ5_setLength_d00df 12 = .ok (.athrow, 1) := by decide +kernel
theorem dJ5_setLength_d00df_13 : decode cJ5_setLength_d00df 13 = .ok (.aload_n 0, 1) := by decide +kernel
theorem dJ5_setLength_d00df_14 : decode cJ5_setLength_d00df 14 = .ok (.iload_n 1, 1) := by decide +kernel
theorem dJ5_setLength_d00df_15 : decode cJ5_setLength_d00df 15 = .ok (.invokevirtual 100, 3) := by decide +kernel
theorem dJ5_setLength_d00df_18 : decode cJ5_setLength_d00df 18 = .ok (.aload_n 0, 1) := by decide +kernel
theorem dJ5_setLength_d00df_19 : decode cJ5_setLength_d00df 19 = .ok (.getfield 79, 3) := by decide +kernel
theorem dJ5_setLength_d00df_22 : decode cJ5_setLength_d00df 22 = .ok (.iload_n 1, 1) := by decide +kernel
theorem dJ5_setLength_d00df_23 : decode cJ5_setLength_d00df 23 = .ok (.if_icmp .ge 40, 3) := by decide +kernel
theorem dJ5_setLength_d00df_26 : decode cJ5_setLength_d00df 26 = .ok (.aload_n 0, 1) := by decide +kernel
theorem dJ5_setLength_d00df_27 : decode cJ5_setLength_d00df 27 = .ok (.invokevirtual 83, 3) := by decide +kernel
theorem dJ5_setLength_d00df_30 : decode cJ5_setLength_d00df 30 = .ok (.ifCond .eq 18, 3) := by decide +kernel
theorem dJ5_setLength_d00df_33 : decode cJ5_setLength_d00df 33 = .ok (.aload_n 0, 1) := by decide +kernel
theorem dJ5_setLength_d00df_34 : decode cJ5_setLength_d00df 34 = .ok (.getfield 15, 3) := by decide +kernel
theorem dJ5_setLength_d00df_37 : decode cJ5_setLength_d00df 37 = .ok (.aload_n 0, 1) := by decide +kernel
theorem dJ5_setLength_d00df_38 : decode cJ5_setLength_d00df 38 = .ok (.getfield 79, 3) := by decide +kernel
theorem dJ5_setLength_d00df_41 : decode cJ5_setLength_d00df 41 = .ok (.iload_n 1, 1) := by decide +kernel
theorem dJ5_setLength_d00df_42 : decode cJ5_setLength_d00df 42 = .ok (.invokestatic 133, 3) := by decide +kernel
theorem dJ5_setLength_d00df_45 : decode cJ5_setLength_d00df 45 = .ok (.goto 31, 3) := by decide +kernel
theorem dJ5_setLength_d00df_48 : decode cJ5_setLength_d00df 48 = .ok (.aload_n 0, 1) := by decide +kernel
theorem dJ5_setLength_d00df_49 : decode cJ5_setLength_d00df 49 = .ok (.getfield 15, 3) := by decide +kernel
theorem dJ5_setLength_d00df_52 : decode cJ5_setLength_d00df 52 = .ok (.aload_n 0, 1) := by decide +kernel
theorem dJ5_setLength_d00df_53 : decode cJ5_setLength_d00df 53 = .ok (.getfield 79, 3) := by decide +kernel
theorem dJ5_setLength_d00df_56 : decode cJ5_setLength_d00df 56 = .ok (.iload_n 1, 1) := by decide +kernel
theorem dJ5_setLength_d00df_57 : decode cJ5_setLength_d00df 57 = .ok (.invokestatic 137, 3) := by decide +kernel
theorem dJ5_setLength_d00df_60 : decode cJ5_setLength_d00df 60 = .ok (.goto 16, 3) := by decide +kernel
theorem dJ5_setLength_d00df_63 : decode cJ5_setLength_d00df 63 = .ok (.aload_n 0, 1) := by decide +kernel
theorem dJ5_setLength_d00df_64 : decode cJ5_setLength_d00df 64 = .ok (.getfield 79, 3) := by decide +kernel
theorem dJ5_setLength_d00df_67 : decode cJ5_setLength_d00df 67 = .ok (.iload_n 1, 1) := by decide +kernel
theorem dJ5_setLength_d00df_68 : decode cJ5_setLength_d00df 68 = .ok (.if_icmp .le 8, 3) := by decide +kernel
theorem dJ5_setLength_d00df_71 : decode cJ5_setLength_d00df 71 = .ok (.aload_n 0, 1) := by decide +kernel
theorem dJ5_setLength_d00df_72 : decode cJ5_setLength_d00df 72 = .ok (.iconst 1, 1) := by decide +kernel
theorem dJ5_setLength_d00df_73 : decode cJ5_setLength_d00df 73 = .ok (.putfield 73, 3) := by decide +kernel
theorem dJ5_setLength_d00df_76 : decode cJ5_setLength_d00df 76 = .ok (.aload_n 0, 1) := by decide +kernel
theorem dJ5_setLength_d00df_77 : decode cJ5_setLength_d00df 77 = .ok (.iload_n 1, 1) := by decide +kernel
theorem dJ5_setLength_d00df_78 : decode cJ5_setLength_d00df 78 = .ok (.putfield 79, 3) := by decide +kernel
theorem dJ5_setLength_d00df_81 : decode cJ5_setLength_d00df 81 = .ok (.return_, 1) := by decide +kernel
set_option maxRecDepth 20000 in
theorem ggJ5_charAt_5068e_J0_checkIndex_df160 : GoodIn wsJ5_charAt_5068e wsJ0_checkIndex_df160 := goodIn_r _ [11, 12, 13, 14, 15, 16] (by decide +kernel) (by decide +kernel)
set_option maxRecDepth 20000 in
theorem gJ5_charAt_5068e_J0_checkIndex_df160 : GoodIn wsJ5_charAt_5068e (va_wsS RJ5 144 yJ0_checkIndex_df160 wsJ0_checkIndex_df160) := goodIn_app (goodIn_of _ (by decide +kernel)) ggJ5_charAt_5068e_J0_checkIndex_df160
set_option maxRecDepth 20000 in
theorem ggJ5_charAt_5068e_J2_getChar_3b067 : GoodIn wsJ5_charAt_5068e wsJ2_getChar_3b067 := goodIn_r _ [20, 21, 22, 23, 24, 25, 19, 26] (by decide +kernel) (by decide +kernel)
set_option maxRecDepth 20000 in
theorem gJ5_charAt_5068e_J2_getChar_3b067 : GoodIn wsJ5_charAt_5068e (va_wsS RJ5 148 yJ2_getChar_3b067 wsJ2_getChar_3b067) := goodIn_app (goodIn_of _ (by decide +kernel)) ggJ5_charAt_5068e_J2_getChar_3b067
theorem dJ5_charAt_5068e_0 : decode cJ5_charAt_5068e 0 = .ok (.aload_n 0, 1) := by decide +kernel
theorem dJ5_charAt_5068e_1 : decode cJ5_charAt_5068e 1 = .ok (.getfield 22, 3) := by decide +kernel
theorem dJ5_charAt_5068e_4 : decode cJ5_charAt_5068e 4 = .ok (.istore_n 2, 1) := by decide +kernel
theorem dJ5_charAt_5068e_5 : decode cJ5_charAt_5068e 5 = .ok (.aload_n 0, 1) := by decide +kernel
theorem dJ5_charAt_5068e_6 : decode cJ5_charAt_5068e 6 = .ok (.getfield 15, 3) := by decide +kernel
theorem dJ5_charAt_5068e_9 : decode cJ5_charAt_5068e 9 = .ok (.astore_n 3, 1) := by decide +kernel
theorem dJ5_charAt_5068e_10 : decode cJ5_charAt_5068e 10 = .ok (.aload_n 0, 1) := by decide +kernel
theorem dJ5_charAt_5068e_11 : decode cJ5_charAt_5068e 11 = .ok (.getfield 79, 3) := by decide +kernel
theorem dJ5_charAt_5068e_14 : decode cJ5_charAt_5068e 14 = .ok (.aload_n 3, 1) := by decide +kernel
theorem dJ5_charAt_5068e_15 : decode cJ5_charAt_5068e 15 = .ok (.arraylength, 1) := by decide +kernel
theorem dJ5_charAt_5068e_16 : decode cJ5_charAt_5068e 16 = .ok (.iload_n 2, 1) := by decide +kernel
theorem dJ5_charAt_5068e_17 : decode cJ5_charAt_5068e 17 = .ok (.ishr, 1) := by decide +kernel
theorem dJ5_charAt_5068e_18 : decode cJ5_charAt_5068e 18 = .ok (.invokestatic 138, 3) := by decide +kernel
theorem dJ5_charAt_5068e_21 : decode cJ5_charAt_5068e 21 = .ok (.istore 4, 2) := by decide +kernel
theorem dJ5_charAt_5068e_23 : decode cJ5_charAt_5068e 23 = .ok (.iload_n 1, 1) := by decide +kernel
theorem dJ5_charAt_5068e_24 : decode cJ5_charAt_5068e 24 = .ok (.iload 4, 2) := by decide +kernel
theorem dJ5_charAt_5068e_26 : decode cJ5_charAt_5068e 26 = .ok (.invokestatic 144, 3) := by decide +kernel
theorem dJ5_charAt_5068e_29 : decode cJ5_charAt_5068e 29 = .ok (.iload_n 2, 1) := by decide +kernel
theorem dJ5_charAt_5068e_30 : decode cJ5_charAt_5068e 30 = .ok (.ifCond .ne 12, 3) := by decide +kernel
theorem dJ5_charAt_5068e_33 : decode cJ5_charAt_5068e 33 = .ok (.aload_n 3, 1) := by decide +kernel
theorem dJ5_charAt_5068e_34 : decode cJ5_charAt_5068e 34 = .ok (.iload_n 1, 1) := by decide +kernel
theorem dJ5_charAt_5068e_35 : decode cJ5_charAt_5068e 35 = .ok (.baload, 1) := by decide +kernel
theorem dJ5_charAt_5068e_36 : decode cJ5_charAt_5068e 36 = .ok (.sipush 255, 3) := by decide +kernel
theorem dJ5_charAt_5068e_39 : decode cJ5_charAt_5068e 39 = .ok (.iand, 1) := by decide +kernel
theorem dJ5_charAt_5068e_40 : decode cJ5_charAt_5068e 40 = .ok (.i2c, 1) := by decide +kernel
theorem dJ5_charAt_5068e_41 : decode cJ5_charAt_5068e 41 = .ok (.ireturn, 1) := by decide +kernel
theorem dJ5_charAt_5068e_42 : decode cJ5_charAt_5068e 42 = .ok (.aload_n 3, 1) := by decide +kernel
theorem dJ5_charAt_5068e_43 : decode cJ5_charAt_5068e 43 = .ok (.iload_n 1, 1) := by decide +kernel
theorem dJ5_charAt_5068e_44 : decode cJ5_charAt_5068e 44 = .ok (.invokestatic 148, 3) := by decide +kernel
theorem dJ5_charAt_5068e_47 : decode cJ5_charAt_5068e 47 = .ok (.ireturn, 1) := by decide +kernel
set_option maxRecDepth 20000 in
theorem ggJ5_append_3fe6f_J5_ensureCapacityInternal_d00df : GoodIn wsJ5_append_3fe6f wsJ5_ensureCapacityInternal_d00df := goodIn_r _ [8, 2, 9, 10, 11, 12, 13, 7, 14, 15, 16, 17, 18, 19, 20, 21, 22, 23, 24, 25, 26, 27, 28, 29, 30, 31, 32, 33, 34, 35, 36, 37, 38, 39, 40, 41, 42, 43, 44, 45, 108, 109, 110, 111] (by decide +kernel) (by decide +kernel)
set_option maxRecDepth 20000 in
theorem gJ5_append_3fe6f_J5_ensureCapacityInternal_d00df_u100J4 : GoodIn wsJ5_append_3fe6f (va_wsU RJ5 100 RJ4 "java/lang/AbstractStringBuilder" ⟨"java/lang/AbstractStringBuilder", "ensureCapacityInternal", "(I)V"⟩ yJ5_ensureCapacityInternal_d00df wsJ5_ensureCapacityInternal_d00df) := goodIn_app (goodIn_of _ (by decide +kernel)) ggJ5_append_3fe6f_J5_ensureCapacityInternal_d00df
set_option maxRecDepth 20000 in
theorem ggJ5_append_3fe6f_J5_isLatin1_aae02 : GoodIn wsJ5_append_3fe6f wsJ5_isLatin1_aae02 := goodIn_r _ [50, 51, 9, 108, 109, 110, 111] (by decide +kernel) (by decide +kernel)
set_option maxRecDepth 20000 in
theorem gJ5_append_3fe6f_J5_isLatin1_aae02_u83J4 : GoodIn wsJ5_append_3fe6f (va_wsU RJ5 83 RJ4 "java/lang/AbstractStringBuilder" ⟨"java/lang/AbstractStringBuilder", "isLatin1", "()Z"⟩ yJ5_isLatin1_aae02 wsJ5_isLatin1_aae02) := goodIn_app (goodIn_of _ (by decide +kernel)) ggJ5_append_3fe6f_J5_isLatin1_aae02
set_option maxRecDepth 20000 in
theorem ggJ5_append_3fe6f_J1_canEncode_fc78d : GoodIn wsJ5_append_3fe6f wsJ1_canEncode_fc78d := goodIn_r _ [55] (by decide +kernel) (by decide +kernel)
set_option maxRecDepth 20000 in
theorem gJ5_append_3fe6f_J1_canEncode_fc78d : GoodIn wsJ5_append_3fe6f (va_wsS RJ5 191 yJ1_canEncode_fc78d wsJ1_canEncode_fc78d) := goodIn_app (goodIn_of _ (by decide +kernel)) ggJ5_append_3fe6f_J1_canEncode_fc78d
set_option maxRecDepth 20000 in
theorem ggJ5_append_3fe6f_J5_inflate_da8c8 : GoodIn wsJ5_append_3fe6f wsJ5_inflate_da8c8 := goodIn_r _ [60, 2, 1, 9, 46, 47, 48, 49, 7, 50, 51, 61, 62, 63, 64, 38, 65, 66, 67, 68, 69, 70, 54, 71, 72, 73, 74, 75, 76, 77, 78, 79, 80, 81, 82, 83, 84, 85, 86, 87, 88, 89, 90, 91, 92, 93, 94, 95, 108, 109, 110, 111] (by decide +kernel) (by decide +kernel)
set_option maxRecDepth 20000 in
theorem gJ5_append_3fe6f_J5_inflate_da8c8_u195J4 : GoodIn wsJ5_append_3fe6f (va_wsU RJ5 195 RJ4 "java/lang/AbstractStringBuilder" ⟨"java/lang/AbstractStringBuilder", "inflate", "()V"⟩ yJ5_inflate_da8c8 wsJ5_inflate_da8c8) := goodIn_app (goodIn_of _ (by decide +kernel)) ggJ5_append_3fe6f_J5_inflate_da8c8
set_option maxRecDepth 20000 in
theorem ggJ5_append_3fe6f_J2_putCharSB_b72d1 : GoodIn wsJ5_append_3fe6f wsJ2_putCharSB_b72d1 := goodIn_r _ [98, 99, 100, 63, 101, 78, 79, 80, 102, 103, 83, 104, 85, 105, 106, 88, 107, 90, 91, 92, 93, 94, 95] (by decide +kernel) (by decide +kernel)
set_option maxRecDepth 20000 in
theorem gJ5_append_3fe6f_J2_putCharSB_b72d1 : GoodIn wsJ5_append_3fe6f (va_wsS RJ5 197 yJ2_putCharSB_b72d1 wsJ2_putCharSB_b72d1) := goodIn_app (goodIn_of _ (by decide +kernel)) ggJ5_append_3fe6f_J2_putCharSB_b72d1
theorem dJ5_append_3fe6f_0 : decode cJ5_append_3fe6f 0 = .ok (.aload_n 0, 1) := by decide +kernel
theorem dJ5_append_3fe6f_1 : decode cJ5_append_3fe6f 1 = .ok (.aload_n 0, 1) := by decide +kernel
theorem dJ5_append_3fe6f_2 : decode cJ5_append_3fe6f 2 = .ok (.getfield 79, 3) := by decide +kernel
theorem dJ5_append_3fe6f_5 : decode cJ5_append_3fe6f 5 = .ok (.iconst 1, 1) := by decide +kernel
theorem dJ5_append_3fe6f_6 : decode cJ5_append_3fe6f 6 = .ok (.iadd, 1) := by decide +kernel
theorem dJ5_append_3fe6f_7 : decode cJ5_append_3fe6f 7 = .ok (.invokevirtual 100, 3) := by decide +kernel
theorem dJ5_append_3fe6f_10 : decode cJ5_append_3fe6f 10 = .ok (.aload_n 0, 1) := by decide +kernel
theorem dJ5_append_3fe6f_11 : decode cJ5_append_3fe6f 11 = .ok (.invokevirtual 83, 3) := by decide +kernel
theorem dJ5_append_3fe6f_14 : decode cJ5_append_3fe6f 14 = .ok (.ifCond .eq 31, 3) := by decide +kernel
theorem dJ5_append_3fe6f_17 : decode cJ5_append_3fe6f 17 = .ok (.iload_n 1, 1) := by decide +kernel
theorem dJ5_append_3fe6f_18 : decode cJ5_append_3fe6f 18 = .ok (.invokestatic 191, 3) := by decide +kernel
theorem dJ5_append_3fe6f_21 : decode cJ5_append_3fe6f 21 = .ok (.ifCond .eq 24, 3) := by decide +kernel
theorem dJ5_append_3fe6f_24 : decode cJ5_append_3fe6f 24 = .ok (.aload_n 0, 1) := by decide +kernel
theorem dJ5_append_3fe6f_25 : decode cJ5_append_3fe6f 25 = .ok (.getfield 15, 3) := by decide +kernel
theorem dJ5_append_3fe6f_28 : decode cJ5_append_3fe6f 28 = .ok (.aload_n 0, 1) := by decide +kernel
theorem dJ5_append_3fe6f_29 : decode cJ5_append_3fe6f 29 = .ok (.dup, 1) := by decide +kernel
theorem dJ5_append_3fe6f_30 : decode cJ5_append_3fe6f 30 = .ok (.getfield 79, 3) := by decide +kernel
theorem dJ5_append_3fe6f_33 : decode cJ5_append_3fe6f 33 = .ok (.dup_x1, 1) := by decide +kernel
theorem dJ5_append_3fe6f_34 : decode cJ5_append_3fe6f 34 = .ok (.iconst 1, 1) := by decide +kernel
theorem dJ5_append_3fe6f_35 : decode cJ5_append_3fe6f 35 = .ok (.iadd, 1) := by decide +kernel
theorem dJ5_append_3fe6f_36 : decode cJ5_append_3fe6f 36 = .ok (.putfield 79, 3) := by decide +kernel
theorem dJ5_append_3fe6f_39 : decode cJ5_append_3fe6f 39 = .ok (.iload_n 1, 1) := by decide +kernel
theorem dJ5_append_3fe6f_40 : decode cJ5_append_3fe6f 40 = .ok (.i2b, 1) := by decide +kernel
theorem dJ5_append_3fe6f_41 : decode cJ5_append_3fe6f 41 = .ok (.bastore, 1) := by decide +kernel
theorem dJ5_append_3fe6f_42 : decode cJ5_append_3fe6f 42 = .ok (.goto 33, 3) := by decide +kernel
theorem dJ5_append_3fe6f_45 : decode cJ5_append_3fe6f 45 = .ok (.aload_n 0, 1) := by decide +kernel
theorem dJ5_append_3fe6f_46 : decode cJ5_append_3fe6f 46 = .ok (.invokevirtual 83, 3) := by decide +kernel
theorem dJ5_append_3fe6f_49 : decode cJ5_append_3fe6f 49 = .ok (.ifCond .eq 7, 3) := by decide +kernel
theorem dJ5_append_3fe6f_52 : decode cJ5_append_3fe6f 52 = .ok (.aload_n 0, 1) := by decide +kernel
theorem dJ5_append_3fe6f_53 : decode cJ5_append_3fe6f 53 = .ok (.invokevirtual 195, 3) := by decide +kernel
theorem dJ5_append_3fe6f_56 : decode cJ5_append_3fe6f 56 = .ok (.aload_n 0, 1) := by decide +kernel
theorem dJ5_append_3fe6f_57 : decode cJ5_append_3fe6f 57 = .ok (.getfield 15, 3) := by decide +kernel
theorem dJ5_append_3fe6f_60 : decode cJ5_append_3fe6f 60 = .ok (.aload_n 0, 1) := by decide +kernel
theorem dJ5_append_3fe6f_61 : decode cJ5_append_3fe6f 61 = .ok (.dup, 1) := by decide +kernel
theorem dJ5_append_3fe6f_62 : decode cJ5_append_3fe6f 62 = .ok (.getfield 79, 3) := by decide +kernel
theorem dJ5_append_3fe6f_65 : decode cJ5_append_3fe6f 65 = .ok (.dup_x1, 1) := by decide +kernel
theorem dJ5_append_3fe6f_66 : decode cJ5_append_3fe6f 66 = .ok (.iconst 1, 1) := by decide +kernel
theorem dJ5_append_3fe6f_67 : decode cJ5_append_3fe6f 67 = .ok (.iadd, 1) := by decide +kernel
theorem dJ5_append_3fe6f_68 : decode cJ5_append_3fe6f 68 = .ok (.putfield 79, 3) := by decide +kernel
theorem dJ5_append_3fe6f_71 : decode cJ5_append_3fe6f 71 = .ok (.iload_n 1, 1) := by decide +kernel
theorem dJ5_append_3fe6f_72 : decode cJ5_append_3fe6f 72 = .ok (.invokestatic 197, 3) := by decide +kernel
theorem dJ5_append_3fe6f_75 : decode cJ5_append_3fe6f 75 = .ok (.aload_n 0, 1) := by decide +kernel
theorem dJ5_append_3fe6f_76 : decode cJ5_append_3fe6f 76 = .ok (.areturn, 1) := by decide +kernel
set_option maxRecDepth 20000 in
theorem ggJ5_append_c97b9_J6_stringSize_0f7a4 : GoodIn wsJ5_append_c97b9 wsJ6_stringSize_0f7a4 := goodIn_r _ [6] (by decide +kernel) (by decide +kernel)
set_option maxRecDepth 20000 in
theorem gJ5_append_c97b9_J6_stringSize_0f7a4 : GoodIn wsJ5_append_c97b9 (va_wsS RJ5 245 yJ6_stringSize_0f7a4 wsJ6_stringSize_0f7a4) := goodIn_app (goodIn_of _ (by decide +kernel)) ggJ5_append_c97b9_J6_stringSize_0f7a4
set_option maxRecDepth 20000 in
theorem ggJ5_append_c97b9_J5_ensureCapacityInternal_d00df : GoodIn wsJ5_append_c97b9 wsJ5_ensureCapacityInternal_d00df := goodIn_r _ [12, 2, 13, 14, 15, 16, 17, 11, 18, 19, 20, 21, 22, 23, 24, 25, 26, 27, 28, 29, 30, 31, 32, 33, 34, 35, 36, 37, 38, 39, 40, 41, 42, 43, 44, 45, 46, 47, 48, 49, 91, 92, 93, 94] (by decide +kernel) (by decide +kernel)
set_option maxRecDepth 20000 in
theorem gJ5_append_c97b9_J5_ensureCapacityInternal_d00df_u100J4 : GoodIn wsJ5_append_c97b9 (va_wsU RJ5 100 RJ4 "java/lang/AbstractStringBuilder" ⟨"java/lang/AbstractStringBuilder", "ensureCapacityInternal", "(I)V"⟩ yJ5_ensureCapacityInternal_d00df wsJ5_ensureCapacityInternal_d00df) := goodIn_app (goodIn_of _ (by decide +kernel)) ggJ5_append_c97b9_J5_ensureCapacityInternal_d00df
set_option maxRecDepth 20000 in
theorem ggJ5_append_c97b9_J5_isLatin1_aae02 : GoodIn wsJ5_append_c97b9 wsJ5_isLatin1_aae02 := goodIn_r _ [54, 55, 13, 91, 92, 93, 94] (by decide +kernel) (by decide +kernel)
set_option maxRecDepth 20000 in
theorem gJ5_append_c97b9_J5_isLatin1_aae02_u83J4 : GoodIn wsJ5_append_c97b9 (va_wsU RJ5 83 RJ4 "java/lang/AbstractStringBuilder" ⟨"java/lang/AbstractStringBuilder", "isLatin1", "()Z"⟩ yJ5_isLatin1_aae02 wsJ5_isLatin1_aae02) := goodIn_app (goodIn_of _ (by decide +kernel)) ggJ5_append_c97b9_J5_isLatin1_aae02
set_option maxRecDepth 20000 in
theorem ggJ5_append_c97b9_J6_getChars_ba4f3 : GoodIn wsJ5_append_c97b9 wsJ6_getChars_ba4f3 := goodIn_r _ [58, 59, 60] (by decide +kernel) (by decide +kernel)
set_option maxRecDepth 20000 in
theorem gJ5_append_c97b9_J6_getChars_ba4f3 : GoodIn wsJ5_append_c97b9 (va_wsS RJ5 248 yJ6_getChars_ba4f3 wsJ6_getChars_ba4f3) := goodIn_app (goodIn_of _ (by decide +kernel)) ggJ5_append_c97b9_J6_getChars_ba4f3
set_option maxRecDepth 20000 in
theorem ggJ5_append_c97b9_J2_getChars_46870 : GoodIn wsJ5_append_c97b9 wsJ2_getChars_46870 := goodIn_r _ [64, 65, 66, 67, 63, 68, 69, 70, 71, 72, 73, 74, 75, 76, 77, 78, 79, 80, 81, 82, 83, 84, 85, 86, 87, 88, 89, 90] (by decide +kernel) (by decide +kernel)
set_option maxRecDepth 20000 in
theorem gJ5_append_c97b9_J2_getChars_46870 : GoodIn wsJ5_append_c97b9 (va_wsS RJ5 251 yJ2_getChars_46870 wsJ2_getChars_46870) := goodIn_app (goodIn_of _ (by decide +kernel)) ggJ5_append_c97b9_J2_getChars_46870
theorem dJ5_append_c97b9_0 : decode cJ5_append_c97b9 0 = .ok (.aload_n 0, 1) := by decide +kernel
theorem dJ5_append_c97b9_1 : decode cJ5_append_c97b9 1 = .ok (.getfield 79, 3) := by decide +kernel
theorem dJ5_append_c97b9_4 : decode cJ5_append_c97b9 4 = .ok (.istore_n 2, 1) := by decide +kernel
theorem dJ5_append_c97b9_5 : decode cJ5_append_c97b9 5 = .ok (.iload_n 2, 1) := by decide +kernel
theorem dJ5_append_c97b9_6 : decode cJ5_append_c97b9 6 = .ok (.iload_n 1, 1) := by decide +kernel
theorem dJ5_append_c97b9_7 : decode cJ5_append_c97b9 7 = .ok (.invokestatic 245, 3) := by decide +kernel
theorem dJ5_append_c97b9_10 : decode cJ5_append_c97b9 10 = .ok (.iadd, 1) := by decide +kernel
theorem dJ5_append_c97b9_11 : decode cJ5_append_c97b9 11 = .ok (.istore_n 3, 1) := by decide +kernel
theorem dJ5_append_c97b9_12 : decode cJ5_append_c97b9 12 = .ok (.aload_n 0, 1) := by decide +kernel
theorem dJ5_append_c97b9_13 : decode cJ5_append_c97b9 13 = .ok (.iload_n 3, 1) := by decide +kernel
theorem dJ5_append_c97b9_14 : decode cJ5_append_c97b9 14 = .ok (.invokevirtual 100, 3) := by decide +kernel
theorem dJ5_append_c97b9_17 : decode cJ5_append_c97b9 17 = .ok (.aload_n 0, 1) := by decide +kernel
theorem dJ5_append_c97b9_18 : decode cJ5_append_c97b9 18 = .ok (.invokevirtual 83, 3) := by decide +kernel
theorem dJ5_append_c97b9_21 : decode cJ5_append_c97b9 21 = .ok (.ifCond .eq 16, 3) := by decide +kernel
theorem dJ5_append_c97b9_24 : decode cJ5_append_c97b9 24 = .ok (.iload_n 1, 1) := by decide +kernel
theorem dJ5_append_c97b9_25 : decode cJ5_append_c97b9 25 = .ok (.iload_n 3, 1) := by decide +kernel
theorem dJ5_append_c97b9_26 : decode cJ5_append_c97b9 26 = .ok (.aload_n 0, 1) := by decide +kernel
theorem dJ5_append_c97b9_27 : decode cJ5_append_c97b9 27 = .ok (.getfield 15, 3) := by decide +kernel
theorem dJ5_append_c97b9_30 : decode cJ5_append_c97b9 30 = .ok (.invokestatic 248, 3) := by decide +kernel
theorem dJ5_append_c97b9_33 : decode cJ5_append_c97b9 33 = .ok (.pop, 1) := by decide +kernel
theorem dJ5_append_c97b9_34 : decode cJ5_append_c97b9 34 = .ok (.goto 14, 3) := by decide +kernel
theorem dJ5_append_c97b9_37 : decode cJ5_append_c97b9 37 = .ok (.iload_n 1, 1) := by decide +kernel
theorem dJ5_append_c97b9_38 : decode cJ5_append_c97b9 38 = .ok (.iload_n 2, 1) := by decide +kernel
theorem dJ5_append_c97b9_39 : decode cJ5_append_c97b9 39 = .ok (.iload_n 3, 1) := by decide +kernel
theorem dJ5_append_c97b9_40 : decode cJ5_append_c97b9 40 = .ok (.aload_n 0, 1) := by decide +kernel
theorem dJ5_append_c97b9_41 : decode cJ5_append_c97b9 41 = .ok (.getfield 15, 3) := by decide +kernel
theorem dJ5_append_c97b9_44 : decode cJ5_append_c97b9 44 = .ok (.invokestatic 251, 3) := by decide +kernel
theorem dJ5_append_c97b9_47 : decode cJ5_append_c97b9 47 = .ok (.pop, 1) := by decide +kernel
theorem dJ5_append_c97b9_48 : decode cJ5_append_c97b9 48 = .ok (.aload_n 0, 1) := by decide +kernel
theorem dJ5_append_c97b9_49 : decode cJ5_append_c97b9 49 = .ok (.iload_n 3, 1) := by decide +kernel
theorem dJ5_append_c97b9_50 : decode cJ5_append_c97b9 50 = .ok (.putfield 79, 3) := by decide +kernel
theorem dJ5_append_c97b9_53 : decode cJ5_append_c97b9 53 = .ok (.aload_n 0, 1) := by decide +kernel
theorem dJ5_append_c97b9_54 : decode cJ5_append_c97b9 54 = .ok (.areturn, 1) := by decide +kernel
theorem dJ5_isLatin1_aae02_0 : decode cJ5_isLatin1_aae02 0 = .ok (.getstatic 18, 3) := by decide +kernel
theorem dJ5_isLatin1_aae02_3 : decode cJ5_isLatin1_aae02 3 = .ok (.ifCond .eq 14, 3) := by decide +kernel
theorem dJ5_isLatin1_aae02_6 : decode cJ5_isLatin1_aae02 6 = .ok (.aload_n 0, 1) := by decide +kernel
theorem dJ5_isLatin1_aae02_7 : decode cJ5_isLatin1_aae02 7 = .ok (.getfield 22, 3) := by decide +kernel
theorem dJ5_isLatin1_aae02_10 : decode cJ5_isLatin1_aae02 10 = .ok (.ifCond .ne 7, 3) := by decide +kernel
theorem dJ5_isLatin1_aae02_13 : decode cJ5_isLatin1_aae02 13 = .ok (.iconst 1, 1) := by decide +kernel
theorem dJ5_isLatin1_aae02_14 : decode cJ5_isLatin1_aae02 14 = .ok (.goto 4, 3) := by decide +kernel
theorem dJ5_isLatin1_aae02_17 : decode cJ5_isLatin1_aae02 17 = .ok (.iconst 0, 1) := by decide +kernel
theorem dJ5_isLatin1_aae02_18 : decode cJ5_isLatin1_aae02 18 = .ok (.ireturn, 1) := by decide +kernel
theorem dJx29ce0_ordinal_8abf5_0 : decode cJx29ce0_ordinal_8abf5 0 = .ok (.aload_n 0, 1) := by decide +kernel
theorem dJx29ce0_ordinal_8abf5_1 : decode cJx29ce0_ordinal_8abf5 1 = .ok (.getfield 7, 3) := by decide +kernel
theorem dJx29ce0_ordinal_8abf5_4 : decode cJx29ce0_ordinal_8abf5 4 = .ok (.ireturn, 1) := by decide +kernel
theorem dJ6_getChars_ba4f3_0 : decode cJ6_getChars_ba4f3 0 = .ok (.iload_n 1, 1) := by decide +kernel
theorem dJ6_getChars_ba4f3_1 : decode cJ6_getChars_ba4f3 1 = .ok (.istore 5, 2) := by decide +kernel
theorem dJ6_getChars_ba4f3_3 : decode cJ6_getChars_ba4f3 3 = .ok (.iload_n 0, 1) := by decide +kernel
theorem dJ6_getChars_ba4f3_4 : decode cJ6_getChars_ba4f3 4 = .ok (.ifCond .ge 7, 3) := by decide +kernel
theorem dJ6_getChars_ba4f3_7 : decode cJ6_getChars_ba4f3 7 = .ok (.iconst 1, 1) := by decide +kernel
theorem dJ6_getChars_ba4f3_8 : decode cJ6_getChars_ba4f3 8 = .ok (.goto 4, 3) := by decide +kernel
theorem dJ6_getChars_ba4f3_11 : decode cJ6_getChars_ba4f3 11 = .ok (.iconst 0, 1) := by decide +kernel
theorem dJ6_getChars_ba4f3_12 : decode cJ6_getChars_ba4f3 12 = .ok (.istore 6, 2) := by decide +kernel
theorem dJ6_getChars_ba4f3_14 : decode cJ6_getChars_ba4f3 14 = .ok (.iload 6, 2) := by decide +kernel
theorem dJ6_getChars_ba4f3_16 : decode cJ6_getChars_ba4f3 16 = .ok (.ifCond .ne 6, 3) := by decide +kernel
theorem dJ6_getChars_ba4f3_19 : decode cJ6_getChars_ba4f3 19 = .ok (.iload_n 0, 1) := by decide +kernel
theorem dJ6_getChars_ba4f3_20 : decode cJ6_getChars_ba4f3 20 = .ok (.ineg, 1) := by decide +kernel
theorem dJ6_getChars_ba4f3_21 : decode cJ6_getChars_ba4f3 21 = .ok (.istore_n 0, 1) := by decide +kernel
theorem dJ6_getChars_ba4f3_22 : decode cJ6_getChars_ba4f3 22 = .ok (.iload_n 0, 1) := by decide +kernel
theorem dJ6_getChars_ba4f3_23 : decode cJ6_getChars_ba4f3 23 = .ok (.bipush (-100), 2) := by decide +kernel
theorem dJ6_getChars_ba4f3_25 : decode cJ6_getChars_ba4f3 25 = .ok (.if_icmp .gt 47, 3) := by decide +kernel
theorem dJ6_getChars_ba4f3_28 : decode cJ6_getChars_ba4f3 28 = .ok (.iload_n 0, 1) := by decide +kernel
theorem dJ6_getChars_ba4f3_29 : decode cJ6_getChars_ba4f3 29 = .ok (.bipush 100, 2) := by decide +kernel
theorem dJ6_getChars_ba4f3_31 : decode cJ6_getChars_ba4f3 31 = .ok (.idiv, 1) := by decide +kernel
theorem dJ6_getChars_ba4f3_32 : decode cJ6_getChars_ba4f3 32 = .ok (.istore_n 3, 1) := by decide +kernel
theorem dJ6_getChars_ba4f3_33 : decode cJ6_getChars_ba4f3 33 = .ok (.iload_n 3, 1) := by decide +kernel
theorem dJ6_getChars_ba4f3_34 : decode cJ6_getChars_ba4f3 34 = .ok (.bipush 100, 2) := by decide +kernel
theorem dJ6_getChars_ba4f3_36 : decode cJ6_getChars_ba4f3 36 = .ok (.imul, 1) := by decide +kernel
theorem dJ6_getChars_ba4f3_37 : decode cJ6_getChars_ba4f3 37 = .ok (.iload_n 0, 1) := by decide +kernel
theorem dJ6_getChars_ba4f3_38 : decode cJ6_getChars_ba4f3 38 = .ok (.isub, 1) := by decide +kernel
theorem dJ6_getChars_ba4f3_39 : decode cJ6_getChars_ba4f3 39 = .ok (.istore 4, 2) := by decide +kernel
theorem dJ6_getChars_ba4f3_41 : decode cJ6_getChars_ba4f3 41 = .ok (.iload_n 3, 1) := by decide +kernel
theorem dJ6_getChars_ba4f3_42 : decode cJ6_getChars_ba4f3 42 = .ok (.istore_n 0, 1) := by decide +kernel
theorem dJ6_getChars_ba4f3_43 : decode cJ6_getChars_ba4f3 43 = .ok (.aload_n 2, 1) := by decide +kernel
theorem dJ6_getChars_ba4f3_44 : decode cJ6_getChars_ba4f3 44 = .ok (.iinc 5 (-1), 3) := by decide +kernel
theorem dJ6_getChars_ba4f3_47 : decode cJ6_getChars_ba4f3 47 = .ok (.iload 5, 2) := by decide +kernel
theorem dJ6_getChars_ba4f3_49 : decode cJ6_getChars_ba4f3 49 = .ok (.getstatic 83, 3) := by decide +kernel
theorem dJ6_getChars_ba4f3_52 : decode cJ6_getChars_ba4f3 52 = .ok (.iload 4, 2) := by decide +kernel
theorem dJ6_getChars_ba4f3_54 : decode cJ6_getChars_ba4f3 54 = .ok (.baload, 1) := by decide +kernel
theorem dJ6_getChars_ba4f3_55 : decode cJ6_getChars_ba4f3 55 = .ok (.bastore, 1) := by decide +kernel
theorem dJ6_getChars_ba4f3_56 : decode cJ6_getChars_ba4f3 56 = .ok (.aload_n 2, 1) := by decide +kernel
theorem dJ6_getChars_ba4f3_57 : decode cJ6_getChars_ba4f3 57 = .ok (.iinc 5 (-1), 3) := by decide +kernel
theorem dJ6_getChars_ba4f3_60 : decode cJ6_getChars_ba4f3 60 = .ok (.iload 5, 2) := by decide +kernel
theorem dJ6_getChars_ba4f3_62 : decode cJ6_getChars_ba4f3 62 = .ok (.getstatic 87, 3) := by decide +kernel
theorem dJ6_getChars_ba4f3_65 : decode cJ6_getChars_ba4f3 65 = .ok (.iload 4, 2) := by decide +kernel
theorem dJ6_getChars_ba4f3_67 : decode cJ6_getChars_ba4f3 67 = .ok (.baload, 1) := by decide +kernel
theorem dJ6_getChars_ba4f3_68 : decode cJ6_getChars_ba4f3 68 = .ok (.bastore, 1) := by decide +kernel
theorem dJ6_getChars_ba4f3_69 : decode cJ6_getChars_ba4f3 69 = .ok (.goto (-47), 3) := by decide +kernel
theorem dJ6_getChars_ba4f3_72 : decode cJ6_getChars_ba4f3 72 = .ok (.aload_n 2, 1) := by decide +kernel
theorem dJ6_getChars_ba4f3_73 : decode cJ6_getChars_ba4f3 73 = .ok (.iinc 5 (-1), 3) := by decide +kernel
theorem dJ6_getChars_ba4f3_76 : decode cJ6_getChars_ba4f3 76 = .ok (.iload 5, 2) := by decide +kernel
theorem dJ6_getChars_ba4f3_78 : decode cJ6_getChars_ba4f3 78 = .ok (.getstatic 83, 3) := by decide +kernel
theorem dJ6_getChars_ba4f3_81 : decode cJ6_getChars_ba4f3 81 = .ok (.iload_n 0, 1) := by decide +kernel
theorem dJ6_getChars_ba4f3_82 : decode cJ6_getChars_ba4f3 82 = .ok (.ineg, 1) := by decide +kernel
theorem dJ6_getChars_ba4f3_83 : decode cJ6_getChars_ba4f3 83 = .ok (.baload, 1) := by decide +kernel
theorem dJ6_getChars_ba4f3_84 : decode cJ6_getChars_ba4f3 84 = .ok (.bastore, 1) := by decide +kernel
theorem dJ6_getChars_ba4f3_85 : decode cJ6_getChars_ba4f3 85 = .ok (.iload_n 0, 1) := by decide +kernel
theorem dJ6_getChars_ba4f3_86 : decode cJ6_getChars_ba4f3 86 = .ok (.bipush (-9), 2) := by decide +kernel
theorem dJ6_getChars_ba4f3_88 : decode cJ6_getChars_ba4f3 88 = .ok (.if_icmp .ge 16, 3) := by decide +kernel
theorem dJ6_getChars_ba4f3_91 : decode cJ6_getChars_ba4f3 91 = .ok (.aload_n 2, 1) := by decide +kernel
theorem dJ6_getChars_ba4f3_92 : decode cJ6_getChars_ba4f3 92 = .ok (.iinc 5 (-1), 3) := by decide +kernel
theorem dJ6_getChars_ba4f3_95 : decode cJ6_getChars_ba4f3 95 = .ok (.iload 5, 2) := by decide +kernel
theorem dJ6_getChars_ba4f3_97 : decode cJ6_getChars_ba4f3 97 = .ok (.getstatic 87, 3) := by decide +kernel
theorem dJ6_getChars_ba4f3_100 : decode cJ6_getChars_ba4f3 100 = .ok (.iload_n 0, 1) := by decide +kernel
theorem dJ6_getChars_ba4f3_101 : decode cJ6_getChars_ba4f3 101 = .ok (.ineg, 1) := by decide +kernel
theorem dJ6_getChars_ba4f3_102 : decode cJ6_getChars_ba4f3 102 = .ok (.baload, 1) := by decide +kernel
theorem dJ6_getChars_ba4f3_103 : decode cJ6_getChars_ba4f3 103 = .ok (.bastore, 1) := by decide +kernel
theorem dJ6_getChars_ba4f3_104 : decode cJ6_getChars_ba4f3 104 = .ok (.iload 6, 2) := by decide +kernel
theorem dJ6_getChars_ba4f3_106 : decode cJ6_getChars_ba4f3 106 = .ok (.ifCond .eq 12, 3) := by decide +kernel
theorem dJ6_getChars_ba4f3_109 : decode cJ6_getChars_ba4f3 109 = .ok (.aload_n 2, 1) := by decide +kernel
theorem dJ6_getChars_ba4f3_110 : decode cJ6_getChars_ba4f3 110 = .ok (.iinc 5 (-1), 3) := by decide +kernel
theorem dJ6_getChars_ba4f3_113 : decode cJ6_getChars_ba4f3 113 = .ok (.iload 5, 2) := by decide +kernel
theorem dJ6_getChars_ba4f3_115 : decode cJ6_getChars_ba4f3 115 = .ok (.bipush 45, 2) := by decide +kernel
theorem dJ6_getChars_ba4f3_117 : decode cJ6_getChars_ba4f3 117 = .ok (.bastore, 1) := by decide +kernel
theorem dJ6_getChars_ba4f3_118 : decode cJ6_getChars_ba4f3 118 = .ok (.iload 5, 2) := by decide +kernel
theorem dJ6_getChars_ba4f3_120 : decode cJ6_getChars_ba4f3 120 = .ok (.ireturn, 1) := by decide +kernel
theorem dJ6_stringSize_0f7a4_0 : decode cJ6_stringSize_0f7a4 0 = .ok (.iconst 1, 1) := by decide +kernel
theorem dJ6_stringSize_0f7a4_1 : decode cJ6_stringSize_0f7a4 1 = .ok (.istore_n 1, 1) := by decide +kernel
theorem dJ6_stringSize_0f7a4_2 : decode cJ6_stringSize_0f7a4 2 = .ok (.iload_n 0, 1) := by decide +kernel
theorem dJ6_stringSize_0f7a4_3 : decode cJ6_stringSize_0f7a4 3 = .ok (.ifCond .lt 8, 3) := by decide +kernel
theorem dJ6_stringSize_0f7a4_6 : decode cJ6_stringSize_0f7a4 6 = .ok (.iconst 0, 1) := by decide +kernel
theorem dJ6_stringSize_0f7a4_7 : decode cJ6_stringSize_0f7a4 7 = .ok (.istore_n 1, 1) := by decide +kernel
theorem dJ6_stringSize_0f7a4_8 : decode cJ6_stringSize_0f7a4 8 = .ok (.iload_n 0, 1) := by decide +kernel
theorem dJ6_stringSize_0f7a4_9 : decode cJ6_stringSize_0f7a4 9 = .ok (.ineg, 1) := by decide +kernel
theorem dJ6_stringSize_0f7a4_10 : decode cJ6_stringSize_0f7a4 10 = .ok (.istore_n 0, 1) := by decide +kernel
theorem dJ6_stringSize_0f7a4_11 : decode cJ6_stringSize_0f7a4 11 = .ok (.bipush (-10), 2) := by decide +kernel
theorem dJ6_stringSize_0f7a4_13 : decode cJ6_stringSize_0f7a4 13 = .ok (.istore_n 2, 1) := by decide +kernel
theorem dJ6_stringSize_0f7a4_14 : decode cJ6_stringSize_0f7a4 14 = .ok (.iconst 1, 1) := by decide +kernel
theorem dJ6_stringSize_0f7a4_15 : decode cJ6_stringSize_0f7a4 15 = .ok (.istore_n 3, 1) := by decide +kernel
theorem dJ6_stringSize_0f7a4_16 : decode cJ6_stringSize_0f7a4 16 = .ok (.iload_n 3, 1) := by decide +kernel
theorem dJ6_stringSize_0f7a4_17 : decode cJ6_stringSize_0f7a4 17 = .ok (.bipush 10, 2) := by decide +kernel
theorem dJ6_stringSize_0f7a4_19 : decode cJ6_stringSize_0f7a4 19 = .ok (.if_icmp .ge 23, 3) := by decide +kernel
theorem dJ6_stringSize_0f7a4_22 : decode cJ6_stringSize_0f7a4 22 = .ok (.iload_n 0, 1) := by decide +kernel
theorem dJ6_stringSize_0f7a4_23 : decode cJ6_stringSize_0f7a4 23 = .ok (.iload_n 2, 1) := by decide +kernel
theorem dJ6_stringSize_0f7a4_24 : decode cJ6_stringSize_0f7a4 24 = .ok (.if_icmp .le 7, 3) := by decide +kernel
theorem dJ6_stringSize_0f7a4_27 : decode cJ6_stringSize_0f7a4 27 = .ok (.iload_n 3, 1) := by decide +kernel
theorem dJ6_stringSize_0f7a4_28 : decode cJ6_stringSize_0f7a4 28 = .ok (.iload_n 1, 1) := by decide +kernel
theorem dJ6_stringSize_0f7a4_29 : decode cJ6_stringSize_0f7a4 29 = .ok (.iadd, 1) := by decide +kernel
theorem dJ6_stringSize_0f7a4_30 : decode cJ6_stringSize_0f7a4 30 = .ok (.ireturn, 1) := by decide +kernel
theorem dJ6_stringSize_0f7a4_31 : decode cJ6_stringSize_0f7a4 31 = .ok (.bipush 10, 2) := by decide +kernel
theorem dJ6_stringSize_0f7a4_33 : decode cJ6_stringSize_0f7a4 33 = .ok (.iload_n 2, 1) := by decide +kernel
theorem dJ6_stringSize_0f7a4_34 : decode cJ6_stringSize_0f7a4 34 = .ok (.imul, 1) := by decide +kernel
theorem dJ6_stringSize_0f7a4_35 : decode cJ6_stringSize_0f7a4 35 = .ok (.istore_n 2, 1) := by decide +kernel
theorem dJ6_stringSize_0f7a4_36 : decode cJ6_stringSize_0f7a4 36 = .ok (.iinc 3 1, 3) := by decide +kernel
theorem dJ6_stringSize_0f7a4_39 : decode cJ6_stringSize_0f7a4 39 = .ok (.goto (-23), 3) := by decide +kernel
theorem dJ6_stringSize_0f7a4_42 : decode cJ6_stringSize_0f7a4 42 = .ok (.bipush 10, 2) := by decide +kernel
theorem dJ6_stringSize_0f7a4_44 : decode cJ6_stringSize_0f7a4 44 = .ok (.iload_n 1, 1) := by decide +kernel
theorem dJ6_stringSize_0f7a4_45 : decode cJ6_stringSize_0f7a4 45 = .ok (.iadd, 1) := by decide +kernel
theorem dJ6_stringSize_0f7a4_46 : decode cJ6_stringSize_0f7a4 46 = .ok (.ireturn, 1) := by decide +kernel
theorem dJ9_abs_0f7a4_0 : decode cJ9_abs_0f7a4 0 = .ok (.iload_n 0, 1) := by decide +kernel
theorem dJ9_abs_0f7a4_1 : decode cJ9_abs_0f7a4 1 = .ok (.ifCond .ge 8, 3) := by decide +kernel
theorem dJ9_abs_0f7a4_4 : decode cJ9_abs_0f7a4 4 = .ok (.iload_n 0, 1) := by decide +kernel
theorem dJ9_abs_0f7a4_5 : decode cJ9_abs_0f7a4 5 = .ok (.ineg, 1) := by decide +kernel
theorem dJ9_abs_0f7a4_6 : decode cJ9_abs_0f7a4 6 = .ok (.goto 4, 3) := by decide +kernel
theorem dJ9_abs_0f7a4_9 : decode cJ9_abs_0f7a4 9 = .ok (.iload_n 0, 1) := by decide +kernel
theorem dJ9_abs_0f7a4_10 : decode cJ9_abs_0f7a4 10 = .ok (.ireturn, 1) := by decide +kernel
theorem dJ9_max_7cf53_0 : decode cJ9_max_7cf53 0 = .ok (.iload_n 0, 1) := by decide +kernel
theorem dJ9_max_7cf53_1 : decode cJ9_max_7cf53 1 = .ok (.iload_n 1, 1) := by decide +kernel
theorem dJ9_max_7cf53_2 : decode cJ9_max_7cf53 2 = .ok (.if_icmp .lt 7, 3) := by decide +kernel
theorem dJ9_max_7cf53_5 : decode cJ9_max_7cf53 5 = .ok (.iload_n 0, 1) := by decide +kernel
theorem dJ9_max_7cf53_6 : decode cJ9_max_7cf53 6 = .ok (.goto 4, 3) := by decide +kernel
theorem dJ9_max_7cf53_9 : decode cJ9_max_7cf53 9 = .ok (.iload_n 1, 1) := by decide +kernel
theorem dJ9_max_7cf53_10 : decode cJ9_max_7cf53 10 = .ok (.ireturn, 1) := by decide +kernel
theorem dJ9_min_7cf53_0 : decode cJ9_min_7cf53 0 = .ok (.iload_n 0, 1) := by decide +kernel
theorem dJ9_min_7cf53_1 : decode cJ9_min_7cf53 1 = .ok (.iload_n 1, 1) := by decide +kernel
theorem dJ9_min_7cf53_2 : decode cJ9_min_7cf53 2 = .ok (.if_icmp .gt 7, 3) := by decide +kernel
theorem dJ9_min_7cf53_5 : decode cJ9_min_7cf53 5 = .ok (.iload_n 0, 1) := by decide +kernel
theorem dJ9_min_7cf53_6 : decode cJ9_min_7cf53 6 = .ok (.goto 4, 3) := by decide +kernel
theorem dJ9_min_7cf53_9 : decode cJ9_min_7cf53 9 = .ok (.iload_n 1, 1) := by decide +kernel
theorem dJ9_min_7cf53_10 : decode cJ9_min_7cf53 10 = .ok (.ireturn, 1) := by decide +kernel
set_option maxRecDepth 20000 in
theorem ggJ0_length_8abf5_J0_coder_7d493 : GoodIn wsJ0_length_8abf5 wsJ0_coder_7d493 := goodIn_r _ [6, 7, 8] (by decide +kernel) (by decide +kernel)
set_option maxRecDepth 20000 in
theorem gJ0_length_8abf5_J0_coder_7d493 : GoodIn wsJ0_length_8abf5 (wsV RJ0 335 RJ0 yJ0_coder_7d493 wsJ0_coder_7d493) := goodIn_app (goodIn_of _ (by decide +kernel)) ggJ0_length_8abf5_J0_coder_7d493
theorem dJ0_length_8abf5_0 : decode cJ0_length_8abf5 0 = .ok (.aload_n 0, 1) := by decide +kernel
theorem dJ0_length_8abf5_1 : decode cJ0_length_8abf5 1 = .ok (.getfield 9, 3) := by decide +kernel
theorem dJ0_length_8abf5_4 : decode cJ0_length_8abf5 4 = .ok (.arraylength, 1) := by decide +kernel
theorem dJ0_length_8abf5_5 : decode cJ0_length_8abf5 5 = .ok (.aload_n 0, 1) := by decide +kernel
theorem dJ0_length_8abf5_6 : decode cJ0_length_8abf5 6 = .ok (.invokevirtual 335, 3) := by decide +kernel
theorem dJ0_length_8abf5_9 : decode cJ0_length_8abf5 9 = .ok (.ishr, 1) := by decide +kernel
theorem dJ0_length_8abf5_10 : decode cJ0_length_8abf5 10 = .ok (.ireturn, 1) := by decide +kernel
set_option maxRecDepth 20000 in
theorem ggJ0_charAt_5068e_J0_isLatin1_aae02 : GoodIn wsJ0_charAt_5068e wsJ0_isLatin1_aae02 := goodIn_r _ [6, 7, 8] (by decide +kernel) (by decide +kernel)
set_option maxRecDepth 20000 in
theorem gJ0_charAt_5068e_J0_isLatin1_aae02 : GoodIn wsJ0_charAt_5068e (wsV RJ0 492 RJ0 yJ0_isLatin1_aae02 wsJ0_isLatin1_aae02) := goodIn_app (goodIn_of _ (by decide +kernel)) ggJ0_charAt_5068e_J0_isLatin1_aae02
set_option maxRecDepth 20000 in
theorem ggJ0_charAt_5068e_J1_charAt_3b067 : GoodIn wsJ0_charAt_5068e wsJ1_charAt_3b067 := goodIn_r _ [12, 13, 14, 5, 15, 16, 17, 18, 19, 20] (by decide +kernel) (by decide +kernel)
set_option maxRecDepth 20000 in
theorem gJ0_charAt_5068e_J1_charAt_3b067 : GoodIn wsJ0_charAt_5068e (va_wsS RJ0 495 yJ1_charAt_3b067 wsJ1_charAt_3b067) := goodIn_app (goodIn_of _ (by decide +kernel)) ggJ0_charAt_5068e_J1_charAt_3b067
set_option maxRecDepth 20000 in
theorem ggJ0_charAt_5068e_J2_charAt_3b067 : GoodIn wsJ0_charAt_5068e wsJ2_charAt_3b067 := goodIn_r _ [24, 25, 26, 23, 27, 28, 29, 30, 31, 14, 5, 15, 16, 17, 18, 19, 20, 32, 33, 34, 35, 36, 37] (by decide +kernel) (by decide +kernel)
set_option maxRecDepth 20000 in
theorem gJ0_charAt_5068e_J2_charAt_3b067 : GoodIn wsJ0_charAt_5068e (va_wsS RJ0 498 yJ2_charAt_3b067 wsJ2_charAt_3b067) := goodIn_app (goodIn_of _ (by decide +kernel)) ggJ0_charAt_5068e_J2_charAt_3b067
theorem dJ0_charAt_5068e_0 : decode cJ0_charAt_5068e 0 = .ok (.aload_n 0, 1) := by decide +kernel
theorem dJ0_charAt_5068e_1 : decode cJ0_charAt_5068e 1 = .ok (.invokevirtual 492, 3) := by decide +kernel
theorem dJ0_charAt_5068e_4 : decode cJ0_charAt_5068e 4 = .ok (.ifCond .eq 12, 3) := by decide +kernel
theorem dJ0_charAt_5068e_7 : decode cJ0_charAt_5068e 7 = .ok (.aload_n 0, 1) := by decide +kernel
theorem dJ0_charAt_5068e_8 : decode cJ0_charAt_5068e 8 = .ok (.getfield 9, 3) := by decide +kernel
theorem dJ0_charAt_5068e_11 : decode cJ0_charAt_5068e 11 = .ok (.iload_n 1, 1) := by decide +kernel
theorem dJ0_charAt_5068e_12 : decode cJ0_charAt_5068e 12 = .ok (.invokestatic 495, 3) := by decide +kernel
theorem dJ0_charAt_5068e_15 : decode cJ0_charAt_5068e 15 = .ok (.ireturn, 1) := by decide +kernel
theorem dJ0_charAt_5068e_16 : decode cJ0_charAt_5068e 16 = .ok (.aload_n 0, 1) := by decide +kernel
theorem dJ0_charAt_5068e_17 : decode cJ0_charAt_5068e 17 = .ok (.getfield 9, 3) := by decide +kernel
theorem dJ0_charAt_5068e_20 : decode cJ0_charAt_5068e 20 = .ok (.iload_n 1, 1) := by decide +kernel
theorem dJ0_charAt_5068e_21 : decode cJ0_charAt_5068e 21 = .ok (.invokestatic 498, 3) := by decide +kernel
theorem dJ0_charAt_5068e_24 : decode cJ0_charAt_5068e 24 = .ok (.ireturn, 1) := by decide +kernel
theorem dJ0_coder_7d493_0 : decode cJ0_coder_7d493 0 = .ok (.getstatic 38, 3) := by decide +kernel
theorem dJ0_coder_7d493_3 : decode cJ0_coder_7d493 3 = .ok (.ifCond .eq 10, 3) := by decide +kernel
theorem dJ0_coder_7d493_6 : decode cJ0_coder_7d493 6 = .ok (.aload_n 0, 1) := by decide +kernel
theorem dJ0_coder_7d493_7 : decode cJ0_coder_7d493 7 = .ok (.getfield 15, 3) := by decide +kernel
theorem dJ0_coder_7d493_10 : decode cJ0_coder_7d493 10 = .ok (.goto 4, 3) := by decide +kernel
theorem dJ0_coder_7d493_13 : decode cJ0_coder_7d493 13 = .ok (.iconst 1, 1) := by decide +kernel
theorem dJ0_coder_7d493_14 : decode cJ0_coder_7d493 14 = .ok (.ireturn, 1) := by decide +kernel
theorem dJ0_isLatin1_aae02_0 : decode cJ0_isLatin1_aae02 0 = .ok (.getstatic 38, 3) := by decide +kernel
theorem dJ0_isLatin1_aae02_3 : decode cJ0_isLatin1_aae02 3 = .ok (.ifCond .eq 14, 3) := by decide +kernel
theorem dJ0_isLatin1_aae02_6 : decode cJ0_isLatin1_aae02 6 = .ok (.aload_n 0, 1) := by decide +kernel
theorem dJ0_isLatin1_aae02_7 : decode cJ0_isLatin1_aae02 7 = .ok (.getfield 15, 3) := by decide +kernel
theorem dJ0_isLatin1_aae02_10 : decode cJ0_isLatin1_aae02 10 = .ok (.ifCond .ne 7, 3) := by decide +kernel
theorem dJ0_isLatin1_aae02_13 : decode cJ0_isLatin1_aae02 13 = .ok (.iconst 1, 1) := by decide +kernel
theorem dJ0_isLatin1_aae02_14 : decode cJ0_isLatin1_aae02 14 = .ok (.goto 4, 3) := by decide +kernel
theorem dJ0_isLatin1_aae02_17 : decode cJ0_isLatin1_aae02 17 = .ok (.iconst 0, 1) := by decide +kernel
theorem dJ0_isLatin1_aae02_18 : decode cJ0_isLatin1_aae02 18 = .ok (.ireturn, 1) := by decide +kernel
set_option maxRecDepth 20000 in
theorem ggJ0_checkIndex_df160_J3_checkIndex_8e157 : GoodIn wsJ0_checkIndex_df160 wsJ3_checkIndex_8e157 := goodIn_r _ [5] (by decide +kernel) (by decide +kernel)
set_option maxRecDepth 20000 in
theorem gJ0_checkIndex_df160_J3_checkIndex_8e157 : GoodIn wsJ0_checkIndex_df160 (va_wsS RJ0 1059 yJ3_checkIndex_8e157 wsJ3_checkIndex_8e157) := goodIn_app (goodIn_of _ (by decide +kernel)) ggJ0_checkIndex_df160_J3_checkIndex_8e157
theorem dJ0_checkIndex_df160_0 : decode cJ0_checkIndex_df160 0 = .ok (.iload_n 0, 1) := by decide +kernel
theorem dJ0_checkIndex_df160_1 : decode cJ0_checkIndex_df160 1 = .ok (.iload_n 1, 1) := by decide +kernel
theorem dJ0_checkIndex_df160_2 : decode cJ0_checkIndex_df160 2 = .ok (.getstatic 1053, 3) := by decide +kernel
theorem dJ0_checkIndex_df160_5 : decode cJ0_checkIndex_df160 5 = .ok (.invokestatic 1059, 3) := by decide +kernel
theorem dJ0_checkIndex_df160_8 : decode cJ0_checkIndex_df160 8 = .ok (.pop, 1) := by decide +kernel
theorem dJ0_checkIndex_df160_9 : decode cJ0_checkIndex_df160 9 = .ok (.return_, 1) := by decide +kernel
set_option maxRecDepth 20000 in
theorem ggJ0_checkBoundsOffCount_cabcc_J3_checkFromIndexSize_8c36e : GoodIn wsJ0_checkBoundsOffCount_cabcc wsJ3_checkFromIndexSize_8c36e := goodIn_r _ [5] (by decide +kernel) (by decide +kernel)
set_option maxRecDepth 20000 in
theorem gJ0_checkBoundsOffCount_cabcc_J3_checkFromIndexSize_8c36e : GoodIn wsJ0_checkBoundsOffCount_cabcc (va_wsS RJ0 1065 yJ3_checkFromIndexSize_8c36e wsJ3_checkFromIndexSize_8c36e) := goodIn_app (goodIn_of _ (by decide +kernel)) ggJ0_checkBoundsOffCount_cabcc_J3_checkFromIndexSize_8c36e
theorem dJ0_checkBoundsOffCount_cabcc_0 : decode cJ0_checkBoundsOffCount_cabcc 0 = .ok (.iload_n 0, 1) := by decide +kernel
theorem dJ0_checkBoundsOffCount_cabcc_1 : decode cJ0_checkBoundsOffCount_cabcc 1 = .ok (.iload_n 1, 1) := by decide +kernel
theorem dJ0_checkBoundsOffCount_cabcc_2 : decode cJ0_checkBoundsOffCount_cabcc 2 = .ok (.iload_n 2, 1) := by decide +kernel
theorem dJ0_checkBoundsOffCount_cabcc_3 : decode cJ0_checkBoundsOffCount_cabcc 3 = .ok (.getstatic 1053, 3) := by decide +kernel
theorem dJ0_checkBoundsOffCount_cabcc_6 : decode cJ0_checkBoundsOffCount_cabcc 6 = .ok (.invokestatic 1065, 3) := by decide +kernel
theorem dJ0_checkBoundsOffCount_cabcc_9 : decode cJ0_checkBoundsOffCount_cabcc 9 = .ok (.ireturn, 1) := by decide +kernel
set_option maxRecDepth 20000 in
theorem ggJ0_checkBoundsBeginEnd_23922_J3_checkFromToIndex_8c36e : GoodIn wsJ0_checkBoundsBeginEnd_23922 wsJ3_checkFromToIndex_8c36e := goodIn_r _ [5] (by decide +kernel) (by decide +kernel)
set_option maxRecDepth 20000 in
theorem gJ0_checkBoundsBeginEnd_23922_J3_checkFromToIndex_8c36e : GoodIn wsJ0_checkBoundsBeginEnd_23922 (va_wsS RJ0 1062 yJ3_checkFromToIndex_8c36e wsJ3_checkFromToIndex_8c36e) := goodIn_app (goodIn_of _ (by decide +kernel)) ggJ0_checkBoundsBeginEnd_23922_J3_checkFromToIndex_8c36e
theorem dJ0_checkBoundsBeginEnd_23922_0 : decode cJ0_checkBoundsBeginEnd_23922 0 = .ok (.iload_n 0, 1) := by decide +kernel
theorem dJ0_checkBoundsBeginEnd_23922_1 : decode cJ0_checkBoundsBeginEnd_23922 1 = .ok (.iload_n 1, 1) := by decide +kernel
theorem dJ0_checkBoundsBeginEnd_23922_2 : decode cJ0_checkBoundsBeginEnd_23922 2 = .ok (.iload_n 2, 1) := by decide +kernel
theorem dJ0_checkBoundsBeginEnd_23922_3 : decode cJ0_checkBoundsBeginEnd_23922 3 = .ok (.getstatic 1053, 3) := by decide +kernel
theorem dJ0_checkBoundsBeginEnd_23922_6 : decode cJ0_checkBoundsBeginEnd_23922 6 = .ok (.invokestatic 1062, 3) := by decide +kernel
theorem dJ0_checkBoundsBeginEnd_23922_9 : decode cJ0_checkBoundsBeginEnd_23922 9 = .ok (.pop, 1) := by decide +kernel
theorem dJ0_checkBoundsBeginEnd_23922_10 : decode cJ0_checkBoundsBeginEnd_23922 10 = .ok (.return_, 1) := by decide +kernel
set_option maxRecDepth 20000 in
theorem ggJ4_init_da8c8_J5_init_d00df : GoodIn wsJ4_init_da8c8 wsJ5_init_d00df := goodIn_r _ [4, 5, 6, 7, 8, 9, 10, 11, 12, 13, 14, 15, 16, 17, 18, 19, 20, 21, 22, 23] (by decide +kernel) (by decide +kernel)
set_option maxRecDepth 20000 in
theorem gJ4_init_da8c8_J5_init_d00df : GoodIn wsJ4_init_da8c8 (wsJ5_init_d00df) := ggJ4_init_da8c8_J5_init_d00df
theorem dJ4_init_da8c8_0 : decode cJ4_init_da8c8 0 = .ok (.aload_n 0, 1) := by decide +kernel
theorem dJ4_init_da8c8_1 : decode cJ4_init_da8c8 1 = .ok (.bipush 16, 2) := by decide +kernel
theorem dJ4_init_da8c8_3 : decode cJ4_init_da8c8 3 = .ok (.invokespecial 1, 3) := by decide +kernel
theorem dJ4_init_da8c8_6 : decode cJ4_init_da8c8 6 = .ok (.return_, 1) := by decide +kernel
set_option maxRecDepth 20000 in
theorem ggJ4_append_cf468_J5_append_3fe6f : GoodIn wsJ4_append_cf468 wsJ5_append_3fe6f := goodIn_r _ [6, 7, 8, 9, 10, 11, 12, 5, 13, 14, 15, 16, 17, 18, 19, 20, 21, 22, 23, 24, 25, 26, 27, 28, 29, 30, 31, 32, 33, 34, 35, 36, 37, 38, 39, 40, 41, 42, 43, 44, 45, 46, 47, 48, 49, 50, 51, 52, 53, 54, 55, 56, 57, 58, 59, 60, 61, 62, 63, 64, 65, 66, 67, 68, 69, 70, 71, 72, 73, 74, 75, 76, 77, 78, 79, 80, 81, 82, 83, 84, 85, 86, 87, 88, 89, 90, 91, 92, 93, 94, 95, 96, 97, 98, 99, 100, 101, 102, 103, 104, 105, 106, 107, 108, 109, 110, 111, 112, 113, 114, 115, 116] (by decide +kernel) (by decide +kernel)
set_option maxRecDepth 20000 in
theorem gJ4_append_cf468_J5_append_3fe6f_s50 : GoodIn wsJ4_append_cf468 (va_wsSU RJ4 50 yJ5_append_3fe6f wsJ5_append_3fe6f) := goodIn_app (goodIn_of _ (by decide +kernel)) ggJ4_append_cf468_J5_append_3fe6f
theorem dJ4_append_cf468_0 : decode cJ4_append_cf468 0 = .ok (.aload_n 0, 1) := by decide +kernel
theorem dJ4_append_cf468_1 : decode cJ4_append_cf468 1 = .ok (.iload_n 1, 1) := by decide +kernel
theorem dJ4_append_cf468_2 : decode cJ4_append_cf468 2 = .ok (.invokespecial 50, 3) := by decide +kernel
theorem dJ4_append_cf468_5 : decode cJ4_append_cf468 5 = .ok (.pop, 1) := by decide +kernel
theorem dJ4_append_cf468_6 : decode cJ4_append_cf468 6 = .ok (.aload_n 0, 1) := by decide +kernel
theorem dJ4_append_cf468_7 : decode cJ4_append_cf468 7 = .ok (.areturn, 1) := by decide +kernel
set_option maxRecDepth 20000 in
theorem ggJ4_append_bf812_J5_append_c97b9 : GoodIn wsJ4_append_bf812 wsJ5_append_c97b9 := goodIn_r _ [6, 7, 8, 9, 10, 11, 12, 13, 14, 15, 16, 5, 17, 18, 19, 20, 21, 22, 23, 24, 25, 26, 27, 28, 29, 30, 31, 32, 33, 34, 35, 36, 37, 38, 39, 40, 41, 42, 43, 44, 45, 46, 47, 48, 49, 50, 51, 52, 53, 54, 55, 56, 57, 58, 59, 60, 61, 62, 63, 64, 65, 66, 67, 68, 69, 70, 71, 72, 73, 74, 75, 76, 77, 78, 79, 80, 81, 82, 83, 84, 85, 86, 87, 88, 89, 90, 91, 92, 93, 94, 95, 96, 97, 98, 99] (by decide +kernel) (by decide +kernel)
set_option maxRecDepth 20000 in
theorem gJ4_append_bf812_J5_append_c97b9_s53 : GoodIn wsJ4_append_bf812 (va_wsSU RJ4 53 yJ5_append_c97b9 wsJ5_append_c97b9) := goodIn_app (goodIn_of _ (by decide +kernel)) ggJ4_append_bf812_J5_append_c97b9
theorem dJ4_append_bf812_0 : decode cJ4_append_bf812 0 = .ok (.aload_n 0, 1) := by decide +kernel
theorem dJ4_append_bf812_1 : decode cJ4_append_bf812 1 = .ok (.iload_n 1, 1) := by decide +kernel
theorem dJ4_append_bf812_2 : decode cJ4_append_bf812 2 = .ok (.invokespecial 53, 3) := by decide +kernel
theorem dJ4_append_bf812_5 : decode cJ4_append_bf812 5 = .ok (.pop, 1) := by decide +kernel
theorem dJ4_append_bf812_6 : decode cJ4_append_bf812 6 = .ok (.aload_n 0, 1) := by decide +kernel
theorem dJ4_append_bf812_7 : decode cJ4_append_bf812 7 = .ok (.areturn, 1) := by decide +kernel
set_option maxRecDepth 20000 in
theorem ggJ4_charAt_5068e_J5_charAt_5068e : GoodIn wsJ4_charAt_5068e wsJ5_charAt_5068e := goodIn_r _ [6, 7, 8, 9, 10, 11, 12, 13, 14, 15, 16, 17, 18, 19, 20, 21, 22, 23, 24, 25, 26, 27, 28, 29, 30, 31, 32, 33, 34, 35, 36] (by decide +kernel) (by decide +kernel)
set_option maxRecDepth 20000 in
theorem gJ4_charAt_5068e_J5_charAt_5068e_s329 : GoodIn wsJ4_charAt_5068e (va_wsSU RJ4 329 yJ5_charAt_5068e wsJ5_charAt_5068e) := goodIn_app (goodIn_of _ (by decide +kernel)) ggJ4_charAt_5068e_J5_charAt_5068e
theorem dJ4_charAt_5068e_0 : decode cJ4_charAt_5068e 0 = .ok (.aload_n 0, 1) := by decide +kernel
theorem dJ4_charAt_5068e_1 : decode cJ4_charAt_5068e 1 = .ok (.iload_n 1, 1) := by decide +kernel
theorem dJ4_charAt_5068e_2 : decode cJ4_charAt_5068e 2 = .ok (.invokespecial 329, 3) := by decide +kernel
theorem dJ4_charAt_5068e_5 : decode cJ4_charAt_5068e 5 = .ok (.ireturn, 1) := by decide +kernel
set_option maxRecDepth 20000 in
theorem ggJ4_setLength_d00df_J5_setLength_d00df : GoodIn wsJ4_setLength_d00df wsJ5_setLength_d00df := goodIn_r _ [6, 7, 8, 9, 10, 11, 12, 13, 5, 14, 15, 16, 17, 18, 19, 20, 21, 22, 23, 24, 25, 26, 27, 28, 29, 30, 31, 32, 33, 34, 35, 36, 37, 38, 39, 40, 41, 42, 43, 44, 45, 46, 47, 48, 49, 50, 51, 52, 53, 54, 55, 56, 57, 58, 59, 60, 61, 62, 63, 64, 65, 66, 67, 68, 69, 70, 71, 72, 73, 74, 75, 76] (by decide +kernel) (by decide +kernel)
set_option maxRecDepth 20000 in
theorem gJ4_setLength_d00df_J5_setLength_d00df_s333 : GoodIn wsJ4_setLength_d00df (va_wsSU RJ4 333 yJ5_setLength_d00df wsJ5_setLength_d00df) := goodIn_app (goodIn_of _ (by decide +kernel)) ggJ4_setLength_d00df_J5_setLength_d00df
theorem dJ4_setLength_d00df_0 : decode cJ4_setLength_d00df 0 = .ok (.aload_n 0, 1) := by decide +kernel
theorem dJ4_setLength_d00df_1 : decode cJ4_setLength_d00df 1 = .ok (.iload_n 1, 1) := by decide +kernel
theorem dJ4_setLength_d00df_2 : decode cJ4_setLength_d00df 2 = .ok (.invokespecial 333, 3) := by decide +kernel
theorem dJ4_setLength_d00df_5 : decode cJ4_setLength_d00df 5 = .ok (.return_, 1) := by decide +kernel
set_option maxRecDepth 20000 in
theorem ggJ4_length_8abf5_J5_length_8abf5 : GoodIn wsJ4_length_8abf5 wsJ5_length_8abf5 := goodIn_r _ [6, 7, 8, 9, 10, 11] (by decide +kernel) (by decide +kernel)
set_option maxRecDepth 20000 in
theorem gJ4_length_8abf5_J5_length_8abf5_s343 : GoodIn wsJ4_length_8abf5 (va_wsSU RJ4 343 yJ5_length_8abf5 wsJ5_length_8abf5) := goodIn_app (goodIn_of _ (by decide +kernel)) ggJ4_length_8abf5_J5_length_8abf5
theorem dJ4_length_8abf5_0 : decode cJ4_length_8abf5 0 = .ok (.aload_n 0, 1) := by decide +kernel
theorem dJ4_length_8abf5_1 : decode cJ4_length_8abf5 1 = .ok (.invokespecial 343, 3) := by decide +kernel
theorem dJ4_length_8abf5_4 : decode cJ4_length_8abf5 4 = .ok (.ireturn, 1) := by decide +kernel
set_option maxRecDepth 20000 in
theorem ggJ1_charAt_3b067_J0_checkIndex_df160 : GoodIn wsJ1_charAt_3b067 wsJ0_checkIndex_df160 := goodIn_r _ [4, 5, 6, 7, 8, 9] (by decide +kernel) (by decide +kernel)
set_option maxRecDepth 20000 in
theorem gJ1_charAt_3b067_J0_checkIndex_df160 : GoodIn wsJ1_charAt_3b067 (va_wsS RJ1 9 yJ0_checkIndex_df160 wsJ0_checkIndex_df160) := goodIn_app (goodIn_of _ (by decide +kernel)) ggJ1_charAt_3b067_J0_checkIndex_df160
theorem dJ1_charAt_3b067_0 : decode cJ1_charAt_3b067 0 = .ok (.iload_n 1, 1) := by decide +kernel
theorem dJ1_charAt_3b067_1 : decode cJ1_charAt_3b067 1 = .ok (.aload_n 0, 1) := by decide +kernel
theorem dJ1_charAt_3b067_2 : decode cJ1_charAt_3b067 2 = .ok (.arraylength, 1) := by decide +kernel
theorem dJ1_charAt_3b067_3 : decode cJ1_charAt_3b067 3 = .ok (.invokestatic 9, 3) := by decide +kernel
theorem dJ1_charAt_3b067_6 : decode cJ1_charAt_3b067 6 = .ok (.aload_n 0, 1) := by decide +kernel
theorem dJ1_charAt_3b067_7 : decode cJ1_charAt_3b067 7 = .ok (.iload_n 1, 1) := by decide +kernel
theorem dJ1_charAt_3b067_8 : decode cJ1_charAt_3b067 8 = .ok (.baload, 1) := by decide +kernel
theorem dJ1_charAt_3b067_9 : decode cJ1_charAt_3b067 9 = .ok (.sipush 255, 3) := by decide +kernel
theorem dJ1_charAt_3b067_12 : decode cJ1_charAt_3b067 12 = .ok (.iand, 1) := by decide +kernel
theorem dJ1_charAt_3b067_13 : decode cJ1_charAt_3b067 13 = .ok (.i2c, 1) := by decide +kernel
theorem dJ1_charAt_3b067_14 : decode cJ1_charAt_3b067 14 = .ok (.ireturn, 1) := by decide +kernel
theorem dJ1_canEncode_fc78d_0 : decode cJ1_canEncode_fc78d 0 = .ok (.iload_n 0, 1) := by decide +kernel
theorem dJ1_canEncode_fc78d_1 : decode cJ1_canEncode_fc78d 1 = .ok (.sipush 255, 3) := by decide +kernel
theorem dJ1_canEncode_fc78d_4 : decode cJ1_canEncode_fc78d 4 = .ok (.if_icmp .gt 7, 3) := by decide +kernel
theorem dJ1_canEncode_fc78d_7 : decode cJ1_canEncode_fc78d 7 = .ok (.iconst 1, 1) := by decide +kernel
