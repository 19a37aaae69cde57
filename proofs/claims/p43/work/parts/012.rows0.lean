theorem dX1_init_0 : decode cX1_init 0 = .ok (.aload_n 0, 1) := by decide +kernel
theorem dX1_init_1 : decode cX1_init 1 = .ok (.invokespecial 3, 3) := by decide +kernel
theorem dX1_init_4 : decode cX1_init 4 = .ok (.aload_n 0, 1) := by decide +kernel
theorem dX1_init_5 : decode cX1_init 5 = .ok (.aload_n 1, 1) := by decide +kernel
theorem dX1_init_6 : decode cX1_init 6 = .ok (.putfield 9, 3) := by decide +kernel
theorem dX1_init_9 : decode cX1_init 9 = .ok (.aload_n 0, 1) := by decide +kernel
theorem dX1_init_10 : decode cX1_init 10 = .ok (.bipush 6, 2) := by decide +kernel
theorem dX1_init_12 : decode cX1_init 12 = .ok (.newarray .int, 2) := by decide +kernel
theorem dX1_init_14 : decode cX1_init 14 = .ok (.putfield 15, 3) := by decide +kernel
theorem dX1_init_17 : decode cX1_init 17 = .ok (.aload_n 0, 1) := by decide +kernel
theorem dX1_init_18 : decode cX1_init 18 = .ok (.bipush 64, 2) := by decide +kernel
theorem dX1_init_20 : decode cX1_init 20 = .ok (.newarray .long, 2) := by decide +kernel
theorem dX1_init_22 : decode cX1_init 22 = .ok (.putfield 19, 3) := by decide +kernel
theorem dX1_init_25 : decode cX1_init 25 = .ok (.aload_n 0, 1) := by decide +kernel
theorem dX1_init_26 : decode cX1_init 26 = .ok (.bipush 64, 2) := by decide +kernel
theorem dX1_init_28 : decode cX1_init 28 = .ok (.newarray .long, 2) := by decide +kernel
theorem dX1_init_30 : decode cX1_init 30 = .ok (.putfield 23, 3) := by decide +kernel
theorem dX1_init_33 : decode cX1_init 33 = .ok (.aload_n 0, 1) := by decide +kernel
theorem dX1_init_34 : decode cX1_init 34 = .ok (.bipush 64, 2) := by decide +kernel
theorem dX1_init_36 : decode cX1_init 36 = .ok (.newarray .long, 2) := by decide +kernel
theorem dX1_init_38 : decode cX1_init 38 = .ok (.putfield 26, 3) := by decide +kernel
theorem dX1_init_41 : decode cX1_init 41 = .ok (.return_, 1) := by decide +kernel
theorem dX1_gather_0 : decode cX1_gather 0 = .ok (.aload_n 0, 1) := by decide +kernel
theorem dX1_gather_1 : decode cX1_gather 1 = .ok (.iconst 0, 1) := by decide +kernel
theorem dX1_gather_2 : decode cX1_gather 2 = .ok (.putfield 29, 3) := by decide +kernel
theorem dX1_gather_5 : decode cX1_gather 5 = .ok (.iconst 0, 1) := by decide +kernel
theorem dX1_gather_6 : decode cX1_gather 6 = .ok (.istore_n 2, 1) := by decide +kernel
theorem dX1_gather_7 : decode cX1_gather 7 = .ok (.iload_n 2, 1) := by decide +kernel
theorem dX1_gather_8 : decode cX1_gather 8 = .ok (.aload_n 0, 1) := by decide +kernel
theorem dX1_gather_9 : decode cX1_gather 9 = .ok (.getfield 9, 3) := by decide +kernel
theorem dX1_gather_12 : decode cX1_gather 12 = .ok (.getfield 33, 3) := by decide +kernel
theorem dX1_gather_15 : decode cX1_gather 15 = .ok (.if_icmp .ge 81, 3) := by decide +kernel
theorem dX1_gather_18 : decode cX1_gather 18 = .ok (.aload_n 0, 1) := by decide +kernel
theorem dX1_gather_19 : decode cX1_gather 19 = .ok (.getfield 9, 3) := by decide +kernel
theorem dX1_gather_22 : decode cX1_gather 22 = .ok (.getfield 38, 3) := by decide +kernel
theorem dX1_gather_25 : decode cX1_gather 25 = .ok (.iload_n 2, 1) := by decide +kernel
theorem dX1_gather_26 : decode cX1_gather 26 = .ok (.iaload, 1) := by decide +kernel
theorem dX1_gather_27 : decode cX1_gather 27 = .ok (.iload_n 1, 1) := by decide +kernel
theorem dX1_gather_28 : decode cX1_gather 28 = .ok (.if_icmp .ne 19, 3) := by decide +kernel
theorem dX1_gather_31 : decode cX1_gather 31 = .ok (.aload_n 0, 1) := by decide +kernel
theorem dX1_gather_32 : decode cX1_gather 32 = .ok (.getfield 9, 3) := by decide +kernel
theorem dX1_gather_35 : decode cX1_gather 35 = .ok (.getfield 41, 3) := by decide +kernel
theorem dX1_gather_38 : decode cX1_gather 38 = .ok (.iload_n 2, 1) := by decide +kernel
theorem dX1_gather_39 : decode cX1_gather 39 = .ok (.iaload, 1) := by decide +kernel
theorem dX1_gather_40 : decode cX1_gather 40 = .ok (.ifCond .ne 7, 3) := by decide +kernel
theorem dX1_gather_43 : decode cX1_gather 43 = .ok (.iconst 1, 1) := by decide +kernel
theorem dX1_gather_44 : decode cX1_gather 44 = .ok (.goto 4, 3) := by decide +kernel
theorem dX1_gather_47 : decode cX1_gather 47 = .ok (.iconst 0, 1) := by decide +kernel
theorem dX1_gather_48 : decode cX1_gather 48 = .ok (.istore_n 3, 1) := by decide +kernel
theorem dX1_gather_49 : decode cX1_gather 49 = .ok (.iload_n 3, 1) := by decide +kernel
theorem dX1_gather_50 : decode cX1_gather 50 = .ok (.ifCond .eq 40, 3) := by decide +kernel
theorem dX1_gather_53 : decode cX1_gather 53 = .ok (.aload_n 0, 1) := by decide +kernel
theorem dX1_gather_54 : decode cX1_gather 54 = .ok (.getfield 29, 3) := by decide +kernel
theorem dX1_gather_57 : decode cX1_gather 57 = .ok (.bipush 6, 2) := by decide +kernel
theorem dX1_gather_59 : decode cX1_gather 59 = .ok (.if_icmp .ge 31, 3) := by decide +kernel
theorem dX1_gather_62 : decode cX1_gather 62 = .ok (.aload_n 0, 1) := by decide +kernel
theorem dX1_gather_63 : decode cX1_gather 63 = .ok (.getfield 15, 3) := by decide +kernel
theorem dX1_gather_66 : decode cX1_gather 66 = .ok (.aload_n 0, 1) := by decide +kernel
theorem dX1_gather_67 : decode cX1_gather 67 = .ok (.getfield 29, 3) := by decide +kernel
theorem dX1_gather_70 : decode cX1_gather 70 = .ok (.aload_n 0, 1) := by decide +kernel
theorem dX1_gather_71 : decode cX1_gather 71 = .ok (.getfield 9, 3) := by decide +kernel
theorem dX1_gather_74 : decode cX1_gather 74 = .ok (.getfield 44, 3) := by decide +kernel
theorem dX1_gather_77 : decode cX1_gather 77 = .ok (.iload_n 2, 1) := by decide +kernel
theorem dX1_gather_78 : decode cX1_gather 78 = .ok (.iaload, 1) := by decide +kernel
theorem dX1_gather_79 : decode cX1_gather 79 = .ok (.iastore, 1) := by decide +kernel
theorem dX1_gather_80 : decode cX1_gather 80 = .ok (.aload_n 0, 1) := by decide +kernel
theorem dX1_gather_81 : decode cX1_gather 81 = .ok (.dup, 1) := by decide +kernel
theorem dX1_gather_82 : decode cX1_gather 82 = .ok (.getfield 29, 3) := by decide +kernel
theorem dX1_gather_85 : decode cX1_gather 85 = .ok (.iconst 1, 1) := by decide +kernel
theorem dX1_gather_86 : decode cX1_gather 86 = .ok (.iadd, 1) := by decide +kernel
theorem dX1_gather_87 : decode cX1_gather 87 = .ok (.putfield 29, 3) := by decide +kernel
theorem dX1_gather_90 : decode cX1_gather 90 = .ok (.iinc 2 1, 3) := by decide +kernel
theorem dX1_gather_93 : decode cX1_gather 93 = .ok (.goto (-86), 3) := by decide +kernel
theorem dX1_gather_96 : decode cX1_gather 96 = .ok (.return_, 1) := by decide +kernel
set_option maxRecDepth 20000 in
theorem ggX1_leastByWays_X1_gather : GoodIn wsX1_leastByWays wsX1_gather := goodIn_r _ [7, 2, 8, 9, 10, 11, 1, 12, 24, 25, 26, 27, 28, 29, 30, 31, 32, 33, 34, 35, 36, 37, 38, 39, 40, 41, 42, 43, 44, 45] (by decide +kernel) (by decide +kernel)
set_option maxRecDepth 20000 in
theorem gX1_leastByWays_X1_gather : GoodIn wsX1_leastByWays (wsV RX1 45 RX1 yX1_gather wsX1_gather) := goodIn_app (goodIn_of _ (by decide +kernel)) ggX1_leastByWays_X1_gather
set_option maxRecDepth 20000 in
theorem ggX1_leastByWays_X1_leastFrom : GoodIn wsX1_leastByWays wsX1_leastFrom := goodIn_r _ [15, 16, 17, 18, 19, 20, 21, 22, 23, 13, 14, 6] (by decide +kernel) (by decide +kernel)
set_option maxRecDepth 20000 in
theorem gX1_leastByWays_X1_leastFrom : GoodIn wsX1_leastByWays (va_wsS RX1 49 yX1_leastFrom wsX1_leastFrom) := goodIn_app (goodIn_of _ (by decide +kernel)) ggX1_leastByWays_X1_leastFrom
theorem dX1_leastByWays_0 : decode cX1_leastByWays 0 = .ok (.aload_n 0, 1) := by decide +kernel
theorem dX1_leastByWays_1 : decode cX1_leastByWays 1 = .ok (.iload_n 1, 1) := by decide +kernel
theorem dX1_leastByWays_2 : decode cX1_leastByWays 2 = .ok (.invokevirtual 45, 3) := by decide +kernel
theorem dX1_leastByWays_5 : decode cX1_leastByWays 5 = .ok (.aload_n 0, 1) := by decide +kernel
theorem dX1_leastByWays_6 : decode cX1_leastByWays 6 = .ok (.getfield 15, 3) := by decide +kernel
theorem dX1_leastByWays_9 : decode cX1_leastByWays 9 = .ok (.aload_n 0, 1) := by decide +kernel
theorem dX1_leastByWays_10 : decode cX1_leastByWays 10 = .ok (.getfield 29, 3) := by decide +kernel
theorem dX1_leastByWays_13 : decode cX1_leastByWays 13 = .ok (.iconst 0, 1) := by decide +kernel
theorem dX1_leastByWays_14 : decode cX1_leastByWays 14 = .ok (.iconst 0, 1) := by decide +kernel
theorem dX1_leastByWays_15 : decode cX1_leastByWays 15 = .ok (.iconst 0, 1) := by decide +kernel
theorem dX1_leastByWays_16 : decode cX1_leastByWays 16 = .ok (.invokestatic 49, 3) := by decide +kernel
theorem dX1_leastByWays_19 : decode cX1_leastByWays 19 = .ok (.ireturn, 1) := by decide +kernel
set_option maxRecDepth 20000 in
theorem ggX1_leastFrom_X1_leastFrom : GoodIn wsX1_leastFrom wsX1_leastFrom := goodIn_r _ [0, 1, 2, 3, 4, 5, 6, 7, 8, 9, 10, 11] (by decide +kernel) (by decide +kernel)
set_option maxRecDepth 20000 in
theorem gX1_leastFrom_X1_leastFrom : GoodIn wsX1_leastFrom (va_wsS RX1 49 yX1_leastFrom wsX1_leastFrom) := goodIn_app (goodIn_of _ (by decide +kernel)) ggX1_leastFrom_X1_leastFrom
theorem dX1_leastFrom_0 : decode cX1_leastFrom 0 = .ok (.iload_n 2, 1) := by decide +kernel
theorem dX1_leastFrom_1 : decode cX1_leastFrom 1 = .ok (.iload_n 1, 1) := by decide +kernel
theorem dX1_leastFrom_2 : decode cX1_leastFrom 2 = .ok (.if_icmp .ge 9, 3) := by decide +kernel
theorem dX1_leastFrom_5 : decode cX1_leastFrom 5 = .ok (.iload_n 2, 1) := by decide +kernel
theorem dX1_leastFrom_6 : decode cX1_leastFrom 6 = .ok (.aload_n 0, 1) := by decide +kernel
theorem dX1_leastFrom_7 : decode cX1_leastFrom 7 = .ok (.arraylength, 1) := by decide +kernel
theorem dX1_leastFrom_8 : decode cX1_leastFrom 8 = .ok (.if_icmp .lt 9, 3) := by decide +kernel
theorem dX1_leastFrom_11 : decode cX1_leastFrom 11 = .ok (.iload 4, 2) := by decide +kernel
theorem dX1_leastFrom_13 : decode cX1_leastFrom 13 = .ok (.invokestatic 53, 3) := by decide +kernel
theorem dX1_leastFrom_16 : decode cX1_leastFrom 16 = .ok (.ireturn, 1) := by decide +kernel
theorem dX1_leastFrom_17 : decode cX1_leastFrom 17 = .ok (.ldc 59, 2) := by decide +kernel
theorem dX1_leastFrom_19 : decode cX1_leastFrom 19 = .ok (.istore 5, 2) := by decide +kernel
theorem dX1_leastFrom_21 : decode cX1_leastFrom 21 = .ok (.iconst 0, 1) := by decide +kernel
theorem dX1_leastFrom_22 : decode cX1_leastFrom 22 = .ok (.istore 6, 2) := by decide +kernel
theorem dX1_leastFrom_24 : decode cX1_leastFrom 24 = .ok (.iload 6, 2) := by decide +kernel
theorem dX1_leastFrom_26 : decode cX1_leastFrom 26 = .ok (.bipush 6, 2) := by decide +kernel
theorem dX1_leastFrom_28 : decode cX1_leastFrom 28 = .ok (.if_icmp .ge 58, 3) := by decide +kernel
theorem dX1_leastFrom_31 : decode cX1_leastFrom 31 = .ok (.iload_n 3, 1) := by decide +kernel
theorem dX1_leastFrom_32 : decode cX1_leastFrom 32 = .ok (.iload 6, 2) := by decide +kernel
theorem dX1_leastFrom_34 : decode cX1_leastFrom 34 = .ok (.ishr, 1) := by decide +kernel
theorem dX1_leastFrom_35 : decode cX1_leastFrom 35 = .ok (.iconst 1, 1) := by decide +kernel
theorem dX1_leastFrom_36 : decode cX1_leastFrom 36 = .ok (.iand, 1) := by decide +kernel
theorem dX1_leastFrom_37 : decode cX1_leastFrom 37 = .ok (.ifCond .ne 43, 3) := by decide +kernel
theorem dX1_leastFrom_40 : decode cX1_leastFrom 40 = .ok (.iload 4, 2) := by decide +kernel
theorem dX1_leastFrom_42 : decode cX1_leastFrom 42 = .ok (.aload_n 0, 1) := by decide +kernel
theorem dX1_leastFrom_43 : decode cX1_leastFrom 43 = .ok (.iload_n 2, 1) := by decide +kernel
theorem dX1_leastFrom_44 : decode cX1_leastFrom 44 = .ok (.iaload, 1) := by decide +kernel
theorem dX1_leastFrom_45 : decode cX1_leastFrom 45 = .ok (.iconst 2, 1) := by decide +kernel
theorem dX1_leastFrom_46 : decode cX1_leastFrom 46 = .ok (.imul, 1) := by decide +kernel
theorem dX1_leastFrom_47 : decode cX1_leastFrom 47 = .ok (.iconst 5, 1) := by decide +kernel
theorem dX1_leastFrom_48 : decode cX1_leastFrom 48 = .ok (.iconst 2, 1) := by decide +kernel
theorem dX1_leastFrom_49 : decode cX1_leastFrom 49 = .ok (.iload 6, 2) := by decide +kernel
theorem dX1_leastFrom_51 : decode cX1_leastFrom 51 = .ok (.imul, 1) := by decide +kernel
theorem dX1_leastFrom_52 : decode cX1_leastFrom 52 = .ok (.isub, 1) := by decide +kernel
theorem dX1_leastFrom_53 : decode cX1_leastFrom 53 = .ok (.imul, 1) := by decide +kernel
theorem dX1_leastFrom_54 : decode cX1_leastFrom 54 = .ok (.iadd, 1) := by decide +kernel
theorem dX1_leastFrom_55 : decode cX1_leastFrom 55 = .ok (.istore 7, 2) := by decide +kernel
theorem dX1_leastFrom_57 : decode cX1_leastFrom 57 = .ok (.iload 5, 2) := by decide +kernel
theorem dX1_leastFrom_59 : decode cX1_leastFrom 59 = .ok (.aload_n 0, 1) := by decide +kernel
theorem dX1_leastFrom_60 : decode cX1_leastFrom 60 = .ok (.iload_n 1, 1) := by decide +kernel
theorem dX1_leastFrom_61 : decode cX1_leastFrom 61 = .ok (.iload_n 2, 1) := by decide +kernel
theorem dX1_leastFrom_62 : decode cX1_leastFrom 62 = .ok (.iconst 1, 1) := by decide +kernel
theorem dX1_leastFrom_63 : decode cX1_leastFrom 63 = .ok (.iadd, 1) := by decide +kernel
theorem dX1_leastFrom_64 : decode cX1_leastFrom 64 = .ok (.iload_n 3, 1) := by decide +kernel
theorem dX1_leastFrom_65 : decode cX1_leastFrom 65 = .ok (.iconst 1, 1) := by decide +kernel
theorem dX1_leastFrom_66 : decode cX1_leastFrom 66 = .ok (.iload 6, 2) := by decide +kernel
theorem dX1_leastFrom_68 : decode cX1_leastFrom 68 = .ok (.ishl, 1) := by decide +kernel
theorem dX1_leastFrom_69 : decode cX1_leastFrom 69 = .ok (.ior, 1) := by decide +kernel
theorem dX1_leastFrom_70 : decode cX1_leastFrom 70 = .ok (.iload 7, 2) := by decide +kernel
theorem dX1_leastFrom_72 : decode cX1_leastFrom 72 = .ok (.invokestatic 49, 3) := by decide +kernel
theorem dX1_leastFrom_75 : decode cX1_leastFrom 75 = .ok (.invokestatic 60, 3) := by decide +kernel
theorem dX1_leastFrom_78 : decode cX1_leastFrom 78 = .ok (.istore 5, 2) := by decide +kernel
theorem dX1_leastFrom_80 : decode cX1_leastFrom 80 = .ok (.iinc 6 1, 3) := by decide +kernel
theorem dX1_leastFrom_83 : decode cX1_leastFrom 83 = .ok (.goto (-59), 3) := by decide +kernel
theorem dX1_leastFrom_86 : decode cX1_leastFrom 86 = .ok (.iload 5, 2) := by decide +kernel
theorem dX1_leastFrom_88 : decode cX1_leastFrom 88 = .ok (.ireturn, 1) := by decide +kernel
set_option maxRecDepth 20000 in
theorem ggX1_leastBySets_X1_gather : GoodIn wsX1_leastBySets wsX1_gather := goodIn_r _ [9, 1, 10, 11, 12, 13, 14, 15, 40, 41, 42, 43, 44, 45, 46, 47, 48, 49, 50, 51, 52, 53, 54, 55, 56, 57, 58, 59, 60, 61] (by decide +kernel) (by decide +kernel)
set_option maxRecDepth 20000 in
theorem gX1_leastBySets_X1_gather : GoodIn wsX1_leastBySets (wsV RX1 45 RX1 yX1_gather wsX1_gather) := goodIn_app (goodIn_of _ (by decide +kernel)) ggX1_leastBySets_X1_gather
set_option maxRecDepth 20000 in
theorem ggX1_leastBySets_X1_addPlace : GoodIn wsX1_leastBySets wsX1_addPlace := goodIn_r _ [19, 1, 14, 20, 21, 22, 8, 23, 4, 3, 2, 40, 41, 42, 43, 44, 45] (by decide +kernel) (by decide +kernel)
set_option maxRecDepth 20000 in
theorem gX1_leastBySets_X1_addPlace : GoodIn wsX1_leastBySets (wsV RX1 64 RX1 yX1_addPlace wsX1_addPlace) := goodIn_app (goodIn_of _ (by decide +kernel)) ggX1_leastBySets_X1_addPlace
set_option maxRecDepth 20000 in
theorem ggX1_leastBySets_X1_leastOfSums : GoodIn wsX1_leastBySets wsX1_leastOfSums := goodIn_r _ [27, 1, 14, 28, 29, 30, 31, 32, 33, 34, 35, 36, 37, 38, 8, 39, 2, 3, 4, 40, 41, 42, 43, 44, 45] (by decide +kernel) (by decide +kernel)
set_option maxRecDepth 20000 in
theorem gX1_leastBySets_X1_leastOfSums : GoodIn wsX1_leastBySets (wsV RX1 68 RX1 yX1_leastOfSums wsX1_leastOfSums) := goodIn_app (goodIn_of _ (by decide +kernel)) ggX1_leastBySets_X1_leastOfSums
theorem dX1_leastBySets_0 : decode cX1_leastBySets 0 = .ok (.aload_n 0, 1) := by decide +kernel
theorem dX1_leastBySets_1 : decode cX1_leastBySets 1 = .ok (.iload_n 1, 1) := by decide +kernel
theorem dX1_leastBySets_2 : decode cX1_leastBySets 2 = .ok (.invokevirtual 45, 3) := by decide +kernel
theorem dX1_leastBySets_5 : decode cX1_leastBySets 5 = .ok (.iconst 1, 1) := by decide +kernel
theorem dX1_leastBySets_6 : decode cX1_leastBySets 6 = .ok (.aload_n 0, 1) := by decide +kernel
theorem dX1_leastBySets_7 : decode cX1_leastBySets 7 = .ok (.getfield 29, 3) := by decide +kernel
theorem dX1_leastBySets_10 : decode cX1_leastBySets 10 = .ok (.ishl, 1) := by decide +kernel
theorem dX1_leastBySets_11 : decode cX1_leastBySets 11 = .ok (.istore_n 2, 1) := by decide +kernel
theorem dX1_leastBySets_12 : decode cX1_leastBySets 12 = .ok (.iconst 0, 1) := by decide +kernel
theorem dX1_leastBySets_13 : decode cX1_leastBySets 13 = .ok (.istore_n 3, 1) := by decide +kernel
theorem dX1_leastBySets_14 : decode cX1_leastBySets 14 = .ok (.iload_n 3, 1) := by decide +kernel
theorem dX1_leastBySets_15 : decode cX1_leastBySets 15 = .ok (.iload_n 2, 1) := by decide +kernel
theorem dX1_leastBySets_16 : decode cX1_leastBySets 16 = .ok (.if_icmp .ge 30, 3) := by decide +kernel
theorem dX1_leastBySets_19 : decode cX1_leastBySets 19 = .ok (.aload_n 0, 1) := by decide +kernel
theorem dX1_leastBySets_20 : decode cX1_leastBySets 20 = .ok (.getfield 19, 3) := by decide +kernel
theorem dX1_leastBySets_23 : decode cX1_leastBySets 23 = .ok (.iload_n 3, 1) := by decide +kernel
theorem dX1_leastBySets_24 : decode cX1_leastBySets 24 = .ok (.lconst 0, 1) := by decide +kernel
theorem dX1_leastBySets_25 : decode cX1_leastBySets 25 = .ok (.lastore, 1) := by decide +kernel
theorem dX1_leastBySets_26 : decode cX1_leastBySets 26 = .ok (.aload_n 0, 1) := by decide +kernel
theorem dX1_leastBySets_27 : decode cX1_leastBySets 27 = .ok (.getfield 23, 3) := by decide +kernel
theorem dX1_leastBySets_30 : decode cX1_leastBySets 30 = .ok (.iload_n 3, 1) := by decide +kernel
theorem dX1_leastBySets_31 : decode cX1_leastBySets 31 = .ok (.lconst 0, 1) := by decide +kernel
theorem dX1_leastBySets_32 : decode cX1_leastBySets 32 = .ok (.lastore, 1) := by decide +kernel
theorem dX1_leastBySets_33 : decode cX1_leastBySets 33 = .ok (.aload_n 0, 1) := by decide +kernel
theorem dX1_leastBySets_34 : decode cX1_leastBySets 34 = .ok (.getfield 26, 3) := by decide +kernel
theorem dX1_leastBySets_37 : decode cX1_leastBySets 37 = .ok (.iload_n 3, 1) := by decide +kernel
theorem dX1_leastBySets_38 : decode cX1_leastBySets 38 = .ok (.lconst 0, 1) := by decide +kernel
theorem dX1_leastBySets_39 : decode cX1_leastBySets 39 = .ok (.lastore, 1) := by decide +kernel
theorem dX1_leastBySets_40 : decode cX1_leastBySets 40 = .ok (.iinc 3 1, 3) := by decide +kernel
theorem dX1_leastBySets_43 : decode cX1_leastBySets 43 = .ok (.goto (-29), 3) := by decide +kernel
theorem dX1_leastBySets_46 : decode cX1_leastBySets 46 = .ok (.aload_n 0, 1) := by decide +kernel
theorem dX1_leastBySets_47 : decode cX1_leastBySets 47 = .ok (.getfield 19, 3) := by decide +kernel
theorem dX1_leastBySets_50 : decode cX1_leastBySets 50 = .ok (.iconst 0, 1) := by decide +kernel
theorem dX1_leastBySets_51 : decode cX1_leastBySets 51 = .ok (.lconst 1, 1) := by decide +kernel
theorem dX1_leastBySets_52 : decode cX1_leastBySets 52 = .ok (.lastore, 1) := by decide +kernel
theorem dX1_leastBySets_53 : decode cX1_leastBySets 53 = .ok (.iconst 0, 1) := by decide +kernel
theorem dX1_leastBySets_54 : decode cX1_leastBySets 54 = .ok (.istore_n 3, 1) := by decide +kernel
theorem dX1_leastBySets_55 : decode cX1_leastBySets 55 = .ok (.iload_n 3, 1) := by decide +kernel
theorem dX1_leastBySets_56 : decode cX1_leastBySets 56 = .ok (.bipush 6, 2) := by decide +kernel
theorem dX1_leastBySets_58 : decode cX1_leastBySets 58 = .ok (.if_icmp .ge 15, 3) := by decide +kernel
theorem dX1_leastBySets_61 : decode cX1_leastBySets 61 = .ok (.aload_n 0, 1) := by decide +kernel
theorem dX1_leastBySets_62 : decode cX1_leastBySets 62 = .ok (.iload_n 3, 1) := by decide +kernel
theorem dX1_leastBySets_63 : decode cX1_leastBySets 63 = .ok (.iload_n 2, 1) := by decide +kernel
theorem dX1_leastBySets_64 : decode cX1_leastBySets 64 = .ok (.invokevirtual 64, 3) := by decide +kernel
theorem dX1_leastBySets_67 : decode cX1_leastBySets 67 = .ok (.iinc 3 1, 3) := by decide +kernel
theorem dX1_leastBySets_70 : decode cX1_leastBySets 70 = .ok (.goto (-15), 3) := by decide +kernel
theorem dX1_leastBySets_73 : decode cX1_leastBySets 73 = .ok (.aload_n 0, 1) := by decide +kernel
theorem dX1_leastBySets_74 : decode cX1_leastBySets 74 = .ok (.iload_n 2, 1) := by decide +kernel
theorem dX1_leastBySets_75 : decode cX1_leastBySets 75 = .ok (.iconst 1, 1) := by decide +kernel
theorem dX1_leastBySets_76 : decode cX1_leastBySets 76 = .ok (.isub, 1) := by decide +kernel
theorem dX1_leastBySets_77 : decode cX1_leastBySets 77 = .ok (.invokevirtual 68, 3) := by decide +kernel
theorem dX1_leastBySets_80 : decode cX1_leastBySets 80 = .ok (.ireturn, 1) := by decide +kernel
set_option maxRecDepth 20000 in
theorem ggX1_addPlace_X1_addShifted : GoodIn wsX1_addPlace wsX1_addShifted := goodIn_r _ [7, 8, 9, 10, 11, 12, 13, 14, 15, 16] (by decide +kernel) (by decide +kernel)
set_option maxRecDepth 20000 in
theorem gX1_addPlace_X1_addShifted : GoodIn wsX1_addPlace (wsV RX1 71 RX1 yX1_addShifted wsX1_addShifted) := goodIn_app (goodIn_of _ (by decide +kernel)) ggX1_addPlace_X1_addShifted
theorem dX1_addPlace_0 : decode cX1_addPlace 0 = .ok (.iload_n 2, 1) := by decide +kernel
theorem dX1_addPlace_1 : decode cX1_addPlace 1 = .ok (.iconst 1, 1) := by decide +kernel
theorem dX1_addPlace_2 : decode cX1_addPlace 2 = .ok (.isub, 1) := by decide +kernel
theorem dX1_addPlace_3 : decode cX1_addPlace 3 = .ok (.istore_n 3, 1) := by decide +kernel
theorem dX1_addPlace_4 : decode cX1_addPlace 4 = .ok (.iload_n 3, 1) := by decide +kernel
theorem dX1_addPlace_5 : decode cX1_addPlace 5 = .ok (.ifCond .le 58, 3) := by decide +kernel
theorem dX1_addPlace_8 : decode cX1_addPlace 8 = .ok (.iconst 0, 1) := by decide +kernel
theorem dX1_addPlace_9 : decode cX1_addPlace 9 = .ok (.istore 4, 2) := by decide +kernel
theorem dX1_addPlace_11 : decode cX1_addPlace 11 = .ok (.iload 4, 2) := by decide +kernel
theorem dX1_addPlace_13 : decode cX1_addPlace 13 = .ok (.aload_n 0, 1) := by decide +kernel
theorem dX1_addPlace_14 : decode cX1_addPlace 14 = .ok (.getfield 29, 3) := by decide +kernel
theorem dX1_addPlace_17 : decode cX1_addPlace 17 = .ok (.if_icmp .ge 40, 3) := by decide +kernel
theorem dX1_addPlace_20 : decode cX1_addPlace 20 = .ok (.iload_n 3, 1) := by decide +kernel
theorem dX1_addPlace_21 : decode cX1_addPlace 21 = .ok (.iload 4, 2) := by decide +kernel
theorem dX1_addPlace_23 : decode cX1_addPlace 23 = .ok (.ishr, 1) := by decide +kernel
theorem dX1_addPlace_24 : decode cX1_addPlace 24 = .ok (.iconst 1, 1) := by decide +kernel
theorem dX1_addPlace_25 : decode cX1_addPlace 25 = .ok (.iand, 1) := by decide +kernel
theorem dX1_addPlace_26 : decode cX1_addPlace 26 = .ok (.ifCond .eq 25, 3) := by decide +kernel
theorem dX1_addPlace_29 : decode cX1_addPlace 29 = .ok (.aload_n 0, 1) := by decide +kernel
theorem dX1_addPlace_30 : decode cX1_addPlace 30 = .ok (.iload_n 3, 1) := by decide +kernel
theorem dX1_addPlace_31 : decode cX1_addPlace 31 = .ok (.iload_n 3, 1) := by decide +kernel
theorem dX1_addPlace_32 : decode cX1_addPlace 32 = .ok (.iconst 1, 1) := by decide +kernel
theorem dX1_addPlace_33 : decode cX1_addPlace 33 = .ok (.iload 4, 2) := by decide +kernel
theorem dX1_addPlace_35 : decode cX1_addPlace 35 = .ok (.ishl, 1) := by decide +kernel
theorem dX1_addPlace_36 : decode cX1_addPlace 36 = .ok (.ixor, 1) := by decide +kernel
theorem dX1_addPlace_37 : decode cX1_addPlace 37 = .ok (.aload_n 0, 1) := by decide +kernel
theorem dX1_addPlace_38 : decode cX1_addPlace 38 = .ok (.getfield 15, 3) := by decide +kernel
theorem dX1_addPlace_41 : decode cX1_addPlace 41 = .ok (.iload 4, 2) := by decide +kernel
theorem dX1_addPlace_43 : decode cX1_addPlace 43 = .ok (.iaload, 1) := by decide +kernel
theorem dX1_addPlace_44 : decode cX1_addPlace 44 = .ok (.iconst 5, 1) := by decide +kernel
theorem dX1_addPlace_45 : decode cX1_addPlace 45 = .ok (.iload_n 1, 1) := by decide +kernel
theorem dX1_addPlace_46 : decode cX1_addPlace 46 = .ok (.isub, 1) := by decide +kernel
theorem dX1_addPlace_47 : decode cX1_addPlace 47 = .ok (.imul, 1) := by decide +kernel
theorem dX1_addPlace_48 : decode cX1_addPlace 48 = .ok (.invokevirtual 71, 3) := by decide +kernel
theorem dX1_addPlace_51 : decode cX1_addPlace 51 = .ok (.iinc 4 1, 3) := by decide +kernel
theorem dX1_addPlace_54 : decode cX1_addPlace 54 = .ok (.goto (-43), 3) := by decide +kernel
theorem dX1_addPlace_57 : decode cX1_addPlace 57 = .ok (.iinc 3 (-1), 3) := by decide +kernel
theorem dX1_addPlace_60 : decode cX1_addPlace 60 = .ok (.goto (-56), 3) := by decide +kernel
theorem dX1_addPlace_63 : decode cX1_addPlace 63 = .ok (.return_, 1) := by decide +kernel
theorem dX1_addShifted_0 : decode cX1_addShifted 0 = .ok (.bipush 63, 2) := by decide +kernel
theorem dX1_addShifted_2 : decode cX1_addShifted 2 = .ok (.iload_n 3, 1) := by decide +kernel
theorem dX1_addShifted_3 : decode cX1_addShifted 3 = .ok (.isub, 1) := by decide +kernel
theorem dX1_addShifted_4 : decode cX1_addShifted 4 = .ok (.istore 4, 2) := by decide +kernel
theorem dX1_addShifted_6 : decode cX1_addShifted 6 = .ok (.aload_n 0, 1) := by decide +kernel
theorem dX1_addShifted_7 : decode cX1_addShifted 7 = .ok (.getfield 26, 3) := by decide +kernel
theorem dX1_addShifted_10 : decode cX1_addShifted 10 = .ok (.iload_n 1, 1) := by decide +kernel
theorem dX1_addShifted_11 : decode cX1_addShifted 11 = .ok (.dup2, 1) := by decide +kernel
theorem dX1_addShifted_12 : decode cX1_addShifted 12 = .ok (.laload, 1) := by decide +kernel
theorem dX1_addShifted_13 : decode cX1_addShifted 13 = .ok (.aload_n 0, 1) := by decide +kernel
theorem dX1_addShifted_14 : decode cX1_addShifted 14 = .ok (.getfield 26, 3) := by decide +kernel
theorem dX1_addShifted_17 : decode cX1_addShifted 17 = .ok (.iload_n 2, 1) := by decide +kernel
theorem dX1_addShifted_18 : decode cX1_addShifted 18 = .ok (.laload, 1) := by decide +kernel
theorem dX1_addShifted_19 : decode cX1_addShifted 19 = .ok (.iload_n 3, 1) := by decide +kernel
theorem dX1_addShifted_20 : decode cX1_addShifted 20 = .ok (.lshl, 1) := by decide +kernel
theorem dX1_addShifted_21 : decode cX1_addShifted 21 = .ok (.aload_n 0, 1) := by decide +kernel
theorem dX1_addShifted_22 : decode cX1_addShifted 22 = .ok (.getfield 23, 3) := by decide +kernel
theorem dX1_addShifted_25 : decode cX1_addShifted 25 = .ok (.iload_n 2, 1) := by decide +kernel
theorem dX1_addShifted_26 : decode cX1_addShifted 26 = .ok (.laload, 1) := by decide +kernel
theorem dX1_addShifted_27 : decode cX1_addShifted 27 = .ok (.iconst 1, 1) := by decide +kernel
theorem dX1_addShifted_28 : decode cX1_addShifted 28 = .ok (.lushr, 1) := by decide +kernel
theorem dX1_addShifted_29 : decode cX1_addShifted 29 = .ok (.iload 4, 2) := by decide +kernel
theorem dX1_addShifted_31 : decode cX1_addShifted 31 = .ok (.lushr, 1) := by decide +kernel
theorem dX1_addShifted_32 : decode cX1_addShifted 32 = .ok (.lor, 1) := by decide +kernel
theorem dX1_addShifted_33 : decode cX1_addShifted 33 = .ok (.lor, 1) := by decide +kernel
theorem dX1_addShifted_34 : decode cX1_addShifted 34 = .ok (.lastore, 1) := by decide +kernel
theorem dX1_addShifted_35 : decode cX1_addShifted 35 = .ok (.aload_n 0, 1) := by decide +kernel
theorem dX1_addShifted_36 : decode cX1_addShifted 36 = .ok (.getfield 23, 3) := by decide +kernel
theorem dX1_addShifted_39 : decode cX1_addShifted 39 = .ok (.iload_n 1, 1) := by decide +kernel
theorem dX1_addShifted_40 : decode cX1_addShifted 40 = .ok (.dup2, 1) := by decide +kernel
theorem dX1_addShifted_41 : decode cX1_addShifted 41 = .ok (.laload, 1) := by decide +kernel
theorem dX1_addShifted_42 : decode cX1_addShifted 42 = .ok (.aload_n 0, 1) := by decide +kernel
theorem dX1_addShifted_43 : decode cX1_addShifted 43 = .ok (.getfield 23, 3) := by decide +kernel
theorem dX1_addShifted_46 : decode cX1_addShifted 46 = .ok (.iload_n 2, 1) := by decide +kernel
theorem dX1_addShifted_47 : decode cX1_addShifted 47 = .ok (.laload, 1) := by decide +kernel
theorem dX1_addShifted_48 : decode cX1_addShifted 48 = .ok (.iload_n 3, 1) := by decide +kernel
theorem dX1_addShifted_49 : decode cX1_addShifted 49 = .ok (.lshl, 1) := by decide +kernel
theorem dX1_addShifted_50 : decode cX1_addShifted 50 = .ok (.aload_n 0, 1) := by decide +kernel
theorem dX1_addShifted_51 : decode cX1_addShifted 51 = .ok (.getfield 19, 3) := by decide +kernel
theorem dX1_addShifted_54 : decode cX1_addShifted 54 = .ok (.iload_n 2, 1) := by decide +kernel
theorem dX1_addShifted_55 : decode cX1_addShifted 55 = .ok (.laload, 1) := by decide +kernel
theorem dX1_addShifted_56 : decode cX1_addShifted 56 = .ok (.iconst 1, 1) := by decide +kernel
theorem dX1_addShifted_57 : decode cX1_addShifted 57 = .ok (.lushr, 1) := by decide +kernel
theorem dX1_addShifted_58 : decode cX1_addShifted 58 = .ok (.iload 4, 2) := by decide +kernel
theorem dX1_addShifted_60 : decode cX1_addShifted 60 = .ok (.lushr, 1) := by decide +kernel
theorem dX1_addShifted_61 : decode cX1_addShifted 61 = .ok (.lor, 1) := by decide +kernel
theorem dX1_addShifted_62 : decode cX1_addShifted 62 = .ok (.lor, 1) := by decide +kernel
theorem dX1_addShifted_63 : decode cX1_addShifted 63 = .ok (.lastore, 1) := by decide +kernel
theorem dX1_addShifted_64 : decode cX1_addShifted 64 = .ok (.aload_n 0, 1) := by decide +kernel
theorem dX1_addShifted_65 : decode cX1_addShifted 65 = .ok (.getfield 19, 3) := by decide +kernel
theorem dX1_addShifted_68 : decode cX1_addShifted 68 = .ok (.iload_n 1, 1) := by decide +kernel
theorem dX1_addShifted_69 : decode cX1_addShifted 69 = .ok (.dup2, 1) := by decide +kernel
theorem dX1_addShifted_70 : decode cX1_addShifted 70 = .ok (.laload, 1) := by decide +kernel
theorem dX1_addShifted_71 : decode cX1_addShifted 71 = .ok (.aload_n 0, 1) := by decide +kernel
theorem dX1_addShifted_72 : decode cX1_addShifted 72 = .ok (.getfield 19, 3) := by decide +kernel
theorem dX1_addShifted_75 : decode cX1_addShifted 75 = .ok (.iload_n 2, 1) := by decide +kernel
theorem dX1_addShifted_76 : decode cX1_addShifted 76 = .ok (.laload, 1) := by decide +kernel
theorem dX1_addShifted_77 : decode cX1_addShifted 77 = .ok (.iload_n 3, 1) := by decide +kernel
theorem dX1_addShifted_78 : decode cX1_addShifted 78 = .ok (.lshl, 1) := by decide +kernel
theorem dX1_addShifted_79 : decode cX1_addShifted 79 = .ok (.lor, 1) := by decide +kernel
theorem dX1_addShifted_80 : decode cX1_addShifted 80 = .ok (.lastore, 1) := by decide +kernel
theorem dX1_addShifted_81 : decode cX1_addShifted 81 = .ok (.return_, 1) := by decide +kernel
set_option maxRecDepth 20000 in
theorem ggX1_leastOfSums_X1_hasSum : GoodIn wsX1_leastOfSums wsX1_hasSum := goodIn_r _ [15, 16, 17, 18, 19, 20, 21, 22, 23, 24] (by decide +kernel) (by decide +kernel)
set_option maxRecDepth 20000 in
theorem gX1_leastOfSums_X1_hasSum : GoodIn wsX1_leastOfSums (wsV RX1 75 RX1 yX1_hasSum wsX1_hasSum) := goodIn_app (goodIn_of _ (by decide +kernel)) ggX1_leastOfSums_X1_hasSum
theorem dX1_leastOfSums_0 : decode cX1_leastOfSums 0 = .ok (.iconst 0, 1) := by decide +kernel
theorem dX1_leastOfSums_1 : decode cX1_leastOfSums 1 = .ok (.istore_n 2, 1) := by decide +kernel
theorem dX1_leastOfSums_2 : decode cX1_leastOfSums 2 = .ok (.iconst 0, 1) := by decide +kernel
theorem dX1_leastOfSums_3 : decode cX1_leastOfSums 3 = .ok (.istore_n 3, 1) := by decide +kernel
theorem dX1_leastOfSums_4 : decode cX1_leastOfSums 4 = .ok (.iload_n 3, 1) := by decide +kernel
theorem dX1_leastOfSums_5 : decode cX1_leastOfSums 5 = .ok (.aload_n 0, 1) := by decide +kernel
theorem dX1_leastOfSums_6 : decode cX1_leastOfSums 6 = .ok (.getfield 29, 3) := by decide +kernel
theorem dX1_leastOfSums_9 : decode cX1_leastOfSums 9 = .ok (.if_icmp .ge 18, 3) := by decide +kernel
theorem dX1_leastOfSums_12 : decode cX1_leastOfSums 12 = .ok (.iload_n 2, 1) := by decide +kernel
theorem dX1_leastOfSums_13 : decode cX1_leastOfSums 13 = .ok (.aload_n 0, 1) := by decide +kernel
theorem dX1_leastOfSums_14 : decode cX1_leastOfSums 14 = .ok (.getfield 15, 3) := by decide +kernel
theorem dX1_leastOfSums_17 : decode cX1_leastOfSums 17 = .ok (.iload_n 3, 1) := by decide +kernel
theorem dX1_leastOfSums_18 : decode cX1_leastOfSums 18 = .ok (.iaload, 1) := by decide +kernel
theorem dX1_leastOfSums_19 : decode cX1_leastOfSums 19 = .ok (.iadd, 1) := by decide +kernel
theorem dX1_leastOfSums_20 : decode cX1_leastOfSums 20 = .ok (.istore_n 2, 1) := by decide +kernel
theorem dX1_leastOfSums_21 : decode cX1_leastOfSums 21 = .ok (.iinc 3 1, 3) := by decide +kernel
theorem dX1_leastOfSums_24 : decode cX1_leastOfSums 24 = .ok (.goto (-20), 3) := by decide +kernel
theorem dX1_leastOfSums_27 : decode cX1_leastOfSums 27 = .ok (.ldc 59, 2) := by decide +kernel
theorem dX1_leastOfSums_29 : decode cX1_leastOfSums 29 = .ok (.istore_n 3, 1) := by decide +kernel
theorem dX1_leastOfSums_30 : decode cX1_leastOfSums 30 = .ok (.iconst 0, 1) := by decide +kernel
theorem dX1_leastOfSums_31 : decode cX1_leastOfSums 31 = .ok (.istore 4, 2) := by decide +kernel
theorem dX1_leastOfSums_33 : decode cX1_leastOfSums 33 = .ok (.iload 4, 2) := by decide +kernel
theorem dX1_leastOfSums_35 : decode cX1_leastOfSums 35 = .ok (.sipush 135, 3) := by decide +kernel
theorem dX1_leastOfSums_38 : decode cX1_leastOfSums 38 = .ok (.if_icmp .gt 36, 3) := by decide +kernel
theorem dX1_leastOfSums_41 : decode cX1_leastOfSums 41 = .ok (.aload_n 0, 1) := by decide +kernel
theorem dX1_leastOfSums_42 : decode cX1_leastOfSums 42 = .ok (.iload_n 1, 1) := by decide +kernel
theorem dX1_leastOfSums_43 : decode cX1_leastOfSums 43 = .ok (.iload 4, 2) := by decide +kernel
theorem dX1_leastOfSums_45 : decode cX1_leastOfSums 45 = .ok (.invokevirtual 75, 3) := by decide +kernel
theorem dX1_leastOfSums_48 : decode cX1_leastOfSums 48 = .ok (.ifCond .eq 20, 3) := by decide +kernel
theorem dX1_leastOfSums_51 : decode cX1_leastOfSums 51 = .ok (.iload_n 3, 1) := by decide +kernel
theorem dX1_leastOfSums_52 : decode cX1_leastOfSums 52 = .ok (.iconst 4, 1) := by decide +kernel
theorem dX1_leastOfSums_53 : decode cX1_leastOfSums 53 = .ok (.iload 4, 2) := by decide +kernel
theorem dX1_leastOfSums_55 : decode cX1_leastOfSums 55 = .ok (.imul, 1) := by decide +kernel
theorem dX1_leastOfSums_56 : decode cX1_leastOfSums 56 = .ok (.bipush 10, 2) := by decide +kernel
theorem dX1_leastOfSums_58 : decode cX1_leastOfSums 58 = .ok (.iload_n 2, 1) := by decide +kernel
theorem dX1_leastOfSums_59 : decode cX1_leastOfSums 59 = .ok (.imul, 1) := by decide +kernel
theorem dX1_leastOfSums_60 : decode cX1_leastOfSums 60 = .ok (.isub, 1) := by decide +kernel
theorem dX1_leastOfSums_61 : decode cX1_leastOfSums 61 = .ok (.invokestatic 53, 3) := by decide +kernel
theorem dX1_leastOfSums_64 : decode cX1_leastOfSums 64 = .ok (.invokestatic 60, 3) := by decide +kernel
theorem dX1_leastOfSums_67 : decode cX1_leastOfSums 67 = .ok (.istore_n 3, 1) := by decide +kernel
theorem dX1_leastOfSums_68 : decode cX1_leastOfSums 68 = .ok (.iinc 4 1, 3) := by decide +kernel
theorem dX1_leastOfSums_71 : decode cX1_leastOfSums 71 = .ok (.goto (-38), 3) := by decide +kernel
theorem dX1_leastOfSums_74 : decode cX1_leastOfSums 74 = .ok (.iload_n 3, 1) := by decide +kernel
theorem dX1_leastOfSums_75 : decode cX1_leastOfSums 75 = .ok (.ireturn, 1) := by decide +kernel
theorem dX1_hasSum_0 : decode cX1_hasSum 0 = .ok (.iload_n 2, 1) := by decide +kernel
theorem dX1_hasSum_1 : decode cX1_hasSum 1 = .ok (.bipush 64, 2) := by decide +kernel
theorem dX1_hasSum_3 : decode cX1_hasSum 3 = .ok (.if_icmp .ge 12, 3) := by decide +kernel
theorem dX1_hasSum_6 : decode cX1_hasSum 6 = .ok (.aload_n 0, 1) := by decide +kernel
theorem dX1_hasSum_7 : decode cX1_hasSum 7 = .ok (.getfield 19, 3) := by decide +kernel
theorem dX1_hasSum_10 : decode cX1_hasSum 10 = .ok (.iload_n 1, 1) := by decide +kernel
theorem dX1_hasSum_11 : decode cX1_hasSum 11 = .ok (.laload, 1) := by decide +kernel
theorem dX1_hasSum_12 : decode cX1_hasSum 12 = .ok (.goto 25, 3) := by decide +kernel
theorem dX1_hasSum_15 : decode cX1_hasSum 15 = .ok (.iload_n 2, 1) := by decide +kernel
theorem dX1_hasSum_16 : decode cX1_hasSum 16 = .ok (.sipush 128, 3) := by decide +kernel
theorem dX1_hasSum_19 : decode cX1_hasSum 19 = .ok (.if_icmp .ge 12, 3) := by decide +kernel
theorem dX1_hasSum_22 : decode cX1_hasSum 22 = .ok (.aload_n 0, 1) := by decide +kernel
theorem dX1_hasSum_23 : decode cX1_hasSum 23 = .ok (.getfield 23, 3) := by decide +kernel
theorem dX1_hasSum_26 : decode cX1_hasSum 26 = .ok (.iload_n 1, 1) := by decide +kernel
theorem dX1_hasSum_27 : decode cX1_hasSum 27 = .ok (.laload, 1) := by decide +kernel
theorem dX1_hasSum_28 : decode cX1_hasSum 28 = .ok (.goto 9, 3) := by decide +kernel
theorem dX1_hasSum_31 : decode cX1_hasSum 31 = .ok (.aload_n 0, 1) := by decide +kernel
theorem dX1_hasSum_32 : decode cX1_hasSum 32 = .ok (.getfield 26, 3) := by decide +kernel
theorem dX1_hasSum_35 : decode cX1_hasSum 35 = .ok (.iload_n 1, 1) := by decide +kernel
theorem dX1_hasSum_36 : decode cX1_hasSum 36 = .ok (.laload, 1) := by decide +kernel
theorem dX1_hasSum_37 : decode cX1_hasSum 37 = .ok (.lstore_n 3, 1) := by decide +kernel
theorem dX1_hasSum_38 : decode cX1_hasSum 38 = .ok (.lload_n 3, 1) := by decide +kernel
theorem dX1_hasSum_39 : decode cX1_hasSum 39 = .ok (.iload_n 2, 1) := by decide +kernel
theorem dX1_hasSum_40 : decode cX1_hasSum 40 = .ok (.bipush 63, 2) := by decide +kernel
theorem dX1_hasSum_42 : decode cX1_hasSum 42 = .ok (.iand, 1) := by decide +kernel
theorem dX1_hasSum_43 : decode cX1_hasSum 43 = .ok (.lushr, 1) := by decide +kernel
theorem dX1_hasSum_44 : decode cX1_hasSum 44 = .ok (.lconst 1, 1) := by decide +kernel
theorem dX1_hasSum_45 : decode cX1_hasSum 45 = .ok (.land, 1) := by decide +kernel
theorem dX1_hasSum_46 : decode cX1_hasSum 46 = .ok (.lconst 0, 1) := by decide +kernel
theorem dX1_hasSum_47 : decode cX1_hasSum 47 = .ok (.lcmp, 1) := by decide +kernel
theorem dX1_hasSum_48 : decode cX1_hasSum 48 = .ok (.ifCond .eq 7, 3) := by decide +kernel
theorem dX1_hasSum_51 : decode cX1_hasSum 51 = .ok (.iconst 1, 1) := by decide +kernel
theorem dX1_hasSum_52 : decode cX1_hasSum 52 = .ok (.goto 4, 3) := by decide +kernel
theorem dX1_hasSum_55 : decode cX1_hasSum 55 = .ok (.iconst 0, 1) := by decide +kernel
theorem dX1_hasSum_56 : decode cX1_hasSum 56 = .ok (.ireturn, 1) := by decide +kernel
set_option maxRecDepth 20000 in
theorem ggX3_init_X9_init : GoodIn wsX3_init wsX9_init := goodIn_r _ [10, 11, 2, 3, 12, 13, 14, 15, 16, 17, 18, 19, 20, 21, 22, 23, 24, 28, 29, 30, 31, 32, 33, 34, 35, 36, 37, 38, 39, 40, 41, 42, 43] (by decide +kernel) (by decide +kernel)
set_option maxRecDepth 20000 in
theorem gX3_init_X9_init : GoodIn wsX3_init (wsX9_init) := ggX3_init_X9_init
theorem dX3_init_0 : decode cX3_init 0 = .ok (.aload_n 0, 1) := by decide +kernel
theorem dX3_init_1 : decode cX3_init 1 = .ok (.invokespecial 3, 3) := by decide +kernel
theorem dX3_init_4 : decode cX3_init 4 = .ok (.aload_n 0, 1) := by decide +kernel
theorem dX3_init_5 : decode cX3_init 5 = .ok (.bipush 9, 2) := by decide +kernel
theorem dX3_init_7 : decode cX3_init 7 = .ok (.anewarray 9, 3) := by decide +kernel
theorem dX3_init_10 : decode cX3_init 10 = .ok (.putfield 11, 3) := by decide +kernel
theorem dX3_init_13 : decode cX3_init 13 = .ok (.iconst 0, 1) := by decide +kernel
theorem dX3_init_14 : decode cX3_init 14 = .ok (.istore_n 1, 1) := by decide +kernel
theorem dX3_init_15 : decode cX3_init 15 = .ok (.iload_n 1, 1) := by decide +kernel
theorem dX3_init_16 : decode cX3_init 16 = .ok (.bipush 8, 2) := by decide +kernel
theorem dX3_init_18 : decode cX3_init 18 = .ok (.if_icmp .gt 22, 3) := by decide +kernel
theorem dX3_init_21 : decode cX3_init 21 = .ok (.aload_n 0, 1) := by decide +kernel
theorem dX3_init_22 : decode cX3_init 22 = .ok (.getfield 11, 3) := by decide +kernel
theorem dX3_init_25 : decode cX3_init 25 = .ok (.iload_n 1, 1) := by decide +kernel
theorem dX3_init_26 : decode cX3_init 26 = .ok (.new 9, 3) := by decide +kernel
theorem dX3_init_29 : decode cX3_init 29 = .ok (.dup, 1) := by decide +kernel
theorem dX3_init_30 : decode cX3_init 30 = .ok (.invokespecial 17, 3) := by decide +kernel
theorem dX3_init_33 : decode cX3_init 33 = .ok (.aastore, 1) := by decide +kernel
theorem dX3_init_34 : decode cX3_init 34 = .ok (.iinc 1 1, 3) := by decide +kernel
theorem dX3_init_37 : decode cX3_init 37 = .ok (.goto (-22), 3) := by decide +kernel
theorem dX3_init_40 : decode cX3_init 40 = .ok (.return_, 1) := by decide +kernel
set_option maxRecDepth 20000 in
theorem ggX3_begin_X9_copyFrom : GoodIn wsX3_begin wsX9_copyFrom := goodIn_r _ [7, 8, 9, 10, 11, 12, 13, 14, 15, 16, 17, 18, 19, 20, 21, 22, 23, 24, 25, 26, 27, 31, 32, 33, 34, 35, 36, 37, 38, 39, 40, 41, 42, 43, 44, 45, 46] (by decide +kernel) (by decide +kernel)
set_option maxRecDepth 20000 in
theorem gX3_begin_X9_copyFrom : GoodIn wsX3_begin (wsV RX3 22 RX9 yX9_copyFrom wsX9_copyFrom) := goodIn_app (goodIn_of _ (by decide +kernel)) ggX3_begin_X9_copyFrom
theorem dX3_begin_0 : decode cX3_begin 0 = .ok (.aload_n 0, 1) := by decide +kernel
theorem dX3_begin_1 : decode cX3_begin 1 = .ok (.getfield 11, 3) := by decide +kernel
theorem dX3_begin_4 : decode cX3_begin 4 = .ok (.aload_n 0, 1) := by decide +kernel
theorem dX3_begin_5 : decode cX3_begin 5 = .ok (.getfield 18, 3) := by decide +kernel
theorem dX3_begin_8 : decode cX3_begin 8 = .ok (.aaload, 1) := by decide +kernel
theorem dX3_begin_9 : decode cX3_begin 9 = .ok (.aload_n 1, 1) := by decide +kernel
theorem dX3_begin_10 : decode cX3_begin 10 = .ok (.invokevirtual 22, 3) := by decide +kernel
theorem dX3_begin_13 : decode cX3_begin 13 = .ok (.return_, 1) := by decide +kernel
theorem dX3_settle_0 : decode cX3_settle 0 = .ok (.iload_n 1, 1) := by decide +kernel
theorem dX3_settle_1 : decode cX3_settle 1 = .ok (.ifCond .lt 41, 3) := by decide +kernel
theorem dX3_settle_4 : decode cX3_settle 4 = .ok (.aload_n 0, 1) := by decide +kernel
theorem dX3_settle_5 : decode cX3_settle 5 = .ok (.aload_n 0, 1) := by decide +kernel
theorem dX3_settle_6 : decode cX3_settle 6 = .ok (.getfield 18, 3) := by decide +kernel
theorem dX3_settle_9 : decode cX3_settle 9 = .ok (.bipush 8, 2) := by decide +kernel
theorem dX3_settle_11 : decode cX3_settle 11 = .ok (.if_icmp .ge 12, 3) := by decide +kernel
theorem dX3_settle_14 : decode cX3_settle 14 = .ok (.aload_n 0, 1) := by decide +kernel
theorem dX3_settle_15 : decode cX3_settle 15 = .ok (.getfield 18, 3) := by decide +kernel
theorem dX3_settle_18 : decode cX3_settle 18 = .ok (.iconst 1, 1) := by decide +kernel
theorem dX3_settle_19 : decode cX3_settle 19 = .ok (.iadd, 1) := by decide +kernel
theorem dX3_settle_20 : decode cX3_settle 20 = .ok (.goto 4, 3) := by decide +kernel
theorem dX3_settle_23 : decode cX3_settle 23 = .ok (.iconst 0, 1) := by decide +kernel
theorem dX3_settle_24 : decode cX3_settle 24 = .ok (.putfield 18, 3) := by decide +kernel
theorem dX3_settle_27 : decode cX3_settle 27 = .ok (.aload_n 0, 1) := by decide +kernel
theorem dX3_settle_28 : decode cX3_settle 28 = .ok (.aload_n 0, 1) := by decide +kernel
theorem dX3_settle_29 : decode cX3_settle 29 = .ok (.getfield 26, 3) := by decide +kernel
theorem dX3_settle_32 : decode cX3_settle 32 = .ok (.iconst 1, 1) := by decide +kernel
theorem dX3_settle_33 : decode cX3_settle 33 = .ok (.iadd, 1) := by decide +kernel
theorem dX3_settle_34 : decode cX3_settle 34 = .ok (.bipush 8, 2) := by decide +kernel
theorem dX3_settle_36 : decode cX3_settle 36 = .ok (.invokestatic 29, 3) := by decide +kernel
theorem dX3_settle_39 : decode cX3_settle 39 = .ok (.putfield 26, 3) := by decide +kernel
theorem dX3_settle_42 : decode cX3_settle 42 = .ok (.iload_n 1, 1) := by decide +kernel
theorem dX3_settle_43 : decode cX3_settle 43 = .ok (.ireturn, 1) := by decide +kernel
theorem dX4_init_0 : decode cX4_init 0 = .ok (.aload_n 0, 1) := by decide +kernel
theorem dX4_init_1 : decode cX4_init 1 = .ok (.invokespecial 3, 3) := by decide +kernel
theorem dX4_init_4 : decode cX4_init 4 = .ok (.aload_n 0, 1) := by decide +kernel
theorem dX4_init_5 : decode cX4_init 5 = .ok (.bipush 60, 2) := by decide +kernel
theorem dX4_init_7 : decode cX4_init 7 = .ok (.newarray .char, 2) := by decide +kernel
theorem dX4_init_9 : decode cX4_init 9 = .ok (.putfield 9, 3) := by decide +kernel
theorem dX4_init_12 : decode cX4_init 12 = .ok (.aload_n 0, 1) := by decide +kernel
theorem dX4_init_13 : decode cX4_init 13 = .ok (.getstatic 15, 3) := by decide +kernel
theorem dX4_init_16 : decode cX4_init 16 = .ok (.putfield 21, 3) := by decide +kernel
theorem dX4_init_19 : decode cX4_init 19 = .ok (.aload_n 0, 1) := by decide +kernel
theorem dX4_init_20 : decode cX4_init 20 = .ok (.iconst 3, 1) := by decide +kernel
theorem dX4_init_21 : decode cX4_init 21 = .ok (.newarray .int, 2) := by decide +kernel
theorem dX4_init_23 : decode cX4_init 23 = .ok (.putfield 24, 3) := by decide +kernel
theorem dX4_init_26 : decode cX4_init 26 = .ok (.return_, 1) := by decide +kernel
theorem dX5_init_0 : decode cX5_init 0 = .ok (.aload_n 0, 1) := by decide +kernel
theorem dX5_init_1 : decode cX5_init 1 = .ok (.invokespecial 3, 3) := by decide +kernel
theorem dX5_init_4 : decode cX5_init 4 = .ok (.aload_n 0, 1) := by decide +kernel
theorem dX5_init_5 : decode cX5_init 5 = .ok (.aload_n 1, 1) := by decide +kernel
theorem dX5_init_6 : decode cX5_init 6 = .ok (.putfield 9, 3) := by decide +kernel
theorem dX5_init_9 : decode cX5_init 9 = .ok (.aload_n 0, 1) := by decide +kernel
theorem dX5_init_10 : decode cX5_init 10 = .ok (.aload_n 2, 1) := by decide +kernel
theorem dX5_init_11 : decode cX5_init 11 = .ok (.putfield 15, 3) := by decide +kernel
theorem dX5_init_14 : decode cX5_init 14 = .ok (.return_, 1) := by decide +kernel
set_option maxRecDepth 20000 in
theorem ggX5_thingInOrder_X5_isThingAhead : GoodIn wsX5_thingInOrder wsX5_isThingAhead := goodIn_r _ [7, 1, 8, 9, 10, 11, 12, 13, 14, 15, 16, 17, 18, 19, 20, 21, 22, 23, 24, 25, 26, 27] (by decide +kernel) (by decide +kernel)
set_option maxRecDepth 20000 in
theorem gX5_thingInOrder_X5_isThingAhead : GoodIn wsX5_thingInOrder (wsV RX5 25 RX5 yX5_isThingAhead wsX5_isThingAhead) := goodIn_app (goodIn_of _ (by decide +kernel)) ggX5_thingInOrder_X5_isThingAhead
theorem dX5_thingInOrder_0 : decode cX5_thingInOrder 0 = .ok (.iconst 0, 1) := by decide +kernel
theorem dX5_thingInOrder_1 : decode cX5_thingInOrder 1 = .ok (.istore_n 2, 1) := by decide +kernel
theorem dX5_thingInOrder_2 : decode cX5_thingInOrder 2 = .ok (.iload_n 2, 1) := by decide +kernel
theorem dX5_thingInOrder_3 : decode cX5_thingInOrder 3 = .ok (.aload_n 0, 1) := by decide +kernel
theorem dX5_thingInOrder_4 : decode cX5_thingInOrder 4 = .ok (.getfield 9, 3) := by decide +kernel
theorem dX5_thingInOrder_7 : decode cX5_thingInOrder 7 = .ok (.getfield 19, 3) := by decide +kernel
theorem dX5_thingInOrder_10 : decode cX5_thingInOrder 10 = .ok (.if_icmp .ge 52, 3) := by decide +kernel
theorem dX5_thingInOrder_13 : decode cX5_thingInOrder 13 = .ok (.iconst 0, 1) := by decide +kernel
theorem dX5_thingInOrder_14 : decode cX5_thingInOrder 14 = .ok (.istore_n 3, 1) := by decide +kernel
theorem dX5_thingInOrder_15 : decode cX5_thingInOrder 15 = .ok (.iconst 0, 1) := by decide +kernel
theorem dX5_thingInOrder_16 : decode cX5_thingInOrder 16 = .ok (.istore 4, 2) := by decide +kernel
theorem dX5_thingInOrder_18 : decode cX5_thingInOrder 18 = .ok (.iload 4, 2) := by decide +kernel
theorem dX5_thingInOrder_20 : decode cX5_thingInOrder 20 = .ok (.aload_n 0, 1) := by decide +kernel
theorem dX5_thingInOrder_21 : decode cX5_thingInOrder 21 = .ok (.getfield 9, 3) := by decide +kernel
theorem dX5_thingInOrder_24 : decode cX5_thingInOrder 24 = .ok (.getfield 19, 3) := by decide +kernel
theorem dX5_thingInOrder_27 : decode cX5_thingInOrder 27 = .ok (.if_icmp .ge 22, 3) := by decide +kernel
theorem dX5_thingInOrder_30 : decode cX5_thingInOrder 30 = .ok (.aload_n 0, 1) := by decide +kernel
theorem dX5_thingInOrder_31 : decode cX5_thingInOrder 31 = .ok (.iload 4, 2) := by decide +kernel
theorem dX5_thingInOrder_33 : decode cX5_thingInOrder 33 = .ok (.iload_n 2, 1) := by decide +kernel
theorem dX5_thingInOrder_34 : decode cX5_thingInOrder 34 = .ok (.invokevirtual 25, 3) := by decide +kernel
theorem dX5_thingInOrder_37 : decode cX5_thingInOrder 37 = .ok (.ifCond .eq 6, 3) := by decide +kernel
theorem dX5_thingInOrder_40 : decode cX5_thingInOrder 40 = .ok (.iinc 3 1, 3) := by decide +kernel
theorem dX5_thingInOrder_43 : decode cX5_thingInOrder 43 = .ok (.iinc 4 1, 3) := by decide +kernel
theorem dX5_thingInOrder_46 : decode cX5_thingInOrder 46 = .ok (.goto (-28), 3) := by decide +kernel
theorem dX5_thingInOrder_49 : decode cX5_thingInOrder 49 = .ok (.iload_n 3, 1) := by decide +kernel
theorem dX5_thingInOrder_50 : decode cX5_thingInOrder 50 = .ok (.iload_n 1, 1) := by decide +kernel
theorem dX5_thingInOrder_51 : decode cX5_thingInOrder 51 = .ok (.if_icmp .ne 5, 3) := by decide +kernel
theorem dX5_thingInOrder_54 : decode cX5_thingInOrder 54 = .ok (.iload_n 2, 1) := by decide +kernel
theorem dX5_thingInOrder_55 : decode cX5_thingInOrder 55 = .ok (.ireturn, 1) := by decide +kernel
theorem dX5_thingInOrder_56 : decode cX5_thingInOrder 56 = .ok (.iinc 2 1, 3) := by decide +kernel
theorem dX5_thingInOrder_59 : decode cX5_thingInOrder 59 = .ok (.goto (-57), 3) := by decide +kernel
theorem dX5_thingInOrder_62 : decode cX5_thingInOrder 62 = .ok (.iconst (-1), 1) := by decide +kernel
theorem dX5_thingInOrder_63 : decode cX5_thingInOrder 63 = .ok (.ireturn, 1) := by decide +kernel
theorem dX5_isThingAhead_0 : decode cX5_isThingAhead 0 = .ok (.aload_n 0, 1) := by decide +kernel
theorem dX5_isThingAhead_1 : decode cX5_isThingAhead 1 = .ok (.getfield 9, 3) := by decide +kernel
theorem dX5_isThingAhead_4 : decode cX5_isThingAhead 4 = .ok (.getfield 29, 3) := by decide +kernel
theorem dX5_isThingAhead_7 : decode cX5_isThingAhead 7 = .ok (.iload_n 1, 1) := by decide +kernel
theorem dX5_isThingAhead_8 : decode cX5_isThingAhead 8 = .ok (.iaload, 1) := by decide +kernel
theorem dX5_isThingAhead_9 : decode cX5_isThingAhead 9 = .ok (.aload_n 0, 1) := by decide +kernel
theorem dX5_isThingAhead_10 : decode cX5_isThingAhead 10 = .ok (.getfield 9, 3) := by decide +kernel
theorem dX5_isThingAhead_13 : decode cX5_isThingAhead 13 = .ok (.getfield 29, 3) := by decide +kernel
theorem dX5_isThingAhead_16 : decode cX5_isThingAhead 16 = .ok (.iload_n 2, 1) := by decide +kernel
theorem dX5_isThingAhead_17 : decode cX5_isThingAhead 17 = .ok (.iaload, 1) := by decide +kernel
theorem dX5_isThingAhead_18 : decode cX5_isThingAhead 18 = .ok (.if_icmp .eq 30, 3) := by decide +kernel
theorem dX5_isThingAhead_21 : decode cX5_isThingAhead 21 = .ok (.aload_n 0, 1) := by decide +kernel
theorem dX5_isThingAhead_22 : decode cX5_isThingAhead 22 = .ok (.getfield 9, 3) := by decide +kernel
theorem dX5_isThingAhead_25 : decode cX5_isThingAhead 25 = .ok (.getfield 29, 3) := by decide +kernel
theorem dX5_isThingAhead_28 : decode cX5_isThingAhead 28 = .ok (.iload_n 1, 1) := by decide +kernel
theorem dX5_isThingAhead_29 : decode cX5_isThingAhead 29 = .ok (.iaload, 1) := by decide +kernel
theorem dX5_isThingAhead_30 : decode cX5_isThingAhead 30 = .ok (.aload_n 0, 1) := by decide +kernel
theorem dX5_isThingAhead_31 : decode cX5_isThingAhead 31 = .ok (.getfield 9, 3) := by decide +kernel
theorem dX5_isThingAhead_34 : decode cX5_isThingAhead 34 = .ok (.getfield 29, 3) := by decide +kernel
theorem dX5_isThingAhead_37 : decode cX5_isThingAhead 37 = .ok (.iload_n 2, 1) := by decide +kernel
theorem dX5_isThingAhead_38 : decode cX5_isThingAhead 38 = .ok (.iaload, 1) := by decide +kernel
theorem dX5_isThingAhead_39 : decode cX5_isThingAhead 39 = .ok (.if_icmp .le 7, 3) := by decide +kernel
theorem dX5_isThingAhead_42 : decode cX5_isThingAhead 42 = .ok (.iconst 1, 1) := by decide +kernel
theorem dX5_isThingAhead_43 : decode cX5_isThingAhead 43 = .ok (.goto 4, 3) := by decide +kernel
theorem dX5_isThingAhead_46 : decode cX5_isThingAhead 46 = .ok (.iconst 0, 1) := by decide +kernel
theorem dX5_isThingAhead_47 : decode cX5_isThingAhead 47 = .ok (.ireturn, 1) := by decide +kernel
theorem dX5_isThingAhead_48 : decode cX5_isThingAhead 48 = .ok (.aload_n 0, 1) := by decide +kernel
theorem dX5_isThingAhead_49 : decode cX5_isThingAhead 49 = .ok (.getfield 9, 3) := by decide +kernel
theorem dX5_isThingAhead_52 : decode cX5_isThingAhead 52 = .ok (.getfield 33, 3) := by decide +kernel
theorem dX5_isThingAhead_55 : decode cX5_isThingAhead 55 = .ok (.iload_n 1, 1) := by decide +kernel
theorem dX5_isThingAhead_56 : decode cX5_isThingAhead 56 = .ok (.iaload, 1) := by decide +kernel
theorem dX5_isThingAhead_57 : decode cX5_isThingAhead 57 = .ok (.aload_n 0, 1) := by decide +kernel
theorem dX5_isThingAhead_58 : decode cX5_isThingAhead 58 = .ok (.getfield 9, 3) := by decide +kernel
theorem dX5_isThingAhead_61 : decode cX5_isThingAhead 61 = .ok (.getfield 33, 3) := by decide +kernel
theorem dX5_isThingAhead_64 : decode cX5_isThingAhead 64 = .ok (.iload_n 2, 1) := by decide +kernel
theorem dX5_isThingAhead_65 : decode cX5_isThingAhead 65 = .ok (.iaload, 1) := by decide +kernel
theorem dX5_isThingAhead_66 : decode cX5_isThingAhead 66 = .ok (.if_icmp .eq 21, 3) := by decide +kernel
theorem dX5_isThingAhead_69 : decode cX5_isThingAhead 69 = .ok (.aload_n 0, 1) := by decide +kernel
theorem dX5_isThingAhead_70 : decode cX5_isThingAhead 70 = .ok (.getfield 9, 3) := by decide +kernel
theorem dX5_isThingAhead_73 : decode cX5_isThingAhead 73 = .ok (.getfield 33, 3) := by decide +kernel
theorem dX5_isThingAhead_76 : decode cX5_isThingAhead 76 = .ok (.iload_n 1, 1) := by decide +kernel
theorem dX5_isThingAhead_77 : decode cX5_isThingAhead 77 = .ok (.iaload, 1) := by decide +kernel
theorem dX5_isThingAhead_78 : decode cX5_isThingAhead 78 = .ok (.ifCond .ne 7, 3) := by decide +kernel
theorem dX5_isThingAhead_81 : decode cX5_isThingAhead 81 = .ok (.iconst 1, 1) := by decide +kernel
theorem dX5_isThingAhead_82 : decode cX5_isThingAhead 82 = .ok (.goto 4, 3) := by decide +kernel
theorem dX5_isThingAhead_85 : decode cX5_isThingAhead 85 = .ok (.iconst 0, 1) := by decide +kernel
theorem dX5_isThingAhead_86 : decode cX5_isThingAhead 86 = .ok (.ireturn, 1) := by decide +kernel
theorem dX5_isThingAhead_87 : decode cX5_isThingAhead 87 = .ok (.iload_n 1, 1) := by decide +kernel
theorem dX5_isThingAhead_88 : decode cX5_isThingAhead 88 = .ok (.iload_n 2, 1) := by decide +kernel
theorem dX5_isThingAhead_89 : decode cX5_isThingAhead 89 = .ok (.if_icmp .ge 7, 3) := by decide +kernel
theorem dX5_isThingAhead_92 : decode cX5_isThingAhead 92 = .ok (.iconst 1, 1) := by decide +kernel
theorem dX5_isThingAhead_93 : decode cX5_isThingAhead 93 = .ok (.goto 4, 3) := by decide +kernel
theorem dX5_isThingAhead_96 : decode cX5_isThingAhead 96 = .ok (.iconst 0, 1) := by decide +kernel
theorem dX5_isThingAhead_97 : decode cX5_isThingAhead 97 = .ok (.ireturn, 1) := by decide +kernel
set_option maxRecDepth 20000 in
theorem ggX5_cartInOrder_X5_isCartAhead : GoodIn wsX5_cartInOrder wsX5_isCartAhead := goodIn_r _ [7, 1, 8, 9, 10, 11, 12, 13, 14, 15, 16, 17, 18, 19, 20, 21, 22, 23, 24, 25, 26, 27, 28, 29, 30, 31, 32, 33, 34, 35, 36, 37, 38, 39, 40, 41, 42, 43, 44, 45, 46, 47, 48, 49, 50, 51, 52, 53, 54, 55, 56, 57, 58, 59] (by decide +kernel) (by decide +kernel)
set_option maxRecDepth 20000 in
theorem gX5_cartInOrder_X5_isCartAhead : GoodIn wsX5_cartInOrder (wsV RX5 39 RX5 yX5_isCartAhead wsX5_isCartAhead) := goodIn_app (goodIn_of _ (by decide +kernel)) ggX5_cartInOrder_X5_isCartAhead
theorem dX5_cartInOrder_0 : decode cX5_cartInOrder 0 = .ok (.iconst 0, 1) := by decide +kernel
theorem dX5_cartInOrder_1 : decode cX5_cartInOrder 1 = .ok (.istore_n 2, 1) := by decide +kernel
theorem dX5_cartInOrder_2 : decode cX5_cartInOrder 2 = .ok (.iload_n 2, 1) := by decide +kernel
theorem dX5_cartInOrder_3 : decode cX5_cartInOrder 3 = .ok (.aload_n 0, 1) := by decide +kernel
theorem dX5_cartInOrder_4 : decode cX5_cartInOrder 4 = .ok (.getfield 9, 3) := by decide +kernel
theorem dX5_cartInOrder_7 : decode cX5_cartInOrder 7 = .ok (.getfield 36, 3) := by decide +kernel
theorem dX5_cartInOrder_10 : decode cX5_cartInOrder 10 = .ok (.if_icmp .ge 52, 3) := by decide +kernel
theorem dX5_cartInOrder_13 : decode cX5_cartInOrder 13 = .ok (.iconst 0, 1) := by decide +kernel
theorem dX5_cartInOrder_14 : decode cX5_cartInOrder 14 = .ok (.istore_n 3, 1) := by decide +kernel
theorem dX5_cartInOrder_15 : decode cX5_cartInOrder 15 = .ok (.iconst 0, 1) := by decide +kernel
theorem dX5_cartInOrder_16 : decode cX5_cartInOrder 16 = .ok (.istore 4, 2) := by decide +kernel
theorem dX5_cartInOrder_18 : decode cX5_cartInOrder 18 = .ok (.iload 4, 2) := by decide +kernel
theorem dX5_cartInOrder_20 : decode cX5_cartInOrder 20 = .ok (.aload_n 0, 1) := by decide +kernel
theorem dX5_cartInOrder_21 : decode cX5_cartInOrder 21 = .ok (.getfield 9, 3) := by decide +kernel
theorem dX5_cartInOrder_24 : decode cX5_cartInOrder 24 = .ok (.getfield 36, 3) := by decide +kernel
theorem dX5_cartInOrder_27 : decode cX5_cartInOrder 27 = .ok (.if_icmp .ge 22, 3) := by decide +kernel
theorem dX5_cartInOrder_30 : decode cX5_cartInOrder 30 = .ok (.aload_n 0, 1) := by decide +kernel
theorem dX5_cartInOrder_31 : decode cX5_cartInOrder 31 = .ok (.iload 4, 2) := by decide +kernel
theorem dX5_cartInOrder_33 : decode cX5_cartInOrder 33 = .ok (.iload_n 2, 1) := by decide +kernel
theorem dX5_cartInOrder_34 : decode cX5_cartInOrder 34 = .ok (.invokevirtual 39, 3) := by decide +kernel
theorem dX5_cartInOrder_37 : decode cX5_cartInOrder 37 = .ok (.ifCond .eq 6, 3) := by decide +kernel
theorem dX5_cartInOrder_40 : decode cX5_cartInOrder 40 = .ok (.iinc 3 1, 3) := by decide +kernel
theorem dX5_cartInOrder_43 : decode cX5_cartInOrder 43 = .ok (.iinc 4 1, 3) := by decide +kernel
theorem dX5_cartInOrder_46 : decode cX5_cartInOrder 46 = .ok (.goto (-28), 3) := by decide +kernel
theorem dX5_cartInOrder_49 : decode cX5_cartInOrder 49 = .ok (.iload_n 3, 1) := by decide +kernel
theorem dX5_cartInOrder_50 : decode cX5_cartInOrder 50 = .ok (.iload_n 1, 1) := by decide +kernel
theorem dX5_cartInOrder_51 : decode cX5_cartInOrder 51 = .ok (.if_icmp .ne 5, 3) := by decide +kernel
theorem dX5_cartInOrder_54 : decode cX5_cartInOrder 54 = .ok (.iload_n 2, 1) := by decide +kernel
theorem dX5_cartInOrder_55 : decode cX5_cartInOrder 55 = .ok (.ireturn, 1) := by decide +kernel
theorem dX5_cartInOrder_56 : decode cX5_cartInOrder 56 = .ok (.iinc 2 1, 3) := by decide +kernel
theorem dX5_cartInOrder_59 : decode cX5_cartInOrder 59 = .ok (.goto (-57), 3) := by decide +kernel
theorem dX5_cartInOrder_62 : decode cX5_cartInOrder 62 = .ok (.iconst (-1), 1) := by decide +kernel
theorem dX5_cartInOrder_63 : decode cX5_cartInOrder 63 = .ok (.ireturn, 1) := by decide +kernel
set_option maxRecDepth 20000 in
theorem ggX5_isCartAhead_X9_weightOfAllOn : GoodIn wsX5_isCartAhead wsX9_weightOfAllOn := goodIn_r _ [7, 8, 9, 10, 6, 11, 12, 13, 14, 15, 37, 38, 39, 40, 41, 42, 43, 44, 45, 46, 47, 48, 49, 50, 51, 52] (by decide +kernel) (by decide +kernel)
set_option maxRecDepth 20000 in
theorem gX5_isCartAhead_X9_weightOfAllOn : GoodIn wsX5_isCartAhead (wsV RX5 42 RX9 yX9_weightOfAllOn wsX9_weightOfAllOn) := goodIn_app (goodIn_of _ (by decide +kernel)) ggX5_isCartAhead_X9_weightOfAllOn
set_option maxRecDepth 20000 in
theorem ggX5_isCartAhead_X7_imbalance : GoodIn wsX5_isCartAhead wsX7_imbalance := goodIn_r _ [20, 21, 22, 23, 24, 25, 26, 27, 19, 28, 29, 30, 31, 32, 33, 34, 53, 37, 38, 39, 40, 41, 42, 43, 44, 45, 46, 47, 48, 49, 50, 51, 52] (by decide +kernel) (by decide +kernel)
set_option maxRecDepth 20000 in
theorem gX5_isCartAhead_X7_imbalance : GoodIn wsX5_isCartAhead (wsV RX5 46 RX7 yX7_imbalance wsX7_imbalance) := goodIn_app (goodIn_of _ (by decide +kernel)) ggX5_isCartAhead_X7_imbalance
theorem dX5_isCartAhead_0 : decode cX5_isCartAhead 0 = .ok (.aload_n 0, 1) := by decide +kernel
theorem dX5_isCartAhead_1 : decode cX5_isCartAhead 1 = .ok (.getfield 9, 3) := by decide +kernel
theorem dX5_isCartAhead_4 : decode cX5_isCartAhead 4 = .ok (.iload_n 1, 1) := by decide +kernel
theorem dX5_isCartAhead_5 : decode cX5_isCartAhead 5 = .ok (.invokevirtual 42, 3) := by decide +kernel
theorem dX5_isCartAhead_8 : decode cX5_isCartAhead 8 = .ok (.istore_n 3, 1) := by decide +kernel
theorem dX5_isCartAhead_9 : decode cX5_isCartAhead 9 = .ok (.aload_n 0, 1) := by decide +kernel
theorem dX5_isCartAhead_10 : decode cX5_isCartAhead 10 = .ok (.getfield 9, 3) := by decide +kernel
theorem dX5_isCartAhead_13 : decode cX5_isCartAhead 13 = .ok (.iload_n 2, 1) := by decide +kernel
theorem dX5_isCartAhead_14 : decode cX5_isCartAhead 14 = .ok (.invokevirtual 42, 3) := by decide +kernel
theorem dX5_isCartAhead_17 : decode cX5_isCartAhead 17 = .ok (.istore 4, 2) := by decide +kernel
theorem dX5_isCartAhead_19 : decode cX5_isCartAhead 19 = .ok (.iload_n 3, 1) := by decide +kernel
theorem dX5_isCartAhead_20 : decode cX5_isCartAhead 20 = .ok (.iload 4, 2) := by decide +kernel
theorem dX5_isCartAhead_22 : decode cX5_isCartAhead 22 = .ok (.if_icmp .eq 15, 3) := by decide +kernel
theorem dX5_isCartAhead_25 : decode cX5_isCartAhead 25 = .ok (.iload_n 3, 1) := by decide +kernel
theorem dX5_isCartAhead_26 : decode cX5_isCartAhead 26 = .ok (.iload 4, 2) := by decide +kernel
theorem dX5_isCartAhead_28 : decode cX5_isCartAhead 28 = .ok (.if_icmp .le 7, 3) := by decide +kernel
theorem dX5_isCartAhead_31 : decode cX5_isCartAhead 31 = .ok (.iconst 1, 1) := by decide +kernel
theorem dX5_isCartAhead_32 : decode cX5_isCartAhead 32 = .ok (.goto 4, 3) := by decide +kernel
theorem dX5_isCartAhead_35 : decode cX5_isCartAhead 35 = .ok (.iconst 0, 1) := by decide +kernel
theorem dX5_isCartAhead_36 : decode cX5_isCartAhead 36 = .ok (.ireturn, 1) := by decide +kernel
theorem dX5_isCartAhead_37 : decode cX5_isCartAhead 37 = .ok (.aload_n 0, 1) := by decide +kernel
theorem dX5_isCartAhead_38 : decode cX5_isCartAhead 38 = .ok (.getfield 15, 3) := by decide +kernel
theorem dX5_isCartAhead_41 : decode cX5_isCartAhead 41 = .ok (.iload_n 1, 1) := by decide +kernel
theorem dX5_isCartAhead_42 : decode cX5_isCartAhead 42 = .ok (.invokevirtual 46, 3) := by decide +kernel
theorem dX5_isCartAhead_45 : decode cX5_isCartAhead 45 = .ok (.istore 5, 2) := by decide +kernel
theorem dX5_isCartAhead_47 : decode cX5_isCartAhead 47 = .ok (.aload_n 0, 1) := by decide +kernel
theorem dX5_isCartAhead_48 : decode cX5_isCartAhead 48 = .ok (.getfield 15, 3) := by decide +kernel
theorem dX5_isCartAhead_51 : decode cX5_isCartAhead 51 = .ok (.iload_n 2, 1) := by decide +kernel
theorem dX5_isCartAhead_52 : decode cX5_isCartAhead 52 = .ok (.invokevirtual 46, 3) := by decide +kernel
theorem dX5_isCartAhead_55 : decode cX5_isCartAhead 55 = .ok (.istore 6, 2) := by decide +kernel
theorem dX5_isCartAhead_57 : decode cX5_isCartAhead 57 = .ok (.iload 5, 2) := by decide +kernel
theorem dX5_isCartAhead_59 : decode cX5_isCartAhead 59 = .ok (.iload 6, 2) := by decide +kernel
theorem dX5_isCartAhead_61 : decode cX5_isCartAhead 61 = .ok (.if_icmp .eq 16, 3) := by decide +kernel
theorem dX5_isCartAhead_64 : decode cX5_isCartAhead 64 = .ok (.iload 5, 2) := by decide +kernel
theorem dX5_isCartAhead_66 : decode cX5_isCartAhead 66 = .ok (.iload 6, 2) := by decide +kernel
theorem dX5_isCartAhead_68 : decode cX5_isCartAhead 68 = .ok (.if_icmp .ge 7, 3) := by decide +kernel
theorem dX5_isCartAhead_71 : decode cX5_isCartAhead 71 = .ok (.iconst 1, 1) := by decide +kernel
theorem dX5_isCartAhead_72 : decode cX5_isCartAhead 72 = .ok (.goto 4, 3) := by decide +kernel
theorem dX5_isCartAhead_75 : decode cX5_isCartAhead 75 = .ok (.iconst 0, 1) := by decide +kernel
theorem dX5_isCartAhead_76 : decode cX5_isCartAhead 76 = .ok (.ireturn, 1) := by decide +kernel
theorem dX5_isCartAhead_77 : decode cX5_isCartAhead 77 = .ok (.iload_n 1, 1) := by decide +kernel
theorem dX5_isCartAhead_78 : decode cX5_isCartAhead 78 = .ok (.iload_n 2, 1) := by decide +kernel
theorem dX5_isCartAhead_79 : decode cX5_isCartAhead 79 = .ok (.if_icmp .ge 7, 3) := by decide +kernel
theorem dX5_isCartAhead_82 : decode cX5_isCartAhead 82 = .ok (.iconst 1, 1) := by decide +kernel
theorem dX5_isCartAhead_83 : decode cX5_isCartAhead 83 = .ok (.goto 4, 3) := by decide +kernel
theorem dX5_isCartAhead_86 : decode cX5_isCartAhead 86 = .ok (.iconst 0, 1) := by decide +kernel
theorem dX5_isCartAhead_87 : decode cX5_isCartAhead 87 = .ok (.ireturn, 1) := by decide +kernel
set_option maxRecDepth 20000 in
theorem ggX5_cheapestRoad_X9_thingAt : GoodIn wsX5_cheapestRoad wsX9_thingAt := goodIn_r _ [7, 8, 9, 10, 44, 45, 46, 47, 48, 49, 50, 51, 52, 53, 54, 55, 56, 57, 58, 59] (by decide +kernel) (by decide +kernel)
set_option maxRecDepth 20000 in
theorem gX5_cheapestRoad_X9_thingAt : GoodIn wsX5_cheapestRoad (wsV RX5 51 RX9 yX9_thingAt wsX9_thingAt) := goodIn_app (goodIn_of _ (by decide +kernel)) ggX5_cheapestRoad_X9_thingAt
set_option maxRecDepth 20000 in
theorem ggX5_cheapestRoad_X9_isWithinLimit : GoodIn wsX5_cheapestRoad wsX9_isWithinLimit := goodIn_r _ [14, 15, 16, 17, 18, 6, 19, 20, 21, 22, 23, 8, 9, 24, 25, 44, 45, 46, 47, 48, 49, 50, 51, 52, 53, 54, 55, 56, 57, 58, 59] (by decide +kernel) (by decide +kernel)
set_option maxRecDepth 20000 in
theorem gX5_cheapestRoad_X9_isWithinLimit : GoodIn wsX5_cheapestRoad (wsV RX5 58 RX9 yX9_isWithinLimit wsX9_isWithinLimit) := goodIn_app (goodIn_of _ (by decide +kernel)) ggX5_cheapestRoad_X9_isWithinLimit
set_option maxRecDepth 20000 in
theorem ggX5_cheapestRoad_X5_isCheaper : GoodIn wsX5_cheapestRoad wsX5_isCheaper := goodIn_r _ [30, 31, 1, 32, 33, 34, 35, 36, 37, 38, 39, 40, 41, 21, 22, 6, 23, 8, 9, 24, 25, 42, 43, 44, 45, 46, 47, 48, 49, 50, 51, 52, 53, 54, 55, 56, 57, 58, 59, 60] (by decide +kernel) (by decide +kernel)
set_option maxRecDepth 20000 in
theorem gX5_cheapestRoad_X5_isCheaper : GoodIn wsX5_cheapestRoad (wsV RX5 61 RX5 yX5_isCheaper wsX5_isCheaper) := goodIn_app (goodIn_of _ (by decide +kernel)) ggX5_cheapestRoad_X5_isCheaper
theorem dX5_cheapestRoad_0 : decode cX5_cheapestRoad 0 = .ok (.aload_n 0, 1) := by decide +kernel
theorem dX5_cheapestRoad_1 : decode cX5_cheapestRoad 1 = .ok (.getfield 9, 3) := by decide +kernel
theorem dX5_cheapestRoad_4 : decode cX5_cheapestRoad 4 = .ok (.iload_n 1, 1) := by decide +kernel
theorem dX5_cheapestRoad_5 : decode cX5_cheapestRoad 5 = .ok (.bipush 6, 2) := by decide +kernel
theorem dX5_cheapestRoad_7 : decode cX5_cheapestRoad 7 = .ok (.invokevirtual 51, 3) := by decide +kernel
theorem dX5_cheapestRoad_10 : decode cX5_cheapestRoad 10 = .ok (.bipush (-4), 2) := by decide +kernel
theorem dX5_cheapestRoad_12 : decode cX5_cheapestRoad 12 = .ok (.if_icmp .ne 6, 3) := by decide +kernel
theorem dX5_cheapestRoad_15 : decode cX5_cheapestRoad 15 = .ok (.bipush (-4), 2) := by decide +kernel
theorem dX5_cheapestRoad_17 : decode cX5_cheapestRoad 17 = .ok (.ireturn, 1) := by decide +kernel
theorem dX5_cheapestRoad_18 : decode cX5_cheapestRoad 18 = .ok (.bipush (-4), 2) := by decide +kernel
theorem dX5_cheapestRoad_20 : decode cX5_cheapestRoad 20 = .ok (.istore_n 2, 1) := by decide +kernel
theorem dX5_cheapestRoad_21 : decode cX5_cheapestRoad 21 = .ok (.iconst 0, 1) := by decide +kernel
theorem dX5_cheapestRoad_22 : decode cX5_cheapestRoad 22 = .ok (.istore_n 3, 1) := by decide +kernel
theorem dX5_cheapestRoad_23 : decode cX5_cheapestRoad 23 = .ok (.iload_n 3, 1) := by decide +kernel
theorem dX5_cheapestRoad_24 : decode cX5_cheapestRoad 24 = .ok (.aload_n 0, 1) := by decide +kernel
theorem dX5_cheapestRoad_25 : decode cX5_cheapestRoad 25 = .ok (.getfield 9, 3) := by decide +kernel
theorem dX5_cheapestRoad_28 : decode cX5_cheapestRoad 28 = .ok (.getfield 55, 3) := by decide +kernel
theorem dX5_cheapestRoad_31 : decode cX5_cheapestRoad 31 = .ok (.if_icmp .ge 39, 3) := by decide +kernel
theorem dX5_cheapestRoad_34 : decode cX5_cheapestRoad 34 = .ok (.aload_n 0, 1) := by decide +kernel
theorem dX5_cheapestRoad_35 : decode cX5_cheapestRoad 35 = .ok (.getfield 9, 3) := by decide +kernel
theorem dX5_cheapestRoad_38 : decode cX5_cheapestRoad 38 = .ok (.iload_n 1, 1) := by decide +kernel
theorem dX5_cheapestRoad_39 : decode cX5_cheapestRoad 39 = .ok (.iload_n 3, 1) := by decide +kernel
theorem dX5_cheapestRoad_40 : decode cX5_cheapestRoad 40 = .ok (.invokevirtual 58, 3) := by decide +kernel
theorem dX5_cheapestRoad_43 : decode cX5_cheapestRoad 43 = .ok (.ifCond .eq 21, 3) := by decide +kernel
theorem dX5_cheapestRoad_46 : decode cX5_cheapestRoad 46 = .ok (.iload_n 2, 1) := by decide +kernel
theorem dX5_cheapestRoad_47 : decode cX5_cheapestRoad 47 = .ok (.bipush (-4), 2) := by decide +kernel
theorem dX5_cheapestRoad_49 : decode cX5_cheapestRoad 49 = .ok (.if_icmp .eq 13, 3) := by decide +kernel
theorem dX5_cheapestRoad_52 : decode cX5_cheapestRoad 52 = .ok (.aload_n 0, 1) := by decide +kernel
theorem dX5_cheapestRoad_53 : decode cX5_cheapestRoad 53 = .ok (.iload_n 1, 1) := by decide +kernel
theorem dX5_cheapestRoad_54 : decode cX5_cheapestRoad 54 = .ok (.iload_n 3, 1) := by decide +kernel
theorem dX5_cheapestRoad_55 : decode cX5_cheapestRoad 55 = .ok (.iload_n 2, 1) := by decide +kernel
theorem dX5_cheapestRoad_56 : decode cX5_cheapestRoad 56 = .ok (.invokevirtual 61, 3) := by decide +kernel
theorem dX5_cheapestRoad_59 : decode cX5_cheapestRoad 59 = .ok (.ifCond .eq 5, 3) := by decide +kernel
theorem dX5_cheapestRoad_62 : decode cX5_cheapestRoad 62 = .ok (.iload_n 3, 1) := by decide +kernel
theorem dX5_cheapestRoad_63 : decode cX5_cheapestRoad 63 = .ok (.istore_n 2, 1) := by decide +kernel
theorem dX5_cheapestRoad_64 : decode cX5_cheapestRoad 64 = .ok (.iinc 3 1, 3) := by decide +kernel
theorem dX5_cheapestRoad_67 : decode cX5_cheapestRoad 67 = .ok (.goto (-44), 3) := by decide +kernel
theorem dX5_cheapestRoad_70 : decode cX5_cheapestRoad 70 = .ok (.iload_n 2, 1) := by decide +kernel
theorem dX5_cheapestRoad_71 : decode cX5_cheapestRoad 71 = .ok (.ireturn, 1) := by decide +kernel
set_option maxRecDepth 20000 in
theorem ggX5_isCheaper_X7_tollOf : GoodIn wsX5_isCheaper wsX7_tollOf := goodIn_r _ [8, 9, 10, 11, 12, 13, 14, 15, 16, 17, 18, 19, 20, 39, 23, 24, 25, 26, 27, 28, 29, 30, 31, 32, 33, 34, 35, 36, 37, 38] (by decide +kernel) (by decide +kernel)
set_option maxRecDepth 20000 in
theorem gX5_isCheaper_X7_tollOf : GoodIn wsX5_isCheaper (wsV RX5 65 RX7 yX7_tollOf wsX7_tollOf) := goodIn_app (goodIn_of _ (by decide +kernel)) ggX5_isCheaper_X7_tollOf
theorem dX5_isCheaper_0 : decode cX5_isCheaper 0 = .ok (.aload_n 0, 1) := by decide +kernel
theorem dX5_isCheaper_1 : decode cX5_isCheaper 1 = .ok (.getfield 15, 3) := by decide +kernel
theorem dX5_isCheaper_4 : decode cX5_isCheaper 4 = .ok (.iload_n 1, 1) := by decide +kernel
theorem dX5_isCheaper_5 : decode cX5_isCheaper 5 = .ok (.iload_n 2, 1) := by decide +kernel
theorem dX5_isCheaper_6 : decode cX5_isCheaper 6 = .ok (.invokevirtual 65, 3) := by decide +kernel
theorem dX5_isCheaper_9 : decode cX5_isCheaper 9 = .ok (.fstore 4, 2) := by decide +kernel
theorem dX5_isCheaper_11 : decode cX5_isCheaper 11 = .ok (.aload_n 0, 1) := by decide +kernel
theorem dX5_isCheaper_12 : decode cX5_isCheaper 12 = .ok (.getfield 15, 3) := by decide +kernel
theorem dX5_isCheaper_15 : decode cX5_isCheaper 15 = .ok (.iload_n 1, 1) := by decide +kernel
theorem dX5_isCheaper_16 : decode cX5_isCheaper 16 = .ok (.iload_n 3, 1) := by decide +kernel
theorem dX5_isCheaper_17 : decode cX5_isCheaper 17 = .ok (.invokevirtual 65, 3) := by decide +kernel
theorem dX5_isCheaper_20 : decode cX5_isCheaper 20 = .ok (.fstore 5, 2) := by decide +kernel
theorem dX5_isCheaper_22 : decode cX5_isCheaper 22 = .ok (.fload 4, 2) := by decide +kernel
theorem dX5_isCheaper_24 : decode cX5_isCheaper 24 = .ok (.fload 5, 2) := by decide +kernel
theorem dX5_isCheaper_26 : decode cX5_isCheaper 26 = .ok (.fcmp .l, 1) := by decide +kernel
theorem dX5_isCheaper_27 : decode cX5_isCheaper 27 = .ok (.ifCond .eq 17, 3) := by decide +kernel
theorem dX5_isCheaper_30 : decode cX5_isCheaper 30 = .ok (.fload 4, 2) := by decide +kernel
theorem dX5_isCheaper_32 : decode cX5_isCheaper 32 = .ok (.fload 5, 2) := by decide +kernel
theorem dX5_isCheaper_34 : decode cX5_isCheaper 34 = .ok (.fcmp .g, 1) := by decide +kernel
theorem dX5_isCheaper_35 : decode cX5_isCheaper 35 = .ok (.ifCond .ge 7, 3) := by decide +kernel
theorem dX5_isCheaper_38 : decode cX5_isCheaper 38 = .ok (.iconst 1, 1) := by decide +kernel
theorem dX5_isCheaper_39 : decode cX5_isCheaper 39 = .ok (.goto 4, 3) := by decide +kernel
theorem dX5_isCheaper_42 : decode cX5_isCheaper 42 = .ok (.iconst 0, 1) := by decide +kernel
theorem dX5_isCheaper_43 : decode cX5_isCheaper 43 = .ok (.ireturn, 1) := by decide +kernel
theorem dX5_isCheaper_44 : decode cX5_isCheaper 44 = .ok (.aload_n 0, 1) := by decide +kernel
theorem dX5_isCheaper_45 : decode cX5_isCheaper 45 = .ok (.getfield 9, 3) := by decide +kernel
theorem dX5_isCheaper_48 : decode cX5_isCheaper 48 = .ok (.getfield 69, 3) := by decide +kernel
theorem dX5_isCheaper_51 : decode cX5_isCheaper 51 = .ok (.iload_n 2, 1) := by decide +kernel
theorem dX5_isCheaper_52 : decode cX5_isCheaper 52 = .ok (.iaload, 1) := by decide +kernel
theorem dX5_isCheaper_53 : decode cX5_isCheaper 53 = .ok (.aload_n 0, 1) := by decide +kernel
theorem dX5_isCheaper_54 : decode cX5_isCheaper 54 = .ok (.getfield 9, 3) := by decide +kernel
theorem dX5_isCheaper_57 : decode cX5_isCheaper 57 = .ok (.getfield 69, 3) := by decide +kernel
theorem dX5_isCheaper_60 : decode cX5_isCheaper 60 = .ok (.iload_n 3, 1) := by decide +kernel
theorem dX5_isCheaper_61 : decode cX5_isCheaper 61 = .ok (.iaload, 1) := by decide +kernel
theorem dX5_isCheaper_62 : decode cX5_isCheaper 62 = .ok (.if_icmp .ge 7, 3) := by decide +kernel
theorem dX5_isCheaper_65 : decode cX5_isCheaper 65 = .ok (.iconst 1, 1) := by decide +kernel
theorem dX5_isCheaper_66 : decode cX5_isCheaper 66 = .ok (.goto 4, 3) := by decide +kernel
theorem dX5_isCheaper_69 : decode cX5_isCheaper 69 = .ok (.iconst 0, 1) := by decide +kernel
theorem dX5_isCheaper_70 : decode cX5_isCheaper 70 = .ok (.ireturn, 1) := by decide +kernel
theorem dX6_init_0 : decode cX6_init 0 = .ok (.aload_n 0, 1) := by decide +kernel
theorem dX6_init_1 : decode cX6_init 1 = .ok (.invokespecial 3, 3) := by decide +kernel
theorem dX6_init_4 : decode cX6_init 4 = .ok (.aload_n 0, 1) := by decide +kernel
theorem dX6_init_5 : decode cX6_init 5 = .ok (.bipush (-4), 2) := by decide +kernel
theorem dX6_init_7 : decode cX6_init 7 = .ok (.putfield 9, 3) := by decide +kernel
theorem dX6_init_10 : decode cX6_init 10 = .ok (.aload_n 0, 1) := by decide +kernel
theorem dX6_init_11 : decode cX6_init 11 = .ok (.bipush (-4), 2) := by decide +kernel
theorem dX6_init_13 : decode cX6_init 13 = .ok (.putfield 15, 3) := by decide +kernel
theorem dX6_init_16 : decode cX6_init 16 = .ok (.aload_n 0, 1) := by decide +kernel
theorem dX6_init_17 : decode cX6_init 17 = .ok (.bipush (-4), 2) := by decide +kernel
theorem dX6_init_19 : decode cX6_init 19 = .ok (.putfield 18, 3) := by decide +kernel
theorem dX6_init_22 : decode cX6_init 22 = .ok (.aload_n 0, 1) := by decide +kernel
theorem dX6_init_23 : decode cX6_init 23 = .ok (.bipush (-4), 2) := by decide +kernel
theorem dX6_init_25 : decode cX6_init 25 = .ok (.putfield 21, 3) := by decide +kernel
theorem dX6_init_28 : decode cX6_init 28 = .ok (.return_, 1) := by decide +kernel
theorem dX6_refuse_0 : decode cX6_refuse 0 = .ok (.aload_n 0, 1) := by decide +kernel
theorem dX6_refuse_1 : decode cX6_refuse 1 = .ok (.iload_n 1, 1) := by decide +kernel
theorem dX6_refuse_2 : decode cX6_refuse 2 = .ok (.putfield 9, 3) := by decide +kernel
theorem dX6_refuse_5 : decode cX6_refuse 5 = .ok (.aload_n 0, 1) := by decide +kernel
theorem dX6_refuse_6 : decode cX6_refuse 6 = .ok (.iload_n 2, 1) := by decide +kernel
theorem dX6_refuse_7 : decode cX6_refuse 7 = .ok (.putfield 15, 3) := by decide +kernel
theorem dX6_refuse_10 : decode cX6_refuse 10 = .ok (.aload_n 0, 1) := by decide +kernel
theorem dX6_refuse_11 : decode cX6_refuse 11 = .ok (.bipush (-4), 2) := by decide +kernel
theorem dX6_refuse_13 : decode cX6_refuse 13 = .ok (.putfield 18, 3) := by decide +kernel
theorem dX6_refuse_16 : decode cX6_refuse 16 = .ok (.aload_n 0, 1) := by decide +kernel
theorem dX6_refuse_17 : decode cX6_refuse 17 = .ok (.bipush (-4), 2) := by decide +kernel
theorem dX6_refuse_19 : decode cX6_refuse 19 = .ok (.putfield 21, 3) := by decide +kernel
theorem dX6_refuse_22 : decode cX6_refuse 22 = .ok (.bipush (-3), 2) := by decide +kernel
theorem dX6_refuse_24 : decode cX6_refuse 24 = .ok (.ireturn, 1) := by decide +kernel
theorem dX7_init_0 : decode cX7_init 0 = .ok (.aload_n 0, 1) := by decide +kernel
theorem dX7_init_1 : decode cX7_init 1 = .ok (.invokespecial 3, 3) := by decide +kernel
theorem dX7_init_4 : decode cX7_init 4 = .ok (.aload_n 0, 1) := by decide +kernel
theorem dX7_init_5 : decode cX7_init 5 = .ok (.aload_n 1, 1) := by decide +kernel
theorem dX7_init_6 : decode cX7_init 6 = .ok (.putfield 9, 3) := by decide +kernel
theorem dX7_init_9 : decode cX7_init 9 = .ok (.return_, 1) := by decide +kernel
theorem dX7_tenthsByThings_0 : decode cX7_tenthsByThings 0 = .ok (.iconst 0, 1) := by decide +kernel
theorem dX7_tenthsByThings_1 : decode cX7_tenthsByThings 1 = .ok (.istore_n 3, 1) := by decide +kernel
theorem dX7_tenthsByThings_2 : decode cX7_tenthsByThings 2 = .ok (.iconst 0, 1) := by decide +kernel
theorem dX7_tenthsByThings_3 : decode cX7_tenthsByThings 3 = .ok (.istore 4, 2) := by decide +kernel
theorem dX7_tenthsByThings_5 : decode cX7_tenthsByThings 5 = .ok (.iload 4, 2) := by decide +kernel
theorem dX7_tenthsByThings_7 : decode cX7_tenthsByThings 7 = .ok (.aload_n 0, 1) := by decide +kernel
theorem dX7_tenthsByThings_8 : decode cX7_tenthsByThings 8 = .ok (.getfield 9, 3) := by decide +kernel
theorem dX7_tenthsByThings_11 : decode cX7_tenthsByThings 11 = .ok (.getfield 15, 3) := by decide +kernel
theorem dX7_tenthsByThings_14 : decode cX7_tenthsByThings 14 = .ok (.if_icmp .ge 88, 3) := by decide +kernel
theorem dX7_tenthsByThings_17 : decode cX7_tenthsByThings 17 = .ok (.aload_n 0, 1) := by decide +kernel
theorem dX7_tenthsByThings_18 : decode cX7_tenthsByThings 18 = .ok (.getfield 9, 3) := by decide +kernel
theorem dX7_tenthsByThings_21 : decode cX7_tenthsByThings 21 = .ok (.getfield 21, 3) := by decide +kernel
theorem dX7_tenthsByThings_24 : decode cX7_tenthsByThings 24 = .ok (.iload 4, 2) := by decide +kernel
theorem dX7_tenthsByThings_26 : decode cX7_tenthsByThings 26 = .ok (.iaload, 1) := by decide +kernel
theorem dX7_tenthsByThings_27 : decode cX7_tenthsByThings 27 = .ok (.iload_n 1, 1) := by decide +kernel
theorem dX7_tenthsByThings_28 : decode cX7_tenthsByThings 28 = .ok (.if_icmp .ne 68, 3) := by decide +kernel
theorem dX7_tenthsByThings_31 : decode cX7_tenthsByThings 31 = .ok (.iconst 5, 1) := by decide +kernel
theorem dX7_tenthsByThings_32 : decode cX7_tenthsByThings 32 = .ok (.istore 5, 2) := by decide +kernel
theorem dX7_tenthsByThings_34 : decode cX7_tenthsByThings 34 = .ok (.aload_n 0, 1) := by decide +kernel
theorem dX7_tenthsByThings_35 : decode cX7_tenthsByThings 35 = .ok (.getfield 9, 3) := by decide +kernel
theorem dX7_tenthsByThings_38 : decode cX7_tenthsByThings 38 = .ok (.getfield 25, 3) := by decide +kernel
theorem dX7_tenthsByThings_41 : decode cX7_tenthsByThings 41 = .ok (.iload 4, 2) := by decide +kernel
theorem dX7_tenthsByThings_43 : decode cX7_tenthsByThings 43 = .ok (.iaload, 1) := by decide +kernel
theorem dX7_tenthsByThings_44 : decode cX7_tenthsByThings 44 = .ok (.ifCond .ne 36, 3) := by decide +kernel
theorem dX7_tenthsByThings_47 : decode cX7_tenthsByThings 47 = .ok (.iconst 2, 1) := by decide +kernel
theorem dX7_tenthsByThings_48 : decode cX7_tenthsByThings 48 = .ok (.iload_n 2, 1) := by decide +kernel
theorem dX7_tenthsByThings_49 : decode cX7_tenthsByThings 49 = .ok (.ifCond .eq 16, 3) := by decide +kernel
theorem dX7_tenthsByThings_52 : decode cX7_tenthsByThings 52 = .ok (.aload_n 0, 1) := by decide +kernel
theorem dX7_tenthsByThings_53 : decode cX7_tenthsByThings 53 = .ok (.getfield 9, 3) := by decide +kernel
theorem dX7_tenthsByThings_56 : decode cX7_tenthsByThings 56 = .ok (.getfield 28, 3) := by decide +kernel
theorem dX7_tenthsByThings_59 : decode cX7_tenthsByThings 59 = .ok (.iload 4, 2) := by decide +kernel
theorem dX7_tenthsByThings_61 : decode cX7_tenthsByThings 61 = .ok (.iaload, 1) := by decide +kernel
theorem dX7_tenthsByThings_62 : decode cX7_tenthsByThings 62 = .ok (.goto 15, 3) := by decide +kernel
theorem dX7_tenthsByThings_65 : decode cX7_tenthsByThings 65 = .ok (.iconst 5, 1) := by decide +kernel
theorem dX7_tenthsByThings_66 : decode cX7_tenthsByThings 66 = .ok (.aload_n 0, 1) := by decide +kernel
theorem dX7_tenthsByThings_67 : decode cX7_tenthsByThings 67 = .ok (.getfield 9, 3) := by decide +kernel
theorem dX7_tenthsByThings_70 : decode cX7_tenthsByThings 70 = .ok (.getfield 28, 3) := by decide +kernel
theorem dX7_tenthsByThings_73 : decode cX7_tenthsByThings 73 = .ok (.iload 4, 2) := by decide +kernel
theorem dX7_tenthsByThings_75 : decode cX7_tenthsByThings 75 = .ok (.iaload, 1) := by decide +kernel
theorem dX7_tenthsByThings_76 : decode cX7_tenthsByThings 76 = .ok (.isub, 1) := by decide +kernel
theorem dX7_tenthsByThings_77 : decode cX7_tenthsByThings 77 = .ok (.imul, 1) := by decide +kernel
theorem dX7_tenthsByThings_78 : decode cX7_tenthsByThings 78 = .ok (.istore 5, 2) := by decide +kernel
theorem dX7_tenthsByThings_80 : decode cX7_tenthsByThings 80 = .ok (.iload_n 3, 1) := by decide +kernel
theorem dX7_tenthsByThings_81 : decode cX7_tenthsByThings 81 = .ok (.aload_n 0, 1) := by decide +kernel
theorem dX7_tenthsByThings_82 : decode cX7_tenthsByThings 82 = .ok (.getfield 9, 3) := by decide +kernel
theorem dX7_tenthsByThings_85 : decode cX7_tenthsByThings 85 = .ok (.getfield 31, 3) := by decide +kernel
theorem dX7_tenthsByThings_88 : decode cX7_tenthsByThings 88 = .ok (.iload 4, 2) := by decide +kernel
theorem dX7_tenthsByThings_90 : decode cX7_tenthsByThings 90 = .ok (.iaload, 1) := by decide +kernel
theorem dX7_tenthsByThings_91 : decode cX7_tenthsByThings 91 = .ok (.iload 5, 2) := by decide +kernel
theorem dX7_tenthsByThings_93 : decode cX7_tenthsByThings 93 = .ok (.imul, 1) := by decide +kernel
theorem dX7_tenthsByThings_94 : decode cX7_tenthsByThings 94 = .ok (.iadd, 1) := by decide +kernel
theorem dX7_tenthsByThings_95 : decode cX7_tenthsByThings 95 = .ok (.istore_n 3, 1) := by decide +kernel
theorem dX7_tenthsByThings_96 : decode cX7_tenthsByThings 96 = .ok (.iinc 4 1, 3) := by decide +kernel
theorem dX7_tenthsByThings_99 : decode cX7_tenthsByThings 99 = .ok (.goto (-94), 3) := by decide +kernel
theorem dX7_tenthsByThings_102 : decode cX7_tenthsByThings 102 = .ok (.iload_n 3, 1) := by decide +kernel
theorem dX7_tenthsByThings_103 : decode cX7_tenthsByThings 103 = .ok (.ireturn, 1) := by decide +kernel
set_option maxRecDepth 20000 in
theorem ggX7_tenthsByOther_X9_weightOfAllOn : GoodIn wsX7_tenthsByOther wsX9_weightOfAllOn := goodIn_r _ [6, 7, 8, 9, 5, 10, 11, 12, 13, 14, 26, 27, 28, 29, 30, 31, 32, 33, 34, 35, 36, 37, 38, 39, 40, 41] (by decide +kernel) (by decide +kernel)
set_option maxRecDepth 20000 in
theorem gX7_tenthsByOther_X9_weightOfAllOn : GoodIn wsX7_tenthsByOther (wsV RX7 34 RX9 yX9_weightOfAllOn wsX9_weightOfAllOn) := goodIn_app (goodIn_of _ (by decide +kernel)) ggX7_tenthsByOther_X9_weightOfAllOn
set_option maxRecDepth 20000 in
theorem ggX7_tenthsByOther_X7_tenthsByThings : GoodIn wsX7_tenthsByOther wsX7_tenthsByThings := goodIn_r _ [19, 1, 20, 21, 22, 23, 24, 25, 26, 27, 28, 29, 30, 31, 32, 33, 34, 35, 36, 37, 38, 39, 40, 41] (by decide +kernel) (by decide +kernel)
set_option maxRecDepth 20000 in
theorem gX7_tenthsByOther_X7_tenthsByThings : GoodIn wsX7_tenthsByOther (wsV RX7 38 RX7 yX7_tenthsByThings wsX7_tenthsByThings) := goodIn_app (goodIn_of _ (by decide +kernel)) ggX7_tenthsByOther_X7_tenthsByThings
theorem dX7_tenthsByOther_0 : decode cX7_tenthsByOther 0 = .ok (.bipush 10, 2) := by decide +kernel
theorem dX7_tenthsByOther_2 : decode cX7_tenthsByOther 2 = .ok (.aload_n 0, 1) := by decide +kernel
theorem dX7_tenthsByOther_3 : decode cX7_tenthsByOther 3 = .ok (.getfield 9, 3) := by decide +kernel
theorem dX7_tenthsByOther_6 : decode cX7_tenthsByOther 6 = .ok (.iload_n 1, 1) := by decide +kernel
theorem dX7_tenthsByOther_7 : decode cX7_tenthsByOther 7 = .ok (.invokevirtual 34, 3) := by decide +kernel
theorem dX7_tenthsByOther_10 : decode cX7_tenthsByOther 10 = .ok (.imul, 1) := by decide +kernel
theorem dX7_tenthsByOther_11 : decode cX7_tenthsByOther 11 = .ok (.aload_n 0, 1) := by decide +kernel
theorem dX7_tenthsByOther_12 : decode cX7_tenthsByOther 12 = .ok (.iload_n 1, 1) := by decide +kernel
theorem dX7_tenthsByOther_13 : decode cX7_tenthsByOther 13 = .ok (.iload_n 2, 1) := by decide +kernel
theorem dX7_tenthsByOther_14 : decode cX7_tenthsByOther 14 = .ok (.ifCond .ne 7, 3) := by decide +kernel
theorem dX7_tenthsByOther_17 : decode cX7_tenthsByOther 17 = .ok (.iconst 1, 1) := by decide +kernel
theorem dX7_tenthsByOther_18 : decode cX7_tenthsByOther 18 = .ok (.goto 4, 3) := by decide +kernel
theorem dX7_tenthsByOther_21 : decode cX7_tenthsByOther 21 = .ok (.iconst 0, 1) := by decide +kernel
theorem dX7_tenthsByOther_22 : decode cX7_tenthsByOther 22 = .ok (.invokevirtual 38, 3) := by decide +kernel
theorem dX7_tenthsByOther_25 : decode cX7_tenthsByOther 25 = .ok (.isub, 1) := by decide +kernel
theorem dX7_tenthsByOther_26 : decode cX7_tenthsByOther 26 = .ok (.ireturn, 1) := by decide +kernel
set_option maxRecDepth 20000 in
theorem ggX7_axleLoad_X7_tenthsByThings : GoodIn wsX7_axleLoad wsX7_tenthsByThings := goodIn_r _ [6, 7, 8, 9, 10, 11, 12, 13, 14, 15, 16, 17, 18, 19, 20, 21, 22, 23, 24, 25, 26, 27, 28, 29] (by decide +kernel) (by decide +kernel)
set_option maxRecDepth 20000 in
theorem gX7_axleLoad_X7_tenthsByThings : GoodIn wsX7_axleLoad (wsV RX7 38 RX7 yX7_tenthsByThings wsX7_tenthsByThings) := goodIn_app (goodIn_of _ (by decide +kernel)) ggX7_axleLoad_X7_tenthsByThings
theorem dX7_axleLoad_0 : decode cX7_axleLoad 0 = .ok (.aload_n 0, 1) := by decide +kernel
theorem dX7_axleLoad_1 : decode cX7_axleLoad 1 = .ok (.iload_n 1, 1) := by decide +kernel
theorem dX7_axleLoad_2 : decode cX7_axleLoad 2 = .ok (.iload_n 2, 1) := by decide +kernel
theorem dX7_axleLoad_3 : decode cX7_axleLoad 3 = .ok (.invokevirtual 38, 3) := by decide +kernel
theorem dX7_axleLoad_6 : decode cX7_axleLoad 6 = .ok (.i2f, 1) := by decide +kernel
theorem dX7_axleLoad_7 : decode cX7_axleLoad 7 = .ok (.ldc 42, 2) := by decide +kernel
theorem dX7_axleLoad_9 : decode cX7_axleLoad 9 = .ok (.fdiv, 1) := by decide +kernel
theorem dX7_axleLoad_10 : decode cX7_axleLoad 10 = .ok (.freturn, 1) := by decide +kernel
theorem dX7_isTooMuch_0 : decode cX7_isTooMuch 0 = .ok (.fload_n 2, 1) := by decide +kernel
theorem dX7_isTooMuch_1 : decode cX7_isTooMuch 1 = .ok (.aload_n 0, 1) := by decide +kernel
theorem dX7_isTooMuch_2 : decode cX7_isTooMuch 2 = .ok (.getfield 9, 3) := by decide +kernel
theorem dX7_isTooMuch_5 : decode cX7_isTooMuch 5 = .ok (.getfield 43, 3) := by decide +kernel
theorem dX7_isTooMuch_8 : decode cX7_isTooMuch 8 = .ok (.iload_n 1, 1) := by decide +kernel
theorem dX7_isTooMuch_9 : decode cX7_isTooMuch 9 = .ok (.iaload, 1) := by decide +kernel
theorem dX7_isTooMuch_10 : decode cX7_isTooMuch 10 = .ok (.i2f, 1) := by decide +kernel
theorem dX7_isTooMuch_11 : decode cX7_isTooMuch 11 = .ok (.fcmp .l, 1) := by decide +kernel
theorem dX7_isTooMuch_12 : decode cX7_isTooMuch 12 = .ok (.ifCond .le 7, 3) := by decide +kernel
theorem dX7_isTooMuch_15 : decode cX7_isTooMuch 15 = .ok (.iconst 1, 1) := by decide +kernel
theorem dX7_isTooMuch_16 : decode cX7_isTooMuch 16 = .ok (.goto 4, 3) := by decide +kernel
theorem dX7_isTooMuch_19 : decode cX7_isTooMuch 19 = .ok (.iconst 0, 1) := by decide +kernel
theorem dX7_isTooMuch_20 : decode cX7_isTooMuch 20 = .ok (.ireturn, 1) := by decide +kernel
set_option maxRecDepth 20000 in
theorem ggX7_creakingAxles_X7_axleLoad : GoodIn wsX7_creakingAxles wsX7_axleLoad := goodIn_r _ [5, 6, 7, 8, 9, 4, 10, 11, 12, 13, 14, 15, 16, 22, 23, 24, 25, 26, 27, 28, 29, 30, 31, 32, 33, 34, 35, 36, 37, 38] (by decide +kernel) (by decide +kernel)
set_option maxRecDepth 20000 in
theorem gX7_creakingAxles_X7_axleLoad : GoodIn wsX7_creakingAxles (wsV RX7 46 RX7 yX7_axleLoad wsX7_axleLoad) := goodIn_app (goodIn_of _ (by decide +kernel)) ggX7_creakingAxles_X7_axleLoad
set_option maxRecDepth 20000 in
theorem ggX7_creakingAxles_X7_isTooMuch : GoodIn wsX7_creakingAxles wsX7_isTooMuch := goodIn_r _ [20, 11, 21, 22, 23, 24, 25, 26, 27, 28, 29, 30, 31, 32, 33, 34, 35, 36, 37, 38] (by decide +kernel) (by decide +kernel)
set_option maxRecDepth 20000 in
theorem gX7_creakingAxles_X7_isTooMuch : GoodIn wsX7_creakingAxles (wsV RX7 50 RX7 yX7_isTooMuch wsX7_isTooMuch) := goodIn_app (goodIn_of _ (by decide +kernel)) ggX7_creakingAxles_X7_isTooMuch
theorem dX7_creakingAxles_0 : decode cX7_creakingAxles 0 = .ok (.aload_n 0, 1) := by decide +kernel
theorem dX7_creakingAxles_1 : decode cX7_creakingAxles 1 = .ok (.iload_n 1, 1) := by decide +kernel
theorem dX7_creakingAxles_2 : decode cX7_creakingAxles 2 = .ok (.aload_n 0, 1) := by decide +kernel
theorem dX7_creakingAxles_3 : decode cX7_creakingAxles 3 = .ok (.iload_n 1, 1) := by decide +kernel
theorem dX7_creakingAxles_4 : decode cX7_creakingAxles 4 = .ok (.iconst 0, 1) := by decide +kernel
theorem dX7_creakingAxles_5 : decode cX7_creakingAxles 5 = .ok (.invokevirtual 46, 3) := by decide +kernel
theorem dX7_creakingAxles_8 : decode cX7_creakingAxles 8 = .ok (.invokevirtual 50, 3) := by decide +kernel
theorem dX7_creakingAxles_11 : decode cX7_creakingAxles 11 = .ok (.ifCond .eq 7, 3) := by decide +kernel
theorem dX7_creakingAxles_14 : decode cX7_creakingAxles 14 = .ok (.iconst 1, 1) := by decide +kernel
theorem dX7_creakingAxles_15 : decode cX7_creakingAxles 15 = .ok (.goto 4, 3) := by decide +kernel
theorem dX7_creakingAxles_18 : decode cX7_creakingAxles 18 = .ok (.iconst 0, 1) := by decide +kernel
theorem dX7_creakingAxles_19 : decode cX7_creakingAxles 19 = .ok (.aload_n 0, 1) := by decide +kernel
theorem dX7_creakingAxles_20 : decode cX7_creakingAxles 20 = .ok (.iload_n 1, 1) := by decide +kernel
theorem dX7_creakingAxles_21 : decode cX7_creakingAxles 21 = .ok (.aload_n 0, 1) := by decide +kernel
theorem dX7_creakingAxles_22 : decode cX7_creakingAxles 22 = .ok (.iload_n 1, 1) := by decide +kernel
theorem dX7_creakingAxles_23 : decode cX7_creakingAxles 23 = .ok (.iconst 1, 1) := by decide +kernel
theorem dX7_creakingAxles_24 : decode cX7_creakingAxles 24 = .ok (.invokevirtual 46, 3) := by decide +kernel
theorem dX7_creakingAxles_27 : decode cX7_creakingAxles 27 = .ok (.invokevirtual 50, 3) := by decide +kernel
theorem dX7_creakingAxles_30 : decode cX7_creakingAxles 30 = .ok (.ifCond .eq 7, 3) := by decide +kernel
theorem dX7_creakingAxles_33 : decode cX7_creakingAxles 33 = .ok (.iconst 1, 1) := by decide +kernel
theorem dX7_creakingAxles_34 : decode cX7_creakingAxles 34 = .ok (.goto 4, 3) := by decide +kernel
theorem dX7_creakingAxles_37 : decode cX7_creakingAxles 37 = .ok (.iconst 0, 1) := by decide +kernel
theorem dX7_creakingAxles_38 : decode cX7_creakingAxles 38 = .ok (.iadd, 1) := by decide +kernel
theorem dX7_creakingAxles_39 : decode cX7_creakingAxles 39 = .ok (.ireturn, 1) := by decide +kernel
set_option maxRecDepth 20000 in
theorem ggX7_allCreakingAxles_X7_creakingAxles : GoodIn wsX7_allCreakingAxles wsX7_creakingAxles := goodIn_r _ [7, 8, 9, 10, 6, 11, 12, 13, 14, 15, 16, 1, 17, 18, 19, 20, 21, 22, 23, 24, 25, 26, 27, 28, 29, 30, 31, 32, 33, 34, 35, 36, 37, 38, 39, 40, 41, 42, 43] (by decide +kernel) (by decide +kernel)
set_option maxRecDepth 20000 in
theorem gX7_allCreakingAxles_X7_creakingAxles : GoodIn wsX7_allCreakingAxles (wsV RX7 57 RX7 yX7_creakingAxles wsX7_creakingAxles) := goodIn_app (goodIn_of _ (by decide +kernel)) ggX7_allCreakingAxles_X7_creakingAxles
theorem dX7_allCreakingAxles_0 : decode cX7_allCreakingAxles 0 = .ok (.iconst 0, 1) := by decide +kernel
theorem dX7_allCreakingAxles_1 : decode cX7_allCreakingAxles 1 = .ok (.istore_n 1, 1) := by decide +kernel
theorem dX7_allCreakingAxles_2 : decode cX7_allCreakingAxles 2 = .ok (.iconst 0, 1) := by decide +kernel
theorem dX7_allCreakingAxles_3 : decode cX7_allCreakingAxles 3 = .ok (.istore_n 2, 1) := by decide +kernel
theorem dX7_allCreakingAxles_4 : decode cX7_allCreakingAxles 4 = .ok (.iload_n 2, 1) := by decide +kernel
theorem dX7_allCreakingAxles_5 : decode cX7_allCreakingAxles 5 = .ok (.aload_n 0, 1) := by decide +kernel
theorem dX7_allCreakingAxles_6 : decode cX7_allCreakingAxles 6 = .ok (.getfield 9, 3) := by decide +kernel
theorem dX7_allCreakingAxles_9 : decode cX7_allCreakingAxles 9 = .ok (.getfield 54, 3) := by decide +kernel
theorem dX7_allCreakingAxles_12 : decode cX7_allCreakingAxles 12 = .ok (.if_icmp .ge 17, 3) := by decide +kernel
theorem dX7_allCreakingAxles_15 : decode cX7_allCreakingAxles 15 = .ok (.iload_n 1, 1) := by decide +kernel
theorem dX7_allCreakingAxles_16 : decode cX7_allCreakingAxles 16 = .ok (.aload_n 0, 1) := by decide +kernel
theorem dX7_allCreakingAxles_17 : decode cX7_allCreakingAxles 17 = .ok (.iload_n 2, 1) := by decide +kernel
theorem dX7_allCreakingAxles_18 : decode cX7_allCreakingAxles 18 = .ok (.invokevirtual 57, 3) := by decide +kernel
theorem dX7_allCreakingAxles_21 : decode cX7_allCreakingAxles 21 = .ok (.iadd, 1) := by decide +kernel
theorem dX7_allCreakingAxles_22 : decode cX7_allCreakingAxles 22 = .ok (.istore_n 1, 1) := by decide +kernel
theorem dX7_allCreakingAxles_23 : decode cX7_allCreakingAxles 23 = .ok (.iinc 2 1, 3) := by decide +kernel
theorem dX7_allCreakingAxles_26 : decode cX7_allCreakingAxles 26 = .ok (.goto (-22), 3) := by decide +kernel
theorem dX7_allCreakingAxles_29 : decode cX7_allCreakingAxles 29 = .ok (.iload_n 1, 1) := by decide +kernel
theorem dX7_allCreakingAxles_30 : decode cX7_allCreakingAxles 30 = .ok (.ireturn, 1) := by decide +kernel
set_option maxRecDepth 20000 in
theorem ggX7_imbalance_X7_tenthsByThings : GoodIn wsX7_imbalance wsX7_tenthsByThings := goodIn_r _ [9, 10, 11, 12, 13, 14, 15, 16, 17, 18, 19, 20, 21, 22, 23, 24, 25, 26, 27, 28, 29, 30, 31, 32] (by decide +kernel) (by decide +kernel)
set_option maxRecDepth 20000 in
theorem gX7_imbalance_X7_tenthsByThings : GoodIn wsX7_imbalance (wsV RX7 38 RX7 yX7_tenthsByThings wsX7_tenthsByThings) := goodIn_app (goodIn_of _ (by decide +kernel)) ggX7_imbalance_X7_tenthsByThings
theorem dX7_imbalance_0 : decode cX7_imbalance 0 = .ok (.aload_n 0, 1) := by decide +kernel
theorem dX7_imbalance_1 : decode cX7_imbalance 1 = .ok (.iload_n 1, 1) := by decide +kernel
theorem dX7_imbalance_2 : decode cX7_imbalance 2 = .ok (.iconst 0, 1) := by decide +kernel
theorem dX7_imbalance_3 : decode cX7_imbalance 3 = .ok (.invokevirtual 38, 3) := by decide +kernel
theorem dX7_imbalance_6 : decode cX7_imbalance 6 = .ok (.aload_n 0, 1) := by decide +kernel
theorem dX7_imbalance_7 : decode cX7_imbalance 7 = .ok (.iload_n 1, 1) := by decide +kernel
theorem dX7_imbalance_8 : decode cX7_imbalance 8 = .ok (.iconst 1, 1) := by decide +kernel
theorem dX7_imbalance_9 : decode cX7_imbalance 9 = .ok (.invokevirtual 38, 3) := by decide +kernel
theorem dX7_imbalance_12 : decode cX7_imbalance 12 = .ok (.isub, 1) := by decide +kernel
theorem dX7_imbalance_13 : decode cX7_imbalance 13 = .ok (.invokestatic 60, 3) := by decide +kernel
theorem dX7_imbalance_16 : decode cX7_imbalance 16 = .ok (.ireturn, 1) := by decide +kernel
set_option maxRecDepth 20000 in
theorem ggX7_tollOf_X9_weightOn : GoodIn wsX7_tollOf wsX9_weightOn := goodIn_r _ [8, 9, 10, 11, 12, 14, 15, 16, 17, 18, 19, 20, 21, 22, 23, 24, 25, 26, 27, 28, 29] (by decide +kernel) (by decide +kernel)
set_option maxRecDepth 20000 in
theorem gX7_tollOf_X9_weightOn : GoodIn wsX7_tollOf (wsV RX7 65 RX9 yX9_weightOn wsX9_weightOn) := goodIn_app (goodIn_of _ (by decide +kernel)) ggX7_tollOf_X9_weightOn
theorem dX7_tollOf_0 : decode cX7_tollOf 0 = .ok (.aload_n 0, 1) := by decide +kernel
theorem dX7_tollOf_1 : decode cX7_tollOf 1 = .ok (.getfield 9, 3) := by decide +kernel
theorem dX7_tollOf_4 : decode cX7_tollOf 4 = .ok (.iload_n 1, 1) := by decide +kernel
theorem dX7_tollOf_5 : decode cX7_tollOf 5 = .ok (.iconst 1, 1) := by decide +kernel
theorem dX7_tollOf_6 : decode cX7_tollOf 6 = .ok (.invokevirtual 65, 3) := by decide +kernel
theorem dX7_tollOf_9 : decode cX7_tollOf 9 = .ok (.i2f, 1) := by decide +kernel
theorem dX7_tollOf_10 : decode cX7_tollOf 10 = .ok (.aload_n 0, 1) := by decide +kernel
theorem dX7_tollOf_11 : decode cX7_tollOf 11 = .ok (.getfield 9, 3) := by decide +kernel
theorem dX7_tollOf_14 : decode cX7_tollOf 14 = .ok (.getfield 69, 3) := by decide +kernel
theorem dX7_tollOf_17 : decode cX7_tollOf 17 = .ok (.iload_n 2, 1) := by decide +kernel
theorem dX7_tollOf_18 : decode cX7_tollOf 18 = .ok (.iaload, 1) := by decide +kernel
theorem dX7_tollOf_19 : decode cX7_tollOf 19 = .ok (.i2f, 1) := by decide +kernel
theorem dX7_tollOf_20 : decode cX7_tollOf 20 = .ok (.fmul, 1) := by decide +kernel
theorem dX7_tollOf_21 : decode cX7_tollOf 21 = .ok (.ldc 72, 2) := by decide +kernel
theorem dX7_tollOf_23 : decode cX7_tollOf 23 = .ok (.fmul, 1) := by decide +kernel
theorem dX7_tollOf_24 : decode cX7_tollOf 24 = .ok (.freturn, 1) := by decide +kernel
set_option maxRecDepth 20000 in
theorem ggX7_wearOfTrip_X7_axleLoad : GoodIn wsX7_wearOfTrip wsX7_axleLoad := goodIn_r _ [8, 9, 10, 11, 12, 7, 13, 1, 14, 15, 16, 17, 18, 24, 25, 26, 27, 28, 29, 30, 31, 32, 33, 34, 35, 36, 37, 38, 39, 40] (by decide +kernel) (by decide +kernel)
set_option maxRecDepth 20000 in
theorem gX7_wearOfTrip_X7_axleLoad : GoodIn wsX7_wearOfTrip (wsV RX7 46 RX7 yX7_axleLoad wsX7_axleLoad) := goodIn_app (goodIn_of _ (by decide +kernel)) ggX7_wearOfTrip_X7_axleLoad
set_option maxRecDepth 20000 in
theorem ggX7_wearOfTrip_X7_isTooMuch : GoodIn wsX7_wearOfTrip wsX7_isTooMuch := goodIn_r _ [22, 1, 23, 24, 25, 26, 27, 28, 29, 30, 31, 32, 33, 34, 35, 36, 37, 38, 39, 40] (by decide +kernel) (by decide +kernel)
set_option maxRecDepth 20000 in
theorem gX7_wearOfTrip_X7_isTooMuch : GoodIn wsX7_wearOfTrip (wsV RX7 50 RX7 yX7_isTooMuch wsX7_isTooMuch) := goodIn_app (goodIn_of _ (by decide +kernel)) ggX7_wearOfTrip_X7_isTooMuch
theorem dX7_wearOfTrip_0 : decode cX7_wearOfTrip 0 = .ok (.aload_n 0, 1) := by decide +kernel
theorem dX7_wearOfTrip_1 : decode cX7_wearOfTrip 1 = .ok (.iload_n 1, 1) := by decide +kernel
theorem dX7_wearOfTrip_2 : decode cX7_wearOfTrip 2 = .ok (.iload_n 3, 1) := by decide +kernel
theorem dX7_wearOfTrip_3 : decode cX7_wearOfTrip 3 = .ok (.invokevirtual 46, 3) := by decide +kernel
theorem dX7_wearOfTrip_6 : decode cX7_wearOfTrip 6 = .ok (.fstore 4, 2) := by decide +kernel
theorem dX7_wearOfTrip_8 : decode cX7_wearOfTrip 8 = .ok (.fload 4, 2) := by decide +kernel
theorem dX7_wearOfTrip_10 : decode cX7_wearOfTrip 10 = .ok (.aload_n 0, 1) := by decide +kernel
theorem dX7_wearOfTrip_11 : decode cX7_wearOfTrip 11 = .ok (.getfield 9, 3) := by decide +kernel
theorem dX7_wearOfTrip_14 : decode cX7_wearOfTrip 14 = .ok (.getfield 73, 3) := by decide +kernel
theorem dX7_wearOfTrip_17 : decode cX7_wearOfTrip 17 = .ok (.iload_n 2, 1) := by decide +kernel
theorem dX7_wearOfTrip_18 : decode cX7_wearOfTrip 18 = .ok (.iaload, 1) := by decide +kernel
theorem dX7_wearOfTrip_19 : decode cX7_wearOfTrip 19 = .ok (.i2f, 1) := by decide +kernel
theorem dX7_wearOfTrip_20 : decode cX7_wearOfTrip 20 = .ok (.fmul, 1) := by decide +kernel
theorem dX7_wearOfTrip_21 : decode cX7_wearOfTrip 21 = .ok (.ldc 76, 2) := by decide +kernel
theorem dX7_wearOfTrip_23 : decode cX7_wearOfTrip 23 = .ok (.fmul, 1) := by decide +kernel
theorem dX7_wearOfTrip_24 : decode cX7_wearOfTrip 24 = .ok (.fstore 5, 2) := by decide +kernel
theorem dX7_wearOfTrip_26 : decode cX7_wearOfTrip 26 = .ok (.aload_n 0, 1) := by decide +kernel
theorem dX7_wearOfTrip_27 : decode cX7_wearOfTrip 27 = .ok (.iload_n 1, 1) := by decide +kernel
theorem dX7_wearOfTrip_28 : decode cX7_wearOfTrip 28 = .ok (.fload 4, 2) := by decide +kernel
theorem dX7_wearOfTrip_30 : decode cX7_wearOfTrip 30 = .ok (.invokevirtual 50, 3) := by decide +kernel
theorem dX7_wearOfTrip_33 : decode cX7_wearOfTrip 33 = .ok (.ifCond .eq 10, 3) := by decide +kernel
theorem dX7_wearOfTrip_36 : decode cX7_wearOfTrip 36 = .ok (.fload 5, 2) := by decide +kernel
theorem dX7_wearOfTrip_38 : decode cX7_wearOfTrip 38 = .ok (.fconst 2, 1) := by decide +kernel
theorem dX7_wearOfTrip_39 : decode cX7_wearOfTrip 39 = .ok (.fmul, 1) := by decide +kernel
theorem dX7_wearOfTrip_40 : decode cX7_wearOfTrip 40 = .ok (.goto 5, 3) := by decide +kernel
theorem dX7_wearOfTrip_43 : decode cX7_wearOfTrip 43 = .ok (.fload 5, 2) := by decide +kernel
theorem dX7_wearOfTrip_45 : decode cX7_wearOfTrip 45 = .ok (.freturn, 1) := by decide +kernel
theorem dX8_init_0 : decode cX8_init 0 = .ok (.aload_n 0, 1) := by decide +kernel
theorem dX8_init_1 : decode cX8_init 1 = .ok (.invokespecial 3, 3) := by decide +kernel
theorem dX8_init_4 : decode cX8_init 4 = .ok (.aload_n 0, 1) := by decide +kernel
theorem dX8_init_5 : decode cX8_init 5 = .ok (.aload_n 1, 1) := by decide +kernel
theorem dX8_init_6 : decode cX8_init 6 = .ok (.putfield 9, 3) := by decide +kernel
theorem dX8_init_9 : decode cX8_init 9 = .ok (.aload_n 0, 1) := by decide +kernel
theorem dX8_init_10 : decode cX8_init 10 = .ok (.aload_n 2, 1) := by decide +kernel
theorem dX8_init_11 : decode cX8_init 11 = .ok (.putfield 15, 3) := by decide +kernel
theorem dX8_init_14 : decode cX8_init 14 = .ok (.aload_n 0, 1) := by decide +kernel
theorem dX8_init_15 : decode cX8_init 15 = .ok (.aload_n 3, 1) := by decide +kernel
theorem dX8_init_16 : decode cX8_init 16 = .ok (.putfield 19, 3) := by decide +kernel
theorem dX8_init_19 : decode cX8_init 19 = .ok (.return_, 1) := by decide +kernel
set_option maxRecDepth 20000 in
theorem ggX8_addThing_X6_refuse : GoodIn wsX8_addThing wsX6_refuse := goodIn_r _ [12, 13, 14, 15, 16, 36, 37, 38, 39] (by decide +kernel) (by decide +kernel)
set_option maxRecDepth 20000 in
theorem gX8_addThing_X6_refuse : GoodIn wsX8_addThing (wsV RX8 29 RX6 yX6_refuse wsX6_refuse) := goodIn_app (goodIn_of _ (by decide +kernel)) ggX8_addThing_X6_refuse
theorem dX8_addThing_0 : decode cX8_addThing 0 = .ok (.iload_n 2, 1) := by decide +kernel
theorem dX8_addThing_1 : decode cX8_addThing 1 = .ok (.iconst 1, 1) := by decide +kernel
theorem dX8_addThing_2 : decode cX8_addThing 2 = .ok (.if_icmp .lt 8, 3) := by decide +kernel
theorem dX8_addThing_5 : decode cX8_addThing 5 = .ok (.iload_n 2, 1) := by decide +kernel
theorem dX8_addThing_6 : decode cX8_addThing 6 = .ok (.iload_n 3, 1) := by decide +kernel
theorem dX8_addThing_7 : decode cX8_addThing 7 = .ok (.if_icmp .le 6, 3) := by decide +kernel
theorem dX8_addThing_10 : decode cX8_addThing 10 = .ok (.bipush (-2), 2) := by decide +kernel
theorem dX8_addThing_12 : decode cX8_addThing 12 = .ok (.ireturn, 1) := by decide +kernel
theorem dX8_addThing_13 : decode cX8_addThing 13 = .ok (.aload_n 0, 1) := by decide +kernel
theorem dX8_addThing_14 : decode cX8_addThing 14 = .ok (.getfield 9, 3) := by decide +kernel
theorem dX8_addThing_17 : decode cX8_addThing 17 = .ok (.getfield 23, 3) := by decide +kernel
theorem dX8_addThing_20 : decode cX8_addThing 20 = .ok (.istore 4, 2) := by decide +kernel
theorem dX8_addThing_22 : decode cX8_addThing 22 = .ok (.iload 4, 2) := by decide +kernel
theorem dX8_addThing_24 : decode cX8_addThing 24 = .ok (.bipush 12, 2) := by decide +kernel
theorem dX8_addThing_26 : decode cX8_addThing 26 = .ok (.if_icmp .lt 14, 3) := by decide +kernel
theorem dX8_addThing_29 : decode cX8_addThing 29 = .ok (.aload_n 0, 1) := by decide +kernel
theorem dX8_addThing_30 : decode cX8_addThing 30 = .ok (.getfield 19, 3) := by decide +kernel
theorem dX8_addThing_33 : decode cX8_addThing 33 = .ok (.iconst 1, 1) := by decide +kernel
theorem dX8_addThing_34 : decode cX8_addThing 34 = .ok (.bipush 12, 2) := by decide +kernel
theorem dX8_addThing_36 : decode cX8_addThing 36 = .ok (.invokevirtual 29, 3) := by decide +kernel
theorem dX8_addThing_39 : decode cX8_addThing 39 = .ok (.ireturn, 1) := by decide +kernel
theorem dX8_addThing_40 : decode cX8_addThing 40 = .ok (.aload_n 0, 1) := by decide +kernel
theorem dX8_addThing_41 : decode cX8_addThing 41 = .ok (.getfield 9, 3) := by decide +kernel
theorem dX8_addThing_44 : decode cX8_addThing 44 = .ok (.getfield 35, 3) := by decide +kernel
theorem dX8_addThing_47 : decode cX8_addThing 47 = .ok (.iload 4, 2) := by decide +kernel
theorem dX8_addThing_49 : decode cX8_addThing 49 = .ok (.iload_n 1, 1) := by decide +kernel
theorem dX8_addThing_50 : decode cX8_addThing 50 = .ok (.iastore, 1) := by decide +kernel
theorem dX8_addThing_51 : decode cX8_addThing 51 = .ok (.aload_n 0, 1) := by decide +kernel
theorem dX8_addThing_52 : decode cX8_addThing 52 = .ok (.getfield 9, 3) := by decide +kernel
theorem dX8_addThing_55 : decode cX8_addThing 55 = .ok (.getfield 39, 3) := by decide +kernel
theorem dX8_addThing_58 : decode cX8_addThing 58 = .ok (.iload 4, 2) := by decide +kernel
theorem dX8_addThing_60 : decode cX8_addThing 60 = .ok (.iload_n 2, 1) := by decide +kernel
theorem dX8_addThing_61 : decode cX8_addThing 61 = .ok (.iastore, 1) := by decide +kernel
theorem dX8_addThing_62 : decode cX8_addThing 62 = .ok (.aload_n 0, 1) := by decide +kernel
theorem dX8_addThing_63 : decode cX8_addThing 63 = .ok (.getfield 9, 3) := by decide +kernel
theorem dX8_addThing_66 : decode cX8_addThing 66 = .ok (.getfield 42, 3) := by decide +kernel
theorem dX8_addThing_69 : decode cX8_addThing 69 = .ok (.iload 4, 2) := by decide +kernel
theorem dX8_addThing_71 : decode cX8_addThing 71 = .ok (.bipush (-4), 2) := by decide +kernel
theorem dX8_addThing_73 : decode cX8_addThing 73 = .ok (.iastore, 1) := by decide +kernel
theorem dX8_addThing_74 : decode cX8_addThing 74 = .ok (.aload_n 0, 1) := by decide +kernel
theorem dX8_addThing_75 : decode cX8_addThing 75 = .ok (.getfield 9, 3) := by decide +kernel
theorem dX8_addThing_78 : decode cX8_addThing 78 = .ok (.getfield 45, 3) := by decide +kernel
theorem dX8_addThing_81 : decode cX8_addThing 81 = .ok (.iload 4, 2) := by decide +kernel
theorem dX8_addThing_83 : decode cX8_addThing 83 = .ok (.bipush (-4), 2) := by decide +kernel
theorem dX8_addThing_85 : decode cX8_addThing 85 = .ok (.iastore, 1) := by decide +kernel
theorem dX8_addThing_86 : decode cX8_addThing 86 = .ok (.aload_n 0, 1) := by decide +kernel
theorem dX8_addThing_87 : decode cX8_addThing 87 = .ok (.getfield 9, 3) := by decide +kernel
theorem dX8_addThing_90 : decode cX8_addThing 90 = .ok (.iload 4, 2) := by decide +kernel
theorem dX8_addThing_92 : decode cX8_addThing 92 = .ok (.iconst 1, 1) := by decide +kernel
theorem dX8_addThing_93 : decode cX8_addThing 93 = .ok (.iadd, 1) := by decide +kernel
theorem dX8_addThing_94 : decode cX8_addThing 94 = .ok (.putfield 23, 3) := by decide +kernel
theorem dX8_addThing_97 : decode cX8_addThing 97 = .ok (.iload 4, 2) := by decide +kernel
theorem dX8_addThing_99 : decode cX8_addThing 99 = .ok (.ireturn, 1) := by decide +kernel
set_option maxRecDepth 20000 in
theorem ggX8_addCart_X6_refuse : GoodIn wsX8_addCart wsX6_refuse := goodIn_r _ [10, 11, 12, 13, 14, 43, 44, 45, 46] (by decide +kernel) (by decide +kernel)
set_option maxRecDepth 20000 in
theorem gX8_addCart_X6_refuse : GoodIn wsX8_addCart (wsV RX8 29 RX6 yX6_refuse wsX6_refuse) := goodIn_app (goodIn_of _ (by decide +kernel)) ggX8_addCart_X6_refuse
set_option maxRecDepth 20000 in
theorem ggX8_addCart_X9_setWear : GoodIn wsX8_addCart wsX9_setWear := goodIn_r _ [19, 20, 21, 22, 18, 23, 27, 28, 29, 30, 31, 32, 33, 34, 35, 36, 37, 38, 39, 40, 41, 42] (by decide +kernel) (by decide +kernel)
set_option maxRecDepth 20000 in
theorem gX8_addCart_X9_setWear : GoodIn wsX8_addCart (wsV RX8 57 RX9 yX9_setWear wsX9_setWear) := goodIn_app (goodIn_of _ (by decide +kernel)) ggX8_addCart_X9_setWear
theorem dX8_addCart_0 : decode cX8_addCart 0 = .ok (.iload_n 1, 1) := by decide +kernel
theorem dX8_addCart_1 : decode cX8_addCart 1 = .ok (.iconst 1, 1) := by decide +kernel
theorem dX8_addCart_2 : decode cX8_addCart 2 = .ok (.if_icmp .lt 9, 3) := by decide +kernel
theorem dX8_addCart_5 : decode cX8_addCart 5 = .ok (.iload_n 1, 1) := by decide +kernel
theorem dX8_addCart_6 : decode cX8_addCart 6 = .ok (.bipush 60, 2) := by decide +kernel
theorem dX8_addCart_8 : decode cX8_addCart 8 = .ok (.if_icmp .le 6, 3) := by decide +kernel
theorem dX8_addCart_11 : decode cX8_addCart 11 = .ok (.bipush (-2), 2) := by decide +kernel
theorem dX8_addCart_13 : decode cX8_addCart 13 = .ok (.ireturn, 1) := by decide +kernel
theorem dX8_addCart_14 : decode cX8_addCart 14 = .ok (.aload_n 0, 1) := by decide +kernel
theorem dX8_addCart_15 : decode cX8_addCart 15 = .ok (.getfield 9, 3) := by decide +kernel
theorem dX8_addCart_18 : decode cX8_addCart 18 = .ok (.getfield 48, 3) := by decide +kernel
theorem dX8_addCart_21 : decode cX8_addCart 21 = .ok (.istore_n 2, 1) := by decide +kernel
theorem dX8_addCart_22 : decode cX8_addCart 22 = .ok (.iload_n 2, 1) := by decide +kernel
theorem dX8_addCart_23 : decode cX8_addCart 23 = .ok (.iconst 4, 1) := by decide +kernel
theorem dX8_addCart_24 : decode cX8_addCart 24 = .ok (.if_icmp .lt 13, 3) := by decide +kernel
theorem dX8_addCart_27 : decode cX8_addCart 27 = .ok (.aload_n 0, 1) := by decide +kernel
theorem dX8_addCart_28 : decode cX8_addCart 28 = .ok (.getfield 19, 3) := by decide +kernel
theorem dX8_addCart_31 : decode cX8_addCart 31 = .ok (.iconst 1, 1) := by decide +kernel
theorem dX8_addCart_32 : decode cX8_addCart 32 = .ok (.iconst 4, 1) := by decide +kernel
theorem dX8_addCart_33 : decode cX8_addCart 33 = .ok (.invokevirtual 29, 3) := by decide +kernel
theorem dX8_addCart_36 : decode cX8_addCart 36 = .ok (.ireturn, 1) := by decide +kernel
theorem dX8_addCart_37 : decode cX8_addCart 37 = .ok (.aload_n 0, 1) := by decide +kernel
theorem dX8_addCart_38 : decode cX8_addCart 38 = .ok (.getfield 9, 3) := by decide +kernel
theorem dX8_addCart_41 : decode cX8_addCart 41 = .ok (.getfield 51, 3) := by decide +kernel
theorem dX8_addCart_44 : decode cX8_addCart 44 = .ok (.iload_n 2, 1) := by decide +kernel
theorem dX8_addCart_45 : decode cX8_addCart 45 = .ok (.iload_n 1, 1) := by decide +kernel
theorem dX8_addCart_46 : decode cX8_addCart 46 = .ok (.iastore, 1) := by decide +kernel
theorem dX8_addCart_47 : decode cX8_addCart 47 = .ok (.aload_n 0, 1) := by decide +kernel
theorem dX8_addCart_48 : decode cX8_addCart 48 = .ok (.getfield 9, 3) := by decide +kernel
theorem dX8_addCart_51 : decode cX8_addCart 51 = .ok (.getfield 54, 3) := by decide +kernel
theorem dX8_addCart_54 : decode cX8_addCart 54 = .ok (.iload_n 2, 1) := by decide +kernel
theorem dX8_addCart_55 : decode cX8_addCart 55 = .ok (.iconst 0, 1) := by decide +kernel
theorem dX8_addCart_56 : decode cX8_addCart 56 = .ok (.iastore, 1) := by decide +kernel
theorem dX8_addCart_57 : decode cX8_addCart 57 = .ok (.aload_n 0, 1) := by decide +kernel
theorem dX8_addCart_58 : decode cX8_addCart 58 = .ok (.getfield 9, 3) := by decide +kernel
theorem dX8_addCart_61 : decode cX8_addCart 61 = .ok (.iload_n 2, 1) := by decide +kernel
theorem dX8_addCart_62 : decode cX8_addCart 62 = .ok (.iconst 0, 1) := by decide +kernel
theorem dX8_addCart_63 : decode cX8_addCart 63 = .ok (.fconst 0, 1) := by decide +kernel
theorem dX8_addCart_64 : decode cX8_addCart 64 = .ok (.invokevirtual 57, 3) := by decide +kernel
theorem dX8_addCart_67 : decode cX8_addCart 67 = .ok (.aload_n 0, 1) := by decide +kernel
theorem dX8_addCart_68 : decode cX8_addCart 68 = .ok (.getfield 9, 3) := by decide +kernel
theorem dX8_addCart_71 : decode cX8_addCart 71 = .ok (.iload_n 2, 1) := by decide +kernel
theorem dX8_addCart_72 : decode cX8_addCart 72 = .ok (.iconst 1, 1) := by decide +kernel
theorem dX8_addCart_73 : decode cX8_addCart 73 = .ok (.fconst 0, 1) := by decide +kernel
theorem dX8_addCart_74 : decode cX8_addCart 74 = .ok (.invokevirtual 57, 3) := by decide +kernel
theorem dX8_addCart_77 : decode cX8_addCart 77 = .ok (.aload_n 0, 1) := by decide +kernel
theorem dX8_addCart_78 : decode cX8_addCart 78 = .ok (.getfield 9, 3) := by decide +kernel
theorem dX8_addCart_81 : decode cX8_addCart 81 = .ok (.iload_n 2, 1) := by decide +kernel
theorem dX8_addCart_82 : decode cX8_addCart 82 = .ok (.iconst 1, 1) := by decide +kernel
theorem dX8_addCart_83 : decode cX8_addCart 83 = .ok (.iadd, 1) := by decide +kernel
theorem dX8_addCart_84 : decode cX8_addCart 84 = .ok (.putfield 48, 3) := by decide +kernel
theorem dX8_addCart_87 : decode cX8_addCart 87 = .ok (.iload_n 2, 1) := by decide +kernel
theorem dX8_addCart_88 : decode cX8_addCart 88 = .ok (.ireturn, 1) := by decide +kernel
set_option maxRecDepth 20000 in
theorem ggX8_addRoad_X6_refuse : GoodIn wsX8_addRoad wsX6_refuse := goodIn_r _ [12, 13, 14, 15, 16, 36, 37, 38, 39] (by decide +kernel) (by decide +kernel)
set_option maxRecDepth 20000 in
theorem gX8_addRoad_X6_refuse : GoodIn wsX8_addRoad (wsV RX8 29 RX6 yX6_refuse wsX6_refuse) := goodIn_app (goodIn_of _ (by decide +kernel)) ggX8_addRoad_X6_refuse
theorem dX8_addRoad_0 : decode cX8_addRoad 0 = .ok (.iload_n 1, 1) := by decide +kernel
theorem dX8_addRoad_1 : decode cX8_addRoad 1 = .ok (.iconst 1, 1) := by decide +kernel
theorem dX8_addRoad_2 : decode cX8_addRoad 2 = .ok (.if_icmp .lt 30, 3) := by decide +kernel
theorem dX8_addRoad_5 : decode cX8_addRoad 5 = .ok (.iload_n 1, 1) := by decide +kernel
theorem dX8_addRoad_6 : decode cX8_addRoad 6 = .ok (.bipush 99, 2) := by decide +kernel
theorem dX8_addRoad_8 : decode cX8_addRoad 8 = .ok (.if_icmp .gt 24, 3) := by decide +kernel
theorem dX8_addRoad_11 : decode cX8_addRoad 11 = .ok (.iload_n 2, 1) := by decide +kernel
theorem dX8_addRoad_12 : decode cX8_addRoad 12 = .ok (.iconst 1, 1) := by decide +kernel
theorem dX8_addRoad_13 : decode cX8_addRoad 13 = .ok (.if_icmp .lt 19, 3) := by decide +kernel
theorem dX8_addRoad_16 : decode cX8_addRoad 16 = .ok (.iload_n 2, 1) := by decide +kernel
theorem dX8_addRoad_17 : decode cX8_addRoad 17 = .ok (.bipush 9, 2) := by decide +kernel
theorem dX8_addRoad_19 : decode cX8_addRoad 19 = .ok (.if_icmp .gt 13, 3) := by decide +kernel
theorem dX8_addRoad_22 : decode cX8_addRoad 22 = .ok (.iload_n 3, 1) := by decide +kernel
theorem dX8_addRoad_23 : decode cX8_addRoad 23 = .ok (.ifCond .lt 9, 3) := by decide +kernel
theorem dX8_addRoad_26 : decode cX8_addRoad 26 = .ok (.iload_n 3, 1) := by decide +kernel
theorem dX8_addRoad_27 : decode cX8_addRoad 27 = .ok (.bipush 9, 2) := by decide +kernel
theorem dX8_addRoad_29 : decode cX8_addRoad 29 = .ok (.if_icmp .le 6, 3) := by decide +kernel
theorem dX8_addRoad_32 : decode cX8_addRoad 32 = .ok (.bipush (-2), 2) := by decide +kernel
theorem dX8_addRoad_34 : decode cX8_addRoad 34 = .ok (.ireturn, 1) := by decide +kernel
theorem dX8_addRoad_35 : decode cX8_addRoad 35 = .ok (.aload_n 0, 1) := by decide +kernel
theorem dX8_addRoad_36 : decode cX8_addRoad 36 = .ok (.getfield 9, 3) := by decide +kernel
theorem dX8_addRoad_39 : decode cX8_addRoad 39 = .ok (.getfield 61, 3) := by decide +kernel
theorem dX8_addRoad_42 : decode cX8_addRoad 42 = .ok (.istore 4, 2) := by decide +kernel
theorem dX8_addRoad_44 : decode cX8_addRoad 44 = .ok (.iload 4, 2) := by decide +kernel
theorem dX8_addRoad_46 : decode cX8_addRoad 46 = .ok (.iconst 5, 1) := by decide +kernel
theorem dX8_addRoad_47 : decode cX8_addRoad 47 = .ok (.if_icmp .lt 13, 3) := by decide +kernel
theorem dX8_addRoad_50 : decode cX8_addRoad 50 = .ok (.aload_n 0, 1) := by decide +kernel
theorem dX8_addRoad_51 : decode cX8_addRoad 51 = .ok (.getfield 19, 3) := by decide +kernel
theorem dX8_addRoad_54 : decode cX8_addRoad 54 = .ok (.iconst 1, 1) := by decide +kernel
theorem dX8_addRoad_55 : decode cX8_addRoad 55 = .ok (.iconst 5, 1) := by decide +kernel
theorem dX8_addRoad_56 : decode cX8_addRoad 56 = .ok (.invokevirtual 29, 3) := by decide +kernel
theorem dX8_addRoad_59 : decode cX8_addRoad 59 = .ok (.ireturn, 1) := by decide +kernel
theorem dX8_addRoad_60 : decode cX8_addRoad 60 = .ok (.aload_n 0, 1) := by decide +kernel
theorem dX8_addRoad_61 : decode cX8_addRoad 61 = .ok (.getfield 9, 3) := by decide +kernel
theorem dX8_addRoad_64 : decode cX8_addRoad 64 = .ok (.getfield 64, 3) := by decide +kernel
theorem dX8_addRoad_67 : decode cX8_addRoad 67 = .ok (.iload 4, 2) := by decide +kernel
theorem dX8_addRoad_69 : decode cX8_addRoad 69 = .ok (.iload_n 1, 1) := by decide +kernel
theorem dX8_addRoad_70 : decode cX8_addRoad 70 = .ok (.iastore, 1) := by decide +kernel
theorem dX8_addRoad_71 : decode cX8_addRoad 71 = .ok (.aload_n 0, 1) := by decide +kernel
theorem dX8_addRoad_72 : decode cX8_addRoad 72 = .ok (.getfield 9, 3) := by decide +kernel
theorem dX8_addRoad_75 : decode cX8_addRoad 75 = .ok (.getfield 67, 3) := by decide +kernel
theorem dX8_addRoad_78 : decode cX8_addRoad 78 = .ok (.iload 4, 2) := by decide +kernel
theorem dX8_addRoad_80 : decode cX8_addRoad 80 = .ok (.iload_n 2, 1) := by decide +kernel
theorem dX8_addRoad_81 : decode cX8_addRoad 81 = .ok (.iastore, 1) := by decide +kernel
theorem dX8_addRoad_82 : decode cX8_addRoad 82 = .ok (.aload_n 0, 1) := by decide +kernel
theorem dX8_addRoad_83 : decode cX8_addRoad 83 = .ok (.getfield 9, 3) := by decide +kernel
theorem dX8_addRoad_86 : decode cX8_addRoad 86 = .ok (.getfield 70, 3) := by decide +kernel
theorem dX8_addRoad_89 : decode cX8_addRoad 89 = .ok (.iload 4, 2) := by decide +kernel
theorem dX8_addRoad_91 : decode cX8_addRoad 91 = .ok (.iload_n 3, 1) := by decide +kernel
theorem dX8_addRoad_92 : decode cX8_addRoad 92 = .ok (.iastore, 1) := by decide +kernel
theorem dX8_addRoad_93 : decode cX8_addRoad 93 = .ok (.aload_n 0, 1) := by decide +kernel
theorem dX8_addRoad_94 : decode cX8_addRoad 94 = .ok (.getfield 9, 3) := by decide +kernel
theorem dX8_addRoad_97 : decode cX8_addRoad 97 = .ok (.getfield 73, 3) := by decide +kernel
theorem dX8_addRoad_100 : decode cX8_addRoad 100 = .ok (.iload 4, 2) := by decide +kernel
theorem dX8_addRoad_102 : decode cX8_addRoad 102 = .ok (.iconst 0, 1) := by decide +kernel
theorem dX8_addRoad_103 : decode cX8_addRoad 103 = .ok (.iastore, 1) := by decide +kernel
theorem dX8_addRoad_104 : decode cX8_addRoad 104 = .ok (.aload_n 0, 1) := by decide +kernel
theorem dX8_addRoad_105 : decode cX8_addRoad 105 = .ok (.getfield 9, 3) := by decide +kernel
theorem dX8_addRoad_108 : decode cX8_addRoad 108 = .ok (.iload 4, 2) := by decide +kernel
theorem dX8_addRoad_110 : decode cX8_addRoad 110 = .ok (.iconst 1, 1) := by decide +kernel
theorem dX8_addRoad_111 : decode cX8_addRoad 111 = .ok (.iadd, 1) := by decide +kernel
theorem dX8_addRoad_112 : decode cX8_addRoad 112 = .ok (.putfield 61, 3) := by decide +kernel
theorem dX8_addRoad_115 : decode cX8_addRoad 115 = .ok (.iload 4, 2) := by decide +kernel
theorem dX8_addRoad_117 : decode cX8_addRoad 117 = .ok (.ireturn, 1) := by decide +kernel
set_option maxRecDepth 20000 in
theorem ggX8_putOn_X9_isThing : GoodIn wsX8_putOn wsX9_isThing := goodIn_r _ [11, 12, 47, 48, 49, 50, 51, 52, 53, 54, 55, 56, 57, 58, 59, 60, 61, 62] (by decide +kernel) (by decide +kernel)
set_option maxRecDepth 20000 in
theorem gX8_putOn_X9_isThing : GoodIn wsX8_putOn (wsV RX8 76 RX9 yX9_isThing wsX9_isThing) := goodIn_app (goodIn_of _ (by decide +kernel)) ggX8_putOn_X9_isThing
set_option maxRecDepth 20000 in
theorem ggX8_putOn_X9_isCart : GoodIn wsX8_putOn wsX9_isCart := goodIn_r _ [16, 17, 47, 48, 49, 50, 51, 52, 53, 54, 55, 56, 57, 58, 59, 60, 61, 62] (by decide +kernel) (by decide +kernel)
set_option maxRecDepth 20000 in
theorem gX8_putOn_X9_isCart : GoodIn wsX8_putOn (wsV RX8 80 RX9 yX9_isCart wsX9_isCart) := goodIn_app (goodIn_of _ (by decide +kernel)) ggX8_putOn_X9_isCart
set_option maxRecDepth 20000 in
theorem ggX8_putOn_X6_refuse : GoodIn wsX8_putOn wsX6_refuse := goodIn_r _ [22, 23, 24, 25, 26, 63, 64, 65, 66] (by decide +kernel) (by decide +kernel)
set_option maxRecDepth 20000 in
theorem gX8_putOn_X6_refuse : GoodIn wsX8_putOn (wsV RX8 29 RX6 yX6_refuse wsX6_refuse) := goodIn_app (goodIn_of _ (by decide +kernel)) ggX8_putOn_X6_refuse
set_option maxRecDepth 20000 in
theorem ggX8_putOn_X9_thingAt : GoodIn wsX8_putOn wsX9_thingAt := goodIn_r _ [30, 12, 31, 32, 47, 48, 49, 50, 51, 52, 53, 54, 55, 56, 57, 58, 59, 60, 61, 62] (by decide +kernel) (by decide +kernel)
set_option maxRecDepth 20000 in
theorem gX8_putOn_X9_thingAt : GoodIn wsX8_putOn (wsV RX8 83 RX9 yX9_thingAt wsX9_thingAt) := goodIn_app (goodIn_of _ (by decide +kernel)) ggX8_putOn_X9_thingAt
set_option maxRecDepth 20000 in
theorem ggX8_putOn_X9_weightOn : GoodIn wsX8_putOn wsX9_weightOn := goodIn_r _ [36, 12, 31, 37, 38, 47, 48, 49, 50, 51, 52, 53, 54, 55, 56, 57, 58, 59, 60, 61, 62] (by decide +kernel) (by decide +kernel)
set_option maxRecDepth 20000 in
theorem gX8_putOn_X9_weightOn : GoodIn wsX8_putOn (wsV RX8 86 RX9 yX9_weightOn wsX9_weightOn) := goodIn_app (goodIn_of _ (by decide +kernel)) ggX8_putOn_X9_weightOn
set_option maxRecDepth 20000 in
theorem ggX8_putOn_X9_weightOfAllOn : GoodIn wsX8_putOn wsX9_weightOfAllOn := goodIn_r _ [42, 43, 34, 35, 10, 36, 12, 31, 37, 38, 47, 48, 49, 50, 51, 52, 53, 54, 55, 56, 57, 58, 59, 60, 61, 62] (by decide +kernel) (by decide +kernel)
set_option maxRecDepth 20000 in
theorem gX8_putOn_X9_weightOfAllOn : GoodIn wsX8_putOn (wsV RX8 89 RX9 yX9_weightOfAllOn wsX9_weightOfAllOn) := goodIn_app (goodIn_of _ (by decide +kernel)) ggX8_putOn_X9_weightOfAllOn
theorem dX8_putOn_0 : decode cX8_putOn 0 = .ok (.aload_n 0, 1) := by decide +kernel
theorem dX8_putOn_1 : decode cX8_putOn 1 = .ok (.getfield 9, 3) := by decide +kernel
theorem dX8_putOn_4 : decode cX8_putOn 4 = .ok (.iload_n 1, 1) := by decide +kernel
theorem dX8_putOn_5 : decode cX8_putOn 5 = .ok (.invokevirtual 76, 3) := by decide +kernel
theorem dX8_putOn_8 : decode cX8_putOn 8 = .ok (.ifCond .eq 14, 3) := by decide +kernel
theorem dX8_putOn_11 : decode cX8_putOn 11 = .ok (.aload_n 0, 1) := by decide +kernel
theorem dX8_putOn_12 : decode cX8_putOn 12 = .ok (.getfield 9, 3) := by decide +kernel
theorem dX8_putOn_15 : decode cX8_putOn 15 = .ok (.iload_n 2, 1) := by decide +kernel
theorem dX8_putOn_16 : decode cX8_putOn 16 = .ok (.invokevirtual 80, 3) := by decide +kernel
theorem dX8_putOn_19 : decode cX8_putOn 19 = .ok (.ifCond .ne 5, 3) := by decide +kernel
theorem dX8_putOn_22 : decode cX8_putOn 22 = .ok (.iconst (-1), 1) := by decide +kernel
theorem dX8_putOn_23 : decode cX8_putOn 23 = .ok (.ireturn, 1) := by decide +kernel
theorem dX8_putOn_24 : decode cX8_putOn 24 = .ok (.iload_n 3, 1) := by decide +kernel
theorem dX8_putOn_25 : decode cX8_putOn 25 = .ok (.ifCond .lt 9, 3) := by decide +kernel
theorem dX8_putOn_28 : decode cX8_putOn 28 = .ok (.iload_n 3, 1) := by decide +kernel
theorem dX8_putOn_29 : decode cX8_putOn 29 = .ok (.bipush 6, 2) := by decide +kernel
theorem dX8_putOn_31 : decode cX8_putOn 31 = .ok (.if_icmp .le 6, 3) := by decide +kernel
theorem dX8_putOn_34 : decode cX8_putOn 34 = .ok (.bipush (-2), 2) := by decide +kernel
theorem dX8_putOn_36 : decode cX8_putOn 36 = .ok (.ireturn, 1) := by decide +kernel
theorem dX8_putOn_37 : decode cX8_putOn 37 = .ok (.aload_n 0, 1) := by decide +kernel
theorem dX8_putOn_38 : decode cX8_putOn 38 = .ok (.getfield 9, 3) := by decide +kernel
theorem dX8_putOn_41 : decode cX8_putOn 41 = .ok (.getfield 42, 3) := by decide +kernel
theorem dX8_putOn_44 : decode cX8_putOn 44 = .ok (.iload_n 1, 1) := by decide +kernel
theorem dX8_putOn_45 : decode cX8_putOn 45 = .ok (.iaload, 1) := by decide +kernel
theorem dX8_putOn_46 : decode cX8_putOn 46 = .ok (.bipush (-4), 2) := by decide +kernel
theorem dX8_putOn_48 : decode cX8_putOn 48 = .ok (.if_icmp .eq 21, 3) := by decide +kernel
theorem dX8_putOn_51 : decode cX8_putOn 51 = .ok (.aload_n 0, 1) := by decide +kernel
theorem dX8_putOn_52 : decode cX8_putOn 52 = .ok (.getfield 19, 3) := by decide +kernel
theorem dX8_putOn_55 : decode cX8_putOn 55 = .ok (.iconst 2, 1) := by decide +kernel
theorem dX8_putOn_56 : decode cX8_putOn 56 = .ok (.aload_n 0, 1) := by decide +kernel
theorem dX8_putOn_57 : decode cX8_putOn 57 = .ok (.getfield 9, 3) := by decide +kernel
theorem dX8_putOn_60 : decode cX8_putOn 60 = .ok (.getfield 42, 3) := by decide +kernel
theorem dX8_putOn_63 : decode cX8_putOn 63 = .ok (.iload_n 1, 1) := by decide +kernel
theorem dX8_putOn_64 : decode cX8_putOn 64 = .ok (.iaload, 1) := by decide +kernel
theorem dX8_putOn_65 : decode cX8_putOn 65 = .ok (.invokevirtual 29, 3) := by decide +kernel
theorem dX8_putOn_68 : decode cX8_putOn 68 = .ok (.ireturn, 1) := by decide +kernel
theorem dX8_putOn_69 : decode cX8_putOn 69 = .ok (.aload_n 0, 1) := by decide +kernel
theorem dX8_putOn_70 : decode cX8_putOn 70 = .ok (.getfield 9, 3) := by decide +kernel
theorem dX8_putOn_73 : decode cX8_putOn 73 = .ok (.getfield 35, 3) := by decide +kernel
theorem dX8_putOn_76 : decode cX8_putOn 76 = .ok (.iload_n 1, 1) := by decide +kernel
theorem dX8_putOn_77 : decode cX8_putOn 77 = .ok (.iaload, 1) := by decide +kernel
theorem dX8_putOn_78 : decode cX8_putOn 78 = .ok (.iconst 1, 1) := by decide +kernel
theorem dX8_putOn_79 : decode cX8_putOn 79 = .ok (.if_icmp .ne 7, 3) := by decide +kernel
theorem dX8_putOn_82 : decode cX8_putOn 82 = .ok (.iconst 1, 1) := by decide +kernel
theorem dX8_putOn_83 : decode cX8_putOn 83 = .ok (.goto 4, 3) := by decide +kernel
theorem dX8_putOn_86 : decode cX8_putOn 86 = .ok (.iconst 0, 1) := by decide +kernel
theorem dX8_putOn_87 : decode cX8_putOn 87 = .ok (.istore 4, 2) := by decide +kernel
theorem dX8_putOn_89 : decode cX8_putOn 89 = .ok (.iload 4, 2) := by decide +kernel
theorem dX8_putOn_91 : decode cX8_putOn 91 = .ok (.iload_n 3, 1) := by decide +kernel
theorem dX8_putOn_92 : decode cX8_putOn 92 = .ok (.bipush 6, 2) := by decide +kernel
theorem dX8_putOn_94 : decode cX8_putOn 94 = .ok (.if_icmp .ne 7, 3) := by decide +kernel
theorem dX8_putOn_97 : decode cX8_putOn 97 = .ok (.iconst 1, 1) := by decide +kernel
theorem dX8_putOn_98 : decode cX8_putOn 98 = .ok (.goto 4, 3) := by decide +kernel
theorem dX8_putOn_101 : decode cX8_putOn 101 = .ok (.iconst 0, 1) := by decide +kernel
theorem dX8_putOn_102 : decode cX8_putOn 102 = .ok (.if_icmp .eq 13, 3) := by decide +kernel
theorem dX8_putOn_105 : decode cX8_putOn 105 = .ok (.aload_n 0, 1) := by decide +kernel
theorem dX8_putOn_106 : decode cX8_putOn 106 = .ok (.getfield 19, 3) := by decide +kernel
theorem dX8_putOn_109 : decode cX8_putOn 109 = .ok (.iconst 3, 1) := by decide +kernel
theorem dX8_putOn_110 : decode cX8_putOn 110 = .ok (.iload_n 3, 1) := by decide +kernel
theorem dX8_putOn_111 : decode cX8_putOn 111 = .ok (.invokevirtual 29, 3) := by decide +kernel
theorem dX8_putOn_114 : decode cX8_putOn 114 = .ok (.ireturn, 1) := by decide +kernel
theorem dX8_putOn_115 : decode cX8_putOn 115 = .ok (.aload_n 0, 1) := by decide +kernel
theorem dX8_putOn_116 : decode cX8_putOn 116 = .ok (.getfield 9, 3) := by decide +kernel
theorem dX8_putOn_119 : decode cX8_putOn 119 = .ok (.iload_n 2, 1) := by decide +kernel
theorem dX8_putOn_120 : decode cX8_putOn 120 = .ok (.iload_n 3, 1) := by decide +kernel
theorem dX8_putOn_121 : decode cX8_putOn 121 = .ok (.invokevirtual 83, 3) := by decide +kernel
theorem dX8_putOn_124 : decode cX8_putOn 124 = .ok (.istore 5, 2) := by decide +kernel
theorem dX8_putOn_126 : decode cX8_putOn 126 = .ok (.iload 5, 2) := by decide +kernel
theorem dX8_putOn_128 : decode cX8_putOn 128 = .ok (.bipush (-4), 2) := by decide +kernel
theorem dX8_putOn_130 : decode cX8_putOn 130 = .ok (.if_icmp .eq 14, 3) := by decide +kernel
theorem dX8_putOn_133 : decode cX8_putOn 133 = .ok (.aload_n 0, 1) := by decide +kernel
theorem dX8_putOn_134 : decode cX8_putOn 134 = .ok (.getfield 19, 3) := by decide +kernel
theorem dX8_putOn_137 : decode cX8_putOn 137 = .ok (.iconst 4, 1) := by decide +kernel
theorem dX8_putOn_138 : decode cX8_putOn 138 = .ok (.iload 5, 2) := by decide +kernel
theorem dX8_putOn_140 : decode cX8_putOn 140 = .ok (.invokevirtual 29, 3) := by decide +kernel
theorem dX8_putOn_143 : decode cX8_putOn 143 = .ok (.ireturn, 1) := by decide +kernel
theorem dX8_putOn_144 : decode cX8_putOn 144 = .ok (.aload_n 0, 1) := by decide +kernel
theorem dX8_putOn_145 : decode cX8_putOn 145 = .ok (.getfield 9, 3) := by decide +kernel
theorem dX8_putOn_148 : decode cX8_putOn 148 = .ok (.getfield 39, 3) := by decide +kernel
theorem dX8_putOn_151 : decode cX8_putOn 151 = .ok (.iload_n 1, 1) := by decide +kernel
theorem dX8_putOn_152 : decode cX8_putOn 152 = .ok (.iaload, 1) := by decide +kernel
theorem dX8_putOn_153 : decode cX8_putOn 153 = .ok (.aload_n 0, 1) := by decide +kernel
theorem dX8_putOn_154 : decode cX8_putOn 154 = .ok (.getfield 9, 3) := by decide +kernel
theorem dX8_putOn_157 : decode cX8_putOn 157 = .ok (.iload_n 2, 1) := by decide +kernel
theorem dX8_putOn_158 : decode cX8_putOn 158 = .ok (.iconst 0, 1) := by decide +kernel
theorem dX8_putOn_159 : decode cX8_putOn 159 = .ok (.invokevirtual 86, 3) := by decide +kernel
theorem dX8_putOn_162 : decode cX8_putOn 162 = .ok (.isub, 1) := by decide +kernel
theorem dX8_putOn_163 : decode cX8_putOn 163 = .ok (.istore 6, 2) := by decide +kernel
theorem dX8_putOn_165 : decode cX8_putOn 165 = .ok (.iload 4, 2) := by decide +kernel
theorem dX8_putOn_167 : decode cX8_putOn 167 = .ok (.ifCond .eq 19, 3) := by decide +kernel
theorem dX8_putOn_170 : decode cX8_putOn 170 = .ok (.iload 6, 2) := by decide +kernel
theorem dX8_putOn_172 : decode cX8_putOn 172 = .ok (.ifCond .le 14, 3) := by decide +kernel
theorem dX8_putOn_175 : decode cX8_putOn 175 = .ok (.aload_n 0, 1) := by decide +kernel
theorem dX8_putOn_176 : decode cX8_putOn 176 = .ok (.getfield 19, 3) := by decide +kernel
theorem dX8_putOn_179 : decode cX8_putOn 179 = .ok (.iconst 5, 1) := by decide +kernel
theorem dX8_putOn_180 : decode cX8_putOn 180 = .ok (.iload 6, 2) := by decide +kernel
theorem dX8_putOn_182 : decode cX8_putOn 182 = .ok (.invokevirtual 29, 3) := by decide +kernel
theorem dX8_putOn_185 : decode cX8_putOn 185 = .ok (.ireturn, 1) := by decide +kernel
theorem dX8_putOn_186 : decode cX8_putOn 186 = .ok (.aload_n 0, 1) := by decide +kernel
theorem dX8_putOn_187 : decode cX8_putOn 187 = .ok (.getfield 9, 3) := by decide +kernel
theorem dX8_putOn_190 : decode cX8_putOn 190 = .ok (.getfield 42, 3) := by decide +kernel
theorem dX8_putOn_193 : decode cX8_putOn 193 = .ok (.iload_n 1, 1) := by decide +kernel
theorem dX8_putOn_194 : decode cX8_putOn 194 = .ok (.iload_n 2, 1) := by decide +kernel
theorem dX8_putOn_195 : decode cX8_putOn 195 = .ok (.iastore, 1) := by decide +kernel
theorem dX8_putOn_196 : decode cX8_putOn 196 = .ok (.aload_n 0, 1) := by decide +kernel
theorem dX8_putOn_197 : decode cX8_putOn 197 = .ok (.getfield 9, 3) := by decide +kernel
theorem dX8_putOn_200 : decode cX8_putOn 200 = .ok (.getfield 45, 3) := by decide +kernel
theorem dX8_putOn_203 : decode cX8_putOn 203 = .ok (.iload_n 1, 1) := by decide +kernel
theorem dX8_putOn_204 : decode cX8_putOn 204 = .ok (.iload_n 3, 1) := by decide +kernel
theorem dX8_putOn_205 : decode cX8_putOn 205 = .ok (.iastore, 1) := by decide +kernel
theorem dX8_putOn_206 : decode cX8_putOn 206 = .ok (.aload_n 0, 1) := by decide +kernel
theorem dX8_putOn_207 : decode cX8_putOn 207 = .ok (.getfield 9, 3) := by decide +kernel
