theorem dX6_run_121 : decode cX6_run 121 = .ok (.ifCond .eq 7, 3) := by decide +kernel
theorem dX6_run_124 : decode cX6_run 124 = .ok (.iconst 1, 1) := by decide +kernel
theorem dX6_run_125 : decode cX6_run 125 = .ok (.goto 4, 3) := by decide +kernel
theorem dX6_run_128 : decode cX6_run 128 = .ok (.iconst 0, 1) := by decide +kernel
theorem dX6_run_129 : decode cX6_run 129 = .ok (.istore_n 1, 1) := by decide +kernel
theorem dX6_run_130 : decode cX6_run 130 = .ok (.iinc 2 1, 3) := by decide +kernel
theorem dX6_run_133 : decode cX6_run 133 = .ok (.goto (-120), 3) := by decide +kernel
theorem dX6_run_136 : decode cX6_run 136 = .ok (.return_, 1) := by decide +kernel
theorem dX6_load_0 : decode cX6_load 0 = .ok (.iconst 0, 1) := by decide +kernel
theorem dX6_load_1 : decode cX6_load 1 = .ok (.istore_n 1, 1) := by decide +kernel
theorem dX6_load_2 : decode cX6_load 2 = .ok (.iload_n 1, 1) := by decide +kernel
theorem dX6_load_3 : decode cX6_load 3 = .ok (.iconst 3, 1) := by decide +kernel
theorem dX6_load_4 : decode cX6_load 4 = .ok (.if_icmp .ge 16, 3) := by decide +kernel
theorem dX6_load_7 : decode cX6_load 7 = .ok (.aload_n 0, 1) := by decide +kernel
theorem dX6_load_8 : decode cX6_load 8 = .ok (.getfield 25, 3) := by decide +kernel
theorem dX6_load_11 : decode cX6_load 11 = .ok (.iload_n 1, 1) := by decide +kernel
theorem dX6_load_12 : decode cX6_load 12 = .ok (.iconst 0, 1) := by decide +kernel
theorem dX6_load_13 : decode cX6_load 13 = .ok (.iastore, 1) := by decide +kernel
theorem dX6_load_14 : decode cX6_load 14 = .ok (.iinc 1 1, 3) := by decide +kernel
theorem dX6_load_17 : decode cX6_load 17 = .ok (.goto (-15), 3) := by decide +kernel
theorem dX6_load_20 : decode cX6_load 20 = .ok (.iconst 0, 1) := by decide +kernel
theorem dX6_load_21 : decode cX6_load 21 = .ok (.istore_n 1, 1) := by decide +kernel
theorem dX6_load_22 : decode cX6_load 22 = .ok (.iload_n 1, 1) := by decide +kernel
theorem dX6_load_23 : decode cX6_load 23 = .ok (.aload_n 0, 1) := by decide +kernel
theorem dX6_load_24 : decode cX6_load 24 = .ok (.getfield 37, 3) := by decide +kernel
theorem dX6_load_27 : decode cX6_load 27 = .ok (.getfield 70, 3) := by decide +kernel
theorem dX6_load_30 : decode cX6_load 30 = .ok (.if_icmp .ge 74, 3) := by decide +kernel
theorem dX6_load_33 : decode cX6_load 33 = .ok (.aload_n 0, 1) := by decide +kernel
theorem dX6_load_34 : decode cX6_load 34 = .ok (.getfield 15, 3) := by decide +kernel
theorem dX6_load_37 : decode cX6_load 37 = .ok (.iload_n 1, 1) := by decide +kernel
theorem dX6_load_38 : decode cX6_load 38 = .ok (.aload_n 0, 1) := by decide +kernel
theorem dX6_load_39 : decode cX6_load 39 = .ok (.getfield 37, 3) := by decide +kernel
theorem dX6_load_42 : decode cX6_load 42 = .ok (.getfield 76, 3) := by decide +kernel
theorem dX6_load_45 : decode cX6_load 45 = .ok (.iload_n 1, 1) := by decide +kernel
theorem dX6_load_46 : decode cX6_load 46 = .ok (.iaload, 1) := by decide +kernel
theorem dX6_load_47 : decode cX6_load 47 = .ok (.iastore, 1) := by decide +kernel
theorem dX6_load_48 : decode cX6_load 48 = .ok (.aload_n 0, 1) := by decide +kernel
theorem dX6_load_49 : decode cX6_load 49 = .ok (.getfield 19, 3) := by decide +kernel
theorem dX6_load_52 : decode cX6_load 52 = .ok (.iload_n 1, 1) := by decide +kernel
theorem dX6_load_53 : decode cX6_load 53 = .ok (.aload_n 0, 1) := by decide +kernel
theorem dX6_load_54 : decode cX6_load 54 = .ok (.getfield 37, 3) := by decide +kernel
theorem dX6_load_57 : decode cX6_load 57 = .ok (.getfield 79, 3) := by decide +kernel
theorem dX6_load_60 : decode cX6_load 60 = .ok (.iload_n 1, 1) := by decide +kernel
theorem dX6_load_61 : decode cX6_load 61 = .ok (.iaload, 1) := by decide +kernel
theorem dX6_load_62 : decode cX6_load 62 = .ok (.iastore, 1) := by decide +kernel
theorem dX6_load_63 : decode cX6_load 63 = .ok (.aload_n 0, 1) := by decide +kernel
theorem dX6_load_64 : decode cX6_load 64 = .ok (.getfield 22, 3) := by decide +kernel
theorem dX6_load_67 : decode cX6_load 67 = .ok (.iload_n 1, 1) := by decide +kernel
theorem dX6_load_68 : decode cX6_load 68 = .ok (.aload_n 0, 1) := by decide +kernel
theorem dX6_load_69 : decode cX6_load 69 = .ok (.getfield 37, 3) := by decide +kernel
theorem dX6_load_72 : decode cX6_load 72 = .ok (.getfield 82, 3) := by decide +kernel
theorem dX6_load_75 : decode cX6_load 75 = .ok (.iload_n 1, 1) := by decide +kernel
theorem dX6_load_76 : decode cX6_load 76 = .ok (.iaload, 1) := by decide +kernel
theorem dX6_load_77 : decode cX6_load 77 = .ok (.iastore, 1) := by decide +kernel
theorem dX6_load_78 : decode cX6_load 78 = .ok (.aload_n 0, 1) := by decide +kernel
theorem dX6_load_79 : decode cX6_load 79 = .ok (.getfield 25, 3) := by decide +kernel
theorem dX6_load_82 : decode cX6_load 82 = .ok (.aload_n 0, 1) := by decide +kernel
theorem dX6_load_83 : decode cX6_load 83 = .ok (.getfield 37, 3) := by decide +kernel
theorem dX6_load_86 : decode cX6_load 86 = .ok (.getfield 83, 3) := by decide +kernel
theorem dX6_load_89 : decode cX6_load 89 = .ok (.iload_n 1, 1) := by decide +kernel
theorem dX6_load_90 : decode cX6_load 90 = .ok (.iaload, 1) := by decide +kernel
theorem dX6_load_91 : decode cX6_load 91 = .ok (.dup2, 1) := by decide +kernel
theorem dX6_load_92 : decode cX6_load 92 = .ok (.iaload, 1) := by decide +kernel
theorem dX6_load_93 : decode cX6_load 93 = .ok (.iconst 1, 1) := by decide +kernel
theorem dX6_load_94 : decode cX6_load 94 = .ok (.iload_n 1, 1) := by decide +kernel
theorem dX6_load_95 : decode cX6_load 95 = .ok (.ishl, 1) := by decide +kernel
theorem dX6_load_96 : decode cX6_load 96 = .ok (.ior, 1) := by decide +kernel
theorem dX6_load_97 : decode cX6_load 97 = .ok (.iastore, 1) := by decide +kernel
theorem dX6_load_98 : decode cX6_load 98 = .ok (.iinc 1 1, 3) := by decide +kernel
theorem dX6_load_101 : decode cX6_load 101 = .ok (.goto (-79), 3) := by decide +kernel
theorem dX6_load_104 : decode cX6_load 104 = .ok (.return_, 1) := by decide +kernel
set_option maxRecDepth 20000 in
theorem ggX6_followRows_X7_contains : GoodIn wsX6_followRows wsX7_contains := goodIn_r _ [6] (by decide +kernel) (by decide +kernel)
set_option maxRecDepth 20000 in
theorem gX6_followRows_X7_contains_n86 : GoodIn wsX6_followRows (wsX7_contains) := ggX6_followRows_X7_contains
set_option maxRecDepth 20000 in
theorem ggX6_followRows_X6_putBehind : GoodIn wsX6_followRows wsX6_putBehind := goodIn_r _ [11, 3, 12, 13, 14, 15, 16, 17, 18, 19, 20] (by decide +kernel) (by decide +kernel)
set_option maxRecDepth 20000 in
theorem gX6_followRows_X6_putBehind : GoodIn wsX6_followRows (wsV RX6 90 RX6 yX6_putBehind wsX6_putBehind) := goodIn_app (goodIn_of _ (by decide +kernel)) ggX6_followRows_X6_putBehind
theorem dX6_followRows_0 : decode cX6_followRows 0 = .ok (.iconst 0, 1) := by decide +kernel
theorem dX6_followRows_1 : decode cX6_followRows 1 = .ok (.istore_n 1, 1) := by decide +kernel
theorem dX6_followRows_2 : decode cX6_followRows 2 = .ok (.iconst 0, 1) := by decide +kernel
theorem dX6_followRows_3 : decode cX6_followRows 3 = .ok (.istore_n 2, 1) := by decide +kernel
theorem dX6_followRows_4 : decode cX6_followRows 4 = .ok (.iload_n 2, 1) := by decide +kernel
theorem dX6_followRows_5 : decode cX6_followRows 5 = .ok (.aload_n 0, 1) := by decide +kernel
theorem dX6_followRows_6 : decode cX6_followRows 6 = .ok (.getfield 37, 3) := by decide +kernel
theorem dX6_followRows_9 : decode cX6_followRows 9 = .ok (.getfield 70, 3) := by decide +kernel
theorem dX6_followRows_12 : decode cX6_followRows 12 = .ok (.if_icmp .ge 65, 3) := by decide +kernel
theorem dX6_followRows_15 : decode cX6_followRows 15 = .ok (.iconst 0, 1) := by decide +kernel
theorem dX6_followRows_16 : decode cX6_followRows 16 = .ok (.istore_n 3, 1) := by decide +kernel
theorem dX6_followRows_17 : decode cX6_followRows 17 = .ok (.iload_n 3, 1) := by decide +kernel
theorem dX6_followRows_18 : decode cX6_followRows 18 = .ok (.aload_n 0, 1) := by decide +kernel
theorem dX6_followRows_19 : decode cX6_followRows 19 = .ok (.getfield 37, 3) := by decide +kernel
theorem dX6_followRows_22 : decode cX6_followRows 22 = .ok (.getfield 70, 3) := by decide +kernel
theorem dX6_followRows_25 : decode cX6_followRows 25 = .ok (.if_icmp .ge 46, 3) := by decide +kernel
theorem dX6_followRows_28 : decode cX6_followRows 28 = .ok (.aload_n 0, 1) := by decide +kernel
theorem dX6_followRows_29 : decode cX6_followRows 29 = .ok (.getfield 22, 3) := by decide +kernel
theorem dX6_followRows_32 : decode cX6_followRows 32 = .ok (.iload_n 3, 1) := by decide +kernel
theorem dX6_followRows_33 : decode cX6_followRows 33 = .ok (.iaload, 1) := by decide +kernel
theorem dX6_followRows_34 : decode cX6_followRows 34 = .ok (.iload_n 2, 1) := by decide +kernel
theorem dX6_followRows_35 : decode cX6_followRows 35 = .ok (.invokestatic 86, 3) := by decide +kernel
theorem dX6_followRows_38 : decode cX6_followRows 38 = .ok (.ifCond .eq 27, 3) := by decide +kernel
theorem dX6_followRows_41 : decode cX6_followRows 41 = .ok (.aload_n 0, 1) := by decide +kernel
theorem dX6_followRows_42 : decode cX6_followRows 42 = .ok (.iload_n 3, 1) := by decide +kernel
theorem dX6_followRows_43 : decode cX6_followRows 43 = .ok (.aload_n 0, 1) := by decide +kernel
theorem dX6_followRows_44 : decode cX6_followRows 44 = .ok (.getfield 22, 3) := by decide +kernel
theorem dX6_followRows_47 : decode cX6_followRows 47 = .ok (.iload_n 2, 1) := by decide +kernel
theorem dX6_followRows_48 : decode cX6_followRows 48 = .ok (.iaload, 1) := by decide +kernel
theorem dX6_followRows_49 : decode cX6_followRows 49 = .ok (.invokevirtual 90, 3) := by decide +kernel
theorem dX6_followRows_52 : decode cX6_followRows 52 = .ok (.ifCond .ne 7, 3) := by decide +kernel
theorem dX6_followRows_55 : decode cX6_followRows 55 = .ok (.iload_n 1, 1) := by decide +kernel
theorem dX6_followRows_56 : decode cX6_followRows 56 = .ok (.ifCond .eq 7, 3) := by decide +kernel
theorem dX6_followRows_59 : decode cX6_followRows 59 = .ok (.iconst 1, 1) := by decide +kernel
theorem dX6_followRows_60 : decode cX6_followRows 60 = .ok (.goto 4, 3) := by decide +kernel
theorem dX6_followRows_63 : decode cX6_followRows 63 = .ok (.iconst 0, 1) := by decide +kernel
theorem dX6_followRows_64 : decode cX6_followRows 64 = .ok (.istore_n 1, 1) := by decide +kernel
theorem dX6_followRows_65 : decode cX6_followRows 65 = .ok (.iinc 3 1, 3) := by decide +kernel
theorem dX6_followRows_68 : decode cX6_followRows 68 = .ok (.goto (-51), 3) := by decide +kernel
theorem dX6_followRows_71 : decode cX6_followRows 71 = .ok (.iinc 2 1, 3) := by decide +kernel
theorem dX6_followRows_74 : decode cX6_followRows 74 = .ok (.goto (-70), 3) := by decide +kernel
theorem dX6_followRows_77 : decode cX6_followRows 77 = .ok (.iload_n 1, 1) := by decide +kernel
theorem dX6_followRows_78 : decode cX6_followRows 78 = .ok (.ireturn, 1) := by decide +kernel
set_option maxRecDepth 20000 in
theorem ggX6_orderByPairs_X6_pairTells : GoodIn wsX6_orderByPairs wsX6_pairTells := goodIn_r _ [7, 1, 8, 9, 10, 11, 17, 18, 19, 20, 21, 22, 23, 24, 25, 26, 27, 28, 29, 30, 31, 32, 33] (by decide +kernel) (by decide +kernel)
set_option maxRecDepth 20000 in
theorem gX6_orderByPairs_X6_pairTells : GoodIn wsX6_orderByPairs (wsV RX6 93 RX6 yX6_pairTells wsX6_pairTells) := goodIn_app (goodIn_of _ (by decide +kernel)) ggX6_orderByPairs_X6_pairTells
set_option maxRecDepth 20000 in
theorem ggX6_orderByPairs_X6_putBehind : GoodIn wsX6_orderByPairs wsX6_putBehind := goodIn_r _ [15, 16, 17, 18, 19, 20, 21, 22, 23, 24, 25] (by decide +kernel) (by decide +kernel)
set_option maxRecDepth 20000 in
theorem gX6_orderByPairs_X6_putBehind : GoodIn wsX6_orderByPairs (wsV RX6 90 RX6 yX6_putBehind wsX6_putBehind) := goodIn_app (goodIn_of _ (by decide +kernel)) ggX6_orderByPairs_X6_putBehind
theorem dX6_orderByPairs_0 : decode cX6_orderByPairs 0 = .ok (.iconst 0, 1) := by decide +kernel
theorem dX6_orderByPairs_1 : decode cX6_orderByPairs 1 = .ok (.istore_n 1, 1) := by decide +kernel
theorem dX6_orderByPairs_2 : decode cX6_orderByPairs 2 = .ok (.iconst 0, 1) := by decide +kernel
theorem dX6_orderByPairs_3 : decode cX6_orderByPairs 3 = .ok (.istore_n 2, 1) := by decide +kernel
theorem dX6_orderByPairs_4 : decode cX6_orderByPairs 4 = .ok (.iload_n 2, 1) := by decide +kernel
theorem dX6_orderByPairs_5 : decode cX6_orderByPairs 5 = .ok (.aload_n 0, 1) := by decide +kernel
theorem dX6_orderByPairs_6 : decode cX6_orderByPairs 6 = .ok (.getfield 37, 3) := by decide +kernel
theorem dX6_orderByPairs_9 : decode cX6_orderByPairs 9 = .ok (.getfield 70, 3) := by decide +kernel
theorem dX6_orderByPairs_12 : decode cX6_orderByPairs 12 = .ok (.if_icmp .ge 58, 3) := by decide +kernel
theorem dX6_orderByPairs_15 : decode cX6_orderByPairs 15 = .ok (.iconst 0, 1) := by decide +kernel
theorem dX6_orderByPairs_16 : decode cX6_orderByPairs 16 = .ok (.istore_n 3, 1) := by decide +kernel
theorem dX6_orderByPairs_17 : decode cX6_orderByPairs 17 = .ok (.iload_n 3, 1) := by decide +kernel
theorem dX6_orderByPairs_18 : decode cX6_orderByPairs 18 = .ok (.aload_n 0, 1) := by decide +kernel
theorem dX6_orderByPairs_19 : decode cX6_orderByPairs 19 = .ok (.getfield 37, 3) := by decide +kernel
theorem dX6_orderByPairs_22 : decode cX6_orderByPairs 22 = .ok (.getfield 70, 3) := by decide +kernel
theorem dX6_orderByPairs_25 : decode cX6_orderByPairs 25 = .ok (.if_icmp .ge 39, 3) := by decide +kernel
theorem dX6_orderByPairs_28 : decode cX6_orderByPairs 28 = .ok (.aload_n 0, 1) := by decide +kernel
theorem dX6_orderByPairs_29 : decode cX6_orderByPairs 29 = .ok (.iload_n 2, 1) := by decide +kernel
theorem dX6_orderByPairs_30 : decode cX6_orderByPairs 30 = .ok (.iload_n 3, 1) := by decide +kernel
theorem dX6_orderByPairs_31 : decode cX6_orderByPairs 31 = .ok (.invokevirtual 93, 3) := by decide +kernel
theorem dX6_orderByPairs_34 : decode cX6_orderByPairs 34 = .ok (.ifCond .eq 24, 3) := by decide +kernel
theorem dX6_orderByPairs_37 : decode cX6_orderByPairs 37 = .ok (.aload_n 0, 1) := by decide +kernel
theorem dX6_orderByPairs_38 : decode cX6_orderByPairs 38 = .ok (.iload_n 2, 1) := by decide +kernel
theorem dX6_orderByPairs_39 : decode cX6_orderByPairs 39 = .ok (.iconst 1, 1) := by decide +kernel
theorem dX6_orderByPairs_40 : decode cX6_orderByPairs 40 = .ok (.iload_n 3, 1) := by decide +kernel
theorem dX6_orderByPairs_41 : decode cX6_orderByPairs 41 = .ok (.ishl, 1) := by decide +kernel
theorem dX6_orderByPairs_42 : decode cX6_orderByPairs 42 = .ok (.invokevirtual 90, 3) := by decide +kernel
theorem dX6_orderByPairs_45 : decode cX6_orderByPairs 45 = .ok (.ifCond .ne 7, 3) := by decide +kernel
theorem dX6_orderByPairs_48 : decode cX6_orderByPairs 48 = .ok (.iload_n 1, 1) := by decide +kernel
theorem dX6_orderByPairs_49 : decode cX6_orderByPairs 49 = .ok (.ifCond .eq 7, 3) := by decide +kernel
theorem dX6_orderByPairs_52 : decode cX6_orderByPairs 52 = .ok (.iconst 1, 1) := by decide +kernel
theorem dX6_orderByPairs_53 : decode cX6_orderByPairs 53 = .ok (.goto 4, 3) := by decide +kernel
theorem dX6_orderByPairs_56 : decode cX6_orderByPairs 56 = .ok (.iconst 0, 1) := by decide +kernel
theorem dX6_orderByPairs_57 : decode cX6_orderByPairs 57 = .ok (.istore_n 1, 1) := by decide +kernel
theorem dX6_orderByPairs_58 : decode cX6_orderByPairs 58 = .ok (.iinc 3 1, 3) := by decide +kernel
theorem dX6_orderByPairs_61 : decode cX6_orderByPairs 61 = .ok (.goto (-44), 3) := by decide +kernel
theorem dX6_orderByPairs_64 : decode cX6_orderByPairs 64 = .ok (.iinc 2 1, 3) := by decide +kernel
theorem dX6_orderByPairs_67 : decode cX6_orderByPairs 67 = .ok (.goto (-63), 3) := by decide +kernel
theorem dX6_orderByPairs_70 : decode cX6_orderByPairs 70 = .ok (.iload_n 1, 1) := by decide +kernel
theorem dX6_orderByPairs_71 : decode cX6_orderByPairs 71 = .ok (.ireturn, 1) := by decide +kernel
set_option maxRecDepth 20000 in
theorem ggX6_orderBySets_X6_setTellsBefore : GoodIn wsX6_orderBySets wsX6_setTellsBefore := goodIn_r _ [9, 10, 11, 12, 29, 30, 31, 32, 33, 34, 35, 36, 37] (by decide +kernel) (by decide +kernel)
set_option maxRecDepth 20000 in
theorem gX6_orderBySets_X6_setTellsBefore : GoodIn wsX6_orderBySets (wsV RX6 96 RX6 yX6_setTellsBefore wsX6_setTellsBefore) := goodIn_app (goodIn_of _ (by decide +kernel)) ggX6_orderBySets_X6_setTellsBefore
set_option maxRecDepth 20000 in
theorem ggX6_orderBySets_X6_putBehindAll : GoodIn wsX6_orderBySets wsX6_putBehindAll := goodIn_r _ [16, 1, 2, 17, 18, 19, 20, 21, 22, 8, 23, 24, 29, 30, 31, 32, 33, 34, 35, 36, 37, 38, 39, 40, 41, 42, 43, 44, 45] (by decide +kernel) (by decide +kernel)
set_option maxRecDepth 20000 in
theorem gX6_orderBySets_X6_putBehindAll : GoodIn wsX6_orderBySets (wsV RX6 99 RX6 yX6_putBehindAll wsX6_putBehindAll) := goodIn_app (goodIn_of _ (by decide +kernel)) ggX6_orderBySets_X6_putBehindAll
set_option maxRecDepth 20000 in
theorem ggX6_orderBySets_X6_setTellsBehind : GoodIn wsX6_orderBySets wsX6_setTellsBehind := goodIn_r _ [28, 10, 11, 12, 29, 30, 31, 32, 33, 34, 35, 36, 37] (by decide +kernel) (by decide +kernel)
set_option maxRecDepth 20000 in
theorem gX6_orderBySets_X6_setTellsBehind : GoodIn wsX6_orderBySets (wsV RX6 102 RX6 yX6_setTellsBehind wsX6_setTellsBehind) := goodIn_app (goodIn_of _ (by decide +kernel)) ggX6_orderBySets_X6_setTellsBehind
set_option maxRecDepth 20000 in
theorem ggX6_orderBySets_X6_putBehind : GoodIn wsX6_orderBySets wsX6_putBehind := goodIn_r _ [23, 24, 29, 30, 31, 32, 33, 34, 35, 36, 37] (by decide +kernel) (by decide +kernel)
set_option maxRecDepth 20000 in
theorem gX6_orderBySets_X6_putBehind : GoodIn wsX6_orderBySets (wsV RX6 90 RX6 yX6_putBehind wsX6_putBehind) := goodIn_app (goodIn_of _ (by decide +kernel)) ggX6_orderBySets_X6_putBehind
theorem dX6_orderBySets_0 : decode cX6_orderBySets 0 = .ok (.iconst 0, 1) := by decide +kernel
theorem dX6_orderBySets_1 : decode cX6_orderBySets 1 = .ok (.istore_n 1, 1) := by decide +kernel
theorem dX6_orderBySets_2 : decode cX6_orderBySets 2 = .ok (.iconst 0, 1) := by decide +kernel
theorem dX6_orderBySets_3 : decode cX6_orderBySets 3 = .ok (.istore_n 2, 1) := by decide +kernel
theorem dX6_orderBySets_4 : decode cX6_orderBySets 4 = .ok (.iload_n 2, 1) := by decide +kernel
theorem dX6_orderBySets_5 : decode cX6_orderBySets 5 = .ok (.aload_n 0, 1) := by decide +kernel
theorem dX6_orderBySets_6 : decode cX6_orderBySets 6 = .ok (.getfield 37, 3) := by decide +kernel
theorem dX6_orderBySets_9 : decode cX6_orderBySets 9 = .ok (.getfield 70, 3) := by decide +kernel
theorem dX6_orderBySets_12 : decode cX6_orderBySets 12 = .ok (.if_icmp .ge 117, 3) := by decide +kernel
theorem dX6_orderBySets_15 : decode cX6_orderBySets 15 = .ok (.aload_n 0, 1) := by decide +kernel
theorem dX6_orderBySets_16 : decode cX6_orderBySets 16 = .ok (.getfield 25, 3) := by decide +kernel
theorem dX6_orderBySets_19 : decode cX6_orderBySets 19 = .ok (.aload_n 0, 1) := by decide +kernel
theorem dX6_orderBySets_20 : decode cX6_orderBySets 20 = .ok (.getfield 37, 3) := by decide +kernel
theorem dX6_orderBySets_23 : decode cX6_orderBySets 23 = .ok (.getfield 83, 3) := by decide +kernel
theorem dX6_orderBySets_26 : decode cX6_orderBySets 26 = .ok (.iload_n 2, 1) := by decide +kernel
theorem dX6_orderBySets_27 : decode cX6_orderBySets 27 = .ok (.iaload, 1) := by decide +kernel
theorem dX6_orderBySets_28 : decode cX6_orderBySets 28 = .ok (.iaload, 1) := by decide +kernel
theorem dX6_orderBySets_29 : decode cX6_orderBySets 29 = .ok (.iconst 1, 1) := by decide +kernel
theorem dX6_orderBySets_30 : decode cX6_orderBySets 30 = .ok (.iload_n 2, 1) := by decide +kernel
theorem dX6_orderBySets_31 : decode cX6_orderBySets 31 = .ok (.ishl, 1) := by decide +kernel
theorem dX6_orderBySets_32 : decode cX6_orderBySets 32 = .ok (.iconst (-1), 1) := by decide +kernel
theorem dX6_orderBySets_33 : decode cX6_orderBySets 33 = .ok (.ixor, 1) := by decide +kernel
theorem dX6_orderBySets_34 : decode cX6_orderBySets 34 = .ok (.iand, 1) := by decide +kernel
theorem dX6_orderBySets_35 : decode cX6_orderBySets 35 = .ok (.istore_n 3, 1) := by decide +kernel
theorem dX6_orderBySets_36 : decode cX6_orderBySets 36 = .ok (.iconst 1, 1) := by decide +kernel
theorem dX6_orderBySets_37 : decode cX6_orderBySets 37 = .ok (.istore 4, 2) := by decide +kernel
theorem dX6_orderBySets_39 : decode cX6_orderBySets 39 = .ok (.iload 4, 2) := by decide +kernel
theorem dX6_orderBySets_41 : decode cX6_orderBySets 41 = .ok (.iload_n 3, 1) := by decide +kernel
theorem dX6_orderBySets_42 : decode cX6_orderBySets 42 = .ok (.if_icmp .gt 81, 3) := by decide +kernel
theorem dX6_orderBySets_45 : decode cX6_orderBySets 45 = .ok (.iload 4, 2) := by decide +kernel
theorem dX6_orderBySets_47 : decode cX6_orderBySets 47 = .ok (.iload_n 3, 1) := by decide +kernel
theorem dX6_orderBySets_48 : decode cX6_orderBySets 48 = .ok (.iconst (-1), 1) := by decide +kernel
theorem dX6_orderBySets_49 : decode cX6_orderBySets 49 = .ok (.ixor, 1) := by decide +kernel
theorem dX6_orderBySets_50 : decode cX6_orderBySets 50 = .ok (.iand, 1) := by decide +kernel
theorem dX6_orderBySets_51 : decode cX6_orderBySets 51 = .ok (.ifCond .eq 6, 3) := by decide +kernel
theorem dX6_orderBySets_54 : decode cX6_orderBySets 54 = .ok (.goto 63, 3) := by decide +kernel
theorem dX6_orderBySets_57 : decode cX6_orderBySets 57 = .ok (.aload_n 0, 1) := by decide +kernel
theorem dX6_orderBySets_58 : decode cX6_orderBySets 58 = .ok (.iload 4, 2) := by decide +kernel
theorem dX6_orderBySets_60 : decode cX6_orderBySets 60 = .ok (.iload_n 2, 1) := by decide +kernel
theorem dX6_orderBySets_61 : decode cX6_orderBySets 61 = .ok (.invokevirtual 96, 3) := by decide +kernel
theorem dX6_orderBySets_64 : decode cX6_orderBySets 64 = .ok (.ifCond .eq 23, 3) := by decide +kernel
theorem dX6_orderBySets_67 : decode cX6_orderBySets 67 = .ok (.aload_n 0, 1) := by decide +kernel
theorem dX6_orderBySets_68 : decode cX6_orderBySets 68 = .ok (.iload 4, 2) := by decide +kernel
theorem dX6_orderBySets_70 : decode cX6_orderBySets 70 = .ok (.iload_n 2, 1) := by decide +kernel
theorem dX6_orderBySets_71 : decode cX6_orderBySets 71 = .ok (.invokevirtual 99, 3) := by decide +kernel
theorem dX6_orderBySets_74 : decode cX6_orderBySets 74 = .ok (.ifCond .ne 7, 3) := by decide +kernel
theorem dX6_orderBySets_77 : decode cX6_orderBySets 77 = .ok (.iload_n 1, 1) := by decide +kernel
theorem dX6_orderBySets_78 : decode cX6_orderBySets 78 = .ok (.ifCond .eq 7, 3) := by decide +kernel
theorem dX6_orderBySets_81 : decode cX6_orderBySets 81 = .ok (.iconst 1, 1) := by decide +kernel
theorem dX6_orderBySets_82 : decode cX6_orderBySets 82 = .ok (.goto 4, 3) := by decide +kernel
theorem dX6_orderBySets_85 : decode cX6_orderBySets 85 = .ok (.iconst 0, 1) := by decide +kernel
theorem dX6_orderBySets_86 : decode cX6_orderBySets 86 = .ok (.istore_n 1, 1) := by decide +kernel
theorem dX6_orderBySets_87 : decode cX6_orderBySets 87 = .ok (.aload_n 0, 1) := by decide +kernel
theorem dX6_orderBySets_88 : decode cX6_orderBySets 88 = .ok (.iload 4, 2) := by decide +kernel
theorem dX6_orderBySets_90 : decode cX6_orderBySets 90 = .ok (.iload_n 2, 1) := by decide +kernel
theorem dX6_orderBySets_91 : decode cX6_orderBySets 91 = .ok (.invokevirtual 102, 3) := by decide +kernel
theorem dX6_orderBySets_94 : decode cX6_orderBySets 94 = .ok (.ifCond .eq 23, 3) := by decide +kernel
theorem dX6_orderBySets_97 : decode cX6_orderBySets 97 = .ok (.aload_n 0, 1) := by decide +kernel
theorem dX6_orderBySets_98 : decode cX6_orderBySets 98 = .ok (.iload_n 2, 1) := by decide +kernel
theorem dX6_orderBySets_99 : decode cX6_orderBySets 99 = .ok (.iload 4, 2) := by decide +kernel
theorem dX6_orderBySets_101 : decode cX6_orderBySets 101 = .ok (.invokevirtual 90, 3) := by decide +kernel
theorem dX6_orderBySets_104 : decode cX6_orderBySets 104 = .ok (.ifCond .ne 7, 3) := by decide +kernel
theorem dX6_orderBySets_107 : decode cX6_orderBySets 107 = .ok (.iload_n 1, 1) := by decide +kernel
theorem dX6_orderBySets_108 : decode cX6_orderBySets 108 = .ok (.ifCond .eq 7, 3) := by decide +kernel
theorem dX6_orderBySets_111 : decode cX6_orderBySets 111 = .ok (.iconst 1, 1) := by decide +kernel
theorem dX6_orderBySets_112 : decode cX6_orderBySets 112 = .ok (.goto 4, 3) := by decide +kernel
theorem dX6_orderBySets_115 : decode cX6_orderBySets 115 = .ok (.iconst 0, 1) := by decide +kernel
theorem dX6_orderBySets_116 : decode cX6_orderBySets 116 = .ok (.istore_n 1, 1) := by decide +kernel
theorem dX6_orderBySets_117 : decode cX6_orderBySets 117 = .ok (.iinc 4 1, 3) := by decide +kernel
theorem dX6_orderBySets_120 : decode cX6_orderBySets 120 = .ok (.goto (-81), 3) := by decide +kernel
theorem dX6_orderBySets_123 : decode cX6_orderBySets 123 = .ok (.iinc 2 1, 3) := by decide +kernel
theorem dX6_orderBySets_126 : decode cX6_orderBySets 126 = .ok (.goto (-122), 3) := by decide +kernel
theorem dX6_orderBySets_129 : decode cX6_orderBySets 129 = .ok (.iload_n 1, 1) := by decide +kernel
theorem dX6_orderBySets_130 : decode cX6_orderBySets 130 = .ok (.ireturn, 1) := by decide +kernel
set_option maxRecDepth 20000 in
theorem ggX6_raiseFirsts_X6_aheadOf : GoodIn wsX6_raiseFirsts wsX6_aheadOf := goodIn_r _ [10, 1, 2, 11, 12, 13, 14, 15, 16, 17, 18, 19, 20, 21, 22, 23, 24, 25, 26, 27, 28, 29, 30, 31] (by decide +kernel) (by decide +kernel)
set_option maxRecDepth 20000 in
theorem gX6_raiseFirsts_X6_aheadOf : GoodIn wsX6_raiseFirsts (wsV RX6 105 RX6 yX6_aheadOf wsX6_aheadOf) := goodIn_app (goodIn_of _ (by decide +kernel)) ggX6_raiseFirsts_X6_aheadOf
set_option maxRecDepth 20000 in
theorem ggX6_raiseFirsts_X7_contains : GoodIn wsX6_raiseFirsts wsX7_contains := goodIn_r _ [14] (by decide +kernel) (by decide +kernel)
set_option maxRecDepth 20000 in
theorem gX6_raiseFirsts_X7_contains_n86 : GoodIn wsX6_raiseFirsts (wsX7_contains) := ggX6_raiseFirsts_X7_contains
theorem dX6_raiseFirsts_0 : decode cX6_raiseFirsts 0 = .ok (.iconst 0, 1) := by decide +kernel
theorem dX6_raiseFirsts_1 : decode cX6_raiseFirsts 1 = .ok (.istore_n 1, 1) := by decide +kernel
theorem dX6_raiseFirsts_2 : decode cX6_raiseFirsts 2 = .ok (.iconst 0, 1) := by decide +kernel
theorem dX6_raiseFirsts_3 : decode cX6_raiseFirsts 3 = .ok (.istore_n 2, 1) := by decide +kernel
theorem dX6_raiseFirsts_4 : decode cX6_raiseFirsts 4 = .ok (.iload_n 2, 1) := by decide +kernel
theorem dX6_raiseFirsts_5 : decode cX6_raiseFirsts 5 = .ok (.aload_n 0, 1) := by decide +kernel
theorem dX6_raiseFirsts_6 : decode cX6_raiseFirsts 6 = .ok (.getfield 37, 3) := by decide +kernel
theorem dX6_raiseFirsts_9 : decode cX6_raiseFirsts 9 = .ok (.getfield 70, 3) := by decide +kernel
theorem dX6_raiseFirsts_12 : decode cX6_raiseFirsts 12 = .ok (.if_icmp .ge 173, 3) := by decide +kernel
theorem dX6_raiseFirsts_15 : decode cX6_raiseFirsts 15 = .ok (.aload_n 0, 1) := by decide +kernel
theorem dX6_raiseFirsts_16 : decode cX6_raiseFirsts 16 = .ok (.iload_n 2, 1) := by decide +kernel
theorem dX6_raiseFirsts_17 : decode cX6_raiseFirsts 17 = .ok (.invokevirtual 105, 3) := by decide +kernel
theorem dX6_raiseFirsts_20 : decode cX6_raiseFirsts 20 = .ok (.istore_n 3, 1) := by decide +kernel
theorem dX6_raiseFirsts_21 : decode cX6_raiseFirsts 21 = .ok (.iconst 0, 1) := by decide +kernel
theorem dX6_raiseFirsts_22 : decode cX6_raiseFirsts 22 = .ok (.istore 4, 2) := by decide +kernel
theorem dX6_raiseFirsts_24 : decode cX6_raiseFirsts 24 = .ok (.iload 4, 2) := by decide +kernel
theorem dX6_raiseFirsts_26 : decode cX6_raiseFirsts 26 = .ok (.aload_n 0, 1) := by decide +kernel
theorem dX6_raiseFirsts_27 : decode cX6_raiseFirsts 27 = .ok (.getfield 37, 3) := by decide +kernel
theorem dX6_raiseFirsts_30 : decode cX6_raiseFirsts 30 = .ok (.getfield 70, 3) := by decide +kernel
theorem dX6_raiseFirsts_33 : decode cX6_raiseFirsts 33 = .ok (.if_icmp .ge 146, 3) := by decide +kernel
theorem dX6_raiseFirsts_36 : decode cX6_raiseFirsts 36 = .ok (.iload_n 3, 1) := by decide +kernel
theorem dX6_raiseFirsts_37 : decode cX6_raiseFirsts 37 = .ok (.iload 4, 2) := by decide +kernel
theorem dX6_raiseFirsts_39 : decode cX6_raiseFirsts 39 = .ok (.invokestatic 86, 3) := by decide +kernel
theorem dX6_raiseFirsts_42 : decode cX6_raiseFirsts 42 = .ok (.ifCond .ne 6, 3) := by decide +kernel
theorem dX6_raiseFirsts_45 : decode cX6_raiseFirsts 45 = .ok (.goto 128, 3) := by decide +kernel
theorem dX6_raiseFirsts_48 : decode cX6_raiseFirsts 48 = .ok (.iconst 0, 1) := by decide +kernel
theorem dX6_raiseFirsts_49 : decode cX6_raiseFirsts 49 = .ok (.istore 5, 2) := by decide +kernel
theorem dX6_raiseFirsts_51 : decode cX6_raiseFirsts 51 = .ok (.iconst 0, 1) := by decide +kernel
theorem dX6_raiseFirsts_52 : decode cX6_raiseFirsts 52 = .ok (.istore 6, 2) := by decide +kernel
theorem dX6_raiseFirsts_54 : decode cX6_raiseFirsts 54 = .ok (.iload 6, 2) := by decide +kernel
theorem dX6_raiseFirsts_56 : decode cX6_raiseFirsts 56 = .ok (.aload_n 0, 1) := by decide +kernel
theorem dX6_raiseFirsts_57 : decode cX6_raiseFirsts 57 = .ok (.getfield 37, 3) := by decide +kernel
theorem dX6_raiseFirsts_60 : decode cX6_raiseFirsts 60 = .ok (.getfield 70, 3) := by decide +kernel
theorem dX6_raiseFirsts_63 : decode cX6_raiseFirsts 63 = .ok (.if_icmp .ge 73, 3) := by decide +kernel
theorem dX6_raiseFirsts_66 : decode cX6_raiseFirsts 66 = .ok (.iload_n 3, 1) := by decide +kernel
theorem dX6_raiseFirsts_67 : decode cX6_raiseFirsts 67 = .ok (.iload 6, 2) := by decide +kernel
theorem dX6_raiseFirsts_69 : decode cX6_raiseFirsts 69 = .ok (.invokestatic 86, 3) := by decide +kernel
theorem dX6_raiseFirsts_72 : decode cX6_raiseFirsts 72 = .ok (.ifCond .eq 58, 3) := by decide +kernel
theorem dX6_raiseFirsts_75 : decode cX6_raiseFirsts 75 = .ok (.aload_n 0, 1) := by decide +kernel
theorem dX6_raiseFirsts_76 : decode cX6_raiseFirsts 76 = .ok (.getfield 37, 3) := by decide +kernel
theorem dX6_raiseFirsts_79 : decode cX6_raiseFirsts 79 = .ok (.getfield 83, 3) := by decide +kernel
theorem dX6_raiseFirsts_82 : decode cX6_raiseFirsts 82 = .ok (.iload 6, 2) := by decide +kernel
theorem dX6_raiseFirsts_84 : decode cX6_raiseFirsts 84 = .ok (.iaload, 1) := by decide +kernel
theorem dX6_raiseFirsts_85 : decode cX6_raiseFirsts 85 = .ok (.aload_n 0, 1) := by decide +kernel
theorem dX6_raiseFirsts_86 : decode cX6_raiseFirsts 86 = .ok (.getfield 37, 3) := by decide +kernel
theorem dX6_raiseFirsts_89 : decode cX6_raiseFirsts 89 = .ok (.getfield 83, 3) := by decide +kernel
theorem dX6_raiseFirsts_92 : decode cX6_raiseFirsts 92 = .ok (.iload 4, 2) := by decide +kernel
theorem dX6_raiseFirsts_94 : decode cX6_raiseFirsts 94 = .ok (.iaload, 1) := by decide +kernel
theorem dX6_raiseFirsts_95 : decode cX6_raiseFirsts 95 = .ok (.if_icmp .ne 35, 3) := by decide +kernel
theorem dX6_raiseFirsts_98 : decode cX6_raiseFirsts 98 = .ok (.aload_n 0, 1) := by decide +kernel
theorem dX6_raiseFirsts_99 : decode cX6_raiseFirsts 99 = .ok (.getfield 15, 3) := by decide +kernel
theorem dX6_raiseFirsts_102 : decode cX6_raiseFirsts 102 = .ok (.iload 6, 2) := by decide +kernel
theorem dX6_raiseFirsts_104 : decode cX6_raiseFirsts 104 = .ok (.iaload, 1) := by decide +kernel
theorem dX6_raiseFirsts_105 : decode cX6_raiseFirsts 105 = .ok (.aload_n 0, 1) := by decide +kernel
theorem dX6_raiseFirsts_106 : decode cX6_raiseFirsts 106 = .ok (.getfield 15, 3) := by decide +kernel
theorem dX6_raiseFirsts_109 : decode cX6_raiseFirsts 109 = .ok (.iload 4, 2) := by decide +kernel
theorem dX6_raiseFirsts_111 : decode cX6_raiseFirsts 111 = .ok (.iaload, 1) := by decide +kernel
theorem dX6_raiseFirsts_112 : decode cX6_raiseFirsts 112 = .ok (.if_icmp .lt 18, 3) := by decide +kernel
theorem dX6_raiseFirsts_115 : decode cX6_raiseFirsts 115 = .ok (.iload 5, 2) := by decide +kernel
theorem dX6_raiseFirsts_117 : decode cX6_raiseFirsts 117 = .ok (.aload_n 0, 1) := by decide +kernel
theorem dX6_raiseFirsts_118 : decode cX6_raiseFirsts 118 = .ok (.getfield 37, 3) := by decide +kernel
theorem dX6_raiseFirsts_121 : decode cX6_raiseFirsts 121 = .ok (.getfield 109, 3) := by decide +kernel
theorem dX6_raiseFirsts_124 : decode cX6_raiseFirsts 124 = .ok (.iload 6, 2) := by decide +kernel
theorem dX6_raiseFirsts_126 : decode cX6_raiseFirsts 126 = .ok (.iaload, 1) := by decide +kernel
theorem dX6_raiseFirsts_127 : decode cX6_raiseFirsts 127 = .ok (.iadd, 1) := by decide +kernel
theorem dX6_raiseFirsts_128 : decode cX6_raiseFirsts 128 = .ok (.istore 5, 2) := by decide +kernel
theorem dX6_raiseFirsts_130 : decode cX6_raiseFirsts 130 = .ok (.iinc 6 1, 3) := by decide +kernel
theorem dX6_raiseFirsts_133 : decode cX6_raiseFirsts 133 = .ok (.goto (-79), 3) := by decide +kernel
theorem dX6_raiseFirsts_136 : decode cX6_raiseFirsts 136 = .ok (.aload_n 0, 1) := by decide +kernel
theorem dX6_raiseFirsts_137 : decode cX6_raiseFirsts 137 = .ok (.getfield 15, 3) := by decide +kernel
theorem dX6_raiseFirsts_140 : decode cX6_raiseFirsts 140 = .ok (.iload 4, 2) := by decide +kernel
theorem dX6_raiseFirsts_142 : decode cX6_raiseFirsts 142 = .ok (.iaload, 1) := by decide +kernel
theorem dX6_raiseFirsts_143 : decode cX6_raiseFirsts 143 = .ok (.iload 5, 2) := by decide +kernel
theorem dX6_raiseFirsts_145 : decode cX6_raiseFirsts 145 = .ok (.iadd, 1) := by decide +kernel
theorem dX6_raiseFirsts_146 : decode cX6_raiseFirsts 146 = .ok (.aload_n 0, 1) := by decide +kernel
theorem dX6_raiseFirsts_147 : decode cX6_raiseFirsts 147 = .ok (.getfield 15, 3) := by decide +kernel
theorem dX6_raiseFirsts_150 : decode cX6_raiseFirsts 150 = .ok (.iload_n 2, 1) := by decide +kernel
theorem dX6_raiseFirsts_151 : decode cX6_raiseFirsts 151 = .ok (.iaload, 1) := by decide +kernel
theorem dX6_raiseFirsts_152 : decode cX6_raiseFirsts 152 = .ok (.if_icmp .le 21, 3) := by decide +kernel
theorem dX6_raiseFirsts_155 : decode cX6_raiseFirsts 155 = .ok (.aload_n 0, 1) := by decide +kernel
theorem dX6_raiseFirsts_156 : decode cX6_raiseFirsts 156 = .ok (.getfield 15, 3) := by decide +kernel
theorem dX6_raiseFirsts_159 : decode cX6_raiseFirsts 159 = .ok (.iload_n 2, 1) := by decide +kernel
theorem dX6_raiseFirsts_160 : decode cX6_raiseFirsts 160 = .ok (.aload_n 0, 1) := by decide +kernel
theorem dX6_raiseFirsts_161 : decode cX6_raiseFirsts 161 = .ok (.getfield 15, 3) := by decide +kernel
theorem dX6_raiseFirsts_164 : decode cX6_raiseFirsts 164 = .ok (.iload 4, 2) := by decide +kernel
theorem dX6_raiseFirsts_166 : decode cX6_raiseFirsts 166 = .ok (.iaload, 1) := by decide +kernel
theorem dX6_raiseFirsts_167 : decode cX6_raiseFirsts 167 = .ok (.iload 5, 2) := by decide +kernel
theorem dX6_raiseFirsts_169 : decode cX6_raiseFirsts 169 = .ok (.iadd, 1) := by decide +kernel
theorem dX6_raiseFirsts_170 : decode cX6_raiseFirsts 170 = .ok (.iastore, 1) := by decide +kernel
theorem dX6_raiseFirsts_171 : decode cX6_raiseFirsts 171 = .ok (.iconst 1, 1) := by decide +kernel
theorem dX6_raiseFirsts_172 : decode cX6_raiseFirsts 172 = .ok (.istore_n 1, 1) := by decide +kernel
theorem dX6_raiseFirsts_173 : decode cX6_raiseFirsts 173 = .ok (.iinc 4 1, 3) := by decide +kernel
theorem dX6_raiseFirsts_176 : decode cX6_raiseFirsts 176 = .ok (.goto (-152), 3) := by decide +kernel
theorem dX6_raiseFirsts_179 : decode cX6_raiseFirsts 179 = .ok (.iinc 2 1, 3) := by decide +kernel
theorem dX6_raiseFirsts_182 : decode cX6_raiseFirsts 182 = .ok (.goto (-178), 3) := by decide +kernel
theorem dX6_raiseFirsts_185 : decode cX6_raiseFirsts 185 = .ok (.iload_n 1, 1) := by decide +kernel
theorem dX6_raiseFirsts_186 : decode cX6_raiseFirsts 186 = .ok (.ireturn, 1) := by decide +kernel
set_option maxRecDepth 20000 in
theorem ggX6_lowerLasts_X7_contains : GoodIn wsX6_lowerLasts wsX7_contains := goodIn_r _ [9] (by decide +kernel) (by decide +kernel)
set_option maxRecDepth 20000 in
theorem gX6_lowerLasts_X7_contains_n86 : GoodIn wsX6_lowerLasts (wsX7_contains) := ggX6_lowerLasts_X7_contains
theorem dX6_lowerLasts_0 : decode cX6_lowerLasts 0 = .ok (.iconst 0, 1) := by decide +kernel
theorem dX6_lowerLasts_1 : decode cX6_lowerLasts 1 = .ok (.istore_n 1, 1) := by decide +kernel
theorem dX6_lowerLasts_2 : decode cX6_lowerLasts 2 = .ok (.iconst 0, 1) := by decide +kernel
theorem dX6_lowerLasts_3 : decode cX6_lowerLasts 3 = .ok (.istore_n 2, 1) := by decide +kernel
theorem dX6_lowerLasts_4 : decode cX6_lowerLasts 4 = .ok (.iload_n 2, 1) := by decide +kernel
theorem dX6_lowerLasts_5 : decode cX6_lowerLasts 5 = .ok (.aload_n 0, 1) := by decide +kernel
theorem dX6_lowerLasts_6 : decode cX6_lowerLasts 6 = .ok (.getfield 37, 3) := by decide +kernel
theorem dX6_lowerLasts_9 : decode cX6_lowerLasts 9 = .ok (.getfield 70, 3) := by decide +kernel
theorem dX6_lowerLasts_12 : decode cX6_lowerLasts 12 = .ok (.if_icmp .ge 170, 3) := by decide +kernel
theorem dX6_lowerLasts_15 : decode cX6_lowerLasts 15 = .ok (.iconst 0, 1) := by decide +kernel
theorem dX6_lowerLasts_16 : decode cX6_lowerLasts 16 = .ok (.istore_n 3, 1) := by decide +kernel
theorem dX6_lowerLasts_17 : decode cX6_lowerLasts 17 = .ok (.iload_n 3, 1) := by decide +kernel
theorem dX6_lowerLasts_18 : decode cX6_lowerLasts 18 = .ok (.aload_n 0, 1) := by decide +kernel
theorem dX6_lowerLasts_19 : decode cX6_lowerLasts 19 = .ok (.getfield 37, 3) := by decide +kernel
theorem dX6_lowerLasts_22 : decode cX6_lowerLasts 22 = .ok (.getfield 70, 3) := by decide +kernel
theorem dX6_lowerLasts_25 : decode cX6_lowerLasts 25 = .ok (.if_icmp .ge 151, 3) := by decide +kernel
theorem dX6_lowerLasts_28 : decode cX6_lowerLasts 28 = .ok (.aload_n 0, 1) := by decide +kernel
theorem dX6_lowerLasts_29 : decode cX6_lowerLasts 29 = .ok (.getfield 22, 3) := by decide +kernel
theorem dX6_lowerLasts_32 : decode cX6_lowerLasts 32 = .ok (.iload_n 2, 1) := by decide +kernel
theorem dX6_lowerLasts_33 : decode cX6_lowerLasts 33 = .ok (.iaload, 1) := by decide +kernel
theorem dX6_lowerLasts_34 : decode cX6_lowerLasts 34 = .ok (.iload_n 3, 1) := by decide +kernel
theorem dX6_lowerLasts_35 : decode cX6_lowerLasts 35 = .ok (.invokestatic 86, 3) := by decide +kernel
theorem dX6_lowerLasts_38 : decode cX6_lowerLasts 38 = .ok (.ifCond .ne 6, 3) := by decide +kernel
theorem dX6_lowerLasts_41 : decode cX6_lowerLasts 41 = .ok (.goto 129, 3) := by decide +kernel
theorem dX6_lowerLasts_44 : decode cX6_lowerLasts 44 = .ok (.iconst 0, 1) := by decide +kernel
theorem dX6_lowerLasts_45 : decode cX6_lowerLasts 45 = .ok (.istore 4, 2) := by decide +kernel
theorem dX6_lowerLasts_47 : decode cX6_lowerLasts 47 = .ok (.iconst 0, 1) := by decide +kernel
theorem dX6_lowerLasts_48 : decode cX6_lowerLasts 48 = .ok (.istore 5, 2) := by decide +kernel
theorem dX6_lowerLasts_50 : decode cX6_lowerLasts 50 = .ok (.iload 5, 2) := by decide +kernel
theorem dX6_lowerLasts_52 : decode cX6_lowerLasts 52 = .ok (.aload_n 0, 1) := by decide +kernel
theorem dX6_lowerLasts_53 : decode cX6_lowerLasts 53 = .ok (.getfield 37, 3) := by decide +kernel
theorem dX6_lowerLasts_56 : decode cX6_lowerLasts 56 = .ok (.getfield 70, 3) := by decide +kernel
theorem dX6_lowerLasts_59 : decode cX6_lowerLasts 59 = .ok (.if_icmp .ge 76, 3) := by decide +kernel
theorem dX6_lowerLasts_62 : decode cX6_lowerLasts 62 = .ok (.aload_n 0, 1) := by decide +kernel
theorem dX6_lowerLasts_63 : decode cX6_lowerLasts 63 = .ok (.getfield 22, 3) := by decide +kernel
theorem dX6_lowerLasts_66 : decode cX6_lowerLasts 66 = .ok (.iload_n 2, 1) := by decide +kernel
theorem dX6_lowerLasts_67 : decode cX6_lowerLasts 67 = .ok (.iaload, 1) := by decide +kernel
theorem dX6_lowerLasts_68 : decode cX6_lowerLasts 68 = .ok (.iload 5, 2) := by decide +kernel
theorem dX6_lowerLasts_70 : decode cX6_lowerLasts 70 = .ok (.invokestatic 86, 3) := by decide +kernel
theorem dX6_lowerLasts_73 : decode cX6_lowerLasts 73 = .ok (.ifCond .eq 56, 3) := by decide +kernel
theorem dX6_lowerLasts_76 : decode cX6_lowerLasts 76 = .ok (.aload_n 0, 1) := by decide +kernel
theorem dX6_lowerLasts_77 : decode cX6_lowerLasts 77 = .ok (.getfield 37, 3) := by decide +kernel
theorem dX6_lowerLasts_80 : decode cX6_lowerLasts 80 = .ok (.getfield 83, 3) := by decide +kernel
theorem dX6_lowerLasts_83 : decode cX6_lowerLasts 83 = .ok (.iload 5, 2) := by decide +kernel
theorem dX6_lowerLasts_85 : decode cX6_lowerLasts 85 = .ok (.iaload, 1) := by decide +kernel
theorem dX6_lowerLasts_86 : decode cX6_lowerLasts 86 = .ok (.aload_n 0, 1) := by decide +kernel
theorem dX6_lowerLasts_87 : decode cX6_lowerLasts 87 = .ok (.getfield 37, 3) := by decide +kernel
theorem dX6_lowerLasts_90 : decode cX6_lowerLasts 90 = .ok (.getfield 83, 3) := by decide +kernel
theorem dX6_lowerLasts_93 : decode cX6_lowerLasts 93 = .ok (.iload_n 3, 1) := by decide +kernel
theorem dX6_lowerLasts_94 : decode cX6_lowerLasts 94 = .ok (.iaload, 1) := by decide +kernel
theorem dX6_lowerLasts_95 : decode cX6_lowerLasts 95 = .ok (.if_icmp .ne 34, 3) := by decide +kernel
theorem dX6_lowerLasts_98 : decode cX6_lowerLasts 98 = .ok (.aload_n 0, 1) := by decide +kernel
theorem dX6_lowerLasts_99 : decode cX6_lowerLasts 99 = .ok (.getfield 19, 3) := by decide +kernel
theorem dX6_lowerLasts_102 : decode cX6_lowerLasts 102 = .ok (.iload 5, 2) := by decide +kernel
theorem dX6_lowerLasts_104 : decode cX6_lowerLasts 104 = .ok (.iaload, 1) := by decide +kernel
theorem dX6_lowerLasts_105 : decode cX6_lowerLasts 105 = .ok (.aload_n 0, 1) := by decide +kernel
theorem dX6_lowerLasts_106 : decode cX6_lowerLasts 106 = .ok (.getfield 19, 3) := by decide +kernel
theorem dX6_lowerLasts_109 : decode cX6_lowerLasts 109 = .ok (.iload_n 3, 1) := by decide +kernel
theorem dX6_lowerLasts_110 : decode cX6_lowerLasts 110 = .ok (.iaload, 1) := by decide +kernel
theorem dX6_lowerLasts_111 : decode cX6_lowerLasts 111 = .ok (.if_icmp .gt 18, 3) := by decide +kernel
theorem dX6_lowerLasts_114 : decode cX6_lowerLasts 114 = .ok (.iload 4, 2) := by decide +kernel
theorem dX6_lowerLasts_116 : decode cX6_lowerLasts 116 = .ok (.aload_n 0, 1) := by decide +kernel
theorem dX6_lowerLasts_117 : decode cX6_lowerLasts 117 = .ok (.getfield 37, 3) := by decide +kernel
theorem dX6_lowerLasts_120 : decode cX6_lowerLasts 120 = .ok (.getfield 109, 3) := by decide +kernel
theorem dX6_lowerLasts_123 : decode cX6_lowerLasts 123 = .ok (.iload 5, 2) := by decide +kernel
theorem dX6_lowerLasts_125 : decode cX6_lowerLasts 125 = .ok (.iaload, 1) := by decide +kernel
theorem dX6_lowerLasts_126 : decode cX6_lowerLasts 126 = .ok (.iadd, 1) := by decide +kernel
theorem dX6_lowerLasts_127 : decode cX6_lowerLasts 127 = .ok (.istore 4, 2) := by decide +kernel
theorem dX6_lowerLasts_129 : decode cX6_lowerLasts 129 = .ok (.iinc 5 1, 3) := by decide +kernel
theorem dX6_lowerLasts_132 : decode cX6_lowerLasts 132 = .ok (.goto (-82), 3) := by decide +kernel
theorem dX6_lowerLasts_135 : decode cX6_lowerLasts 135 = .ok (.aload_n 0, 1) := by decide +kernel
theorem dX6_lowerLasts_136 : decode cX6_lowerLasts 136 = .ok (.getfield 19, 3) := by decide +kernel
theorem dX6_lowerLasts_139 : decode cX6_lowerLasts 139 = .ok (.iload_n 3, 1) := by decide +kernel
theorem dX6_lowerLasts_140 : decode cX6_lowerLasts 140 = .ok (.iaload, 1) := by decide +kernel
theorem dX6_lowerLasts_141 : decode cX6_lowerLasts 141 = .ok (.iload 4, 2) := by decide +kernel
theorem dX6_lowerLasts_143 : decode cX6_lowerLasts 143 = .ok (.isub, 1) := by decide +kernel
theorem dX6_lowerLasts_144 : decode cX6_lowerLasts 144 = .ok (.aload_n 0, 1) := by decide +kernel
theorem dX6_lowerLasts_145 : decode cX6_lowerLasts 145 = .ok (.getfield 19, 3) := by decide +kernel
theorem dX6_lowerLasts_148 : decode cX6_lowerLasts 148 = .ok (.iload_n 2, 1) := by decide +kernel
theorem dX6_lowerLasts_149 : decode cX6_lowerLasts 149 = .ok (.iaload, 1) := by decide +kernel
theorem dX6_lowerLasts_150 : decode cX6_lowerLasts 150 = .ok (.if_icmp .ge 20, 3) := by decide +kernel
theorem dX6_lowerLasts_153 : decode cX6_lowerLasts 153 = .ok (.aload_n 0, 1) := by decide +kernel
theorem dX6_lowerLasts_154 : decode cX6_lowerLasts 154 = .ok (.getfield 19, 3) := by decide +kernel
theorem dX6_lowerLasts_157 : decode cX6_lowerLasts 157 = .ok (.iload_n 2, 1) := by decide +kernel
theorem dX6_lowerLasts_158 : decode cX6_lowerLasts 158 = .ok (.aload_n 0, 1) := by decide +kernel
theorem dX6_lowerLasts_159 : decode cX6_lowerLasts 159 = .ok (.getfield 19, 3) := by decide +kernel
theorem dX6_lowerLasts_162 : decode cX6_lowerLasts 162 = .ok (.iload_n 3, 1) := by decide +kernel
theorem dX6_lowerLasts_163 : decode cX6_lowerLasts 163 = .ok (.iaload, 1) := by decide +kernel
theorem dX6_lowerLasts_164 : decode cX6_lowerLasts 164 = .ok (.iload 4, 2) := by decide +kernel
theorem dX6_lowerLasts_166 : decode cX6_lowerLasts 166 = .ok (.isub, 1) := by decide +kernel
theorem dX6_lowerLasts_167 : decode cX6_lowerLasts 167 = .ok (.iastore, 1) := by decide +kernel
theorem dX6_lowerLasts_168 : decode cX6_lowerLasts 168 = .ok (.iconst 1, 1) := by decide +kernel
theorem dX6_lowerLasts_169 : decode cX6_lowerLasts 169 = .ok (.istore_n 1, 1) := by decide +kernel
theorem dX6_lowerLasts_170 : decode cX6_lowerLasts 170 = .ok (.iinc 3 1, 3) := by decide +kernel
theorem dX6_lowerLasts_173 : decode cX6_lowerLasts 173 = .ok (.goto (-156), 3) := by decide +kernel
theorem dX6_lowerLasts_176 : decode cX6_lowerLasts 176 = .ok (.iinc 2 1, 3) := by decide +kernel
theorem dX6_lowerLasts_179 : decode cX6_lowerLasts 179 = .ok (.goto (-175), 3) := by decide +kernel
theorem dX6_lowerLasts_182 : decode cX6_lowerLasts 182 = .ok (.iload_n 1, 1) := by decide +kernel
theorem dX6_lowerLasts_183 : decode cX6_lowerLasts 183 = .ok (.ireturn, 1) := by decide +kernel
theorem dX6_putBehind_0 : decode cX6_putBehind 0 = .ok (.iload_n 2, 1) := by decide +kernel
theorem dX6_putBehind_1 : decode cX6_putBehind 1 = .ok (.aload_n 0, 1) := by decide +kernel
theorem dX6_putBehind_2 : decode cX6_putBehind 2 = .ok (.getfield 22, 3) := by decide +kernel
theorem dX6_putBehind_5 : decode cX6_putBehind 5 = .ok (.iload_n 1, 1) := by decide +kernel
theorem dX6_putBehind_6 : decode cX6_putBehind 6 = .ok (.iaload, 1) := by decide +kernel
theorem dX6_putBehind_7 : decode cX6_putBehind 7 = .ok (.iconst (-1), 1) := by decide +kernel
theorem dX6_putBehind_8 : decode cX6_putBehind 8 = .ok (.ixor, 1) := by decide +kernel
theorem dX6_putBehind_9 : decode cX6_putBehind 9 = .ok (.iand, 1) := by decide +kernel
theorem dX6_putBehind_10 : decode cX6_putBehind 10 = .ok (.ifCond .eq 7, 3) := by decide +kernel
theorem dX6_putBehind_13 : decode cX6_putBehind 13 = .ok (.iconst 1, 1) := by decide +kernel
theorem dX6_putBehind_14 : decode cX6_putBehind 14 = .ok (.goto 4, 3) := by decide +kernel
theorem dX6_putBehind_17 : decode cX6_putBehind 17 = .ok (.iconst 0, 1) := by decide +kernel
theorem dX6_putBehind_18 : decode cX6_putBehind 18 = .ok (.istore_n 3, 1) := by decide +kernel
theorem dX6_putBehind_19 : decode cX6_putBehind 19 = .ok (.aload_n 0, 1) := by decide +kernel
theorem dX6_putBehind_20 : decode cX6_putBehind 20 = .ok (.getfield 22, 3) := by decide +kernel
theorem dX6_putBehind_23 : decode cX6_putBehind 23 = .ok (.iload_n 1, 1) := by decide +kernel
theorem dX6_putBehind_24 : decode cX6_putBehind 24 = .ok (.dup2, 1) := by decide +kernel
theorem dX6_putBehind_25 : decode cX6_putBehind 25 = .ok (.iaload, 1) := by decide +kernel
theorem dX6_putBehind_26 : decode cX6_putBehind 26 = .ok (.iload_n 2, 1) := by decide +kernel
theorem dX6_putBehind_27 : decode cX6_putBehind 27 = .ok (.ior, 1) := by decide +kernel
theorem dX6_putBehind_28 : decode cX6_putBehind 28 = .ok (.iastore, 1) := by decide +kernel
theorem dX6_putBehind_29 : decode cX6_putBehind 29 = .ok (.iload_n 3, 1) := by decide +kernel
theorem dX6_putBehind_30 : decode cX6_putBehind 30 = .ok (.ireturn, 1) := by decide +kernel
set_option maxRecDepth 20000 in
theorem ggX6_putBehindAll_X7_contains : GoodIn wsX6_putBehindAll wsX7_contains := goodIn_r _ [5] (by decide +kernel) (by decide +kernel)
set_option maxRecDepth 20000 in
theorem gX6_putBehindAll_X7_contains_n86 : GoodIn wsX6_putBehindAll (wsX7_contains) := ggX6_putBehindAll_X7_contains
set_option maxRecDepth 20000 in
theorem ggX6_putBehindAll_X6_putBehind : GoodIn wsX6_putBehindAll wsX6_putBehind := goodIn_r _ [10, 11, 12, 13, 14, 15, 16, 17, 18, 19, 20] (by decide +kernel) (by decide +kernel)
set_option maxRecDepth 20000 in
theorem gX6_putBehindAll_X6_putBehind : GoodIn wsX6_putBehindAll (wsV RX6 90 RX6 yX6_putBehind wsX6_putBehind) := goodIn_app (goodIn_of _ (by decide +kernel)) ggX6_putBehindAll_X6_putBehind
theorem dX6_putBehindAll_0 : decode cX6_putBehindAll 0 = .ok (.iconst 0, 1) := by decide +kernel
theorem dX6_putBehindAll_1 : decode cX6_putBehindAll 1 = .ok (.istore_n 3, 1) := by decide +kernel
theorem dX6_putBehindAll_2 : decode cX6_putBehindAll 2 = .ok (.iconst 0, 1) := by decide +kernel
theorem dX6_putBehindAll_3 : decode cX6_putBehindAll 3 = .ok (.istore 4, 2) := by decide +kernel
theorem dX6_putBehindAll_5 : decode cX6_putBehindAll 5 = .ok (.iload 4, 2) := by decide +kernel
theorem dX6_putBehindAll_7 : decode cX6_putBehindAll 7 = .ok (.aload_n 0, 1) := by decide +kernel
theorem dX6_putBehindAll_8 : decode cX6_putBehindAll 8 = .ok (.getfield 37, 3) := by decide +kernel
theorem dX6_putBehindAll_11 : decode cX6_putBehindAll 11 = .ok (.getfield 70, 3) := by decide +kernel
theorem dX6_putBehindAll_14 : decode cX6_putBehindAll 14 = .ok (.if_icmp .ge 40, 3) := by decide +kernel
theorem dX6_putBehindAll_17 : decode cX6_putBehindAll 17 = .ok (.iload_n 1, 1) := by decide +kernel
theorem dX6_putBehindAll_18 : decode cX6_putBehindAll 18 = .ok (.iload 4, 2) := by decide +kernel
theorem dX6_putBehindAll_20 : decode cX6_putBehindAll 20 = .ok (.invokestatic 86, 3) := by decide +kernel
theorem dX6_putBehindAll_23 : decode cX6_putBehindAll 23 = .ok (.ifCond .eq 25, 3) := by decide +kernel
theorem dX6_putBehindAll_26 : decode cX6_putBehindAll 26 = .ok (.aload_n 0, 1) := by decide +kernel
theorem dX6_putBehindAll_27 : decode cX6_putBehindAll 27 = .ok (.iload 4, 2) := by decide +kernel
theorem dX6_putBehindAll_29 : decode cX6_putBehindAll 29 = .ok (.iconst 1, 1) := by decide +kernel
theorem dX6_putBehindAll_30 : decode cX6_putBehindAll 30 = .ok (.iload_n 2, 1) := by decide +kernel
theorem dX6_putBehindAll_31 : decode cX6_putBehindAll 31 = .ok (.ishl, 1) := by decide +kernel
theorem dX6_putBehindAll_32 : decode cX6_putBehindAll 32 = .ok (.invokevirtual 90, 3) := by decide +kernel
theorem dX6_putBehindAll_35 : decode cX6_putBehindAll 35 = .ok (.ifCond .ne 7, 3) := by decide +kernel
theorem dX6_putBehindAll_38 : decode cX6_putBehindAll 38 = .ok (.iload_n 3, 1) := by decide +kernel
theorem dX6_putBehindAll_39 : decode cX6_putBehindAll 39 = .ok (.ifCond .eq 7, 3) := by decide +kernel
theorem dX6_putBehindAll_42 : decode cX6_putBehindAll 42 = .ok (.iconst 1, 1) := by decide +kernel
theorem dX6_putBehindAll_43 : decode cX6_putBehindAll 43 = .ok (.goto 4, 3) := by decide +kernel
theorem dX6_putBehindAll_46 : decode cX6_putBehindAll 46 = .ok (.iconst 0, 1) := by decide +kernel
theorem dX6_putBehindAll_47 : decode cX6_putBehindAll 47 = .ok (.istore_n 3, 1) := by decide +kernel
theorem dX6_putBehindAll_48 : decode cX6_putBehindAll 48 = .ok (.iinc 4 1, 3) := by decide +kernel
theorem dX6_putBehindAll_51 : decode cX6_putBehindAll 51 = .ok (.goto (-46), 3) := by decide +kernel
theorem dX6_putBehindAll_54 : decode cX6_putBehindAll 54 = .ok (.iload_n 3, 1) := by decide +kernel
theorem dX6_putBehindAll_55 : decode cX6_putBehindAll 55 = .ok (.ireturn, 1) := by decide +kernel
set_option maxRecDepth 20000 in
theorem ggX6_aheadOf_X7_contains : GoodIn wsX6_aheadOf wsX7_contains := goodIn_r _ [6] (by decide +kernel) (by decide +kernel)
set_option maxRecDepth 20000 in
theorem gX6_aheadOf_X7_contains_n86 : GoodIn wsX6_aheadOf (wsX7_contains) := ggX6_aheadOf_X7_contains
theorem dX6_aheadOf_0 : decode cX6_aheadOf 0 = .ok (.iconst 0, 1) := by decide +kernel
theorem dX6_aheadOf_1 : decode cX6_aheadOf 1 = .ok (.istore_n 2, 1) := by decide +kernel
theorem dX6_aheadOf_2 : decode cX6_aheadOf 2 = .ok (.iconst 0, 1) := by decide +kernel
theorem dX6_aheadOf_3 : decode cX6_aheadOf 3 = .ok (.istore_n 3, 1) := by decide +kernel
theorem dX6_aheadOf_4 : decode cX6_aheadOf 4 = .ok (.iload_n 3, 1) := by decide +kernel
theorem dX6_aheadOf_5 : decode cX6_aheadOf 5 = .ok (.aload_n 0, 1) := by decide +kernel
theorem dX6_aheadOf_6 : decode cX6_aheadOf 6 = .ok (.getfield 37, 3) := by decide +kernel
theorem dX6_aheadOf_9 : decode cX6_aheadOf 9 = .ok (.getfield 70, 3) := by decide +kernel
theorem dX6_aheadOf_12 : decode cX6_aheadOf 12 = .ok (.if_icmp .ge 28, 3) := by decide +kernel
theorem dX6_aheadOf_15 : decode cX6_aheadOf 15 = .ok (.aload_n 0, 1) := by decide +kernel
theorem dX6_aheadOf_16 : decode cX6_aheadOf 16 = .ok (.getfield 22, 3) := by decide +kernel
theorem dX6_aheadOf_19 : decode cX6_aheadOf 19 = .ok (.iload_n 3, 1) := by decide +kernel
theorem dX6_aheadOf_20 : decode cX6_aheadOf 20 = .ok (.iaload, 1) := by decide +kernel
theorem dX6_aheadOf_21 : decode cX6_aheadOf 21 = .ok (.iload_n 1, 1) := by decide +kernel
theorem dX6_aheadOf_22 : decode cX6_aheadOf 22 = .ok (.invokestatic 86, 3) := by decide +kernel
theorem dX6_aheadOf_25 : decode cX6_aheadOf 25 = .ok (.ifCond .eq 9, 3) := by decide +kernel
theorem dX6_aheadOf_28 : decode cX6_aheadOf 28 = .ok (.iload_n 2, 1) := by decide +kernel
theorem dX6_aheadOf_29 : decode cX6_aheadOf 29 = .ok (.iconst 1, 1) := by decide +kernel
theorem dX6_aheadOf_30 : decode cX6_aheadOf 30 = .ok (.iload_n 3, 1) := by decide +kernel
theorem dX6_aheadOf_31 : decode cX6_aheadOf 31 = .ok (.ishl, 1) := by decide +kernel
theorem dX6_aheadOf_32 : decode cX6_aheadOf 32 = .ok (.ior, 1) := by decide +kernel
theorem dX6_aheadOf_33 : decode cX6_aheadOf 33 = .ok (.istore_n 2, 1) := by decide +kernel
theorem dX6_aheadOf_34 : decode cX6_aheadOf 34 = .ok (.iinc 3 1, 3) := by decide +kernel
theorem dX6_aheadOf_37 : decode cX6_aheadOf 37 = .ok (.goto (-33), 3) := by decide +kernel
theorem dX6_aheadOf_40 : decode cX6_aheadOf 40 = .ok (.iload_n 2, 1) := by decide +kernel
theorem dX6_aheadOf_41 : decode cX6_aheadOf 41 = .ok (.ireturn, 1) := by decide +kernel
theorem dX6_weighSets_0 : decode cX6_weighSets 0 = .ok (.aload_n 0, 1) := by decide +kernel
theorem dX6_weighSets_1 : decode cX6_weighSets 1 = .ok (.getfield 28, 3) := by decide +kernel
theorem dX6_weighSets_4 : decode cX6_weighSets 4 = .ok (.iconst 0, 1) := by decide +kernel
theorem dX6_weighSets_5 : decode cX6_weighSets 5 = .ok (.ldc 44, 2) := by decide +kernel
theorem dX6_weighSets_7 : decode cX6_weighSets 7 = .ok (.iastore, 1) := by decide +kernel
theorem dX6_weighSets_8 : decode cX6_weighSets 8 = .ok (.aload_n 0, 1) := by decide +kernel
theorem dX6_weighSets_9 : decode cX6_weighSets 9 = .ok (.getfield 31, 3) := by decide +kernel
theorem dX6_weighSets_12 : decode cX6_weighSets 12 = .ok (.iconst 0, 1) := by decide +kernel
theorem dX6_weighSets_13 : decode cX6_weighSets 13 = .ok (.ldc 112, 2) := by decide +kernel
theorem dX6_weighSets_15 : decode cX6_weighSets 15 = .ok (.iastore, 1) := by decide +kernel
theorem dX6_weighSets_16 : decode cX6_weighSets 16 = .ok (.aload_n 0, 1) := by decide +kernel
theorem dX6_weighSets_17 : decode cX6_weighSets 17 = .ok (.getfield 34, 3) := by decide +kernel
theorem dX6_weighSets_20 : decode cX6_weighSets 20 = .ok (.iconst 0, 1) := by decide +kernel
theorem dX6_weighSets_21 : decode cX6_weighSets 21 = .ok (.iconst 0, 1) := by decide +kernel
theorem dX6_weighSets_22 : decode cX6_weighSets 22 = .ok (.iastore, 1) := by decide +kernel
theorem dX6_weighSets_23 : decode cX6_weighSets 23 = .ok (.iconst 0, 1) := by decide +kernel
theorem dX6_weighSets_24 : decode cX6_weighSets 24 = .ok (.istore_n 1, 1) := by decide +kernel
theorem dX6_weighSets_25 : decode cX6_weighSets 25 = .ok (.iload_n 1, 1) := by decide +kernel
theorem dX6_weighSets_26 : decode cX6_weighSets 26 = .ok (.aload_n 0, 1) := by decide +kernel
theorem dX6_weighSets_27 : decode cX6_weighSets 27 = .ok (.getfield 37, 3) := by decide +kernel
theorem dX6_weighSets_30 : decode cX6_weighSets 30 = .ok (.getfield 70, 3) := by decide +kernel
theorem dX6_weighSets_33 : decode cX6_weighSets 33 = .ok (.if_icmp .ge 96, 3) := by decide +kernel
theorem dX6_weighSets_36 : decode cX6_weighSets 36 = .ok (.iconst 1, 1) := by decide +kernel
theorem dX6_weighSets_37 : decode cX6_weighSets 37 = .ok (.iload_n 1, 1) := by decide +kernel
theorem dX6_weighSets_38 : decode cX6_weighSets 38 = .ok (.ishl, 1) := by decide +kernel
theorem dX6_weighSets_39 : decode cX6_weighSets 39 = .ok (.istore_n 2, 1) := by decide +kernel
theorem dX6_weighSets_40 : decode cX6_weighSets 40 = .ok (.iconst 0, 1) := by decide +kernel
theorem dX6_weighSets_41 : decode cX6_weighSets 41 = .ok (.istore_n 3, 1) := by decide +kernel
theorem dX6_weighSets_42 : decode cX6_weighSets 42 = .ok (.iload_n 3, 1) := by decide +kernel
theorem dX6_weighSets_43 : decode cX6_weighSets 43 = .ok (.iload_n 2, 1) := by decide +kernel
theorem dX6_weighSets_44 : decode cX6_weighSets 44 = .ok (.if_icmp .ge 79, 3) := by decide +kernel
theorem dX6_weighSets_47 : decode cX6_weighSets 47 = .ok (.aload_n 0, 1) := by decide +kernel
theorem dX6_weighSets_48 : decode cX6_weighSets 48 = .ok (.getfield 28, 3) := by decide +kernel
theorem dX6_weighSets_51 : decode cX6_weighSets 51 = .ok (.iload_n 2, 1) := by decide +kernel
theorem dX6_weighSets_52 : decode cX6_weighSets 52 = .ok (.iload_n 3, 1) := by decide +kernel
theorem dX6_weighSets_53 : decode cX6_weighSets 53 = .ok (.ior, 1) := by decide +kernel
theorem dX6_weighSets_54 : decode cX6_weighSets 54 = .ok (.aload_n 0, 1) := by decide +kernel
theorem dX6_weighSets_55 : decode cX6_weighSets 55 = .ok (.getfield 28, 3) := by decide +kernel
theorem dX6_weighSets_58 : decode cX6_weighSets 58 = .ok (.iload_n 3, 1) := by decide +kernel
theorem dX6_weighSets_59 : decode cX6_weighSets 59 = .ok (.iaload, 1) := by decide +kernel
theorem dX6_weighSets_60 : decode cX6_weighSets 60 = .ok (.aload_n 0, 1) := by decide +kernel
theorem dX6_weighSets_61 : decode cX6_weighSets 61 = .ok (.getfield 15, 3) := by decide +kernel
theorem dX6_weighSets_64 : decode cX6_weighSets 64 = .ok (.iload_n 1, 1) := by decide +kernel
theorem dX6_weighSets_65 : decode cX6_weighSets 65 = .ok (.iaload, 1) := by decide +kernel
theorem dX6_weighSets_66 : decode cX6_weighSets 66 = .ok (.invokestatic 113, 3) := by decide +kernel
theorem dX6_weighSets_69 : decode cX6_weighSets 69 = .ok (.iastore, 1) := by decide +kernel
theorem dX6_weighSets_70 : decode cX6_weighSets 70 = .ok (.aload_n 0, 1) := by decide +kernel
theorem dX6_weighSets_71 : decode cX6_weighSets 71 = .ok (.getfield 31, 3) := by decide +kernel
theorem dX6_weighSets_74 : decode cX6_weighSets 74 = .ok (.iload_n 2, 1) := by decide +kernel
theorem dX6_weighSets_75 : decode cX6_weighSets 75 = .ok (.iload_n 3, 1) := by decide +kernel
theorem dX6_weighSets_76 : decode cX6_weighSets 76 = .ok (.ior, 1) := by decide +kernel
theorem dX6_weighSets_77 : decode cX6_weighSets 77 = .ok (.aload_n 0, 1) := by decide +kernel
theorem dX6_weighSets_78 : decode cX6_weighSets 78 = .ok (.getfield 31, 3) := by decide +kernel
theorem dX6_weighSets_81 : decode cX6_weighSets 81 = .ok (.iload_n 3, 1) := by decide +kernel
theorem dX6_weighSets_82 : decode cX6_weighSets 82 = .ok (.iaload, 1) := by decide +kernel
theorem dX6_weighSets_83 : decode cX6_weighSets 83 = .ok (.aload_n 0, 1) := by decide +kernel
theorem dX6_weighSets_84 : decode cX6_weighSets 84 = .ok (.getfield 19, 3) := by decide +kernel
theorem dX6_weighSets_87 : decode cX6_weighSets 87 = .ok (.iload_n 1, 1) := by decide +kernel
theorem dX6_weighSets_88 : decode cX6_weighSets 88 = .ok (.iaload, 1) := by decide +kernel
theorem dX6_weighSets_89 : decode cX6_weighSets 89 = .ok (.invokestatic 119, 3) := by decide +kernel
theorem dX6_weighSets_92 : decode cX6_weighSets 92 = .ok (.iastore, 1) := by decide +kernel
theorem dX6_weighSets_93 : decode cX6_weighSets 93 = .ok (.aload_n 0, 1) := by decide +kernel
theorem dX6_weighSets_94 : decode cX6_weighSets 94 = .ok (.getfield 34, 3) := by decide +kernel
theorem dX6_weighSets_97 : decode cX6_weighSets 97 = .ok (.iload_n 2, 1) := by decide +kernel
theorem dX6_weighSets_98 : decode cX6_weighSets 98 = .ok (.iload_n 3, 1) := by decide +kernel
theorem dX6_weighSets_99 : decode cX6_weighSets 99 = .ok (.ior, 1) := by decide +kernel
theorem dX6_weighSets_100 : decode cX6_weighSets 100 = .ok (.aload_n 0, 1) := by decide +kernel
theorem dX6_weighSets_101 : decode cX6_weighSets 101 = .ok (.getfield 34, 3) := by decide +kernel
theorem dX6_weighSets_104 : decode cX6_weighSets 104 = .ok (.iload_n 3, 1) := by decide +kernel
theorem dX6_weighSets_105 : decode cX6_weighSets 105 = .ok (.iaload, 1) := by decide +kernel
theorem dX6_weighSets_106 : decode cX6_weighSets 106 = .ok (.aload_n 0, 1) := by decide +kernel
theorem dX6_weighSets_107 : decode cX6_weighSets 107 = .ok (.getfield 37, 3) := by decide +kernel
theorem dX6_weighSets_110 : decode cX6_weighSets 110 = .ok (.getfield 109, 3) := by decide +kernel
theorem dX6_weighSets_113 : decode cX6_weighSets 113 = .ok (.iload_n 1, 1) := by decide +kernel
theorem dX6_weighSets_114 : decode cX6_weighSets 114 = .ok (.iaload, 1) := by decide +kernel
theorem dX6_weighSets_115 : decode cX6_weighSets 115 = .ok (.iadd, 1) := by decide +kernel
theorem dX6_weighSets_116 : decode cX6_weighSets 116 = .ok (.iastore, 1) := by decide +kernel
theorem dX6_weighSets_117 : decode cX6_weighSets 117 = .ok (.iinc 3 1, 3) := by decide +kernel
theorem dX6_weighSets_120 : decode cX6_weighSets 120 = .ok (.goto (-78), 3) := by decide +kernel
theorem dX6_weighSets_123 : decode cX6_weighSets 123 = .ok (.iinc 1 1, 3) := by decide +kernel
theorem dX6_weighSets_126 : decode cX6_weighSets 126 = .ok (.goto (-101), 3) := by decide +kernel
theorem dX6_weighSets_129 : decode cX6_weighSets 129 = .ok (.return_, 1) := by decide +kernel
set_option maxRecDepth 20000 in
theorem ggX6_someTaskPrecedesItself_X7_contains : GoodIn wsX6_someTaskPrecedesItself wsX7_contains := goodIn_r _ [6] (by decide +kernel) (by decide +kernel)
set_option maxRecDepth 20000 in
theorem gX6_someTaskPrecedesItself_X7_contains_n86 : GoodIn wsX6_someTaskPrecedesItself (wsX7_contains) := ggX6_someTaskPrecedesItself_X7_contains
theorem dX6_someTaskPrecedesItself_0 : decode cX6_someTaskPrecedesItself 0 = .ok (.iconst 0, 1) := by decide +kernel
theorem dX6_someTaskPrecedesItself_1 : decode cX6_someTaskPrecedesItself 1 = .ok (.istore_n 1, 1) := by decide +kernel
theorem dX6_someTaskPrecedesItself_2 : decode cX6_someTaskPrecedesItself 2 = .ok (.iload_n 1, 1) := by decide +kernel
theorem dX6_someTaskPrecedesItself_3 : decode cX6_someTaskPrecedesItself 3 = .ok (.aload_n 0, 1) := by decide +kernel
theorem dX6_someTaskPrecedesItself_4 : decode cX6_someTaskPrecedesItself 4 = .ok (.getfield 37, 3) := by decide +kernel
theorem dX6_someTaskPrecedesItself_7 : decode cX6_someTaskPrecedesItself 7 = .ok (.getfield 70, 3) := by decide +kernel
theorem dX6_someTaskPrecedesItself_10 : decode cX6_someTaskPrecedesItself 10 = .ok (.if_icmp .ge 24, 3) := by decide +kernel
theorem dX6_someTaskPrecedesItself_13 : decode cX6_someTaskPrecedesItself 13 = .ok (.aload_n 0, 1) := by decide +kernel
theorem dX6_someTaskPrecedesItself_14 : decode cX6_someTaskPrecedesItself 14 = .ok (.getfield 22, 3) := by decide +kernel
theorem dX6_someTaskPrecedesItself_17 : decode cX6_someTaskPrecedesItself 17 = .ok (.iload_n 1, 1) := by decide +kernel
theorem dX6_someTaskPrecedesItself_18 : decode cX6_someTaskPrecedesItself 18 = .ok (.iaload, 1) := by decide +kernel
theorem dX6_someTaskPrecedesItself_19 : decode cX6_someTaskPrecedesItself 19 = .ok (.iload_n 1, 1) := by decide +kernel
theorem dX6_someTaskPrecedesItself_20 : decode cX6_someTaskPrecedesItself 20 = .ok (.invokestatic 86, 3) := by decide +kernel
theorem dX6_someTaskPrecedesItself_23 : decode cX6_someTaskPrecedesItself 23 = .ok (.ifCond .eq 5, 3) := by decide +kernel
theorem dX6_someTaskPrecedesItself_26 : decode cX6_someTaskPrecedesItself 26 = .ok (.iconst 1, 1) := by decide +kernel
theorem dX6_someTaskPrecedesItself_27 : decode cX6_someTaskPrecedesItself 27 = .ok (.ireturn, 1) := by decide +kernel
theorem dX6_someTaskPrecedesItself_28 : decode cX6_someTaskPrecedesItself 28 = .ok (.iinc 1 1, 3) := by decide +kernel
theorem dX6_someTaskPrecedesItself_31 : decode cX6_someTaskPrecedesItself 31 = .ok (.goto (-29), 3) := by decide +kernel
theorem dX6_someTaskPrecedesItself_34 : decode cX6_someTaskPrecedesItself 34 = .ok (.iconst 0, 1) := by decide +kernel
theorem dX6_someTaskPrecedesItself_35 : decode cX6_someTaskPrecedesItself 35 = .ok (.ireturn, 1) := by decide +kernel
theorem dX6_someSetIsTooTight_0 : decode cX6_someSetIsTooTight 0 = .ok (.iconst 0, 1) := by decide +kernel
theorem dX6_someSetIsTooTight_1 : decode cX6_someSetIsTooTight 1 = .ok (.istore_n 1, 1) := by decide +kernel
theorem dX6_someSetIsTooTight_2 : decode cX6_someSetIsTooTight 2 = .ok (.iload_n 1, 1) := by decide +kernel
theorem dX6_someSetIsTooTight_3 : decode cX6_someSetIsTooTight 3 = .ok (.iconst 3, 1) := by decide +kernel
theorem dX6_someSetIsTooTight_4 : decode cX6_someSetIsTooTight 4 = .ok (.if_icmp .ge 64, 3) := by decide +kernel
theorem dX6_someSetIsTooTight_7 : decode cX6_someSetIsTooTight 7 = .ok (.iconst 1, 1) := by decide +kernel
theorem dX6_someSetIsTooTight_8 : decode cX6_someSetIsTooTight 8 = .ok (.istore_n 2, 1) := by decide +kernel
theorem dX6_someSetIsTooTight_9 : decode cX6_someSetIsTooTight 9 = .ok (.iload_n 2, 1) := by decide +kernel
theorem dX6_someSetIsTooTight_10 : decode cX6_someSetIsTooTight 10 = .ok (.aload_n 0, 1) := by decide +kernel
theorem dX6_someSetIsTooTight_11 : decode cX6_someSetIsTooTight 11 = .ok (.getfield 25, 3) := by decide +kernel
theorem dX6_someSetIsTooTight_14 : decode cX6_someSetIsTooTight 14 = .ok (.iload_n 1, 1) := by decide +kernel
theorem dX6_someSetIsTooTight_15 : decode cX6_someSetIsTooTight 15 = .ok (.iaload, 1) := by decide +kernel
theorem dX6_someSetIsTooTight_16 : decode cX6_someSetIsTooTight 16 = .ok (.if_icmp .gt 46, 3) := by decide +kernel
theorem dX6_someSetIsTooTight_19 : decode cX6_someSetIsTooTight 19 = .ok (.iload_n 2, 1) := by decide +kernel
theorem dX6_someSetIsTooTight_20 : decode cX6_someSetIsTooTight 20 = .ok (.aload_n 0, 1) := by decide +kernel
theorem dX6_someSetIsTooTight_21 : decode cX6_someSetIsTooTight 21 = .ok (.getfield 25, 3) := by decide +kernel
theorem dX6_someSetIsTooTight_24 : decode cX6_someSetIsTooTight 24 = .ok (.iload_n 1, 1) := by decide +kernel
theorem dX6_someSetIsTooTight_25 : decode cX6_someSetIsTooTight 25 = .ok (.iaload, 1) := by decide +kernel
theorem dX6_someSetIsTooTight_26 : decode cX6_someSetIsTooTight 26 = .ok (.iconst (-1), 1) := by decide +kernel
theorem dX6_someSetIsTooTight_27 : decode cX6_someSetIsTooTight 27 = .ok (.ixor, 1) := by decide +kernel
theorem dX6_someSetIsTooTight_28 : decode cX6_someSetIsTooTight 28 = .ok (.iand, 1) := by decide +kernel
theorem dX6_someSetIsTooTight_29 : decode cX6_someSetIsTooTight 29 = .ok (.ifCond .ne 27, 3) := by decide +kernel
theorem dX6_someSetIsTooTight_32 : decode cX6_someSetIsTooTight 32 = .ok (.aload_n 0, 1) := by decide +kernel
theorem dX6_someSetIsTooTight_33 : decode cX6_someSetIsTooTight 33 = .ok (.getfield 28, 3) := by decide +kernel
theorem dX6_someSetIsTooTight_36 : decode cX6_someSetIsTooTight 36 = .ok (.iload_n 2, 1) := by decide +kernel
theorem dX6_someSetIsTooTight_37 : decode cX6_someSetIsTooTight 37 = .ok (.iaload, 1) := by decide +kernel
theorem dX6_someSetIsTooTight_38 : decode cX6_someSetIsTooTight 38 = .ok (.aload_n 0, 1) := by decide +kernel
theorem dX6_someSetIsTooTight_39 : decode cX6_someSetIsTooTight 39 = .ok (.getfield 34, 3) := by decide +kernel
theorem dX6_someSetIsTooTight_42 : decode cX6_someSetIsTooTight 42 = .ok (.iload_n 2, 1) := by decide +kernel
theorem dX6_someSetIsTooTight_43 : decode cX6_someSetIsTooTight 43 = .ok (.iaload, 1) := by decide +kernel
theorem dX6_someSetIsTooTight_44 : decode cX6_someSetIsTooTight 44 = .ok (.iadd, 1) := by decide +kernel
theorem dX6_someSetIsTooTight_45 : decode cX6_someSetIsTooTight 45 = .ok (.aload_n 0, 1) := by decide +kernel
theorem dX6_someSetIsTooTight_46 : decode cX6_someSetIsTooTight 46 = .ok (.getfield 31, 3) := by decide +kernel
theorem dX6_someSetIsTooTight_49 : decode cX6_someSetIsTooTight 49 = .ok (.iload_n 2, 1) := by decide +kernel
theorem dX6_someSetIsTooTight_50 : decode cX6_someSetIsTooTight 50 = .ok (.iaload, 1) := by decide +kernel
theorem dX6_someSetIsTooTight_51 : decode cX6_someSetIsTooTight 51 = .ok (.if_icmp .le 5, 3) := by decide +kernel
theorem dX6_someSetIsTooTight_54 : decode cX6_someSetIsTooTight 54 = .ok (.iconst 1, 1) := by decide +kernel
theorem dX6_someSetIsTooTight_55 : decode cX6_someSetIsTooTight 55 = .ok (.ireturn, 1) := by decide +kernel
theorem dX6_someSetIsTooTight_56 : decode cX6_someSetIsTooTight 56 = .ok (.iinc 2 1, 3) := by decide +kernel
theorem dX6_someSetIsTooTight_59 : decode cX6_someSetIsTooTight 59 = .ok (.goto (-50), 3) := by decide +kernel
theorem dX6_someSetIsTooTight_62 : decode cX6_someSetIsTooTight 62 = .ok (.iinc 1 1, 3) := by decide +kernel
theorem dX6_someSetIsTooTight_65 : decode cX6_someSetIsTooTight 65 = .ok (.goto (-63), 3) := by decide +kernel
theorem dX6_someSetIsTooTight_68 : decode cX6_someSetIsTooTight 68 = .ok (.iconst 0, 1) := by decide +kernel
theorem dX6_someSetIsTooTight_69 : decode cX6_someSetIsTooTight 69 = .ok (.ireturn, 1) := by decide +kernel
theorem dX6_pairTells_0 : decode cX6_pairTells 0 = .ok (.iload_n 1, 1) := by decide +kernel
theorem dX6_pairTells_1 : decode cX6_pairTells 1 = .ok (.iload_n 2, 1) := by decide +kernel
theorem dX6_pairTells_2 : decode cX6_pairTells 2 = .ok (.if_icmp .eq 63, 3) := by decide +kernel
theorem dX6_pairTells_5 : decode cX6_pairTells 5 = .ok (.aload_n 0, 1) := by decide +kernel
theorem dX6_pairTells_6 : decode cX6_pairTells 6 = .ok (.getfield 37, 3) := by decide +kernel
theorem dX6_pairTells_9 : decode cX6_pairTells 9 = .ok (.getfield 83, 3) := by decide +kernel
theorem dX6_pairTells_12 : decode cX6_pairTells 12 = .ok (.iload_n 1, 1) := by decide +kernel
theorem dX6_pairTells_13 : decode cX6_pairTells 13 = .ok (.iaload, 1) := by decide +kernel
theorem dX6_pairTells_14 : decode cX6_pairTells 14 = .ok (.aload_n 0, 1) := by decide +kernel
theorem dX6_pairTells_15 : decode cX6_pairTells 15 = .ok (.getfield 37, 3) := by decide +kernel
theorem dX6_pairTells_18 : decode cX6_pairTells 18 = .ok (.getfield 83, 3) := by decide +kernel
theorem dX6_pairTells_21 : decode cX6_pairTells 21 = .ok (.iload_n 2, 1) := by decide +kernel
theorem dX6_pairTells_22 : decode cX6_pairTells 22 = .ok (.iaload, 1) := by decide +kernel
theorem dX6_pairTells_23 : decode cX6_pairTells 23 = .ok (.if_icmp .ne 42, 3) := by decide +kernel
theorem dX6_pairTells_26 : decode cX6_pairTells 26 = .ok (.aload_n 0, 1) := by decide +kernel
theorem dX6_pairTells_27 : decode cX6_pairTells 27 = .ok (.getfield 15, 3) := by decide +kernel
theorem dX6_pairTells_30 : decode cX6_pairTells 30 = .ok (.iload_n 2, 1) := by decide +kernel
theorem dX6_pairTells_31 : decode cX6_pairTells 31 = .ok (.iaload, 1) := by decide +kernel
theorem dX6_pairTells_32 : decode cX6_pairTells 32 = .ok (.aload_n 0, 1) := by decide +kernel
theorem dX6_pairTells_33 : decode cX6_pairTells 33 = .ok (.getfield 37, 3) := by decide +kernel
theorem dX6_pairTells_36 : decode cX6_pairTells 36 = .ok (.getfield 109, 3) := by decide +kernel
theorem dX6_pairTells_39 : decode cX6_pairTells 39 = .ok (.iload_n 2, 1) := by decide +kernel
theorem dX6_pairTells_40 : decode cX6_pairTells 40 = .ok (.iaload, 1) := by decide +kernel
theorem dX6_pairTells_41 : decode cX6_pairTells 41 = .ok (.iadd, 1) := by decide +kernel
theorem dX6_pairTells_42 : decode cX6_pairTells 42 = .ok (.aload_n 0, 1) := by decide +kernel
theorem dX6_pairTells_43 : decode cX6_pairTells 43 = .ok (.getfield 37, 3) := by decide +kernel
theorem dX6_pairTells_46 : decode cX6_pairTells 46 = .ok (.getfield 109, 3) := by decide +kernel
theorem dX6_pairTells_49 : decode cX6_pairTells 49 = .ok (.iload_n 1, 1) := by decide +kernel
theorem dX6_pairTells_50 : decode cX6_pairTells 50 = .ok (.iaload, 1) := by decide +kernel
theorem dX6_pairTells_51 : decode cX6_pairTells 51 = .ok (.iadd, 1) := by decide +kernel
theorem dX6_pairTells_52 : decode cX6_pairTells 52 = .ok (.aload_n 0, 1) := by decide +kernel
theorem dX6_pairTells_53 : decode cX6_pairTells 53 = .ok (.getfield 19, 3) := by decide +kernel
theorem dX6_pairTells_56 : decode cX6_pairTells 56 = .ok (.iload_n 1, 1) := by decide +kernel
theorem dX6_pairTells_57 : decode cX6_pairTells 57 = .ok (.iaload, 1) := by decide +kernel
theorem dX6_pairTells_58 : decode cX6_pairTells 58 = .ok (.if_icmp .le 7, 3) := by decide +kernel
theorem dX6_pairTells_61 : decode cX6_pairTells 61 = .ok (.iconst 1, 1) := by decide +kernel
theorem dX6_pairTells_62 : decode cX6_pairTells 62 = .ok (.goto 4, 3) := by decide +kernel
theorem dX6_pairTells_65 : decode cX6_pairTells 65 = .ok (.iconst 0, 1) := by decide +kernel
theorem dX6_pairTells_66 : decode cX6_pairTells 66 = .ok (.ireturn, 1) := by decide +kernel
theorem dX6_setTellsBefore_0 : decode cX6_setTellsBefore 0 = .ok (.iload_n 1, 1) := by decide +kernel
theorem dX6_setTellsBefore_1 : decode cX6_setTellsBefore 1 = .ok (.iconst 1, 1) := by decide +kernel
theorem dX6_setTellsBefore_2 : decode cX6_setTellsBefore 2 = .ok (.iload_n 2, 1) := by decide +kernel
theorem dX6_setTellsBefore_3 : decode cX6_setTellsBefore 3 = .ok (.ishl, 1) := by decide +kernel
theorem dX6_setTellsBefore_4 : decode cX6_setTellsBefore 4 = .ok (.ior, 1) := by decide +kernel
theorem dX6_setTellsBefore_5 : decode cX6_setTellsBefore 5 = .ok (.istore_n 3, 1) := by decide +kernel
theorem dX6_setTellsBefore_6 : decode cX6_setTellsBefore 6 = .ok (.aload_n 0, 1) := by decide +kernel
theorem dX6_setTellsBefore_7 : decode cX6_setTellsBefore 7 = .ok (.getfield 28, 3) := by decide +kernel
theorem dX6_setTellsBefore_10 : decode cX6_setTellsBefore 10 = .ok (.iload_n 3, 1) := by decide +kernel
theorem dX6_setTellsBefore_11 : decode cX6_setTellsBefore 11 = .ok (.iaload, 1) := by decide +kernel
theorem dX6_setTellsBefore_12 : decode cX6_setTellsBefore 12 = .ok (.aload_n 0, 1) := by decide +kernel
theorem dX6_setTellsBefore_13 : decode cX6_setTellsBefore 13 = .ok (.getfield 34, 3) := by decide +kernel
theorem dX6_setTellsBefore_16 : decode cX6_setTellsBefore 16 = .ok (.iload_n 3, 1) := by decide +kernel
theorem dX6_setTellsBefore_17 : decode cX6_setTellsBefore 17 = .ok (.iaload, 1) := by decide +kernel
theorem dX6_setTellsBefore_18 : decode cX6_setTellsBefore 18 = .ok (.iadd, 1) := by decide +kernel
theorem dX6_setTellsBefore_19 : decode cX6_setTellsBefore 19 = .ok (.aload_n 0, 1) := by decide +kernel
theorem dX6_setTellsBefore_20 : decode cX6_setTellsBefore 20 = .ok (.getfield 31, 3) := by decide +kernel
theorem dX6_setTellsBefore_23 : decode cX6_setTellsBefore 23 = .ok (.iload_n 1, 1) := by decide +kernel
theorem dX6_setTellsBefore_24 : decode cX6_setTellsBefore 24 = .ok (.iaload, 1) := by decide +kernel
theorem dX6_setTellsBefore_25 : decode cX6_setTellsBefore 25 = .ok (.if_icmp .le 7, 3) := by decide +kernel
theorem dX6_setTellsBefore_28 : decode cX6_setTellsBefore 28 = .ok (.iconst 1, 1) := by decide +kernel
theorem dX6_setTellsBefore_29 : decode cX6_setTellsBefore 29 = .ok (.goto 4, 3) := by decide +kernel
theorem dX6_setTellsBefore_32 : decode cX6_setTellsBefore 32 = .ok (.iconst 0, 1) := by decide +kernel
theorem dX6_setTellsBefore_33 : decode cX6_setTellsBefore 33 = .ok (.ireturn, 1) := by decide +kernel
theorem dX6_setTellsBehind_0 : decode cX6_setTellsBehind 0 = .ok (.iload_n 1, 1) := by decide +kernel
theorem dX6_setTellsBehind_1 : decode cX6_setTellsBehind 1 = .ok (.iconst 1, 1) := by decide +kernel
theorem dX6_setTellsBehind_2 : decode cX6_setTellsBehind 2 = .ok (.iload_n 2, 1) := by decide +kernel
theorem dX6_setTellsBehind_3 : decode cX6_setTellsBehind 3 = .ok (.ishl, 1) := by decide +kernel
theorem dX6_setTellsBehind_4 : decode cX6_setTellsBehind 4 = .ok (.ior, 1) := by decide +kernel
theorem dX6_setTellsBehind_5 : decode cX6_setTellsBehind 5 = .ok (.istore_n 3, 1) := by decide +kernel
theorem dX6_setTellsBehind_6 : decode cX6_setTellsBehind 6 = .ok (.aload_n 0, 1) := by decide +kernel
theorem dX6_setTellsBehind_7 : decode cX6_setTellsBehind 7 = .ok (.getfield 28, 3) := by decide +kernel
theorem dX6_setTellsBehind_10 : decode cX6_setTellsBehind 10 = .ok (.iload_n 1, 1) := by decide +kernel
theorem dX6_setTellsBehind_11 : decode cX6_setTellsBehind 11 = .ok (.iaload, 1) := by decide +kernel
theorem dX6_setTellsBehind_12 : decode cX6_setTellsBehind 12 = .ok (.aload_n 0, 1) := by decide +kernel
theorem dX6_setTellsBehind_13 : decode cX6_setTellsBehind 13 = .ok (.getfield 34, 3) := by decide +kernel
theorem dX6_setTellsBehind_16 : decode cX6_setTellsBehind 16 = .ok (.iload_n 3, 1) := by decide +kernel
theorem dX6_setTellsBehind_17 : decode cX6_setTellsBehind 17 = .ok (.iaload, 1) := by decide +kernel
theorem dX6_setTellsBehind_18 : decode cX6_setTellsBehind 18 = .ok (.iadd, 1) := by decide +kernel
theorem dX6_setTellsBehind_19 : decode cX6_setTellsBehind 19 = .ok (.aload_n 0, 1) := by decide +kernel
theorem dX6_setTellsBehind_20 : decode cX6_setTellsBehind 20 = .ok (.getfield 31, 3) := by decide +kernel
theorem dX6_setTellsBehind_23 : decode cX6_setTellsBehind 23 = .ok (.iload_n 3, 1) := by decide +kernel
theorem dX6_setTellsBehind_24 : decode cX6_setTellsBehind 24 = .ok (.iaload, 1) := by decide +kernel
theorem dX6_setTellsBehind_25 : decode cX6_setTellsBehind 25 = .ok (.if_icmp .le 7, 3) := by decide +kernel
theorem dX6_setTellsBehind_28 : decode cX6_setTellsBehind 28 = .ok (.iconst 1, 1) := by decide +kernel
theorem dX6_setTellsBehind_29 : decode cX6_setTellsBehind 29 = .ok (.goto 4, 3) := by decide +kernel
theorem dX6_setTellsBehind_32 : decode cX6_setTellsBehind 32 = .ok (.iconst 0, 1) := by decide +kernel
theorem dX6_setTellsBehind_33 : decode cX6_setTellsBehind 33 = .ok (.ireturn, 1) := by decide +kernel
set_option maxRecDepth 20000 in
theorem ggX6_orders_X7_contains : GoodIn wsX6_orders wsX7_contains := goodIn_r _ [4] (by decide +kernel) (by decide +kernel)
set_option maxRecDepth 20000 in
theorem gX6_orders_X7_contains_n86 : GoodIn wsX6_orders (wsX7_contains) := ggX6_orders_X7_contains
