theorem dX6_orders_0 : decode cX6_orders 0 = .ok (.aload_n 0, 1) := by decide +kernel
theorem dX6_orders_1 : decode cX6_orders 1 = .ok (.getfield 22, 3) := by decide +kernel
theorem dX6_orders_4 : decode cX6_orders 4 = .ok (.iload_n 1, 1) := by decide +kernel
theorem dX6_orders_5 : decode cX6_orders 5 = .ok (.iaload, 1) := by decide +kernel
theorem dX6_orders_6 : decode cX6_orders 6 = .ok (.iload_n 2, 1) := by decide +kernel
theorem dX6_orders_7 : decode cX6_orders 7 = .ok (.invokestatic 86, 3) := by decide +kernel
theorem dX6_orders_10 : decode cX6_orders 10 = .ok (.ireturn, 1) := by decide +kernel
set_option maxRecDepth 20000 in
theorem ggX6_reason_X6_orders : GoodIn wsX6_reason wsX6_orders := goodIn_r _ [6, 7, 8, 9, 10, 41, 42, 43, 44, 45, 46, 47, 48, 49] (by decide +kernel) (by decide +kernel)
set_option maxRecDepth 20000 in
theorem gX6_reason_X6_orders : GoodIn wsX6_reason (wsV RX6 122 RX6 yX6_orders wsX6_orders) := goodIn_app (goodIn_of _ (by decide +kernel)) ggX6_reason_X6_orders
set_option maxRecDepth 20000 in
theorem ggX6_reason_X5_isGiven : GoodIn wsX6_reason wsX5_isGiven := goodIn_r _ [15, 16, 8, 9, 10, 50, 51, 52, 53, 54, 55, 56, 57] (by decide +kernel) (by decide +kernel)
set_option maxRecDepth 20000 in
theorem gX6_reason_X5_isGiven : GoodIn wsX6_reason (wsV RX6 125 RX5 yX5_isGiven wsX5_isGiven) := goodIn_app (goodIn_of _ (by decide +kernel)) ggX6_reason_X5_isGiven
set_option maxRecDepth 20000 in
theorem ggX6_reason_X6_pairTells : GoodIn wsX6_reason wsX6_pairTells := goodIn_r _ [20, 1, 21, 22, 23, 24, 41, 42, 43, 44, 45, 46, 47, 48, 49, 50, 51, 52, 53, 54, 55, 56, 57] (by decide +kernel) (by decide +kernel)
set_option maxRecDepth 20000 in
theorem gX6_reason_X6_pairTells : GoodIn wsX6_reason (wsV RX6 93 RX6 yX6_pairTells wsX6_pairTells) := goodIn_app (goodIn_of _ (by decide +kernel)) ggX6_reason_X6_pairTells
set_option maxRecDepth 20000 in
theorem ggX6_reason_X6_leastSet : GoodIn wsX6_reason wsX6_leastSet := goodIn_r _ [28, 1, 21, 29, 8, 9, 10, 30, 31, 32, 5, 33, 34, 35, 36, 37, 38, 39, 40, 41, 42, 43, 44, 45, 46, 47, 48, 49, 50, 51, 52, 53, 54, 55, 56, 57] (by decide +kernel) (by decide +kernel)
set_option maxRecDepth 20000 in
theorem gX6_reason_X6_leastSet : GoodIn wsX6_reason (wsV RX6 128 RX6 yX6_leastSet wsX6_leastSet) := goodIn_app (goodIn_of _ (by decide +kernel)) ggX6_reason_X6_leastSet
theorem dX6_reason_0 : decode cX6_reason 0 = .ok (.aload_n 0, 1) := by decide +kernel
theorem dX6_reason_1 : decode cX6_reason 1 = .ok (.iload_n 1, 1) := by decide +kernel
theorem dX6_reason_2 : decode cX6_reason 2 = .ok (.iload_n 2, 1) := by decide +kernel
theorem dX6_reason_3 : decode cX6_reason 3 = .ok (.invokevirtual 122, 3) := by decide +kernel
theorem dX6_reason_6 : decode cX6_reason 6 = .ok (.ifCond .ne 5, 3) := by decide +kernel
theorem dX6_reason_9 : decode cX6_reason 9 = .ok (.iconst (-1), 1) := by decide +kernel
theorem dX6_reason_10 : decode cX6_reason 10 = .ok (.ireturn, 1) := by decide +kernel
theorem dX6_reason_11 : decode cX6_reason 11 = .ok (.aload_n 0, 1) := by decide +kernel
theorem dX6_reason_12 : decode cX6_reason 12 = .ok (.getfield 37, 3) := by decide +kernel
theorem dX6_reason_15 : decode cX6_reason 15 = .ok (.iload_n 1, 1) := by decide +kernel
theorem dX6_reason_16 : decode cX6_reason 16 = .ok (.iload_n 2, 1) := by decide +kernel
theorem dX6_reason_17 : decode cX6_reason 17 = .ok (.invokevirtual 125, 3) := by decide +kernel
theorem dX6_reason_20 : decode cX6_reason 20 = .ok (.ifCond .eq 5, 3) := by decide +kernel
theorem dX6_reason_23 : decode cX6_reason 23 = .ok (.iconst 0, 1) := by decide +kernel
theorem dX6_reason_24 : decode cX6_reason 24 = .ok (.ireturn, 1) := by decide +kernel
theorem dX6_reason_25 : decode cX6_reason 25 = .ok (.aload_n 0, 1) := by decide +kernel
theorem dX6_reason_26 : decode cX6_reason 26 = .ok (.iload_n 1, 1) := by decide +kernel
theorem dX6_reason_27 : decode cX6_reason 27 = .ok (.iload_n 2, 1) := by decide +kernel
theorem dX6_reason_28 : decode cX6_reason 28 = .ok (.invokevirtual 93, 3) := by decide +kernel
theorem dX6_reason_31 : decode cX6_reason 31 = .ok (.ifCond .eq 5, 3) := by decide +kernel
theorem dX6_reason_34 : decode cX6_reason 34 = .ok (.iconst 1, 1) := by decide +kernel
theorem dX6_reason_35 : decode cX6_reason 35 = .ok (.ireturn, 1) := by decide +kernel
theorem dX6_reason_36 : decode cX6_reason 36 = .ok (.aload_n 0, 1) := by decide +kernel
theorem dX6_reason_37 : decode cX6_reason 37 = .ok (.iload_n 1, 1) := by decide +kernel
theorem dX6_reason_38 : decode cX6_reason 38 = .ok (.iload_n 2, 1) := by decide +kernel
theorem dX6_reason_39 : decode cX6_reason 39 = .ok (.invokevirtual 128, 3) := by decide +kernel
theorem dX6_reason_42 : decode cX6_reason 42 = .ok (.iconst (-1), 1) := by decide +kernel
theorem dX6_reason_43 : decode cX6_reason 43 = .ok (.if_icmp .eq 7, 3) := by decide +kernel
theorem dX6_reason_46 : decode cX6_reason 46 = .ok (.iconst 2, 1) := by decide +kernel
theorem dX6_reason_47 : decode cX6_reason 47 = .ok (.goto 4, 3) := by decide +kernel
theorem dX6_reason_50 : decode cX6_reason 50 = .ok (.iconst 3, 1) := by decide +kernel
theorem dX6_reason_51 : decode cX6_reason 51 = .ok (.ireturn, 1) := by decide +kernel
set_option maxRecDepth 20000 in
theorem ggX6_leastSet_X7_contains : GoodIn wsX6_leastSet wsX7_contains := goodIn_r _ [6] (by decide +kernel) (by decide +kernel)
set_option maxRecDepth 20000 in
theorem gX6_leastSet_X7_contains_n86 : GoodIn wsX6_leastSet (wsX7_contains) := ggX6_leastSet_X7_contains
set_option maxRecDepth 20000 in
theorem ggX6_leastSet_X6_setTellsBefore : GoodIn wsX6_leastSet wsX6_setTellsBefore := goodIn_r _ [11, 12, 13, 14, 19, 20, 21, 22, 23, 24, 25, 26, 27] (by decide +kernel) (by decide +kernel)
set_option maxRecDepth 20000 in
theorem gX6_leastSet_X6_setTellsBefore : GoodIn wsX6_leastSet (wsV RX6 96 RX6 yX6_setTellsBefore wsX6_setTellsBefore) := goodIn_app (goodIn_of _ (by decide +kernel)) ggX6_leastSet_X6_setTellsBefore
set_option maxRecDepth 20000 in
theorem ggX6_leastSet_X6_setTellsBehind : GoodIn wsX6_leastSet wsX6_setTellsBehind := goodIn_r _ [18, 12, 13, 14, 19, 20, 21, 22, 23, 24, 25, 26, 27] (by decide +kernel) (by decide +kernel)
set_option maxRecDepth 20000 in
theorem gX6_leastSet_X6_setTellsBehind : GoodIn wsX6_leastSet (wsV RX6 102 RX6 yX6_setTellsBehind wsX6_setTellsBehind) := goodIn_app (goodIn_of _ (by decide +kernel)) ggX6_leastSet_X6_setTellsBehind
theorem dX6_leastSet_0 : decode cX6_leastSet 0 = .ok (.iload_n 1, 1) := by decide +kernel
theorem dX6_leastSet_1 : decode cX6_leastSet 1 = .ok (.iload_n 2, 1) := by decide +kernel
theorem dX6_leastSet_2 : decode cX6_leastSet 2 = .ok (.if_icmp .eq 24, 3) := by decide +kernel
theorem dX6_leastSet_5 : decode cX6_leastSet 5 = .ok (.aload_n 0, 1) := by decide +kernel
theorem dX6_leastSet_6 : decode cX6_leastSet 6 = .ok (.getfield 37, 3) := by decide +kernel
theorem dX6_leastSet_9 : decode cX6_leastSet 9 = .ok (.getfield 83, 3) := by decide +kernel
theorem dX6_leastSet_12 : decode cX6_leastSet 12 = .ok (.iload_n 1, 1) := by decide +kernel
theorem dX6_leastSet_13 : decode cX6_leastSet 13 = .ok (.iaload, 1) := by decide +kernel
theorem dX6_leastSet_14 : decode cX6_leastSet 14 = .ok (.aload_n 0, 1) := by decide +kernel
theorem dX6_leastSet_15 : decode cX6_leastSet 15 = .ok (.getfield 37, 3) := by decide +kernel
theorem dX6_leastSet_18 : decode cX6_leastSet 18 = .ok (.getfield 83, 3) := by decide +kernel
theorem dX6_leastSet_21 : decode cX6_leastSet 21 = .ok (.iload_n 2, 1) := by decide +kernel
theorem dX6_leastSet_22 : decode cX6_leastSet 22 = .ok (.iaload, 1) := by decide +kernel
theorem dX6_leastSet_23 : decode cX6_leastSet 23 = .ok (.if_icmp .eq 5, 3) := by decide +kernel
theorem dX6_leastSet_26 : decode cX6_leastSet 26 = .ok (.iconst (-1), 1) := by decide +kernel
theorem dX6_leastSet_27 : decode cX6_leastSet 27 = .ok (.ireturn, 1) := by decide +kernel
theorem dX6_leastSet_28 : decode cX6_leastSet 28 = .ok (.aload_n 0, 1) := by decide +kernel
theorem dX6_leastSet_29 : decode cX6_leastSet 29 = .ok (.getfield 25, 3) := by decide +kernel
theorem dX6_leastSet_32 : decode cX6_leastSet 32 = .ok (.aload_n 0, 1) := by decide +kernel
theorem dX6_leastSet_33 : decode cX6_leastSet 33 = .ok (.getfield 37, 3) := by decide +kernel
theorem dX6_leastSet_36 : decode cX6_leastSet 36 = .ok (.getfield 83, 3) := by decide +kernel
theorem dX6_leastSet_39 : decode cX6_leastSet 39 = .ok (.iload_n 1, 1) := by decide +kernel
theorem dX6_leastSet_40 : decode cX6_leastSet 40 = .ok (.iaload, 1) := by decide +kernel
theorem dX6_leastSet_41 : decode cX6_leastSet 41 = .ok (.iaload, 1) := by decide +kernel
theorem dX6_leastSet_42 : decode cX6_leastSet 42 = .ok (.istore_n 3, 1) := by decide +kernel
theorem dX6_leastSet_43 : decode cX6_leastSet 43 = .ok (.iconst 1, 1) := by decide +kernel
theorem dX6_leastSet_44 : decode cX6_leastSet 44 = .ok (.istore 4, 2) := by decide +kernel
theorem dX6_leastSet_46 : decode cX6_leastSet 46 = .ok (.iload 4, 2) := by decide +kernel
theorem dX6_leastSet_48 : decode cX6_leastSet 48 = .ok (.iload_n 3, 1) := by decide +kernel
theorem dX6_leastSet_49 : decode cX6_leastSet 49 = .ok (.if_icmp .gt 71, 3) := by decide +kernel
theorem dX6_leastSet_52 : decode cX6_leastSet 52 = .ok (.iload 4, 2) := by decide +kernel
theorem dX6_leastSet_54 : decode cX6_leastSet 54 = .ok (.iload_n 3, 1) := by decide +kernel
theorem dX6_leastSet_55 : decode cX6_leastSet 55 = .ok (.iconst (-1), 1) := by decide +kernel
theorem dX6_leastSet_56 : decode cX6_leastSet 56 = .ok (.ixor, 1) := by decide +kernel
theorem dX6_leastSet_57 : decode cX6_leastSet 57 = .ok (.iand, 1) := by decide +kernel
theorem dX6_leastSet_58 : decode cX6_leastSet 58 = .ok (.ifCond .ne 56, 3) := by decide +kernel
theorem dX6_leastSet_61 : decode cX6_leastSet 61 = .ok (.iload 4, 2) := by decide +kernel
theorem dX6_leastSet_63 : decode cX6_leastSet 63 = .ok (.iload_n 1, 1) := by decide +kernel
theorem dX6_leastSet_64 : decode cX6_leastSet 64 = .ok (.invokestatic 86, 3) := by decide +kernel
theorem dX6_leastSet_67 : decode cX6_leastSet 67 = .ok (.iload 4, 2) := by decide +kernel
theorem dX6_leastSet_69 : decode cX6_leastSet 69 = .ok (.iload_n 2, 1) := by decide +kernel
theorem dX6_leastSet_70 : decode cX6_leastSet 70 = .ok (.invokestatic 86, 3) := by decide +kernel
theorem dX6_leastSet_73 : decode cX6_leastSet 73 = .ok (.if_icmp .ne 6, 3) := by decide +kernel
theorem dX6_leastSet_76 : decode cX6_leastSet 76 = .ok (.goto 38, 3) := by decide +kernel
theorem dX6_leastSet_79 : decode cX6_leastSet 79 = .ok (.iload 4, 2) := by decide +kernel
theorem dX6_leastSet_81 : decode cX6_leastSet 81 = .ok (.iload_n 1, 1) := by decide +kernel
theorem dX6_leastSet_82 : decode cX6_leastSet 82 = .ok (.invokestatic 86, 3) := by decide +kernel
theorem dX6_leastSet_85 : decode cX6_leastSet 85 = .ok (.ifCond .eq 16, 3) := by decide +kernel
theorem dX6_leastSet_88 : decode cX6_leastSet 88 = .ok (.aload_n 0, 1) := by decide +kernel
theorem dX6_leastSet_89 : decode cX6_leastSet 89 = .ok (.iload 4, 2) := by decide +kernel
theorem dX6_leastSet_91 : decode cX6_leastSet 91 = .ok (.iload_n 2, 1) := by decide +kernel
theorem dX6_leastSet_92 : decode cX6_leastSet 92 = .ok (.invokevirtual 96, 3) := by decide +kernel
theorem dX6_leastSet_95 : decode cX6_leastSet 95 = .ok (.ifCond .eq 19, 3) := by decide +kernel
theorem dX6_leastSet_98 : decode cX6_leastSet 98 = .ok (.goto 13, 3) := by decide +kernel
theorem dX6_leastSet_101 : decode cX6_leastSet 101 = .ok (.aload_n 0, 1) := by decide +kernel
theorem dX6_leastSet_102 : decode cX6_leastSet 102 = .ok (.iload 4, 2) := by decide +kernel
theorem dX6_leastSet_104 : decode cX6_leastSet 104 = .ok (.iload_n 1, 1) := by decide +kernel
theorem dX6_leastSet_105 : decode cX6_leastSet 105 = .ok (.invokevirtual 102, 3) := by decide +kernel
theorem dX6_leastSet_108 : decode cX6_leastSet 108 = .ok (.ifCond .eq 6, 3) := by decide +kernel
theorem dX6_leastSet_111 : decode cX6_leastSet 111 = .ok (.iload 4, 2) := by decide +kernel
theorem dX6_leastSet_113 : decode cX6_leastSet 113 = .ok (.ireturn, 1) := by decide +kernel
theorem dX6_leastSet_114 : decode cX6_leastSet 114 = .ok (.iinc 4 1, 3) := by decide +kernel
theorem dX6_leastSet_117 : decode cX6_leastSet 117 = .ok (.goto (-71), 3) := by decide +kernel
theorem dX6_leastSet_120 : decode cX6_leastSet 120 = .ok (.iconst (-1), 1) := by decide +kernel
theorem dX6_leastSet_121 : decode cX6_leastSet 121 = .ok (.ireturn, 1) := by decide +kernel
set_option maxRecDepth 20000 in
theorem ggX6_countOpenPairs_X6_orders : GoodIn wsX6_countOpenPairs wsX6_orders := goodIn_r _ [8, 9, 10, 11, 12, 13, 14, 15, 16, 17, 18, 19, 20, 21] (by decide +kernel) (by decide +kernel)
set_option maxRecDepth 20000 in
theorem gX6_countOpenPairs_X6_orders : GoodIn wsX6_countOpenPairs (wsV RX6 122 RX6 yX6_orders wsX6_orders) := goodIn_app (goodIn_of _ (by decide +kernel)) ggX6_countOpenPairs_X6_orders
theorem dX6_countOpenPairs_0 : decode cX6_countOpenPairs 0 = .ok (.iconst 0, 1) := by decide +kernel
theorem dX6_countOpenPairs_1 : decode cX6_countOpenPairs 1 = .ok (.istore_n 1, 1) := by decide +kernel
theorem dX6_countOpenPairs_2 : decode cX6_countOpenPairs 2 = .ok (.iconst 0, 1) := by decide +kernel
theorem dX6_countOpenPairs_3 : decode cX6_countOpenPairs 3 = .ok (.istore_n 2, 1) := by decide +kernel
theorem dX6_countOpenPairs_4 : decode cX6_countOpenPairs 4 = .ok (.iload_n 2, 1) := by decide +kernel
theorem dX6_countOpenPairs_5 : decode cX6_countOpenPairs 5 = .ok (.aload_n 0, 1) := by decide +kernel
theorem dX6_countOpenPairs_6 : decode cX6_countOpenPairs 6 = .ok (.getfield 37, 3) := by decide +kernel
theorem dX6_countOpenPairs_9 : decode cX6_countOpenPairs 9 = .ok (.getfield 70, 3) := by decide +kernel
theorem dX6_countOpenPairs_12 : decode cX6_countOpenPairs 12 = .ok (.if_icmp .ge 72, 3) := by decide +kernel
theorem dX6_countOpenPairs_15 : decode cX6_countOpenPairs 15 = .ok (.iload_n 2, 1) := by decide +kernel
theorem dX6_countOpenPairs_16 : decode cX6_countOpenPairs 16 = .ok (.iconst 1, 1) := by decide +kernel
theorem dX6_countOpenPairs_17 : decode cX6_countOpenPairs 17 = .ok (.iadd, 1) := by decide +kernel
theorem dX6_countOpenPairs_18 : decode cX6_countOpenPairs 18 = .ok (.istore_n 3, 1) := by decide +kernel
theorem dX6_countOpenPairs_19 : decode cX6_countOpenPairs 19 = .ok (.iload_n 3, 1) := by decide +kernel
theorem dX6_countOpenPairs_20 : decode cX6_countOpenPairs 20 = .ok (.aload_n 0, 1) := by decide +kernel
theorem dX6_countOpenPairs_21 : decode cX6_countOpenPairs 21 = .ok (.getfield 37, 3) := by decide +kernel
theorem dX6_countOpenPairs_24 : decode cX6_countOpenPairs 24 = .ok (.getfield 70, 3) := by decide +kernel
theorem dX6_countOpenPairs_27 : decode cX6_countOpenPairs 27 = .ok (.if_icmp .ge 51, 3) := by decide +kernel
theorem dX6_countOpenPairs_30 : decode cX6_countOpenPairs 30 = .ok (.aload_n 0, 1) := by decide +kernel
theorem dX6_countOpenPairs_31 : decode cX6_countOpenPairs 31 = .ok (.getfield 37, 3) := by decide +kernel
theorem dX6_countOpenPairs_34 : decode cX6_countOpenPairs 34 = .ok (.getfield 83, 3) := by decide +kernel
theorem dX6_countOpenPairs_37 : decode cX6_countOpenPairs 37 = .ok (.iload_n 2, 1) := by decide +kernel
theorem dX6_countOpenPairs_38 : decode cX6_countOpenPairs 38 = .ok (.iaload, 1) := by decide +kernel
theorem dX6_countOpenPairs_39 : decode cX6_countOpenPairs 39 = .ok (.aload_n 0, 1) := by decide +kernel
theorem dX6_countOpenPairs_40 : decode cX6_countOpenPairs 40 = .ok (.getfield 37, 3) := by decide +kernel
theorem dX6_countOpenPairs_43 : decode cX6_countOpenPairs 43 = .ok (.getfield 83, 3) := by decide +kernel
theorem dX6_countOpenPairs_46 : decode cX6_countOpenPairs 46 = .ok (.iload_n 3, 1) := by decide +kernel
theorem dX6_countOpenPairs_47 : decode cX6_countOpenPairs 47 = .ok (.iaload, 1) := by decide +kernel
theorem dX6_countOpenPairs_48 : decode cX6_countOpenPairs 48 = .ok (.if_icmp .ne 24, 3) := by decide +kernel
theorem dX6_countOpenPairs_51 : decode cX6_countOpenPairs 51 = .ok (.aload_n 0, 1) := by decide +kernel
theorem dX6_countOpenPairs_52 : decode cX6_countOpenPairs 52 = .ok (.iload_n 2, 1) := by decide +kernel
theorem dX6_countOpenPairs_53 : decode cX6_countOpenPairs 53 = .ok (.iload_n 3, 1) := by decide +kernel
theorem dX6_countOpenPairs_54 : decode cX6_countOpenPairs 54 = .ok (.invokevirtual 122, 3) := by decide +kernel
theorem dX6_countOpenPairs_57 : decode cX6_countOpenPairs 57 = .ok (.ifCond .ne 15, 3) := by decide +kernel
theorem dX6_countOpenPairs_60 : decode cX6_countOpenPairs 60 = .ok (.aload_n 0, 1) := by decide +kernel
theorem dX6_countOpenPairs_61 : decode cX6_countOpenPairs 61 = .ok (.iload_n 3, 1) := by decide +kernel
theorem dX6_countOpenPairs_62 : decode cX6_countOpenPairs 62 = .ok (.iload_n 2, 1) := by decide +kernel
theorem dX6_countOpenPairs_63 : decode cX6_countOpenPairs 63 = .ok (.invokevirtual 122, 3) := by decide +kernel
theorem dX6_countOpenPairs_66 : decode cX6_countOpenPairs 66 = .ok (.ifCond .ne 6, 3) := by decide +kernel
theorem dX6_countOpenPairs_69 : decode cX6_countOpenPairs 69 = .ok (.iinc 1 1, 3) := by decide +kernel
theorem dX6_countOpenPairs_72 : decode cX6_countOpenPairs 72 = .ok (.iinc 3 1, 3) := by decide +kernel
theorem dX6_countOpenPairs_75 : decode cX6_countOpenPairs 75 = .ok (.goto (-56), 3) := by decide +kernel
theorem dX6_countOpenPairs_78 : decode cX6_countOpenPairs 78 = .ok (.iinc 2 1, 3) := by decide +kernel
theorem dX6_countOpenPairs_81 : decode cX6_countOpenPairs 81 = .ok (.goto (-77), 3) := by decide +kernel
theorem dX6_countOpenPairs_84 : decode cX6_countOpenPairs 84 = .ok (.iload_n 1, 1) := by decide +kernel
theorem dX6_countOpenPairs_85 : decode cX6_countOpenPairs 85 = .ok (.ireturn, 1) := by decide +kernel
set_option maxRecDepth 20000 in
theorem ggX7_init_X5_init : GoodIn wsX7_init wsX5_init := goodIn_r _ [33, 34, 2, 3, 35, 36, 37, 38, 39, 40, 41, 42, 43, 112, 113, 114, 115, 116, 117, 118, 119] (by decide +kernel) (by decide +kernel)
set_option maxRecDepth 20000 in
theorem gX7_init_X5_init_n11 : GoodIn wsX7_init (wsX5_init) := ggX7_init_X5_init
set_option maxRecDepth 20000 in
theorem ggX7_init_X6_init : GoodIn wsX7_init wsX6_init := goodIn_r _ [46, 47, 2, 3, 48, 37, 49, 50, 51, 52, 53, 54, 55, 56, 130, 131, 132, 133, 134, 135, 136, 137, 138] (by decide +kernel) (by decide +kernel)
set_option maxRecDepth 20000 in
theorem gX7_init_X6_init : GoodIn wsX7_init (wsX6_init) := ggX7_init_X6_init
set_option maxRecDepth 20000 in
theorem ggX7_init_X0_init : GoodIn wsX7_init wsX0_init := goodIn_r _ [59, 60, 2, 3, 61, 37, 62, 63, 64, 65, 66, 67, 68, 69, 70, 71, 72, 73, 74, 75, 76, 77, 78, 79, 80, 139, 140, 141, 142, 143, 144, 145, 146, 147, 148, 165, 166, 167] (by decide +kernel) (by decide +kernel)
set_option maxRecDepth 20000 in
theorem gX7_init_X0_init : GoodIn wsX7_init (wsX0_init) := ggX7_init_X0_init
set_option maxRecDepth 20000 in
theorem ggX7_init_X1_init : GoodIn wsX7_init wsX1_init := goodIn_r _ [83, 84, 2, 3, 85, 86, 87, 71, 72, 88, 89, 75, 76, 77, 37, 78, 79, 80, 149, 150, 151, 165, 166, 167] (by decide +kernel) (by decide +kernel)
set_option maxRecDepth 20000 in
theorem gX7_init_X1_init : GoodIn wsX7_init (wsX1_init) := ggX7_init_X1_init
set_option maxRecDepth 20000 in
theorem ggX7_init_X2_init : GoodIn wsX7_init wsX2_init := goodIn_r _ [92, 93, 2, 3, 94, 95, 96, 5, 6, 32, 33, 34, 35, 36, 37, 38, 39, 40, 41, 42, 43, 152, 153, 112, 113, 114, 115, 116, 117, 118, 119] (by decide +kernel) (by decide +kernel)
set_option maxRecDepth 20000 in
theorem gX7_init_X2_init : GoodIn wsX7_init (wsX2_init) := ggX7_init_X2_init
set_option maxRecDepth 20000 in
theorem ggX7_init_X3_init : GoodIn wsX7_init wsX3_init := goodIn_r _ [98, 99, 2, 3, 100, 101, 102, 103, 104, 105, 106, 107, 108, 109, 110, 111, 154, 155, 156, 157, 158, 159, 160, 161, 162, 163, 164] (by decide +kernel) (by decide +kernel)
set_option maxRecDepth 20000 in
theorem gX7_init_X3_init_n56 : GoodIn wsX7_init (wsX3_init) := ggX7_init_X3_init
theorem dX7_init_0 : decode cX7_init 0 = .ok (.aload_n 0, 1) := by decide +kernel
theorem dX7_init_1 : decode cX7_init 1 = .ok (.invokespecial 3, 3) := by decide +kernel
theorem dX7_init_4 : decode cX7_init 4 = .ok (.aload_n 0, 1) := by decide +kernel
theorem dX7_init_5 : decode cX7_init 5 = .ok (.new 9, 3) := by decide +kernel
theorem dX7_init_8 : decode cX7_init 8 = .ok (.dup, 1) := by decide +kernel
theorem dX7_init_9 : decode cX7_init 9 = .ok (.invokespecial 11, 3) := by decide +kernel
theorem dX7_init_12 : decode cX7_init 12 = .ok (.putfield 12, 3) := by decide +kernel
theorem dX7_init_15 : decode cX7_init 15 = .ok (.aload_n 0, 1) := by decide +kernel
theorem dX7_init_16 : decode cX7_init 16 = .ok (.new 16, 3) := by decide +kernel
theorem dX7_init_19 : decode cX7_init 19 = .ok (.dup, 1) := by decide +kernel
theorem dX7_init_20 : decode cX7_init 20 = .ok (.aload_n 0, 1) := by decide +kernel
theorem dX7_init_21 : decode cX7_init 21 = .ok (.getfield 12, 3) := by decide +kernel
theorem dX7_init_24 : decode cX7_init 24 = .ok (.invokespecial 18, 3) := by decide +kernel
theorem dX7_init_27 : decode cX7_init 27 = .ok (.putfield 21, 3) := by decide +kernel
theorem dX7_init_30 : decode cX7_init 30 = .ok (.aload_n 0, 1) := by decide +kernel
theorem dX7_init_31 : decode cX7_init 31 = .ok (.new 25, 3) := by decide +kernel
theorem dX7_init_34 : decode cX7_init 34 = .ok (.dup, 1) := by decide +kernel
theorem dX7_init_35 : decode cX7_init 35 = .ok (.aload_n 0, 1) := by decide +kernel
theorem dX7_init_36 : decode cX7_init 36 = .ok (.getfield 12, 3) := by decide +kernel
theorem dX7_init_39 : decode cX7_init 39 = .ok (.aload_n 0, 1) := by decide +kernel
theorem dX7_init_40 : decode cX7_init 40 = .ok (.getfield 21, 3) := by decide +kernel
theorem dX7_init_43 : decode cX7_init 43 = .ok (.invokespecial 27, 3) := by decide +kernel
theorem dX7_init_46 : decode cX7_init 46 = .ok (.putfield 30, 3) := by decide +kernel
theorem dX7_init_49 : decode cX7_init 49 = .ok (.aload_n 0, 1) := by decide +kernel
theorem dX7_init_50 : decode cX7_init 50 = .ok (.new 34, 3) := by decide +kernel
theorem dX7_init_53 : decode cX7_init 53 = .ok (.dup, 1) := by decide +kernel
theorem dX7_init_54 : decode cX7_init 54 = .ok (.aload_n 0, 1) := by decide +kernel
theorem dX7_init_55 : decode cX7_init 55 = .ok (.getfield 12, 3) := by decide +kernel
theorem dX7_init_58 : decode cX7_init 58 = .ok (.invokespecial 36, 3) := by decide +kernel
theorem dX7_init_61 : decode cX7_init 61 = .ok (.putfield 37, 3) := by decide +kernel
theorem dX7_init_64 : decode cX7_init 64 = .ok (.aload_n 0, 1) := by decide +kernel
theorem dX7_init_65 : decode cX7_init 65 = .ok (.new 9, 3) := by decide +kernel
theorem dX7_init_68 : decode cX7_init 68 = .ok (.dup, 1) := by decide +kernel
theorem dX7_init_69 : decode cX7_init 69 = .ok (.invokespecial 11, 3) := by decide +kernel
theorem dX7_init_72 : decode cX7_init 72 = .ok (.putfield 41, 3) := by decide +kernel
theorem dX7_init_75 : decode cX7_init 75 = .ok (.aload_n 0, 1) := by decide +kernel
theorem dX7_init_76 : decode cX7_init 76 = .ok (.new 16, 3) := by decide +kernel
theorem dX7_init_79 : decode cX7_init 79 = .ok (.dup, 1) := by decide +kernel
theorem dX7_init_80 : decode cX7_init 80 = .ok (.aload_n 0, 1) := by decide +kernel
theorem dX7_init_81 : decode cX7_init 81 = .ok (.getfield 41, 3) := by decide +kernel
theorem dX7_init_84 : decode cX7_init 84 = .ok (.invokespecial 18, 3) := by decide +kernel
theorem dX7_init_87 : decode cX7_init 87 = .ok (.putfield 44, 3) := by decide +kernel
theorem dX7_init_90 : decode cX7_init 90 = .ok (.aload_n 0, 1) := by decide +kernel
theorem dX7_init_91 : decode cX7_init 91 = .ok (.new 47, 3) := by decide +kernel
theorem dX7_init_94 : decode cX7_init 94 = .ok (.dup, 1) := by decide +kernel
theorem dX7_init_95 : decode cX7_init 95 = .ok (.invokespecial 49, 3) := by decide +kernel
theorem dX7_init_98 : decode cX7_init 98 = .ok (.putfield 50, 3) := by decide +kernel
theorem dX7_init_101 : decode cX7_init 101 = .ok (.aload_n 0, 1) := by decide +kernel
theorem dX7_init_102 : decode cX7_init 102 = .ok (.new 54, 3) := by decide +kernel
theorem dX7_init_105 : decode cX7_init 105 = .ok (.dup, 1) := by decide +kernel
theorem dX7_init_106 : decode cX7_init 106 = .ok (.invokespecial 56, 3) := by decide +kernel
theorem dX7_init_109 : decode cX7_init 109 = .ok (.putfield 57, 3) := by decide +kernel
theorem dX7_init_112 : decode cX7_init 112 = .ok (.aload_n 0, 1) := by decide +kernel
theorem dX7_init_113 : decode cX7_init 113 = .ok (.iconst 0, 1) := by decide +kernel
theorem dX7_init_114 : decode cX7_init 114 = .ok (.putfield 61, 3) := by decide +kernel
theorem dX7_init_117 : decode cX7_init 117 = .ok (.aload_n 0, 1) := by decide +kernel
theorem dX7_init_118 : decode cX7_init 118 = .ok (.iconst 0, 1) := by decide +kernel
theorem dX7_init_119 : decode cX7_init 119 = .ok (.putfield 65, 3) := by decide +kernel
theorem dX7_init_122 : decode cX7_init 122 = .ok (.return_, 1) := by decide +kernel
set_option maxRecDepth 20000 in
theorem ggX7_begin_X7_beforeChange : GoodIn wsX7_begin wsX7_beforeChange := goodIn_r _ [9, 10, 3, 11, 12, 13, 14, 15, 16, 17, 18, 19, 20, 21, 22, 23, 24, 25, 26, 27, 28, 29, 30, 31, 32, 33, 8, 34, 35, 36, 41, 42, 43, 44, 45, 46, 47, 48, 49, 50, 59, 60, 51, 52, 53, 54, 55, 56, 57, 58] (by decide +kernel) (by decide +kernel)
set_option maxRecDepth 20000 in
theorem gX7_begin_X7_beforeChange : GoodIn wsX7_begin (wsV RX7 79 RX7 yX7_beforeChange wsX7_beforeChange) := goodIn_app (goodIn_of _ (by decide +kernel)) ggX7_begin_X7_beforeChange
set_option maxRecDepth 20000 in
theorem ggX7_begin_X5_clear : GoodIn wsX7_begin wsX5_clear := goodIn_r _ [40, 23, 24, 51, 52, 53, 54, 55, 56, 57, 58] (by decide +kernel) (by decide +kernel)
set_option maxRecDepth 20000 in
theorem gX7_begin_X5_clear : GoodIn wsX7_begin (wsV RX7 82 RX5 yX5_clear wsX5_clear) := goodIn_app (goodIn_of _ (by decide +kernel)) ggX7_begin_X5_clear
theorem dX7_begin_0 : decode cX7_begin 0 = .ok (.iload_n 1, 1) := by decide +kernel
theorem dX7_begin_1 : decode cX7_begin 1 = .ok (.iconst 1, 1) := by decide +kernel
theorem dX7_begin_2 : decode cX7_begin 2 = .ok (.if_icmp .lt 8, 3) := by decide +kernel
theorem dX7_begin_5 : decode cX7_begin 5 = .ok (.iload_n 1, 1) := by decide +kernel
theorem dX7_begin_6 : decode cX7_begin 6 = .ok (.iconst 3, 1) := by decide +kernel
theorem dX7_begin_7 : decode cX7_begin 7 = .ok (.if_icmp .le 13, 3) := by decide +kernel
theorem dX7_begin_10 : decode cX7_begin 10 = .ok (.new 68, 3) := by decide +kernel
theorem dX7_begin_13 : decode cX7_begin 13 = .ok (.dup, 1) := by decide +kernel
theorem dX7_begin_14 : decode cX7_begin 14 = .ok (.ldc 70, 2) := by decide +kernel
theorem dX7_begin_16 : decode cX7_begin 16 = .ok (.invokespecial 72, 3) := by decide +kernel
theorem dX7_begin_19 : decode cX7_begin 19 = .ok (.athrow, 1) := by decide +kernel
theorem dX7_begin_20 : decode cX7_begin 20 = .ok (.aload_n 0, 1) := by decide +kernel
theorem dX7_begin_21 : decode cX7_begin 21 = .ok (.getfield 12, 3) := by decide +kernel
theorem dX7_begin_24 : decode cX7_begin 24 = .ok (.getfield 75, 3) := by decide +kernel
theorem dX7_begin_27 : decode cX7_begin 27 = .ok (.istore_n 2, 1) := by decide +kernel
theorem dX7_begin_28 : decode cX7_begin 28 = .ok (.aload_n 0, 1) := by decide +kernel
theorem dX7_begin_29 : decode cX7_begin 29 = .ok (.invokevirtual 79, 3) := by decide +kernel
theorem dX7_begin_32 : decode cX7_begin 32 = .ok (.aload_n 0, 1) := by decide +kernel
theorem dX7_begin_33 : decode cX7_begin 33 = .ok (.getfield 12, 3) := by decide +kernel
theorem dX7_begin_36 : decode cX7_begin 36 = .ok (.iload_n 1, 1) := by decide +kernel
theorem dX7_begin_37 : decode cX7_begin 37 = .ok (.invokevirtual 82, 3) := by decide +kernel
theorem dX7_begin_40 : decode cX7_begin 40 = .ok (.iload_n 2, 1) := by decide +kernel
theorem dX7_begin_41 : decode cX7_begin 41 = .ok (.ireturn, 1) := by decide +kernel
set_option maxRecDepth 20000 in
theorem ggX7_addTask_X5_faultOfAdding : GoodIn wsX7_addTask wsX5_faultOfAdding := goodIn_r _ [7, 8, 9, 10, 11, 12, 6, 13, 66, 67, 68, 69, 70, 71, 72, 73] (by decide +kernel) (by decide +kernel)
set_option maxRecDepth 20000 in
theorem gX7_addTask_X5_faultOfAdding : GoodIn wsX7_addTask (wsV RX7 86 RX5 yX5_faultOfAdding wsX5_faultOfAdding) := goodIn_app (goodIn_of _ (by decide +kernel)) ggX7_addTask_X5_faultOfAdding
set_option maxRecDepth 20000 in
theorem ggX7_addTask_X7_refuse : GoodIn wsX7_addTask wsX7_refuse := goodIn_ca (goodIn_ca (goodIn_ca (goodIn_r _ [17, 18, 19, 20, 21, 22, 23] (by decide +kernel) (by decide +kernel)) (goodIn_sub (fun _ h => List.mem_cons_of_mem _ (List.mem_append_left _ (List.mem_append_left _ (List.mem_append_right _ h)))) (by decide +kernel))) (goodIn_sub (fun _ h => List.mem_cons_of_mem _ (List.mem_append_left _ (List.mem_append_right _ h))) (by decide +kernel))) (goodIn_sub (fun _ h => List.mem_cons_of_mem _ (List.mem_append_right _ h)) (by decide +kernel))
set_option maxRecDepth 20000 in
theorem gX7_addTask_X7_refuse : GoodIn wsX7_addTask (va_wsS RX7 90 yX7_refuse wsX7_refuse) := goodIn_app (goodIn_of _ (by decide +kernel)) ggX7_addTask_X7_refuse
set_option maxRecDepth 20000 in
theorem ggX7_addTask_X7_beforeChange : GoodIn wsX7_addTask wsX7_beforeChange := goodIn_r _ [27, 28, 1, 29, 30, 31, 32, 33, 34, 35, 36, 37, 38, 6, 39, 8, 9, 40, 41, 42, 43, 44, 45, 46, 47, 48, 16, 49, 50, 51, 56, 57, 58, 59, 60, 61, 62, 63, 64, 65, 74, 75, 66, 67, 68, 69, 70, 71, 72, 73] (by decide +kernel) (by decide +kernel)
set_option maxRecDepth 20000 in
theorem gX7_addTask_X7_beforeChange : GoodIn wsX7_addTask (wsV RX7 79 RX7 yX7_beforeChange wsX7_beforeChange) := goodIn_app (goodIn_of _ (by decide +kernel)) ggX7_addTask_X7_beforeChange
set_option maxRecDepth 20000 in
theorem ggX7_addTask_X5_add : GoodIn wsX7_addTask wsX5_add := goodIn_r _ [55, 9, 40, 41, 42, 43, 44, 45, 66, 67, 68, 69, 70, 71, 72, 73] (by decide +kernel) (by decide +kernel)
set_option maxRecDepth 20000 in
theorem gX7_addTask_X5_add : GoodIn wsX7_addTask (wsV RX7 93 RX5 yX5_add wsX5_add) := goodIn_app (goodIn_of _ (by decide +kernel)) ggX7_addTask_X5_add
theorem dX7_addTask_0 : decode cX7_addTask 0 = .ok (.aload_n 0, 1) := by decide +kernel
theorem dX7_addTask_1 : decode cX7_addTask 1 = .ok (.getfield 12, 3) := by decide +kernel
theorem dX7_addTask_4 : decode cX7_addTask 4 = .ok (.iload_n 1, 1) := by decide +kernel
theorem dX7_addTask_5 : decode cX7_addTask 5 = .ok (.iload_n 2, 1) := by decide +kernel
theorem dX7_addTask_6 : decode cX7_addTask 6 = .ok (.iload_n 3, 1) := by decide +kernel
theorem dX7_addTask_7 : decode cX7_addTask 7 = .ok (.iload 4, 2) := by decide +kernel
theorem dX7_addTask_9 : decode cX7_addTask 9 = .ok (.invokevirtual 86, 3) := by decide +kernel
theorem dX7_addTask_12 : decode cX7_addTask 12 = .ok (.invokestatic 90, 3) := by decide +kernel
theorem dX7_addTask_15 : decode cX7_addTask 15 = .ok (.aload_n 0, 1) := by decide +kernel
theorem dX7_addTask_16 : decode cX7_addTask 16 = .ok (.invokevirtual 79, 3) := by decide +kernel
theorem dX7_addTask_19 : decode cX7_addTask 19 = .ok (.aload_n 0, 1) := by decide +kernel
theorem dX7_addTask_20 : decode cX7_addTask 20 = .ok (.getfield 12, 3) := by decide +kernel
theorem dX7_addTask_23 : decode cX7_addTask 23 = .ok (.iload_n 1, 1) := by decide +kernel
theorem dX7_addTask_24 : decode cX7_addTask 24 = .ok (.iload_n 2, 1) := by decide +kernel
theorem dX7_addTask_25 : decode cX7_addTask 25 = .ok (.iload_n 3, 1) := by decide +kernel
theorem dX7_addTask_26 : decode cX7_addTask 26 = .ok (.iload 4, 2) := by decide +kernel
theorem dX7_addTask_28 : decode cX7_addTask 28 = .ok (.invokevirtual 93, 3) := by decide +kernel
theorem dX7_addTask_31 : decode cX7_addTask 31 = .ok (.aload_n 0, 1) := by decide +kernel
theorem dX7_addTask_32 : decode cX7_addTask 32 = .ok (.getfield 12, 3) := by decide +kernel
theorem dX7_addTask_35 : decode cX7_addTask 35 = .ok (.getfield 75, 3) := by decide +kernel
theorem dX7_addTask_38 : decode cX7_addTask 38 = .ok (.iconst 1, 1) := by decide +kernel
theorem dX7_addTask_39 : decode cX7_addTask 39 = .ok (.isub, 1) := by decide +kernel
theorem dX7_addTask_40 : decode cX7_addTask 40 = .ok (.ireturn, 1) := by decide +kernel
set_option maxRecDepth 20000 in
theorem ggX7_give_X5_faultOfGiving : GoodIn wsX7_give wsX5_faultOfGiving := goodIn_r _ [6, 7, 8, 9, 5, 10, 11, 12, 13, 14, 15, 16, 17, 18, 19, 20, 21, 22, 23, 86, 87, 88, 89, 90, 91, 92, 93] (by decide +kernel) (by decide +kernel)
set_option maxRecDepth 20000 in
theorem gX7_give_X5_faultOfGiving : GoodIn wsX7_give (wsV RX7 113 RX5 yX5_faultOfGiving wsX5_faultOfGiving) := goodIn_app (goodIn_of _ (by decide +kernel)) ggX7_give_X5_faultOfGiving
set_option maxRecDepth 20000 in
theorem ggX7_give_X7_refuse : GoodIn wsX7_give wsX7_refuse := goodIn_ca (goodIn_ca (goodIn_ca (goodIn_r _ [26, 27, 28, 29, 30, 31, 32] (by decide +kernel) (by decide +kernel)) (goodIn_sub (fun _ h => List.mem_cons_of_mem _ (List.mem_append_left _ (List.mem_append_left _ (List.mem_append_right _ h)))) (by decide +kernel))) (goodIn_sub (fun _ h => List.mem_cons_of_mem _ (List.mem_append_left _ (List.mem_append_right _ h))) (by decide +kernel))) (goodIn_sub (fun _ h => List.mem_cons_of_mem _ (List.mem_append_right _ h)) (by decide +kernel))
set_option maxRecDepth 20000 in
theorem gX7_give_X7_refuse : GoodIn wsX7_give (va_wsS RX7 90 yX7_refuse wsX7_refuse) := goodIn_app (goodIn_of _ (by decide +kernel)) ggX7_give_X7_refuse
set_option maxRecDepth 20000 in
theorem ggX7_give_X7_beforeChange : GoodIn wsX7_give wsX7_beforeChange := goodIn_r _ [36, 37, 1, 38, 39, 40, 41, 42, 43, 44, 45, 46, 47, 5, 48, 49, 11, 50, 51, 52, 53, 54, 16, 55, 56, 57, 18, 58, 59, 60, 76, 77, 78, 79, 80, 81, 82, 83, 84, 85, 94, 95, 86, 87, 88, 89, 90, 91, 92, 93] (by decide +kernel) (by decide +kernel)
set_option maxRecDepth 20000 in
theorem gX7_give_X7_beforeChange : GoodIn wsX7_give (wsV RX7 79 RX7 yX7_beforeChange wsX7_beforeChange) := goodIn_app (goodIn_of _ (by decide +kernel)) ggX7_give_X7_beforeChange
set_option maxRecDepth 20000 in
theorem ggX7_give_X5_setGiven : GoodIn wsX7_give wsX5_setGiven := goodIn_r _ [64, 16, 54, 86, 87, 88, 89, 90, 91, 92, 93] (by decide +kernel) (by decide +kernel)
set_option maxRecDepth 20000 in
theorem gX7_give_X5_setGiven : GoodIn wsX7_give (wsV RX7 117 RX5 yX5_setGiven wsX5_setGiven) := goodIn_app (goodIn_of _ (by decide +kernel)) ggX7_give_X5_setGiven
set_option maxRecDepth 20000 in
theorem ggX7_give_X5_countGiven : GoodIn wsX7_give wsX5_countGiven := goodIn_r _ [68, 11, 16, 69, 70, 71, 72, 73, 74, 75, 86, 87, 88, 89, 90, 91, 92, 93] (by decide +kernel) (by decide +kernel)
set_option maxRecDepth 20000 in
theorem gX7_give_X5_countGiven : GoodIn wsX7_give (wsV RX7 121 RX5 yX5_countGiven wsX5_countGiven) := goodIn_app (goodIn_of _ (by decide +kernel)) ggX7_give_X5_countGiven
theorem dX7_give_0 : decode cX7_give 0 = .ok (.aload_n 0, 1) := by decide +kernel
theorem dX7_give_1 : decode cX7_give 1 = .ok (.getfield 12, 3) := by decide +kernel
theorem dX7_give_4 : decode cX7_give 4 = .ok (.iload_n 1, 1) := by decide +kernel
theorem dX7_give_5 : decode cX7_give 5 = .ok (.iload_n 2, 1) := by decide +kernel
theorem dX7_give_6 : decode cX7_give 6 = .ok (.iload_n 3, 1) := by decide +kernel
theorem dX7_give_7 : decode cX7_give 7 = .ok (.invokevirtual 113, 3) := by decide +kernel
theorem dX7_give_10 : decode cX7_give 10 = .ok (.invokestatic 90, 3) := by decide +kernel
theorem dX7_give_13 : decode cX7_give 13 = .ok (.aload_n 0, 1) := by decide +kernel
theorem dX7_give_14 : decode cX7_give 14 = .ok (.invokevirtual 79, 3) := by decide +kernel
theorem dX7_give_17 : decode cX7_give 17 = .ok (.aload_n 0, 1) := by decide +kernel
theorem dX7_give_18 : decode cX7_give 18 = .ok (.getfield 12, 3) := by decide +kernel
theorem dX7_give_21 : decode cX7_give 21 = .ok (.iload_n 1, 1) := by decide +kernel
theorem dX7_give_22 : decode cX7_give 22 = .ok (.iload_n 2, 1) := by decide +kernel
theorem dX7_give_23 : decode cX7_give 23 = .ok (.iload_n 3, 1) := by decide +kernel
theorem dX7_give_24 : decode cX7_give 24 = .ok (.invokevirtual 117, 3) := by decide +kernel
theorem dX7_give_27 : decode cX7_give 27 = .ok (.aload_n 0, 1) := by decide +kernel
theorem dX7_give_28 : decode cX7_give 28 = .ok (.getfield 12, 3) := by decide +kernel
theorem dX7_give_31 : decode cX7_give 31 = .ok (.invokevirtual 121, 3) := by decide +kernel
theorem dX7_give_34 : decode cX7_give 34 = .ok (.ireturn, 1) := by decide +kernel
set_option maxRecDepth 20000 in
theorem ggX7_giveDominance_X7_beforeChange : GoodIn wsX7_giveDominance wsX7_beforeChange := goodIn_r _ [7, 8, 1, 9, 10, 11, 12, 13, 14, 15, 16, 17, 18, 19, 20, 21, 22, 23, 24, 25, 26, 27, 28, 29, 30, 31, 6, 32, 33, 34, 54, 55, 56, 57, 58, 59, 60, 61, 62, 63, 72, 73, 64, 65, 66, 67, 68, 69, 70, 71] (by decide +kernel) (by decide +kernel)
set_option maxRecDepth 20000 in
theorem gX7_giveDominance_X7_beforeChange : GoodIn wsX7_giveDominance (wsV RX7 79 RX7 yX7_beforeChange wsX7_beforeChange) := goodIn_app (goodIn_of _ (by decide +kernel)) ggX7_giveDominance_X7_beforeChange
set_option maxRecDepth 20000 in
theorem ggX7_giveDominance_X5_outranks : GoodIn wsX7_giveDominance wsX5_outranks := goodIn_r _ [38, 23, 26, 24, 25, 27, 28, 39, 40, 41, 19, 42, 43, 6, 44, 64, 65, 66, 67, 68, 69, 70, 71] (by decide +kernel) (by decide +kernel)
set_option maxRecDepth 20000 in
theorem gX7_giveDominance_X5_outranks : GoodIn wsX7_giveDominance (wsV RX7 125 RX5 yX5_outranks wsX5_outranks) := goodIn_app (goodIn_of _ (by decide +kernel)) ggX7_giveDominance_X5_outranks
set_option maxRecDepth 20000 in
theorem ggX7_giveDominance_X5_isGiven : GoodIn wsX7_giveDominance wsX5_isGiven := goodIn_r _ [42, 28, 43, 6, 44, 64, 65, 66, 67, 68, 69, 70, 71] (by decide +kernel) (by decide +kernel)
set_option maxRecDepth 20000 in
theorem gX7_giveDominance_X5_isGiven : GoodIn wsX7_giveDominance (wsV RX7 128 RX5 yX5_isGiven wsX5_isGiven) := goodIn_app (goodIn_of _ (by decide +kernel)) ggX7_giveDominance_X5_isGiven
set_option maxRecDepth 20000 in
theorem ggX7_giveDominance_X5_leads : GoodIn wsX7_giveDominance wsX5_leads := goodIn_r _ [49, 28, 22, 43, 6, 44, 64, 65, 66, 67, 68, 69, 70, 71] (by decide +kernel) (by decide +kernel)
set_option maxRecDepth 20000 in
theorem gX7_giveDominance_X5_leads : GoodIn wsX7_giveDominance (wsV RX7 131 RX5 yX5_leads wsX5_leads) := goodIn_app (goodIn_of _ (by decide +kernel)) ggX7_giveDominance_X5_leads
set_option maxRecDepth 20000 in
theorem ggX7_giveDominance_X5_setGiven : GoodIn wsX7_giveDominance wsX5_setGiven := goodIn_r _ [53, 28, 27, 64, 65, 66, 67, 68, 69, 70, 71] (by decide +kernel) (by decide +kernel)
set_option maxRecDepth 20000 in
theorem gX7_giveDominance_X5_setGiven : GoodIn wsX7_giveDominance (wsV RX7 117 RX5 yX5_setGiven wsX5_setGiven) := goodIn_app (goodIn_of _ (by decide +kernel)) ggX7_giveDominance_X5_setGiven
theorem dX7_giveDominance_0 : decode cX7_giveDominance 0 = .ok (.aload_n 0, 1) := by decide +kernel
theorem dX7_giveDominance_1 : decode cX7_giveDominance 1 = .ok (.invokevirtual 79, 3) := by decide +kernel
theorem dX7_giveDominance_4 : decode cX7_giveDominance 4 = .ok (.iconst 0, 1) := by decide +kernel
theorem dX7_giveDominance_5 : decode cX7_giveDominance 5 = .ok (.istore_n 1, 1) := by decide +kernel
theorem dX7_giveDominance_6 : decode cX7_giveDominance 6 = .ok (.iconst 0, 1) := by decide +kernel
theorem dX7_giveDominance_7 : decode cX7_giveDominance 7 = .ok (.istore_n 2, 1) := by decide +kernel
theorem dX7_giveDominance_8 : decode cX7_giveDominance 8 = .ok (.iload_n 2, 1) := by decide +kernel
theorem dX7_giveDominance_9 : decode cX7_giveDominance 9 = .ok (.aload_n 0, 1) := by decide +kernel
theorem dX7_giveDominance_10 : decode cX7_giveDominance 10 = .ok (.getfield 12, 3) := by decide +kernel
theorem dX7_giveDominance_13 : decode cX7_giveDominance 13 = .ok (.getfield 75, 3) := by decide +kernel
theorem dX7_giveDominance_16 : decode cX7_giveDominance 16 = .ok (.if_icmp .ge 77, 3) := by decide +kernel
theorem dX7_giveDominance_19 : decode cX7_giveDominance 19 = .ok (.iconst 0, 1) := by decide +kernel
theorem dX7_giveDominance_20 : decode cX7_giveDominance 20 = .ok (.istore_n 3, 1) := by decide +kernel
theorem dX7_giveDominance_21 : decode cX7_giveDominance 21 = .ok (.iload_n 3, 1) := by decide +kernel
theorem dX7_giveDominance_22 : decode cX7_giveDominance 22 = .ok (.aload_n 0, 1) := by decide +kernel
theorem dX7_giveDominance_23 : decode cX7_giveDominance 23 = .ok (.getfield 12, 3) := by decide +kernel
theorem dX7_giveDominance_26 : decode cX7_giveDominance 26 = .ok (.getfield 75, 3) := by decide +kernel
theorem dX7_giveDominance_29 : decode cX7_giveDominance 29 = .ok (.if_icmp .ge 58, 3) := by decide +kernel
theorem dX7_giveDominance_32 : decode cX7_giveDominance 32 = .ok (.aload_n 0, 1) := by decide +kernel
theorem dX7_giveDominance_33 : decode cX7_giveDominance 33 = .ok (.getfield 12, 3) := by decide +kernel
theorem dX7_giveDominance_36 : decode cX7_giveDominance 36 = .ok (.iload_n 2, 1) := by decide +kernel
theorem dX7_giveDominance_37 : decode cX7_giveDominance 37 = .ok (.iload_n 3, 1) := by decide +kernel
theorem dX7_giveDominance_38 : decode cX7_giveDominance 38 = .ok (.invokevirtual 125, 3) := by decide +kernel
theorem dX7_giveDominance_41 : decode cX7_giveDominance 41 = .ok (.ifCond .eq 40, 3) := by decide +kernel
theorem dX7_giveDominance_44 : decode cX7_giveDominance 44 = .ok (.aload_n 0, 1) := by decide +kernel
theorem dX7_giveDominance_45 : decode cX7_giveDominance 45 = .ok (.getfield 12, 3) := by decide +kernel
theorem dX7_giveDominance_48 : decode cX7_giveDominance 48 = .ok (.iload_n 2, 1) := by decide +kernel
theorem dX7_giveDominance_49 : decode cX7_giveDominance 49 = .ok (.iload_n 3, 1) := by decide +kernel
theorem dX7_giveDominance_50 : decode cX7_giveDominance 50 = .ok (.invokevirtual 128, 3) := by decide +kernel
theorem dX7_giveDominance_53 : decode cX7_giveDominance 53 = .ok (.ifCond .ne 28, 3) := by decide +kernel
theorem dX7_giveDominance_56 : decode cX7_giveDominance 56 = .ok (.aload_n 0, 1) := by decide +kernel
theorem dX7_giveDominance_57 : decode cX7_giveDominance 57 = .ok (.getfield 12, 3) := by decide +kernel
theorem dX7_giveDominance_60 : decode cX7_giveDominance 60 = .ok (.iload_n 3, 1) := by decide +kernel
theorem dX7_giveDominance_61 : decode cX7_giveDominance 61 = .ok (.iload_n 2, 1) := by decide +kernel
theorem dX7_giveDominance_62 : decode cX7_giveDominance 62 = .ok (.invokevirtual 131, 3) := by decide +kernel
theorem dX7_giveDominance_65 : decode cX7_giveDominance 65 = .ok (.ifCond .ne 16, 3) := by decide +kernel
theorem dX7_giveDominance_68 : decode cX7_giveDominance 68 = .ok (.aload_n 0, 1) := by decide +kernel
theorem dX7_giveDominance_69 : decode cX7_giveDominance 69 = .ok (.getfield 12, 3) := by decide +kernel
theorem dX7_giveDominance_72 : decode cX7_giveDominance 72 = .ok (.iload_n 2, 1) := by decide +kernel
theorem dX7_giveDominance_73 : decode cX7_giveDominance 73 = .ok (.iload_n 3, 1) := by decide +kernel
theorem dX7_giveDominance_74 : decode cX7_giveDominance 74 = .ok (.iconst 1, 1) := by decide +kernel
theorem dX7_giveDominance_75 : decode cX7_giveDominance 75 = .ok (.invokevirtual 117, 3) := by decide +kernel
theorem dX7_giveDominance_78 : decode cX7_giveDominance 78 = .ok (.iinc 1 1, 3) := by decide +kernel
theorem dX7_giveDominance_81 : decode cX7_giveDominance 81 = .ok (.iinc 3 1, 3) := by decide +kernel
theorem dX7_giveDominance_84 : decode cX7_giveDominance 84 = .ok (.goto (-63), 3) := by decide +kernel
theorem dX7_giveDominance_87 : decode cX7_giveDominance 87 = .ok (.iinc 2 1, 3) := by decide +kernel
theorem dX7_giveDominance_90 : decode cX7_giveDominance 90 = .ok (.goto (-82), 3) := by decide +kernel
theorem dX7_giveDominance_93 : decode cX7_giveDominance 93 = .ok (.iload_n 1, 1) := by decide +kernel
theorem dX7_giveDominance_94 : decode cX7_giveDominance 94 = .ok (.ireturn, 1) := by decide +kernel
set_option maxRecDepth 20000 in
theorem ggX7_task_X7_refuseUnknown : GoodIn wsX7_task wsX7_refuseUnknown := goodIn_ca (goodIn_r _ [8, 9, 10, 3, 11, 12, 13, 14, 15, 16, 27, 28, 29, 30, 31, 32, 33, 34, 35, 36, 37, 38, 39, 40, 41, 42, 43, 44] (by decide +kernel) (by decide +kernel)) (goodIn_sub (fun _ h => List.mem_cons_of_mem _ (List.mem_append_right _ h)) (by decide +kernel))
set_option maxRecDepth 20000 in
theorem gX7_task_X7_refuseUnknown : GoodIn wsX7_task (wsV RX7 97 RX7 yX7_refuseUnknown wsX7_refuseUnknown) := goodIn_app (goodIn_of _ (by decide +kernel)) ggX7_task_X7_refuseUnknown
set_option maxRecDepth 20000 in
theorem ggX7_task_X5_aspect : GoodIn wsX7_task wsX5_aspect := goodIn_r _ [20, 21, 22, 23, 24, 25, 26, 37, 38, 39, 40, 41, 42, 43, 44] (by decide +kernel) (by decide +kernel)
set_option maxRecDepth 20000 in
theorem gX7_task_X5_aspect : GoodIn wsX7_task (wsV RX7 136 RX5 yX5_aspect wsX5_aspect) := goodIn_app (goodIn_of _ (by decide +kernel)) ggX7_task_X5_aspect
theorem dX7_task_0 : decode cX7_task 0 = .ok (.aload_n 0, 1) := by decide +kernel
theorem dX7_task_1 : decode cX7_task 1 = .ok (.iload_n 1, 1) := by decide +kernel
theorem dX7_task_2 : decode cX7_task 2 = .ok (.invokevirtual 97, 3) := by decide +kernel
theorem dX7_task_5 : decode cX7_task 5 = .ok (.iload_n 2, 1) := by decide +kernel
theorem dX7_task_6 : decode cX7_task 6 = .ok (.ifCond .lt 9, 3) := by decide +kernel
theorem dX7_task_9 : decode cX7_task 9 = .ok (.iload_n 2, 1) := by decide +kernel
theorem dX7_task_10 : decode cX7_task 10 = .ok (.bipush 6, 2) := by decide +kernel
theorem dX7_task_12 : decode cX7_task 12 = .ok (.if_icmp .lt 13, 3) := by decide +kernel
theorem dX7_task_15 : decode cX7_task 15 = .ok (.new 68, 3) := by decide +kernel
theorem dX7_task_18 : decode cX7_task 18 = .ok (.dup, 1) := by decide +kernel
theorem dX7_task_19 : decode cX7_task 19 = .ok (.ldc 134, 2) := by decide +kernel
theorem dX7_task_21 : decode cX7_task 21 = .ok (.invokespecial 72, 3) := by decide +kernel
theorem dX7_task_24 : decode cX7_task 24 = .ok (.athrow, 1) := by decide +kernel
theorem dX7_task_25 : decode cX7_task 25 = .ok (.aload_n 0, 1) := by decide +kernel
theorem dX7_task_26 : decode cX7_task 26 = .ok (.getfield 12, 3) := by decide +kernel
theorem dX7_task_29 : decode cX7_task 29 = .ok (.iload_n 1, 1) := by decide +kernel
theorem dX7_task_30 : decode cX7_task 30 = .ok (.iload_n 2, 1) := by decide +kernel
theorem dX7_task_31 : decode cX7_task 31 = .ok (.invokevirtual 136, 3) := by decide +kernel
theorem dX7_task_34 : decode cX7_task 34 = .ok (.ireturn, 1) := by decide +kernel
set_option maxRecDepth 20000 in
theorem ggX7_value_X7_number : GoodIn wsX7_value wsX7_number := goodIn_r _ [7, 8, 9, 10, 11, 12, 13, 14, 15, 16, 17, 18, 19, 20, 21, 22, 23, 24, 25, 26, 27, 28, 29, 30, 31, 32, 33, 34, 6, 35, 36, 37, 38, 39, 40, 41, 42, 43, 44, 45, 46, 47, 48, 49, 50, 51, 52, 53, 54, 55, 56, 57, 58, 59, 60, 61, 62, 63, 64, 65, 66, 67, 68, 69, 70, 71, 72, 73, 74, 75, 76, 77, 78, 79, 80, 81, 82, 83, 84, 85, 86, 87, 88, 89, 90, 91, 92, 93, 94, 95, 96, 97, 98, 99, 100, 101, 102, 103, 104, 105, 106, 107, 108, 109, 110, 111, 112, 113, 114, 115, 116, 117, 118, 119, 120, 121, 122, 123, 124, 125, 126, 127, 128, 129, 130, 131, 132, 133, 134, 135, 136, 137, 138, 139, 140, 141, 142, 143, 144, 145, 146, 147, 148, 149, 150, 151, 152, 153, 154, 155, 156, 157, 158, 159, 160, 161, 162] (by decide +kernel) (by decide +kernel)
set_option maxRecDepth 20000 in
theorem gX7_value_X7_number : GoodIn wsX7_value (wsV RX7 140 RX7 yX7_number wsX7_number) := goodIn_app (goodIn_of _ (by decide +kernel)) ggX7_value_X7_number
theorem dX7_value_0 : decode cX7_value 0 = .ok (.iload_n 1, 1) := by decide +kernel
theorem dX7_value_1 : decode cX7_value 1 = .ok (.ifCond .lt 9, 3) := by decide +kernel
theorem dX7_value_4 : decode cX7_value 4 = .ok (.iload_n 1, 1) := by decide +kernel
theorem dX7_value_5 : decode cX7_value 5 = .ok (.bipush 6, 2) := by decide +kernel
theorem dX7_value_7 : decode cX7_value 7 = .ok (.if_icmp .lt 13, 3) := by decide +kernel
theorem dX7_value_10 : decode cX7_value 10 = .ok (.new 68, 3) := by decide +kernel
theorem dX7_value_13 : decode cX7_value 13 = .ok (.dup, 1) := by decide +kernel
theorem dX7_value_14 : decode cX7_value 14 = .ok (.ldc 134, 2) := by decide +kernel
theorem dX7_value_16 : decode cX7_value 16 = .ok (.invokespecial 72, 3) := by decide +kernel
theorem dX7_value_19 : decode cX7_value 19 = .ok (.athrow, 1) := by decide +kernel
theorem dX7_value_20 : decode cX7_value 20 = .ok (.aload_n 0, 1) := by decide +kernel
theorem dX7_value_21 : decode cX7_value 21 = .ok (.iload_n 1, 1) := by decide +kernel
theorem dX7_value_22 : decode cX7_value 22 = .ok (.invokevirtual 140, 3) := by decide +kernel
theorem dX7_value_25 : decode cX7_value 25 = .ok (.ireturn, 1) := by decide +kernel
set_option maxRecDepth 20000 in
theorem ggX7_firstStart_X7_refuseUnknown : GoodIn wsX7_firstStart wsX7_refuseUnknown := goodIn_ca (goodIn_r _ [7, 8, 9, 10, 11, 12, 13, 14, 15, 16, 120, 121, 122, 123, 124, 125, 126, 127, 128, 129, 139, 140, 141, 142, 143, 144, 145, 146] (by decide +kernel) (by decide +kernel)) (goodIn_sub (fun _ h => List.mem_cons_of_mem _ (List.mem_append_left _ (List.mem_append_right _ h))) (by decide +kernel))
set_option maxRecDepth 20000 in
theorem gX7_firstStart_X7_refuseUnknown : GoodIn wsX7_firstStart (wsV RX7 97 RX7 yX7_refuseUnknown wsX7_refuseUnknown) := goodIn_app (goodIn_of _ (by decide +kernel)) ggX7_firstStart_X7_refuseUnknown
set_option maxRecDepth 20000 in
theorem ggX7_firstStart_X7_refuseContradiction : GoodIn wsX7_firstStart wsX7_refuseContradiction := goodIn_ca (goodIn_r _ [20, 21, 22, 1, 23, 24, 25, 26, 6, 27, 28, 29, 30, 31, 32, 33, 34, 35, 36, 37, 38, 39, 40, 41, 42, 43, 44, 45, 46, 47, 48, 49, 50, 51, 52, 53, 54, 55, 56, 57, 58, 59, 60, 61, 62, 63, 64, 65, 66, 67, 68, 69, 70, 71, 72, 73, 74, 75, 76, 77, 78, 79, 80, 81, 82, 83, 84, 85, 86, 87, 88, 89, 90, 91, 92, 93, 94, 95, 96, 97, 98, 99, 100, 101, 102, 103, 104, 105, 106, 107, 108, 109, 110, 111, 112, 113, 114, 115, 116, 117, 118, 119, 120, 121, 122, 123, 124, 125, 126, 127, 128, 129, 130, 131, 132, 133, 134, 135, 136, 137, 138, 139, 140, 141, 142, 143, 144, 145, 146] (by decide +kernel) (by decide +kernel)) (goodIn_sub (fun _ h => List.mem_cons_of_mem _ (List.mem_append_right _ h)) (by decide +kernel))
set_option maxRecDepth 20000 in
theorem gX7_firstStart_X7_refuseContradiction : GoodIn wsX7_firstStart (wsV RX7 144 RX7 yX7_refuseContradiction wsX7_refuseContradiction) := goodIn_app (goodIn_of _ (by decide +kernel)) ggX7_firstStart_X7_refuseContradiction
theorem dX7_firstStart_0 : decode cX7_firstStart 0 = .ok (.aload_n 0, 1) := by decide +kernel
theorem dX7_firstStart_1 : decode cX7_firstStart 1 = .ok (.iload_n 1, 1) := by decide +kernel
theorem dX7_firstStart_2 : decode cX7_firstStart 2 = .ok (.invokevirtual 97, 3) := by decide +kernel
theorem dX7_firstStart_5 : decode cX7_firstStart 5 = .ok (.aload_n 0, 1) := by decide +kernel
theorem dX7_firstStart_6 : decode cX7_firstStart 6 = .ok (.invokevirtual 144, 3) := by decide +kernel
theorem dX7_firstStart_9 : decode cX7_firstStart 9 = .ok (.aload_n 0, 1) := by decide +kernel
theorem dX7_firstStart_10 : decode cX7_firstStart 10 = .ok (.getfield 21, 3) := by decide +kernel
theorem dX7_firstStart_13 : decode cX7_firstStart 13 = .ok (.getfield 147, 3) := by decide +kernel
theorem dX7_firstStart_16 : decode cX7_firstStart 16 = .ok (.iload_n 1, 1) := by decide +kernel
theorem dX7_firstStart_17 : decode cX7_firstStart 17 = .ok (.iaload, 1) := by decide +kernel
theorem dX7_firstStart_18 : decode cX7_firstStart 18 = .ok (.ireturn, 1) := by decide +kernel
set_option maxRecDepth 20000 in
theorem ggX7_lastEnd_X7_refuseUnknown : GoodIn wsX7_lastEnd wsX7_refuseUnknown := goodIn_ca (goodIn_r _ [7, 8, 9, 10, 11, 12, 13, 14, 15, 16, 120, 121, 122, 123, 124, 125, 126, 127, 128, 129, 139, 140, 141, 142, 143, 144, 145, 146] (by decide +kernel) (by decide +kernel)) (goodIn_sub (fun _ h => List.mem_cons_of_mem _ (List.mem_append_left _ (List.mem_append_right _ h))) (by decide +kernel))
set_option maxRecDepth 20000 in
theorem gX7_lastEnd_X7_refuseUnknown : GoodIn wsX7_lastEnd (wsV RX7 97 RX7 yX7_refuseUnknown wsX7_refuseUnknown) := goodIn_app (goodIn_of _ (by decide +kernel)) ggX7_lastEnd_X7_refuseUnknown
set_option maxRecDepth 20000 in
theorem ggX7_lastEnd_X7_refuseContradiction : GoodIn wsX7_lastEnd wsX7_refuseContradiction := goodIn_ca (goodIn_r _ [20, 21, 22, 1, 23, 24, 25, 26, 6, 27, 28, 29, 30, 31, 32, 33, 34, 35, 36, 37, 38, 39, 40, 41, 42, 43, 44, 45, 46, 47, 48, 49, 50, 51, 52, 53, 54, 55, 56, 57, 58, 59, 60, 61, 62, 63, 64, 65, 66, 67, 68, 69, 70, 71, 72, 73, 74, 75, 76, 77, 78, 79, 80, 81, 82, 83, 84, 85, 86, 87, 88, 89, 90, 91, 92, 93, 94, 95, 96, 97, 98, 99, 100, 101, 102, 103, 104, 105, 106, 107, 108, 109, 110, 111, 112, 113, 114, 115, 116, 117, 118, 119, 120, 121, 122, 123, 124, 125, 126, 127, 128, 129, 130, 131, 132, 133, 134, 135, 136, 137, 138, 139, 140, 141, 142, 143, 144, 145, 146] (by decide +kernel) (by decide +kernel)) (goodIn_sub (fun _ h => List.mem_cons_of_mem _ (List.mem_append_right _ h)) (by decide +kernel))
set_option maxRecDepth 20000 in
theorem gX7_lastEnd_X7_refuseContradiction : GoodIn wsX7_lastEnd (wsV RX7 144 RX7 yX7_refuseContradiction wsX7_refuseContradiction) := goodIn_app (goodIn_of _ (by decide +kernel)) ggX7_lastEnd_X7_refuseContradiction
theorem dX7_lastEnd_0 : decode cX7_lastEnd 0 = .ok (.aload_n 0, 1) := by decide +kernel
theorem dX7_lastEnd_1 : decode cX7_lastEnd 1 = .ok (.iload_n 1, 1) := by decide +kernel
theorem dX7_lastEnd_2 : decode cX7_lastEnd 2 = .ok (.invokevirtual 97, 3) := by decide +kernel
theorem dX7_lastEnd_5 : decode cX7_lastEnd 5 = .ok (.aload_n 0, 1) := by decide +kernel
theorem dX7_lastEnd_6 : decode cX7_lastEnd 6 = .ok (.invokevirtual 144, 3) := by decide +kernel
theorem dX7_lastEnd_9 : decode cX7_lastEnd 9 = .ok (.aload_n 0, 1) := by decide +kernel
theorem dX7_lastEnd_10 : decode cX7_lastEnd 10 = .ok (.getfield 21, 3) := by decide +kernel
theorem dX7_lastEnd_13 : decode cX7_lastEnd 13 = .ok (.getfield 150, 3) := by decide +kernel
theorem dX7_lastEnd_16 : decode cX7_lastEnd 16 = .ok (.iload_n 1, 1) := by decide +kernel
theorem dX7_lastEnd_17 : decode cX7_lastEnd 17 = .ok (.iaload, 1) := by decide +kernel
theorem dX7_lastEnd_18 : decode cX7_lastEnd 18 = .ok (.ireturn, 1) := by decide +kernel
set_option maxRecDepth 20000 in
theorem ggX7_precedes_X7_refuseUnknown : GoodIn wsX7_precedes wsX7_refuseUnknown := goodIn_ca (goodIn_r _ [6, 7, 8, 9, 10, 11, 12, 13, 14, 15, 123, 124, 125, 126, 127, 128, 129, 130, 131, 132, 133, 134, 135, 136, 137, 138, 139, 140] (by decide +kernel) (by decide +kernel)) (goodIn_sub (fun _ h => List.mem_cons_of_mem _ (List.mem_append_left _ (List.mem_append_right _ h))) (by decide +kernel))
set_option maxRecDepth 20000 in
theorem gX7_precedes_X7_refuseUnknown : GoodIn wsX7_precedes (wsV RX7 97 RX7 yX7_refuseUnknown wsX7_refuseUnknown) := goodIn_app (goodIn_of _ (by decide +kernel)) ggX7_precedes_X7_refuseUnknown
set_option maxRecDepth 20000 in
theorem ggX7_precedes_X7_refuseContradiction : GoodIn wsX7_precedes wsX7_refuseContradiction := goodIn_ca (goodIn_r _ [19, 20, 21, 1, 22, 23, 24, 25, 5, 26, 27, 28, 29, 30, 31, 32, 33, 34, 35, 36, 37, 38, 39, 40, 41, 42, 43, 44, 45, 46, 47, 48, 49, 50, 51, 52, 53, 54, 55, 56, 57, 58, 59, 60, 61, 62, 63, 64, 65, 66, 67, 68, 69, 70, 71, 72, 73, 74, 75, 76, 77, 78, 79, 80, 81, 82, 83, 84, 85, 86, 87, 88, 89, 90, 91, 92, 93, 94, 95, 96, 97, 98, 99, 100, 101, 102, 103, 104, 105, 106, 107, 108, 109, 110, 111, 112, 113, 114, 115, 116, 117, 118, 123, 124, 125, 126, 127, 128, 129, 130, 131, 132, 141, 142, 143, 144, 145, 146, 147, 148, 149, 133, 134, 135, 136, 137, 138, 139, 140] (by decide +kernel) (by decide +kernel)) (goodIn_sub (fun _ h => List.mem_cons_of_mem _ (List.mem_append_right _ h)) (by decide +kernel))
set_option maxRecDepth 20000 in
theorem gX7_precedes_X7_refuseContradiction : GoodIn wsX7_precedes (wsV RX7 144 RX7 yX7_refuseContradiction wsX7_refuseContradiction) := goodIn_app (goodIn_of _ (by decide +kernel)) ggX7_precedes_X7_refuseContradiction
set_option maxRecDepth 20000 in
theorem ggX7_precedes_X6_orders : GoodIn wsX7_precedes wsX6_orders := goodIn_r _ [122, 46, 53, 5, 54, 141, 142, 143, 144, 145, 146, 147, 148, 149] (by decide +kernel) (by decide +kernel)
set_option maxRecDepth 20000 in
theorem gX7_precedes_X6_orders : GoodIn wsX7_precedes (wsV RX7 153 RX6 yX6_orders wsX6_orders) := goodIn_app (goodIn_of _ (by decide +kernel)) ggX7_precedes_X6_orders
theorem dX7_precedes_0 : decode cX7_precedes 0 = .ok (.aload_n 0, 1) := by decide +kernel
theorem dX7_precedes_1 : decode cX7_precedes 1 = .ok (.iload_n 1, 1) := by decide +kernel
theorem dX7_precedes_2 : decode cX7_precedes 2 = .ok (.invokevirtual 97, 3) := by decide +kernel
theorem dX7_precedes_5 : decode cX7_precedes 5 = .ok (.aload_n 0, 1) := by decide +kernel
theorem dX7_precedes_6 : decode cX7_precedes 6 = .ok (.iload_n 2, 1) := by decide +kernel
theorem dX7_precedes_7 : decode cX7_precedes 7 = .ok (.invokevirtual 97, 3) := by decide +kernel
theorem dX7_precedes_10 : decode cX7_precedes 10 = .ok (.aload_n 0, 1) := by decide +kernel
theorem dX7_precedes_11 : decode cX7_precedes 11 = .ok (.invokevirtual 144, 3) := by decide +kernel
theorem dX7_precedes_14 : decode cX7_precedes 14 = .ok (.aload_n 0, 1) := by decide +kernel
theorem dX7_precedes_15 : decode cX7_precedes 15 = .ok (.getfield 21, 3) := by decide +kernel
theorem dX7_precedes_18 : decode cX7_precedes 18 = .ok (.iload_n 1, 1) := by decide +kernel
theorem dX7_precedes_19 : decode cX7_precedes 19 = .ok (.iload_n 2, 1) := by decide +kernel
theorem dX7_precedes_20 : decode cX7_precedes 20 = .ok (.invokevirtual 153, 3) := by decide +kernel
theorem dX7_precedes_23 : decode cX7_precedes 23 = .ok (.ireturn, 1) := by decide +kernel
set_option maxRecDepth 20000 in
theorem ggX7_why_X7_refuseUnknown : GoodIn wsX7_why wsX7_refuseUnknown := goodIn_ca (goodIn_r _ [6, 7, 8, 9, 10, 11, 12, 13, 14, 15, 136, 137, 138, 139, 140, 141, 142, 143, 144, 145, 146, 147, 148, 149, 150, 151, 152, 153] (by decide +kernel) (by decide +kernel)) (goodIn_sub (fun _ h => List.mem_cons_of_mem _ (List.mem_append_left _ (List.mem_append_right _ h))) (by decide +kernel))
set_option maxRecDepth 20000 in
theorem gX7_why_X7_refuseUnknown : GoodIn wsX7_why (wsV RX7 97 RX7 yX7_refuseUnknown wsX7_refuseUnknown) := goodIn_app (goodIn_of _ (by decide +kernel)) ggX7_why_X7_refuseUnknown
set_option maxRecDepth 20000 in
theorem ggX7_why_X7_refuseContradiction : GoodIn wsX7_why wsX7_refuseContradiction := goodIn_ca (goodIn_r _ [19, 20, 21, 1, 22, 23, 24, 25, 5, 26, 27, 28, 29, 30, 31, 32, 33, 34, 35, 36, 37, 38, 39, 40, 41, 42, 43, 44, 45, 46, 47, 48, 49, 50, 51, 52, 53, 54, 55, 56, 57, 58, 59, 60, 61, 62, 63, 64, 65, 66, 67, 68, 69, 70, 71, 72, 73, 74, 75, 76, 77, 78, 79, 80, 81, 82, 83, 84, 85, 86, 87, 88, 89, 90, 91, 92, 93, 94, 95, 96, 97, 98, 99, 100, 101, 102, 103, 104, 105, 106, 107, 108, 109, 110, 111, 112, 113, 114, 115, 116, 117, 118, 136, 137, 138, 139, 140, 141, 142, 143, 144, 145, 154, 155, 156, 157, 158, 159, 160, 161, 162, 146, 147, 148, 149, 150, 151, 152, 153] (by decide +kernel) (by decide +kernel)) (goodIn_sub (fun _ h => List.mem_cons_of_mem _ (List.mem_append_right _ h)) (by decide +kernel))
set_option maxRecDepth 20000 in
theorem gX7_why_X7_refuseContradiction : GoodIn wsX7_why (wsV RX7 144 RX7 yX7_refuseContradiction wsX7_refuseContradiction) := goodIn_app (goodIn_of _ (by decide +kernel)) ggX7_why_X7_refuseContradiction
set_option maxRecDepth 20000 in
theorem ggX7_why_X6_reason : GoodIn wsX7_why wsX6_reason := goodIn_r _ [122, 40, 123, 124, 125, 31, 126, 46, 53, 5, 54, 127, 128, 129, 13, 130, 131, 99, 100, 101, 102, 48, 42, 63, 44, 132, 133, 134, 135, 39, 107, 108, 109, 110, 76, 79, 77, 115, 116, 117, 118, 154, 155, 156, 157, 158, 159, 160, 161, 162, 146, 147, 148, 149, 150, 151, 152, 153] (by decide +kernel) (by decide +kernel)
set_option maxRecDepth 20000 in
theorem gX7_why_X6_reason : GoodIn wsX7_why (wsV RX7 156 RX6 yX6_reason wsX6_reason) := goodIn_app (goodIn_of _ (by decide +kernel)) ggX7_why_X6_reason
theorem dX7_why_0 : decode cX7_why 0 = .ok (.aload_n 0, 1) := by decide +kernel
theorem dX7_why_1 : decode cX7_why 1 = .ok (.iload_n 1, 1) := by decide +kernel
theorem dX7_why_2 : decode cX7_why 2 = .ok (.invokevirtual 97, 3) := by decide +kernel
theorem dX7_why_5 : decode cX7_why 5 = .ok (.aload_n 0, 1) := by decide +kernel
theorem dX7_why_6 : decode cX7_why 6 = .ok (.iload_n 2, 1) := by decide +kernel
theorem dX7_why_7 : decode cX7_why 7 = .ok (.invokevirtual 97, 3) := by decide +kernel
theorem dX7_why_10 : decode cX7_why 10 = .ok (.aload_n 0, 1) := by decide +kernel
theorem dX7_why_11 : decode cX7_why 11 = .ok (.invokevirtual 144, 3) := by decide +kernel
theorem dX7_why_14 : decode cX7_why 14 = .ok (.aload_n 0, 1) := by decide +kernel
theorem dX7_why_15 : decode cX7_why 15 = .ok (.getfield 21, 3) := by decide +kernel
theorem dX7_why_18 : decode cX7_why 18 = .ok (.iload_n 1, 1) := by decide +kernel
theorem dX7_why_19 : decode cX7_why 19 = .ok (.iload_n 2, 1) := by decide +kernel
theorem dX7_why_20 : decode cX7_why 20 = .ok (.invokevirtual 156, 3) := by decide +kernel
theorem dX7_why_23 : decode cX7_why 23 = .ok (.ireturn, 1) := by decide +kernel
set_option maxRecDepth 20000 in
theorem ggX7_slack_X7_refuseUnknown : GoodIn wsX7_slack wsX7_refuseUnknown := goodIn_ca (goodIn_r _ [10, 11, 12, 4, 13, 14, 15, 16, 17, 18, 122, 123, 124, 125, 126, 127, 128, 129, 130, 131, 141, 142, 143, 144, 145, 146, 147, 148] (by decide +kernel) (by decide +kernel)) (goodIn_sub (fun _ h => List.mem_cons_of_mem _ (List.mem_append_left _ (List.mem_append_right _ h))) (by decide +kernel))
set_option maxRecDepth 20000 in
theorem gX7_slack_X7_refuseUnknown : GoodIn wsX7_slack (wsV RX7 97 RX7 yX7_refuseUnknown wsX7_refuseUnknown) := goodIn_app (goodIn_of _ (by decide +kernel)) ggX7_slack_X7_refuseUnknown
set_option maxRecDepth 20000 in
theorem ggX7_slack_X7_refuseContradiction : GoodIn wsX7_slack wsX7_refuseContradiction := goodIn_ca (goodIn_r _ [22, 23, 24, 1, 25, 26, 27, 28, 9, 29, 30, 31, 32, 33, 34, 35, 36, 37, 38, 39, 40, 41, 42, 43, 44, 45, 46, 47, 48, 49, 50, 51, 52, 53, 54, 55, 56, 57, 58, 59, 60, 61, 62, 63, 64, 65, 66, 67, 68, 69, 70, 71, 72, 73, 74, 75, 76, 77, 78, 79, 80, 81, 82, 83, 84, 85, 86, 87, 88, 89, 90, 91, 92, 93, 94, 95, 96, 97, 98, 99, 100, 101, 102, 103, 104, 105, 106, 107, 108, 109, 110, 111, 112, 113, 114, 115, 116, 117, 118, 119, 120, 121, 122, 123, 124, 125, 126, 127, 128, 129, 130, 131, 132, 133, 134, 135, 136, 137, 138, 139, 140, 141, 142, 143, 144, 145, 146, 147, 148] (by decide +kernel) (by decide +kernel)) (goodIn_sub (fun _ h => List.mem_cons_of_mem _ (List.mem_append_right _ h)) (by decide +kernel))
set_option maxRecDepth 20000 in
theorem gX7_slack_X7_refuseContradiction : GoodIn wsX7_slack (wsV RX7 144 RX7 yX7_refuseContradiction wsX7_refuseContradiction) := goodIn_app (goodIn_of _ (by decide +kernel)) ggX7_slack_X7_refuseContradiction
theorem dX7_slack_0 : decode cX7_slack 0 = .ok (.aload_n 0, 1) := by decide +kernel
theorem dX7_slack_1 : decode cX7_slack 1 = .ok (.iload_n 1, 1) := by decide +kernel
theorem dX7_slack_2 : decode cX7_slack 2 = .ok (.invokevirtual 97, 3) := by decide +kernel
theorem dX7_slack_5 : decode cX7_slack 5 = .ok (.aload_n 0, 1) := by decide +kernel
theorem dX7_slack_6 : decode cX7_slack 6 = .ok (.invokevirtual 144, 3) := by decide +kernel
theorem dX7_slack_9 : decode cX7_slack 9 = .ok (.aload_n 0, 1) := by decide +kernel
theorem dX7_slack_10 : decode cX7_slack 10 = .ok (.getfield 21, 3) := by decide +kernel
theorem dX7_slack_13 : decode cX7_slack 13 = .ok (.getfield 150, 3) := by decide +kernel
theorem dX7_slack_16 : decode cX7_slack 16 = .ok (.iload_n 1, 1) := by decide +kernel
theorem dX7_slack_17 : decode cX7_slack 17 = .ok (.iaload, 1) := by decide +kernel
theorem dX7_slack_18 : decode cX7_slack 18 = .ok (.aload_n 0, 1) := by decide +kernel
theorem dX7_slack_19 : decode cX7_slack 19 = .ok (.getfield 21, 3) := by decide +kernel
theorem dX7_slack_22 : decode cX7_slack 22 = .ok (.getfield 147, 3) := by decide +kernel
theorem dX7_slack_25 : decode cX7_slack 25 = .ok (.iload_n 1, 1) := by decide +kernel
theorem dX7_slack_26 : decode cX7_slack 26 = .ok (.iaload, 1) := by decide +kernel
theorem dX7_slack_27 : decode cX7_slack 27 = .ok (.isub, 1) := by decide +kernel
theorem dX7_slack_28 : decode cX7_slack 28 = .ok (.aload_n 0, 1) := by decide +kernel
theorem dX7_slack_29 : decode cX7_slack 29 = .ok (.getfield 12, 3) := by decide +kernel
theorem dX7_slack_32 : decode cX7_slack 32 = .ok (.getfield 162, 3) := by decide +kernel
theorem dX7_slack_35 : decode cX7_slack 35 = .ok (.iload_n 1, 1) := by decide +kernel
theorem dX7_slack_36 : decode cX7_slack 36 = .ok (.iaload, 1) := by decide +kernel
theorem dX7_slack_37 : decode cX7_slack 37 = .ok (.isub, 1) := by decide +kernel
theorem dX7_slack_38 : decode cX7_slack 38 = .ok (.ireturn, 1) := by decide +kernel
set_option maxRecDepth 20000 in
theorem ggX7_makespan_X7_makePlan : GoodIn wsX7_makespan wsX7_makePlan := goodIn_r _ [7, 8, 1, 9, 10, 11, 6, 12, 13, 14, 15, 16, 17, 18, 19, 20, 21, 22, 23, 24, 25, 26, 27, 28, 29, 30, 31, 32, 33, 34, 35, 36, 37, 38, 39, 40, 41, 42, 43, 44, 45, 46, 47, 48, 49, 50, 51, 52, 53, 54, 55, 56, 57, 58, 59, 60, 61, 62, 63, 64, 65, 66, 67, 68, 69, 70, 71, 72, 73, 74, 75, 76, 77, 78, 79, 80, 81, 82, 83, 84, 85, 86, 87, 88, 89, 90, 91, 92, 93, 94, 95, 96, 97, 98, 99, 100, 101, 102, 103, 104, 105, 106, 107, 108, 109, 110, 111, 112, 113, 114, 115, 116, 117, 118, 119, 120, 121, 122, 123, 124, 125, 126, 127, 128, 129, 130, 131, 132, 133, 134, 135, 136, 137, 138, 139, 140, 141, 142, 143, 144, 145, 146, 147, 148, 149, 150, 151, 152, 153, 154, 155, 156, 157, 158, 159, 160, 161, 162, 163, 164, 165, 166, 167, 168, 169, 170, 171, 172, 173, 174, 175, 176, 177, 178, 189, 190, 191, 192, 193, 194, 195, 196, 197, 198, 199, 200, 201, 202, 203, 204, 205, 179, 180, 181, 182, 183, 184, 185, 186, 187, 188, 206, 207, 208] (by decide +kernel) (by decide +kernel)
set_option maxRecDepth 20000 in
theorem gX7_makespan_X7_makePlan : GoodIn wsX7_makespan (wsV RX7 165 RX7 yX7_makePlan wsX7_makePlan) := goodIn_app (goodIn_of _ (by decide +kernel)) ggX7_makespan_X7_makePlan
theorem dX7_makespan_0 : decode cX7_makespan 0 = .ok (.aload_n 0, 1) := by decide +kernel
theorem dX7_makespan_1 : decode cX7_makespan 1 = .ok (.invokevirtual 165, 3) := by decide +kernel
theorem dX7_makespan_4 : decode cX7_makespan 4 = .ok (.aload_n 0, 1) := by decide +kernel
theorem dX7_makespan_5 : decode cX7_makespan 5 = .ok (.getfield 30, 3) := by decide +kernel
theorem dX7_makespan_8 : decode cX7_makespan 8 = .ok (.getfield 168, 3) := by decide +kernel
theorem dX7_makespan_11 : decode cX7_makespan 11 = .ok (.ireturn, 1) := by decide +kernel
set_option maxRecDepth 20000 in
theorem ggX7_inBest_X7_refuseUnknown : GoodIn wsX7_inBest wsX7_refuseUnknown := goodIn_ca (goodIn_r _ [11, 12, 13, 14, 15, 16, 17, 18, 19, 20, 186, 187, 188, 189, 190, 191, 192, 193, 194, 195, 206, 207, 208, 209, 210, 211, 212, 213] (by decide +kernel) (by decide +kernel)) (goodIn_sub (fun _ h => List.mem_cons_of_mem _ (List.mem_append_right _ h)) (by decide +kernel))
set_option maxRecDepth 20000 in
theorem gX7_inBest_X7_refuseUnknown : GoodIn wsX7_inBest (wsV RX7 97 RX7 yX7_refuseUnknown wsX7_refuseUnknown) := goodIn_app (goodIn_of _ (by decide +kernel)) ggX7_inBest_X7_refuseUnknown
set_option maxRecDepth 20000 in
theorem ggX7_inBest_X7_makePlan : GoodIn wsX7_inBest wsX7_makePlan := goodIn_r _ [24, 25, 3, 26, 27, 28, 10, 29, 30, 31, 32, 33, 34, 35, 36, 37, 38, 39, 40, 41, 42, 43, 44, 45, 46, 47, 48, 49, 50, 51, 52, 53, 54, 55, 56, 57, 58, 59, 60, 61, 62, 63, 64, 65, 66, 67, 68, 69, 70, 71, 72, 73, 74, 75, 76, 77, 78, 79, 80, 81, 82, 83, 84, 85, 86, 87, 88, 89, 90, 91, 92, 93, 94, 95, 96, 97, 98, 99, 100, 101, 102, 103, 104, 105, 106, 107, 108, 109, 110, 111, 112, 113, 114, 115, 116, 117, 118, 119, 120, 121, 122, 123, 124, 125, 126, 127, 128, 129, 130, 131, 132, 133, 134, 135, 136, 137, 138, 139, 140, 141, 142, 143, 144, 145, 146, 147, 148, 149, 150, 151, 152, 153, 154, 155, 156, 157, 158, 159, 160, 161, 162, 163, 164, 165, 166, 167, 168, 169, 170, 171, 172, 173, 174, 175, 176, 177, 178, 179, 180, 181, 182, 183, 184, 185, 186, 187, 188, 189, 190, 191, 192, 193, 194, 195, 214, 215, 216, 217, 218, 219, 220, 221, 222, 206, 207, 208, 209, 210, 211, 212, 213, 196, 197, 198, 199, 200, 201, 202, 203, 204, 205, 223, 224, 225] (by decide +kernel) (by decide +kernel)
set_option maxRecDepth 20000 in
theorem gX7_inBest_X7_makePlan : GoodIn wsX7_inBest (wsV RX7 165 RX7 yX7_makePlan wsX7_makePlan) := goodIn_app (goodIn_of _ (by decide +kernel)) ggX7_inBest_X7_makePlan
theorem dX7_inBest_0 : decode cX7_inBest 0 = .ok (.aload_n 0, 1) := by decide +kernel
theorem dX7_inBest_1 : decode cX7_inBest 1 = .ok (.iload_n 1, 1) := by decide +kernel
theorem dX7_inBest_2 : decode cX7_inBest 2 = .ok (.invokevirtual 97, 3) := by decide +kernel
theorem dX7_inBest_5 : decode cX7_inBest 5 = .ok (.iload_n 2, 1) := by decide +kernel
theorem dX7_inBest_6 : decode cX7_inBest 6 = .ok (.ifCond .lt 8, 3) := by decide +kernel
theorem dX7_inBest_9 : decode cX7_inBest 9 = .ok (.iload_n 2, 1) := by decide +kernel
theorem dX7_inBest_10 : decode cX7_inBest 10 = .ok (.iconst 1, 1) := by decide +kernel
theorem dX7_inBest_11 : decode cX7_inBest 11 = .ok (.if_icmp .le 13, 3) := by decide +kernel
theorem dX7_inBest_14 : decode cX7_inBest 14 = .ok (.new 68, 3) := by decide +kernel
theorem dX7_inBest_17 : decode cX7_inBest 17 = .ok (.dup, 1) := by decide +kernel
theorem dX7_inBest_18 : decode cX7_inBest 18 = .ok (.ldc 134, 2) := by decide +kernel
theorem dX7_inBest_20 : decode cX7_inBest 20 = .ok (.invokespecial 72, 3) := by decide +kernel
theorem dX7_inBest_23 : decode cX7_inBest 23 = .ok (.athrow, 1) := by decide +kernel
theorem dX7_inBest_24 : decode cX7_inBest 24 = .ok (.aload_n 0, 1) := by decide +kernel
theorem dX7_inBest_25 : decode cX7_inBest 25 = .ok (.invokevirtual 165, 3) := by decide +kernel
theorem dX7_inBest_28 : decode cX7_inBest 28 = .ok (.aload_n 0, 1) := by decide +kernel
theorem dX7_inBest_29 : decode cX7_inBest 29 = .ok (.getfield 30, 3) := by decide +kernel
theorem dX7_inBest_32 : decode cX7_inBest 32 = .ok (.getfield 168, 3) := by decide +kernel
theorem dX7_inBest_35 : decode cX7_inBest 35 = .ok (.iconst (-1), 1) := by decide +kernel
theorem dX7_inBest_36 : decode cX7_inBest 36 = .ok (.if_icmp .ne 5, 3) := by decide +kernel
theorem dX7_inBest_39 : decode cX7_inBest 39 = .ok (.iconst (-1), 1) := by decide +kernel
theorem dX7_inBest_40 : decode cX7_inBest 40 = .ok (.ireturn, 1) := by decide +kernel
theorem dX7_inBest_41 : decode cX7_inBest 41 = .ok (.iload_n 2, 1) := by decide +kernel
theorem dX7_inBest_42 : decode cX7_inBest 42 = .ok (.ifCond .ne 15, 3) := by decide +kernel
theorem dX7_inBest_45 : decode cX7_inBest 45 = .ok (.aload_n 0, 1) := by decide +kernel
theorem dX7_inBest_46 : decode cX7_inBest 46 = .ok (.getfield 30, 3) := by decide +kernel
theorem dX7_inBest_49 : decode cX7_inBest 49 = .ok (.getfield 171, 3) := by decide +kernel
theorem dX7_inBest_52 : decode cX7_inBest 52 = .ok (.iload_n 1, 1) := by decide +kernel
theorem dX7_inBest_53 : decode cX7_inBest 53 = .ok (.iaload, 1) := by decide +kernel
theorem dX7_inBest_54 : decode cX7_inBest 54 = .ok (.goto 12, 3) := by decide +kernel
theorem dX7_inBest_57 : decode cX7_inBest 57 = .ok (.aload_n 0, 1) := by decide +kernel
theorem dX7_inBest_58 : decode cX7_inBest 58 = .ok (.getfield 30, 3) := by decide +kernel
theorem dX7_inBest_61 : decode cX7_inBest 61 = .ok (.getfield 174, 3) := by decide +kernel
theorem dX7_inBest_64 : decode cX7_inBest 64 = .ok (.iload_n 1, 1) := by decide +kernel
theorem dX7_inBest_65 : decode cX7_inBest 65 = .ok (.iaload, 1) := by decide +kernel
theorem dX7_inBest_66 : decode cX7_inBest 66 = .ok (.ireturn, 1) := by decide +kernel
set_option maxRecDepth 20000 in
theorem ggX7_drawn_X1_leastMakespan : GoodIn wsX7_drawn wsX1_leastMakespan := goodIn_r _ [9, 10, 11, 12, 13, 8, 14, 15, 16, 17, 18, 19, 20, 21, 22, 23, 24, 25, 26, 27, 28, 29, 30, 31, 32, 33, 34, 35, 36, 37, 38, 39, 40, 41, 42, 43, 44, 45, 46, 47, 48, 49, 50, 51, 52, 53, 54, 55, 56, 57, 58, 59, 60, 61, 62, 63, 64, 65, 66, 77, 78, 79, 80, 81, 82, 83, 84, 85, 86, 87, 88, 89, 90] (by decide +kernel) (by decide +kernel)
set_option maxRecDepth 20000 in
theorem gX7_drawn_X1_leastMakespan : GoodIn wsX7_drawn (wsV RX7 180 RX1 yX1_leastMakespan wsX1_leastMakespan) := goodIn_app (goodIn_of _ (by decide +kernel)) ggX7_drawn_X1_leastMakespan
theorem dX7_drawn_0 : decode cX7_drawn 0 = .ok (.iload_n 1, 1) := by decide +kernel
theorem dX7_drawn_1 : decode cX7_drawn 1 = .ok (.ifCond .lt 20, 3) := by decide +kernel
theorem dX7_drawn_4 : decode cX7_drawn 4 = .ok (.iload_n 1, 1) := by decide +kernel
theorem dX7_drawn_5 : decode cX7_drawn 5 = .ok (.ldc 177, 2) := by decide +kernel
theorem dX7_drawn_7 : decode cX7_drawn 7 = .ok (.if_icmp .gt 14, 3) := by decide +kernel
theorem dX7_drawn_10 : decode cX7_drawn 10 = .ok (.iload_n 2, 1) := by decide +kernel
theorem dX7_drawn_11 : decode cX7_drawn 11 = .ok (.iconst 1, 1) := by decide +kernel
theorem dX7_drawn_12 : decode cX7_drawn 12 = .ok (.if_icmp .lt 9, 3) := by decide +kernel
theorem dX7_drawn_15 : decode cX7_drawn 15 = .ok (.iload_n 2, 1) := by decide +kernel
theorem dX7_drawn_16 : decode cX7_drawn 16 = .ok (.bipush 50, 2) := by decide +kernel
theorem dX7_drawn_18 : decode cX7_drawn 18 = .ok (.if_icmp .le 13, 3) := by decide +kernel
theorem dX7_drawn_21 : decode cX7_drawn 21 = .ok (.new 68, 3) := by decide +kernel
theorem dX7_drawn_24 : decode cX7_drawn 24 = .ok (.dup, 1) := by decide +kernel
theorem dX7_drawn_25 : decode cX7_drawn 25 = .ok (.ldc 178, 2) := by decide +kernel
theorem dX7_drawn_27 : decode cX7_drawn 27 = .ok (.invokespecial 72, 3) := by decide +kernel
theorem dX7_drawn_30 : decode cX7_drawn 30 = .ok (.athrow, 1) := by decide +kernel
theorem dX7_drawn_31 : decode cX7_drawn 31 = .ok (.aload_n 0, 1) := by decide +kernel
theorem dX7_drawn_32 : decode cX7_drawn 32 = .ok (.getfield 37, 3) := by decide +kernel
theorem dX7_drawn_35 : decode cX7_drawn 35 = .ok (.iload_n 1, 1) := by decide +kernel
theorem dX7_drawn_36 : decode cX7_drawn 36 = .ok (.iload_n 2, 1) := by decide +kernel
theorem dX7_drawn_37 : decode cX7_drawn 37 = .ok (.invokevirtual 180, 3) := by decide +kernel
theorem dX7_drawn_40 : decode cX7_drawn 40 = .ok (.ireturn, 1) := by decide +kernel
set_option maxRecDepth 20000 in
theorem ggX7_leastDue_X7_refuseUnknown : GoodIn wsX7_leastDue wsX7_refuseUnknown := goodIn_ca (goodIn_r _ [5, 6, 7, 8, 9, 10, 11, 12, 13, 14, 125, 126, 127, 128, 129, 130, 131, 132, 133, 134, 135, 136, 137, 138, 139, 140, 141, 142] (by decide +kernel) (by decide +kernel)) (goodIn_sub (fun _ h => List.mem_cons_of_mem _ (List.mem_append_right _ h)) (by decide +kernel))
set_option maxRecDepth 20000 in
theorem gX7_leastDue_X7_refuseUnknown : GoodIn wsX7_leastDue (wsV RX7 97 RX7 yX7_refuseUnknown wsX7_refuseUnknown) := goodIn_app (goodIn_of _ (by decide +kernel)) ggX7_leastDue_X7_refuseUnknown
set_option maxRecDepth 20000 in
theorem ggX7_leastDue_X7_standsWithDue : GoodIn wsX7_leastDue wsX7_standsWithDue := goodIn_r _ [18, 19, 8, 20, 21, 22, 23, 24, 25, 12, 26, 27, 14, 28, 29, 30, 31, 32, 33, 34, 35, 36, 37, 38, 39, 40, 41, 42, 43, 44, 45, 46, 47, 48, 49, 50, 51, 52, 53, 54, 55, 56, 57, 58, 59, 4, 60, 61, 62, 63, 64, 65, 66, 67, 68, 69, 70, 71, 72, 73, 74, 75, 76, 77, 78, 79, 80, 81, 82, 83, 84, 85, 86, 87, 88, 89, 90, 91, 92, 93, 94, 95, 96, 97, 98, 99, 100, 101, 102, 103, 104, 105, 106, 107, 108, 109, 110, 111, 112, 113, 114, 115, 116, 117, 118, 119, 120, 121, 122, 123, 124, 125, 126, 127, 128, 129, 130, 131, 132, 133, 134, 135, 136, 137, 138, 139, 140, 141, 142, 143, 144, 145, 146, 147, 148, 149, 150, 151] (by decide +kernel) (by decide +kernel)
set_option maxRecDepth 20000 in
theorem gX7_leastDue_X7_standsWithDue : GoodIn wsX7_leastDue (wsV RX7 183 RX7 yX7_standsWithDue wsX7_standsWithDue) := goodIn_app (goodIn_of _ (by decide +kernel)) ggX7_leastDue_X7_standsWithDue
theorem dX7_leastDue_0 : decode cX7_leastDue 0 = .ok (.aload_n 0, 1) := by decide +kernel
theorem dX7_leastDue_1 : decode cX7_leastDue 1 = .ok (.iload_n 1, 1) := by decide +kernel
theorem dX7_leastDue_2 : decode cX7_leastDue 2 = .ok (.invokevirtual 97, 3) := by decide +kernel
theorem dX7_leastDue_5 : decode cX7_leastDue 5 = .ok (.aload_n 0, 1) := by decide +kernel
theorem dX7_leastDue_6 : decode cX7_leastDue 6 = .ok (.iload_n 1, 1) := by decide +kernel
theorem dX7_leastDue_7 : decode cX7_leastDue 7 = .ok (.sipush 400, 3) := by decide +kernel
theorem dX7_leastDue_10 : decode cX7_leastDue 10 = .ok (.invokevirtual 183, 3) := by decide +kernel
theorem dX7_leastDue_13 : decode cX7_leastDue 13 = .ok (.ifCond .ne 5, 3) := by decide +kernel
theorem dX7_leastDue_16 : decode cX7_leastDue 16 = .ok (.iconst (-1), 1) := by decide +kernel
theorem dX7_leastDue_17 : decode cX7_leastDue 17 = .ok (.ireturn, 1) := by decide +kernel
theorem dX7_leastDue_18 : decode cX7_leastDue 18 = .ok (.iconst 1, 1) := by decide +kernel
theorem dX7_leastDue_19 : decode cX7_leastDue 19 = .ok (.istore_n 2, 1) := by decide +kernel
theorem dX7_leastDue_20 : decode cX7_leastDue 20 = .ok (.sipush 400, 3) := by decide +kernel
theorem dX7_leastDue_23 : decode cX7_leastDue 23 = .ok (.istore_n 3, 1) := by decide +kernel
theorem dX7_leastDue_24 : decode cX7_leastDue 24 = .ok (.iconst 0, 1) := by decide +kernel
theorem dX7_leastDue_25 : decode cX7_leastDue 25 = .ok (.istore 4, 2) := by decide +kernel
theorem dX7_leastDue_27 : decode cX7_leastDue 27 = .ok (.iload_n 2, 1) := by decide +kernel
theorem dX7_leastDue_28 : decode cX7_leastDue 28 = .ok (.iload_n 3, 1) := by decide +kernel
theorem dX7_leastDue_29 : decode cX7_leastDue 29 = .ok (.if_icmp .ge 45, 3) := by decide +kernel
theorem dX7_leastDue_32 : decode cX7_leastDue 32 = .ok (.iload 4, 2) := by decide +kernel
theorem dX7_leastDue_34 : decode cX7_leastDue 34 = .ok (.sipush 400, 3) := by decide +kernel
theorem dX7_leastDue_37 : decode cX7_leastDue 37 = .ok (.if_icmp .ge 37, 3) := by decide +kernel
theorem dX7_leastDue_40 : decode cX7_leastDue 40 = .ok (.iload_n 2, 1) := by decide +kernel
theorem dX7_leastDue_41 : decode cX7_leastDue 41 = .ok (.iload_n 3, 1) := by decide +kernel
theorem dX7_leastDue_42 : decode cX7_leastDue 42 = .ok (.iadd, 1) := by decide +kernel
theorem dX7_leastDue_43 : decode cX7_leastDue 43 = .ok (.iconst 2, 1) := by decide +kernel
theorem dX7_leastDue_44 : decode cX7_leastDue 44 = .ok (.idiv, 1) := by decide +kernel
theorem dX7_leastDue_45 : decode cX7_leastDue 45 = .ok (.istore 5, 2) := by decide +kernel
theorem dX7_leastDue_47 : decode cX7_leastDue 47 = .ok (.aload_n 0, 1) := by decide +kernel
theorem dX7_leastDue_48 : decode cX7_leastDue 48 = .ok (.iload_n 1, 1) := by decide +kernel
theorem dX7_leastDue_49 : decode cX7_leastDue 49 = .ok (.iload 5, 2) := by decide +kernel
theorem dX7_leastDue_51 : decode cX7_leastDue 51 = .ok (.invokevirtual 183, 3) := by decide +kernel
theorem dX7_leastDue_54 : decode cX7_leastDue 54 = .ok (.ifCond .eq 9, 3) := by decide +kernel
theorem dX7_leastDue_57 : decode cX7_leastDue 57 = .ok (.iload 5, 2) := by decide +kernel
theorem dX7_leastDue_59 : decode cX7_leastDue 59 = .ok (.istore_n 3, 1) := by decide +kernel
theorem dX7_leastDue_60 : decode cX7_leastDue 60 = .ok (.goto 8, 3) := by decide +kernel
theorem dX7_leastDue_63 : decode cX7_leastDue 63 = .ok (.iload 5, 2) := by decide +kernel
theorem dX7_leastDue_65 : decode cX7_leastDue 65 = .ok (.iconst 1, 1) := by decide +kernel
theorem dX7_leastDue_66 : decode cX7_leastDue 66 = .ok (.iadd, 1) := by decide +kernel
theorem dX7_leastDue_67 : decode cX7_leastDue 67 = .ok (.istore_n 2, 1) := by decide +kernel
theorem dX7_leastDue_68 : decode cX7_leastDue 68 = .ok (.iinc 4 1, 3) := by decide +kernel
theorem dX7_leastDue_71 : decode cX7_leastDue 71 = .ok (.goto (-44), 3) := by decide +kernel
theorem dX7_leastDue_74 : decode cX7_leastDue 74 = .ok (.iload_n 3, 1) := by decide +kernel
theorem dX7_leastDue_75 : decode cX7_leastDue 75 = .ok (.ireturn, 1) := by decide +kernel
set_option maxRecDepth 20000 in
theorem ggX7_lowerBound_X7_standsWithin : GoodIn wsX7_lowerBound wsX7_standsWithin := goodIn_r _ [5, 6, 7, 8, 9, 10, 11, 12, 13, 14, 15, 16, 17, 18, 19, 20, 21, 22, 23, 24, 25, 26, 27, 28, 29, 30, 31, 32, 33, 34, 35, 36, 37, 38, 39, 40, 41, 42, 43, 44, 45, 46, 47, 48, 49, 50, 51, 52, 53, 54, 4, 55, 56, 57, 58, 59, 60, 61, 62, 63, 64, 65, 66, 67, 68, 69, 70, 71, 72, 73, 74, 75, 76, 77, 78, 79, 80, 81, 82, 83, 84, 85, 86, 87, 88, 89, 90, 91, 92, 93, 94, 95, 96, 97, 98, 99, 100, 101, 102, 103, 104, 105, 106, 107, 108, 109, 110, 111, 112, 113, 114, 115, 116, 117, 118, 119, 120, 121, 122, 123, 124, 125, 126, 127, 128, 129, 130, 131, 132, 133, 134, 135, 136, 137, 138, 139, 140, 141, 142, 143] (by decide +kernel) (by decide +kernel)
set_option maxRecDepth 20000 in
theorem gX7_lowerBound_X7_standsWithin : GoodIn wsX7_lowerBound (wsV RX7 186 RX7 yX7_standsWithin wsX7_standsWithin) := goodIn_app (goodIn_of _ (by decide +kernel)) ggX7_lowerBound_X7_standsWithin
theorem dX7_lowerBound_0 : decode cX7_lowerBound 0 = .ok (.aload_n 0, 1) := by decide +kernel
theorem dX7_lowerBound_1 : decode cX7_lowerBound 1 = .ok (.sipush 400, 3) := by decide +kernel
theorem dX7_lowerBound_4 : decode cX7_lowerBound 4 = .ok (.invokevirtual 186, 3) := by decide +kernel
theorem dX7_lowerBound_7 : decode cX7_lowerBound 7 = .ok (.ifCond .ne 5, 3) := by decide +kernel
theorem dX7_lowerBound_10 : decode cX7_lowerBound 10 = .ok (.iconst (-1), 1) := by decide +kernel
theorem dX7_lowerBound_11 : decode cX7_lowerBound 11 = .ok (.ireturn, 1) := by decide +kernel
theorem dX7_lowerBound_12 : decode cX7_lowerBound 12 = .ok (.iconst 0, 1) := by decide +kernel
theorem dX7_lowerBound_13 : decode cX7_lowerBound 13 = .ok (.istore_n 1, 1) := by decide +kernel
theorem dX7_lowerBound_14 : decode cX7_lowerBound 14 = .ok (.sipush 400, 3) := by decide +kernel
theorem dX7_lowerBound_17 : decode cX7_lowerBound 17 = .ok (.istore_n 2, 1) := by decide +kernel
theorem dX7_lowerBound_18 : decode cX7_lowerBound 18 = .ok (.iconst 0, 1) := by decide +kernel
theorem dX7_lowerBound_19 : decode cX7_lowerBound 19 = .ok (.istore_n 3, 1) := by decide +kernel
theorem dX7_lowerBound_20 : decode cX7_lowerBound 20 = .ok (.iload_n 1, 1) := by decide +kernel
theorem dX7_lowerBound_21 : decode cX7_lowerBound 21 = .ok (.iload_n 2, 1) := by decide +kernel
theorem dX7_lowerBound_22 : decode cX7_lowerBound 22 = .ok (.if_icmp .ge 43, 3) := by decide +kernel
theorem dX7_lowerBound_25 : decode cX7_lowerBound 25 = .ok (.iload_n 3, 1) := by decide +kernel
theorem dX7_lowerBound_26 : decode cX7_lowerBound 26 = .ok (.sipush 400, 3) := by decide +kernel
theorem dX7_lowerBound_29 : decode cX7_lowerBound 29 = .ok (.if_icmp .ge 36, 3) := by decide +kernel
theorem dX7_lowerBound_32 : decode cX7_lowerBound 32 = .ok (.iload_n 1, 1) := by decide +kernel
theorem dX7_lowerBound_33 : decode cX7_lowerBound 33 = .ok (.iload_n 2, 1) := by decide +kernel
theorem dX7_lowerBound_34 : decode cX7_lowerBound 34 = .ok (.iadd, 1) := by decide +kernel
theorem dX7_lowerBound_35 : decode cX7_lowerBound 35 = .ok (.iconst 2, 1) := by decide +kernel
theorem dX7_lowerBound_36 : decode cX7_lowerBound 36 = .ok (.idiv, 1) := by decide +kernel
theorem dX7_lowerBound_37 : decode cX7_lowerBound 37 = .ok (.istore 4, 2) := by decide +kernel
theorem dX7_lowerBound_39 : decode cX7_lowerBound 39 = .ok (.aload_n 0, 1) := by decide +kernel
theorem dX7_lowerBound_40 : decode cX7_lowerBound 40 = .ok (.iload 4, 2) := by decide +kernel
theorem dX7_lowerBound_42 : decode cX7_lowerBound 42 = .ok (.invokevirtual 186, 3) := by decide +kernel
theorem dX7_lowerBound_45 : decode cX7_lowerBound 45 = .ok (.ifCond .eq 9, 3) := by decide +kernel
theorem dX7_lowerBound_48 : decode cX7_lowerBound 48 = .ok (.iload 4, 2) := by decide +kernel
theorem dX7_lowerBound_50 : decode cX7_lowerBound 50 = .ok (.istore_n 2, 1) := by decide +kernel
theorem dX7_lowerBound_51 : decode cX7_lowerBound 51 = .ok (.goto 8, 3) := by decide +kernel
theorem dX7_lowerBound_54 : decode cX7_lowerBound 54 = .ok (.iload 4, 2) := by decide +kernel
theorem dX7_lowerBound_56 : decode cX7_lowerBound 56 = .ok (.iconst 1, 1) := by decide +kernel
theorem dX7_lowerBound_57 : decode cX7_lowerBound 57 = .ok (.iadd, 1) := by decide +kernel
theorem dX7_lowerBound_58 : decode cX7_lowerBound 58 = .ok (.istore_n 1, 1) := by decide +kernel
theorem dX7_lowerBound_59 : decode cX7_lowerBound 59 = .ok (.iinc 3 1, 3) := by decide +kernel
theorem dX7_lowerBound_62 : decode cX7_lowerBound 62 = .ok (.goto (-42), 3) := by decide +kernel
theorem dX7_lowerBound_65 : decode cX7_lowerBound 65 = .ok (.iload_n 2, 1) := by decide +kernel
theorem dX7_lowerBound_66 : decode cX7_lowerBound 66 = .ok (.ireturn, 1) := by decide +kernel
set_option maxRecDepth 20000 in
theorem ggX7_refutes_X7_refuseUnknown : GoodIn wsX7_refutes wsX7_refuseUnknown := goodIn_ca (goodIn_r _ [9, 10, 11, 2, 12, 13, 14, 15, 16, 17, 124, 125, 126, 127, 128, 129, 130, 131, 132, 133, 143, 144, 145, 146, 147, 148, 149, 150] (by decide +kernel) (by decide +kernel)) (goodIn_sub (fun _ h => List.mem_cons_of_mem _ (List.mem_append_right _ h)) (by decide +kernel))
set_option maxRecDepth 20000 in
theorem gX7_refutes_X7_refuseUnknown : GoodIn wsX7_refutes (wsV RX7 97 RX7 yX7_refuseUnknown wsX7_refuseUnknown) := goodIn_app (goodIn_of _ (by decide +kernel)) ggX7_refutes_X7_refuseUnknown
set_option maxRecDepth 20000 in
theorem ggX7_refutes_X5_copyFrom : GoodIn wsX7_refutes wsX5_copyFrom := goodIn_r _ [21, 22, 17, 23, 24, 25, 26, 27, 28, 143, 144, 145, 146, 147, 148, 149, 150] (by decide +kernel) (by decide +kernel)
set_option maxRecDepth 20000 in
theorem gX7_refutes_X5_copyFrom : GoodIn wsX7_refutes (wsV RX7 190 RX5 yX5_copyFrom wsX5_copyFrom) := goodIn_app (goodIn_of _ (by decide +kernel)) ggX7_refutes_X5_copyFrom
set_option maxRecDepth 20000 in
theorem ggX7_refutes_X5_setGiven : GoodIn wsX7_refutes wsX5_setGiven := goodIn_r _ [32, 28, 27, 143, 144, 145, 146, 147, 148, 149, 150] (by decide +kernel) (by decide +kernel)
set_option maxRecDepth 20000 in
theorem gX7_refutes_X5_setGiven : GoodIn wsX7_refutes (wsV RX7 117 RX5 yX5_setGiven wsX5_setGiven) := goodIn_app (goodIn_of _ (by decide +kernel)) ggX7_refutes_X5_setGiven
set_option maxRecDepth 20000 in
theorem ggX7_refutes_X6_run : GoodIn wsX7_refutes wsX6_run := goodIn_r _ [37, 38, 39, 40, 41, 42, 36, 43, 44, 45, 46, 47, 48, 49, 50, 51, 52, 53, 54, 55, 56, 57, 58, 8, 59, 60, 61, 62, 63, 64, 65, 66, 67, 68, 69, 70, 71, 72, 73, 74, 75, 76, 77, 78, 79, 80, 81, 82, 83, 84, 85, 86, 87, 88, 89, 90, 91, 92, 93, 94, 95, 96, 97, 98, 99, 100, 101, 102, 103, 104, 105, 106, 107, 108, 109, 110, 111, 112, 113, 114, 115, 116, 117, 118, 119, 120, 121, 122, 123, 134, 135, 136, 137, 138, 139, 140, 141, 142, 143, 144, 145, 146, 147, 148, 149, 150] (by decide +kernel) (by decide +kernel)
set_option maxRecDepth 20000 in
theorem gX7_refutes_X6_run : GoodIn wsX7_refutes (wsV RX7 193 RX6 yX6_run wsX6_run) := goodIn_app (goodIn_of _ (by decide +kernel)) ggX7_refutes_X6_run
