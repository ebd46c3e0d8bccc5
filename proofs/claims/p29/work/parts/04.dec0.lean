set_option maxRecDepth 20000 in
theorem ggX0_init_X4_init : GoodIn wsX0_init wsX4_init := goodIn_r _ [20, 21, 2, 3, 5, 22, 23, 24, 35, 36, 37] (by decide +kernel) (by decide +kernel)
set_option maxRecDepth 20000 in
theorem gX0_init_X4_init : GoodIn wsX0_init (wsX4_init) := ggX0_init_X4_init
theorem dX0_init_0 : decode cX0_init 0 = .ok (.aload_n 0, 1) := by decide +kernel
theorem dX0_init_1 : decode cX0_init 1 = .ok (.invokespecial 3, 3) := by decide +kernel
theorem dX0_init_4 : decode cX0_init 4 = .ok (.aload_n 0, 1) := by decide +kernel
theorem dX0_init_5 : decode cX0_init 5 = .ok (.iconst (-1), 1) := by decide +kernel
theorem dX0_init_6 : decode cX0_init 6 = .ok (.putfield 9, 3) := by decide +kernel
theorem dX0_init_9 : decode cX0_init 9 = .ok (.aload_n 0, 1) := by decide +kernel
theorem dX0_init_10 : decode cX0_init 10 = .ok (.bipush 8, 2) := by decide +kernel
theorem dX0_init_12 : decode cX0_init 12 = .ok (.newarray .int, 2) := by decide +kernel
theorem dX0_init_14 : decode cX0_init 14 = .ok (.putfield 15, 3) := by decide +kernel
theorem dX0_init_17 : decode cX0_init 17 = .ok (.aload_n 0, 1) := by decide +kernel
theorem dX0_init_18 : decode cX0_init 18 = .ok (.bipush 8, 2) := by decide +kernel
theorem dX0_init_20 : decode cX0_init 20 = .ok (.newarray .int, 2) := by decide +kernel
theorem dX0_init_22 : decode cX0_init 22 = .ok (.putfield 19, 3) := by decide +kernel
theorem dX0_init_25 : decode cX0_init 25 = .ok (.aload_n 0, 1) := by decide +kernel
theorem dX0_init_26 : decode cX0_init 26 = .ok (.bipush 8, 2) := by decide +kernel
theorem dX0_init_28 : decode cX0_init 28 = .ok (.newarray .int, 2) := by decide +kernel
theorem dX0_init_30 : decode cX0_init 30 = .ok (.putfield 22, 3) := by decide +kernel
theorem dX0_init_33 : decode cX0_init 33 = .ok (.aload_n 0, 1) := by decide +kernel
theorem dX0_init_34 : decode cX0_init 34 = .ok (.bipush 8, 2) := by decide +kernel
theorem dX0_init_36 : decode cX0_init 36 = .ok (.newarray .int, 2) := by decide +kernel
theorem dX0_init_38 : decode cX0_init 38 = .ok (.putfield 25, 3) := by decide +kernel
theorem dX0_init_41 : decode cX0_init 41 = .ok (.aload_n 0, 1) := by decide +kernel
theorem dX0_init_42 : decode cX0_init 42 = .ok (.bipush 8, 2) := by decide +kernel
theorem dX0_init_44 : decode cX0_init 44 = .ok (.newarray .int, 2) := by decide +kernel
theorem dX0_init_46 : decode cX0_init 46 = .ok (.putfield 28, 3) := by decide +kernel
theorem dX0_init_49 : decode cX0_init 49 = .ok (.aload_n 0, 1) := by decide +kernel
theorem dX0_init_50 : decode cX0_init 50 = .ok (.sipush 400, 3) := by decide +kernel
theorem dX0_init_53 : decode cX0_init 53 = .ok (.putfield 31, 3) := by decide +kernel
theorem dX0_init_56 : decode cX0_init 56 = .ok (.aload_n 0, 1) := by decide +kernel
theorem dX0_init_57 : decode cX0_init 57 = .ok (.aload_n 1, 1) := by decide +kernel
theorem dX0_init_58 : decode cX0_init 58 = .ok (.putfield 34, 3) := by decide +kernel
theorem dX0_init_61 : decode cX0_init 61 = .ok (.aload_n 0, 1) := by decide +kernel
theorem dX0_init_62 : decode cX0_init 62 = .ok (.aload_n 2, 1) := by decide +kernel
theorem dX0_init_63 : decode cX0_init 63 = .ok (.putfield 38, 3) := by decide +kernel
theorem dX0_init_66 : decode cX0_init 66 = .ok (.aload_n 0, 1) := by decide +kernel
theorem dX0_init_67 : decode cX0_init 67 = .ok (.new 42, 3) := by decide +kernel
theorem dX0_init_70 : decode cX0_init 70 = .ok (.dup, 1) := by decide +kernel
theorem dX0_init_71 : decode cX0_init 71 = .ok (.aload_n 1, 1) := by decide +kernel
theorem dX0_init_72 : decode cX0_init 72 = .ok (.invokespecial 44, 3) := by decide +kernel
theorem dX0_init_75 : decode cX0_init 75 = .ok (.putfield 47, 3) := by decide +kernel
theorem dX0_init_78 : decode cX0_init 78 = .ok (.return_, 1) := by decide +kernel
set_option maxRecDepth 20000 in
theorem ggX0_search_X6_aheadOf : GoodIn wsX0_search wsX6_aheadOf := goodIn_r _ [12, 13, 14, 15, 16, 17, 18, 83, 84, 85, 86, 87, 88, 89, 90, 91, 92, 93, 94, 95, 96, 97, 98, 99] (by decide +kernel) (by decide +kernel)
set_option maxRecDepth 20000 in
theorem gX0_search_X6_aheadOf_n62 : GoodIn wsX0_search (wsX6_aheadOf) := ggX0_search_X6_aheadOf
set_option maxRecDepth 20000 in
theorem ggX0_search_X4_restart : GoodIn wsX0_search wsX4_restart := goodIn_r _ [23, 24, 100, 101, 102] (by decide +kernel) (by decide +kernel)
set_option maxRecDepth 20000 in
theorem gX0_search_X4_restart : GoodIn wsX0_search (wsV RX0 66 RX4 yX4_restart wsX4_restart) := goodIn_app (goodIn_of _ (by decide +kernel)) ggX0_search_X4_restart
set_option maxRecDepth 20000 in
theorem ggX0_search_X0_extend : GoodIn wsX0_search wsX0_extend := goodIn_r _ [28, 5, 6, 7, 8, 29, 30, 31, 32, 33, 34, 27, 35, 2, 1, 36, 37, 38, 39, 40, 41, 42, 22, 43, 24, 44, 45, 46, 47, 48, 49, 50, 51, 52, 3, 53, 16, 17, 18, 54, 55, 56, 57, 58, 59, 60, 61, 62, 63, 64, 65, 66, 67, 68, 69, 70, 71, 72, 25, 26, 73, 74, 75, 76, 77, 78, 79, 80, 81, 82, 92, 93, 94, 95, 96, 97, 98, 99, 100, 101, 102, 83, 84, 85, 86, 87, 88, 89, 90, 91] (by decide +kernel) (by decide +kernel)
set_option maxRecDepth 20000 in
theorem gX0_search_X0_extend : GoodIn wsX0_search (va_wsS RX0 69 yX0_extend wsX0_extend) := goodIn_app (goodIn_of _ (by decide +kernel)) ggX0_search_X0_extend
theorem dX0_search_0 : decode cX0_search 0 = .ok (.aload_n 0, 1) := by decide +kernel
theorem dX0_search_1 : decode cX0_search 1 = .ok (.iconst (-1), 1) := by decide +kernel
theorem dX0_search_2 : decode cX0_search 2 = .ok (.putfield 9, 3) := by decide +kernel
theorem dX0_search_5 : decode cX0_search 5 = .ok (.aload_n 0, 1) := by decide +kernel
theorem dX0_search_6 : decode cX0_search 6 = .ok (.sipush 400, 3) := by decide +kernel
theorem dX0_search_9 : decode cX0_search 9 = .ok (.putfield 31, 3) := by decide +kernel
theorem dX0_search_12 : decode cX0_search 12 = .ok (.aload_n 0, 1) := by decide +kernel
theorem dX0_search_13 : decode cX0_search 13 = .ok (.getfield 38, 3) := by decide +kernel
theorem dX0_search_16 : decode cX0_search 16 = .ok (.getfield 51, 3) := by decide +kernel
theorem dX0_search_19 : decode cX0_search 19 = .ok (.ifCond .eq 4, 3) := by decide +kernel
theorem dX0_search_22 : decode cX0_search 22 = .ok (.return_, 1) := by decide +kernel
theorem dX0_search_23 : decode cX0_search 23 = .ok (.iconst 0, 1) := by decide +kernel
theorem dX0_search_24 : decode cX0_search 24 = .ok (.istore_n 1, 1) := by decide +kernel
theorem dX0_search_25 : decode cX0_search 25 = .ok (.iload_n 1, 1) := by decide +kernel
theorem dX0_search_26 : decode cX0_search 26 = .ok (.aload_n 0, 1) := by decide +kernel
theorem dX0_search_27 : decode cX0_search 27 = .ok (.getfield 34, 3) := by decide +kernel
theorem dX0_search_30 : decode cX0_search 30 = .ok (.getfield 57, 3) := by decide +kernel
theorem dX0_search_33 : decode cX0_search 33 = .ok (.if_icmp .ge 23, 3) := by decide +kernel
theorem dX0_search_36 : decode cX0_search 36 = .ok (.aload_n 0, 1) := by decide +kernel
theorem dX0_search_37 : decode cX0_search 37 = .ok (.getfield 25, 3) := by decide +kernel
theorem dX0_search_40 : decode cX0_search 40 = .ok (.iload_n 1, 1) := by decide +kernel
theorem dX0_search_41 : decode cX0_search 41 = .ok (.aload_n 0, 1) := by decide +kernel
theorem dX0_search_42 : decode cX0_search 42 = .ok (.getfield 38, 3) := by decide +kernel
theorem dX0_search_45 : decode cX0_search 45 = .ok (.iload_n 1, 1) := by decide +kernel
theorem dX0_search_46 : decode cX0_search 46 = .ok (.invokevirtual 62, 3) := by decide +kernel
theorem dX0_search_49 : decode cX0_search 49 = .ok (.iastore, 1) := by decide +kernel
theorem dX0_search_50 : decode cX0_search 50 = .ok (.iinc 1 1, 3) := by decide +kernel
theorem dX0_search_53 : decode cX0_search 53 = .ok (.goto (-28), 3) := by decide +kernel
theorem dX0_search_56 : decode cX0_search 56 = .ok (.aload_n 0, 1) := by decide +kernel
theorem dX0_search_57 : decode cX0_search 57 = .ok (.getfield 47, 3) := by decide +kernel
theorem dX0_search_60 : decode cX0_search 60 = .ok (.invokevirtual 66, 3) := by decide +kernel
theorem dX0_search_63 : decode cX0_search 63 = .ok (.aload_n 0, 1) := by decide +kernel
theorem dX0_search_64 : decode cX0_search 64 = .ok (.iconst 0, 1) := by decide +kernel
theorem dX0_search_65 : decode cX0_search 65 = .ok (.iconst 0, 1) := by decide +kernel
theorem dX0_search_66 : decode cX0_search 66 = .ok (.invokestatic 69, 3) := by decide +kernel
theorem dX0_search_69 : decode cX0_search 69 = .ok (.return_, 1) := by decide +kernel
set_option maxRecDepth 20000 in
theorem ggX0_extend_X0_keepIfBetter : GoodIn wsX0_extend wsX0_keepIfBetter := goodIn_r _ [12, 4, 13, 14, 1, 2, 7, 15, 16, 17, 18, 19, 20, 21, 22, 23, 24, 25, 26, 27, 28, 60, 61, 62, 63, 64, 65, 66, 67, 68, 69, 70, 71, 72, 73, 74, 75, 76, 77, 78, 79, 80] (by decide +kernel) (by decide +kernel)
set_option maxRecDepth 20000 in
theorem gX0_extend_X0_keepIfBetter : GoodIn wsX0_extend (wsV RX0 73 RX0 yX0_keepIfBetter wsX0_keepIfBetter) := goodIn_app (goodIn_of _ (by decide +kernel)) ggX0_extend_X0_keepIfBetter
set_option maxRecDepth 20000 in
theorem ggX0_extend_X0_isHopeless : GoodIn wsX0_extend wsX0_isHopeless := goodIn_r _ [32, 4, 13, 1, 2, 33, 34, 35, 18, 19, 20, 21, 22, 23, 24, 25, 26, 27, 28, 36, 37, 38, 39, 40, 41, 42, 43, 44, 45, 46, 47, 48, 49, 50, 51, 52, 11, 53, 6, 60, 61, 62, 63, 64, 65, 66, 67, 68, 69, 70, 71, 72, 73, 74, 75, 76, 77, 81, 82, 83, 84, 85, 86, 87, 88, 89, 78, 79, 80] (by decide +kernel) (by decide +kernel)
set_option maxRecDepth 20000 in
theorem gX0_extend_X0_isHopeless : GoodIn wsX0_extend (wsV RX0 76 RX0 yX0_isHopeless wsX0_isHopeless) := goodIn_app (goodIn_of _ (by decide +kernel)) ggX0_extend_X0_isHopeless
set_option maxRecDepth 20000 in
theorem ggX0_extend_X7_contains : GoodIn wsX0_extend wsX7_contains := goodIn_r _ [38] (by decide +kernel) (by decide +kernel)
set_option maxRecDepth 20000 in
theorem gX0_extend_X7_contains_n80 : GoodIn wsX0_extend (wsX7_contains) := ggX0_extend_X7_contains
set_option maxRecDepth 20000 in
theorem ggX0_extend_X4_earliestEnd : GoodIn wsX0_extend wsX4_earliestEnd := goodIn_r _ [42, 43, 44, 24, 45, 25, 26, 27, 28, 46, 47, 48, 49, 36, 37, 38, 78, 79, 80, 70, 71, 72, 73, 74, 75, 76, 77] (by decide +kernel) (by decide +kernel)
set_option maxRecDepth 20000 in
theorem gX0_extend_X4_earliestEnd : GoodIn wsX0_extend (wsV RX0 90 RX4 yX4_earliestEnd wsX4_earliestEnd) := goodIn_app (goodIn_of _ (by decide +kernel)) ggX0_extend_X4_earliestEnd
set_option maxRecDepth 20000 in
theorem ggX0_extend_X4_place : GoodIn wsX0_extend wsX4_place := goodIn_r _ [57, 48, 24, 43, 45, 78, 79, 80, 70, 71, 72, 73, 74, 75, 76, 77] (by decide +kernel) (by decide +kernel)
set_option maxRecDepth 20000 in
theorem gX0_extend_X4_place : GoodIn wsX0_extend (wsV RX0 94 RX4 yX4_place wsX4_place) := goodIn_app (goodIn_of _ (by decide +kernel)) ggX0_extend_X4_place
set_option maxRecDepth 20000 in
theorem ggX0_extend_X0_extend : GoodIn wsX0_extend wsX0_extend := goodIn_r _ [0, 1, 2, 3, 4, 5, 6, 7, 8, 9, 10, 11, 12, 13, 14, 15, 16, 17, 18, 19, 20, 21, 22, 23, 24, 25, 26, 27, 28, 29, 30, 31, 32, 33, 34, 35, 36, 37, 38, 39, 40, 41, 42, 43, 44, 45, 46, 47, 48, 49, 50, 51, 52, 53, 54, 55, 56, 57, 58, 59, 60, 61, 62, 63, 64, 65, 66, 67, 68, 69, 70, 71, 72, 73, 74, 75, 76, 77, 78, 79, 80, 81, 82, 83, 84, 85, 86, 87, 88, 89] (by decide +kernel) (by decide +kernel)
set_option maxRecDepth 20000 in
theorem gX0_extend_X0_extend : GoodIn wsX0_extend (va_wsS RX0 69 yX0_extend wsX0_extend) := goodIn_app (goodIn_of _ (by decide +kernel)) ggX0_extend_X0_extend
theorem dX0_extend_0 : decode cX0_extend 0 = .ok (.aload_n 0, 1) := by decide +kernel
theorem dX0_extend_1 : decode cX0_extend 1 = .ok (.getfield 34, 3) := by decide +kernel
theorem dX0_extend_4 : decode cX0_extend 4 = .ok (.astore_n 3, 1) := by decide +kernel
theorem dX0_extend_5 : decode cX0_extend 5 = .ok (.iload_n 1, 1) := by decide +kernel
theorem dX0_extend_6 : decode cX0_extend 6 = .ok (.aload_n 3, 1) := by decide +kernel
theorem dX0_extend_7 : decode cX0_extend 7 = .ok (.getfield 57, 3) := by decide +kernel
theorem dX0_extend_10 : decode cX0_extend 10 = .ok (.if_icmp .ge 9, 3) := by decide +kernel
theorem dX0_extend_13 : decode cX0_extend 13 = .ok (.iload_n 1, 1) := by decide +kernel
theorem dX0_extend_14 : decode cX0_extend 14 = .ok (.bipush 8, 2) := by decide +kernel
theorem dX0_extend_16 : decode cX0_extend 16 = .ok (.if_icmp .lt 8, 3) := by decide +kernel
theorem dX0_extend_19 : decode cX0_extend 19 = .ok (.aload_n 0, 1) := by decide +kernel
theorem dX0_extend_20 : decode cX0_extend 20 = .ok (.invokevirtual 73, 3) := by decide +kernel
theorem dX0_extend_23 : decode cX0_extend 23 = .ok (.return_, 1) := by decide +kernel
theorem dX0_extend_24 : decode cX0_extend 24 = .ok (.aload_n 0, 1) := by decide +kernel
theorem dX0_extend_25 : decode cX0_extend 25 = .ok (.iload_n 2, 1) := by decide +kernel
theorem dX0_extend_26 : decode cX0_extend 26 = .ok (.invokevirtual 76, 3) := by decide +kernel
theorem dX0_extend_29 : decode cX0_extend 29 = .ok (.ifCond .eq 4, 3) := by decide +kernel
theorem dX0_extend_32 : decode cX0_extend 32 = .ok (.return_, 1) := by decide +kernel
theorem dX0_extend_33 : decode cX0_extend 33 = .ok (.iconst 0, 1) := by decide +kernel
theorem dX0_extend_34 : decode cX0_extend 34 = .ok (.istore 4, 2) := by decide +kernel
theorem dX0_extend_36 : decode cX0_extend 36 = .ok (.iload 4, 2) := by decide +kernel
theorem dX0_extend_38 : decode cX0_extend 38 = .ok (.aload_n 3, 1) := by decide +kernel
theorem dX0_extend_39 : decode cX0_extend 39 = .ok (.getfield 57, 3) := by decide +kernel
theorem dX0_extend_42 : decode cX0_extend 42 = .ok (.if_icmp .ge 109, 3) := by decide +kernel
theorem dX0_extend_45 : decode cX0_extend 45 = .ok (.iload_n 2, 1) := by decide +kernel
theorem dX0_extend_46 : decode cX0_extend 46 = .ok (.iload 4, 2) := by decide +kernel
theorem dX0_extend_48 : decode cX0_extend 48 = .ok (.invokestatic 80, 3) := by decide +kernel
theorem dX0_extend_51 : decode cX0_extend 51 = .ok (.ifCond .ne 94, 3) := by decide +kernel
theorem dX0_extend_54 : decode cX0_extend 54 = .ok (.aload_n 0, 1) := by decide +kernel
theorem dX0_extend_55 : decode cX0_extend 55 = .ok (.getfield 25, 3) := by decide +kernel
theorem dX0_extend_58 : decode cX0_extend 58 = .ok (.iload 4, 2) := by decide +kernel
theorem dX0_extend_60 : decode cX0_extend 60 = .ok (.iaload, 1) := by decide +kernel
theorem dX0_extend_61 : decode cX0_extend 61 = .ok (.iload_n 2, 1) := by decide +kernel
theorem dX0_extend_62 : decode cX0_extend 62 = .ok (.iconst (-1), 1) := by decide +kernel
theorem dX0_extend_63 : decode cX0_extend 63 = .ok (.ixor, 1) := by decide +kernel
theorem dX0_extend_64 : decode cX0_extend 64 = .ok (.iand, 1) := by decide +kernel
theorem dX0_extend_65 : decode cX0_extend 65 = .ok (.ifCond .eq 6, 3) := by decide +kernel
theorem dX0_extend_68 : decode cX0_extend 68 = .ok (.goto 77, 3) := by decide +kernel
theorem dX0_extend_71 : decode cX0_extend 71 = .ok (.aload_n 0, 1) := by decide +kernel
theorem dX0_extend_72 : decode cX0_extend 72 = .ok (.getfield 47, 3) := by decide +kernel
theorem dX0_extend_75 : decode cX0_extend 75 = .ok (.getfield 84, 3) := by decide +kernel
theorem dX0_extend_78 : decode cX0_extend 78 = .ok (.aload_n 3, 1) := by decide +kernel
theorem dX0_extend_79 : decode cX0_extend 79 = .ok (.getfield 87, 3) := by decide +kernel
theorem dX0_extend_82 : decode cX0_extend 82 = .ok (.iload 4, 2) := by decide +kernel
theorem dX0_extend_84 : decode cX0_extend 84 = .ok (.iaload, 1) := by decide +kernel
theorem dX0_extend_85 : decode cX0_extend 85 = .ok (.iaload, 1) := by decide +kernel
theorem dX0_extend_86 : decode cX0_extend 86 = .ok (.istore 5, 2) := by decide +kernel
theorem dX0_extend_88 : decode cX0_extend 88 = .ok (.aload_n 0, 1) := by decide +kernel
theorem dX0_extend_89 : decode cX0_extend 89 = .ok (.getfield 22, 3) := by decide +kernel
theorem dX0_extend_92 : decode cX0_extend 92 = .ok (.iload_n 1, 1) := by decide +kernel
theorem dX0_extend_93 : decode cX0_extend 93 = .ok (.iload 4, 2) := by decide +kernel
theorem dX0_extend_95 : decode cX0_extend 95 = .ok (.iastore, 1) := by decide +kernel
theorem dX0_extend_96 : decode cX0_extend 96 = .ok (.aload_n 0, 1) := by decide +kernel
theorem dX0_extend_97 : decode cX0_extend 97 = .ok (.getfield 47, 3) := by decide +kernel
theorem dX0_extend_100 : decode cX0_extend 100 = .ok (.iload 4, 2) := by decide +kernel
theorem dX0_extend_102 : decode cX0_extend 102 = .ok (.aload_n 0, 1) := by decide +kernel
theorem dX0_extend_103 : decode cX0_extend 103 = .ok (.getfield 47, 3) := by decide +kernel
theorem dX0_extend_106 : decode cX0_extend 106 = .ok (.iload 4, 2) := by decide +kernel
theorem dX0_extend_108 : decode cX0_extend 108 = .ok (.iload_n 2, 1) := by decide +kernel
theorem dX0_extend_109 : decode cX0_extend 109 = .ok (.invokevirtual 90, 3) := by decide +kernel
theorem dX0_extend_112 : decode cX0_extend 112 = .ok (.invokevirtual 94, 3) := by decide +kernel
theorem dX0_extend_115 : decode cX0_extend 115 = .ok (.aload_n 0, 1) := by decide +kernel
theorem dX0_extend_116 : decode cX0_extend 116 = .ok (.iload_n 1, 1) := by decide +kernel
theorem dX0_extend_117 : decode cX0_extend 117 = .ok (.iconst 1, 1) := by decide +kernel
theorem dX0_extend_118 : decode cX0_extend 118 = .ok (.iadd, 1) := by decide +kernel
theorem dX0_extend_119 : decode cX0_extend 119 = .ok (.iload_n 2, 1) := by decide +kernel
theorem dX0_extend_120 : decode cX0_extend 120 = .ok (.iconst 1, 1) := by decide +kernel
theorem dX0_extend_121 : decode cX0_extend 121 = .ok (.iload 4, 2) := by decide +kernel
theorem dX0_extend_123 : decode cX0_extend 123 = .ok (.ishl, 1) := by decide +kernel
theorem dX0_extend_124 : decode cX0_extend 124 = .ok (.ior, 1) := by decide +kernel
theorem dX0_extend_125 : decode cX0_extend 125 = .ok (.invokestatic 69, 3) := by decide +kernel
theorem dX0_extend_128 : decode cX0_extend 128 = .ok (.aload_n 0, 1) := by decide +kernel
theorem dX0_extend_129 : decode cX0_extend 129 = .ok (.getfield 47, 3) := by decide +kernel
theorem dX0_extend_132 : decode cX0_extend 132 = .ok (.getfield 84, 3) := by decide +kernel
theorem dX0_extend_135 : decode cX0_extend 135 = .ok (.aload_n 3, 1) := by decide +kernel
theorem dX0_extend_136 : decode cX0_extend 136 = .ok (.getfield 87, 3) := by decide +kernel
theorem dX0_extend_139 : decode cX0_extend 139 = .ok (.iload 4, 2) := by decide +kernel
theorem dX0_extend_141 : decode cX0_extend 141 = .ok (.iaload, 1) := by decide +kernel
theorem dX0_extend_142 : decode cX0_extend 142 = .ok (.iload 5, 2) := by decide +kernel
theorem dX0_extend_144 : decode cX0_extend 144 = .ok (.iastore, 1) := by decide +kernel
theorem dX0_extend_145 : decode cX0_extend 145 = .ok (.iinc 4 1, 3) := by decide +kernel
theorem dX0_extend_148 : decode cX0_extend 148 = .ok (.goto (-112), 3) := by decide +kernel
theorem dX0_extend_151 : decode cX0_extend 151 = .ok (.return_, 1) := by decide +kernel
set_option maxRecDepth 20000 in
theorem ggX0_isHopeless_X4_latestEnd : GoodIn wsX0_isHopeless wsX4_latestEnd := goodIn_r _ [13, 14, 15, 16, 17, 18, 66, 67, 68] (by decide +kernel) (by decide +kernel)
set_option maxRecDepth 20000 in
theorem gX0_isHopeless_X4_latestEnd : GoodIn wsX0_isHopeless (wsV RX0 97 RX4 yX4_latestEnd wsX4_latestEnd) := goodIn_app (goodIn_of _ (by decide +kernel)) ggX0_isHopeless_X4_latestEnd
set_option maxRecDepth 20000 in
theorem ggX0_isHopeless_X7_contains : GoodIn wsX0_isHopeless wsX7_contains := goodIn_r _ [21] (by decide +kernel) (by decide +kernel)
set_option maxRecDepth 20000 in
theorem gX0_isHopeless_X7_contains_n80 : GoodIn wsX0_isHopeless (wsX7_contains) := ggX0_isHopeless_X7_contains
set_option maxRecDepth 20000 in
theorem ggX0_isHopeless_X4_earliestEnd : GoodIn wsX0_isHopeless wsX4_earliestEnd := goodIn_r _ [25, 26, 27, 14, 28, 15, 16, 17, 18, 29, 30, 31, 32, 19, 20, 21, 66, 67, 68, 49, 50, 51, 52, 53, 54, 55, 56] (by decide +kernel) (by decide +kernel)
set_option maxRecDepth 20000 in
theorem gX0_isHopeless_X4_earliestEnd : GoodIn wsX0_isHopeless (wsV RX0 90 RX4 yX4_earliestEnd wsX4_earliestEnd) := goodIn_app (goodIn_of _ (by decide +kernel)) ggX0_isHopeless_X4_earliestEnd
set_option maxRecDepth 20000 in
theorem ggX0_isHopeless_X0_workFrom : GoodIn wsX0_isHopeless wsX0_workFrom := goodIn_r _ [37, 3, 4, 38, 5, 8, 19, 20, 21, 39, 40, 41, 42, 43, 44, 45, 46, 47, 48, 49, 50, 51, 52, 53, 54, 55, 56] (by decide +kernel) (by decide +kernel)
set_option maxRecDepth 20000 in
theorem gX0_isHopeless_X0_workFrom : GoodIn wsX0_isHopeless (wsV RX0 107 RX0 yX0_workFrom wsX0_workFrom) := goodIn_app (goodIn_of _ (by decide +kernel)) ggX0_isHopeless_X0_workFrom
theorem dX0_isHopeless_0 : decode cX0_isHopeless 0 = .ok (.aload_n 0, 1) := by decide +kernel
theorem dX0_isHopeless_1 : decode cX0_isHopeless 1 = .ok (.getfield 47, 3) := by decide +kernel
theorem dX0_isHopeless_4 : decode cX0_isHopeless 4 = .ok (.invokevirtual 97, 3) := by decide +kernel
theorem dX0_isHopeless_7 : decode cX0_isHopeless 7 = .ok (.aload_n 0, 1) := by decide +kernel
theorem dX0_isHopeless_8 : decode cX0_isHopeless 8 = .ok (.getfield 31, 3) := by decide +kernel
theorem dX0_isHopeless_11 : decode cX0_isHopeless 11 = .ok (.if_icmp .le 5, 3) := by decide +kernel
theorem dX0_isHopeless_14 : decode cX0_isHopeless 14 = .ok (.iconst 1, 1) := by decide +kernel
theorem dX0_isHopeless_15 : decode cX0_isHopeless 15 = .ok (.ireturn, 1) := by decide +kernel
theorem dX0_isHopeless_16 : decode cX0_isHopeless 16 = .ok (.iconst 0, 1) := by decide +kernel
theorem dX0_isHopeless_17 : decode cX0_isHopeless 17 = .ok (.istore_n 2, 1) := by decide +kernel
theorem dX0_isHopeless_18 : decode cX0_isHopeless 18 = .ok (.iload_n 2, 1) := by decide +kernel
theorem dX0_isHopeless_19 : decode cX0_isHopeless 19 = .ok (.aload_n 0, 1) := by decide +kernel
theorem dX0_isHopeless_20 : decode cX0_isHopeless 20 = .ok (.getfield 34, 3) := by decide +kernel
theorem dX0_isHopeless_23 : decode cX0_isHopeless 23 = .ok (.getfield 57, 3) := by decide +kernel
theorem dX0_isHopeless_26 : decode cX0_isHopeless 26 = .ok (.if_icmp .ge 73, 3) := by decide +kernel
theorem dX0_isHopeless_29 : decode cX0_isHopeless 29 = .ok (.iload_n 1, 1) := by decide +kernel
theorem dX0_isHopeless_30 : decode cX0_isHopeless 30 = .ok (.iload_n 2, 1) := by decide +kernel
theorem dX0_isHopeless_31 : decode cX0_isHopeless 31 = .ok (.invokestatic 80, 3) := by decide +kernel
theorem dX0_isHopeless_34 : decode cX0_isHopeless 34 = .ok (.ifCond .eq 6, 3) := by decide +kernel
theorem dX0_isHopeless_37 : decode cX0_isHopeless 37 = .ok (.goto 56, 3) := by decide +kernel
theorem dX0_isHopeless_40 : decode cX0_isHopeless 40 = .ok (.aload_n 0, 1) := by decide +kernel
theorem dX0_isHopeless_41 : decode cX0_isHopeless 41 = .ok (.getfield 28, 3) := by decide +kernel
theorem dX0_isHopeless_44 : decode cX0_isHopeless 44 = .ok (.iload_n 2, 1) := by decide +kernel
theorem dX0_isHopeless_45 : decode cX0_isHopeless 45 = .ok (.aload_n 0, 1) := by decide +kernel
theorem dX0_isHopeless_46 : decode cX0_isHopeless 46 = .ok (.getfield 47, 3) := by decide +kernel
theorem dX0_isHopeless_49 : decode cX0_isHopeless 49 = .ok (.iload_n 2, 1) := by decide +kernel
theorem dX0_isHopeless_50 : decode cX0_isHopeless 50 = .ok (.iload_n 1, 1) := by decide +kernel
theorem dX0_isHopeless_51 : decode cX0_isHopeless 51 = .ok (.invokevirtual 90, 3) := by decide +kernel
theorem dX0_isHopeless_54 : decode cX0_isHopeless 54 = .ok (.iastore, 1) := by decide +kernel
theorem dX0_isHopeless_55 : decode cX0_isHopeless 55 = .ok (.aload_n 0, 1) := by decide +kernel
theorem dX0_isHopeless_56 : decode cX0_isHopeless 56 = .ok (.getfield 28, 3) := by decide +kernel
theorem dX0_isHopeless_59 : decode cX0_isHopeless 59 = .ok (.iload_n 2, 1) := by decide +kernel
theorem dX0_isHopeless_60 : decode cX0_isHopeless 60 = .ok (.iaload, 1) := by decide +kernel
theorem dX0_isHopeless_61 : decode cX0_isHopeless 61 = .ok (.aload_n 0, 1) := by decide +kernel
theorem dX0_isHopeless_62 : decode cX0_isHopeless 62 = .ok (.getfield 38, 3) := by decide +kernel
theorem dX0_isHopeless_65 : decode cX0_isHopeless 65 = .ok (.getfield 101, 3) := by decide +kernel
theorem dX0_isHopeless_68 : decode cX0_isHopeless 68 = .ok (.iload_n 2, 1) := by decide +kernel
theorem dX0_isHopeless_69 : decode cX0_isHopeless 69 = .ok (.iaload, 1) := by decide +kernel
theorem dX0_isHopeless_70 : decode cX0_isHopeless 70 = .ok (.if_icmp .le 5, 3) := by decide +kernel
theorem dX0_isHopeless_73 : decode cX0_isHopeless 73 = .ok (.iconst 1, 1) := by decide +kernel
theorem dX0_isHopeless_74 : decode cX0_isHopeless 74 = .ok (.ireturn, 1) := by decide +kernel
theorem dX0_isHopeless_75 : decode cX0_isHopeless 75 = .ok (.aload_n 0, 1) := by decide +kernel
theorem dX0_isHopeless_76 : decode cX0_isHopeless 76 = .ok (.getfield 28, 3) := by decide +kernel
theorem dX0_isHopeless_79 : decode cX0_isHopeless 79 = .ok (.iload_n 2, 1) := by decide +kernel
theorem dX0_isHopeless_80 : decode cX0_isHopeless 80 = .ok (.dup2, 1) := by decide +kernel
theorem dX0_isHopeless_81 : decode cX0_isHopeless 81 = .ok (.iaload, 1) := by decide +kernel
theorem dX0_isHopeless_82 : decode cX0_isHopeless 82 = .ok (.aload_n 0, 1) := by decide +kernel
theorem dX0_isHopeless_83 : decode cX0_isHopeless 83 = .ok (.getfield 34, 3) := by decide +kernel
theorem dX0_isHopeless_86 : decode cX0_isHopeless 86 = .ok (.getfield 104, 3) := by decide +kernel
theorem dX0_isHopeless_89 : decode cX0_isHopeless 89 = .ok (.iload_n 2, 1) := by decide +kernel
theorem dX0_isHopeless_90 : decode cX0_isHopeless 90 = .ok (.iaload, 1) := by decide +kernel
theorem dX0_isHopeless_91 : decode cX0_isHopeless 91 = .ok (.isub, 1) := by decide +kernel
theorem dX0_isHopeless_92 : decode cX0_isHopeless 92 = .ok (.iastore, 1) := by decide +kernel
theorem dX0_isHopeless_93 : decode cX0_isHopeless 93 = .ok (.iinc 2 1, 3) := by decide +kernel
theorem dX0_isHopeless_96 : decode cX0_isHopeless 96 = .ok (.goto (-78), 3) := by decide +kernel
theorem dX0_isHopeless_99 : decode cX0_isHopeless 99 = .ok (.iconst 0, 1) := by decide +kernel
theorem dX0_isHopeless_100 : decode cX0_isHopeless 100 = .ok (.istore_n 2, 1) := by decide +kernel
theorem dX0_isHopeless_101 : decode cX0_isHopeless 101 = .ok (.iload_n 2, 1) := by decide +kernel
theorem dX0_isHopeless_102 : decode cX0_isHopeless 102 = .ok (.aload_n 0, 1) := by decide +kernel
theorem dX0_isHopeless_103 : decode cX0_isHopeless 103 = .ok (.getfield 34, 3) := by decide +kernel
theorem dX0_isHopeless_106 : decode cX0_isHopeless 106 = .ok (.getfield 57, 3) := by decide +kernel
theorem dX0_isHopeless_109 : decode cX0_isHopeless 109 = .ok (.if_icmp .ge 39, 3) := by decide +kernel
theorem dX0_isHopeless_112 : decode cX0_isHopeless 112 = .ok (.iload_n 1, 1) := by decide +kernel
theorem dX0_isHopeless_113 : decode cX0_isHopeless 113 = .ok (.iload_n 2, 1) := by decide +kernel
theorem dX0_isHopeless_114 : decode cX0_isHopeless 114 = .ok (.invokestatic 80, 3) := by decide +kernel
theorem dX0_isHopeless_117 : decode cX0_isHopeless 117 = .ok (.ifCond .ne 25, 3) := by decide +kernel
theorem dX0_isHopeless_120 : decode cX0_isHopeless 120 = .ok (.aload_n 0, 1) := by decide +kernel
theorem dX0_isHopeless_121 : decode cX0_isHopeless 121 = .ok (.getfield 28, 3) := by decide +kernel
theorem dX0_isHopeless_124 : decode cX0_isHopeless 124 = .ok (.iload_n 2, 1) := by decide +kernel
theorem dX0_isHopeless_125 : decode cX0_isHopeless 125 = .ok (.iaload, 1) := by decide +kernel
theorem dX0_isHopeless_126 : decode cX0_isHopeless 126 = .ok (.aload_n 0, 1) := by decide +kernel
theorem dX0_isHopeless_127 : decode cX0_isHopeless 127 = .ok (.iload_n 2, 1) := by decide +kernel
theorem dX0_isHopeless_128 : decode cX0_isHopeless 128 = .ok (.iload_n 1, 1) := by decide +kernel
theorem dX0_isHopeless_129 : decode cX0_isHopeless 129 = .ok (.invokevirtual 107, 3) := by decide +kernel
theorem dX0_isHopeless_132 : decode cX0_isHopeless 132 = .ok (.iadd, 1) := by decide +kernel
theorem dX0_isHopeless_133 : decode cX0_isHopeless 133 = .ok (.aload_n 0, 1) := by decide +kernel
theorem dX0_isHopeless_134 : decode cX0_isHopeless 134 = .ok (.getfield 31, 3) := by decide +kernel
theorem dX0_isHopeless_137 : decode cX0_isHopeless 137 = .ok (.if_icmp .le 5, 3) := by decide +kernel
theorem dX0_isHopeless_140 : decode cX0_isHopeless 140 = .ok (.iconst 1, 1) := by decide +kernel
theorem dX0_isHopeless_141 : decode cX0_isHopeless 141 = .ok (.ireturn, 1) := by decide +kernel
theorem dX0_isHopeless_142 : decode cX0_isHopeless 142 = .ok (.iinc 2 1, 3) := by decide +kernel
theorem dX0_isHopeless_145 : decode cX0_isHopeless 145 = .ok (.goto (-44), 3) := by decide +kernel
theorem dX0_isHopeless_148 : decode cX0_isHopeless 148 = .ok (.iconst 0, 1) := by decide +kernel
theorem dX0_isHopeless_149 : decode cX0_isHopeless 149 = .ok (.ireturn, 1) := by decide +kernel
set_option maxRecDepth 20000 in
theorem ggX0_workFrom_X7_contains : GoodIn wsX0_workFrom wsX7_contains := goodIn_r _ [8] (by decide +kernel) (by decide +kernel)
set_option maxRecDepth 20000 in
theorem gX0_workFrom_X7_contains_n80 : GoodIn wsX0_workFrom (wsX7_contains) := ggX0_workFrom_X7_contains
theorem dX0_workFrom_0 : decode cX0_workFrom 0 = .ok (.iconst 0, 1) := by decide +kernel
theorem dX0_workFrom_1 : decode cX0_workFrom 1 = .ok (.istore_n 3, 1) := by decide +kernel
theorem dX0_workFrom_2 : decode cX0_workFrom 2 = .ok (.iconst 0, 1) := by decide +kernel
theorem dX0_workFrom_3 : decode cX0_workFrom 3 = .ok (.istore 4, 2) := by decide +kernel
theorem dX0_workFrom_5 : decode cX0_workFrom 5 = .ok (.iload 4, 2) := by decide +kernel
theorem dX0_workFrom_7 : decode cX0_workFrom 7 = .ok (.aload_n 0, 1) := by decide +kernel
theorem dX0_workFrom_8 : decode cX0_workFrom 8 = .ok (.getfield 34, 3) := by decide +kernel
theorem dX0_workFrom_11 : decode cX0_workFrom 11 = .ok (.getfield 57, 3) := by decide +kernel
theorem dX0_workFrom_14 : decode cX0_workFrom 14 = .ok (.if_icmp .ge 69, 3) := by decide +kernel
theorem dX0_workFrom_17 : decode cX0_workFrom 17 = .ok (.iload_n 2, 1) := by decide +kernel
theorem dX0_workFrom_18 : decode cX0_workFrom 18 = .ok (.iload 4, 2) := by decide +kernel
theorem dX0_workFrom_20 : decode cX0_workFrom 20 = .ok (.invokestatic 80, 3) := by decide +kernel
theorem dX0_workFrom_23 : decode cX0_workFrom 23 = .ok (.ifCond .ne 54, 3) := by decide +kernel
theorem dX0_workFrom_26 : decode cX0_workFrom 26 = .ok (.aload_n 0, 1) := by decide +kernel
theorem dX0_workFrom_27 : decode cX0_workFrom 27 = .ok (.getfield 34, 3) := by decide +kernel
theorem dX0_workFrom_30 : decode cX0_workFrom 30 = .ok (.getfield 87, 3) := by decide +kernel
theorem dX0_workFrom_33 : decode cX0_workFrom 33 = .ok (.iload 4, 2) := by decide +kernel
theorem dX0_workFrom_35 : decode cX0_workFrom 35 = .ok (.iaload, 1) := by decide +kernel
theorem dX0_workFrom_36 : decode cX0_workFrom 36 = .ok (.aload_n 0, 1) := by decide +kernel
theorem dX0_workFrom_37 : decode cX0_workFrom 37 = .ok (.getfield 34, 3) := by decide +kernel
theorem dX0_workFrom_40 : decode cX0_workFrom 40 = .ok (.getfield 87, 3) := by decide +kernel
theorem dX0_workFrom_43 : decode cX0_workFrom 43 = .ok (.iload_n 1, 1) := by decide +kernel
theorem dX0_workFrom_44 : decode cX0_workFrom 44 = .ok (.iaload, 1) := by decide +kernel
theorem dX0_workFrom_45 : decode cX0_workFrom 45 = .ok (.if_icmp .ne 32, 3) := by decide +kernel
theorem dX0_workFrom_48 : decode cX0_workFrom 48 = .ok (.aload_n 0, 1) := by decide +kernel
theorem dX0_workFrom_49 : decode cX0_workFrom 49 = .ok (.getfield 28, 3) := by decide +kernel
theorem dX0_workFrom_52 : decode cX0_workFrom 52 = .ok (.iload 4, 2) := by decide +kernel
theorem dX0_workFrom_54 : decode cX0_workFrom 54 = .ok (.iaload, 1) := by decide +kernel
theorem dX0_workFrom_55 : decode cX0_workFrom 55 = .ok (.aload_n 0, 1) := by decide +kernel
theorem dX0_workFrom_56 : decode cX0_workFrom 56 = .ok (.getfield 28, 3) := by decide +kernel
theorem dX0_workFrom_59 : decode cX0_workFrom 59 = .ok (.iload_n 1, 1) := by decide +kernel
theorem dX0_workFrom_60 : decode cX0_workFrom 60 = .ok (.iaload, 1) := by decide +kernel
theorem dX0_workFrom_61 : decode cX0_workFrom 61 = .ok (.if_icmp .lt 16, 3) := by decide +kernel
theorem dX0_workFrom_64 : decode cX0_workFrom 64 = .ok (.iload_n 3, 1) := by decide +kernel
theorem dX0_workFrom_65 : decode cX0_workFrom 65 = .ok (.aload_n 0, 1) := by decide +kernel
theorem dX0_workFrom_66 : decode cX0_workFrom 66 = .ok (.getfield 34, 3) := by decide +kernel
theorem dX0_workFrom_69 : decode cX0_workFrom 69 = .ok (.getfield 104, 3) := by decide +kernel
theorem dX0_workFrom_72 : decode cX0_workFrom 72 = .ok (.iload 4, 2) := by decide +kernel
theorem dX0_workFrom_74 : decode cX0_workFrom 74 = .ok (.iaload, 1) := by decide +kernel
theorem dX0_workFrom_75 : decode cX0_workFrom 75 = .ok (.iadd, 1) := by decide +kernel
theorem dX0_workFrom_76 : decode cX0_workFrom 76 = .ok (.istore_n 3, 1) := by decide +kernel
theorem dX0_workFrom_77 : decode cX0_workFrom 77 = .ok (.iinc 4 1, 3) := by decide +kernel
theorem dX0_workFrom_80 : decode cX0_workFrom 80 = .ok (.goto (-75), 3) := by decide +kernel
theorem dX0_workFrom_83 : decode cX0_workFrom 83 = .ok (.iload_n 3, 1) := by decide +kernel
theorem dX0_workFrom_84 : decode cX0_workFrom 84 = .ok (.ireturn, 1) := by decide +kernel
set_option maxRecDepth 20000 in
theorem ggX0_keepIfBetter_X4_latestEnd : GoodIn wsX0_keepIfBetter wsX4_latestEnd := goodIn_r _ [15, 16, 17, 18, 19, 20, 39, 40, 41] (by decide +kernel) (by decide +kernel)
set_option maxRecDepth 20000 in
theorem gX0_keepIfBetter_X4_latestEnd : GoodIn wsX0_keepIfBetter (wsV RX0 97 RX4 yX4_latestEnd wsX4_latestEnd) := goodIn_app (goodIn_of _ (by decide +kernel)) ggX0_keepIfBetter_X4_latestEnd
theorem dX0_keepIfBetter_0 : decode cX0_keepIfBetter 0 = .ok (.aload_n 0, 1) := by decide +kernel
theorem dX0_keepIfBetter_1 : decode cX0_keepIfBetter 1 = .ok (.getfield 47, 3) := by decide +kernel
theorem dX0_keepIfBetter_4 : decode cX0_keepIfBetter 4 = .ok (.invokevirtual 97, 3) := by decide +kernel
theorem dX0_keepIfBetter_7 : decode cX0_keepIfBetter 7 = .ok (.istore_n 1, 1) := by decide +kernel
theorem dX0_keepIfBetter_8 : decode cX0_keepIfBetter 8 = .ok (.iload_n 1, 1) := by decide +kernel
theorem dX0_keepIfBetter_9 : decode cX0_keepIfBetter 9 = .ok (.aload_n 0, 1) := by decide +kernel
theorem dX0_keepIfBetter_10 : decode cX0_keepIfBetter 10 = .ok (.getfield 31, 3) := by decide +kernel
theorem dX0_keepIfBetter_13 : decode cX0_keepIfBetter 13 = .ok (.if_icmp .le 4, 3) := by decide +kernel
theorem dX0_keepIfBetter_16 : decode cX0_keepIfBetter 16 = .ok (.return_, 1) := by decide +kernel
theorem dX0_keepIfBetter_17 : decode cX0_keepIfBetter 17 = .ok (.aload_n 0, 1) := by decide +kernel
theorem dX0_keepIfBetter_18 : decode cX0_keepIfBetter 18 = .ok (.iload_n 1, 1) := by decide +kernel
theorem dX0_keepIfBetter_19 : decode cX0_keepIfBetter 19 = .ok (.putfield 9, 3) := by decide +kernel
theorem dX0_keepIfBetter_22 : decode cX0_keepIfBetter 22 = .ok (.aload_n 0, 1) := by decide +kernel
theorem dX0_keepIfBetter_23 : decode cX0_keepIfBetter 23 = .ok (.iload_n 1, 1) := by decide +kernel
theorem dX0_keepIfBetter_24 : decode cX0_keepIfBetter 24 = .ok (.iconst 1, 1) := by decide +kernel
theorem dX0_keepIfBetter_25 : decode cX0_keepIfBetter 25 = .ok (.isub, 1) := by decide +kernel
theorem dX0_keepIfBetter_26 : decode cX0_keepIfBetter 26 = .ok (.putfield 31, 3) := by decide +kernel
theorem dX0_keepIfBetter_29 : decode cX0_keepIfBetter 29 = .ok (.iconst 0, 1) := by decide +kernel
theorem dX0_keepIfBetter_30 : decode cX0_keepIfBetter 30 = .ok (.istore_n 2, 1) := by decide +kernel
theorem dX0_keepIfBetter_31 : decode cX0_keepIfBetter 31 = .ok (.iload_n 2, 1) := by decide +kernel
theorem dX0_keepIfBetter_32 : decode cX0_keepIfBetter 32 = .ok (.aload_n 0, 1) := by decide +kernel
theorem dX0_keepIfBetter_33 : decode cX0_keepIfBetter 33 = .ok (.getfield 34, 3) := by decide +kernel
theorem dX0_keepIfBetter_36 : decode cX0_keepIfBetter 36 = .ok (.getfield 57, 3) := by decide +kernel
theorem dX0_keepIfBetter_39 : decode cX0_keepIfBetter 39 = .ok (.if_icmp .ge 48, 3) := by decide +kernel
theorem dX0_keepIfBetter_42 : decode cX0_keepIfBetter 42 = .ok (.aload_n 0, 1) := by decide +kernel
theorem dX0_keepIfBetter_43 : decode cX0_keepIfBetter 43 = .ok (.getfield 22, 3) := by decide +kernel
theorem dX0_keepIfBetter_46 : decode cX0_keepIfBetter 46 = .ok (.iload_n 2, 1) := by decide +kernel
theorem dX0_keepIfBetter_47 : decode cX0_keepIfBetter 47 = .ok (.iaload, 1) := by decide +kernel
theorem dX0_keepIfBetter_48 : decode cX0_keepIfBetter 48 = .ok (.istore_n 3, 1) := by decide +kernel
theorem dX0_keepIfBetter_49 : decode cX0_keepIfBetter 49 = .ok (.aload_n 0, 1) := by decide +kernel
theorem dX0_keepIfBetter_50 : decode cX0_keepIfBetter 50 = .ok (.getfield 15, 3) := by decide +kernel
theorem dX0_keepIfBetter_53 : decode cX0_keepIfBetter 53 = .ok (.iload_n 3, 1) := by decide +kernel
theorem dX0_keepIfBetter_54 : decode cX0_keepIfBetter 54 = .ok (.iload_n 2, 1) := by decide +kernel
theorem dX0_keepIfBetter_55 : decode cX0_keepIfBetter 55 = .ok (.iastore, 1) := by decide +kernel
theorem dX0_keepIfBetter_56 : decode cX0_keepIfBetter 56 = .ok (.aload_n 0, 1) := by decide +kernel
theorem dX0_keepIfBetter_57 : decode cX0_keepIfBetter 57 = .ok (.getfield 19, 3) := by decide +kernel
theorem dX0_keepIfBetter_60 : decode cX0_keepIfBetter 60 = .ok (.iload_n 3, 1) := by decide +kernel
theorem dX0_keepIfBetter_61 : decode cX0_keepIfBetter 61 = .ok (.aload_n 0, 1) := by decide +kernel
theorem dX0_keepIfBetter_62 : decode cX0_keepIfBetter 62 = .ok (.getfield 47, 3) := by decide +kernel
theorem dX0_keepIfBetter_65 : decode cX0_keepIfBetter 65 = .ok (.getfield 110, 3) := by decide +kernel
theorem dX0_keepIfBetter_68 : decode cX0_keepIfBetter 68 = .ok (.iload_n 3, 1) := by decide +kernel
theorem dX0_keepIfBetter_69 : decode cX0_keepIfBetter 69 = .ok (.iaload, 1) := by decide +kernel
theorem dX0_keepIfBetter_70 : decode cX0_keepIfBetter 70 = .ok (.aload_n 0, 1) := by decide +kernel
theorem dX0_keepIfBetter_71 : decode cX0_keepIfBetter 71 = .ok (.getfield 34, 3) := by decide +kernel
theorem dX0_keepIfBetter_74 : decode cX0_keepIfBetter 74 = .ok (.getfield 104, 3) := by decide +kernel
theorem dX0_keepIfBetter_77 : decode cX0_keepIfBetter 77 = .ok (.iload_n 3, 1) := by decide +kernel
theorem dX0_keepIfBetter_78 : decode cX0_keepIfBetter 78 = .ok (.iaload, 1) := by decide +kernel
theorem dX0_keepIfBetter_79 : decode cX0_keepIfBetter 79 = .ok (.isub, 1) := by decide +kernel
theorem dX0_keepIfBetter_80 : decode cX0_keepIfBetter 80 = .ok (.iastore, 1) := by decide +kernel
theorem dX0_keepIfBetter_81 : decode cX0_keepIfBetter 81 = .ok (.iinc 2 1, 3) := by decide +kernel
theorem dX0_keepIfBetter_84 : decode cX0_keepIfBetter 84 = .ok (.goto (-53), 3) := by decide +kernel
theorem dX0_keepIfBetter_87 : decode cX0_keepIfBetter 87 = .ok (.return_, 1) := by decide +kernel
set_option maxRecDepth 20000 in
theorem ggX1_init_X4_init : GoodIn wsX1_init wsX4_init := goodIn_r _ [12, 13, 2, 3, 14, 15, 16, 17, 21, 22, 23] (by decide +kernel) (by decide +kernel)
set_option maxRecDepth 20000 in
theorem gX1_init_X4_init : GoodIn wsX1_init (wsX4_init) := ggX1_init_X4_init
theorem dX1_init_0 : decode cX1_init 0 = .ok (.aload_n 0, 1) := by decide +kernel
theorem dX1_init_1 : decode cX1_init 1 = .ok (.invokespecial 3, 3) := by decide +kernel
theorem dX1_init_4 : decode cX1_init 4 = .ok (.aload_n 0, 1) := by decide +kernel
theorem dX1_init_5 : decode cX1_init 5 = .ok (.lconst 0, 1) := by decide +kernel
theorem dX1_init_6 : decode cX1_init 6 = .ok (.putfield 9, 3) := by decide +kernel
theorem dX1_init_9 : decode cX1_init 9 = .ok (.aload_n 0, 1) := by decide +kernel
theorem dX1_init_10 : decode cX1_init 10 = .ok (.aload_n 1, 1) := by decide +kernel
theorem dX1_init_11 : decode cX1_init 11 = .ok (.putfield 15, 3) := by decide +kernel
theorem dX1_init_14 : decode cX1_init 14 = .ok (.aload_n 0, 1) := by decide +kernel
theorem dX1_init_15 : decode cX1_init 15 = .ok (.new 19, 3) := by decide +kernel
theorem dX1_init_18 : decode cX1_init 18 = .ok (.dup, 1) := by decide +kernel
theorem dX1_init_19 : decode cX1_init 19 = .ok (.aload_n 1, 1) := by decide +kernel
theorem dX1_init_20 : decode cX1_init 20 = .ok (.invokespecial 21, 3) := by decide +kernel
theorem dX1_init_23 : decode cX1_init 23 = .ok (.putfield 24, 3) := by decide +kernel
theorem dX1_init_26 : decode cX1_init 26 = .ok (.return_, 1) := by decide +kernel
set_option maxRecDepth 20000 in
theorem ggX1_leastMakespan_X1_drawRow : GoodIn wsX1_leastMakespan wsX1_drawRow := goodIn_r _ [6, 7, 8, 9, 10, 11, 12, 13, 14, 15, 16, 17, 18, 19, 5, 20, 1, 21, 22, 23, 24, 25, 26, 27, 28, 29, 30, 31, 32, 33, 34, 35, 36, 37, 38, 39, 40, 41, 42, 43, 44, 45, 46, 47, 48, 49, 50, 51, 52, 53, 54, 55, 56, 57, 58, 59, 60, 61, 62, 63, 64, 65, 66, 67, 68, 69, 70, 71, 72] (by decide +kernel) (by decide +kernel)
set_option maxRecDepth 20000 in
theorem gX1_leastMakespan_X1_drawRow : GoodIn wsX1_leastMakespan (wsV RX1 28 RX1 yX1_drawRow wsX1_drawRow) := goodIn_app (goodIn_of _ (by decide +kernel)) ggX1_leastMakespan_X1_drawRow
theorem dX1_leastMakespan_0 : decode cX1_leastMakespan 0 = .ok (.aload_n 0, 1) := by decide +kernel
theorem dX1_leastMakespan_1 : decode cX1_leastMakespan 1 = .ok (.iload_n 1, 1) := by decide +kernel
theorem dX1_leastMakespan_2 : decode cX1_leastMakespan 2 = .ok (.i2l, 1) := by decide +kernel
theorem dX1_leastMakespan_3 : decode cX1_leastMakespan 3 = .ok (.putfield 9, 3) := by decide +kernel
theorem dX1_leastMakespan_6 : decode cX1_leastMakespan 6 = .ok (.iconst (-1), 1) := by decide +kernel
theorem dX1_leastMakespan_7 : decode cX1_leastMakespan 7 = .ok (.istore_n 3, 1) := by decide +kernel
theorem dX1_leastMakespan_8 : decode cX1_leastMakespan 8 = .ok (.iconst 0, 1) := by decide +kernel
theorem dX1_leastMakespan_9 : decode cX1_leastMakespan 9 = .ok (.istore 4, 2) := by decide +kernel
theorem dX1_leastMakespan_11 : decode cX1_leastMakespan 11 = .ok (.iload 4, 2) := by decide +kernel
theorem dX1_leastMakespan_13 : decode cX1_leastMakespan 13 = .ok (.iload_n 2, 1) := by decide +kernel
theorem dX1_leastMakespan_14 : decode cX1_leastMakespan 14 = .ok (.if_icmp .ge 35, 3) := by decide +kernel
theorem dX1_leastMakespan_17 : decode cX1_leastMakespan 17 = .ok (.aload_n 0, 1) := by decide +kernel
theorem dX1_leastMakespan_18 : decode cX1_leastMakespan 18 = .ok (.invokevirtual 28, 3) := by decide +kernel
theorem dX1_leastMakespan_21 : decode cX1_leastMakespan 21 = .ok (.istore 5, 2) := by decide +kernel
theorem dX1_leastMakespan_23 : decode cX1_leastMakespan 23 = .ok (.iload 5, 2) := by decide +kernel
theorem dX1_leastMakespan_25 : decode cX1_leastMakespan 25 = .ok (.iconst (-1), 1) := by decide +kernel
theorem dX1_leastMakespan_26 : decode cX1_leastMakespan 26 = .ok (.if_icmp .eq 17, 3) := by decide +kernel
theorem dX1_leastMakespan_29 : decode cX1_leastMakespan 29 = .ok (.iload_n 3, 1) := by decide +kernel
theorem dX1_leastMakespan_30 : decode cX1_leastMakespan 30 = .ok (.iconst (-1), 1) := by decide +kernel
theorem dX1_leastMakespan_31 : decode cX1_leastMakespan 31 = .ok (.if_icmp .eq 9, 3) := by decide +kernel
theorem dX1_leastMakespan_34 : decode cX1_leastMakespan 34 = .ok (.iload 5, 2) := by decide +kernel
theorem dX1_leastMakespan_36 : decode cX1_leastMakespan 36 = .ok (.iload_n 3, 1) := by decide +kernel
theorem dX1_leastMakespan_37 : decode cX1_leastMakespan 37 = .ok (.if_icmp .ge 6, 3) := by decide +kernel
theorem dX1_leastMakespan_40 : decode cX1_leastMakespan 40 = .ok (.iload 5, 2) := by decide +kernel
theorem dX1_leastMakespan_42 : decode cX1_leastMakespan 42 = .ok (.istore_n 3, 1) := by decide +kernel
theorem dX1_leastMakespan_43 : decode cX1_leastMakespan 43 = .ok (.iinc 4 1, 3) := by decide +kernel
theorem dX1_leastMakespan_46 : decode cX1_leastMakespan 46 = .ok (.goto (-35), 3) := by decide +kernel
theorem dX1_leastMakespan_49 : decode cX1_leastMakespan 49 = .ok (.iload_n 3, 1) := by decide +kernel
theorem dX1_leastMakespan_50 : decode cX1_leastMakespan 50 = .ok (.ireturn, 1) := by decide +kernel
set_option maxRecDepth 20000 in
theorem ggX1_drawRow_X4_restart : GoodIn wsX1_drawRow wsX4_restart := goodIn_r _ [9, 10, 66, 67, 68] (by decide +kernel) (by decide +kernel)
set_option maxRecDepth 20000 in
theorem gX1_drawRow_X4_restart : GoodIn wsX1_drawRow (wsV RX1 32 RX4 yX4_restart wsX4_restart) := goodIn_app (goodIn_of _ (by decide +kernel)) ggX1_drawRow_X4_restart
set_option maxRecDepth 20000 in
theorem ggX1_drawRow_X1_drawTask : GoodIn wsX1_drawRow wsX1_drawTask := goodIn_r _ [15, 16, 17, 18, 19, 2, 3, 20, 21, 22, 23, 24, 25, 26, 27, 28, 29, 30, 31, 55, 56, 57, 58, 59, 60, 61, 62, 63, 64, 65] (by decide +kernel) (by decide +kernel)
set_option maxRecDepth 20000 in
theorem gX1_drawRow_X1_drawTask : GoodIn wsX1_drawRow (wsV RX1 41 RX1 yX1_drawTask wsX1_drawTask) := goodIn_app (goodIn_of _ (by decide +kernel)) ggX1_drawRow_X1_drawTask
set_option maxRecDepth 20000 in
theorem ggX1_drawRow_X4_earliestEnd : GoodIn wsX1_drawRow wsX4_earliestEnd := goodIn_r _ [35, 36, 37, 10, 38, 39, 40, 41, 42, 43, 44, 45, 46, 22, 23, 24, 66, 67, 68, 58, 59, 60, 61, 62, 63, 64, 65] (by decide +kernel) (by decide +kernel)
set_option maxRecDepth 20000 in
theorem gX1_drawRow_X4_earliestEnd : GoodIn wsX1_drawRow (wsV RX1 45 RX4 yX4_earliestEnd wsX4_earliestEnd) := goodIn_app (goodIn_of _ (by decide +kernel)) ggX1_drawRow_X4_earliestEnd
set_option maxRecDepth 20000 in
theorem ggX1_drawRow_X4_place : GoodIn wsX1_drawRow wsX4_place := goodIn_r _ [50, 45, 10, 36, 38, 66, 67, 68, 58, 59, 60, 61, 62, 63, 64, 65] (by decide +kernel) (by decide +kernel)
set_option maxRecDepth 20000 in
theorem gX1_drawRow_X4_place : GoodIn wsX1_drawRow (wsV RX1 49 RX4 yX4_place wsX4_place) := goodIn_app (goodIn_of _ (by decide +kernel)) ggX1_drawRow_X4_place
set_option maxRecDepth 20000 in
theorem ggX1_drawRow_X4_latestEnd : GoodIn wsX1_drawRow wsX4_latestEnd := goodIn_r _ [54, 10, 39, 40, 41, 42, 66, 67, 68] (by decide +kernel) (by decide +kernel)
set_option maxRecDepth 20000 in
theorem gX1_drawRow_X4_latestEnd : GoodIn wsX1_drawRow (wsV RX1 57 RX4 yX4_latestEnd wsX4_latestEnd) := goodIn_app (goodIn_of _ (by decide +kernel)) ggX1_drawRow_X4_latestEnd
theorem dX1_drawRow_0 : decode cX1_drawRow 0 = .ok (.aload_n 0, 1) := by decide +kernel
theorem dX1_drawRow_1 : decode cX1_drawRow 1 = .ok (.getfield 24, 3) := by decide +kernel
theorem dX1_drawRow_4 : decode cX1_drawRow 4 = .ok (.invokevirtual 32, 3) := by decide +kernel
theorem dX1_drawRow_7 : decode cX1_drawRow 7 = .ok (.iconst 1, 1) := by decide +kernel
theorem dX1_drawRow_8 : decode cX1_drawRow 8 = .ok (.istore_n 1, 1) := by decide +kernel
theorem dX1_drawRow_9 : decode cX1_drawRow 9 = .ok (.iconst 0, 1) := by decide +kernel
theorem dX1_drawRow_10 : decode cX1_drawRow 10 = .ok (.istore_n 2, 1) := by decide +kernel
theorem dX1_drawRow_11 : decode cX1_drawRow 11 = .ok (.iconst 0, 1) := by decide +kernel
theorem dX1_drawRow_12 : decode cX1_drawRow 12 = .ok (.istore_n 3, 1) := by decide +kernel
theorem dX1_drawRow_13 : decode cX1_drawRow 13 = .ok (.iload_n 3, 1) := by decide +kernel
theorem dX1_drawRow_14 : decode cX1_drawRow 14 = .ok (.aload_n 0, 1) := by decide +kernel
theorem dX1_drawRow_15 : decode cX1_drawRow 15 = .ok (.getfield 15, 3) := by decide +kernel
theorem dX1_drawRow_18 : decode cX1_drawRow 18 = .ok (.getfield 35, 3) := by decide +kernel
theorem dX1_drawRow_21 : decode cX1_drawRow 21 = .ok (.if_icmp .ge 71, 3) := by decide +kernel
theorem dX1_drawRow_24 : decode cX1_drawRow 24 = .ok (.aload_n 0, 1) := by decide +kernel
theorem dX1_drawRow_25 : decode cX1_drawRow 25 = .ok (.iload_n 2, 1) := by decide +kernel
theorem dX1_drawRow_26 : decode cX1_drawRow 26 = .ok (.invokevirtual 41, 3) := by decide +kernel
theorem dX1_drawRow_29 : decode cX1_drawRow 29 = .ok (.istore 4, 2) := by decide +kernel
theorem dX1_drawRow_31 : decode cX1_drawRow 31 = .ok (.aload_n 0, 1) := by decide +kernel
theorem dX1_drawRow_32 : decode cX1_drawRow 32 = .ok (.getfield 24, 3) := by decide +kernel
theorem dX1_drawRow_35 : decode cX1_drawRow 35 = .ok (.iload 4, 2) := by decide +kernel
theorem dX1_drawRow_37 : decode cX1_drawRow 37 = .ok (.iload_n 2, 1) := by decide +kernel
theorem dX1_drawRow_38 : decode cX1_drawRow 38 = .ok (.invokevirtual 45, 3) := by decide +kernel
theorem dX1_drawRow_41 : decode cX1_drawRow 41 = .ok (.istore 5, 2) := by decide +kernel
theorem dX1_drawRow_43 : decode cX1_drawRow 43 = .ok (.aload_n 0, 1) := by decide +kernel
theorem dX1_drawRow_44 : decode cX1_drawRow 44 = .ok (.getfield 24, 3) := by decide +kernel
theorem dX1_drawRow_47 : decode cX1_drawRow 47 = .ok (.iload 4, 2) := by decide +kernel
theorem dX1_drawRow_49 : decode cX1_drawRow 49 = .ok (.iload 5, 2) := by decide +kernel
theorem dX1_drawRow_51 : decode cX1_drawRow 51 = .ok (.invokevirtual 49, 3) := by decide +kernel
theorem dX1_drawRow_54 : decode cX1_drawRow 54 = .ok (.iload_n 2, 1) := by decide +kernel
theorem dX1_drawRow_55 : decode cX1_drawRow 55 = .ok (.iconst 1, 1) := by decide +kernel
theorem dX1_drawRow_56 : decode cX1_drawRow 56 = .ok (.iload 4, 2) := by decide +kernel
theorem dX1_drawRow_58 : decode cX1_drawRow 58 = .ok (.ishl, 1) := by decide +kernel
theorem dX1_drawRow_59 : decode cX1_drawRow 59 = .ok (.ior, 1) := by decide +kernel
theorem dX1_drawRow_60 : decode cX1_drawRow 60 = .ok (.istore_n 2, 1) := by decide +kernel
theorem dX1_drawRow_61 : decode cX1_drawRow 61 = .ok (.iload_n 1, 1) := by decide +kernel
theorem dX1_drawRow_62 : decode cX1_drawRow 62 = .ok (.ifCond .eq 22, 3) := by decide +kernel
theorem dX1_drawRow_65 : decode cX1_drawRow 65 = .ok (.iload 5, 2) := by decide +kernel
theorem dX1_drawRow_67 : decode cX1_drawRow 67 = .ok (.aload_n 0, 1) := by decide +kernel
theorem dX1_drawRow_68 : decode cX1_drawRow 68 = .ok (.getfield 15, 3) := by decide +kernel
theorem dX1_drawRow_71 : decode cX1_drawRow 71 = .ok (.getfield 53, 3) := by decide +kernel
theorem dX1_drawRow_74 : decode cX1_drawRow 74 = .ok (.iload 4, 2) := by decide +kernel
theorem dX1_drawRow_76 : decode cX1_drawRow 76 = .ok (.iaload, 1) := by decide +kernel
theorem dX1_drawRow_77 : decode cX1_drawRow 77 = .ok (.if_icmp .gt 7, 3) := by decide +kernel
theorem dX1_drawRow_80 : decode cX1_drawRow 80 = .ok (.iconst 1, 1) := by decide +kernel
theorem dX1_drawRow_81 : decode cX1_drawRow 81 = .ok (.goto 4, 3) := by decide +kernel
theorem dX1_drawRow_84 : decode cX1_drawRow 84 = .ok (.iconst 0, 1) := by decide +kernel
theorem dX1_drawRow_85 : decode cX1_drawRow 85 = .ok (.istore_n 1, 1) := by decide +kernel
theorem dX1_drawRow_86 : decode cX1_drawRow 86 = .ok (.iinc 3 1, 3) := by decide +kernel
theorem dX1_drawRow_89 : decode cX1_drawRow 89 = .ok (.goto (-76), 3) := by decide +kernel
theorem dX1_drawRow_92 : decode cX1_drawRow 92 = .ok (.iload_n 1, 1) := by decide +kernel
theorem dX1_drawRow_93 : decode cX1_drawRow 93 = .ok (.ifCond .eq 13, 3) := by decide +kernel
theorem dX1_drawRow_96 : decode cX1_drawRow 96 = .ok (.aload_n 0, 1) := by decide +kernel
theorem dX1_drawRow_97 : decode cX1_drawRow 97 = .ok (.getfield 24, 3) := by decide +kernel
theorem dX1_drawRow_100 : decode cX1_drawRow 100 = .ok (.invokevirtual 57, 3) := by decide +kernel
theorem dX1_drawRow_103 : decode cX1_drawRow 103 = .ok (.goto 4, 3) := by decide +kernel
theorem dX1_drawRow_106 : decode cX1_drawRow 106 = .ok (.iconst (-1), 1) := by decide +kernel
theorem dX1_drawRow_107 : decode cX1_drawRow 107 = .ok (.ireturn, 1) := by decide +kernel
set_option maxRecDepth 20000 in
theorem ggX1_drawTask_X7_contains : GoodIn wsX1_drawTask wsX7_contains := goodIn_r _ [11] (by decide +kernel) (by decide +kernel)
set_option maxRecDepth 20000 in
theorem gX1_drawTask_X7_contains_n66 : GoodIn wsX1_drawTask (wsX7_contains) := ggX1_drawTask_X7_contains
set_option maxRecDepth 20000 in
theorem ggX1_drawTask_J6_bitCount_0f7a4 : GoodIn wsX1_drawTask wsJ6_bitCount_0f7a4 := goodIn_r _ [15, 16, 17, 18] (by decide +kernel) (by decide +kernel)
set_option maxRecDepth 20000 in
theorem gX1_drawTask_J6_bitCount_0f7a4 : GoodIn wsX1_drawTask (va_wsS RX1 73 yJ6_bitCount_0f7a4 wsJ6_bitCount_0f7a4) := goodIn_app (goodIn_of _ (by decide +kernel)) ggX1_drawTask_J6_bitCount_0f7a4
theorem dX1_drawTask_0 : decode cX1_drawTask 0 = .ok (.aload_n 0, 1) := by decide +kernel
theorem dX1_drawTask_1 : decode cX1_drawTask 1 = .ok (.aload_n 0, 1) := by decide +kernel
theorem dX1_drawTask_2 : decode cX1_drawTask 2 = .ok (.getfield 9, 3) := by decide +kernel
theorem dX1_drawTask_5 : decode cX1_drawTask 5 = .ok (.ldc2_w 60, 3) := by decide +kernel
theorem dX1_drawTask_8 : decode cX1_drawTask 8 = .ok (.lmul, 1) := by decide +kernel
theorem dX1_drawTask_9 : decode cX1_drawTask 9 = .ok (.ldc2_w 62, 3) := by decide +kernel
theorem dX1_drawTask_12 : decode cX1_drawTask 12 = .ok (.ladd, 1) := by decide +kernel
theorem dX1_drawTask_13 : decode cX1_drawTask 13 = .ok (.ldc2_w 64, 3) := by decide +kernel
theorem dX1_drawTask_16 : decode cX1_drawTask 16 = .ok (.lrem, 1) := by decide +kernel
theorem dX1_drawTask_17 : decode cX1_drawTask 17 = .ok (.putfield 9, 3) := by decide +kernel
theorem dX1_drawTask_20 : decode cX1_drawTask 20 = .ok (.iconst 0, 1) := by decide +kernel
theorem dX1_drawTask_21 : decode cX1_drawTask 21 = .ok (.istore_n 2, 1) := by decide +kernel
theorem dX1_drawTask_22 : decode cX1_drawTask 22 = .ok (.iconst 0, 1) := by decide +kernel
theorem dX1_drawTask_23 : decode cX1_drawTask 23 = .ok (.istore_n 3, 1) := by decide +kernel
theorem dX1_drawTask_24 : decode cX1_drawTask 24 = .ok (.iload_n 3, 1) := by decide +kernel
theorem dX1_drawTask_25 : decode cX1_drawTask 25 = .ok (.aload_n 0, 1) := by decide +kernel
theorem dX1_drawTask_26 : decode cX1_drawTask 26 = .ok (.getfield 15, 3) := by decide +kernel
theorem dX1_drawTask_29 : decode cX1_drawTask 29 = .ok (.getfield 35, 3) := by decide +kernel
theorem dX1_drawTask_32 : decode cX1_drawTask 32 = .ok (.if_icmp .ge 39, 3) := by decide +kernel
theorem dX1_drawTask_35 : decode cX1_drawTask 35 = .ok (.iload_n 1, 1) := by decide +kernel
theorem dX1_drawTask_36 : decode cX1_drawTask 36 = .ok (.iload_n 3, 1) := by decide +kernel
theorem dX1_drawTask_37 : decode cX1_drawTask 37 = .ok (.invokestatic 66, 3) := by decide +kernel
theorem dX1_drawTask_40 : decode cX1_drawTask 40 = .ok (.ifCond .ne 25, 3) := by decide +kernel
theorem dX1_drawTask_43 : decode cX1_drawTask 43 = .ok (.aload_n 0, 1) := by decide +kernel
theorem dX1_drawTask_44 : decode cX1_drawTask 44 = .ok (.getfield 15, 3) := by decide +kernel
theorem dX1_drawTask_47 : decode cX1_drawTask 47 = .ok (.getfield 70, 3) := by decide +kernel
theorem dX1_drawTask_50 : decode cX1_drawTask 50 = .ok (.iload_n 3, 1) := by decide +kernel
theorem dX1_drawTask_51 : decode cX1_drawTask 51 = .ok (.iaload, 1) := by decide +kernel
theorem dX1_drawTask_52 : decode cX1_drawTask 52 = .ok (.iload_n 1, 1) := by decide +kernel
theorem dX1_drawTask_53 : decode cX1_drawTask 53 = .ok (.iconst (-1), 1) := by decide +kernel
theorem dX1_drawTask_54 : decode cX1_drawTask 54 = .ok (.ixor, 1) := by decide +kernel
theorem dX1_drawTask_55 : decode cX1_drawTask 55 = .ok (.iand, 1) := by decide +kernel
theorem dX1_drawTask_56 : decode cX1_drawTask 56 = .ok (.ifCond .ne 9, 3) := by decide +kernel
theorem dX1_drawTask_59 : decode cX1_drawTask 59 = .ok (.iload_n 2, 1) := by decide +kernel
theorem dX1_drawTask_60 : decode cX1_drawTask 60 = .ok (.iconst 1, 1) := by decide +kernel
theorem dX1_drawTask_61 : decode cX1_drawTask 61 = .ok (.iload_n 3, 1) := by decide +kernel
theorem dX1_drawTask_62 : decode cX1_drawTask 62 = .ok (.ishl, 1) := by decide +kernel
theorem dX1_drawTask_63 : decode cX1_drawTask 63 = .ok (.ior, 1) := by decide +kernel
theorem dX1_drawTask_64 : decode cX1_drawTask 64 = .ok (.istore_n 2, 1) := by decide +kernel
theorem dX1_drawTask_65 : decode cX1_drawTask 65 = .ok (.iinc 3 1, 3) := by decide +kernel
theorem dX1_drawTask_68 : decode cX1_drawTask 68 = .ok (.goto (-44), 3) := by decide +kernel
theorem dX1_drawTask_71 : decode cX1_drawTask 71 = .ok (.iload_n 2, 1) := by decide +kernel
theorem dX1_drawTask_72 : decode cX1_drawTask 72 = .ok (.invokestatic 73, 3) := by decide +kernel
theorem dX1_drawTask_75 : decode cX1_drawTask 75 = .ok (.istore_n 3, 1) := by decide +kernel
theorem dX1_drawTask_76 : decode cX1_drawTask 76 = .ok (.iload_n 3, 1) := by decide +kernel
theorem dX1_drawTask_77 : decode cX1_drawTask 77 = .ok (.ifCond .le 17, 3) := by decide +kernel
theorem dX1_drawTask_80 : decode cX1_drawTask 80 = .ok (.aload_n 0, 1) := by decide +kernel
theorem dX1_drawTask_81 : decode cX1_drawTask 81 = .ok (.getfield 9, 3) := by decide +kernel
theorem dX1_drawTask_84 : decode cX1_drawTask 84 = .ok (.ldc2_w 78, 3) := by decide +kernel
theorem dX1_drawTask_87 : decode cX1_drawTask 87 = .ok (.ldiv, 1) := by decide +kernel
theorem dX1_drawTask_88 : decode cX1_drawTask 88 = .ok (.iload_n 3, 1) := by decide +kernel
theorem dX1_drawTask_89 : decode cX1_drawTask 89 = .ok (.i2l, 1) := by decide +kernel
theorem dX1_drawTask_90 : decode cX1_drawTask 90 = .ok (.lrem, 1) := by decide +kernel
theorem dX1_drawTask_91 : decode cX1_drawTask 91 = .ok (.goto 4, 3) := by decide +kernel
theorem dX1_drawTask_94 : decode cX1_drawTask 94 = .ok (.lconst 0, 1) := by decide +kernel
theorem dX1_drawTask_95 : decode cX1_drawTask 95 = .ok (.lstore 4, 2) := by decide +kernel
theorem dX1_drawTask_97 : decode cX1_drawTask 97 = .ok (.iconst 0, 1) := by decide +kernel
theorem dX1_drawTask_98 : decode cX1_drawTask 98 = .ok (.istore 6, 2) := by decide +kernel
theorem dX1_drawTask_100 : decode cX1_drawTask 100 = .ok (.iload 6, 2) := by decide +kernel
theorem dX1_drawTask_102 : decode cX1_drawTask 102 = .ok (.aload_n 0, 1) := by decide +kernel
theorem dX1_drawTask_103 : decode cX1_drawTask 103 = .ok (.getfield 15, 3) := by decide +kernel
theorem dX1_drawTask_106 : decode cX1_drawTask 106 = .ok (.getfield 35, 3) := by decide +kernel
theorem dX1_drawTask_109 : decode cX1_drawTask 109 = .ok (.if_icmp .ge 34, 3) := by decide +kernel
theorem dX1_drawTask_112 : decode cX1_drawTask 112 = .ok (.iload_n 2, 1) := by decide +kernel
theorem dX1_drawTask_113 : decode cX1_drawTask 113 = .ok (.iload 6, 2) := by decide +kernel
theorem dX1_drawTask_115 : decode cX1_drawTask 115 = .ok (.invokestatic 66, 3) := by decide +kernel
theorem dX1_drawTask_118 : decode cX1_drawTask 118 = .ok (.ifCond .eq 19, 3) := by decide +kernel
theorem dX1_drawTask_121 : decode cX1_drawTask 121 = .ok (.lload 4, 2) := by decide +kernel
theorem dX1_drawTask_123 : decode cX1_drawTask 123 = .ok (.lconst 0, 1) := by decide +kernel
theorem dX1_drawTask_124 : decode cX1_drawTask 124 = .ok (.lcmp, 1) := by decide +kernel
theorem dX1_drawTask_125 : decode cX1_drawTask 125 = .ok (.ifCond .ne 6, 3) := by decide +kernel
theorem dX1_drawTask_128 : decode cX1_drawTask 128 = .ok (.iload 6, 2) := by decide +kernel
theorem dX1_drawTask_130 : decode cX1_drawTask 130 = .ok (.ireturn, 1) := by decide +kernel
theorem dX1_drawTask_131 : decode cX1_drawTask 131 = .ok (.lload 4, 2) := by decide +kernel
theorem dX1_drawTask_133 : decode cX1_drawTask 133 = .ok (.lconst 1, 1) := by decide +kernel
theorem dX1_drawTask_134 : decode cX1_drawTask 134 = .ok (.lsub, 1) := by decide +kernel
theorem dX1_drawTask_135 : decode cX1_drawTask 135 = .ok (.lstore 4, 2) := by decide +kernel
theorem dX1_drawTask_137 : decode cX1_drawTask 137 = .ok (.iinc 6 1, 3) := by decide +kernel
theorem dX1_drawTask_140 : decode cX1_drawTask 140 = .ok (.goto (-40), 3) := by decide +kernel
theorem dX1_drawTask_143 : decode cX1_drawTask 143 = .ok (.iconst 0, 1) := by decide +kernel
theorem dX1_drawTask_144 : decode cX1_drawTask 144 = .ok (.ireturn, 1) := by decide +kernel
set_option maxRecDepth 20000 in
theorem ggX2_init_X5_init : GoodIn wsX2_init wsX5_init := goodIn_r _ [10, 11, 2, 3, 12, 13, 14, 15, 16, 17, 18, 19, 20, 23, 24, 25, 26, 27, 28, 29, 30] (by decide +kernel) (by decide +kernel)
set_option maxRecDepth 20000 in
theorem gX2_init_X5_init_n21 : GoodIn wsX2_init (wsX5_init) := ggX2_init_X5_init
theorem dX2_init_0 : decode cX2_init 0 = .ok (.aload_n 0, 1) := by decide +kernel
theorem dX2_init_1 : decode cX2_init 1 = .ok (.invokespecial 3, 3) := by decide +kernel
theorem dX2_init_4 : decode cX2_init 4 = .ok (.aload_n 0, 1) := by decide +kernel
theorem dX2_init_5 : decode cX2_init 5 = .ok (.iconst 0, 1) := by decide +kernel
theorem dX2_init_6 : decode cX2_init 6 = .ok (.putfield 9, 3) := by decide +kernel
theorem dX2_init_9 : decode cX2_init 9 = .ok (.aload_n 0, 1) := by decide +kernel
theorem dX2_init_10 : decode cX2_init 10 = .ok (.iconst 4, 1) := by decide +kernel
theorem dX2_init_11 : decode cX2_init 11 = .ok (.anewarray 15, 3) := by decide +kernel
theorem dX2_init_14 : decode cX2_init 14 = .ok (.putfield 17, 3) := by decide +kernel
theorem dX2_init_17 : decode cX2_init 17 = .ok (.iconst 0, 1) := by decide +kernel
theorem dX2_init_18 : decode cX2_init 18 = .ok (.istore_n 1, 1) := by decide +kernel
theorem dX2_init_19 : decode cX2_init 19 = .ok (.iload_n 1, 1) := by decide +kernel
theorem dX2_init_20 : decode cX2_init 20 = .ok (.iconst 4, 1) := by decide +kernel
theorem dX2_init_21 : decode cX2_init 21 = .ok (.if_icmp .ge 22, 3) := by decide +kernel
theorem dX2_init_24 : decode cX2_init 24 = .ok (.aload_n 0, 1) := by decide +kernel
theorem dX2_init_25 : decode cX2_init 25 = .ok (.getfield 17, 3) := by decide +kernel
theorem dX2_init_28 : decode cX2_init 28 = .ok (.iload_n 1, 1) := by decide +kernel
theorem dX2_init_29 : decode cX2_init 29 = .ok (.new 15, 3) := by decide +kernel
theorem dX2_init_32 : decode cX2_init 32 = .ok (.dup, 1) := by decide +kernel
theorem dX2_init_33 : decode cX2_init 33 = .ok (.invokespecial 21, 3) := by decide +kernel
theorem dX2_init_36 : decode cX2_init 36 = .ok (.aastore, 1) := by decide +kernel
theorem dX2_init_37 : decode cX2_init 37 = .ok (.iinc 1 1, 3) := by decide +kernel
theorem dX2_init_40 : decode cX2_init 40 = .ok (.goto (-21), 3) := by decide +kernel
theorem dX2_init_43 : decode cX2_init 43 = .ok (.return_, 1) := by decide +kernel
set_option maxRecDepth 20000 in
theorem ggX2_save_X5_copyFrom : GoodIn wsX2_save wsX5_copyFrom := goodIn_r _ [7, 8, 9, 10, 11, 12, 13, 14, 15, 18, 19, 20, 21, 22, 23, 24, 25] (by decide +kernel) (by decide +kernel)
set_option maxRecDepth 20000 in
theorem gX2_save_X5_copyFrom : GoodIn wsX2_save (wsV RX2 22 RX5 yX5_copyFrom wsX5_copyFrom) := goodIn_app (goodIn_of _ (by decide +kernel)) ggX2_save_X5_copyFrom
theorem dX2_save_0 : decode cX2_save 0 = .ok (.aload_n 0, 1) := by decide +kernel
theorem dX2_save_1 : decode cX2_save 1 = .ok (.getfield 9, 3) := by decide +kernel
theorem dX2_save_4 : decode cX2_save 4 = .ok (.iconst 4, 1) := by decide +kernel
theorem dX2_save_5 : decode cX2_save 5 = .ok (.if_icmp .lt 49, 3) := by decide +kernel
theorem dX2_save_8 : decode cX2_save 8 = .ok (.aload_n 0, 1) := by decide +kernel
theorem dX2_save_9 : decode cX2_save 9 = .ok (.getfield 17, 3) := by decide +kernel
theorem dX2_save_12 : decode cX2_save 12 = .ok (.iconst 0, 1) := by decide +kernel
theorem dX2_save_13 : decode cX2_save 13 = .ok (.aaload, 1) := by decide +kernel
theorem dX2_save_14 : decode cX2_save 14 = .ok (.astore_n 2, 1) := by decide +kernel
theorem dX2_save_15 : decode cX2_save 15 = .ok (.iconst 1, 1) := by decide +kernel
theorem dX2_save_16 : decode cX2_save 16 = .ok (.istore_n 3, 1) := by decide +kernel
theorem dX2_save_17 : decode cX2_save 17 = .ok (.iload_n 3, 1) := by decide +kernel
theorem dX2_save_18 : decode cX2_save 18 = .ok (.iconst 4, 1) := by decide +kernel
theorem dX2_save_19 : decode cX2_save 19 = .ok (.if_icmp .ge 23, 3) := by decide +kernel
theorem dX2_save_22 : decode cX2_save 22 = .ok (.aload_n 0, 1) := by decide +kernel
theorem dX2_save_23 : decode cX2_save 23 = .ok (.getfield 17, 3) := by decide +kernel
theorem dX2_save_26 : decode cX2_save 26 = .ok (.iload_n 3, 1) := by decide +kernel
theorem dX2_save_27 : decode cX2_save 27 = .ok (.iconst 1, 1) := by decide +kernel
theorem dX2_save_28 : decode cX2_save 28 = .ok (.isub, 1) := by decide +kernel
theorem dX2_save_29 : decode cX2_save 29 = .ok (.aload_n 0, 1) := by decide +kernel
theorem dX2_save_30 : decode cX2_save 30 = .ok (.getfield 17, 3) := by decide +kernel
theorem dX2_save_33 : decode cX2_save 33 = .ok (.iload_n 3, 1) := by decide +kernel
theorem dX2_save_34 : decode cX2_save 34 = .ok (.aaload, 1) := by decide +kernel
theorem dX2_save_35 : decode cX2_save 35 = .ok (.aastore, 1) := by decide +kernel
theorem dX2_save_36 : decode cX2_save 36 = .ok (.iinc 3 1, 3) := by decide +kernel
theorem dX2_save_39 : decode cX2_save 39 = .ok (.goto (-22), 3) := by decide +kernel
theorem dX2_save_42 : decode cX2_save 42 = .ok (.aload_n 0, 1) := by decide +kernel
theorem dX2_save_43 : decode cX2_save 43 = .ok (.getfield 17, 3) := by decide +kernel
theorem dX2_save_46 : decode cX2_save 46 = .ok (.iconst 3, 1) := by decide +kernel
theorem dX2_save_47 : decode cX2_save 47 = .ok (.aload_n 2, 1) := by decide +kernel
theorem dX2_save_48 : decode cX2_save 48 = .ok (.aastore, 1) := by decide +kernel
theorem dX2_save_49 : decode cX2_save 49 = .ok (.aload_n 0, 1) := by decide +kernel
theorem dX2_save_50 : decode cX2_save 50 = .ok (.iconst 3, 1) := by decide +kernel
theorem dX2_save_51 : decode cX2_save 51 = .ok (.putfield 9, 3) := by decide +kernel
theorem dX2_save_54 : decode cX2_save 54 = .ok (.aload_n 0, 1) := by decide +kernel
theorem dX2_save_55 : decode cX2_save 55 = .ok (.getfield 17, 3) := by decide +kernel
theorem dX2_save_58 : decode cX2_save 58 = .ok (.aload_n 0, 1) := by decide +kernel
theorem dX2_save_59 : decode cX2_save 59 = .ok (.getfield 9, 3) := by decide +kernel
theorem dX2_save_62 : decode cX2_save 62 = .ok (.aaload, 1) := by decide +kernel
theorem dX2_save_63 : decode cX2_save 63 = .ok (.aload_n 1, 1) := by decide +kernel
theorem dX2_save_64 : decode cX2_save 64 = .ok (.invokevirtual 22, 3) := by decide +kernel
theorem dX2_save_67 : decode cX2_save 67 = .ok (.aload_n 0, 1) := by decide +kernel
theorem dX2_save_68 : decode cX2_save 68 = .ok (.dup, 1) := by decide +kernel
theorem dX2_save_69 : decode cX2_save 69 = .ok (.getfield 9, 3) := by decide +kernel
theorem dX2_save_72 : decode cX2_save 72 = .ok (.iconst 1, 1) := by decide +kernel
theorem dX2_save_73 : decode cX2_save 73 = .ok (.iadd, 1) := by decide +kernel
theorem dX2_save_74 : decode cX2_save 74 = .ok (.putfield 9, 3) := by decide +kernel
theorem dX2_save_77 : decode cX2_save 77 = .ok (.return_, 1) := by decide +kernel
set_option maxRecDepth 20000 in
theorem ggX2_restoreInto_X5_copyFrom : GoodIn wsX2_restoreInto wsX5_copyFrom := goodIn_r _ [7, 8, 9, 10, 11, 12, 13, 14, 15, 18, 19, 20, 21, 22, 23, 24, 25] (by decide +kernel) (by decide +kernel)
set_option maxRecDepth 20000 in
theorem gX2_restoreInto_X5_copyFrom : GoodIn wsX2_restoreInto (wsV RX2 22 RX5 yX5_copyFrom wsX5_copyFrom) := goodIn_app (goodIn_of _ (by decide +kernel)) ggX2_restoreInto_X5_copyFrom
theorem dX2_restoreInto_0 : decode cX2_restoreInto 0 = .ok (.aload_n 0, 1) := by decide +kernel
theorem dX2_restoreInto_1 : decode cX2_restoreInto 1 = .ok (.getfield 9, 3) := by decide +kernel
theorem dX2_restoreInto_4 : decode cX2_restoreInto 4 = .ok (.ifCond .le 26, 3) := by decide +kernel
theorem dX2_restoreInto_7 : decode cX2_restoreInto 7 = .ok (.aload_n 0, 1) := by decide +kernel
theorem dX2_restoreInto_8 : decode cX2_restoreInto 8 = .ok (.dup, 1) := by decide +kernel
theorem dX2_restoreInto_9 : decode cX2_restoreInto 9 = .ok (.getfield 9, 3) := by decide +kernel
theorem dX2_restoreInto_12 : decode cX2_restoreInto 12 = .ok (.iconst 1, 1) := by decide +kernel
theorem dX2_restoreInto_13 : decode cX2_restoreInto 13 = .ok (.isub, 1) := by decide +kernel
theorem dX2_restoreInto_14 : decode cX2_restoreInto 14 = .ok (.putfield 9, 3) := by decide +kernel
theorem dX2_restoreInto_17 : decode cX2_restoreInto 17 = .ok (.aload_n 1, 1) := by decide +kernel
theorem dX2_restoreInto_18 : decode cX2_restoreInto 18 = .ok (.aload_n 0, 1) := by decide +kernel
theorem dX2_restoreInto_19 : decode cX2_restoreInto 19 = .ok (.getfield 17, 3) := by decide +kernel
theorem dX2_restoreInto_22 : decode cX2_restoreInto 22 = .ok (.aload_n 0, 1) := by decide +kernel
theorem dX2_restoreInto_23 : decode cX2_restoreInto 23 = .ok (.getfield 9, 3) := by decide +kernel
theorem dX2_restoreInto_26 : decode cX2_restoreInto 26 = .ok (.aaload, 1) := by decide +kernel
theorem dX2_restoreInto_27 : decode cX2_restoreInto 27 = .ok (.invokevirtual 22, 3) := by decide +kernel
theorem dX2_restoreInto_30 : decode cX2_restoreInto 30 = .ok (.return_, 1) := by decide +kernel
theorem dX3_init_0 : decode cX3_init 0 = .ok (.aload_n 0, 1) := by decide +kernel
theorem dX3_init_1 : decode cX3_init 1 = .ok (.invokespecial 3, 3) := by decide +kernel
theorem dX3_init_4 : decode cX3_init 4 = .ok (.aload_n 0, 1) := by decide +kernel
theorem dX3_init_5 : decode cX3_init 5 = .ok (.iconst 0, 1) := by decide +kernel
theorem dX3_init_6 : decode cX3_init 6 = .ok (.putfield 9, 3) := by decide +kernel
theorem dX3_init_9 : decode cX3_init 9 = .ok (.aload_n 0, 1) := by decide +kernel
theorem dX3_init_10 : decode cX3_init 10 = .ok (.iconst 0, 1) := by decide +kernel
theorem dX3_init_11 : decode cX3_init 11 = .ok (.putfield 15, 3) := by decide +kernel
theorem dX3_init_14 : decode cX3_init 14 = .ok (.aload_n 0, 1) := by decide +kernel
theorem dX3_init_15 : decode cX3_init 15 = .ok (.iconst 0, 1) := by decide +kernel
theorem dX3_init_16 : decode cX3_init 16 = .ok (.putfield 18, 3) := by decide +kernel
theorem dX3_init_19 : decode cX3_init 19 = .ok (.aload_n 0, 1) := by decide +kernel
theorem dX3_init_20 : decode cX3_init 20 = .ok (.iconst 0, 1) := by decide +kernel
theorem dX3_init_21 : decode cX3_init 21 = .ok (.putfield 21, 3) := by decide +kernel
theorem dX3_init_24 : decode cX3_init 24 = .ok (.aload_n 0, 1) := by decide +kernel
theorem dX3_init_25 : decode cX3_init 25 = .ok (.iconst 0, 1) := by decide +kernel
theorem dX3_init_26 : decode cX3_init 26 = .ok (.putfield 24, 3) := by decide +kernel
theorem dX3_init_29 : decode cX3_init 29 = .ok (.aload_n 0, 1) := by decide +kernel
theorem dX3_init_30 : decode cX3_init 30 = .ok (.iconst 0, 1) := by decide +kernel
theorem dX3_init_31 : decode cX3_init 31 = .ok (.putfield 27, 3) := by decide +kernel
theorem dX3_init_34 : decode cX3_init 34 = .ok (.aload_n 0, 1) := by decide +kernel
theorem dX3_init_35 : decode cX3_init 35 = .ok (.iconst 0, 1) := by decide +kernel
theorem dX3_init_36 : decode cX3_init 36 = .ok (.putfield 30, 3) := by decide +kernel
theorem dX3_init_39 : decode cX3_init 39 = .ok (.aload_n 0, 1) := by decide +kernel
theorem dX3_init_40 : decode cX3_init 40 = .ok (.iconst 0, 1) := by decide +kernel
theorem dX3_init_41 : decode cX3_init 41 = .ok (.putfield 33, 3) := by decide +kernel
theorem dX3_init_44 : decode cX3_init 44 = .ok (.aload_n 0, 1) := by decide +kernel
theorem dX3_init_45 : decode cX3_init 45 = .ok (.bipush 100, 2) := by decide +kernel
theorem dX3_init_47 : decode cX3_init 47 = .ok (.newarray .byte, 2) := by decide +kernel
theorem dX3_init_49 : decode cX3_init 49 = .ok (.putfield 36, 3) := by decide +kernel
theorem dX3_init_52 : decode cX3_init 52 = .ok (.aload_n 0, 1) := by decide +kernel
theorem dX3_init_53 : decode cX3_init 53 = .ok (.iconst 0, 1) := by decide +kernel
theorem dX3_init_54 : decode cX3_init 54 = .ok (.putfield 40, 3) := by decide +kernel
theorem dX3_init_57 : decode cX3_init 57 = .ok (.aload_n 0, 1) := by decide +kernel
theorem dX3_init_58 : decode cX3_init 58 = .ok (.iconst (-1), 1) := by decide +kernel
theorem dX3_init_59 : decode cX3_init 59 = .ok (.putfield 43, 3) := by decide +kernel
theorem dX3_init_62 : decode cX3_init 62 = .ok (.return_, 1) := by decide +kernel
theorem dX4_init_0 : decode cX4_init 0 = .ok (.aload_n 0, 1) := by decide +kernel
theorem dX4_init_1 : decode cX4_init 1 = .ok (.invokespecial 3, 3) := by decide +kernel
theorem dX4_init_4 : decode cX4_init 4 = .ok (.aload_n 0, 1) := by decide +kernel
theorem dX4_init_5 : decode cX4_init 5 = .ok (.bipush 8, 2) := by decide +kernel
theorem dX4_init_7 : decode cX4_init 7 = .ok (.newarray .int, 2) := by decide +kernel
theorem dX4_init_9 : decode cX4_init 9 = .ok (.putfield 9, 3) := by decide +kernel
theorem dX4_init_12 : decode cX4_init 12 = .ok (.aload_n 0, 1) := by decide +kernel
theorem dX4_init_13 : decode cX4_init 13 = .ok (.iconst 3, 1) := by decide +kernel
theorem dX4_init_14 : decode cX4_init 14 = .ok (.newarray .int, 2) := by decide +kernel
theorem dX4_init_16 : decode cX4_init 16 = .ok (.putfield 15, 3) := by decide +kernel
theorem dX4_init_19 : decode cX4_init 19 = .ok (.aload_n 0, 1) := by decide +kernel
theorem dX4_init_20 : decode cX4_init 20 = .ok (.aload_n 1, 1) := by decide +kernel
theorem dX4_init_21 : decode cX4_init 21 = .ok (.putfield 18, 3) := by decide +kernel
theorem dX4_init_24 : decode cX4_init 24 = .ok (.return_, 1) := by decide +kernel
theorem dX4_restart_0 : decode cX4_restart 0 = .ok (.iconst 0, 1) := by decide +kernel
theorem dX4_restart_1 : decode cX4_restart 1 = .ok (.istore_n 1, 1) := by decide +kernel
theorem dX4_restart_2 : decode cX4_restart 2 = .ok (.iload_n 1, 1) := by decide +kernel
theorem dX4_restart_3 : decode cX4_restart 3 = .ok (.iconst 3, 1) := by decide +kernel
theorem dX4_restart_4 : decode cX4_restart 4 = .ok (.if_icmp .ge 16, 3) := by decide +kernel
theorem dX4_restart_7 : decode cX4_restart 7 = .ok (.aload_n 0, 1) := by decide +kernel
theorem dX4_restart_8 : decode cX4_restart 8 = .ok (.getfield 15, 3) := by decide +kernel
theorem dX4_restart_11 : decode cX4_restart 11 = .ok (.iload_n 1, 1) := by decide +kernel
theorem dX4_restart_12 : decode cX4_restart 12 = .ok (.iconst 0, 1) := by decide +kernel
theorem dX4_restart_13 : decode cX4_restart 13 = .ok (.iastore, 1) := by decide +kernel
theorem dX4_restart_14 : decode cX4_restart 14 = .ok (.iinc 1 1, 3) := by decide +kernel
theorem dX4_restart_17 : decode cX4_restart 17 = .ok (.goto (-15), 3) := by decide +kernel
theorem dX4_restart_20 : decode cX4_restart 20 = .ok (.return_, 1) := by decide +kernel
set_option maxRecDepth 20000 in
theorem ggX4_earliestEnd_X7_contains : GoodIn wsX4_earliestEnd wsX7_contains := goodIn_r _ [15] (by decide +kernel) (by decide +kernel)
set_option maxRecDepth 20000 in
theorem gX4_earliestEnd_X7_contains_n43 : GoodIn wsX4_earliestEnd (wsX7_contains) := ggX4_earliestEnd_X7_contains
theorem dX4_earliestEnd_0 : decode cX4_earliestEnd 0 = .ok (.aload_n 0, 1) := by decide +kernel
theorem dX4_earliestEnd_1 : decode cX4_earliestEnd 1 = .ok (.getfield 18, 3) := by decide +kernel
theorem dX4_earliestEnd_4 : decode cX4_earliestEnd 4 = .ok (.getfield 22, 3) := by decide +kernel
theorem dX4_earliestEnd_7 : decode cX4_earliestEnd 7 = .ok (.iload_n 1, 1) := by decide +kernel
theorem dX4_earliestEnd_8 : decode cX4_earliestEnd 8 = .ok (.iaload, 1) := by decide +kernel
theorem dX4_earliestEnd_9 : decode cX4_earliestEnd 9 = .ok (.aload_n 0, 1) := by decide +kernel
theorem dX4_earliestEnd_10 : decode cX4_earliestEnd 10 = .ok (.getfield 15, 3) := by decide +kernel
