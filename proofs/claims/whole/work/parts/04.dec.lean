set_option maxRecDepth 20000 in
theorem ggX0_init_X4_init : GoodIn wsX0_init wsX4_init := goodIn_r _ [20, 21, 2, 3, 5, 22, 23, 24, 35, 36, 37] (by decide +kernel) (by decide +kernel)
set_option maxRecDepth 20000 in
theorem gX0_init_X4_init : GoodIn wsX0_init (wsX4_init) := ggX0_init_X4_init
theorem dX0_init_0 : decode cX0_init 0 = .ok (.aload_n 0, 1) := by decide +kernel
theorem dX0_init_1 : decode cX0_init 1 = .ok (.invokespecial 3, 3) := by decide +kernel
theorem dX0_init_4 : decode cX0_init 4 = .ok (.aload_n 0, 1) := by decide +kernel
theorem dX0_init_5 : decode cX0_init 5 = .ok (.iconst (-1), 1) := by decide +kernel
theorem dX0_init_6 : decode cX0_init 6 = .ok (.putfield 9, 3) := by decide +kernel
theorem dX0_init_9 : decode cX0_init 9 = .ok (.aload_n 0, 1) := by decide +kernel
theorem dX0_init_10 : decode cX0_init 10 = .ok (.bipush 8, 2) := by decide +kernel
theorem dX0_init_12 : decode cX0_init 12 = .ok (.newarray .int, 2) := by decide +kernel
theorem dX0_init_14 : decode cX0_init 14 = .ok (.putfield 15, 3) := by decide +kernel
theorem dX0_init_17 : decode cX0_init 17 = .ok (.aload_n 0, 1) := by decide +kernel
theorem dX0_init_18 : decode cX0_init 18 = .ok (.bipush 8, 2) := by decide +kernel
theorem dX0_init_20 : decode cX0_init 20 = .ok (.newarray .int, 2) := by decide +kernel
theorem dX0_init_22 : decode cX0_init 22 = .ok (.putfield 19, 3) := by decide +kernel
theorem dX0_init_25 : decode cX0_init 25 = .ok (.aload_n 0, 1) := by decide +kernel
theorem dX0_init_26 : decode cX0_init 26 = .ok (.bipush 8, 2) := by decide +kernel
theorem dX0_init_28 : decode cX0_init 28 = .ok (.newarray .int, 2) := by decide +kernel
theorem dX0_init_30 : decode cX0_init 30 = .ok (.putfield 22, 3) := by decide +kernel
theorem dX0_init_33 : decode cX0_init 33 = .ok (.aload_n 0, 1) := by decide +kernel
theorem dX0_init_34 : decode cX0_init 34 = .ok (.bipush 8, 2) := by decide +kernel
theorem dX0_init_36 : decode cX0_init 36 = .ok (.newarray .int, 2) := by decide +kernel
theorem dX0_init_38 : decode cX0_init 38 = .ok (.putfield 25, 3) := by decide +kernel
theorem dX0_init_41 : decode cX0_init 41 = .ok (.aload_n 0, 1) := by decide +kernel
theorem dX0_init_42 : decode cX0_init 42 = .ok (.bipush 8, 2) := by decide +kernel
theorem dX0_init_44 : decode cX0_init 44 = .ok (.newarray .int, 2) := by decide +kernel
theorem dX0_init_46 : decode cX0_init 46 = .ok (.putfield 28, 3) := by decide +kernel
theorem dX0_init_49 : decode cX0_init 49 = .ok (.aload_n 0, 1) := by decide +kernel
theorem dX0_init_50 : decode cX0_init 50 = .ok (.sipush 400, 3) := by decide +kernel
theorem dX0_init_53 : decode cX0_init 53 = .ok (.putfield 31, 3) := by decide +kernel
theorem dX0_init_56 : decode cX0_init 56 = .ok (.aload_n 0, 1) := by decide +kernel
theorem dX0_init_57 : decode cX0_init 57 = .ok (.aload_n 1, 1) := by decide +kernel
theorem dX0_init_58 : decode cX0_init 58 = .ok (.putfield 34, 3) := by decide +kernel
theorem dX0_init_61 : decode cX0_init 61 = .ok (.aload_n 0, 1) := by decide +kernel
theorem dX0_init_62 : decode cX0_init 62 = .ok (.aload_n 2, 1) := by decide +kernel
theorem dX0_init_63 : decode cX0_init 63 = .ok (.putfield 38, 3) := by decide +kernel
theorem dX0_init_66 : decode cX0_init 66 = .ok (.aload_n 0, 1) := by decide +kernel
theorem dX0_init_67 : decode cX0_init 67 = .ok (.new 42, 3) := by decide +kernel
theorem dX0_init_70 : decode cX0_init 70 = .ok (.dup, 1) := by decide +kernel
theorem dX0_init_71 : decode cX0_init 71 = .ok (.aload_n 1, 1) := by decide +kernel
theorem dX0_init_72 : decode cX0_init 72 = .ok (.invokespecial 44, 3) := by decide +kernel
theorem dX0_init_75 : decode cX0_init 75 = .ok (.putfield 47, 3) := by decide +kernel
theorem dX0_init_78 : decode cX0_init 78 = .ok (.return_, 1) := by decide +kernel
set_option maxRecDepth 20000 in
theorem ggX0_search_X6_aheadOf : GoodIn wsX0_search wsX6_aheadOf := goodIn_r _ [12, 13, 14, 15, 16, 17, 18, 83, 84, 85, 86, 87, 88, 89, 90, 91, 92, 93, 94, 95, 96, 97, 98, 99] (by decide +kernel) (by decide +kernel)
set_option maxRecDepth 20000 in
theorem gX0_search_X6_aheadOf_n62 : GoodIn wsX0_search (wsX6_aheadOf) := ggX0_search_X6_aheadOf
set_option maxRecDepth 20000 in
theorem ggX0_search_X4_restart : GoodIn wsX0_search wsX4_restart := goodIn_r _ [23, 24, 100, 101, 102] (by decide +kernel) (by decide +kernel)
set_option maxRecDepth 20000 in
theorem gX0_search_X4_restart : GoodIn wsX0_search (wsV RX0 66 RX4 yX4_restart wsX4_restart) := goodIn_app (goodIn_of _ (by decide +kernel)) ggX0_search_X4_restart
set_option maxRecDepth 20000 in
theorem ggX0_search_X0_extend : GoodIn wsX0_search wsX0_extend := goodIn_r _ [28, 5, 6, 7, 8, 29, 30, 31, 32, 33, 34, 27, 35, 2, 1, 36, 37, 38, 39, 40, 41, 42, 22, 43, 24, 44, 45, 46, 47, 48, 49, 50, 51, 52, 3, 53, 16, 17, 18, 54, 55, 56, 57, 58, 59, 60, 61, 62, 63, 64, 65, 66, 67, 68, 69, 70, 71, 72, 25, 26, 73, 74, 75, 76, 77, 78, 79, 80, 81, 82, 92, 93, 94, 95, 96, 97, 98, 99, 100, 101, 102, 83, 84, 85, 86, 87, 88, 89, 90, 91] (by decide +kernel) (by decide +kernel)
set_option maxRecDepth 20000 in
theorem gX0_search_X0_extend : GoodIn wsX0_search (va_wsS RX0 69 yX0_extend wsX0_extend) := goodIn_app (goodIn_of _ (by decide +kernel)) ggX0_search_X0_extend
theorem dX0_search_0 : decode cX0_search 0 = .ok (.aload_n 0, 1) := by decide +kernel
theorem dX0_search_1 : decode cX0_search 1 = .ok (.iconst (-1), 1) := by decide +kernel
theorem dX0_search_2 : decode cX0_search 2 = .ok (.putfield 9, 3) := by decide +kernel
theorem dX0_search_5 : decode cX0_search 5 = .ok (.aload_n 0, 1) := by decide +kernel
theorem dX0_search_6 : decode cX0_search 6 = .ok (.sipush 400, 3) := by decide +kernel
theorem dX0_search_9 : decode cX0_search 9 = .ok (.putfield 31, 3) := by decide +kernel
theorem dX0_search_12 : decode cX0_search 12 = .ok (.aload_n 0, 1) := by decide +kernel
theorem dX0_search_13 : decode cX0_search 13 = .ok (.getfield 38, 3) := by decide +kernel
theorem dX0_search_16 : decode cX0_search 16 = .ok (.getfield 51, 3) := by decide +kernel
theorem dX0_search_19 : decode cX0_search 19 = .ok (.ifCond .eq 4, 3) := by decide +kernel
theorem dX0_search_22 : decode cX0_search 22 = .ok (.return_, 1) := by decide +kernel
theorem dX0_search_23 : decode cX0_search 23 = .ok (.iconst 0, 1) := by decide +kernel
theorem dX0_search_24 : decode cX0_search 24 = .ok (.istore_n 1, 1) := by decide +kernel
theorem dX0_search_25 : decode cX0_search 25 = .ok (.iload_n 1, 1) := by decide +kernel
theorem dX0_search_26 : decode cX0_search 26 = .ok (.aload_n 0, 1) := by decide +kernel
theorem dX0_search_27 : decode cX0_search 27 = .ok (.getfield 34, 3) := by decide +kernel
theorem dX0_search_30 : decode cX0_search 30 = .ok (.getfield 57, 3) := by decide +kernel
theorem dX0_search_33 : decode cX0_search 33 = .ok (.if_icmp .ge 23, 3) := by decide +kernel
theorem dX0_search_36 : decode cX0_search 36 = .ok (.aload_n 0, 1) := by decide +kernel
theorem dX0_search_37 : decode cX0_search 37 = .ok (.getfield 25, 3) := by decide +kernel
theorem dX0_search_40 : decode cX0_search 40 = .ok (.iload_n 1, 1) := by decide +kernel
theorem dX0_search_41 : decode cX0_search 41 = .ok (.aload_n 0, 1) := by decide +kernel
theorem dX0_search_42 : decode cX0_search 42 = .ok (.getfield 38, 3) := by decide +kernel
theorem dX0_search_45 : decode cX0_search 45 = .ok (.iload_n 1, 1) := by decide +kernel
theorem dX0_search_46 : decode cX0_search 46 = .ok (.invokevirtual 62, 3) := by decide +kernel
theorem dX0_search_49 : decode cX0_search 49 = .ok (.iastore, 1) := by decide +kernel
theorem dX0_search_50 : decode cX0_search 50 = .ok (.iinc 1 1, 3) := by decide +kernel
theorem dX0_search_53 : decode cX0_search 53 = .ok (.goto (-28), 3) := by decide +kernel
theorem dX0_search_56 : decode cX0_search 56 = .ok (.aload_n 0, 1) := by decide +kernel
theorem dX0_search_57 : decode cX0_search 57 = .ok (.getfield 47, 3) := by decide +kernel
theorem dX0_search_60 : decode cX0_search 60 = .ok (.invokevirtual 66, 3) := by decide +kernel
theorem dX0_search_63 : decode cX0_search 63 = .ok (.aload_n 0, 1) := by decide +kernel
theorem dX0_search_64 : decode cX0_search 64 = .ok (.iconst 0, 1) := by decide +kernel
theorem dX0_search_65 : decode cX0_search 65 = .ok (.iconst 0, 1) := by decide +kernel
theorem dX0_search_66 : decode cX0_search 66 = .ok (.invokestatic 69, 3) := by decide +kernel
theorem dX0_search_69 : decode cX0_search 69 = .ok (.return_, 1) := by decide +kernel
set_option maxRecDepth 20000 in
theorem ggX0_extend_X0_keepIfBetter : GoodIn wsX0_extend wsX0_keepIfBetter := goodIn_r _ [12, 4, 13, 14, 1, 2, 7, 15, 16, 17, 18, 19, 20, 21, 22, 23, 24, 25, 26, 27, 28, 60, 61, 62, 63, 64, 65, 66, 67, 68, 69, 70, 71, 72, 73, 74, 75, 76, 77, 78, 79, 80] (by decide +kernel) (by decide +kernel)
set_option maxRecDepth 20000 in
theorem gX0_extend_X0_keepIfBetter : GoodIn wsX0_extend (wsV RX0 73 RX0 yX0_keepIfBetter wsX0_keepIfBetter) := goodIn_app (goodIn_of _ (by decide +kernel)) ggX0_extend_X0_keepIfBetter
set_option maxRecDepth 20000 in
theorem ggX0_extend_X0_isHopeless : GoodIn wsX0_extend wsX0_isHopeless := goodIn_r _ [32, 4, 13, 1, 2, 33, 34, 35, 18, 19, 20, 21, 22, 23, 24, 25, 26, 27, 28, 36, 37, 38, 39, 40, 41, 42, 43, 44, 45, 46, 47, 48, 49, 50, 51, 52, 11, 53, 6, 60, 61, 62, 63, 64, 65, 66, 67, 68, 69, 70, 71, 72, 73, 74, 75, 76, 77, 81, 82, 83, 84, 85, 86, 87, 88, 89, 78, 79, 80] (by decide +kernel) (by decide +kernel)
set_option maxRecDepth 20000 in
theorem gX0_extend_X0_isHopeless : GoodIn wsX0_extend (wsV RX0 76 RX0 yX0_isHopeless wsX0_isHopeless) := goodIn_app (goodIn_of _ (by decide +kernel)) ggX0_extend_X0_isHopeless
set_option maxRecDepth 20000 in
theorem ggX0_extend_X7_contains : GoodIn wsX0_extend wsX7_contains := goodIn_r _ [38] (by decide +kernel) (by decide +kernel)
set_option maxRecDepth 20000 in
theorem gX0_extend_X7_contains_n80 : GoodIn wsX0_extend (wsX7_contains) := ggX0_extend_X7_contains
set_option maxRecDepth 20000 in
theorem ggX0_extend_X4_earliestEnd : GoodIn wsX0_extend wsX4_earliestEnd := goodIn_r _ [42, 43, 44, 24, 45, 25, 26, 27, 28, 46, 47, 48, 49, 36, 37, 38, 78, 79, 80, 70, 71, 72, 73, 74, 75, 76, 77] (by decide +kernel) (by decide +kernel)
set_option maxRecDepth 20000 in
theorem gX0_extend_X4_earliestEnd : GoodIn wsX0_extend (wsV RX0 90 RX4 yX4_earliestEnd wsX4_earliestEnd) := goodIn_app (goodIn_of _ (by decide +kernel)) ggX0_extend_X4_earliestEnd
set_option maxRecDepth 20000 in
theorem ggX0_extend_X4_place : GoodIn wsX0_extend wsX4_place := goodIn_r _ [57, 48, 24, 43, 45, 78, 79, 80, 70, 71, 72, 73, 74, 75, 76, 77] (by decide +kernel) (by decide +kernel)
set_option maxRecDepth 20000 in
theorem gX0_extend_X4_place : GoodIn wsX0_extend (wsV RX0 94 RX4 yX4_place wsX4_place) := goodIn_app (goodIn_of _ (by decide +kernel)) ggX0_extend_X4_place
set_option maxRecDepth 20000 in
theorem ggX0_extend_X0_extend : GoodIn wsX0_extend wsX0_extend := goodIn_r _ [0, 1, 2, 3, 4, 5, 6, 7, 8, 9, 10, 11, 12, 13, 14, 15, 16, 17, 18, 19, 20, 21, 22, 23, 24, 25, 26, 27, 28, 29, 30, 31, 32, 33, 34, 35, 36, 37, 38, 39, 40, 41, 42, 43, 44, 45, 46, 47, 48, 49, 50, 51, 52, 53, 54, 55, 56, 57, 58, 59, 60, 61, 62, 63, 64, 65, 66, 67, 68, 69, 70, 71, 72, 73, 74, 75, 76, 77, 78, 79, 80, 81, 82, 83, 84, 85, 86, 87, 88, 89] (by decide +kernel) (by decide +kernel)
set_option maxRecDepth 20000 in
theorem gX0_extend_X0_extend : GoodIn wsX0_extend (va_wsS RX0 69 yX0_extend wsX0_extend) := goodIn_app (goodIn_of _ (by decide +kernel)) ggX0_extend_X0_extend
theorem dX0_extend_0 : decode cX0_extend 0 = .ok (.aload_n 0, 1) := by decide +kernel
theorem dX0_extend_1 : decode cX0_extend 1 = .ok (.getfield 34, 3) := by decide +kernel
theorem dX0_extend_4 : decode cX0_extend 4 = .ok (.astore_n 3, 1) := by decide +kernel
theorem dX0_extend_5 : decode cX0_extend 5 = .ok (.iload_n 1, 1) := by decide +kernel
theorem dX0_extend_6 : decode cX0_extend 6 = .ok (.aload_n 3, 1) := by decide +kernel
theorem dX0_extend_7 : decode cX0_extend 7 = .ok (.getfield 57, 3) := by decide +kernel
theorem dX0_extend_10 : decode cX0_extend 10 = .ok (.if_icmp .ge 9, 3) := by decide +kernel
theorem dX0_extend_13 : decode cX0_extend 13 = .ok (.iload_n 1, 1) := by decide +kernel
theorem dX0_extend_14 : decode cX0_extend 14 = .ok (.bipush 8, 2) := by decide +kernel
theorem dX0_extend_16 : decode cX0_extend 16 = .ok (.if_icmp .lt 8, 3) := by decide +kernel
theorem dX0_extend_19 : decode cX0_extend 19 = .ok (.aload_n 0, 1) := by decide +kernel
theorem dX0_extend_20 : decode cX0_extend 20 = .ok (.invokevirtual 73, 3) := by decide +kernel
theorem dX0_extend_23 : decode cX0_extend 23 = .ok (.return_, 1) := by decide +kernel
theorem dX0_extend_24 : decode cX0_extend 24 = .ok (.aload_n 0, 1) := by decide +kernel
theorem dX0_extend_25 : decode cX0_extend 25 = .ok (.iload_n 2, 1) := by decide +kernel
theorem dX0_extend_26 : decode cX0_extend 26 = .ok (.invokevirtual 76, 3) := by decide +kernel
theorem dX0_extend_29 : decode cX0_extend 29 = .ok (.ifCond .eq 4, 3) := by decide +kernel
theorem dX0_extend_32 : decode cX0_extend 32 = .ok (.return_, 1) := by decide +kernel
theorem dX0_extend_33 : decode cX0_extend 33 = .ok (.iconst 0, 1) := by decide +kernel
theorem dX0_extend_34 : decode cX0_extend 34 = .ok (.istore 4, 2) := by decide +kernel
theorem dX0_extend_36 : decode cX0_extend 36 = .ok (.iload 4, 2) := by decide +kernel
theorem dX0_extend_38 : decode cX0_extend 38 = .ok (.aload_n 3, 1) := by decide +kernel
theorem dX0_extend_39 : decode cX0_extend 39 = .ok (.getfield 57, 3) := by decide +kernel
theorem dX0_extend_42 : decode cX0_extend 42 = .ok (.if_icmp .ge 109, 3) := by decide +kernel
theorem dX0_extend_45 : decode cX0_extend 45 = .ok (.iload_n 2, 1) := by decide +kernel
theorem dX0_extend_46 : decode cX0_extend 46 = .ok (.iload 4, 2) := by decide +kernel
theorem dX0_extend_48 : decode cX0_extend 48 = .ok (.invokestatic 80, 3) := by decide +kernel
theorem dX0_extend_51 : decode cX0_extend 51 = .ok (.ifCond .ne 94, 3) := by decide +kernel
theorem dX0_extend_54 : decode cX0_extend 54 = .ok (.aload_n 0, 1) := by decide +kernel
theorem dX0_extend_55 : decode cX0_extend 55 = .ok (.getfield 25, 3) := by decide +kernel
theorem dX0_extend_58 : decode cX0_extend 58 = .ok (.iload 4, 2) := by decide +kernel
theorem dX0_extend_60 : decode cX0_extend 60 = .ok (.iaload, 1) := by decide +kernel
theorem dX0_extend_61 : decode cX0_extend 61 = .ok (.iload_n 2, 1) := by decide +kernel
theorem dX0_extend_62 : decode cX0_extend 62 = .ok (.iconst (-1), 1) := by decide +kernel
theorem dX0_extend_63 : decode cX0_extend 63 = .ok (.ixor, 1) := by decide +kernel
theorem dX0_extend_64 : decode cX0_extend 64 = .ok (.iand, 1) := by decide +kernel
theorem dX0_extend_65 : decode cX0_extend 65 = .ok (.ifCond .eq 6, 3) := by decide +kernel
theorem dX0_extend_68 : decode cX0_extend 68 = .ok (.goto 77, 3) := by decide +kernel
theorem dX0_extend_71 : decode cX0_extend 71 = .ok (.aload_n 0, 1) := by decide +kernel
theorem dX0_extend_72 : decode cX0_extend 72 = .ok (.getfield 47, 3) := by decide +kernel
theorem dX0_extend_75 : decode cX0_extend 75 = .ok (.getfield 84, 3) := by decide +kernel
theorem dX0_extend_78 : decode cX0_extend 78 = .ok (.aload_n 3, 1) := by decide +kernel
theorem dX0_extend_79 : decode cX0_extend 79 = .ok (.getfield 87, 3) := by decide +kernel
theorem dX0_extend_82 : decode cX0_extend 82 = .ok (.iload 4, 2) := by decide +kernel
theorem dX0_extend_84 : decode cX0_extend 84 = .ok (.iaload, 1) := by decide +kernel
theorem dX0_extend_85 : decode cX0_extend 85 = .ok (.iaload, 1) := by decide +kernel
theorem dX0_extend_86 : decode cX0_extend 86 = .ok (.istore 5, 2) := by decide +kernel
theorem dX0_extend_88 : decode cX0_extend 88 = .ok (.aload_n 0, 1) := by decide +kernel
theorem dX0_extend_89 : decode cX0_extend 89 = .ok (.getfield 22, 3) := by decide +kernel
theorem dX0_extend_92 : decode cX0_extend 92 = .ok (.iload_n 1, 1) := by decide +kernel
theorem dX0_extend_93 : decode cX0_extend 93 = .ok (.iload 4, 2) := by decide +kernel
theorem dX0_extend_95 : decode cX0_extend 95 = .ok (.iastore, 1) := by decide +kernel
theorem dX0_extend_96 : decode cX0_extend 96 = .ok (.aload_n 0, 1) := by decide +kernel
theorem dX0_extend_97 : decode cX0_extend 97 = .ok (.getfield 47, 3) := by decide +kernel
theorem dX0_extend_100 : decode cX0_extend 100 = .ok (.iload 4, 2) := by decide +kernel
theorem dX0_extend_102 : decode cX0_extend 102 = .ok (.aload_n 0, 1) := by decide +kernel
theorem dX0_extend_103 : decode cX0_extend 103 = .ok (.getfield 47, 3) := by decide +kernel
theorem dX0_extend_106 : decode cX0_extend 106 = .ok (.iload 4, 2) := by decide +kernel
theorem dX0_extend_108 : decode cX0_extend 108 = .ok (.iload_n 2, 1) := by decide +kernel
theorem dX0_extend_109 : decode cX0_extend 109 = .ok (.invokevirtual 90, 3) := by decide +kernel
theorem dX0_extend_112 : decode cX0_extend 112 = .ok (.invokevirtual 94, 3) := by decide +kernel
theorem dX0_extend_115 : decode cX0_extend 115 = .ok (.aload_n 0, 1) := by decide +kernel
theorem dX0_extend_116 : decode cX0_extend 116 = .ok (.iload_n 1, 1) := by decide +kernel
theorem dX0_extend_117 : decode cX0_extend 117 = .ok (.iconst 1, 1) := by decide +kernel
theorem dX0_extend_118 : decode cX0_extend 118 = .ok (.iadd, 1) := by decide +kernel
theorem dX0_extend_119 : decode cX0_extend 119 = .ok (.iload_n 2, 1) := by decide +kernel
theorem dX0_extend_120 : decode cX0_extend 120 = .ok (.iconst 1, 1) := by decide +kernel
theorem dX0_extend_121 : decode cX0_extend 121 = .ok (.iload 4, 2) := by decide +kernel
theorem dX0_extend_123 : decode cX0_extend 123 = .ok (.ishl, 1) := by decide +kernel
theorem dX0_extend_124 : decode cX0_extend 124 = .ok (.ior, 1) := by decide +kernel
theorem dX0_extend_125 : decode cX0_extend 125 = .ok (.invokestatic 69, 3) := by decide +kernel
theorem dX0_extend_128 : decode cX0_extend 128 = .ok (.aload_n 0, 1) := by decide +kernel
theorem dX0_extend_129 : decode cX0_extend 129 = .ok (.getfield 47, 3) := by decide +kernel
theorem dX0_extend_132 : decode cX0_extend 132 = .ok (.getfield 84, 3) := by decide +kernel
theorem dX0_extend_135 : decode cX0_extend 135 = .ok (.aload_n 3, 1) := by decide +kernel
theorem dX0_extend_136 : decode cX0_extend 136 = .ok (.getfield 87, 3) := by decide +kernel
theorem dX0_extend_139 : decode cX0_extend 139 = .ok (.iload 4, 2) := by decide +kernel
theorem dX0_extend_141 : decode cX0_extend 141 = .ok (.iaload, 1) := by decide +kernel
theorem dX0_extend_142 : decode cX0_extend 142 = .ok (.iload 5, 2) := by decide +kernel
theorem dX0_extend_144 : decode cX0_extend 144 = .ok (.iastore, 1) := by decide +kernel
theorem dX0_extend_145 : decode cX0_extend 145 = .ok (.iinc 4 1, 3) := by decide +kernel
theorem dX0_extend_148 : decode cX0_extend 148 = .ok (.goto (-112), 3) := by decide +kernel
theorem dX0_extend_151 : decode cX0_extend 151 = .ok (.return_, 1) := by decide +kernel
set_option maxRecDepth 20000 in
theorem ggX0_isHopeless_X4_latestEnd : GoodIn wsX0_isHopeless wsX4_latestEnd := goodIn_r _ [13, 14, 15, 16, 17, 18, 66, 67, 68] (by decide +kernel) (by decide +kernel)
set_option maxRecDepth 20000 in
theorem gX0_isHopeless_X4_latestEnd : GoodIn wsX0_isHopeless (wsV RX0 97 RX4 yX4_latestEnd wsX4_latestEnd) := goodIn_app (goodIn_of _ (by decide +kernel)) ggX0_isHopeless_X4_latestEnd
set_option maxRecDepth 20000 in
theorem ggX0_isHopeless_X7_contains : GoodIn wsX0_isHopeless wsX7_contains := goodIn_r _ [21] (by decide +kernel) (by decide +kernel)
set_option maxRecDepth 20000 in
theorem gX0_isHopeless_X7_contains_n80 : GoodIn wsX0_isHopeless (wsX7_contains) := ggX0_isHopeless_X7_contains
set_option maxRecDepth 20000 in
theorem ggX0_isHopeless_X4_earliestEnd : GoodIn wsX0_isHopeless wsX4_earliestEnd := goodIn_r _ [25, 26, 27, 14, 28, 15, 16, 17, 18, 29, 30, 31, 32, 19, 20, 21, 66, 67, 68, 49, 50, 51, 52, 53, 54, 55, 56] (by decide +kernel) (by decide +kernel)
set_option maxRecDepth 20000 in
theorem gX0_isHopeless_X4_earliestEnd : GoodIn wsX0_isHopeless (wsV RX0 90 RX4 yX4_earliestEnd wsX4_earliestEnd) := goodIn_app (goodIn_of _ (by decide +kernel)) ggX0_isHopeless_X4_earliestEnd
set_option maxRecDepth 20000 in
theorem ggX0_isHopeless_X0_workFrom : GoodIn wsX0_isHopeless wsX0_workFrom := goodIn_r _ [37, 3, 4, 38, 5, 8, 19, 20, 21, 39, 40, 41, 42, 43, 44, 45, 46, 47, 48, 49, 50, 51, 52, 53, 54, 55, 56] (by decide +kernel) (by decide +kernel)
set_option maxRecDepth 20000 in
theorem gX0_isHopeless_X0_workFrom : GoodIn wsX0_isHopeless (wsV RX0 107 RX0 yX0_workFrom wsX0_workFrom) := goodIn_app (goodIn_of _ (by decide +kernel)) ggX0_isHopeless_X0_workFrom
theorem dX0_isHopeless_0 : decode cX0_isHopeless 0 = .ok (.aload_n 0, 1) := by decide +kernel
theorem dX0_isHopeless_1 : decode cX0_isHopeless 1 = .ok (.getfield 47, 3) := by decide +kernel
theorem dX0_isHopeless_4 : decode cX0_isHopeless 4 = .ok (.invokevirtual 97, 3) := by decide +kernel
theorem dX0_isHopeless_7 : decode cX0_isHopeless 7 = .ok (.aload_n 0, 1) := by decide +kernel
theorem dX0_isHopeless_8 : decode cX0_isHopeless 8 = .ok (.getfield 31, 3) := by decide +kernel
theorem dX0_isHopeless_11 : decode cX0_isHopeless 11 = .ok (.if_icmp .le 5, 3) := by decide +kernel
theorem dX0_isHopeless_14 : decode cX0_isHopeless 14 = .ok (.iconst 1, 1) := by decide +kernel
theorem dX0_isHopeless_15 : decode cX0_isHopeless 15 = .ok (.ireturn, 1) := by decide +kernel
theorem dX0_isHopeless_16 : decode cX0_isHopeless 16 = .ok (.iconst 0, 1) := by decide +kernel
theorem dX0_isHopeless_17 : decode cX0_isHopeless 17 = .ok (.istore_n 2, 1) := by decide +kernel
theorem dX0_isHopeless_18 : decode cX0_isHopeless 18 = .ok (.iload_n 2, 1) := by decide +kernel
theorem dX0_isHopeless_19 : decode cX0_isHopeless 19 = .ok (.aload_n 0, 1) := by decide +kernel
theorem dX0_isHopeless_20 : decode cX0_isHopeless 20 = .ok (.getfield 34, 3) := by decide +kernel
theorem dX0_isHopeless_23 : decode cX0_isHopeless 23 = .ok (.getfield 57, 3) := by decide +kernel
theorem dX0_isHopeless_26 : decode cX0_isHopeless 26 = .ok (.if_icmp .ge 73, 3) := by decide +kernel
theorem dX0_isHopeless_29 : decode cX0_isHopeless 29 = .ok (.iload_n 1, 1) := by decide +kernel
theorem dX0_isHopeless_30 : decode cX0_isHopeless 30 = .ok (.iload_n 2, 1) := by decide +kernel
theorem dX0_isHopeless_31 : decode cX0_isHopeless 31 = .ok (.invokestatic 80, 3) := by decide +kernel
theorem dX0_isHopeless_34 : decode cX0_isHopeless 34 = .ok (.ifCond .eq 6, 3) := by decide +kernel
theorem dX0_isHopeless_37 : decode cX0_isHopeless 37 = .ok (.goto 56, 3) := by decide +kernel
theorem dX0_isHopeless_40 : decode cX0_isHopeless 40 = .ok (.aload_n 0, 1) := by decide +kernel
theorem dX0_isHopeless_41 : decode cX0_isHopeless 41 = .ok (.getfield 28, 3) := by decide +kernel
theorem dX0_isHopeless_44 : decode cX0_isHopeless 44 = .ok (.iload_n 2, 1) := by decide +kernel
theorem dX0_isHopeless_45 : decode cX0_isHopeless 45 = .ok (.aload_n 0, 1) := by decide +kernel
theorem dX0_isHopeless_46 : decode cX0_isHopeless 46 = .ok (.getfield 47, 3) := by decide +kernel
theorem dX0_isHopeless_49 : decode cX0_isHopeless 49 = .ok (.iload_n 2, 1) := by decide +kernel
theorem dX0_isHopeless_50 : decode cX0_isHopeless 50 = .ok (.iload_n 1, 1) := by decide +kernel
theorem dX0_isHopeless_51 : decode cX0_isHopeless 51 = .ok (.invokevirtual 90, 3) := by decide +kernel
theorem dX0_isHopeless_54 : decode cX0_isHopeless 54 = .ok (.iastore, 1) := by decide +kernel
theorem dX0_isHopeless_55 : decode cX0_isHopeless 55 = .ok (.aload_n 0, 1) := by decide +kernel
theorem dX0_isHopeless_56 : decode cX0_isHopeless 56 = .ok (.getfield 28, 3) := by decide +kernel
theorem dX0_isHopeless_59 : decode cX0_isHopeless 59 = .ok (.iload_n 2, 1) := by decide +kernel
theorem dX0_isHopeless_60 : decode cX0_isHopeless 60 = .ok (.iaload, 1) := by decide +kernel
theorem dX0_isHopeless_61 : decode cX0_isHopeless 61 = .ok (.aload_n 0, 1) := by decide +kernel
theorem dX0_isHopeless_62 : decode cX0_isHopeless 62 = .ok (.getfield 38, 3) := by decide +kernel
theorem dX0_isHopeless_65 : decode cX0_isHopeless 65 = .ok (.getfield 101, 3) := by decide +kernel
theorem dX0_isHopeless_68 : decode cX0_isHopeless 68 = .ok (.iload_n 2, 1) := by decide +kernel
theorem dX0_isHopeless_69 : decode cX0_isHopeless 69 = .ok (.iaload, 1) := by decide +kernel
theorem dX0_isHopeless_70 : decode cX0_isHopeless 70 = .ok (.if_icmp .le 5, 3) := by decide +kernel
theorem dX0_isHopeless_73 : decode cX0_isHopeless 73 = .ok (.iconst 1, 1) := by decide +kernel
theorem dX0_isHopeless_74 : decode cX0_isHopeless 74 = .ok (.ireturn, 1) := by decide +kernel
theorem dX0_isHopeless_75 : decode cX0_isHopeless 75 = .ok (.aload_n 0, 1) := by decide +kernel
theorem dX0_isHopeless_76 : decode cX0_isHopeless 76 = .ok (.getfield 28, 3) := by decide +kernel
theorem dX0_isHopeless_79 : decode cX0_isHopeless 79 = .ok (.iload_n 2, 1) := by decide +kernel
theorem dX0_isHopeless_80 : decode cX0_isHopeless 80 = .ok (.dup2, 1) := by decide +kernel
theorem dX0_isHopeless_81 : decode cX0_isHopeless 81 = .ok (.iaload, 1) := by decide +kernel
theorem dX0_isHopeless_82 : decode cX0_isHopeless 82 = .ok (.aload_n 0, 1) := by decide +kernel
theorem dX0_isHopeless_83 : decode cX0_isHopeless 83 = .ok (.getfield 34, 3) := by decide +kernel
theorem dX0_isHopeless_86 : decode cX0_isHopeless 86 = .ok (.getfield 104, 3) := by decide +kernel
theorem dX0_isHopeless_89 : decode cX0_isHopeless 89 = .ok (.iload_n 2, 1) := by decide +kernel
theorem dX0_isHopeless_90 : decode cX0_isHopeless 90 = .ok (.iaload, 1) := by decide +kernel
theorem dX0_isHopeless_91 : decode cX0_isHopeless 91 = .ok (.isub, 1) := by decide +kernel
theorem dX0_isHopeless_92 : decode cX0_isHopeless 92 = .ok (.iastore, 1) := by decide +kernel
theorem dX0_isHopeless_93 : decode cX0_isHopeless 93 = .ok (.iinc 2 1, 3) := by decide +kernel
theorem dX0_isHopeless_96 : decode cX0_isHopeless 96 = .ok (.goto (-78), 3) := by decide +kernel
theorem dX0_isHopeless_99 : decode cX0_isHopeless 99 = .ok (.iconst 0, 1) := by decide +kernel
theorem dX0_isHopeless_100 : decode cX0_isHopeless 100 = .ok (.istore_n 2, 1) := by decide +kernel
theorem dX0_isHopeless_101 : decode cX0_isHopeless 101 = .ok (.iload_n 2, 1) := by decide +kernel
theorem dX0_isHopeless_102 : decode cX0_isHopeless 102 = .ok (.aload_n 0, 1) := by decide +kernel
theorem dX0_isHopeless_103 : decode cX0_isHopeless 103 = .ok (.getfield 34, 3) := by decide +kernel
theorem dX0_isHopeless_106 : decode cX0_isHopeless 106 = .ok (.getfield 57, 3) := by decide +kernel
theorem dX0_isHopeless_109 : decode cX0_isHopeless 109 = .ok (.if_icmp .ge 39, 3) := by decide +kernel
theorem dX0_isHopeless_112 : decode cX0_isHopeless 112 = .ok (.iload_n 1, 1) := by decide +kernel
theorem dX0_isHopeless_113 : decode cX0_isHopeless 113 = .ok (.iload_n 2, 1) := by decide +kernel
theorem dX0_isHopeless_114 : decode cX0_isHopeless 114 = .ok (.invokestatic 80, 3) := by decide +kernel
theorem dX0_isHopeless_117 : decode cX0_isHopeless 117 = .ok (.ifCond .ne 25, 3) := by decide +kernel
theorem dX0_isHopeless_120 : decode cX0_isHopeless 120 = .ok (.aload_n 0, 1) := by decide +kernel
theorem dX0_isHopeless_121 : decode cX0_isHopeless 121 = .ok (.getfield 28, 3) := by decide +kernel
theorem dX0_isHopeless_124 : decode cX0_isHopeless 124 = .ok (.iload_n 2, 1) := by decide +kernel
theorem dX0_isHopeless_125 : decode cX0_isHopeless 125 = .ok (.iaload, 1) := by decide +kernel
theorem dX0_isHopeless_126 : decode cX0_isHopeless 126 = .ok (.aload_n 0, 1) := by decide +kernel
theorem dX0_isHopeless_127 : decode cX0_isHopeless 127 = .ok (.iload_n 2, 1) := by decide +kernel
theorem dX0_isHopeless_128 : decode cX0_isHopeless 128 = .ok (.iload_n 1, 1) := by decide +kernel
theorem dX0_isHopeless_129 : decode cX0_isHopeless 129 = .ok (.invokevirtual 107, 3) := by decide +kernel
theorem dX0_isHopeless_132 : decode cX0_isHopeless 132 = .ok (.iadd, 1) := by decide +kernel
theorem dX0_isHopeless_133 : decode cX0_isHopeless 133 = .ok (.aload_n 0, 1) := by decide +kernel
theorem dX0_isHopeless_134 : decode cX0_isHopeless 134 = .ok (.getfield 31, 3) := by decide +kernel
theorem dX0_isHopeless_137 : decode cX0_isHopeless 137 = .ok (.if_icmp .le 5, 3) := by decide +kernel
theorem dX0_isHopeless_140 : decode cX0_isHopeless 140 = .ok (.iconst 1, 1) := by decide +kernel
theorem dX0_isHopeless_141 : decode cX0_isHopeless 141 = .ok (.ireturn, 1) := by decide +kernel
theorem dX0_isHopeless_142 : decode cX0_isHopeless 142 = .ok (.iinc 2 1, 3) := by decide +kernel
theorem dX0_isHopeless_145 : decode cX0_isHopeless 145 = .ok (.goto (-44), 3) := by decide +kernel
theorem dX0_isHopeless_148 : decode cX0_isHopeless 148 = .ok (.iconst 0, 1) := by decide +kernel
theorem dX0_isHopeless_149 : decode cX0_isHopeless 149 = .ok (.ireturn, 1) := by decide +kernel
set_option maxRecDepth 20000 in
theorem ggX0_workFrom_X7_contains : GoodIn wsX0_workFrom wsX7_contains := goodIn_r _ [8] (by decide +kernel) (by decide +kernel)
set_option maxRecDepth 20000 in
theorem gX0_workFrom_X7_contains_n80 : GoodIn wsX0_workFrom (wsX7_contains) := ggX0_workFrom_X7_contains
theorem dX0_workFrom_0 : decode cX0_workFrom 0 = .ok (.iconst 0, 1) := by decide +kernel
theorem dX0_workFrom_1 : decode cX0_workFrom 1 = .ok (.istore_n 3, 1) := by decide +kernel
theorem dX0_workFrom_2 : decode cX0_workFrom 2 = .ok (.iconst 0, 1) := by decide +kernel
theorem dX0_workFrom_3 : decode cX0_workFrom 3 = .ok (.istore 4, 2) := by decide +kernel
theorem dX0_workFrom_5 : decode cX0_workFrom 5 = .ok (.iload 4, 2) := by decide +kernel
theorem dX0_workFrom_7 : decode cX0_workFrom 7 = .ok (.aload_n 0, 1) := by decide +kernel
theorem dX0_workFrom_8 : decode cX0_workFrom 8 = .ok (.getfield 34, 3) := by decide +kernel
theorem dX0_workFrom_11 : decode cX0_workFrom 11 = .ok (.getfield 57, 3) := by decide +kernel
theorem dX0_workFrom_14 : decode cX0_workFrom 14 = .ok (.if_icmp .ge 69, 3) := by decide +kernel
theorem dX0_workFrom_17 : decode cX0_workFrom 17 = .ok (.iload_n 2, 1) := by decide +kernel
theorem dX0_workFrom_18 : decode cX0_workFrom 18 = .ok (.iload 4, 2) := by decide +kernel
theorem dX0_workFrom_20 : decode cX0_workFrom 20 = .ok (.invokestatic 80, 3) := by decide +kernel
theorem dX0_workFrom_23 : decode cX0_workFrom 23 = .ok (.ifCond .ne 54, 3) := by decide +kernel
theorem dX0_workFrom_26 : decode cX0_workFrom 26 = .ok (.aload_n 0, 1) := by decide +kernel
theorem dX0_workFrom_27 : decode cX0_workFrom 27 = .ok (.getfield 34, 3) := by decide +kernel
theorem dX0_workFrom_30 : decode cX0_workFrom 30 = .ok (.getfield 87, 3) := by decide +kernel
theorem dX0_workFrom_33 : decode cX0_workFrom 33 = .ok (.iload 4, 2) := by decide +kernel
theorem dX0_workFrom_35 : decode cX0_workFrom 35 = .ok (.iaload, 1) := by decide +kernel
theorem dX0_workFrom_36 : decode cX0_workFrom 36 = .ok (.aload_n 0, 1) := by decide +kernel
theorem dX0_workFrom_37 : decode cX0_workFrom 37 = .ok (.getfield 34, 3) := by decide +kernel
theorem dX0_workFrom_40 : decode cX0_workFrom 40 = .ok (.getfield 87, 3) := by decide +kernel
theorem dX0_workFrom_43 : decode cX0_workFrom 43 = .ok (.iload_n 1, 1) := by decide +kernel
theorem dX0_workFrom_44 : decode cX0_workFrom 44 = .ok (.iaload, 1) := by decide +kernel
theorem dX0_workFrom_45 : decode cX0_workFrom 45 = .ok (.if_icmp .ne 32, 3) := by decide +kernel
theorem dX0_workFrom_48 : decode cX0_workFrom 48 = .ok (.aload_n 0, 1) := by decide +kernel
theorem dX0_workFrom_49 : decode cX0_workFrom 49 = .ok (.getfield 28, 3) := by decide +kernel
theorem dX0_workFrom_52 : decode cX0_workFrom 52 = .ok (.iload 4, 2) := by decide +kernel
theorem dX0_workFrom_54 : decode cX0_workFrom 54 = .ok (.iaload, 1) := by decide +kernel
theorem dX0_workFrom_55 : decode cX0_workFrom 55 = .ok (.aload_n 0, 1) := by decide +kernel
theorem dX0_workFrom_56 : decode cX0_workFrom 56 = .ok (.getfield 28, 3) := by decide +kernel
theorem dX0_workFrom_59 : decode cX0_workFrom 59 = .ok (.iload_n 1, 1) := by decide +kernel
theorem dX0_workFrom_60 : decode cX0_workFrom 60 = .ok (.iaload, 1) := by decide +kernel
theorem dX0_workFrom_61 : decode cX0_workFrom 61 = .ok (.if_icmp .lt 16, 3) := by decide +kernel
theorem dX0_workFrom_64 : decode cX0_workFrom 64 = .ok (.iload_n 3, 1) := by decide +kernel
theorem dX0_workFrom_65 : decode cX0_workFrom 65 = .ok (.aload_n 0, 1) := by decide +kernel
theorem dX0_workFrom_66 : decode cX0_workFrom 66 = .ok (.getfield 34, 3) := by decide +kernel
theorem dX0_workFrom_69 : decode cX0_workFrom 69 = .ok (.getfield 104, 3) := by decide +kernel
theorem dX0_workFrom_72 : decode cX0_workFrom 72 = .ok (.iload 4, 2) := by decide +kernel
theorem dX0_workFrom_74 : decode cX0_workFrom 74 = .ok (.iaload, 1) := by decide +kernel
theorem dX0_workFrom_75 : decode cX0_workFrom 75 = .ok (.iadd, 1) := by decide +kernel
theorem dX0_workFrom_76 : decode cX0_workFrom 76 = .ok (.istore_n 3, 1) := by decide +kernel
theorem dX0_workFrom_77 : decode cX0_workFrom 77 = .ok (.iinc 4 1, 3) := by decide +kernel
theorem dX0_workFrom_80 : decode cX0_workFrom 80 = .ok (.goto (-75), 3) := by decide +kernel
theorem dX0_workFrom_83 : decode cX0_workFrom 83 = .ok (.iload_n 3, 1) := by decide +kernel
theorem dX0_workFrom_84 : decode cX0_workFrom 84 = .ok (.ireturn, 1) := by decide +kernel
set_option maxRecDepth 20000 in
theorem ggX0_keepIfBetter_X4_latestEnd : GoodIn wsX0_keepIfBetter wsX4_latestEnd := goodIn_r _ [15, 16, 17, 18, 19, 20, 39, 40, 41] (by decide +kernel) (by decide +kernel)
set_option maxRecDepth 20000 in
theorem gX0_keepIfBetter_X4_latestEnd : GoodIn wsX0_keepIfBetter (wsV RX0 97 RX4 yX4_latestEnd wsX4_latestEnd) := goodIn_app (goodIn_of _ (by decide +kernel)) ggX0_keepIfBetter_X4_latestEnd
theorem dX0_keepIfBetter_0 : decode cX0_keepIfBetter 0 = .ok (.aload_n 0, 1) := by decide +kernel
theorem dX0_keepIfBetter_1 : decode cX0_keepIfBetter 1 = .ok (.getfield 47, 3) := by decide +kernel
theorem dX0_keepIfBetter_4 : decode cX0_keepIfBetter 4 = .ok (.invokevirtual 97, 3) := by decide +kernel
theorem dX0_keepIfBetter_7 : decode cX0_keepIfBetter 7 = .ok (.istore_n 1, 1) := by decide +kernel
theorem dX0_keepIfBetter_8 : decode cX0_keepIfBetter 8 = .ok (.iload_n 1, 1) := by decide +kernel
theorem dX0_keepIfBetter_9 : decode cX0_keepIfBetter 9 = .ok (.aload_n 0, 1) := by decide +kernel
theorem dX0_keepIfBetter_10 : decode cX0_keepIfBetter 10 = .ok (.getfield 31, 3) := by decide +kernel
theorem dX0_keepIfBetter_13 : decode cX0_keepIfBetter 13 = .ok (.if_icmp .le 4, 3) := by decide +kernel
theorem dX0_keepIfBetter_16 : decode cX0_keepIfBetter 16 = .ok (.return_, 1) := by decide +kernel
theorem dX0_keepIfBetter_17 : decode cX0_keepIfBetter 17 = .ok (.aload_n 0, 1) := by decide +kernel
theorem dX0_keepIfBetter_18 : decode cX0_keepIfBetter 18 = .ok (.iload_n 1, 1) := by decide +kernel
theorem dX0_keepIfBetter_19 : decode cX0_keepIfBetter 19 = .ok (.putfield 9, 3) := by decide +kernel
theorem dX0_keepIfBetter_22 : decode cX0_keepIfBetter 22 = .ok (.aload_n 0, 1) := by decide +kernel
theorem dX0_keepIfBetter_23 : decode cX0_keepIfBetter 23 = .ok (.iload_n 1, 1) := by decide +kernel
theorem dX0_keepIfBetter_24 : decode cX0_keepIfBetter 24 = .ok (.iconst 1, 1) := by decide +kernel
theorem dX0_keepIfBetter_25 : decode cX0_keepIfBetter 25 = .ok (.isub, 1) := by decide +kernel
theorem dX0_keepIfBetter_26 : decode cX0_keepIfBetter 26 = .ok (.putfield 31, 3) := by decide +kernel
theorem dX0_keepIfBetter_29 : decode cX0_keepIfBetter 29 = .ok (.iconst 0, 1) := by decide +kernel
theorem dX0_keepIfBetter_30 : decode cX0_keepIfBetter 30 = .ok (.istore_n 2, 1) := by decide +kernel
theorem dX0_keepIfBetter_31 : decode cX0_keepIfBetter 31 = .ok (.iload_n 2, 1) := by decide +kernel
theorem dX0_keepIfBetter_32 : decode cX0_keepIfBetter 32 = .ok (.aload_n 0, 1) := by decide +kernel
theorem dX0_keepIfBetter_33 : decode cX0_keepIfBetter 33 = .ok (.getfield 34, 3) := by decide +kernel
theorem dX0_keepIfBetter_36 : decode cX0_keepIfBetter 36 = .ok (.getfield 57, 3) := by decide +kernel
theorem dX0_keepIfBetter_39 : decode cX0_keepIfBetter 39 = .ok (.if_icmp .ge 48, 3) := by decide +kernel
theorem dX0_keepIfBetter_42 : decode cX0_keepIfBetter 42 = .ok (.aload_n 0, 1) := by decide +kernel
theorem dX0_keepIfBetter_43 : decode cX0_keepIfBetter 43 = .ok (.getfield 22, 3) := by decide +kernel
theorem dX0_keepIfBetter_46 : decode cX0_keepIfBetter 46 = .ok (.iload_n 2, 1) := by decide +kernel
theorem dX0_keepIfBetter_47 : decode cX0_keepIfBetter 47 = .ok (.iaload, 1) := by decide +kernel
theorem dX0_keepIfBetter_48 : decode cX0_keepIfBetter 48 = .ok (.istore_n 3, 1) := by decide +kernel
theorem dX0_keepIfBetter_49 : decode cX0_keepIfBetter 49 = .ok (.aload_n 0, 1) := by decide +kernel
theorem dX0_keepIfBetter_50 : decode cX0_keepIfBetter 50 = .ok (.getfield 15, 3) := by decide +kernel
theorem dX0_keepIfBetter_53 : decode cX0_keepIfBetter 53 = .ok (.iload_n 3, 1) := by decide +kernel
theorem dX0_keepIfBetter_54 : decode cX0_keepIfBetter 54 = .ok (.iload_n 2, 1) := by decide +kernel
theorem dX0_keepIfBetter_55 : decode cX0_keepIfBetter 55 = .ok (.iastore, 1) := by decide +kernel
theorem dX0_keepIfBetter_56 : decode cX0_keepIfBetter 56 = .ok (.aload_n 0, 1) := by decide +kernel
theorem dX0_keepIfBetter_57 : decode cX0_keepIfBetter 57 = .ok (.getfield 19, 3) := by decide +kernel
theorem dX0_keepIfBetter_60 : decode cX0_keepIfBetter 60 = .ok (.iload_n 3, 1) := by decide +kernel
theorem dX0_keepIfBetter_61 : decode cX0_keepIfBetter 61 = .ok (.aload_n 0, 1) := by decide +kernel
theorem dX0_keepIfBetter_62 : decode cX0_keepIfBetter 62 = .ok (.getfield 47, 3) := by decide +kernel
theorem dX0_keepIfBetter_65 : decode cX0_keepIfBetter 65 = .ok (.getfield 110, 3) := by decide +kernel
theorem dX0_keepIfBetter_68 : decode cX0_keepIfBetter 68 = .ok (.iload_n 3, 1) := by decide +kernel
theorem dX0_keepIfBetter_69 : decode cX0_keepIfBetter 69 = .ok (.iaload, 1) := by decide +kernel
theorem dX0_keepIfBetter_70 : decode cX0_keepIfBetter 70 = .ok (.aload_n 0, 1) := by decide +kernel
theorem dX0_keepIfBetter_71 : decode cX0_keepIfBetter 71 = .ok (.getfield 34, 3) := by decide +kernel
theorem dX0_keepIfBetter_74 : decode cX0_keepIfBetter 74 = .ok (.getfield 104, 3) := by decide +kernel
theorem dX0_keepIfBetter_77 : decode cX0_keepIfBetter 77 = .ok (.iload_n 3, 1) := by decide +kernel
theorem dX0_keepIfBetter_78 : decode cX0_keepIfBetter 78 = .ok (.iaload, 1) := by decide +kernel
theorem dX0_keepIfBetter_79 : decode cX0_keepIfBetter 79 = .ok (.isub, 1) := by decide +kernel
theorem dX0_keepIfBetter_80 : decode cX0_keepIfBetter 80 = .ok (.iastore, 1) := by decide +kernel
theorem dX0_keepIfBetter_81 : decode cX0_keepIfBetter 81 = .ok (.iinc 2 1, 3) := by decide +kernel
theorem dX0_keepIfBetter_84 : decode cX0_keepIfBetter 84 = .ok (.goto (-53), 3) := by decide +kernel
theorem dX0_keepIfBetter_87 : decode cX0_keepIfBetter 87 = .ok (.return_, 1) := by decide +kernel
set_option maxRecDepth 20000 in
theorem ggX1_init_X4_init : GoodIn wsX1_init wsX4_init := goodIn_r _ [12, 13, 2, 3, 14, 15, 16, 17, 21, 22, 23] (by decide +kernel) (by decide +kernel)
set_option maxRecDepth 20000 in
theorem gX1_init_X4_init : GoodIn wsX1_init (wsX4_init) := ggX1_init_X4_init
theorem dX1_init_0 : decode cX1_init 0 = .ok (.aload_n 0, 1) := by decide +kernel
theorem dX1_init_1 : decode cX1_init 1 = .ok (.invokespecial 3, 3) := by decide +kernel
theorem dX1_init_4 : decode cX1_init 4 = .ok (.aload_n 0, 1) := by decide +kernel
theorem dX1_init_5 : decode cX1_init 5 = .ok (.lconst 0, 1) := by decide +kernel
theorem dX1_init_6 : decode cX1_init 6 = .ok (.putfield 9, 3) := by decide +kernel
theorem dX1_init_9 : decode cX1_init 9 = .ok (.aload_n 0, 1) := by decide +kernel
theorem dX1_init_10 : decode cX1_init 10 = .ok (.aload_n 1, 1) := by decide +kernel
theorem dX1_init_11 : decode cX1_init 11 = .ok (.putfield 15, 3) := by decide +kernel
theorem dX1_init_14 : decode cX1_init 14 = .ok (.aload_n 0, 1) := by decide +kernel
theorem dX1_init_15 : decode cX1_init 15 = .ok (.new 19, 3) := by decide +kernel
theorem dX1_init_18 : decode cX1_init 18 = .ok (.dup, 1) := by decide +kernel
theorem dX1_init_19 : decode cX1_init 19 = .ok (.aload_n 1, 1) := by decide +kernel
theorem dX1_init_20 : decode cX1_init 20 = .ok (.invokespecial 21, 3) := by decide +kernel
theorem dX1_init_23 : decode cX1_init 23 = .ok (.putfield 24, 3) := by decide +kernel
theorem dX1_init_26 : decode cX1_init 26 = .ok (.return_, 1) := by decide +kernel
set_option maxRecDepth 20000 in
theorem ggX1_leastMakespan_X1_drawRow : GoodIn wsX1_leastMakespan wsX1_drawRow := goodIn_r _ [6, 7, 8, 9, 10, 11, 12, 13, 14, 15, 16, 17, 18, 19, 5, 20, 1, 21, 22, 23, 24, 25, 26, 27, 28, 29, 30, 31, 32, 33, 34, 35, 36, 37, 38, 39, 40, 41, 42, 43, 44, 45, 46, 47, 48, 49, 50, 51, 52, 53, 54, 55, 56, 57, 58, 59, 60, 61, 62, 63, 64, 65, 66, 67, 68, 69, 70, 71, 72] (by decide +kernel) (by decide +kernel)
set_option maxRecDepth 20000 in
theorem gX1_leastMakespan_X1_drawRow : GoodIn wsX1_leastMakespan (wsV RX1 28 RX1 yX1_drawRow wsX1_drawRow) := goodIn_app (goodIn_of _ (by decide +kernel)) ggX1_leastMakespan_X1_drawRow
theorem dX1_leastMakespan_0 : decode cX1_leastMakespan 0 = .ok (.aload_n 0, 1) := by decide +kernel
theorem dX1_leastMakespan_1 : decode cX1_leastMakespan 1 = .ok (.iload_n 1, 1) := by decide +kernel
theorem dX1_leastMakespan_2 : decode cX1_leastMakespan 2 = .ok (.i2l, 1) := by decide +kernel
theorem dX1_leastMakespan_3 : decode cX1_leastMakespan 3 = .ok (.putfield 9, 3) := by decide +kernel
theorem dX1_leastMakespan_6 : decode cX1_leastMakespan 6 = .ok (.iconst (-1), 1) := by decide +kernel
theorem dX1_leastMakespan_7 : decode cX1_leastMakespan 7 = .ok (.istore_n 3, 1) := by decide +kernel
theorem dX1_leastMakespan_8 : decode cX1_leastMakespan 8 = .ok (.iconst 0, 1) := by decide +kernel
theorem dX1_leastMakespan_9 : decode cX1_leastMakespan 9 = .ok (.istore 4, 2) := by decide +kernel
theorem dX1_leastMakespan_11 : decode cX1_leastMakespan 11 = .ok (.iload 4, 2) := by decide +kernel
theorem dX1_leastMakespan_13 : decode cX1_leastMakespan 13 = .ok (.iload_n 2, 1) := by decide +kernel
theorem dX1_leastMakespan_14 : decode cX1_leastMakespan 14 = .ok (.if_icmp .ge 35, 3) := by decide +kernel
theorem dX1_leastMakespan_17 : decode cX1_leastMakespan 17 = .ok (.aload_n 0, 1) := by decide +kernel
theorem dX1_leastMakespan_18 : decode cX1_leastMakespan 18 = .ok (.invokevirtual 28, 3) := by decide +kernel
theorem dX1_leastMakespan_21 : decode cX1_leastMakespan 21 = .ok (.istore 5, 2) := by decide +kernel
theorem dX1_leastMakespan_23 : decode cX1_leastMakespan 23 = .ok (.iload 5, 2) := by decide +kernel
theorem dX1_leastMakespan_25 : decode cX1_leastMakespan 25 = .ok (.iconst (-1), 1) := by decide +kernel
theorem dX1_leastMakespan_26 : decode cX1_leastMakespan 26 = .ok (.if_icmp .eq 17, 3) := by decide +kernel
theorem dX1_leastMakespan_29 : decode cX1_leastMakespan 29 = .ok (.iload_n 3, 1) := by decide +kernel
theorem dX1_leastMakespan_30 : decode cX1_leastMakespan 30 = .ok (.iconst (-1), 1) := by decide +kernel
theorem dX1_leastMakespan_31 : decode cX1_leastMakespan 31 = .ok (.if_icmp .eq 9, 3) := by decide +kernel
theorem dX1_leastMakespan_34 : decode cX1_leastMakespan 34 = .ok (.iload 5, 2) := by decide +kernel
theorem dX1_leastMakespan_36 : decode cX1_leastMakespan 36 = .ok (.iload_n 3, 1) := by decide +kernel
theorem dX1_leastMakespan_37 : decode cX1_leastMakespan 37 = .ok (.if_icmp .ge 6, 3) := by decide +kernel
theorem dX1_leastMakespan_40 : decode cX1_leastMakespan 40 = .ok (.iload 5, 2) := by decide +kernel
theorem dX1_leastMakespan_42 : decode cX1_leastMakespan 42 = .ok (.istore_n 3, 1) := by decide +kernel
theorem dX1_leastMakespan_43 : decode cX1_leastMakespan 43 = .ok (.iinc 4 1, 3) := by decide +kernel
theorem dX1_leastMakespan_46 : decode cX1_leastMakespan 46 = .ok (.goto (-35), 3) := by decide +kernel
theorem dX1_leastMakespan_49 : decode cX1_leastMakespan 49 = .ok (.iload_n 3, 1) := by decide +kernel
theorem dX1_leastMakespan_50 : decode cX1_leastMakespan 50 = .ok (.ireturn, 1) := by decide +kernel
set_option maxRecDepth 20000 in
theorem ggX1_drawRow_X4_restart : GoodIn wsX1_drawRow wsX4_restart := goodIn_r _ [9, 10, 66, 67, 68] (by decide +kernel) (by decide +kernel)
set_option maxRecDepth 20000 in
theorem gX1_drawRow_X4_restart : GoodIn wsX1_drawRow (wsV RX1 32 RX4 yX4_restart wsX4_restart) := goodIn_app (goodIn_of _ (by decide +kernel)) ggX1_drawRow_X4_restart
set_option maxRecDepth 20000 in
theorem ggX1_drawRow_X1_drawTask : GoodIn wsX1_drawRow wsX1_drawTask := goodIn_r _ [15, 16, 17, 18, 19, 2, 3, 20, 21, 22, 23, 24, 25, 26, 27, 28, 29, 30, 31, 55, 56, 57, 58, 59, 60, 61, 62, 63, 64, 65] (by decide +kernel) (by decide +kernel)
set_option maxRecDepth 20000 in
theorem gX1_drawRow_X1_drawTask : GoodIn wsX1_drawRow (wsV RX1 41 RX1 yX1_drawTask wsX1_drawTask) := goodIn_app (goodIn_of _ (by decide +kernel)) ggX1_drawRow_X1_drawTask
set_option maxRecDepth 20000 in
theorem ggX1_drawRow_X4_earliestEnd : GoodIn wsX1_drawRow wsX4_earliestEnd := goodIn_r _ [35, 36, 37, 10, 38, 39, 40, 41, 42, 43, 44, 45, 46, 22, 23, 24, 66, 67, 68, 58, 59, 60, 61, 62, 63, 64, 65] (by decide +kernel) (by decide +kernel)
set_option maxRecDepth 20000 in
theorem gX1_drawRow_X4_earliestEnd : GoodIn wsX1_drawRow (wsV RX1 45 RX4 yX4_earliestEnd wsX4_earliestEnd) := goodIn_app (goodIn_of _ (by decide +kernel)) ggX1_drawRow_X4_earliestEnd
set_option maxRecDepth 20000 in
theorem ggX1_drawRow_X4_place : GoodIn wsX1_drawRow wsX4_place := goodIn_r _ [50, 45, 10, 36, 38, 66, 67, 68, 58, 59, 60, 61, 62, 63, 64, 65] (by decide +kernel) (by decide +kernel)
set_option maxRecDepth 20000 in
theorem gX1_drawRow_X4_place : GoodIn wsX1_drawRow (wsV RX1 49 RX4 yX4_place wsX4_place) := goodIn_app (goodIn_of _ (by decide +kernel)) ggX1_drawRow_X4_place
set_option maxRecDepth 20000 in
theorem ggX1_drawRow_X4_latestEnd : GoodIn wsX1_drawRow wsX4_latestEnd := goodIn_r _ [54, 10, 39, 40, 41, 42, 66, 67, 68] (by decide +kernel) (by decide +kernel)
set_option maxRecDepth 20000 in
theorem gX1_drawRow_X4_latestEnd : GoodIn wsX1_drawRow (wsV RX1 57 RX4 yX4_latestEnd wsX4_latestEnd) := goodIn_app (goodIn_of _ (by decide +kernel)) ggX1_drawRow_X4_latestEnd
theorem dX1_drawRow_0 : decode cX1_drawRow 0 = .ok (.aload_n 0, 1) := by decide +kernel
theorem dX1_drawRow_1 : decode cX1_drawRow 1 = .ok (.getfield 24, 3) := by decide +kernel
theorem dX1_drawRow_4 : decode cX1_drawRow 4 = .ok (.invokevirtual 32, 3) := by decide +kernel
theorem dX1_drawRow_7 : decode cX1_drawRow 7 = .ok (.iconst 1, 1) := by decide +kernel
theorem dX1_drawRow_8 : decode cX1_drawRow 8 = .ok (.istore_n 1, 1) := by decide +kernel
theorem dX1_drawRow_9 : decode cX1_drawRow 9 = .ok (.iconst 0, 1) := by decide +kernel
theorem dX1_drawRow_10 : decode cX1_drawRow 10 = .ok (.istore_n 2, 1) := by decide +kernel
theorem dX1_drawRow_11 : decode cX1_drawRow 11 = .ok (.iconst 0, 1) := by decide +kernel
theorem dX1_drawRow_12 : decode cX1_drawRow 12 = .ok (.istore_n 3, 1) := by decide +kernel
theorem dX1_drawRow_13 : decode cX1_drawRow 13 = .ok (.iload_n 3, 1) := by decide +kernel
theorem dX1_drawRow_14 : decode cX1_drawRow 14 = .ok (.aload_n 0, 1) := by decide +kernel
theorem dX1_drawRow_15 : decode cX1_drawRow 15 = .ok (.getfield 15, 3) := by decide +kernel
theorem dX1_drawRow_18 : decode cX1_drawRow 18 = .ok (.getfield 35, 3) := by decide +kernel
theorem dX1_drawRow_21 : decode cX1_drawRow 21 = .ok (.if_icmp .ge 71, 3) := by decide +kernel
theorem dX1_drawRow_24 : decode cX1_drawRow 24 = .ok (.aload_n 0, 1) := by decide +kernel
theorem dX1_drawRow_25 : decode cX1_drawRow 25 = .ok (.iload_n 2, 1) := by decide +kernel
theorem dX1_drawRow_26 : decode cX1_drawRow 26 = .ok (.invokevirtual 41, 3) := by decide +kernel
theorem dX1_drawRow_29 : decode cX1_drawRow 29 = .ok (.istore 4, 2) := by decide +kernel
theorem dX1_drawRow_31 : decode cX1_drawRow 31 = .ok (.aload_n 0, 1) := by decide +kernel
theorem dX1_drawRow_32 : decode cX1_drawRow 32 = .ok (.getfield 24, 3) := by decide +kernel
theorem dX1_drawRow_35 : decode cX1_drawRow 35 = .ok (.iload 4, 2) := by decide +kernel
theorem dX1_drawRow_37 : decode cX1_drawRow 37 = .ok (.iload_n 2, 1) := by decide +kernel
theorem dX1_drawRow_38 : decode cX1_drawRow 38 = .ok (.invokevirtual 45, 3) := by decide +kernel
theorem dX1_drawRow_41 : decode cX1_drawRow 41 = .ok (.istore 5, 2) := by decide +kernel
theorem dX1_drawRow_43 : decode cX1_drawRow 43 = .ok (.aload_n 0, 1) := by decide +kernel
theorem dX1_drawRow_44 : decode cX1_drawRow 44 = .ok (.getfield 24, 3) := by decide +kernel
theorem dX1_drawRow_47 : decode cX1_drawRow 47 = .ok (.iload 4, 2) := by decide +kernel
theorem dX1_drawRow_49 : decode cX1_drawRow 49 = .ok (.iload 5, 2) := by decide +kernel
theorem dX1_drawRow_51 : decode cX1_drawRow 51 = .ok (.invokevirtual 49, 3) := by decide +kernel
theorem dX1_drawRow_54 : decode cX1_drawRow 54 = .ok (.iload_n 2, 1) := by decide +kernel
theorem dX1_drawRow_55 : decode cX1_drawRow 55 = .ok (.iconst 1, 1) := by decide +kernel
theorem dX1_drawRow_56 : decode cX1_drawRow 56 = .ok (.iload 4, 2) := by decide +kernel
theorem dX1_drawRow_58 : decode cX1_drawRow 58 = .ok (.ishl, 1) := by decide +kernel
theorem dX1_drawRow_59 : decode cX1_drawRow 59 = .ok (.ior, 1) := by decide +kernel
theorem dX1_drawRow_60 : decode cX1_drawRow 60 = .ok (.istore_n 2, 1) := by decide +kernel
theorem dX1_drawRow_61 : decode cX1_drawRow 61 = .ok (.iload_n 1, 1) := by decide +kernel
theorem dX1_drawRow_62 : decode cX1_drawRow 62 = .ok (.ifCond .eq 22, 3) := by decide +kernel
theorem dX1_drawRow_65 : decode cX1_drawRow 65 = .ok (.iload 5, 2) := by decide +kernel
theorem dX1_drawRow_67 : decode cX1_drawRow 67 = .ok (.aload_n 0, 1) := by decide +kernel
theorem dX1_drawRow_68 : decode cX1_drawRow 68 = .ok (.getfield 15, 3) := by decide +kernel
theorem dX1_drawRow_71 : decode cX1_drawRow 71 = .ok (.getfield 53, 3) := by decide +kernel
theorem dX1_drawRow_74 : decode cX1_drawRow 74 = .ok (.iload 4, 2) := by decide +kernel
theorem dX1_drawRow_76 : decode cX1_drawRow 76 = .ok (.iaload, 1) := by decide +kernel
theorem dX1_drawRow_77 : decode cX1_drawRow 77 = .ok (.if_icmp .gt 7, 3) := by decide +kernel
theorem dX1_drawRow_80 : decode cX1_drawRow 80 = .ok (.iconst 1, 1) := by decide +kernel
theorem dX1_drawRow_81 : decode cX1_drawRow 81 = .ok (.goto 4, 3) := by decide +kernel
theorem dX1_drawRow_84 : decode cX1_drawRow 84 = .ok (.iconst 0, 1) := by decide +kernel
theorem dX1_drawRow_85 : decode cX1_drawRow 85 = .ok (.istore_n 1, 1) := by decide +kernel
theorem dX1_drawRow_86 : decode cX1_drawRow 86 = .ok (.iinc 3 1, 3) := by decide +kernel
theorem dX1_drawRow_89 : decode cX1_drawRow 89 = .ok (.goto (-76), 3) := by decide +kernel
theorem dX1_drawRow_92 : decode cX1_drawRow 92 = .ok (.iload_n 1, 1) := by decide +kernel
theorem dX1_drawRow_93 : decode cX1_drawRow 93 = .ok (.ifCond .eq 13, 3) := by decide +kernel
theorem dX1_drawRow_96 : decode cX1_drawRow 96 = .ok (.aload_n 0, 1) := by decide +kernel
theorem dX1_drawRow_97 : decode cX1_drawRow 97 = .ok (.getfield 24, 3) := by decide +kernel
theorem dX1_drawRow_100 : decode cX1_drawRow 100 = .ok (.invokevirtual 57, 3) := by decide +kernel
theorem dX1_drawRow_103 : decode cX1_drawRow 103 = .ok (.goto 4, 3) := by decide +kernel
theorem dX1_drawRow_106 : decode cX1_drawRow 106 = .ok (.iconst (-1), 1) := by decide +kernel
theorem dX1_drawRow_107 : decode cX1_drawRow 107 = .ok (.ireturn, 1) := by decide +kernel
set_option maxRecDepth 20000 in
theorem ggX1_drawTask_X7_contains : GoodIn wsX1_drawTask wsX7_contains := goodIn_r _ [11] (by decide +kernel) (by decide +kernel)
set_option maxRecDepth 20000 in
theorem gX1_drawTask_X7_contains_n66 : GoodIn wsX1_drawTask (wsX7_contains) := ggX1_drawTask_X7_contains
set_option maxRecDepth 20000 in
theorem ggX1_drawTask_J6_bitCount_0f7a4 : GoodIn wsX1_drawTask wsJ6_bitCount_0f7a4 := goodIn_r _ [15, 16, 17, 18] (by decide +kernel) (by decide +kernel)
set_option maxRecDepth 20000 in
theorem gX1_drawTask_J6_bitCount_0f7a4 : GoodIn wsX1_drawTask (va_wsS RX1 73 yJ6_bitCount_0f7a4 wsJ6_bitCount_0f7a4) := goodIn_app (goodIn_of _ (by decide +kernel)) ggX1_drawTask_J6_bitCount_0f7a4
theorem dX1_drawTask_0 : decode cX1_drawTask 0 = .ok (.aload_n 0, 1) := by decide +kernel
theorem dX1_drawTask_1 : decode cX1_drawTask 1 = .ok (.aload_n 0, 1) := by decide +kernel
theorem dX1_drawTask_2 : decode cX1_drawTask 2 = .ok (.getfield 9, 3) := by decide +kernel
theorem dX1_drawTask_5 : decode cX1_drawTask 5 = .ok (.ldc2_w 60, 3) := by decide +kernel
theorem dX1_drawTask_8 : decode cX1_drawTask 8 = .ok (.lmul, 1) := by decide +kernel
theorem dX1_drawTask_9 : decode cX1_drawTask 9 = .ok (.ldc2_w 62, 3) := by decide +kernel
theorem dX1_drawTask_12 : decode cX1_drawTask 12 = .ok (.ladd, 1) := by decide +kernel
theorem dX1_drawTask_13 : decode cX1_drawTask 13 = .ok (.ldc2_w 64, 3) := by decide +kernel
theorem dX1_drawTask_16 : decode cX1_drawTask 16 = .ok (.lrem, 1) := by decide +kernel
theorem dX1_drawTask_17 : decode cX1_drawTask 17 = .ok (.putfield 9, 3) := by decide +kernel
theorem dX1_drawTask_20 : decode cX1_drawTask 20 = .ok (.iconst 0, 1) := by decide +kernel
theorem dX1_drawTask_21 : decode cX1_drawTask 21 = .ok (.istore_n 2, 1) := by decide +kernel
theorem dX1_drawTask_22 : decode cX1_drawTask 22 = .ok (.iconst 0, 1) := by decide +kernel
theorem dX1_drawTask_23 : decode cX1_drawTask 23 = .ok (.istore_n 3, 1) := by decide +kernel
theorem dX1_drawTask_24 : decode cX1_drawTask 24 = .ok (.iload_n 3, 1) := by decide +kernel
theorem dX1_drawTask_25 : decode cX1_drawTask 25 = .ok (.aload_n 0, 1) := by decide +kernel
theorem dX1_drawTask_26 : decode cX1_drawTask 26 = .ok (.getfield 15, 3) := by decide +kernel
theorem dX1_drawTask_29 : decode cX1_drawTask 29 = .ok (.getfield 35, 3) := by decide +kernel
theorem dX1_drawTask_32 : decode cX1_drawTask 32 = .ok (.if_icmp .ge 39, 3) := by decide +kernel
theorem dX1_drawTask_35 : decode cX1_drawTask 35 = .ok (.iload_n 1, 1) := by decide +kernel
theorem dX1_drawTask_36 : decode cX1_drawTask 36 = .ok (.iload_n 3, 1) := by decide +kernel
theorem dX1_drawTask_37 : decode cX1_drawTask 37 = .ok (.invokestatic 66, 3) := by decide +kernel
theorem dX1_drawTask_40 : decode cX1_drawTask 40 = .ok (.ifCond .ne 25, 3) := by decide +kernel
theorem dX1_drawTask_43 : decode cX1_drawTask 43 = .ok (.aload_n 0, 1) := by decide +kernel
theorem dX1_drawTask_44 : decode cX1_drawTask 44 = .ok (.getfield 15, 3) := by decide +kernel
theorem dX1_drawTask_47 : decode cX1_drawTask 47 = .ok (.getfield 70, 3) := by decide +kernel
theorem dX1_drawTask_50 : decode cX1_drawTask 50 = .ok (.iload_n 3, 1) := by decide +kernel
theorem dX1_drawTask_51 : decode cX1_drawTask 51 = .ok (.iaload, 1) := by decide +kernel
theorem dX1_drawTask_52 : decode cX1_drawTask 52 = .ok (.iload_n 1, 1) := by decide +kernel
theorem dX1_drawTask_53 : decode cX1_drawTask 53 = .ok (.iconst (-1), 1) := by decide +kernel
theorem dX1_drawTask_54 : decode cX1_drawTask 54 = .ok (.ixor, 1) := by decide +kernel
theorem dX1_drawTask_55 : decode cX1_drawTask 55 = .ok (.iand, 1) := by decide +kernel
theorem dX1_drawTask_56 : decode cX1_drawTask 56 = .ok (.ifCond .ne 9, 3) := by decide +kernel
theorem dX1_drawTask_59 : decode cX1_drawTask 59 = .ok (.iload_n 2, 1) := by decide +kernel
theorem dX1_drawTask_60 : decode cX1_drawTask 60 = .ok (.iconst 1, 1) := by decide +kernel
theorem dX1_drawTask_61 : decode cX1_drawTask 61 = .ok (.iload_n 3, 1) := by decide +kernel
theorem dX1_drawTask_62 : decode cX1_drawTask 62 = .ok (.ishl, 1) := by decide +kernel
theorem dX1_drawTask_63 : decode cX1_drawTask 63 = .ok (.ior, 1) := by decide +kernel
theorem dX1_drawTask_64 : decode cX1_drawTask 64 = .ok (.istore_n 2, 1) := by decide +kernel
theorem dX1_drawTask_65 : decode cX1_drawTask 65 = .ok (.iinc 3 1, 3) := by decide +kernel
theorem dX1_drawTask_68 : decode cX1_drawTask 68 = .ok (.goto (-44), 3) := by decide +kernel
theorem dX1_drawTask_71 : decode cX1_drawTask 71 = .ok (.iload_n 2, 1) := by decide +kernel
theorem dX1_drawTask_72 : decode cX1_drawTask 72 = .ok (.invokestatic 73, 3) := by decide +kernel
theorem dX1_drawTask_75 : decode cX1_drawTask 75 = .ok (.istore_n 3, 1) := by decide +kernel
theorem dX1_drawTask_76 : decode cX1_drawTask 76 = .ok (.iload_n 3, 1) := by decide +kernel
theorem dX1_drawTask_77 : decode cX1_drawTask 77 = .ok (.ifCond .le 17, 3) := by decide +kernel
theorem dX1_drawTask_80 : decode cX1_drawTask 80 = .ok (.aload_n 0, 1) := by decide +kernel
theorem dX1_drawTask_81 : decode cX1_drawTask 81 = .ok (.getfield 9, 3) := by decide +kernel
theorem dX1_drawTask_84 : decode cX1_drawTask 84 = .ok (.ldc2_w 78, 3) := by decide +kernel
theorem dX1_drawTask_87 : decode cX1_drawTask 87 = .ok (.ldiv, 1) := by decide +kernel
theorem dX1_drawTask_88 : decode cX1_drawTask 88 = .ok (.iload_n 3, 1) := by decide +kernel
theorem dX1_drawTask_89 : decode cX1_drawTask 89 = .ok (.i2l, 1) := by decide +kernel
theorem dX1_drawTask_90 : decode cX1_drawTask 90 = .ok (.lrem, 1) := by decide +kernel
theorem dX1_drawTask_91 : decode cX1_drawTask 91 = .ok (.goto 4, 3) := by decide +kernel
theorem dX1_drawTask_94 : decode cX1_drawTask 94 = .ok (.lconst 0, 1) := by decide +kernel
theorem dX1_drawTask_95 : decode cX1_drawTask 95 = .ok (.lstore 4, 2) := by decide +kernel
theorem dX1_drawTask_97 : decode cX1_drawTask 97 = .ok (.iconst 0, 1) := by decide +kernel
theorem dX1_drawTask_98 : decode cX1_drawTask 98 = .ok (.istore 6, 2) := by decide +kernel
theorem dX1_drawTask_100 : decode cX1_drawTask 100 = .ok (.iload 6, 2) := by decide +kernel
theorem dX1_drawTask_102 : decode cX1_drawTask 102 = .ok (.aload_n 0, 1) := by decide +kernel
theorem dX1_drawTask_103 : decode cX1_drawTask 103 = .ok (.getfield 15, 3) := by decide +kernel
theorem dX1_drawTask_106 : decode cX1_drawTask 106 = .ok (.getfield 35, 3) := by decide +kernel
theorem dX1_drawTask_109 : decode cX1_drawTask 109 = .ok (.if_icmp .ge 34, 3) := by decide +kernel
theorem dX1_drawTask_112 : decode cX1_drawTask 112 = .ok (.iload_n 2, 1) := by decide +kernel
theorem dX1_drawTask_113 : decode cX1_drawTask 113 = .ok (.iload 6, 2) := by decide +kernel
theorem dX1_drawTask_115 : decode cX1_drawTask 115 = .ok (.invokestatic 66, 3) := by decide +kernel
theorem dX1_drawTask_118 : decode cX1_drawTask 118 = .ok (.ifCond .eq 19, 3) := by decide +kernel
theorem dX1_drawTask_121 : decode cX1_drawTask 121 = .ok (.lload 4, 2) := by decide +kernel
theorem dX1_drawTask_123 : decode cX1_drawTask 123 = .ok (.lconst 0, 1) := by decide +kernel
theorem dX1_drawTask_124 : decode cX1_drawTask 124 = .ok (.lcmp, 1) := by decide +kernel
theorem dX1_drawTask_125 : decode cX1_drawTask 125 = .ok (.ifCond .ne 6, 3) := by decide +kernel
theorem dX1_drawTask_128 : decode cX1_drawTask 128 = .ok (.iload 6, 2) := by decide +kernel
theorem dX1_drawTask_130 : decode cX1_drawTask 130 = .ok (.ireturn, 1) := by decide +kernel
theorem dX1_drawTask_131 : decode cX1_drawTask 131 = .ok (.lload 4, 2) := by decide +kernel
theorem dX1_drawTask_133 : decode cX1_drawTask 133 = .ok (.lconst 1, 1) := by decide +kernel
theorem dX1_drawTask_134 : decode cX1_drawTask 134 = .ok (.lsub, 1) := by decide +kernel
theorem dX1_drawTask_135 : decode cX1_drawTask 135 = .ok (.lstore 4, 2) := by decide +kernel
theorem dX1_drawTask_137 : decode cX1_drawTask 137 = .ok (.iinc 6 1, 3) := by decide +kernel
theorem dX1_drawTask_140 : decode cX1_drawTask 140 = .ok (.goto (-40), 3) := by decide +kernel
theorem dX1_drawTask_143 : decode cX1_drawTask 143 = .ok (.iconst 0, 1) := by decide +kernel
theorem dX1_drawTask_144 : decode cX1_drawTask 144 = .ok (.ireturn, 1) := by decide +kernel
set_option maxRecDepth 20000 in
theorem ggX2_init_X5_init : GoodIn wsX2_init wsX5_init := goodIn_r _ [10, 11, 2, 3, 12, 13, 14, 15, 16, 17, 18, 19, 20, 23, 24, 25, 26, 27, 28, 29, 30] (by decide +kernel) (by decide +kernel)
set_option maxRecDepth 20000 in
theorem gX2_init_X5_init_n21 : GoodIn wsX2_init (wsX5_init) := ggX2_init_X5_init
theorem dX2_init_0 : decode cX2_init 0 = .ok (.aload_n 0, 1) := by decide +kernel
theorem dX2_init_1 : decode cX2_init 1 = .ok (.invokespecial 3, 3) := by decide +kernel
theorem dX2_init_4 : decode cX2_init 4 = .ok (.aload_n 0, 1) := by decide +kernel
theorem dX2_init_5 : decode cX2_init 5 = .ok (.iconst 0, 1) := by decide +kernel
theorem dX2_init_6 : decode cX2_init 6 = .ok (.putfield 9, 3) := by decide +kernel
theorem dX2_init_9 : decode cX2_init 9 = .ok (.aload_n 0, 1) := by decide +kernel
theorem dX2_init_10 : decode cX2_init 10 = .ok (.iconst 4, 1) := by decide +kernel
theorem dX2_init_11 : decode cX2_init 11 = .ok (.anewarray 15, 3) := by decide +kernel
theorem dX2_init_14 : decode cX2_init 14 = .ok (.putfield 17, 3) := by decide +kernel
theorem dX2_init_17 : decode cX2_init 17 = .ok (.iconst 0, 1) := by decide +kernel
theorem dX2_init_18 : decode cX2_init 18 = .ok (.istore_n 1, 1) := by decide +kernel
theorem dX2_init_19 : decode cX2_init 19 = .ok (.iload_n 1, 1) := by decide +kernel
theorem dX2_init_20 : decode cX2_init 20 = .ok (.iconst 4, 1) := by decide +kernel
theorem dX2_init_21 : decode cX2_init 21 = .ok (.if_icmp .ge 22, 3) := by decide +kernel
theorem dX2_init_24 : decode cX2_init 24 = .ok (.aload_n 0, 1) := by decide +kernel
theorem dX2_init_25 : decode cX2_init 25 = .ok (.getfield 17, 3) := by decide +kernel
theorem dX2_init_28 : decode cX2_init 28 = .ok (.iload_n 1, 1) := by decide +kernel
theorem dX2_init_29 : decode cX2_init 29 = .ok (.new 15, 3) := by decide +kernel
theorem dX2_init_32 : decode cX2_init 32 = .ok (.dup, 1) := by decide +kernel
theorem dX2_init_33 : decode cX2_init 33 = .ok (.invokespecial 21, 3) := by decide +kernel
theorem dX2_init_36 : decode cX2_init 36 = .ok (.aastore, 1) := by decide +kernel
theorem dX2_init_37 : decode cX2_init 37 = .ok (.iinc 1 1, 3) := by decide +kernel
theorem dX2_init_40 : decode cX2_init 40 = .ok (.goto (-21), 3) := by decide +kernel
theorem dX2_init_43 : decode cX2_init 43 = .ok (.return_, 1) := by decide +kernel
set_option maxRecDepth 20000 in
theorem ggX2_save_X5_copyFrom : GoodIn wsX2_save wsX5_copyFrom := goodIn_r _ [7, 8, 9, 10, 11, 12, 13, 14, 15, 18, 19, 20, 21, 22, 23, 24, 25] (by decide +kernel) (by decide +kernel)
set_option maxRecDepth 20000 in
theorem gX2_save_X5_copyFrom : GoodIn wsX2_save (wsV RX2 22 RX5 yX5_copyFrom wsX5_copyFrom) := goodIn_app (goodIn_of _ (by decide +kernel)) ggX2_save_X5_copyFrom
theorem dX2_save_0 : decode cX2_save 0 = .ok (.aload_n 0, 1) := by decide +kernel
theorem dX2_save_1 : decode cX2_save 1 = .ok (.getfield 9, 3) := by decide +kernel
theorem dX2_save_4 : decode cX2_save 4 = .ok (.iconst 4, 1) := by decide +kernel
theorem dX2_save_5 : decode cX2_save 5 = .ok (.if_icmp .lt 49, 3) := by decide +kernel
theorem dX2_save_8 : decode cX2_save 8 = .ok (.aload_n 0, 1) := by decide +kernel
theorem dX2_save_9 : decode cX2_save 9 = .ok (.getfield 17, 3) := by decide +kernel
theorem dX2_save_12 : decode cX2_save 12 = .ok (.iconst 0, 1) := by decide +kernel
theorem dX2_save_13 : decode cX2_save 13 = .ok (.aaload, 1) := by decide +kernel
theorem dX2_save_14 : decode cX2_save 14 = .ok (.astore_n 2, 1) := by decide +kernel
theorem dX2_save_15 : decode cX2_save 15 = .ok (.iconst 1, 1) := by decide +kernel
theorem dX2_save_16 : decode cX2_save 16 = .ok (.istore_n 3, 1) := by decide +kernel
theorem dX2_save_17 : decode cX2_save 17 = .ok (.iload_n 3, 1) := by decide +kernel
theorem dX2_save_18 : decode cX2_save 18 = .ok (.iconst 4, 1) := by decide +kernel
theorem dX2_save_19 : decode cX2_save 19 = .ok (.if_icmp .ge 23, 3) := by decide +kernel
theorem dX2_save_22 : decode cX2_save 22 = .ok (.aload_n 0, 1) := by decide +kernel
theorem dX2_save_23 : decode cX2_save 23 = .ok (.getfield 17, 3) := by decide +kernel
theorem dX2_save_26 : decode cX2_save 26 = .ok (.iload_n 3, 1) := by decide +kernel
theorem dX2_save_27 : decode cX2_save 27 = .ok (.iconst 1, 1) := by decide +kernel
theorem dX2_save_28 : decode cX2_save 28 = .ok (.isub, 1) := by decide +kernel
theorem dX2_save_29 : decode cX2_save 29 = .ok (.aload_n 0, 1) := by decide +kernel
theorem dX2_save_30 : decode cX2_save 30 = .ok (.getfield 17, 3) := by decide +kernel
theorem dX2_save_33 : decode cX2_save 33 = .ok (.iload_n 3, 1) := by decide +kernel
theorem dX2_save_34 : decode cX2_save 34 = .ok (.aaload, 1) := by decide +kernel
theorem dX2_save_35 : decode cX2_save 35 = .ok (.aastore, 1) := by decide +kernel
theorem dX2_save_36 : decode cX2_save 36 = .ok (.iinc 3 1, 3) := by decide +kernel
theorem dX2_save_39 : decode cX2_save 39 = .ok (.goto (-22), 3) := by decide +kernel
theorem dX2_save_42 : decode cX2_save 42 = .ok (.aload_n 0, 1) := by decide +kernel
theorem dX2_save_43 : decode cX2_save 43 = .ok (.getfield 17, 3) := by decide +kernel
theorem dX2_save_46 : decode cX2_save 46 = .ok (.iconst 3, 1) := by decide +kernel
theorem dX2_save_47 : decode cX2_save 47 = .ok (.aload_n 2, 1) := by decide +kernel
theorem dX2_save_48 : decode cX2_save 48 = .ok (.aastore, 1) := by decide +kernel
theorem dX2_save_49 : decode cX2_save 49 = .ok (.aload_n 0, 1) := by decide +kernel
theorem dX2_save_50 : decode cX2_save 50 = .ok (.iconst 3, 1) := by decide +kernel
theorem dX2_save_51 : decode cX2_save 51 = .ok (.putfield 9, 3) := by decide +kernel
theorem dX2_save_54 : decode cX2_save 54 = .ok (.aload_n 0, 1) := by decide +kernel
theorem dX2_save_55 : decode cX2_save 55 = .ok (.getfield 17, 3) := by decide +kernel
theorem dX2_save_58 : decode cX2_save 58 = .ok (.aload_n 0, 1) := by decide +kernel
theorem dX2_save_59 : decode cX2_save 59 = .ok (.getfield 9, 3) := by decide +kernel
theorem dX2_save_62 : decode cX2_save 62 = .ok (.aaload, 1) := by decide +kernel
theorem dX2_save_63 : decode cX2_save 63 = .ok (.aload_n 1, 1) := by decide +kernel
theorem dX2_save_64 : decode cX2_save 64 = .ok (.invokevirtual 22, 3) := by decide +kernel
theorem dX2_save_67 : decode cX2_save 67 = .ok (.aload_n 0, 1) := by decide +kernel
theorem dX2_save_68 : decode cX2_save 68 = .ok (.dup, 1) := by decide +kernel
theorem dX2_save_69 : decode cX2_save 69 = .ok (.getfield 9, 3) := by decide +kernel
theorem dX2_save_72 : decode cX2_save 72 = .ok (.iconst 1, 1) := by decide +kernel
theorem dX2_save_73 : decode cX2_save 73 = .ok (.iadd, 1) := by decide +kernel
theorem dX2_save_74 : decode cX2_save 74 = .ok (.putfield 9, 3) := by decide +kernel
theorem dX2_save_77 : decode cX2_save 77 = .ok (.return_, 1) := by decide +kernel
set_option maxRecDepth 20000 in
theorem ggX2_restoreInto_X5_copyFrom : GoodIn wsX2_restoreInto wsX5_copyFrom := goodIn_r _ [7, 8, 9, 10, 11, 12, 13, 14, 15, 18, 19, 20, 21, 22, 23, 24, 25] (by decide +kernel) (by decide +kernel)
set_option maxRecDepth 20000 in
theorem gX2_restoreInto_X5_copyFrom : GoodIn wsX2_restoreInto (wsV RX2 22 RX5 yX5_copyFrom wsX5_copyFrom) := goodIn_app (goodIn_of _ (by decide +kernel)) ggX2_restoreInto_X5_copyFrom
theorem dX2_restoreInto_0 : decode cX2_restoreInto 0 = .ok (.aload_n 0, 1) := by decide +kernel
theorem dX2_restoreInto_1 : decode cX2_restoreInto 1 = .ok (.getfield 9, 3) := by decide +kernel
theorem dX2_restoreInto_4 : decode cX2_restoreInto 4 = .ok (.ifCond .le 26, 3) := by decide +kernel
theorem dX2_restoreInto_7 : decode cX2_restoreInto 7 = .ok (.aload_n 0, 1) := by decide +kernel
theorem dX2_restoreInto_8 : decode cX2_restoreInto 8 = .ok (.dup, 1) := by decide +kernel
theorem dX2_restoreInto_9 : decode cX2_restoreInto 9 = .ok (.getfield 9, 3) := by decide +kernel
theorem dX2_restoreInto_12 : decode cX2_restoreInto 12 = .ok (.iconst 1, 1) := by decide +kernel
theorem dX2_restoreInto_13 : decode cX2_restoreInto 13 = .ok (.isub, 1) := by decide +kernel
theorem dX2_restoreInto_14 : decode cX2_restoreInto 14 = .ok (.putfield 9, 3) := by decide +kernel
theorem dX2_restoreInto_17 : decode cX2_restoreInto 17 = .ok (.aload_n 1, 1) := by decide +kernel
theorem dX2_restoreInto_18 : decode cX2_restoreInto 18 = .ok (.aload_n 0, 1) := by decide +kernel
theorem dX2_restoreInto_19 : decode cX2_restoreInto 19 = .ok (.getfield 17, 3) := by decide +kernel
theorem dX2_restoreInto_22 : decode cX2_restoreInto 22 = .ok (.aload_n 0, 1) := by decide +kernel
theorem dX2_restoreInto_23 : decode cX2_restoreInto 23 = .ok (.getfield 9, 3) := by decide +kernel
theorem dX2_restoreInto_26 : decode cX2_restoreInto 26 = .ok (.aaload, 1) := by decide +kernel
theorem dX2_restoreInto_27 : decode cX2_restoreInto 27 = .ok (.invokevirtual 22, 3) := by decide +kernel
theorem dX2_restoreInto_30 : decode cX2_restoreInto 30 = .ok (.return_, 1) := by decide +kernel
theorem dX3_init_0 : decode cX3_init 0 = .ok (.aload_n 0, 1) := by decide +kernel
theorem dX3_init_1 : decode cX3_init 1 = .ok (.invokespecial 3, 3) := by decide +kernel
theorem dX3_init_4 : decode cX3_init 4 = .ok (.aload_n 0, 1) := by decide +kernel
theorem dX3_init_5 : decode cX3_init 5 = .ok (.iconst 0, 1) := by decide +kernel
theorem dX3_init_6 : decode cX3_init 6 = .ok (.putfield 9, 3) := by decide +kernel
theorem dX3_init_9 : decode cX3_init 9 = .ok (.aload_n 0, 1) := by decide +kernel
theorem dX3_init_10 : decode cX3_init 10 = .ok (.iconst 0, 1) := by decide +kernel
theorem dX3_init_11 : decode cX3_init 11 = .ok (.putfield 15, 3) := by decide +kernel
theorem dX3_init_14 : decode cX3_init 14 = .ok (.aload_n 0, 1) := by decide +kernel
theorem dX3_init_15 : decode cX3_init 15 = .ok (.iconst 0, 1) := by decide +kernel
theorem dX3_init_16 : decode cX3_init 16 = .ok (.putfield 18, 3) := by decide +kernel
theorem dX3_init_19 : decode cX3_init 19 = .ok (.aload_n 0, 1) := by decide +kernel
theorem dX3_init_20 : decode cX3_init 20 = .ok (.iconst 0, 1) := by decide +kernel
theorem dX3_init_21 : decode cX3_init 21 = .ok (.putfield 21, 3) := by decide +kernel
theorem dX3_init_24 : decode cX3_init 24 = .ok (.aload_n 0, 1) := by decide +kernel
theorem dX3_init_25 : decode cX3_init 25 = .ok (.iconst 0, 1) := by decide +kernel
theorem dX3_init_26 : decode cX3_init 26 = .ok (.putfield 24, 3) := by decide +kernel
theorem dX3_init_29 : decode cX3_init 29 = .ok (.aload_n 0, 1) := by decide +kernel
theorem dX3_init_30 : decode cX3_init 30 = .ok (.iconst 0, 1) := by decide +kernel
theorem dX3_init_31 : decode cX3_init 31 = .ok (.putfield 27, 3) := by decide +kernel
theorem dX3_init_34 : decode cX3_init 34 = .ok (.aload_n 0, 1) := by decide +kernel
theorem dX3_init_35 : decode cX3_init 35 = .ok (.iconst 0, 1) := by decide +kernel
theorem dX3_init_36 : decode cX3_init 36 = .ok (.putfield 30, 3) := by decide +kernel
theorem dX3_init_39 : decode cX3_init 39 = .ok (.aload_n 0, 1) := by decide +kernel
theorem dX3_init_40 : decode cX3_init 40 = .ok (.iconst 0, 1) := by decide +kernel
theorem dX3_init_41 : decode cX3_init 41 = .ok (.putfield 33, 3) := by decide +kernel
theorem dX3_init_44 : decode cX3_init 44 = .ok (.aload_n 0, 1) := by decide +kernel
theorem dX3_init_45 : decode cX3_init 45 = .ok (.bipush 100, 2) := by decide +kernel
theorem dX3_init_47 : decode cX3_init 47 = .ok (.newarray .byte, 2) := by decide +kernel
theorem dX3_init_49 : decode cX3_init 49 = .ok (.putfield 36, 3) := by decide +kernel
theorem dX3_init_52 : decode cX3_init 52 = .ok (.aload_n 0, 1) := by decide +kernel
theorem dX3_init_53 : decode cX3_init 53 = .ok (.iconst 0, 1) := by decide +kernel
theorem dX3_init_54 : decode cX3_init 54 = .ok (.putfield 40, 3) := by decide +kernel
theorem dX3_init_57 : decode cX3_init 57 = .ok (.aload_n 0, 1) := by decide +kernel
theorem dX3_init_58 : decode cX3_init 58 = .ok (.iconst (-1), 1) := by decide +kernel
theorem dX3_init_59 : decode cX3_init 59 = .ok (.putfield 43, 3) := by decide +kernel
theorem dX3_init_62 : decode cX3_init 62 = .ok (.return_, 1) := by decide +kernel
theorem dX3_put_0 : decode cX3_put 0 = .ok (.aload_n 0, 1) := by decide +kernel
theorem dX3_put_1 : decode cX3_put 1 = .ok (.getfield 9, 3) := by decide +kernel
theorem dX3_put_4 : decode cX3_put 4 = .ok (.bipush 100, 2) := by decide +kernel
theorem dX3_put_6 : decode cX3_put 6 = .ok (.if_icmp .ge 24, 3) := by decide +kernel
theorem dX3_put_9 : decode cX3_put 9 = .ok (.aload_n 0, 1) := by decide +kernel
theorem dX3_put_10 : decode cX3_put 10 = .ok (.getfield 36, 3) := by decide +kernel
theorem dX3_put_13 : decode cX3_put 13 = .ok (.aload_n 0, 1) := by decide +kernel
theorem dX3_put_14 : decode cX3_put 14 = .ok (.getfield 9, 3) := by decide +kernel
theorem dX3_put_17 : decode cX3_put 17 = .ok (.iload_n 1, 1) := by decide +kernel
theorem dX3_put_18 : decode cX3_put 18 = .ok (.i2b, 1) := by decide +kernel
theorem dX3_put_19 : decode cX3_put 19 = .ok (.bastore, 1) := by decide +kernel
theorem dX3_put_20 : decode cX3_put 20 = .ok (.aload_n 0, 1) := by decide +kernel
theorem dX3_put_21 : decode cX3_put 21 = .ok (.dup, 1) := by decide +kernel
theorem dX3_put_22 : decode cX3_put 22 = .ok (.getfield 9, 3) := by decide +kernel
theorem dX3_put_25 : decode cX3_put 25 = .ok (.iconst 1, 1) := by decide +kernel
theorem dX3_put_26 : decode cX3_put 26 = .ok (.iadd, 1) := by decide +kernel
theorem dX3_put_27 : decode cX3_put 27 = .ok (.putfield 9, 3) := by decide +kernel
theorem dX3_put_30 : decode cX3_put 30 = .ok (.return_, 1) := by decide +kernel
set_option maxRecDepth 20000 in
theorem ggX3_findFault_X3_rewind : GoodIn wsX3_findFault wsX3_rewind := goodIn_r _ [6, 7, 1, 44, 45, 46, 47, 48, 49, 50, 51, 52, 53, 54] (by decide +kernel) (by decide +kernel)
set_option maxRecDepth 20000 in
theorem gX3_findFault_X3_rewind : GoodIn wsX3_findFault (wsV RX3 46 RX3 yX3_rewind wsX3_rewind) := goodIn_app (goodIn_of _ (by decide +kernel)) ggX3_findFault_X3_rewind
set_option maxRecDepth 20000 in
theorem ggX3_findFault_X3_readOrder : GoodIn wsX3_findFault wsX3_readOrder := goodIn_r _ [11, 7, 12, 1, 13, 14, 15, 16, 17, 18, 5, 19, 20, 21, 22, 23, 24, 25, 26, 27, 28, 29, 30, 31, 32, 33, 34, 35, 36, 37, 38, 39, 40, 41, 42, 43, 44, 45, 46, 47, 48, 49, 50, 51, 52, 53, 54] (by decide +kernel) (by decide +kernel)
set_option maxRecDepth 20000 in
theorem gX3_findFault_X3_readOrder : GoodIn wsX3_findFault (wsV RX3 49 RX3 yX3_readOrder wsX3_readOrder) := goodIn_app (goodIn_of _ (by decide +kernel)) ggX3_findFault_X3_readOrder
theorem dX3_findFault_0 : decode cX3_findFault 0 = .ok (.aload_n 0, 1) := by decide +kernel
theorem dX3_findFault_1 : decode cX3_findFault 1 = .ok (.invokevirtual 46, 3) := by decide +kernel
theorem dX3_findFault_4 : decode cX3_findFault 4 = .ok (.iconst 0, 1) := by decide +kernel
theorem dX3_findFault_5 : decode cX3_findFault 5 = .ok (.istore_n 1, 1) := by decide +kernel
theorem dX3_findFault_6 : decode cX3_findFault 6 = .ok (.iload_n 1, 1) := by decide +kernel
theorem dX3_findFault_7 : decode cX3_findFault 7 = .ok (.bipush 100, 2) := by decide +kernel
theorem dX3_findFault_9 : decode cX3_findFault 9 = .ok (.if_icmp .ge 16, 3) := by decide +kernel
theorem dX3_findFault_12 : decode cX3_findFault 12 = .ok (.aload_n 0, 1) := by decide +kernel
theorem dX3_findFault_13 : decode cX3_findFault 13 = .ok (.invokevirtual 49, 3) := by decide +kernel
theorem dX3_findFault_16 : decode cX3_findFault 16 = .ok (.ifCond .eq 9, 3) := by decide +kernel
theorem dX3_findFault_19 : decode cX3_findFault 19 = .ok (.iinc 1 1, 3) := by decide +kernel
theorem dX3_findFault_22 : decode cX3_findFault 22 = .ok (.goto (-16), 3) := by decide +kernel
theorem dX3_findFault_25 : decode cX3_findFault 25 = .ok (.aload_n 0, 1) := by decide +kernel
theorem dX3_findFault_26 : decode cX3_findFault 26 = .ok (.getfield 43, 3) := by decide +kernel
theorem dX3_findFault_29 : decode cX3_findFault 29 = .ok (.ireturn, 1) := by decide +kernel
theorem dX3_rewind_0 : decode cX3_rewind 0 = .ok (.aload_n 0, 1) := by decide +kernel
theorem dX3_rewind_1 : decode cX3_rewind 1 = .ok (.iconst 0, 1) := by decide +kernel
theorem dX3_rewind_2 : decode cX3_rewind 2 = .ok (.putfield 40, 3) := by decide +kernel
theorem dX3_rewind_5 : decode cX3_rewind 5 = .ok (.aload_n 0, 1) := by decide +kernel
theorem dX3_rewind_6 : decode cX3_rewind 6 = .ok (.iconst (-1), 1) := by decide +kernel
theorem dX3_rewind_7 : decode cX3_rewind 7 = .ok (.putfield 43, 3) := by decide +kernel
theorem dX3_rewind_10 : decode cX3_rewind 10 = .ok (.return_, 1) := by decide +kernel
set_option maxRecDepth 20000 in
theorem ggX3_readOrder_X3_peek : GoodIn wsX3_readOrder wsX3_peek := goodIn_r _ [11, 1, 2, 12, 36, 37, 38, 39, 40, 41, 42, 43, 44, 45, 46] (by decide +kernel) (by decide +kernel)
set_option maxRecDepth 20000 in
theorem gX3_readOrder_X3_peek : GoodIn wsX3_readOrder (wsV RX3 53 RX3 yX3_peek wsX3_peek) := goodIn_app (goodIn_of _ (by decide +kernel)) ggX3_readOrder_X3_peek
set_option maxRecDepth 20000 in
theorem ggX3_readOrder_X3_readTask : GoodIn wsX3_readOrder wsX3_readTask := goodIn_r _ [16, 1, 17, 18, 19, 20, 21, 22, 23, 10, 24, 3, 7, 8, 9, 11, 2, 12, 25, 26, 27, 28, 29, 30, 31, 32, 33, 34, 35, 36, 37, 38, 39, 40, 41, 42, 43, 44, 45, 46] (by decide +kernel) (by decide +kernel)
set_option maxRecDepth 20000 in
theorem gX3_readOrder_X3_readTask : GoodIn wsX3_readOrder (wsV RX3 57 RX3 yX3_readTask wsX3_readTask) := goodIn_app (goodIn_of _ (by decide +kernel)) ggX3_readOrder_X3_readTask
set_option maxRecDepth 20000 in
theorem ggX3_readOrder_X3_readDigit : GoodIn wsX3_readOrder wsX3_readDigit := goodIn_r _ [24, 3, 1, 7, 8, 9, 10, 11, 2, 12, 36, 37, 38, 39, 40, 41, 42, 43, 44, 45, 46] (by decide +kernel) (by decide +kernel)
set_option maxRecDepth 20000 in
theorem gX3_readOrder_X3_readDigit : GoodIn wsX3_readOrder (wsV RX3 60 RX3 yX3_readDigit wsX3_readDigit) := goodIn_app (goodIn_of _ (by decide +kernel)) ggX3_readOrder_X3_readDigit
set_option maxRecDepth 20000 in
theorem ggX3_readOrder_X3_expect : GoodIn wsX3_readOrder wsX3_expect := goodIn_r _ [28, 3, 1, 7, 8, 9, 10, 11, 2, 12, 36, 37, 38, 39, 40, 41, 42, 43, 44, 45, 46] (by decide +kernel) (by decide +kernel)
set_option maxRecDepth 20000 in
theorem gX3_readOrder_X3_expect : GoodIn wsX3_readOrder (wsV RX3 64 RX3 yX3_expect wsX3_expect) := goodIn_app (goodIn_of _ (by decide +kernel)) ggX3_readOrder_X3_expect
theorem dX3_readOrder_0 : decode cX3_readOrder 0 = .ok (.aload_n 0, 1) := by decide +kernel
theorem dX3_readOrder_1 : decode cX3_readOrder 1 = .ok (.getfield 40, 3) := by decide +kernel
theorem dX3_readOrder_4 : decode cX3_readOrder 4 = .ok (.aload_n 0, 1) := by decide +kernel
theorem dX3_readOrder_5 : decode cX3_readOrder 5 = .ok (.getfield 9, 3) := by decide +kernel
theorem dX3_readOrder_8 : decode cX3_readOrder 8 = .ok (.if_icmp .ge 11, 3) := by decide +kernel
theorem dX3_readOrder_11 : decode cX3_readOrder 11 = .ok (.aload_n 0, 1) := by decide +kernel
theorem dX3_readOrder_12 : decode cX3_readOrder 12 = .ok (.getfield 43, 3) := by decide +kernel
theorem dX3_readOrder_15 : decode cX3_readOrder 15 = .ok (.iconst (-1), 1) := by decide +kernel
theorem dX3_readOrder_16 : decode cX3_readOrder 16 = .ok (.if_icmp .eq 5, 3) := by decide +kernel
theorem dX3_readOrder_19 : decode cX3_readOrder 19 = .ok (.iconst 0, 1) := by decide +kernel
theorem dX3_readOrder_20 : decode cX3_readOrder 20 = .ok (.ireturn, 1) := by decide +kernel
theorem dX3_readOrder_21 : decode cX3_readOrder 21 = .ok (.aload_n 0, 1) := by decide +kernel
theorem dX3_readOrder_22 : decode cX3_readOrder 22 = .ok (.aload_n 0, 1) := by decide +kernel
theorem dX3_readOrder_23 : decode cX3_readOrder 23 = .ok (.invokevirtual 53, 3) := by decide +kernel
theorem dX3_readOrder_26 : decode cX3_readOrder 26 = .ok (.putfield 15, 3) := by decide +kernel
theorem dX3_readOrder_29 : decode cX3_readOrder 29 = .ok (.aload_n 0, 1) := by decide +kernel
theorem dX3_readOrder_30 : decode cX3_readOrder 30 = .ok (.getfield 15, 3) := by decide +kernel
theorem dX3_readOrder_33 : decode cX3_readOrder 33 = .ok (.bipush 116, 2) := by decide +kernel
theorem dX3_readOrder_35 : decode cX3_readOrder 35 = .ok (.if_icmp .ne 10, 3) := by decide +kernel
theorem dX3_readOrder_38 : decode cX3_readOrder 38 = .ok (.aload_n 0, 1) := by decide +kernel
theorem dX3_readOrder_39 : decode cX3_readOrder 39 = .ok (.invokevirtual 57, 3) := by decide +kernel
theorem dX3_readOrder_42 : decode cX3_readOrder 42 = .ok (.goto 62, 3) := by decide +kernel
theorem dX3_readOrder_45 : decode cX3_readOrder 45 = .ok (.aload_n 0, 1) := by decide +kernel
theorem dX3_readOrder_46 : decode cX3_readOrder 46 = .ok (.getfield 15, 3) := by decide +kernel
theorem dX3_readOrder_49 : decode cX3_readOrder 49 = .ok (.bipush 112, 2) := by decide +kernel
theorem dX3_readOrder_51 : decode cX3_readOrder 51 = .ok (.if_icmp .eq 12, 3) := by decide +kernel
theorem dX3_readOrder_54 : decode cX3_readOrder 54 = .ok (.aload_n 0, 1) := by decide +kernel
theorem dX3_readOrder_55 : decode cX3_readOrder 55 = .ok (.getfield 15, 3) := by decide +kernel
theorem dX3_readOrder_58 : decode cX3_readOrder 58 = .ok (.bipush 113, 2) := by decide +kernel
theorem dX3_readOrder_60 : decode cX3_readOrder 60 = .ok (.if_icmp .ne 36, 3) := by decide +kernel
theorem dX3_readOrder_63 : decode cX3_readOrder 63 = .ok (.aload_n 0, 1) := by decide +kernel
theorem dX3_readOrder_64 : decode cX3_readOrder 64 = .ok (.dup, 1) := by decide +kernel
theorem dX3_readOrder_65 : decode cX3_readOrder 65 = .ok (.getfield 40, 3) := by decide +kernel
theorem dX3_readOrder_68 : decode cX3_readOrder 68 = .ok (.iconst 1, 1) := by decide +kernel
theorem dX3_readOrder_69 : decode cX3_readOrder 69 = .ok (.iadd, 1) := by decide +kernel
theorem dX3_readOrder_70 : decode cX3_readOrder 70 = .ok (.putfield 40, 3) := by decide +kernel
theorem dX3_readOrder_73 : decode cX3_readOrder 73 = .ok (.aload_n 0, 1) := by decide +kernel
theorem dX3_readOrder_74 : decode cX3_readOrder 74 = .ok (.aload_n 0, 1) := by decide +kernel
theorem dX3_readOrder_75 : decode cX3_readOrder 75 = .ok (.bipush 7, 2) := by decide +kernel
theorem dX3_readOrder_77 : decode cX3_readOrder 77 = .ok (.invokevirtual 60, 3) := by decide +kernel
theorem dX3_readOrder_80 : decode cX3_readOrder 80 = .ok (.putfield 30, 3) := by decide +kernel
theorem dX3_readOrder_83 : decode cX3_readOrder 83 = .ok (.aload_n 0, 1) := by decide +kernel
theorem dX3_readOrder_84 : decode cX3_readOrder 84 = .ok (.aload_n 0, 1) := by decide +kernel
theorem dX3_readOrder_85 : decode cX3_readOrder 85 = .ok (.bipush 7, 2) := by decide +kernel
theorem dX3_readOrder_87 : decode cX3_readOrder 87 = .ok (.invokevirtual 60, 3) := by decide +kernel
theorem dX3_readOrder_90 : decode cX3_readOrder 90 = .ok (.putfield 33, 3) := by decide +kernel
theorem dX3_readOrder_93 : decode cX3_readOrder 93 = .ok (.goto 11, 3) := by decide +kernel
theorem dX3_readOrder_96 : decode cX3_readOrder 96 = .ok (.aload_n 0, 1) := by decide +kernel
theorem dX3_readOrder_97 : decode cX3_readOrder 97 = .ok (.aload_n 0, 1) := by decide +kernel
theorem dX3_readOrder_98 : decode cX3_readOrder 98 = .ok (.getfield 40, 3) := by decide +kernel
theorem dX3_readOrder_101 : decode cX3_readOrder 101 = .ok (.putfield 43, 3) := by decide +kernel
theorem dX3_readOrder_104 : decode cX3_readOrder 104 = .ok (.aload_n 0, 1) := by decide +kernel
theorem dX3_readOrder_105 : decode cX3_readOrder 105 = .ok (.bipush 59, 2) := by decide +kernel
theorem dX3_readOrder_107 : decode cX3_readOrder 107 = .ok (.invokevirtual 64, 3) := by decide +kernel
theorem dX3_readOrder_110 : decode cX3_readOrder 110 = .ok (.aload_n 0, 1) := by decide +kernel
theorem dX3_readOrder_111 : decode cX3_readOrder 111 = .ok (.getfield 43, 3) := by decide +kernel
theorem dX3_readOrder_114 : decode cX3_readOrder 114 = .ok (.iconst (-1), 1) := by decide +kernel
theorem dX3_readOrder_115 : decode cX3_readOrder 115 = .ok (.if_icmp .ne 7, 3) := by decide +kernel
theorem dX3_readOrder_118 : decode cX3_readOrder 118 = .ok (.iconst 1, 1) := by decide +kernel
theorem dX3_readOrder_119 : decode cX3_readOrder 119 = .ok (.goto 4, 3) := by decide +kernel
theorem dX3_readOrder_122 : decode cX3_readOrder 122 = .ok (.iconst 0, 1) := by decide +kernel
theorem dX3_readOrder_123 : decode cX3_readOrder 123 = .ok (.ireturn, 1) := by decide +kernel
set_option maxRecDepth 20000 in
theorem ggX3_readTask_X3_readDigit : GoodIn wsX3_readTask wsX3_readDigit := goodIn_r _ [10, 11, 1, 12, 13, 14, 9, 15, 16, 17, 29, 30, 31, 32, 33, 34, 35, 36, 37, 38, 39] (by decide +kernel) (by decide +kernel)
set_option maxRecDepth 20000 in
theorem gX3_readTask_X3_readDigit : GoodIn wsX3_readTask (wsV RX3 60 RX3 yX3_readDigit wsX3_readDigit) := goodIn_app (goodIn_of _ (by decide +kernel)) ggX3_readTask_X3_readDigit
set_option maxRecDepth 20000 in
theorem ggX3_readTask_X3_expect : GoodIn wsX3_readTask wsX3_expect := goodIn_r _ [21, 11, 1, 12, 13, 14, 9, 15, 16, 17, 29, 30, 31, 32, 33, 34, 35, 36, 37, 38, 39] (by decide +kernel) (by decide +kernel)
set_option maxRecDepth 20000 in
theorem gX3_readTask_X3_expect : GoodIn wsX3_readTask (wsV RX3 64 RX3 yX3_expect wsX3_expect) := goodIn_app (goodIn_of _ (by decide +kernel)) ggX3_readTask_X3_expect
set_option maxRecDepth 20000 in
theorem ggX3_readTask_X3_readNumber : GoodIn wsX3_readTask wsX3_readNumber := goodIn_r _ [25, 11, 1, 12, 13, 14, 9, 15, 16, 17, 26, 27, 28, 29, 30, 31, 32, 33, 34, 35, 36, 37, 38, 39] (by decide +kernel) (by decide +kernel)
set_option maxRecDepth 20000 in
theorem gX3_readTask_X3_readNumber : GoodIn wsX3_readTask (wsV RX3 68 RX3 yX3_readNumber wsX3_readNumber) := goodIn_app (goodIn_of _ (by decide +kernel)) ggX3_readTask_X3_readNumber
theorem dX3_readTask_0 : decode cX3_readTask 0 = .ok (.aload_n 0, 1) := by decide +kernel
theorem dX3_readTask_1 : decode cX3_readTask 1 = .ok (.dup, 1) := by decide +kernel
theorem dX3_readTask_2 : decode cX3_readTask 2 = .ok (.getfield 40, 3) := by decide +kernel
theorem dX3_readTask_5 : decode cX3_readTask 5 = .ok (.iconst 1, 1) := by decide +kernel
theorem dX3_readTask_6 : decode cX3_readTask 6 = .ok (.iadd, 1) := by decide +kernel
theorem dX3_readTask_7 : decode cX3_readTask 7 = .ok (.putfield 40, 3) := by decide +kernel
theorem dX3_readTask_10 : decode cX3_readTask 10 = .ok (.aload_n 0, 1) := by decide +kernel
theorem dX3_readTask_11 : decode cX3_readTask 11 = .ok (.aload_n 0, 1) := by decide +kernel
theorem dX3_readTask_12 : decode cX3_readTask 12 = .ok (.iconst 2, 1) := by decide +kernel
theorem dX3_readTask_13 : decode cX3_readTask 13 = .ok (.invokevirtual 60, 3) := by decide +kernel
theorem dX3_readTask_16 : decode cX3_readTask 16 = .ok (.putfield 18, 3) := by decide +kernel
theorem dX3_readTask_19 : decode cX3_readTask 19 = .ok (.aload_n 0, 1) := by decide +kernel
theorem dX3_readTask_20 : decode cX3_readTask 20 = .ok (.bipush 58, 2) := by decide +kernel
theorem dX3_readTask_22 : decode cX3_readTask 22 = .ok (.invokevirtual 64, 3) := by decide +kernel
theorem dX3_readTask_25 : decode cX3_readTask 25 = .ok (.aload_n 0, 1) := by decide +kernel
theorem dX3_readTask_26 : decode cX3_readTask 26 = .ok (.aload_n 0, 1) := by decide +kernel
theorem dX3_readTask_27 : decode cX3_readTask 27 = .ok (.iconst 3, 1) := by decide +kernel
theorem dX3_readTask_28 : decode cX3_readTask 28 = .ok (.iconst 0, 1) := by decide +kernel
theorem dX3_readTask_29 : decode cX3_readTask 29 = .ok (.sipush 200, 3) := by decide +kernel
theorem dX3_readTask_32 : decode cX3_readTask 32 = .ok (.invokevirtual 68, 3) := by decide +kernel
theorem dX3_readTask_35 : decode cX3_readTask 35 = .ok (.putfield 21, 3) := by decide +kernel
theorem dX3_readTask_38 : decode cX3_readTask 38 = .ok (.aload_n 0, 1) := by decide +kernel
theorem dX3_readTask_39 : decode cX3_readTask 39 = .ok (.bipush 45, 2) := by decide +kernel
theorem dX3_readTask_41 : decode cX3_readTask 41 = .ok (.invokevirtual 64, 3) := by decide +kernel
theorem dX3_readTask_44 : decode cX3_readTask 44 = .ok (.aload_n 0, 1) := by decide +kernel
theorem dX3_readTask_45 : decode cX3_readTask 45 = .ok (.aload_n 0, 1) := by decide +kernel
theorem dX3_readTask_46 : decode cX3_readTask 46 = .ok (.iconst 3, 1) := by decide +kernel
theorem dX3_readTask_47 : decode cX3_readTask 47 = .ok (.iconst 1, 1) := by decide +kernel
theorem dX3_readTask_48 : decode cX3_readTask 48 = .ok (.sipush 400, 3) := by decide +kernel
theorem dX3_readTask_51 : decode cX3_readTask 51 = .ok (.invokevirtual 68, 3) := by decide +kernel
theorem dX3_readTask_54 : decode cX3_readTask 54 = .ok (.putfield 24, 3) := by decide +kernel
theorem dX3_readTask_57 : decode cX3_readTask 57 = .ok (.aload_n 0, 1) := by decide +kernel
theorem dX3_readTask_58 : decode cX3_readTask 58 = .ok (.bipush 42, 2) := by decide +kernel
theorem dX3_readTask_60 : decode cX3_readTask 60 = .ok (.invokevirtual 64, 3) := by decide +kernel
theorem dX3_readTask_63 : decode cX3_readTask 63 = .ok (.aload_n 0, 1) := by decide +kernel
theorem dX3_readTask_64 : decode cX3_readTask 64 = .ok (.aload_n 0, 1) := by decide +kernel
theorem dX3_readTask_65 : decode cX3_readTask 65 = .ok (.iconst 2, 1) := by decide +kernel
theorem dX3_readTask_66 : decode cX3_readTask 66 = .ok (.iconst 1, 1) := by decide +kernel
theorem dX3_readTask_67 : decode cX3_readTask 67 = .ok (.bipush 50, 2) := by decide +kernel
theorem dX3_readTask_69 : decode cX3_readTask 69 = .ok (.invokevirtual 68, 3) := by decide +kernel
theorem dX3_readTask_72 : decode cX3_readTask 72 = .ok (.putfield 27, 3) := by decide +kernel
theorem dX3_readTask_75 : decode cX3_readTask 75 = .ok (.return_, 1) := by decide +kernel
theorem dX3_peek_0 : decode cX3_peek 0 = .ok (.aload_n 0, 1) := by decide +kernel
theorem dX3_peek_1 : decode cX3_peek 1 = .ok (.getfield 40, 3) := by decide +kernel
theorem dX3_peek_4 : decode cX3_peek 4 = .ok (.ifCond .lt 35, 3) := by decide +kernel
theorem dX3_peek_7 : decode cX3_peek 7 = .ok (.aload_n 0, 1) := by decide +kernel
theorem dX3_peek_8 : decode cX3_peek 8 = .ok (.getfield 40, 3) := by decide +kernel
theorem dX3_peek_11 : decode cX3_peek 11 = .ok (.aload_n 0, 1) := by decide +kernel
theorem dX3_peek_12 : decode cX3_peek 12 = .ok (.getfield 9, 3) := by decide +kernel
theorem dX3_peek_15 : decode cX3_peek 15 = .ok (.if_icmp .ge 24, 3) := by decide +kernel
theorem dX3_peek_18 : decode cX3_peek 18 = .ok (.aload_n 0, 1) := by decide +kernel
theorem dX3_peek_19 : decode cX3_peek 19 = .ok (.getfield 40, 3) := by decide +kernel
theorem dX3_peek_22 : decode cX3_peek 22 = .ok (.bipush 100, 2) := by decide +kernel
theorem dX3_peek_24 : decode cX3_peek 24 = .ok (.if_icmp .ge 15, 3) := by decide +kernel
theorem dX3_peek_27 : decode cX3_peek 27 = .ok (.aload_n 0, 1) := by decide +kernel
theorem dX3_peek_28 : decode cX3_peek 28 = .ok (.getfield 36, 3) := by decide +kernel
theorem dX3_peek_31 : decode cX3_peek 31 = .ok (.aload_n 0, 1) := by decide +kernel
theorem dX3_peek_32 : decode cX3_peek 32 = .ok (.getfield 40, 3) := by decide +kernel
theorem dX3_peek_35 : decode cX3_peek 35 = .ok (.baload, 1) := by decide +kernel
theorem dX3_peek_36 : decode cX3_peek 36 = .ok (.goto 4, 3) := by decide +kernel
theorem dX3_peek_39 : decode cX3_peek 39 = .ok (.iconst (-1), 1) := by decide +kernel
theorem dX3_peek_40 : decode cX3_peek 40 = .ok (.ireturn, 1) := by decide +kernel
set_option maxRecDepth 20000 in
theorem ggX3_expect_X3_peek : GoodIn wsX3_expect wsX3_peek := goodIn_r _ [7, 2, 8, 9, 10, 11, 12, 13, 14, 15, 16, 17, 18, 19, 20] (by decide +kernel) (by decide +kernel)
set_option maxRecDepth 20000 in
theorem gX3_expect_X3_peek : GoodIn wsX3_expect (wsV RX3 53 RX3 yX3_peek wsX3_peek) := goodIn_app (goodIn_of _ (by decide +kernel)) ggX3_expect_X3_peek
theorem dX3_expect_0 : decode cX3_expect 0 = .ok (.aload_n 0, 1) := by decide +kernel
theorem dX3_expect_1 : decode cX3_expect 1 = .ok (.getfield 43, 3) := by decide +kernel
theorem dX3_expect_4 : decode cX3_expect 4 = .ok (.iconst (-1), 1) := by decide +kernel
theorem dX3_expect_5 : decode cX3_expect 5 = .ok (.if_icmp .eq 4, 3) := by decide +kernel
theorem dX3_expect_8 : decode cX3_expect 8 = .ok (.return_, 1) := by decide +kernel
theorem dX3_expect_9 : decode cX3_expect 9 = .ok (.aload_n 0, 1) := by decide +kernel
theorem dX3_expect_10 : decode cX3_expect 10 = .ok (.invokevirtual 53, 3) := by decide +kernel
theorem dX3_expect_13 : decode cX3_expect 13 = .ok (.iload_n 1, 1) := by decide +kernel
theorem dX3_expect_14 : decode cX3_expect 14 = .ok (.if_icmp .ne 16, 3) := by decide +kernel
theorem dX3_expect_17 : decode cX3_expect 17 = .ok (.aload_n 0, 1) := by decide +kernel
theorem dX3_expect_18 : decode cX3_expect 18 = .ok (.dup, 1) := by decide +kernel
theorem dX3_expect_19 : decode cX3_expect 19 = .ok (.getfield 40, 3) := by decide +kernel
theorem dX3_expect_22 : decode cX3_expect 22 = .ok (.iconst 1, 1) := by decide +kernel
theorem dX3_expect_23 : decode cX3_expect 23 = .ok (.iadd, 1) := by decide +kernel
theorem dX3_expect_24 : decode cX3_expect 24 = .ok (.putfield 40, 3) := by decide +kernel
theorem dX3_expect_27 : decode cX3_expect 27 = .ok (.goto 11, 3) := by decide +kernel
theorem dX3_expect_30 : decode cX3_expect 30 = .ok (.aload_n 0, 1) := by decide +kernel
theorem dX3_expect_31 : decode cX3_expect 31 = .ok (.aload_n 0, 1) := by decide +kernel
theorem dX3_expect_32 : decode cX3_expect 32 = .ok (.getfield 40, 3) := by decide +kernel
theorem dX3_expect_35 : decode cX3_expect 35 = .ok (.putfield 43, 3) := by decide +kernel
theorem dX3_expect_38 : decode cX3_expect 38 = .ok (.return_, 1) := by decide +kernel
set_option maxRecDepth 20000 in
theorem ggX3_readDigit_X3_peek : GoodIn wsX3_readDigit wsX3_peek := goodIn_r _ [7, 2, 8, 9, 10, 11, 12, 13, 14, 15, 16, 17, 18, 19, 20] (by decide +kernel) (by decide +kernel)
set_option maxRecDepth 20000 in
theorem gX3_readDigit_X3_peek : GoodIn wsX3_readDigit (wsV RX3 53 RX3 yX3_peek wsX3_peek) := goodIn_app (goodIn_of _ (by decide +kernel)) ggX3_readDigit_X3_peek
theorem dX3_readDigit_0 : decode cX3_readDigit 0 = .ok (.aload_n 0, 1) := by decide +kernel
theorem dX3_readDigit_1 : decode cX3_readDigit 1 = .ok (.invokevirtual 53, 3) := by decide +kernel
theorem dX3_readDigit_4 : decode cX3_readDigit 4 = .ok (.bipush 48, 2) := by decide +kernel
theorem dX3_readDigit_6 : decode cX3_readDigit 6 = .ok (.isub, 1) := by decide +kernel
theorem dX3_readDigit_7 : decode cX3_readDigit 7 = .ok (.istore_n 2, 1) := by decide +kernel
theorem dX3_readDigit_8 : decode cX3_readDigit 8 = .ok (.aload_n 0, 1) := by decide +kernel
theorem dX3_readDigit_9 : decode cX3_readDigit 9 = .ok (.getfield 43, 3) := by decide +kernel
theorem dX3_readDigit_12 : decode cX3_readDigit 12 = .ok (.iconst (-1), 1) := by decide +kernel
theorem dX3_readDigit_13 : decode cX3_readDigit 13 = .ok (.if_icmp .eq 5, 3) := by decide +kernel
theorem dX3_readDigit_16 : decode cX3_readDigit 16 = .ok (.iconst 0, 1) := by decide +kernel
theorem dX3_readDigit_17 : decode cX3_readDigit 17 = .ok (.ireturn, 1) := by decide +kernel
theorem dX3_readDigit_18 : decode cX3_readDigit 18 = .ok (.iload_n 2, 1) := by decide +kernel
theorem dX3_readDigit_19 : decode cX3_readDigit 19 = .ok (.ifCond .lt 8, 3) := by decide +kernel
theorem dX3_readDigit_22 : decode cX3_readDigit 22 = .ok (.iload_n 2, 1) := by decide +kernel
theorem dX3_readDigit_23 : decode cX3_readDigit 23 = .ok (.iload_n 1, 1) := by decide +kernel
theorem dX3_readDigit_24 : decode cX3_readDigit 24 = .ok (.if_icmp .le 13, 3) := by decide +kernel
theorem dX3_readDigit_27 : decode cX3_readDigit 27 = .ok (.aload_n 0, 1) := by decide +kernel
theorem dX3_readDigit_28 : decode cX3_readDigit 28 = .ok (.aload_n 0, 1) := by decide +kernel
theorem dX3_readDigit_29 : decode cX3_readDigit 29 = .ok (.getfield 40, 3) := by decide +kernel
theorem dX3_readDigit_32 : decode cX3_readDigit 32 = .ok (.putfield 43, 3) := by decide +kernel
theorem dX3_readDigit_35 : decode cX3_readDigit 35 = .ok (.iconst 0, 1) := by decide +kernel
theorem dX3_readDigit_36 : decode cX3_readDigit 36 = .ok (.ireturn, 1) := by decide +kernel
theorem dX3_readDigit_37 : decode cX3_readDigit 37 = .ok (.aload_n 0, 1) := by decide +kernel
theorem dX3_readDigit_38 : decode cX3_readDigit 38 = .ok (.dup, 1) := by decide +kernel
theorem dX3_readDigit_39 : decode cX3_readDigit 39 = .ok (.getfield 40, 3) := by decide +kernel
theorem dX3_readDigit_42 : decode cX3_readDigit 42 = .ok (.iconst 1, 1) := by decide +kernel
theorem dX3_readDigit_43 : decode cX3_readDigit 43 = .ok (.iadd, 1) := by decide +kernel
theorem dX3_readDigit_44 : decode cX3_readDigit 44 = .ok (.putfield 40, 3) := by decide +kernel
theorem dX3_readDigit_47 : decode cX3_readDigit 47 = .ok (.iload_n 2, 1) := by decide +kernel
theorem dX3_readDigit_48 : decode cX3_readDigit 48 = .ok (.ireturn, 1) := by decide +kernel
set_option maxRecDepth 20000 in
theorem ggX3_readNumber_X3_peek : GoodIn wsX3_readNumber wsX3_peek := goodIn_r _ [7, 2, 8, 9, 13, 14, 15, 16, 17, 18, 19, 20, 21, 22, 23] (by decide +kernel) (by decide +kernel)
set_option maxRecDepth 20000 in
theorem gX3_readNumber_X3_peek : GoodIn wsX3_readNumber (wsV RX3 53 RX3 yX3_peek wsX3_peek) := goodIn_app (goodIn_of _ (by decide +kernel)) ggX3_readNumber_X3_peek
set_option maxRecDepth 20000 in
theorem ggX3_readNumber_X3_isDigit : GoodIn wsX3_readNumber wsX3_isDigit := goodIn_r _ [12] (by decide +kernel) (by decide +kernel)
set_option maxRecDepth 20000 in
theorem gX3_readNumber_X3_isDigit : GoodIn wsX3_readNumber (va_wsS RX3 72 yX3_isDigit wsX3_isDigit) := goodIn_app (goodIn_of _ (by decide +kernel)) ggX3_readNumber_X3_isDigit
theorem dX3_readNumber_0 : decode cX3_readNumber 0 = .ok (.aload_n 0, 1) := by decide +kernel
theorem dX3_readNumber_1 : decode cX3_readNumber 1 = .ok (.getfield 43, 3) := by decide +kernel
theorem dX3_readNumber_4 : decode cX3_readNumber 4 = .ok (.iconst (-1), 1) := by decide +kernel
theorem dX3_readNumber_5 : decode cX3_readNumber 5 = .ok (.if_icmp .eq 5, 3) := by decide +kernel
theorem dX3_readNumber_8 : decode cX3_readNumber 8 = .ok (.iconst 0, 1) := by decide +kernel
theorem dX3_readNumber_9 : decode cX3_readNumber 9 = .ok (.ireturn, 1) := by decide +kernel
theorem dX3_readNumber_10 : decode cX3_readNumber 10 = .ok (.aload_n 0, 1) := by decide +kernel
theorem dX3_readNumber_11 : decode cX3_readNumber 11 = .ok (.getfield 40, 3) := by decide +kernel
theorem dX3_readNumber_14 : decode cX3_readNumber 14 = .ok (.istore 4, 2) := by decide +kernel
theorem dX3_readNumber_16 : decode cX3_readNumber 16 = .ok (.iconst 0, 1) := by decide +kernel
theorem dX3_readNumber_17 : decode cX3_readNumber 17 = .ok (.istore 5, 2) := by decide +kernel
theorem dX3_readNumber_19 : decode cX3_readNumber 19 = .ok (.iconst 0, 1) := by decide +kernel
theorem dX3_readNumber_20 : decode cX3_readNumber 20 = .ok (.istore 6, 2) := by decide +kernel
theorem dX3_readNumber_22 : decode cX3_readNumber 22 = .ok (.iload 6, 2) := by decide +kernel
theorem dX3_readNumber_24 : decode cX3_readNumber 24 = .ok (.iload_n 1, 1) := by decide +kernel
theorem dX3_readNumber_25 : decode cX3_readNumber 25 = .ok (.if_icmp .ge 44, 3) := by decide +kernel
theorem dX3_readNumber_28 : decode cX3_readNumber 28 = .ok (.aload_n 0, 1) := by decide +kernel
theorem dX3_readNumber_29 : decode cX3_readNumber 29 = .ok (.invokevirtual 53, 3) := by decide +kernel
theorem dX3_readNumber_32 : decode cX3_readNumber 32 = .ok (.invokestatic 72, 3) := by decide +kernel
theorem dX3_readNumber_35 : decode cX3_readNumber 35 = .ok (.ifCond .eq 34, 3) := by decide +kernel
theorem dX3_readNumber_38 : decode cX3_readNumber 38 = .ok (.bipush 10, 2) := by decide +kernel
theorem dX3_readNumber_40 : decode cX3_readNumber 40 = .ok (.iload 5, 2) := by decide +kernel
theorem dX3_readNumber_42 : decode cX3_readNumber 42 = .ok (.imul, 1) := by decide +kernel
theorem dX3_readNumber_43 : decode cX3_readNumber 43 = .ok (.aload_n 0, 1) := by decide +kernel
theorem dX3_readNumber_44 : decode cX3_readNumber 44 = .ok (.invokevirtual 53, 3) := by decide +kernel
theorem dX3_readNumber_47 : decode cX3_readNumber 47 = .ok (.bipush 48, 2) := by decide +kernel
theorem dX3_readNumber_49 : decode cX3_readNumber 49 = .ok (.isub, 1) := by decide +kernel
theorem dX3_readNumber_50 : decode cX3_readNumber 50 = .ok (.iadd, 1) := by decide +kernel
theorem dX3_readNumber_51 : decode cX3_readNumber 51 = .ok (.istore 5, 2) := by decide +kernel
theorem dX3_readNumber_53 : decode cX3_readNumber 53 = .ok (.aload_n 0, 1) := by decide +kernel
theorem dX3_readNumber_54 : decode cX3_readNumber 54 = .ok (.dup, 1) := by decide +kernel
theorem dX3_readNumber_55 : decode cX3_readNumber 55 = .ok (.getfield 40, 3) := by decide +kernel
theorem dX3_readNumber_58 : decode cX3_readNumber 58 = .ok (.iconst 1, 1) := by decide +kernel
theorem dX3_readNumber_59 : decode cX3_readNumber 59 = .ok (.iadd, 1) := by decide +kernel
theorem dX3_readNumber_60 : decode cX3_readNumber 60 = .ok (.putfield 40, 3) := by decide +kernel
theorem dX3_readNumber_63 : decode cX3_readNumber 63 = .ok (.iinc 6 1, 3) := by decide +kernel
theorem dX3_readNumber_66 : decode cX3_readNumber 66 = .ok (.goto (-44), 3) := by decide +kernel
theorem dX3_readNumber_69 : decode cX3_readNumber 69 = .ok (.aload_n 0, 1) := by decide +kernel
theorem dX3_readNumber_70 : decode cX3_readNumber 70 = .ok (.getfield 40, 3) := by decide +kernel
theorem dX3_readNumber_73 : decode cX3_readNumber 73 = .ok (.iload 4, 2) := by decide +kernel
theorem dX3_readNumber_75 : decode cX3_readNumber 75 = .ok (.if_icmp .eq 13, 3) := by decide +kernel
theorem dX3_readNumber_78 : decode cX3_readNumber 78 = .ok (.aload_n 0, 1) := by decide +kernel
theorem dX3_readNumber_79 : decode cX3_readNumber 79 = .ok (.invokevirtual 53, 3) := by decide +kernel
theorem dX3_readNumber_82 : decode cX3_readNumber 82 = .ok (.invokestatic 72, 3) := by decide +kernel
theorem dX3_readNumber_85 : decode cX3_readNumber 85 = .ok (.ifCond .eq 14, 3) := by decide +kernel
theorem dX3_readNumber_88 : decode cX3_readNumber 88 = .ok (.aload_n 0, 1) := by decide +kernel
theorem dX3_readNumber_89 : decode cX3_readNumber 89 = .ok (.aload_n 0, 1) := by decide +kernel
theorem dX3_readNumber_90 : decode cX3_readNumber 90 = .ok (.getfield 40, 3) := by decide +kernel
theorem dX3_readNumber_93 : decode cX3_readNumber 93 = .ok (.putfield 43, 3) := by decide +kernel
theorem dX3_readNumber_96 : decode cX3_readNumber 96 = .ok (.goto 21, 3) := by decide +kernel
theorem dX3_readNumber_99 : decode cX3_readNumber 99 = .ok (.iload 5, 2) := by decide +kernel
theorem dX3_readNumber_101 : decode cX3_readNumber 101 = .ok (.iload_n 2, 1) := by decide +kernel
theorem dX3_readNumber_102 : decode cX3_readNumber 102 = .ok (.if_icmp .lt 9, 3) := by decide +kernel
theorem dX3_readNumber_105 : decode cX3_readNumber 105 = .ok (.iload 5, 2) := by decide +kernel
theorem dX3_readNumber_107 : decode cX3_readNumber 107 = .ok (.iload_n 3, 1) := by decide +kernel
theorem dX3_readNumber_108 : decode cX3_readNumber 108 = .ok (.if_icmp .le 9, 3) := by decide +kernel
theorem dX3_readNumber_111 : decode cX3_readNumber 111 = .ok (.aload_n 0, 1) := by decide +kernel
theorem dX3_readNumber_112 : decode cX3_readNumber 112 = .ok (.iload 4, 2) := by decide +kernel
theorem dX3_readNumber_114 : decode cX3_readNumber 114 = .ok (.putfield 43, 3) := by decide +kernel
theorem dX3_readNumber_117 : decode cX3_readNumber 117 = .ok (.iload 5, 2) := by decide +kernel
theorem dX3_readNumber_119 : decode cX3_readNumber 119 = .ok (.ireturn, 1) := by decide +kernel
theorem dX3_isDigit_0 : decode cX3_isDigit 0 = .ok (.iload_n 0, 1) := by decide +kernel
theorem dX3_isDigit_1 : decode cX3_isDigit 1 = .ok (.bipush 48, 2) := by decide +kernel
theorem dX3_isDigit_3 : decode cX3_isDigit 3 = .ok (.if_icmp .lt 13, 3) := by decide +kernel
theorem dX3_isDigit_6 : decode cX3_isDigit 6 = .ok (.iload_n 0, 1) := by decide +kernel
theorem dX3_isDigit_7 : decode cX3_isDigit 7 = .ok (.bipush 57, 2) := by decide +kernel
theorem dX3_isDigit_9 : decode cX3_isDigit 9 = .ok (.if_icmp .gt 7, 3) := by decide +kernel
theorem dX3_isDigit_12 : decode cX3_isDigit 12 = .ok (.iconst 1, 1) := by decide +kernel
theorem dX3_isDigit_13 : decode cX3_isDigit 13 = .ok (.goto 4, 3) := by decide +kernel
theorem dX3_isDigit_16 : decode cX3_isDigit 16 = .ok (.iconst 0, 1) := by decide +kernel
theorem dX3_isDigit_17 : decode cX3_isDigit 17 = .ok (.ireturn, 1) := by decide +kernel
theorem dX4_init_0 : decode cX4_init 0 = .ok (.aload_n 0, 1) := by decide +kernel
theorem dX4_init_1 : decode cX4_init 1 = .ok (.invokespecial 3, 3) := by decide +kernel
theorem dX4_init_4 : decode cX4_init 4 = .ok (.aload_n 0, 1) := by decide +kernel
theorem dX4_init_5 : decode cX4_init 5 = .ok (.bipush 8, 2) := by decide +kernel
theorem dX4_init_7 : decode cX4_init 7 = .ok (.newarray .int, 2) := by decide +kernel
theorem dX4_init_9 : decode cX4_init 9 = .ok (.putfield 9, 3) := by decide +kernel
theorem dX4_init_12 : decode cX4_init 12 = .ok (.aload_n 0, 1) := by decide +kernel
theorem dX4_init_13 : decode cX4_init 13 = .ok (.iconst 3, 1) := by decide +kernel
theorem dX4_init_14 : decode cX4_init 14 = .ok (.newarray .int, 2) := by decide +kernel
theorem dX4_init_16 : decode cX4_init 16 = .ok (.putfield 15, 3) := by decide +kernel
theorem dX4_init_19 : decode cX4_init 19 = .ok (.aload_n 0, 1) := by decide +kernel
theorem dX4_init_20 : decode cX4_init 20 = .ok (.aload_n 1, 1) := by decide +kernel
theorem dX4_init_21 : decode cX4_init 21 = .ok (.putfield 18, 3) := by decide +kernel
theorem dX4_init_24 : decode cX4_init 24 = .ok (.return_, 1) := by decide +kernel
theorem dX4_restart_0 : decode cX4_restart 0 = .ok (.iconst 0, 1) := by decide +kernel
theorem dX4_restart_1 : decode cX4_restart 1 = .ok (.istore_n 1, 1) := by decide +kernel
theorem dX4_restart_2 : decode cX4_restart 2 = .ok (.iload_n 1, 1) := by decide +kernel
theorem dX4_restart_3 : decode cX4_restart 3 = .ok (.iconst 3, 1) := by decide +kernel
theorem dX4_restart_4 : decode cX4_restart 4 = .ok (.if_icmp .ge 16, 3) := by decide +kernel
theorem dX4_restart_7 : decode cX4_restart 7 = .ok (.aload_n 0, 1) := by decide +kernel
theorem dX4_restart_8 : decode cX4_restart 8 = .ok (.getfield 15, 3) := by decide +kernel
theorem dX4_restart_11 : decode cX4_restart 11 = .ok (.iload_n 1, 1) := by decide +kernel
theorem dX4_restart_12 : decode cX4_restart 12 = .ok (.iconst 0, 1) := by decide +kernel
theorem dX4_restart_13 : decode cX4_restart 13 = .ok (.iastore, 1) := by decide +kernel
theorem dX4_restart_14 : decode cX4_restart 14 = .ok (.iinc 1 1, 3) := by decide +kernel
theorem dX4_restart_17 : decode cX4_restart 17 = .ok (.goto (-15), 3) := by decide +kernel
theorem dX4_restart_20 : decode cX4_restart 20 = .ok (.return_, 1) := by decide +kernel
set_option maxRecDepth 20000 in
theorem ggX4_earliestEnd_X7_contains : GoodIn wsX4_earliestEnd wsX7_contains := goodIn_r _ [15] (by decide +kernel) (by decide +kernel)
set_option maxRecDepth 20000 in
theorem gX4_earliestEnd_X7_contains_n43 : GoodIn wsX4_earliestEnd (wsX7_contains) := ggX4_earliestEnd_X7_contains
theorem dX4_earliestEnd_0 : decode cX4_earliestEnd 0 = .ok (.aload_n 0, 1) := by decide +kernel
theorem dX4_earliestEnd_1 : decode cX4_earliestEnd 1 = .ok (.getfield 18, 3) := by decide +kernel
theorem dX4_earliestEnd_4 : decode cX4_earliestEnd 4 = .ok (.getfield 22, 3) := by decide +kernel
theorem dX4_earliestEnd_7 : decode cX4_earliestEnd 7 = .ok (.iload_n 1, 1) := by decide +kernel
theorem dX4_earliestEnd_8 : decode cX4_earliestEnd 8 = .ok (.iaload, 1) := by decide +kernel
theorem dX4_earliestEnd_9 : decode cX4_earliestEnd 9 = .ok (.aload_n 0, 1) := by decide +kernel
theorem dX4_earliestEnd_10 : decode cX4_earliestEnd 10 = .ok (.getfield 15, 3) := by decide +kernel
theorem dX4_earliestEnd_13 : decode cX4_earliestEnd 13 = .ok (.aload_n 0, 1) := by decide +kernel
theorem dX4_earliestEnd_14 : decode cX4_earliestEnd 14 = .ok (.getfield 18, 3) := by decide +kernel
theorem dX4_earliestEnd_17 : decode cX4_earliestEnd 17 = .ok (.getfield 27, 3) := by decide +kernel
theorem dX4_earliestEnd_20 : decode cX4_earliestEnd 20 = .ok (.iload_n 1, 1) := by decide +kernel
theorem dX4_earliestEnd_21 : decode cX4_earliestEnd 21 = .ok (.iaload, 1) := by decide +kernel
theorem dX4_earliestEnd_22 : decode cX4_earliestEnd 22 = .ok (.iaload, 1) := by decide +kernel
theorem dX4_earliestEnd_23 : decode cX4_earliestEnd 23 = .ok (.invokestatic 30, 3) := by decide +kernel
theorem dX4_earliestEnd_26 : decode cX4_earliestEnd 26 = .ok (.istore_n 3, 1) := by decide +kernel
theorem dX4_earliestEnd_27 : decode cX4_earliestEnd 27 = .ok (.aload_n 0, 1) := by decide +kernel
theorem dX4_earliestEnd_28 : decode cX4_earliestEnd 28 = .ok (.getfield 18, 3) := by decide +kernel
theorem dX4_earliestEnd_31 : decode cX4_earliestEnd 31 = .ok (.getfield 36, 3) := by decide +kernel
theorem dX4_earliestEnd_34 : decode cX4_earliestEnd 34 = .ok (.iload_n 1, 1) := by decide +kernel
theorem dX4_earliestEnd_35 : decode cX4_earliestEnd 35 = .ok (.iaload, 1) := by decide +kernel
theorem dX4_earliestEnd_36 : decode cX4_earliestEnd 36 = .ok (.iload_n 2, 1) := by decide +kernel
theorem dX4_earliestEnd_37 : decode cX4_earliestEnd 37 = .ok (.iand, 1) := by decide +kernel
theorem dX4_earliestEnd_38 : decode cX4_earliestEnd 38 = .ok (.istore 4, 2) := by decide +kernel
theorem dX4_earliestEnd_40 : decode cX4_earliestEnd 40 = .ok (.iconst 0, 1) := by decide +kernel
theorem dX4_earliestEnd_41 : decode cX4_earliestEnd 41 = .ok (.istore 5, 2) := by decide +kernel
theorem dX4_earliestEnd_43 : decode cX4_earliestEnd 43 = .ok (.iload 5, 2) := by decide +kernel
theorem dX4_earliestEnd_45 : decode cX4_earliestEnd 45 = .ok (.aload_n 0, 1) := by decide +kernel
theorem dX4_earliestEnd_46 : decode cX4_earliestEnd 46 = .ok (.getfield 18, 3) := by decide +kernel
theorem dX4_earliestEnd_49 : decode cX4_earliestEnd 49 = .ok (.getfield 39, 3) := by decide +kernel
theorem dX4_earliestEnd_52 : decode cX4_earliestEnd 52 = .ok (.if_icmp .ge 31, 3) := by decide +kernel
theorem dX4_earliestEnd_55 : decode cX4_earliestEnd 55 = .ok (.iload 4, 2) := by decide +kernel
theorem dX4_earliestEnd_57 : decode cX4_earliestEnd 57 = .ok (.iload 5, 2) := by decide +kernel
theorem dX4_earliestEnd_59 : decode cX4_earliestEnd 59 = .ok (.invokestatic 43, 3) := by decide +kernel
theorem dX4_earliestEnd_62 : decode cX4_earliestEnd 62 = .ok (.ifCond .eq 15, 3) := by decide +kernel
theorem dX4_earliestEnd_65 : decode cX4_earliestEnd 65 = .ok (.iload_n 3, 1) := by decide +kernel
theorem dX4_earliestEnd_66 : decode cX4_earliestEnd 66 = .ok (.aload_n 0, 1) := by decide +kernel
theorem dX4_earliestEnd_67 : decode cX4_earliestEnd 67 = .ok (.getfield 9, 3) := by decide +kernel
theorem dX4_earliestEnd_70 : decode cX4_earliestEnd 70 = .ok (.iload 5, 2) := by decide +kernel
theorem dX4_earliestEnd_72 : decode cX4_earliestEnd 72 = .ok (.iaload, 1) := by decide +kernel
theorem dX4_earliestEnd_73 : decode cX4_earliestEnd 73 = .ok (.invokestatic 30, 3) := by decide +kernel
theorem dX4_earliestEnd_76 : decode cX4_earliestEnd 76 = .ok (.istore_n 3, 1) := by decide +kernel
theorem dX4_earliestEnd_77 : decode cX4_earliestEnd 77 = .ok (.iinc 5 1, 3) := by decide +kernel
theorem dX4_earliestEnd_80 : decode cX4_earliestEnd 80 = .ok (.goto (-37), 3) := by decide +kernel
theorem dX4_earliestEnd_83 : decode cX4_earliestEnd 83 = .ok (.iload_n 3, 1) := by decide +kernel
theorem dX4_earliestEnd_84 : decode cX4_earliestEnd 84 = .ok (.aload_n 0, 1) := by decide +kernel
theorem dX4_earliestEnd_85 : decode cX4_earliestEnd 85 = .ok (.getfield 18, 3) := by decide +kernel
theorem dX4_earliestEnd_88 : decode cX4_earliestEnd 88 = .ok (.getfield 47, 3) := by decide +kernel
theorem dX4_earliestEnd_91 : decode cX4_earliestEnd 91 = .ok (.iload_n 1, 1) := by decide +kernel
theorem dX4_earliestEnd_92 : decode cX4_earliestEnd 92 = .ok (.iaload, 1) := by decide +kernel
theorem dX4_earliestEnd_93 : decode cX4_earliestEnd 93 = .ok (.iadd, 1) := by decide +kernel
theorem dX4_earliestEnd_94 : decode cX4_earliestEnd 94 = .ok (.ireturn, 1) := by decide +kernel
theorem dX4_place_0 : decode cX4_place 0 = .ok (.aload_n 0, 1) := by decide +kernel
theorem dX4_place_1 : decode cX4_place 1 = .ok (.getfield 9, 3) := by decide +kernel
theorem dX4_place_4 : decode cX4_place 4 = .ok (.iload_n 1, 1) := by decide +kernel
theorem dX4_place_5 : decode cX4_place 5 = .ok (.iload_n 2, 1) := by decide +kernel
theorem dX4_place_6 : decode cX4_place 6 = .ok (.iastore, 1) := by decide +kernel
theorem dX4_place_7 : decode cX4_place 7 = .ok (.aload_n 0, 1) := by decide +kernel
theorem dX4_place_8 : decode cX4_place 8 = .ok (.getfield 15, 3) := by decide +kernel
theorem dX4_place_11 : decode cX4_place 11 = .ok (.aload_n 0, 1) := by decide +kernel
theorem dX4_place_12 : decode cX4_place 12 = .ok (.getfield 18, 3) := by decide +kernel
theorem dX4_place_15 : decode cX4_place 15 = .ok (.getfield 27, 3) := by decide +kernel
theorem dX4_place_18 : decode cX4_place 18 = .ok (.iload_n 1, 1) := by decide +kernel
theorem dX4_place_19 : decode cX4_place 19 = .ok (.iaload, 1) := by decide +kernel
theorem dX4_place_20 : decode cX4_place 20 = .ok (.iload_n 2, 1) := by decide +kernel
theorem dX4_place_21 : decode cX4_place 21 = .ok (.iastore, 1) := by decide +kernel
theorem dX4_place_22 : decode cX4_place 22 = .ok (.return_, 1) := by decide +kernel
theorem dX4_latestEnd_0 : decode cX4_latestEnd 0 = .ok (.iconst 0, 1) := by decide +kernel
theorem dX4_latestEnd_1 : decode cX4_latestEnd 1 = .ok (.istore_n 1, 1) := by decide +kernel
theorem dX4_latestEnd_2 : decode cX4_latestEnd 2 = .ok (.iconst 0, 1) := by decide +kernel
theorem dX4_latestEnd_3 : decode cX4_latestEnd 3 = .ok (.istore_n 2, 1) := by decide +kernel
theorem dX4_latestEnd_4 : decode cX4_latestEnd 4 = .ok (.iload_n 2, 1) := by decide +kernel
theorem dX4_latestEnd_5 : decode cX4_latestEnd 5 = .ok (.iconst 3, 1) := by decide +kernel
theorem dX4_latestEnd_6 : decode cX4_latestEnd 6 = .ok (.if_icmp .ge 20, 3) := by decide +kernel
theorem dX4_latestEnd_9 : decode cX4_latestEnd 9 = .ok (.iload_n 1, 1) := by decide +kernel
theorem dX4_latestEnd_10 : decode cX4_latestEnd 10 = .ok (.aload_n 0, 1) := by decide +kernel
theorem dX4_latestEnd_11 : decode cX4_latestEnd 11 = .ok (.getfield 15, 3) := by decide +kernel
theorem dX4_latestEnd_14 : decode cX4_latestEnd 14 = .ok (.iload_n 2, 1) := by decide +kernel
theorem dX4_latestEnd_15 : decode cX4_latestEnd 15 = .ok (.iaload, 1) := by decide +kernel
theorem dX4_latestEnd_16 : decode cX4_latestEnd 16 = .ok (.invokestatic 30, 3) := by decide +kernel
theorem dX4_latestEnd_19 : decode cX4_latestEnd 19 = .ok (.istore_n 1, 1) := by decide +kernel
theorem dX4_latestEnd_20 : decode cX4_latestEnd 20 = .ok (.iinc 2 1, 3) := by decide +kernel
theorem dX4_latestEnd_23 : decode cX4_latestEnd 23 = .ok (.goto (-19), 3) := by decide +kernel
theorem dX4_latestEnd_26 : decode cX4_latestEnd 26 = .ok (.iload_n 1, 1) := by decide +kernel
theorem dX4_latestEnd_27 : decode cX4_latestEnd 27 = .ok (.ireturn, 1) := by decide +kernel
theorem dX5_init_0 : decode cX5_init 0 = .ok (.aload_n 0, 1) := by decide +kernel
theorem dX5_init_1 : decode cX5_init 1 = .ok (.invokespecial 3, 3) := by decide +kernel
theorem dX5_init_4 : decode cX5_init 4 = .ok (.aload_n 0, 1) := by decide +kernel
theorem dX5_init_5 : decode cX5_init 5 = .ok (.iconst 1, 1) := by decide +kernel
theorem dX5_init_6 : decode cX5_init 6 = .ok (.putfield 9, 3) := by decide +kernel
theorem dX5_init_9 : decode cX5_init 9 = .ok (.aload_n 0, 1) := by decide +kernel
theorem dX5_init_10 : decode cX5_init 10 = .ok (.iconst 0, 1) := by decide +kernel
theorem dX5_init_11 : decode cX5_init 11 = .ok (.putfield 15, 3) := by decide +kernel
theorem dX5_init_14 : decode cX5_init 14 = .ok (.aload_n 0, 1) := by decide +kernel
theorem dX5_init_15 : decode cX5_init 15 = .ok (.bipush 8, 2) := by decide +kernel
theorem dX5_init_17 : decode cX5_init 17 = .ok (.newarray .int, 2) := by decide +kernel
theorem dX5_init_19 : decode cX5_init 19 = .ok (.putfield 18, 3) := by decide +kernel
theorem dX5_init_22 : decode cX5_init 22 = .ok (.aload_n 0, 1) := by decide +kernel
theorem dX5_init_23 : decode cX5_init 23 = .ok (.bipush 8, 2) := by decide +kernel
theorem dX5_init_25 : decode cX5_init 25 = .ok (.newarray .int, 2) := by decide +kernel
theorem dX5_init_27 : decode cX5_init 27 = .ok (.putfield 22, 3) := by decide +kernel
theorem dX5_init_30 : decode cX5_init 30 = .ok (.aload_n 0, 1) := by decide +kernel
theorem dX5_init_31 : decode cX5_init 31 = .ok (.bipush 8, 2) := by decide +kernel
theorem dX5_init_33 : decode cX5_init 33 = .ok (.newarray .int, 2) := by decide +kernel
theorem dX5_init_35 : decode cX5_init 35 = .ok (.putfield 25, 3) := by decide +kernel
theorem dX5_init_38 : decode cX5_init 38 = .ok (.aload_n 0, 1) := by decide +kernel
theorem dX5_init_39 : decode cX5_init 39 = .ok (.bipush 8, 2) := by decide +kernel
theorem dX5_init_41 : decode cX5_init 41 = .ok (.newarray .int, 2) := by decide +kernel
theorem dX5_init_43 : decode cX5_init 43 = .ok (.putfield 28, 3) := by decide +kernel
theorem dX5_init_46 : decode cX5_init 46 = .ok (.aload_n 0, 1) := by decide +kernel
theorem dX5_init_47 : decode cX5_init 47 = .ok (.bipush 8, 2) := by decide +kernel
theorem dX5_init_49 : decode cX5_init 49 = .ok (.newarray .int, 2) := by decide +kernel
theorem dX5_init_51 : decode cX5_init 51 = .ok (.putfield 31, 3) := by decide +kernel
theorem dX5_init_54 : decode cX5_init 54 = .ok (.aload_n 0, 1) := by decide +kernel
theorem dX5_init_55 : decode cX5_init 55 = .ok (.bipush 8, 2) := by decide +kernel
theorem dX5_init_57 : decode cX5_init 57 = .ok (.newarray .int, 2) := by decide +kernel
theorem dX5_init_59 : decode cX5_init 59 = .ok (.putfield 34, 3) := by decide +kernel
theorem dX5_init_62 : decode cX5_init 62 = .ok (.return_, 1) := by decide +kernel
theorem dX5_clear_0 : decode cX5_clear 0 = .ok (.aload_n 0, 1) := by decide +kernel
theorem dX5_clear_1 : decode cX5_clear 1 = .ok (.iload_n 1, 1) := by decide +kernel
theorem dX5_clear_2 : decode cX5_clear 2 = .ok (.putfield 9, 3) := by decide +kernel
theorem dX5_clear_5 : decode cX5_clear 5 = .ok (.aload_n 0, 1) := by decide +kernel
theorem dX5_clear_6 : decode cX5_clear 6 = .ok (.iconst 0, 1) := by decide +kernel
theorem dX5_clear_7 : decode cX5_clear 7 = .ok (.putfield 15, 3) := by decide +kernel
theorem dX5_clear_10 : decode cX5_clear 10 = .ok (.return_, 1) := by decide +kernel
theorem dX5_copyFrom_0 : decode cX5_copyFrom 0 = .ok (.aload_n 0, 1) := by decide +kernel
theorem dX5_copyFrom_1 : decode cX5_copyFrom 1 = .ok (.aload_n 1, 1) := by decide +kernel
theorem dX5_copyFrom_2 : decode cX5_copyFrom 2 = .ok (.getfield 9, 3) := by decide +kernel
theorem dX5_copyFrom_5 : decode cX5_copyFrom 5 = .ok (.putfield 9, 3) := by decide +kernel
theorem dX5_copyFrom_8 : decode cX5_copyFrom 8 = .ok (.aload_n 0, 1) := by decide +kernel
theorem dX5_copyFrom_9 : decode cX5_copyFrom 9 = .ok (.aload_n 1, 1) := by decide +kernel
theorem dX5_copyFrom_10 : decode cX5_copyFrom 10 = .ok (.getfield 15, 3) := by decide +kernel
theorem dX5_copyFrom_13 : decode cX5_copyFrom 13 = .ok (.putfield 15, 3) := by decide +kernel
theorem dX5_copyFrom_16 : decode cX5_copyFrom 16 = .ok (.iconst 0, 1) := by decide +kernel
theorem dX5_copyFrom_17 : decode cX5_copyFrom 17 = .ok (.istore_n 2, 1) := by decide +kernel
theorem dX5_copyFrom_18 : decode cX5_copyFrom 18 = .ok (.iload_n 2, 1) := by decide +kernel
theorem dX5_copyFrom_19 : decode cX5_copyFrom 19 = .ok (.bipush 8, 2) := by decide +kernel
theorem dX5_copyFrom_21 : decode cX5_copyFrom 21 = .ok (.if_icmp .ge 81, 3) := by decide +kernel
theorem dX5_copyFrom_24 : decode cX5_copyFrom 24 = .ok (.aload_n 0, 1) := by decide +kernel
theorem dX5_copyFrom_25 : decode cX5_copyFrom 25 = .ok (.getfield 18, 3) := by decide +kernel
theorem dX5_copyFrom_28 : decode cX5_copyFrom 28 = .ok (.iload_n 2, 1) := by decide +kernel
theorem dX5_copyFrom_29 : decode cX5_copyFrom 29 = .ok (.aload_n 1, 1) := by decide +kernel
theorem dX5_copyFrom_30 : decode cX5_copyFrom 30 = .ok (.getfield 18, 3) := by decide +kernel
theorem dX5_copyFrom_33 : decode cX5_copyFrom 33 = .ok (.iload_n 2, 1) := by decide +kernel
theorem dX5_copyFrom_34 : decode cX5_copyFrom 34 = .ok (.iaload, 1) := by decide +kernel
theorem dX5_copyFrom_35 : decode cX5_copyFrom 35 = .ok (.iastore, 1) := by decide +kernel
theorem dX5_copyFrom_36 : decode cX5_copyFrom 36 = .ok (.aload_n 0, 1) := by decide +kernel
theorem dX5_copyFrom_37 : decode cX5_copyFrom 37 = .ok (.getfield 22, 3) := by decide +kernel
theorem dX5_copyFrom_40 : decode cX5_copyFrom 40 = .ok (.iload_n 2, 1) := by decide +kernel
theorem dX5_copyFrom_41 : decode cX5_copyFrom 41 = .ok (.aload_n 1, 1) := by decide +kernel
theorem dX5_copyFrom_42 : decode cX5_copyFrom 42 = .ok (.getfield 22, 3) := by decide +kernel
theorem dX5_copyFrom_45 : decode cX5_copyFrom 45 = .ok (.iload_n 2, 1) := by decide +kernel
theorem dX5_copyFrom_46 : decode cX5_copyFrom 46 = .ok (.iaload, 1) := by decide +kernel
theorem dX5_copyFrom_47 : decode cX5_copyFrom 47 = .ok (.iastore, 1) := by decide +kernel
theorem dX5_copyFrom_48 : decode cX5_copyFrom 48 = .ok (.aload_n 0, 1) := by decide +kernel
theorem dX5_copyFrom_49 : decode cX5_copyFrom 49 = .ok (.getfield 25, 3) := by decide +kernel
theorem dX5_copyFrom_52 : decode cX5_copyFrom 52 = .ok (.iload_n 2, 1) := by decide +kernel
theorem dX5_copyFrom_53 : decode cX5_copyFrom 53 = .ok (.aload_n 1, 1) := by decide +kernel
theorem dX5_copyFrom_54 : decode cX5_copyFrom 54 = .ok (.getfield 25, 3) := by decide +kernel
theorem dX5_copyFrom_57 : decode cX5_copyFrom 57 = .ok (.iload_n 2, 1) := by decide +kernel
theorem dX5_copyFrom_58 : decode cX5_copyFrom 58 = .ok (.iaload, 1) := by decide +kernel
theorem dX5_copyFrom_59 : decode cX5_copyFrom 59 = .ok (.iastore, 1) := by decide +kernel
theorem dX5_copyFrom_60 : decode cX5_copyFrom 60 = .ok (.aload_n 0, 1) := by decide +kernel
theorem dX5_copyFrom_61 : decode cX5_copyFrom 61 = .ok (.getfield 28, 3) := by decide +kernel
theorem dX5_copyFrom_64 : decode cX5_copyFrom 64 = .ok (.iload_n 2, 1) := by decide +kernel
theorem dX5_copyFrom_65 : decode cX5_copyFrom 65 = .ok (.aload_n 1, 1) := by decide +kernel
theorem dX5_copyFrom_66 : decode cX5_copyFrom 66 = .ok (.getfield 28, 3) := by decide +kernel
theorem dX5_copyFrom_69 : decode cX5_copyFrom 69 = .ok (.iload_n 2, 1) := by decide +kernel
theorem dX5_copyFrom_70 : decode cX5_copyFrom 70 = .ok (.iaload, 1) := by decide +kernel
theorem dX5_copyFrom_71 : decode cX5_copyFrom 71 = .ok (.iastore, 1) := by decide +kernel
theorem dX5_copyFrom_72 : decode cX5_copyFrom 72 = .ok (.aload_n 0, 1) := by decide +kernel
theorem dX5_copyFrom_73 : decode cX5_copyFrom 73 = .ok (.getfield 31, 3) := by decide +kernel
theorem dX5_copyFrom_76 : decode cX5_copyFrom 76 = .ok (.iload_n 2, 1) := by decide +kernel
theorem dX5_copyFrom_77 : decode cX5_copyFrom 77 = .ok (.aload_n 1, 1) := by decide +kernel
theorem dX5_copyFrom_78 : decode cX5_copyFrom 78 = .ok (.getfield 31, 3) := by decide +kernel
theorem dX5_copyFrom_81 : decode cX5_copyFrom 81 = .ok (.iload_n 2, 1) := by decide +kernel
theorem dX5_copyFrom_82 : decode cX5_copyFrom 82 = .ok (.iaload, 1) := by decide +kernel
theorem dX5_copyFrom_83 : decode cX5_copyFrom 83 = .ok (.iastore, 1) := by decide +kernel
theorem dX5_copyFrom_84 : decode cX5_copyFrom 84 = .ok (.aload_n 0, 1) := by decide +kernel
theorem dX5_copyFrom_85 : decode cX5_copyFrom 85 = .ok (.getfield 34, 3) := by decide +kernel
theorem dX5_copyFrom_88 : decode cX5_copyFrom 88 = .ok (.iload_n 2, 1) := by decide +kernel
theorem dX5_copyFrom_89 : decode cX5_copyFrom 89 = .ok (.aload_n 1, 1) := by decide +kernel
theorem dX5_copyFrom_90 : decode cX5_copyFrom 90 = .ok (.getfield 34, 3) := by decide +kernel
theorem dX5_copyFrom_93 : decode cX5_copyFrom 93 = .ok (.iload_n 2, 1) := by decide +kernel
theorem dX5_copyFrom_94 : decode cX5_copyFrom 94 = .ok (.iaload, 1) := by decide +kernel
theorem dX5_copyFrom_95 : decode cX5_copyFrom 95 = .ok (.iastore, 1) := by decide +kernel
theorem dX5_copyFrom_96 : decode cX5_copyFrom 96 = .ok (.iinc 2 1, 3) := by decide +kernel
theorem dX5_copyFrom_99 : decode cX5_copyFrom 99 = .ok (.goto (-81), 3) := by decide +kernel
theorem dX5_copyFrom_102 : decode cX5_copyFrom 102 = .ok (.return_, 1) := by decide +kernel
theorem dX5_has_0 : decode cX5_has 0 = .ok (.iload_n 1, 1) := by decide +kernel
theorem dX5_has_1 : decode cX5_has 1 = .ok (.ifCond .lt 15, 3) := by decide +kernel
theorem dX5_has_4 : decode cX5_has 4 = .ok (.iload_n 1, 1) := by decide +kernel
theorem dX5_has_5 : decode cX5_has 5 = .ok (.aload_n 0, 1) := by decide +kernel
theorem dX5_has_6 : decode cX5_has 6 = .ok (.getfield 15, 3) := by decide +kernel
theorem dX5_has_9 : decode cX5_has 9 = .ok (.if_icmp .ge 7, 3) := by decide +kernel
theorem dX5_has_12 : decode cX5_has 12 = .ok (.iconst 1, 1) := by decide +kernel
theorem dX5_has_13 : decode cX5_has 13 = .ok (.goto 4, 3) := by decide +kernel
theorem dX5_has_16 : decode cX5_has 16 = .ok (.iconst 0, 1) := by decide +kernel
theorem dX5_has_17 : decode cX5_has 17 = .ok (.ireturn, 1) := by decide +kernel
theorem dX5_areDates_0 : decode cX5_areDates 0 = .ok (.iload_n 1, 1) := by decide +kernel
theorem dX5_areDates_1 : decode cX5_areDates 1 = .ok (.ifCond .lt 26, 3) := by decide +kernel
theorem dX5_areDates_4 : decode cX5_areDates 4 = .ok (.iload_n 1, 1) := by decide +kernel
theorem dX5_areDates_5 : decode cX5_areDates 5 = .ok (.sipush 200, 3) := by decide +kernel
theorem dX5_areDates_8 : decode cX5_areDates 8 = .ok (.if_icmp .gt 19, 3) := by decide +kernel
theorem dX5_areDates_11 : decode cX5_areDates 11 = .ok (.iload_n 2, 1) := by decide +kernel
theorem dX5_areDates_12 : decode cX5_areDates 12 = .ok (.iconst 1, 1) := by decide +kernel
theorem dX5_areDates_13 : decode cX5_areDates 13 = .ok (.if_icmp .lt 14, 3) := by decide +kernel
theorem dX5_areDates_16 : decode cX5_areDates 16 = .ok (.iload_n 2, 1) := by decide +kernel
theorem dX5_areDates_17 : decode cX5_areDates 17 = .ok (.sipush 400, 3) := by decide +kernel
theorem dX5_areDates_20 : decode cX5_areDates 20 = .ok (.if_icmp .gt 7, 3) := by decide +kernel
theorem dX5_areDates_23 : decode cX5_areDates 23 = .ok (.iconst 1, 1) := by decide +kernel
theorem dX5_areDates_24 : decode cX5_areDates 24 = .ok (.goto 4, 3) := by decide +kernel
theorem dX5_areDates_27 : decode cX5_areDates 27 = .ok (.iconst 0, 1) := by decide +kernel
theorem dX5_areDates_28 : decode cX5_areDates 28 = .ok (.ireturn, 1) := by decide +kernel
set_option maxRecDepth 20000 in
theorem ggX5_faultOfAdding_X5_areDates : GoodIn wsX5_faultOfAdding wsX5_areDates := goodIn_r _ [7] (by decide +kernel) (by decide +kernel)
set_option maxRecDepth 20000 in
theorem gX5_faultOfAdding_X5_areDates : GoodIn wsX5_faultOfAdding (wsV RX5 37 RX5 yX5_areDates wsX5_areDates) := goodIn_app (goodIn_of _ (by decide +kernel)) ggX5_faultOfAdding_X5_areDates
theorem dX5_faultOfAdding_0 : decode cX5_faultOfAdding 0 = .ok (.iload_n 1, 1) := by decide +kernel
theorem dX5_faultOfAdding_1 : decode cX5_faultOfAdding 1 = .ok (.ifCond .lt 11, 3) := by decide +kernel
theorem dX5_faultOfAdding_4 : decode cX5_faultOfAdding 4 = .ok (.iload_n 1, 1) := by decide +kernel
theorem dX5_faultOfAdding_5 : decode cX5_faultOfAdding 5 = .ok (.aload_n 0, 1) := by decide +kernel
theorem dX5_faultOfAdding_6 : decode cX5_faultOfAdding 6 = .ok (.getfield 9, 3) := by decide +kernel
theorem dX5_faultOfAdding_9 : decode cX5_faultOfAdding 9 = .ok (.if_icmp .lt 5, 3) := by decide +kernel
theorem dX5_faultOfAdding_12 : decode cX5_faultOfAdding 12 = .ok (.iconst 1, 1) := by decide +kernel
theorem dX5_faultOfAdding_13 : decode cX5_faultOfAdding 13 = .ok (.ireturn, 1) := by decide +kernel
theorem dX5_faultOfAdding_14 : decode cX5_faultOfAdding 14 = .ok (.aload_n 0, 1) := by decide +kernel
theorem dX5_faultOfAdding_15 : decode cX5_faultOfAdding 15 = .ok (.iload_n 2, 1) := by decide +kernel
theorem dX5_faultOfAdding_16 : decode cX5_faultOfAdding 16 = .ok (.iload_n 3, 1) := by decide +kernel
theorem dX5_faultOfAdding_17 : decode cX5_faultOfAdding 17 = .ok (.invokevirtual 37, 3) := by decide +kernel
theorem dX5_faultOfAdding_20 : decode cX5_faultOfAdding 20 = .ok (.ifCond .eq 16, 3) := by decide +kernel
theorem dX5_faultOfAdding_23 : decode cX5_faultOfAdding 23 = .ok (.iload 4, 2) := by decide +kernel
theorem dX5_faultOfAdding_25 : decode cX5_faultOfAdding 25 = .ok (.iconst 1, 1) := by decide +kernel
theorem dX5_faultOfAdding_26 : decode cX5_faultOfAdding 26 = .ok (.if_icmp .lt 10, 3) := by decide +kernel
theorem dX5_faultOfAdding_29 : decode cX5_faultOfAdding 29 = .ok (.iload 4, 2) := by decide +kernel
theorem dX5_faultOfAdding_31 : decode cX5_faultOfAdding 31 = .ok (.bipush 50, 2) := by decide +kernel
theorem dX5_faultOfAdding_33 : decode cX5_faultOfAdding 33 = .ok (.if_icmp .le 5, 3) := by decide +kernel
theorem dX5_faultOfAdding_36 : decode cX5_faultOfAdding 36 = .ok (.iconst 2, 1) := by decide +kernel
theorem dX5_faultOfAdding_37 : decode cX5_faultOfAdding 37 = .ok (.ireturn, 1) := by decide +kernel
theorem dX5_faultOfAdding_38 : decode cX5_faultOfAdding 38 = .ok (.aload_n 0, 1) := by decide +kernel
theorem dX5_faultOfAdding_39 : decode cX5_faultOfAdding 39 = .ok (.getfield 15, 3) := by decide +kernel
theorem dX5_faultOfAdding_42 : decode cX5_faultOfAdding 42 = .ok (.bipush 8, 2) := by decide +kernel
theorem dX5_faultOfAdding_44 : decode cX5_faultOfAdding 44 = .ok (.if_icmp .lt 7, 3) := by decide +kernel
theorem dX5_faultOfAdding_47 : decode cX5_faultOfAdding 47 = .ok (.iconst 3, 1) := by decide +kernel
theorem dX5_faultOfAdding_48 : decode cX5_faultOfAdding 48 = .ok (.goto 4, 3) := by decide +kernel
theorem dX5_faultOfAdding_51 : decode cX5_faultOfAdding 51 = .ok (.iconst 0, 1) := by decide +kernel
theorem dX5_faultOfAdding_52 : decode cX5_faultOfAdding 52 = .ok (.ireturn, 1) := by decide +kernel
theorem dX5_add_0 : decode cX5_add 0 = .ok (.aload_n 0, 1) := by decide +kernel
theorem dX5_add_1 : decode cX5_add 1 = .ok (.getfield 15, 3) := by decide +kernel
theorem dX5_add_4 : decode cX5_add 4 = .ok (.bipush 8, 2) := by decide +kernel
theorem dX5_add_6 : decode cX5_add 6 = .ok (.if_icmp .lt 4, 3) := by decide +kernel
theorem dX5_add_9 : decode cX5_add 9 = .ok (.return_, 1) := by decide +kernel
theorem dX5_add_10 : decode cX5_add 10 = .ok (.aload_n 0, 1) := by decide +kernel
theorem dX5_add_11 : decode cX5_add 11 = .ok (.getfield 18, 3) := by decide +kernel
theorem dX5_add_14 : decode cX5_add 14 = .ok (.aload_n 0, 1) := by decide +kernel
theorem dX5_add_15 : decode cX5_add 15 = .ok (.getfield 15, 3) := by decide +kernel
theorem dX5_add_18 : decode cX5_add 18 = .ok (.iload_n 1, 1) := by decide +kernel
theorem dX5_add_19 : decode cX5_add 19 = .ok (.iastore, 1) := by decide +kernel
theorem dX5_add_20 : decode cX5_add 20 = .ok (.aload_n 0, 1) := by decide +kernel
theorem dX5_add_21 : decode cX5_add 21 = .ok (.getfield 22, 3) := by decide +kernel
theorem dX5_add_24 : decode cX5_add 24 = .ok (.aload_n 0, 1) := by decide +kernel
theorem dX5_add_25 : decode cX5_add 25 = .ok (.getfield 15, 3) := by decide +kernel
theorem dX5_add_28 : decode cX5_add 28 = .ok (.iload_n 2, 1) := by decide +kernel
theorem dX5_add_29 : decode cX5_add 29 = .ok (.iastore, 1) := by decide +kernel
theorem dX5_add_30 : decode cX5_add 30 = .ok (.aload_n 0, 1) := by decide +kernel
theorem dX5_add_31 : decode cX5_add 31 = .ok (.getfield 25, 3) := by decide +kernel
theorem dX5_add_34 : decode cX5_add 34 = .ok (.aload_n 0, 1) := by decide +kernel
theorem dX5_add_35 : decode cX5_add 35 = .ok (.getfield 15, 3) := by decide +kernel
theorem dX5_add_38 : decode cX5_add 38 = .ok (.iload_n 3, 1) := by decide +kernel
theorem dX5_add_39 : decode cX5_add 39 = .ok (.iastore, 1) := by decide +kernel
theorem dX5_add_40 : decode cX5_add 40 = .ok (.aload_n 0, 1) := by decide +kernel
theorem dX5_add_41 : decode cX5_add 41 = .ok (.getfield 28, 3) := by decide +kernel
theorem dX5_add_44 : decode cX5_add 44 = .ok (.aload_n 0, 1) := by decide +kernel
theorem dX5_add_45 : decode cX5_add 45 = .ok (.getfield 15, 3) := by decide +kernel
theorem dX5_add_48 : decode cX5_add 48 = .ok (.iload 4, 2) := by decide +kernel
theorem dX5_add_50 : decode cX5_add 50 = .ok (.iastore, 1) := by decide +kernel
theorem dX5_add_51 : decode cX5_add 51 = .ok (.aload_n 0, 1) := by decide +kernel
theorem dX5_add_52 : decode cX5_add 52 = .ok (.getfield 31, 3) := by decide +kernel
theorem dX5_add_55 : decode cX5_add 55 = .ok (.aload_n 0, 1) := by decide +kernel
theorem dX5_add_56 : decode cX5_add 56 = .ok (.getfield 15, 3) := by decide +kernel
theorem dX5_add_59 : decode cX5_add 59 = .ok (.iconst 0, 1) := by decide +kernel
theorem dX5_add_60 : decode cX5_add 60 = .ok (.iastore, 1) := by decide +kernel
theorem dX5_add_61 : decode cX5_add 61 = .ok (.aload_n 0, 1) := by decide +kernel
theorem dX5_add_62 : decode cX5_add 62 = .ok (.getfield 34, 3) := by decide +kernel
theorem dX5_add_65 : decode cX5_add 65 = .ok (.aload_n 0, 1) := by decide +kernel
theorem dX5_add_66 : decode cX5_add 66 = .ok (.getfield 15, 3) := by decide +kernel
theorem dX5_add_69 : decode cX5_add 69 = .ok (.iconst 0, 1) := by decide +kernel
theorem dX5_add_70 : decode cX5_add 70 = .ok (.iastore, 1) := by decide +kernel
theorem dX5_add_71 : decode cX5_add 71 = .ok (.aload_n 0, 1) := by decide +kernel
theorem dX5_add_72 : decode cX5_add 72 = .ok (.dup, 1) := by decide +kernel
theorem dX5_add_73 : decode cX5_add 73 = .ok (.getfield 15, 3) := by decide +kernel
theorem dX5_add_76 : decode cX5_add 76 = .ok (.iconst 1, 1) := by decide +kernel
theorem dX5_add_77 : decode cX5_add 77 = .ok (.iadd, 1) := by decide +kernel
theorem dX5_add_78 : decode cX5_add 78 = .ok (.putfield 15, 3) := by decide +kernel
theorem dX5_add_81 : decode cX5_add 81 = .ok (.return_, 1) := by decide +kernel
set_option maxRecDepth 20000 in
theorem ggX5_faultOfGiving_X5_has : GoodIn wsX5_faultOfGiving wsX5_has := goodIn_r _ [5, 6, 19, 20, 21, 22, 23, 24, 25, 26] (by decide +kernel) (by decide +kernel)
set_option maxRecDepth 20000 in
theorem gX5_faultOfGiving_X5_has : GoodIn wsX5_faultOfGiving (wsV RX5 41 RX5 yX5_has wsX5_has) := goodIn_app (goodIn_of _ (by decide +kernel)) ggX5_faultOfGiving_X5_has
set_option maxRecDepth 20000 in
theorem ggX5_faultOfGiving_X5_isGiven : GoodIn wsX5_faultOfGiving wsX5_isGiven := goodIn_r _ [10, 11, 12, 13, 14, 19, 20, 21, 22, 23, 24, 25, 26] (by decide +kernel) (by decide +kernel)
set_option maxRecDepth 20000 in
theorem gX5_faultOfGiving_X5_isGiven : GoodIn wsX5_faultOfGiving (wsV RX5 45 RX5 yX5_isGiven wsX5_isGiven) := goodIn_app (goodIn_of _ (by decide +kernel)) ggX5_faultOfGiving_X5_isGiven
set_option maxRecDepth 20000 in
theorem ggX5_faultOfGiving_X5_leads : GoodIn wsX5_faultOfGiving wsX5_leads := goodIn_r _ [18, 11, 6, 12, 13, 14, 19, 20, 21, 22, 23, 24, 25, 26] (by decide +kernel) (by decide +kernel)
set_option maxRecDepth 20000 in
theorem gX5_faultOfGiving_X5_leads : GoodIn wsX5_faultOfGiving (wsV RX5 48 RX5 yX5_leads wsX5_leads) := goodIn_app (goodIn_of _ (by decide +kernel)) ggX5_faultOfGiving_X5_leads
theorem dX5_faultOfGiving_0 : decode cX5_faultOfGiving 0 = .ok (.aload_n 0, 1) := by decide +kernel
theorem dX5_faultOfGiving_1 : decode cX5_faultOfGiving 1 = .ok (.iload_n 1, 1) := by decide +kernel
theorem dX5_faultOfGiving_2 : decode cX5_faultOfGiving 2 = .ok (.invokevirtual 41, 3) := by decide +kernel
theorem dX5_faultOfGiving_5 : decode cX5_faultOfGiving 5 = .ok (.ifCond .eq 11, 3) := by decide +kernel
theorem dX5_faultOfGiving_8 : decode cX5_faultOfGiving 8 = .ok (.aload_n 0, 1) := by decide +kernel
theorem dX5_faultOfGiving_9 : decode cX5_faultOfGiving 9 = .ok (.iload_n 2, 1) := by decide +kernel
theorem dX5_faultOfGiving_10 : decode cX5_faultOfGiving 10 = .ok (.invokevirtual 41, 3) := by decide +kernel
theorem dX5_faultOfGiving_13 : decode cX5_faultOfGiving 13 = .ok (.ifCond .ne 5, 3) := by decide +kernel
theorem dX5_faultOfGiving_16 : decode cX5_faultOfGiving 16 = .ok (.iconst 1, 1) := by decide +kernel
theorem dX5_faultOfGiving_17 : decode cX5_faultOfGiving 17 = .ok (.ireturn, 1) := by decide +kernel
theorem dX5_faultOfGiving_18 : decode cX5_faultOfGiving 18 = .ok (.iload_n 1, 1) := by decide +kernel
theorem dX5_faultOfGiving_19 : decode cX5_faultOfGiving 19 = .ok (.iload_n 2, 1) := by decide +kernel
theorem dX5_faultOfGiving_20 : decode cX5_faultOfGiving 20 = .ok (.if_icmp .ne 5, 3) := by decide +kernel
theorem dX5_faultOfGiving_23 : decode cX5_faultOfGiving 23 = .ok (.iconst 2, 1) := by decide +kernel
theorem dX5_faultOfGiving_24 : decode cX5_faultOfGiving 24 = .ok (.ireturn, 1) := by decide +kernel
theorem dX5_faultOfGiving_25 : decode cX5_faultOfGiving 25 = .ok (.aload_n 0, 1) := by decide +kernel
theorem dX5_faultOfGiving_26 : decode cX5_faultOfGiving 26 = .ok (.iload_n 1, 1) := by decide +kernel
theorem dX5_faultOfGiving_27 : decode cX5_faultOfGiving 27 = .ok (.iload_n 2, 1) := by decide +kernel
theorem dX5_faultOfGiving_28 : decode cX5_faultOfGiving 28 = .ok (.invokevirtual 45, 3) := by decide +kernel
theorem dX5_faultOfGiving_31 : decode cX5_faultOfGiving 31 = .ok (.iload_n 3, 1) := by decide +kernel
theorem dX5_faultOfGiving_32 : decode cX5_faultOfGiving 32 = .ok (.if_icmp .eq 16, 3) := by decide +kernel
theorem dX5_faultOfGiving_35 : decode cX5_faultOfGiving 35 = .ok (.iload_n 3, 1) := by decide +kernel
theorem dX5_faultOfGiving_36 : decode cX5_faultOfGiving 36 = .ok (.ifCond .eq 14, 3) := by decide +kernel
theorem dX5_faultOfGiving_39 : decode cX5_faultOfGiving 39 = .ok (.aload_n 0, 1) := by decide +kernel
theorem dX5_faultOfGiving_40 : decode cX5_faultOfGiving 40 = .ok (.iload_n 2, 1) := by decide +kernel
theorem dX5_faultOfGiving_41 : decode cX5_faultOfGiving 41 = .ok (.iload_n 1, 1) := by decide +kernel
theorem dX5_faultOfGiving_42 : decode cX5_faultOfGiving 42 = .ok (.invokevirtual 48, 3) := by decide +kernel
theorem dX5_faultOfGiving_45 : decode cX5_faultOfGiving 45 = .ok (.ifCond .eq 5, 3) := by decide +kernel
theorem dX5_faultOfGiving_48 : decode cX5_faultOfGiving 48 = .ok (.iconst 3, 1) := by decide +kernel
theorem dX5_faultOfGiving_49 : decode cX5_faultOfGiving 49 = .ok (.ireturn, 1) := by decide +kernel
theorem dX5_faultOfGiving_50 : decode cX5_faultOfGiving 50 = .ok (.iconst 0, 1) := by decide +kernel
theorem dX5_faultOfGiving_51 : decode cX5_faultOfGiving 51 = .ok (.ireturn, 1) := by decide +kernel
set_option maxRecDepth 20000 in
theorem ggX5_isGiven_X7_contains : GoodIn wsX5_isGiven wsX7_contains := goodIn_r _ [4] (by decide +kernel) (by decide +kernel)
set_option maxRecDepth 20000 in
theorem gX5_isGiven_X7_contains_n51 : GoodIn wsX5_isGiven (wsX7_contains) := ggX5_isGiven_X7_contains
theorem dX5_isGiven_0 : decode cX5_isGiven 0 = .ok (.aload_n 0, 1) := by decide +kernel
theorem dX5_isGiven_1 : decode cX5_isGiven 1 = .ok (.getfield 34, 3) := by decide +kernel
theorem dX5_isGiven_4 : decode cX5_isGiven 4 = .ok (.iload_n 1, 1) := by decide +kernel
theorem dX5_isGiven_5 : decode cX5_isGiven 5 = .ok (.iaload, 1) := by decide +kernel
theorem dX5_isGiven_6 : decode cX5_isGiven 6 = .ok (.iload_n 2, 1) := by decide +kernel
theorem dX5_isGiven_7 : decode cX5_isGiven 7 = .ok (.invokestatic 51, 3) := by decide +kernel
theorem dX5_isGiven_10 : decode cX5_isGiven 10 = .ok (.ireturn, 1) := by decide +kernel
theorem dX5_setGiven_0 : decode cX5_setGiven 0 = .ok (.iload_n 3, 1) := by decide +kernel
theorem dX5_setGiven_1 : decode cX5_setGiven 1 = .ok (.ifCond .eq 30, 3) := by decide +kernel
theorem dX5_setGiven_4 : decode cX5_setGiven 4 = .ok (.aload_n 0, 1) := by decide +kernel
theorem dX5_setGiven_5 : decode cX5_setGiven 5 = .ok (.getfield 34, 3) := by decide +kernel
theorem dX5_setGiven_8 : decode cX5_setGiven 8 = .ok (.iload_n 1, 1) := by decide +kernel
theorem dX5_setGiven_9 : decode cX5_setGiven 9 = .ok (.dup2, 1) := by decide +kernel
theorem dX5_setGiven_10 : decode cX5_setGiven 10 = .ok (.iaload, 1) := by decide +kernel
theorem dX5_setGiven_11 : decode cX5_setGiven 11 = .ok (.iconst 1, 1) := by decide +kernel
theorem dX5_setGiven_12 : decode cX5_setGiven 12 = .ok (.iload_n 2, 1) := by decide +kernel
theorem dX5_setGiven_13 : decode cX5_setGiven 13 = .ok (.ishl, 1) := by decide +kernel
theorem dX5_setGiven_14 : decode cX5_setGiven 14 = .ok (.ior, 1) := by decide +kernel
theorem dX5_setGiven_15 : decode cX5_setGiven 15 = .ok (.iastore, 1) := by decide +kernel
theorem dX5_setGiven_16 : decode cX5_setGiven 16 = .ok (.aload_n 0, 1) := by decide +kernel
theorem dX5_setGiven_17 : decode cX5_setGiven 17 = .ok (.getfield 31, 3) := by decide +kernel
theorem dX5_setGiven_20 : decode cX5_setGiven 20 = .ok (.iload_n 2, 1) := by decide +kernel
theorem dX5_setGiven_21 : decode cX5_setGiven 21 = .ok (.dup2, 1) := by decide +kernel
theorem dX5_setGiven_22 : decode cX5_setGiven 22 = .ok (.iaload, 1) := by decide +kernel
theorem dX5_setGiven_23 : decode cX5_setGiven 23 = .ok (.iconst 1, 1) := by decide +kernel
theorem dX5_setGiven_24 : decode cX5_setGiven 24 = .ok (.iload_n 1, 1) := by decide +kernel
theorem dX5_setGiven_25 : decode cX5_setGiven 25 = .ok (.ishl, 1) := by decide +kernel
theorem dX5_setGiven_26 : decode cX5_setGiven 26 = .ok (.ior, 1) := by decide +kernel
theorem dX5_setGiven_27 : decode cX5_setGiven 27 = .ok (.iastore, 1) := by decide +kernel
theorem dX5_setGiven_28 : decode cX5_setGiven 28 = .ok (.goto 31, 3) := by decide +kernel
theorem dX5_setGiven_31 : decode cX5_setGiven 31 = .ok (.aload_n 0, 1) := by decide +kernel
theorem dX5_setGiven_32 : decode cX5_setGiven 32 = .ok (.getfield 34, 3) := by decide +kernel
theorem dX5_setGiven_35 : decode cX5_setGiven 35 = .ok (.iload_n 1, 1) := by decide +kernel
theorem dX5_setGiven_36 : decode cX5_setGiven 36 = .ok (.dup2, 1) := by decide +kernel
theorem dX5_setGiven_37 : decode cX5_setGiven 37 = .ok (.iaload, 1) := by decide +kernel
theorem dX5_setGiven_38 : decode cX5_setGiven 38 = .ok (.iconst 1, 1) := by decide +kernel
theorem dX5_setGiven_39 : decode cX5_setGiven 39 = .ok (.iload_n 2, 1) := by decide +kernel
theorem dX5_setGiven_40 : decode cX5_setGiven 40 = .ok (.ishl, 1) := by decide +kernel
theorem dX5_setGiven_41 : decode cX5_setGiven 41 = .ok (.iconst (-1), 1) := by decide +kernel
theorem dX5_setGiven_42 : decode cX5_setGiven 42 = .ok (.ixor, 1) := by decide +kernel
theorem dX5_setGiven_43 : decode cX5_setGiven 43 = .ok (.iand, 1) := by decide +kernel
theorem dX5_setGiven_44 : decode cX5_setGiven 44 = .ok (.iastore, 1) := by decide +kernel
theorem dX5_setGiven_45 : decode cX5_setGiven 45 = .ok (.aload_n 0, 1) := by decide +kernel
theorem dX5_setGiven_46 : decode cX5_setGiven 46 = .ok (.getfield 31, 3) := by decide +kernel
theorem dX5_setGiven_49 : decode cX5_setGiven 49 = .ok (.iload_n 2, 1) := by decide +kernel
theorem dX5_setGiven_50 : decode cX5_setGiven 50 = .ok (.dup2, 1) := by decide +kernel
theorem dX5_setGiven_51 : decode cX5_setGiven 51 = .ok (.iaload, 1) := by decide +kernel
theorem dX5_setGiven_52 : decode cX5_setGiven 52 = .ok (.iconst 1, 1) := by decide +kernel
theorem dX5_setGiven_53 : decode cX5_setGiven 53 = .ok (.iload_n 1, 1) := by decide +kernel
theorem dX5_setGiven_54 : decode cX5_setGiven 54 = .ok (.ishl, 1) := by decide +kernel
theorem dX5_setGiven_55 : decode cX5_setGiven 55 = .ok (.iconst (-1), 1) := by decide +kernel
theorem dX5_setGiven_56 : decode cX5_setGiven 56 = .ok (.ixor, 1) := by decide +kernel
theorem dX5_setGiven_57 : decode cX5_setGiven 57 = .ok (.iand, 1) := by decide +kernel
theorem dX5_setGiven_58 : decode cX5_setGiven 58 = .ok (.iastore, 1) := by decide +kernel
theorem dX5_setGiven_59 : decode cX5_setGiven 59 = .ok (.return_, 1) := by decide +kernel
set_option maxRecDepth 20000 in
theorem ggX5_leads_X7_contains : GoodIn wsX5_leads wsX7_contains := goodIn_r _ [5] (by decide +kernel) (by decide +kernel)
set_option maxRecDepth 20000 in
theorem gX5_leads_X7_contains_n51 : GoodIn wsX5_leads (wsX7_contains) := ggX5_leads_X7_contains
theorem dX5_leads_0 : decode cX5_leads 0 = .ok (.aload_n 0, 1) := by decide +kernel
theorem dX5_leads_1 : decode cX5_leads 1 = .ok (.getfield 34, 3) := by decide +kernel
theorem dX5_leads_4 : decode cX5_leads 4 = .ok (.iload_n 1, 1) := by decide +kernel
theorem dX5_leads_5 : decode cX5_leads 5 = .ok (.iaload, 1) := by decide +kernel
theorem dX5_leads_6 : decode cX5_leads 6 = .ok (.istore_n 3, 1) := by decide +kernel
theorem dX5_leads_7 : decode cX5_leads 7 = .ok (.iconst 0, 1) := by decide +kernel
theorem dX5_leads_8 : decode cX5_leads 8 = .ok (.istore 4, 2) := by decide +kernel
theorem dX5_leads_10 : decode cX5_leads 10 = .ok (.iload 4, 2) := by decide +kernel
theorem dX5_leads_12 : decode cX5_leads 12 = .ok (.aload_n 0, 1) := by decide +kernel
theorem dX5_leads_13 : decode cX5_leads 13 = .ok (.getfield 15, 3) := by decide +kernel
theorem dX5_leads_16 : decode cX5_leads 16 = .ok (.if_icmp .ge 54, 3) := by decide +kernel
theorem dX5_leads_19 : decode cX5_leads 19 = .ok (.iload_n 3, 1) := by decide +kernel
theorem dX5_leads_20 : decode cX5_leads 20 = .ok (.istore 5, 2) := by decide +kernel
theorem dX5_leads_22 : decode cX5_leads 22 = .ok (.iconst 0, 1) := by decide +kernel
theorem dX5_leads_23 : decode cX5_leads 23 = .ok (.istore 6, 2) := by decide +kernel
theorem dX5_leads_25 : decode cX5_leads 25 = .ok (.iload 6, 2) := by decide +kernel
theorem dX5_leads_27 : decode cX5_leads 27 = .ok (.aload_n 0, 1) := by decide +kernel
theorem dX5_leads_28 : decode cX5_leads 28 = .ok (.getfield 15, 3) := by decide +kernel
theorem dX5_leads_31 : decode cX5_leads 31 = .ok (.if_icmp .ge 30, 3) := by decide +kernel
theorem dX5_leads_34 : decode cX5_leads 34 = .ok (.iload_n 3, 1) := by decide +kernel
theorem dX5_leads_35 : decode cX5_leads 35 = .ok (.iload 6, 2) := by decide +kernel
theorem dX5_leads_37 : decode cX5_leads 37 = .ok (.invokestatic 51, 3) := by decide +kernel
theorem dX5_leads_40 : decode cX5_leads 40 = .ok (.ifCond .eq 15, 3) := by decide +kernel
theorem dX5_leads_43 : decode cX5_leads 43 = .ok (.iload 5, 2) := by decide +kernel
theorem dX5_leads_45 : decode cX5_leads 45 = .ok (.aload_n 0, 1) := by decide +kernel
theorem dX5_leads_46 : decode cX5_leads 46 = .ok (.getfield 34, 3) := by decide +kernel
theorem dX5_leads_49 : decode cX5_leads 49 = .ok (.iload 6, 2) := by decide +kernel
theorem dX5_leads_51 : decode cX5_leads 51 = .ok (.iaload, 1) := by decide +kernel
theorem dX5_leads_52 : decode cX5_leads 52 = .ok (.ior, 1) := by decide +kernel
theorem dX5_leads_53 : decode cX5_leads 53 = .ok (.istore 5, 2) := by decide +kernel
theorem dX5_leads_55 : decode cX5_leads 55 = .ok (.iinc 6 1, 3) := by decide +kernel
theorem dX5_leads_58 : decode cX5_leads 58 = .ok (.goto (-33), 3) := by decide +kernel
theorem dX5_leads_61 : decode cX5_leads 61 = .ok (.iload 5, 2) := by decide +kernel
theorem dX5_leads_63 : decode cX5_leads 63 = .ok (.istore_n 3, 1) := by decide +kernel
theorem dX5_leads_64 : decode cX5_leads 64 = .ok (.iinc 4 1, 3) := by decide +kernel
theorem dX5_leads_67 : decode cX5_leads 67 = .ok (.goto (-57), 3) := by decide +kernel
theorem dX5_leads_70 : decode cX5_leads 70 = .ok (.iload_n 3, 1) := by decide +kernel
theorem dX5_leads_71 : decode cX5_leads 71 = .ok (.iload_n 2, 1) := by decide +kernel
theorem dX5_leads_72 : decode cX5_leads 72 = .ok (.invokestatic 51, 3) := by decide +kernel
theorem dX5_leads_75 : decode cX5_leads 75 = .ok (.ireturn, 1) := by decide +kernel
set_option maxRecDepth 20000 in
theorem ggX5_countGiven_J6_bitCount_0f7a4 : GoodIn wsX5_countGiven wsJ6_bitCount_0f7a4 := goodIn_r _ [6, 7, 8, 9] (by decide +kernel) (by decide +kernel)
set_option maxRecDepth 20000 in
theorem gX5_countGiven_J6_bitCount_0f7a4 : GoodIn wsX5_countGiven (va_wsS RX5 54 yJ6_bitCount_0f7a4 wsJ6_bitCount_0f7a4) := goodIn_app (goodIn_of _ (by decide +kernel)) ggX5_countGiven_J6_bitCount_0f7a4
theorem dX5_countGiven_0 : decode cX5_countGiven 0 = .ok (.iconst 0, 1) := by decide +kernel
theorem dX5_countGiven_1 : decode cX5_countGiven 1 = .ok (.istore_n 1, 1) := by decide +kernel
theorem dX5_countGiven_2 : decode cX5_countGiven 2 = .ok (.iconst 0, 1) := by decide +kernel
theorem dX5_countGiven_3 : decode cX5_countGiven 3 = .ok (.istore_n 2, 1) := by decide +kernel
theorem dX5_countGiven_4 : decode cX5_countGiven 4 = .ok (.iload_n 2, 1) := by decide +kernel
theorem dX5_countGiven_5 : decode cX5_countGiven 5 = .ok (.aload_n 0, 1) := by decide +kernel
theorem dX5_countGiven_6 : decode cX5_countGiven 6 = .ok (.getfield 15, 3) := by decide +kernel
theorem dX5_countGiven_9 : decode cX5_countGiven 9 = .ok (.if_icmp .ge 21, 3) := by decide +kernel
theorem dX5_countGiven_12 : decode cX5_countGiven 12 = .ok (.iload_n 1, 1) := by decide +kernel
theorem dX5_countGiven_13 : decode cX5_countGiven 13 = .ok (.aload_n 0, 1) := by decide +kernel
theorem dX5_countGiven_14 : decode cX5_countGiven 14 = .ok (.getfield 34, 3) := by decide +kernel
theorem dX5_countGiven_17 : decode cX5_countGiven 17 = .ok (.iload_n 2, 1) := by decide +kernel
theorem dX5_countGiven_18 : decode cX5_countGiven 18 = .ok (.iaload, 1) := by decide +kernel
theorem dX5_countGiven_19 : decode cX5_countGiven 19 = .ok (.invokestatic 54, 3) := by decide +kernel
theorem dX5_countGiven_22 : decode cX5_countGiven 22 = .ok (.iadd, 1) := by decide +kernel
theorem dX5_countGiven_23 : decode cX5_countGiven 23 = .ok (.istore_n 1, 1) := by decide +kernel
theorem dX5_countGiven_24 : decode cX5_countGiven 24 = .ok (.iinc 2 1, 3) := by decide +kernel
theorem dX5_countGiven_27 : decode cX5_countGiven 27 = .ok (.goto (-23), 3) := by decide +kernel
theorem dX5_countGiven_30 : decode cX5_countGiven 30 = .ok (.iload_n 1, 1) := by decide +kernel
theorem dX5_countGiven_31 : decode cX5_countGiven 31 = .ok (.ireturn, 1) := by decide +kernel
theorem dX5_countPairs_0 : decode cX5_countPairs 0 = .ok (.iconst 0, 1) := by decide +kernel
theorem dX5_countPairs_1 : decode cX5_countPairs 1 = .ok (.istore_n 1, 1) := by decide +kernel
theorem dX5_countPairs_2 : decode cX5_countPairs 2 = .ok (.iconst 0, 1) := by decide +kernel
theorem dX5_countPairs_3 : decode cX5_countPairs 3 = .ok (.istore_n 2, 1) := by decide +kernel
theorem dX5_countPairs_4 : decode cX5_countPairs 4 = .ok (.iload_n 2, 1) := by decide +kernel
theorem dX5_countPairs_5 : decode cX5_countPairs 5 = .ok (.aload_n 0, 1) := by decide +kernel
theorem dX5_countPairs_6 : decode cX5_countPairs 6 = .ok (.getfield 15, 3) := by decide +kernel
theorem dX5_countPairs_9 : decode cX5_countPairs 9 = .ok (.if_icmp .ge 45, 3) := by decide +kernel
theorem dX5_countPairs_12 : decode cX5_countPairs 12 = .ok (.iload_n 2, 1) := by decide +kernel
theorem dX5_countPairs_13 : decode cX5_countPairs 13 = .ok (.iconst 1, 1) := by decide +kernel
theorem dX5_countPairs_14 : decode cX5_countPairs 14 = .ok (.iadd, 1) := by decide +kernel
theorem dX5_countPairs_15 : decode cX5_countPairs 15 = .ok (.istore_n 3, 1) := by decide +kernel
theorem dX5_countPairs_16 : decode cX5_countPairs 16 = .ok (.iload_n 3, 1) := by decide +kernel
theorem dX5_countPairs_17 : decode cX5_countPairs 17 = .ok (.aload_n 0, 1) := by decide +kernel
theorem dX5_countPairs_18 : decode cX5_countPairs 18 = .ok (.getfield 15, 3) := by decide +kernel
theorem dX5_countPairs_21 : decode cX5_countPairs 21 = .ok (.if_icmp .ge 27, 3) := by decide +kernel
theorem dX5_countPairs_24 : decode cX5_countPairs 24 = .ok (.aload_n 0, 1) := by decide +kernel
theorem dX5_countPairs_25 : decode cX5_countPairs 25 = .ok (.getfield 18, 3) := by decide +kernel
theorem dX5_countPairs_28 : decode cX5_countPairs 28 = .ok (.iload_n 2, 1) := by decide +kernel
theorem dX5_countPairs_29 : decode cX5_countPairs 29 = .ok (.iaload, 1) := by decide +kernel
theorem dX5_countPairs_30 : decode cX5_countPairs 30 = .ok (.aload_n 0, 1) := by decide +kernel
theorem dX5_countPairs_31 : decode cX5_countPairs 31 = .ok (.getfield 18, 3) := by decide +kernel
theorem dX5_countPairs_34 : decode cX5_countPairs 34 = .ok (.iload_n 3, 1) := by decide +kernel
theorem dX5_countPairs_35 : decode cX5_countPairs 35 = .ok (.iaload, 1) := by decide +kernel
theorem dX5_countPairs_36 : decode cX5_countPairs 36 = .ok (.if_icmp .ne 6, 3) := by decide +kernel
theorem dX5_countPairs_39 : decode cX5_countPairs 39 = .ok (.iinc 1 1, 3) := by decide +kernel
theorem dX5_countPairs_42 : decode cX5_countPairs 42 = .ok (.iinc 3 1, 3) := by decide +kernel
theorem dX5_countPairs_45 : decode cX5_countPairs 45 = .ok (.goto (-29), 3) := by decide +kernel
theorem dX5_countPairs_48 : decode cX5_countPairs 48 = .ok (.iinc 2 1, 3) := by decide +kernel
theorem dX5_countPairs_51 : decode cX5_countPairs 51 = .ok (.goto (-47), 3) := by decide +kernel
theorem dX5_countPairs_54 : decode cX5_countPairs 54 = .ok (.iload_n 1, 1) := by decide +kernel
theorem dX5_countPairs_55 : decode cX5_countPairs 55 = .ok (.ireturn, 1) := by decide +kernel
set_option maxRecDepth 20000 in
theorem ggX5_outranks_X5_isGiven : GoodIn wsX5_outranks wsX5_isGiven := goodIn_r _ [11, 6, 12, 13, 14, 15, 16, 17, 18, 19, 20, 21, 22] (by decide +kernel) (by decide +kernel)
set_option maxRecDepth 20000 in
theorem gX5_outranks_X5_isGiven : GoodIn wsX5_outranks (wsV RX5 45 RX5 yX5_isGiven wsX5_isGiven) := goodIn_app (goodIn_of _ (by decide +kernel)) ggX5_outranks_X5_isGiven
theorem dX5_outranks_0 : decode cX5_outranks 0 = .ok (.iload_n 1, 1) := by decide +kernel
theorem dX5_outranks_1 : decode cX5_outranks 1 = .ok (.iload_n 2, 1) := by decide +kernel
theorem dX5_outranks_2 : decode cX5_outranks 2 = .ok (.if_icmp .eq 33, 3) := by decide +kernel
theorem dX5_outranks_5 : decode cX5_outranks 5 = .ok (.aload_n 0, 1) := by decide +kernel
theorem dX5_outranks_6 : decode cX5_outranks 6 = .ok (.getfield 18, 3) := by decide +kernel
theorem dX5_outranks_9 : decode cX5_outranks 9 = .ok (.iload_n 1, 1) := by decide +kernel
theorem dX5_outranks_10 : decode cX5_outranks 10 = .ok (.iaload, 1) := by decide +kernel
theorem dX5_outranks_11 : decode cX5_outranks 11 = .ok (.aload_n 0, 1) := by decide +kernel
theorem dX5_outranks_12 : decode cX5_outranks 12 = .ok (.getfield 18, 3) := by decide +kernel
theorem dX5_outranks_15 : decode cX5_outranks 15 = .ok (.iload_n 2, 1) := by decide +kernel
theorem dX5_outranks_16 : decode cX5_outranks 16 = .ok (.iaload, 1) := by decide +kernel
theorem dX5_outranks_17 : decode cX5_outranks 17 = .ok (.if_icmp .ne 18, 3) := by decide +kernel
theorem dX5_outranks_20 : decode cX5_outranks 20 = .ok (.aload_n 0, 1) := by decide +kernel
theorem dX5_outranks_21 : decode cX5_outranks 21 = .ok (.getfield 28, 3) := by decide +kernel
theorem dX5_outranks_24 : decode cX5_outranks 24 = .ok (.iload_n 1, 1) := by decide +kernel
theorem dX5_outranks_25 : decode cX5_outranks 25 = .ok (.iaload, 1) := by decide +kernel
theorem dX5_outranks_26 : decode cX5_outranks 26 = .ok (.aload_n 0, 1) := by decide +kernel
theorem dX5_outranks_27 : decode cX5_outranks 27 = .ok (.getfield 28, 3) := by decide +kernel
theorem dX5_outranks_30 : decode cX5_outranks 30 = .ok (.iload_n 2, 1) := by decide +kernel
theorem dX5_outranks_31 : decode cX5_outranks 31 = .ok (.iaload, 1) := by decide +kernel
theorem dX5_outranks_32 : decode cX5_outranks 32 = .ok (.if_icmp .eq 5, 3) := by decide +kernel
theorem dX5_outranks_35 : decode cX5_outranks 35 = .ok (.iconst 0, 1) := by decide +kernel
theorem dX5_outranks_36 : decode cX5_outranks 36 = .ok (.ireturn, 1) := by decide +kernel
theorem dX5_outranks_37 : decode cX5_outranks 37 = .ok (.aload_n 0, 1) := by decide +kernel
theorem dX5_outranks_38 : decode cX5_outranks 38 = .ok (.getfield 22, 3) := by decide +kernel
theorem dX5_outranks_41 : decode cX5_outranks 41 = .ok (.iload_n 1, 1) := by decide +kernel
theorem dX5_outranks_42 : decode cX5_outranks 42 = .ok (.iaload, 1) := by decide +kernel
theorem dX5_outranks_43 : decode cX5_outranks 43 = .ok (.aload_n 0, 1) := by decide +kernel
theorem dX5_outranks_44 : decode cX5_outranks 44 = .ok (.getfield 22, 3) := by decide +kernel
theorem dX5_outranks_47 : decode cX5_outranks 47 = .ok (.iload_n 2, 1) := by decide +kernel
theorem dX5_outranks_48 : decode cX5_outranks 48 = .ok (.iaload, 1) := by decide +kernel
theorem dX5_outranks_49 : decode cX5_outranks 49 = .ok (.if_icmp .gt 27, 3) := by decide +kernel
theorem dX5_outranks_52 : decode cX5_outranks 52 = .ok (.aload_n 0, 1) := by decide +kernel
theorem dX5_outranks_53 : decode cX5_outranks 53 = .ok (.getfield 25, 3) := by decide +kernel
theorem dX5_outranks_56 : decode cX5_outranks 56 = .ok (.iload_n 1, 1) := by decide +kernel
theorem dX5_outranks_57 : decode cX5_outranks 57 = .ok (.iaload, 1) := by decide +kernel
theorem dX5_outranks_58 : decode cX5_outranks 58 = .ok (.aload_n 0, 1) := by decide +kernel
theorem dX5_outranks_59 : decode cX5_outranks 59 = .ok (.getfield 25, 3) := by decide +kernel
theorem dX5_outranks_62 : decode cX5_outranks 62 = .ok (.iload_n 2, 1) := by decide +kernel
theorem dX5_outranks_63 : decode cX5_outranks 63 = .ok (.iaload, 1) := by decide +kernel
theorem dX5_outranks_64 : decode cX5_outranks 64 = .ok (.if_icmp .gt 12, 3) := by decide +kernel
theorem dX5_outranks_67 : decode cX5_outranks 67 = .ok (.aload_n 0, 1) := by decide +kernel
theorem dX5_outranks_68 : decode cX5_outranks 68 = .ok (.iload_n 2, 1) := by decide +kernel
theorem dX5_outranks_69 : decode cX5_outranks 69 = .ok (.iload_n 1, 1) := by decide +kernel
theorem dX5_outranks_70 : decode cX5_outranks 70 = .ok (.invokevirtual 45, 3) := by decide +kernel
theorem dX5_outranks_73 : decode cX5_outranks 73 = .ok (.ifCond .eq 5, 3) := by decide +kernel
theorem dX5_outranks_76 : decode cX5_outranks 76 = .ok (.iconst 0, 1) := by decide +kernel
theorem dX5_outranks_77 : decode cX5_outranks 77 = .ok (.ireturn, 1) := by decide +kernel
theorem dX5_outranks_78 : decode cX5_outranks 78 = .ok (.iconst 1, 1) := by decide +kernel
theorem dX5_outranks_79 : decode cX5_outranks 79 = .ok (.iload_n 1, 1) := by decide +kernel
theorem dX5_outranks_80 : decode cX5_outranks 80 = .ok (.ishl, 1) := by decide +kernel
theorem dX5_outranks_81 : decode cX5_outranks 81 = .ok (.iconst 1, 1) := by decide +kernel
theorem dX5_outranks_82 : decode cX5_outranks 82 = .ok (.iload_n 2, 1) := by decide +kernel
theorem dX5_outranks_83 : decode cX5_outranks 83 = .ok (.ishl, 1) := by decide +kernel
theorem dX5_outranks_84 : decode cX5_outranks 84 = .ok (.ior, 1) := by decide +kernel
theorem dX5_outranks_85 : decode cX5_outranks 85 = .ok (.iconst (-1), 1) := by decide +kernel
theorem dX5_outranks_86 : decode cX5_outranks 86 = .ok (.ixor, 1) := by decide +kernel
theorem dX5_outranks_87 : decode cX5_outranks 87 = .ok (.istore_n 3, 1) := by decide +kernel
theorem dX5_outranks_88 : decode cX5_outranks 88 = .ok (.aload_n 0, 1) := by decide +kernel
theorem dX5_outranks_89 : decode cX5_outranks 89 = .ok (.getfield 31, 3) := by decide +kernel
theorem dX5_outranks_92 : decode cX5_outranks 92 = .ok (.iload_n 1, 1) := by decide +kernel
theorem dX5_outranks_93 : decode cX5_outranks 93 = .ok (.iaload, 1) := by decide +kernel
theorem dX5_outranks_94 : decode cX5_outranks 94 = .ok (.iload_n 3, 1) := by decide +kernel
theorem dX5_outranks_95 : decode cX5_outranks 95 = .ok (.iand, 1) := by decide +kernel
theorem dX5_outranks_96 : decode cX5_outranks 96 = .ok (.istore 4, 2) := by decide +kernel
theorem dX5_outranks_98 : decode cX5_outranks 98 = .ok (.aload_n 0, 1) := by decide +kernel
theorem dX5_outranks_99 : decode cX5_outranks 99 = .ok (.getfield 31, 3) := by decide +kernel
theorem dX5_outranks_102 : decode cX5_outranks 102 = .ok (.iload_n 2, 1) := by decide +kernel
theorem dX5_outranks_103 : decode cX5_outranks 103 = .ok (.iaload, 1) := by decide +kernel
theorem dX5_outranks_104 : decode cX5_outranks 104 = .ok (.iload_n 3, 1) := by decide +kernel
theorem dX5_outranks_105 : decode cX5_outranks 105 = .ok (.iand, 1) := by decide +kernel
theorem dX5_outranks_106 : decode cX5_outranks 106 = .ok (.istore 5, 2) := by decide +kernel
theorem dX5_outranks_108 : decode cX5_outranks 108 = .ok (.aload_n 0, 1) := by decide +kernel
theorem dX5_outranks_109 : decode cX5_outranks 109 = .ok (.getfield 34, 3) := by decide +kernel
theorem dX5_outranks_112 : decode cX5_outranks 112 = .ok (.iload_n 1, 1) := by decide +kernel
theorem dX5_outranks_113 : decode cX5_outranks 113 = .ok (.iaload, 1) := by decide +kernel
theorem dX5_outranks_114 : decode cX5_outranks 114 = .ok (.iload_n 3, 1) := by decide +kernel
theorem dX5_outranks_115 : decode cX5_outranks 115 = .ok (.iand, 1) := by decide +kernel
theorem dX5_outranks_116 : decode cX5_outranks 116 = .ok (.istore 6, 2) := by decide +kernel
theorem dX5_outranks_118 : decode cX5_outranks 118 = .ok (.aload_n 0, 1) := by decide +kernel
theorem dX5_outranks_119 : decode cX5_outranks 119 = .ok (.getfield 34, 3) := by decide +kernel
theorem dX5_outranks_122 : decode cX5_outranks 122 = .ok (.iload_n 2, 1) := by decide +kernel
theorem dX5_outranks_123 : decode cX5_outranks 123 = .ok (.iaload, 1) := by decide +kernel
theorem dX5_outranks_124 : decode cX5_outranks 124 = .ok (.iload_n 3, 1) := by decide +kernel
theorem dX5_outranks_125 : decode cX5_outranks 125 = .ok (.iand, 1) := by decide +kernel
theorem dX5_outranks_126 : decode cX5_outranks 126 = .ok (.istore 7, 2) := by decide +kernel
theorem dX5_outranks_128 : decode cX5_outranks 128 = .ok (.iload 4, 2) := by decide +kernel
theorem dX5_outranks_130 : decode cX5_outranks 130 = .ok (.iload 5, 2) := by decide +kernel
theorem dX5_outranks_132 : decode cX5_outranks 132 = .ok (.iconst (-1), 1) := by decide +kernel
theorem dX5_outranks_133 : decode cX5_outranks 133 = .ok (.ixor, 1) := by decide +kernel
theorem dX5_outranks_134 : decode cX5_outranks 134 = .ok (.iand, 1) := by decide +kernel
theorem dX5_outranks_135 : decode cX5_outranks 135 = .ok (.ifCond .ne 13, 3) := by decide +kernel
theorem dX5_outranks_138 : decode cX5_outranks 138 = .ok (.iload 7, 2) := by decide +kernel
theorem dX5_outranks_140 : decode cX5_outranks 140 = .ok (.iload 6, 2) := by decide +kernel
theorem dX5_outranks_142 : decode cX5_outranks 142 = .ok (.iconst (-1), 1) := by decide +kernel
theorem dX5_outranks_143 : decode cX5_outranks 143 = .ok (.ixor, 1) := by decide +kernel
theorem dX5_outranks_144 : decode cX5_outranks 144 = .ok (.iand, 1) := by decide +kernel
theorem dX5_outranks_145 : decode cX5_outranks 145 = .ok (.ifCond .eq 5, 3) := by decide +kernel
theorem dX5_outranks_148 : decode cX5_outranks 148 = .ok (.iconst 0, 1) := by decide +kernel
theorem dX5_outranks_149 : decode cX5_outranks 149 = .ok (.ireturn, 1) := by decide +kernel
theorem dX5_outranks_150 : decode cX5_outranks 150 = .ok (.aload_n 0, 1) := by decide +kernel
theorem dX5_outranks_151 : decode cX5_outranks 151 = .ok (.getfield 22, 3) := by decide +kernel
theorem dX5_outranks_154 : decode cX5_outranks 154 = .ok (.iload_n 1, 1) := by decide +kernel
theorem dX5_outranks_155 : decode cX5_outranks 155 = .ok (.iaload, 1) := by decide +kernel
theorem dX5_outranks_156 : decode cX5_outranks 156 = .ok (.aload_n 0, 1) := by decide +kernel
theorem dX5_outranks_157 : decode cX5_outranks 157 = .ok (.getfield 22, 3) := by decide +kernel
theorem dX5_outranks_160 : decode cX5_outranks 160 = .ok (.iload_n 2, 1) := by decide +kernel
theorem dX5_outranks_161 : decode cX5_outranks 161 = .ok (.iaload, 1) := by decide +kernel
theorem dX5_outranks_162 : decode cX5_outranks 162 = .ok (.if_icmp .ne 36, 3) := by decide +kernel
theorem dX5_outranks_165 : decode cX5_outranks 165 = .ok (.aload_n 0, 1) := by decide +kernel
theorem dX5_outranks_166 : decode cX5_outranks 166 = .ok (.getfield 25, 3) := by decide +kernel
theorem dX5_outranks_169 : decode cX5_outranks 169 = .ok (.iload_n 1, 1) := by decide +kernel
theorem dX5_outranks_170 : decode cX5_outranks 170 = .ok (.iaload, 1) := by decide +kernel
theorem dX5_outranks_171 : decode cX5_outranks 171 = .ok (.aload_n 0, 1) := by decide +kernel
theorem dX5_outranks_172 : decode cX5_outranks 172 = .ok (.getfield 25, 3) := by decide +kernel
theorem dX5_outranks_175 : decode cX5_outranks 175 = .ok (.iload_n 2, 1) := by decide +kernel
theorem dX5_outranks_176 : decode cX5_outranks 176 = .ok (.iaload, 1) := by decide +kernel
theorem dX5_outranks_177 : decode cX5_outranks 177 = .ok (.if_icmp .ne 21, 3) := by decide +kernel
theorem dX5_outranks_180 : decode cX5_outranks 180 = .ok (.iload 4, 2) := by decide +kernel
theorem dX5_outranks_182 : decode cX5_outranks 182 = .ok (.iload 5, 2) := by decide +kernel
theorem dX5_outranks_184 : decode cX5_outranks 184 = .ok (.if_icmp .ne 14, 3) := by decide +kernel
theorem dX5_outranks_187 : decode cX5_outranks 187 = .ok (.iload 6, 2) := by decide +kernel
theorem dX5_outranks_189 : decode cX5_outranks 189 = .ok (.iload 7, 2) := by decide +kernel
theorem dX5_outranks_191 : decode cX5_outranks 191 = .ok (.if_icmp .ne 7, 3) := by decide +kernel
theorem dX5_outranks_194 : decode cX5_outranks 194 = .ok (.iconst 1, 1) := by decide +kernel
theorem dX5_outranks_195 : decode cX5_outranks 195 = .ok (.goto 4, 3) := by decide +kernel
theorem dX5_outranks_198 : decode cX5_outranks 198 = .ok (.iconst 0, 1) := by decide +kernel
theorem dX5_outranks_199 : decode cX5_outranks 199 = .ok (.istore 8, 2) := by decide +kernel
theorem dX5_outranks_201 : decode cX5_outranks 201 = .ok (.iload 8, 2) := by decide +kernel
theorem dX5_outranks_203 : decode cX5_outranks 203 = .ok (.ifCond .eq 8, 3) := by decide +kernel
theorem dX5_outranks_206 : decode cX5_outranks 206 = .ok (.iload_n 1, 1) := by decide +kernel
theorem dX5_outranks_207 : decode cX5_outranks 207 = .ok (.iload_n 2, 1) := by decide +kernel
theorem dX5_outranks_208 : decode cX5_outranks 208 = .ok (.if_icmp .ge 7, 3) := by decide +kernel
theorem dX5_outranks_211 : decode cX5_outranks 211 = .ok (.iconst 1, 1) := by decide +kernel
theorem dX5_outranks_212 : decode cX5_outranks 212 = .ok (.goto 4, 3) := by decide +kernel
theorem dX5_outranks_215 : decode cX5_outranks 215 = .ok (.iconst 0, 1) := by decide +kernel
theorem dX5_outranks_216 : decode cX5_outranks 216 = .ok (.ireturn, 1) := by decide +kernel
theorem dX5_aspect_0 : decode cX5_aspect 0 = .ok (.iload_n 2, 1) := by decide +kernel
theorem dX5_aspect_1 : decode cX5_aspect 1 = .ok (.tableswitch 70 0 4 #[35, 42, 49, 56, 63], 35) := by decide +kernel
theorem dX5_aspect_36 : decode cX5_aspect 36 = .ok (.aload_n 0, 1) := by decide +kernel
theorem dX5_aspect_37 : decode cX5_aspect 37 = .ok (.getfield 18, 3) := by decide +kernel
theorem dX5_aspect_40 : decode cX5_aspect 40 = .ok (.iload_n 1, 1) := by decide +kernel
theorem dX5_aspect_41 : decode cX5_aspect 41 = .ok (.iaload, 1) := by decide +kernel
theorem dX5_aspect_42 : decode cX5_aspect 42 = .ok (.ireturn, 1) := by decide +kernel
theorem dX5_aspect_43 : decode cX5_aspect 43 = .ok (.aload_n 0, 1) := by decide +kernel
theorem dX5_aspect_44 : decode cX5_aspect 44 = .ok (.getfield 22, 3) := by decide +kernel
theorem dX5_aspect_47 : decode cX5_aspect 47 = .ok (.iload_n 1, 1) := by decide +kernel
theorem dX5_aspect_48 : decode cX5_aspect 48 = .ok (.iaload, 1) := by decide +kernel
theorem dX5_aspect_49 : decode cX5_aspect 49 = .ok (.ireturn, 1) := by decide +kernel
theorem dX5_aspect_50 : decode cX5_aspect 50 = .ok (.aload_n 0, 1) := by decide +kernel
theorem dX5_aspect_51 : decode cX5_aspect 51 = .ok (.getfield 25, 3) := by decide +kernel
theorem dX5_aspect_54 : decode cX5_aspect 54 = .ok (.iload_n 1, 1) := by decide +kernel
theorem dX5_aspect_55 : decode cX5_aspect 55 = .ok (.iaload, 1) := by decide +kernel
theorem dX5_aspect_56 : decode cX5_aspect 56 = .ok (.ireturn, 1) := by decide +kernel
theorem dX5_aspect_57 : decode cX5_aspect 57 = .ok (.aload_n 0, 1) := by decide +kernel
theorem dX5_aspect_58 : decode cX5_aspect 58 = .ok (.getfield 28, 3) := by decide +kernel
theorem dX5_aspect_61 : decode cX5_aspect 61 = .ok (.iload_n 1, 1) := by decide +kernel
theorem dX5_aspect_62 : decode cX5_aspect 62 = .ok (.iaload, 1) := by decide +kernel
theorem dX5_aspect_63 : decode cX5_aspect 63 = .ok (.ireturn, 1) := by decide +kernel
theorem dX5_aspect_64 : decode cX5_aspect 64 = .ok (.aload_n 0, 1) := by decide +kernel
theorem dX5_aspect_65 : decode cX5_aspect 65 = .ok (.getfield 31, 3) := by decide +kernel
theorem dX5_aspect_68 : decode cX5_aspect 68 = .ok (.iload_n 1, 1) := by decide +kernel
theorem dX5_aspect_69 : decode cX5_aspect 69 = .ok (.iaload, 1) := by decide +kernel
theorem dX5_aspect_70 : decode cX5_aspect 70 = .ok (.ireturn, 1) := by decide +kernel
theorem dX5_aspect_71 : decode cX5_aspect 71 = .ok (.aload_n 0, 1) := by decide +kernel
theorem dX5_aspect_72 : decode cX5_aspect 72 = .ok (.getfield 34, 3) := by decide +kernel
theorem dX5_aspect_75 : decode cX5_aspect 75 = .ok (.iload_n 1, 1) := by decide +kernel
theorem dX5_aspect_76 : decode cX5_aspect 76 = .ok (.iaload, 1) := by decide +kernel
theorem dX5_aspect_77 : decode cX5_aspect 77 = .ok (.ireturn, 1) := by decide +kernel
theorem dX6_init_0 : decode cX6_init 0 = .ok (.aload_n 0, 1) := by decide +kernel
theorem dX6_init_1 : decode cX6_init 1 = .ok (.invokespecial 3, 3) := by decide +kernel
theorem dX6_init_4 : decode cX6_init 4 = .ok (.aload_n 0, 1) := by decide +kernel
theorem dX6_init_5 : decode cX6_init 5 = .ok (.iconst 0, 1) := by decide +kernel
theorem dX6_init_6 : decode cX6_init 6 = .ok (.putfield 9, 3) := by decide +kernel
theorem dX6_init_9 : decode cX6_init 9 = .ok (.aload_n 0, 1) := by decide +kernel
theorem dX6_init_10 : decode cX6_init 10 = .ok (.bipush 8, 2) := by decide +kernel
theorem dX6_init_12 : decode cX6_init 12 = .ok (.newarray .int, 2) := by decide +kernel
theorem dX6_init_14 : decode cX6_init 14 = .ok (.putfield 15, 3) := by decide +kernel
theorem dX6_init_17 : decode cX6_init 17 = .ok (.aload_n 0, 1) := by decide +kernel
theorem dX6_init_18 : decode cX6_init 18 = .ok (.bipush 8, 2) := by decide +kernel
theorem dX6_init_20 : decode cX6_init 20 = .ok (.newarray .int, 2) := by decide +kernel
theorem dX6_init_22 : decode cX6_init 22 = .ok (.putfield 19, 3) := by decide +kernel
theorem dX6_init_25 : decode cX6_init 25 = .ok (.aload_n 0, 1) := by decide +kernel
theorem dX6_init_26 : decode cX6_init 26 = .ok (.bipush 8, 2) := by decide +kernel
theorem dX6_init_28 : decode cX6_init 28 = .ok (.newarray .int, 2) := by decide +kernel
theorem dX6_init_30 : decode cX6_init 30 = .ok (.putfield 22, 3) := by decide +kernel
theorem dX6_init_33 : decode cX6_init 33 = .ok (.aload_n 0, 1) := by decide +kernel
theorem dX6_init_34 : decode cX6_init 34 = .ok (.iconst 3, 1) := by decide +kernel
theorem dX6_init_35 : decode cX6_init 35 = .ok (.newarray .int, 2) := by decide +kernel
theorem dX6_init_37 : decode cX6_init 37 = .ok (.putfield 25, 3) := by decide +kernel
theorem dX6_init_40 : decode cX6_init 40 = .ok (.aload_n 0, 1) := by decide +kernel
theorem dX6_init_41 : decode cX6_init 41 = .ok (.sipush 256, 3) := by decide +kernel
theorem dX6_init_44 : decode cX6_init 44 = .ok (.newarray .int, 2) := by decide +kernel
theorem dX6_init_46 : decode cX6_init 46 = .ok (.putfield 28, 3) := by decide +kernel
theorem dX6_init_49 : decode cX6_init 49 = .ok (.aload_n 0, 1) := by decide +kernel
theorem dX6_init_50 : decode cX6_init 50 = .ok (.sipush 256, 3) := by decide +kernel
theorem dX6_init_53 : decode cX6_init 53 = .ok (.newarray .int, 2) := by decide +kernel
theorem dX6_init_55 : decode cX6_init 55 = .ok (.putfield 31, 3) := by decide +kernel
theorem dX6_init_58 : decode cX6_init 58 = .ok (.aload_n 0, 1) := by decide +kernel
theorem dX6_init_59 : decode cX6_init 59 = .ok (.sipush 256, 3) := by decide +kernel
theorem dX6_init_62 : decode cX6_init 62 = .ok (.newarray .int, 2) := by decide +kernel
theorem dX6_init_64 : decode cX6_init 64 = .ok (.putfield 34, 3) := by decide +kernel
theorem dX6_init_67 : decode cX6_init 67 = .ok (.aload_n 0, 1) := by decide +kernel
theorem dX6_init_68 : decode cX6_init 68 = .ok (.aload_n 1, 1) := by decide +kernel
theorem dX6_init_69 : decode cX6_init 69 = .ok (.putfield 37, 3) := by decide +kernel
theorem dX6_init_72 : decode cX6_init 72 = .ok (.return_, 1) := by decide +kernel
set_option maxRecDepth 20000 in
theorem ggX6_run_X6_load : GoodIn wsX6_run wsX6_load := goodIn_r _ [7, 8, 9, 10, 11, 12, 13, 14, 15, 16, 17, 89, 90, 91, 92, 93, 94, 95, 96, 97, 98, 99, 100, 101, 102, 103, 104, 105] (by decide +kernel) (by decide +kernel)
set_option maxRecDepth 20000 in
theorem gX6_run_X6_load : GoodIn wsX6_run (wsV RX6 41 RX6 yX6_load wsX6_load) := goodIn_app (goodIn_of _ (by decide +kernel)) ggX6_run_X6_load
set_option maxRecDepth 20000 in
theorem ggX6_run_X6_followRows : GoodIn wsX6_run wsX6_followRows := goodIn_r _ [21, 9, 10, 15, 22, 23, 24, 25, 26, 27, 6, 28, 89, 90, 91, 92, 93, 94, 95, 96, 97, 98, 99, 100, 101, 102, 103, 104, 105] (by decide +kernel) (by decide +kernel)
set_option maxRecDepth 20000 in
theorem gX6_run_X6_followRows : GoodIn wsX6_run (wsV RX6 45 RX6 yX6_followRows wsX6_followRows) := goodIn_app (goodIn_of _ (by decide +kernel)) ggX6_run_X6_followRows
set_option maxRecDepth 20000 in
theorem ggX6_run_X6_raiseFirsts : GoodIn wsX6_run wsX6_raiseFirsts := goodIn_r _ [32, 9, 10, 17, 11, 33, 34, 35, 36, 6, 37, 15, 22, 23, 24, 89, 90, 91, 92, 93, 94, 95, 96, 97, 98, 99, 100, 101, 102, 103, 104, 105] (by decide +kernel) (by decide +kernel)
set_option maxRecDepth 20000 in
theorem gX6_run_X6_raiseFirsts : GoodIn wsX6_run (wsV RX6 49 RX6 yX6_raiseFirsts wsX6_raiseFirsts) := goodIn_app (goodIn_of _ (by decide +kernel)) ggX6_run_X6_raiseFirsts
set_option maxRecDepth 20000 in
theorem ggX6_run_X6_lowerLasts : GoodIn wsX6_run wsX6_lowerLasts := goodIn_r _ [41, 9, 10, 15, 17, 13, 33, 22, 23, 24, 89, 90, 91, 92, 93, 94, 95, 96, 97, 98, 99, 100, 101, 102, 103, 104, 105] (by decide +kernel) (by decide +kernel)
set_option maxRecDepth 20000 in
theorem gX6_run_X6_lowerLasts : GoodIn wsX6_run (wsV RX6 52 RX6 yX6_lowerLasts wsX6_lowerLasts) := goodIn_app (goodIn_of _ (by decide +kernel)) ggX6_run_X6_lowerLasts
set_option maxRecDepth 20000 in
theorem ggX6_run_X6_weighSets : GoodIn wsX6_run wsX6_weighSets := goodIn_r _ [45, 46, 2, 47, 48, 49, 9, 10, 11, 50, 51, 52, 53, 13, 54, 55, 56, 33, 89, 90, 91, 92, 93, 94, 95, 96, 97, 98, 99, 100, 101, 102, 103, 104, 105] (by decide +kernel) (by decide +kernel)
set_option maxRecDepth 20000 in
theorem gX6_run_X6_weighSets : GoodIn wsX6_run (wsV RX6 55 RX6 yX6_weighSets wsX6_weighSets) := goodIn_app (goodIn_of _ (by decide +kernel)) ggX6_run_X6_weighSets
set_option maxRecDepth 20000 in
theorem ggX6_run_X6_someTaskPrecedesItself : GoodIn wsX6_run wsX6_someTaskPrecedesItself := goodIn_r _ [60, 9, 10, 15, 22, 23, 24, 89, 90, 91, 92, 93, 94, 95, 96, 97, 98, 99, 100, 101, 102, 103, 104, 105] (by decide +kernel) (by decide +kernel)
set_option maxRecDepth 20000 in
theorem gX6_run_X6_someTaskPrecedesItself : GoodIn wsX6_run (wsV RX6 58 RX6 yX6_someTaskPrecedesItself wsX6_someTaskPrecedesItself) := goodIn_app (goodIn_of _ (by decide +kernel)) ggX6_run_X6_someTaskPrecedesItself
set_option maxRecDepth 20000 in
theorem ggX6_run_X6_someSetIsTooTight : GoodIn wsX6_run wsX6_someSetIsTooTight := goodIn_r _ [64, 8, 46, 49, 47, 89, 90, 91, 92, 93, 94, 95, 96, 97] (by decide +kernel) (by decide +kernel)
set_option maxRecDepth 20000 in
theorem gX6_run_X6_someSetIsTooTight : GoodIn wsX6_run (wsV RX6 61 RX6 yX6_someSetIsTooTight wsX6_someSetIsTooTight) := goodIn_app (goodIn_of _ (by decide +kernel)) ggX6_run_X6_someSetIsTooTight
set_option maxRecDepth 20000 in
theorem ggX6_run_X6_orderByPairs : GoodIn wsX6_run wsX6_orderByPairs := goodIn_r _ [68, 9, 10, 69, 70, 71, 6, 72, 17, 11, 33, 13, 25, 26, 27, 28, 15, 89, 90, 91, 92, 93, 94, 95, 96, 97, 98, 99, 100, 101, 102, 103, 104, 105] (by decide +kernel) (by decide +kernel)
set_option maxRecDepth 20000 in
theorem gX6_run_X6_orderByPairs : GoodIn wsX6_run (wsV RX6 64 RX6 yX6_orderByPairs wsX6_orderByPairs) := goodIn_app (goodIn_of _ (by decide +kernel)) ggX6_run_X6_orderByPairs
set_option maxRecDepth 20000 in
theorem ggX6_run_X6_orderBySets : GoodIn wsX6_run wsX6_orderBySets := goodIn_r _ [76, 9, 10, 8, 17, 77, 78, 79, 6, 80, 46, 49, 47, 81, 82, 83, 84, 22, 23, 24, 25, 26, 27, 28, 15, 85, 86, 87, 88, 89, 90, 91, 92, 93, 94, 95, 96, 97, 98, 99, 100, 101, 102, 103, 104, 105] (by decide +kernel) (by decide +kernel)
set_option maxRecDepth 20000 in
theorem gX6_run_X6_orderBySets : GoodIn wsX6_run (wsV RX6 67 RX6 yX6_orderBySets wsX6_orderBySets) := goodIn_app (goodIn_of _ (by decide +kernel)) ggX6_run_X6_orderBySets
theorem dX6_run_0 : decode cX6_run 0 = .ok (.aload_n 0, 1) := by decide +kernel
theorem dX6_run_1 : decode cX6_run 1 = .ok (.invokevirtual 41, 3) := by decide +kernel
theorem dX6_run_4 : decode cX6_run 4 = .ok (.aload_n 0, 1) := by decide +kernel
theorem dX6_run_5 : decode cX6_run 5 = .ok (.iconst 0, 1) := by decide +kernel
theorem dX6_run_6 : decode cX6_run 6 = .ok (.putfield 9, 3) := by decide +kernel
theorem dX6_run_9 : decode cX6_run 9 = .ok (.iconst 1, 1) := by decide +kernel
theorem dX6_run_10 : decode cX6_run 10 = .ok (.istore_n 1, 1) := by decide +kernel
theorem dX6_run_11 : decode cX6_run 11 = .ok (.iconst 0, 1) := by decide +kernel
theorem dX6_run_12 : decode cX6_run 12 = .ok (.istore_n 2, 1) := by decide +kernel
theorem dX6_run_13 : decode cX6_run 13 = .ok (.iload_n 2, 1) := by decide +kernel
theorem dX6_run_14 : decode cX6_run 14 = .ok (.ldc 44, 2) := by decide +kernel
theorem dX6_run_16 : decode cX6_run 16 = .ok (.if_icmp .ge 120, 3) := by decide +kernel
theorem dX6_run_19 : decode cX6_run 19 = .ok (.iload_n 1, 1) := by decide +kernel
theorem dX6_run_20 : decode cX6_run 20 = .ok (.ifCond .eq 116, 3) := by decide +kernel
theorem dX6_run_23 : decode cX6_run 23 = .ok (.aload_n 0, 1) := by decide +kernel
theorem dX6_run_24 : decode cX6_run 24 = .ok (.getfield 9, 3) := by decide +kernel
theorem dX6_run_27 : decode cX6_run 27 = .ok (.ifCond .ne 109, 3) := by decide +kernel
theorem dX6_run_30 : decode cX6_run 30 = .ok (.aload_n 0, 1) := by decide +kernel
theorem dX6_run_31 : decode cX6_run 31 = .ok (.invokevirtual 45, 3) := by decide +kernel
theorem dX6_run_34 : decode cX6_run 34 = .ok (.istore_n 1, 1) := by decide +kernel
theorem dX6_run_35 : decode cX6_run 35 = .ok (.aload_n 0, 1) := by decide +kernel
theorem dX6_run_36 : decode cX6_run 36 = .ok (.invokevirtual 49, 3) := by decide +kernel
theorem dX6_run_39 : decode cX6_run 39 = .ok (.ifCond .ne 7, 3) := by decide +kernel
theorem dX6_run_42 : decode cX6_run 42 = .ok (.iload_n 1, 1) := by decide +kernel
theorem dX6_run_43 : decode cX6_run 43 = .ok (.ifCond .eq 7, 3) := by decide +kernel
theorem dX6_run_46 : decode cX6_run 46 = .ok (.iconst 1, 1) := by decide +kernel
theorem dX6_run_47 : decode cX6_run 47 = .ok (.goto 4, 3) := by decide +kernel
theorem dX6_run_50 : decode cX6_run 50 = .ok (.iconst 0, 1) := by decide +kernel
theorem dX6_run_51 : decode cX6_run 51 = .ok (.istore_n 1, 1) := by decide +kernel
theorem dX6_run_52 : decode cX6_run 52 = .ok (.aload_n 0, 1) := by decide +kernel
theorem dX6_run_53 : decode cX6_run 53 = .ok (.invokevirtual 52, 3) := by decide +kernel
theorem dX6_run_56 : decode cX6_run 56 = .ok (.ifCond .ne 7, 3) := by decide +kernel
theorem dX6_run_59 : decode cX6_run 59 = .ok (.iload_n 1, 1) := by decide +kernel
theorem dX6_run_60 : decode cX6_run 60 = .ok (.ifCond .eq 7, 3) := by decide +kernel
theorem dX6_run_63 : decode cX6_run 63 = .ok (.iconst 1, 1) := by decide +kernel
theorem dX6_run_64 : decode cX6_run 64 = .ok (.goto 4, 3) := by decide +kernel
theorem dX6_run_67 : decode cX6_run 67 = .ok (.iconst 0, 1) := by decide +kernel
theorem dX6_run_68 : decode cX6_run 68 = .ok (.istore_n 1, 1) := by decide +kernel
theorem dX6_run_69 : decode cX6_run 69 = .ok (.aload_n 0, 1) := by decide +kernel
theorem dX6_run_70 : decode cX6_run 70 = .ok (.invokevirtual 55, 3) := by decide +kernel
theorem dX6_run_73 : decode cX6_run 73 = .ok (.aload_n 0, 1) := by decide +kernel
theorem dX6_run_74 : decode cX6_run 74 = .ok (.aload_n 0, 1) := by decide +kernel
theorem dX6_run_75 : decode cX6_run 75 = .ok (.invokevirtual 58, 3) := by decide +kernel
theorem dX6_run_78 : decode cX6_run 78 = .ok (.ifCond .ne 10, 3) := by decide +kernel
theorem dX6_run_81 : decode cX6_run 81 = .ok (.aload_n 0, 1) := by decide +kernel
theorem dX6_run_82 : decode cX6_run 82 = .ok (.invokevirtual 61, 3) := by decide +kernel
theorem dX6_run_85 : decode cX6_run 85 = .ok (.ifCond .eq 7, 3) := by decide +kernel
theorem dX6_run_88 : decode cX6_run 88 = .ok (.iconst 1, 1) := by decide +kernel
theorem dX6_run_89 : decode cX6_run 89 = .ok (.goto 4, 3) := by decide +kernel
theorem dX6_run_92 : decode cX6_run 92 = .ok (.iconst 0, 1) := by decide +kernel
theorem dX6_run_93 : decode cX6_run 93 = .ok (.putfield 9, 3) := by decide +kernel
theorem dX6_run_96 : decode cX6_run 96 = .ok (.aload_n 0, 1) := by decide +kernel
theorem dX6_run_97 : decode cX6_run 97 = .ok (.invokevirtual 64, 3) := by decide +kernel
theorem dX6_run_100 : decode cX6_run 100 = .ok (.ifCond .ne 7, 3) := by decide +kernel
theorem dX6_run_103 : decode cX6_run 103 = .ok (.iload_n 1, 1) := by decide +kernel
theorem dX6_run_104 : decode cX6_run 104 = .ok (.ifCond .eq 7, 3) := by decide +kernel
theorem dX6_run_107 : decode cX6_run 107 = .ok (.iconst 1, 1) := by decide +kernel
theorem dX6_run_108 : decode cX6_run 108 = .ok (.goto 4, 3) := by decide +kernel
theorem dX6_run_111 : decode cX6_run 111 = .ok (.iconst 0, 1) := by decide +kernel
theorem dX6_run_112 : decode cX6_run 112 = .ok (.istore_n 1, 1) := by decide +kernel
theorem dX6_run_113 : decode cX6_run 113 = .ok (.aload_n 0, 1) := by decide +kernel
theorem dX6_run_114 : decode cX6_run 114 = .ok (.invokevirtual 67, 3) := by decide +kernel
theorem dX6_run_117 : decode cX6_run 117 = .ok (.ifCond .ne 7, 3) := by decide +kernel
theorem dX6_run_120 : decode cX6_run 120 = .ok (.iload_n 1, 1) := by decide +kernel
theorem dX6_run_121 : decode cX6_run 121 = .ok (.ifCond .eq 7, 3) := by decide +kernel
theorem dX6_run_124 : decode cX6_run 124 = .ok (.iconst 1, 1) := by decide +kernel
theorem dX6_run_125 : decode cX6_run 125 = .ok (.goto 4, 3) := by decide +kernel
theorem dX6_run_128 : decode cX6_run 128 = .ok (.iconst 0, 1) := by decide +kernel
theorem dX6_run_129 : decode cX6_run 129 = .ok (.istore_n 1, 1) := by decide +kernel
theorem dX6_run_130 : decode cX6_run 130 = .ok (.iinc 2 1, 3) := by decide +kernel
theorem dX6_run_133 : decode cX6_run 133 = .ok (.goto (-120), 3) := by decide +kernel
theorem dX6_run_136 : decode cX6_run 136 = .ok (.return_, 1) := by decide +kernel
theorem dX6_load_0 : decode cX6_load 0 = .ok (.iconst 0, 1) := by decide +kernel
theorem dX6_load_1 : decode cX6_load 1 = .ok (.istore_n 1, 1) := by decide +kernel
theorem dX6_load_2 : decode cX6_load 2 = .ok (.iload_n 1, 1) := by decide +kernel
theorem dX6_load_3 : decode cX6_load 3 = .ok (.iconst 3, 1) := by decide +kernel
theorem dX6_load_4 : decode cX6_load 4 = .ok (.if_icmp .ge 16, 3) := by decide +kernel
theorem dX6_load_7 : decode cX6_load 7 = .ok (.aload_n 0, 1) := by decide +kernel
theorem dX6_load_8 : decode cX6_load 8 = .ok (.getfield 25, 3) := by decide +kernel
theorem dX6_load_11 : decode cX6_load 11 = .ok (.iload_n 1, 1) := by decide +kernel
theorem dX6_load_12 : decode cX6_load 12 = .ok (.iconst 0, 1) := by decide +kernel
theorem dX6_load_13 : decode cX6_load 13 = .ok (.iastore, 1) := by decide +kernel
theorem dX6_load_14 : decode cX6_load 14 = .ok (.iinc 1 1, 3) := by decide +kernel
theorem dX6_load_17 : decode cX6_load 17 = .ok (.goto (-15), 3) := by decide +kernel
theorem dX6_load_20 : decode cX6_load 20 = .ok (.iconst 0, 1) := by decide +kernel
theorem dX6_load_21 : decode cX6_load 21 = .ok (.istore_n 1, 1) := by decide +kernel
theorem dX6_load_22 : decode cX6_load 22 = .ok (.iload_n 1, 1) := by decide +kernel
theorem dX6_load_23 : decode cX6_load 23 = .ok (.aload_n 0, 1) := by decide +kernel
theorem dX6_load_24 : decode cX6_load 24 = .ok (.getfield 37, 3) := by decide +kernel
theorem dX6_load_27 : decode cX6_load 27 = .ok (.getfield 70, 3) := by decide +kernel
theorem dX6_load_30 : decode cX6_load 30 = .ok (.if_icmp .ge 74, 3) := by decide +kernel
theorem dX6_load_33 : decode cX6_load 33 = .ok (.aload_n 0, 1) := by decide +kernel
theorem dX6_load_34 : decode cX6_load 34 = .ok (.getfield 15, 3) := by decide +kernel
theorem dX6_load_37 : decode cX6_load 37 = .ok (.iload_n 1, 1) := by decide +kernel
theorem dX6_load_38 : decode cX6_load 38 = .ok (.aload_n 0, 1) := by decide +kernel
theorem dX6_load_39 : decode cX6_load 39 = .ok (.getfield 37, 3) := by decide +kernel
theorem dX6_load_42 : decode cX6_load 42 = .ok (.getfield 76, 3) := by decide +kernel
theorem dX6_load_45 : decode cX6_load 45 = .ok (.iload_n 1, 1) := by decide +kernel
theorem dX6_load_46 : decode cX6_load 46 = .ok (.iaload, 1) := by decide +kernel
theorem dX6_load_47 : decode cX6_load 47 = .ok (.iastore, 1) := by decide +kernel
theorem dX6_load_48 : decode cX6_load 48 = .ok (.aload_n 0, 1) := by decide +kernel
theorem dX6_load_49 : decode cX6_load 49 = .ok (.getfield 19, 3) := by decide +kernel
theorem dX6_load_52 : decode cX6_load 52 = .ok (.iload_n 1, 1) := by decide +kernel
theorem dX6_load_53 : decode cX6_load 53 = .ok (.aload_n 0, 1) := by decide +kernel
theorem dX6_load_54 : decode cX6_load 54 = .ok (.getfield 37, 3) := by decide +kernel
theorem dX6_load_57 : decode cX6_load 57 = .ok (.getfield 79, 3) := by decide +kernel
theorem dX6_load_60 : decode cX6_load 60 = .ok (.iload_n 1, 1) := by decide +kernel
theorem dX6_load_61 : decode cX6_load 61 = .ok (.iaload, 1) := by decide +kernel
theorem dX6_load_62 : decode cX6_load 62 = .ok (.iastore, 1) := by decide +kernel
theorem dX6_load_63 : decode cX6_load 63 = .ok (.aload_n 0, 1) := by decide +kernel
theorem dX6_load_64 : decode cX6_load 64 = .ok (.getfield 22, 3) := by decide +kernel
theorem dX6_load_67 : decode cX6_load 67 = .ok (.iload_n 1, 1) := by decide +kernel
theorem dX6_load_68 : decode cX6_load 68 = .ok (.aload_n 0, 1) := by decide +kernel
theorem dX6_load_69 : decode cX6_load 69 = .ok (.getfield 37, 3) := by decide +kernel
theorem dX6_load_72 : decode cX6_load 72 = .ok (.getfield 82, 3) := by decide +kernel
theorem dX6_load_75 : decode cX6_load 75 = .ok (.iload_n 1, 1) := by decide +kernel
theorem dX6_load_76 : decode cX6_load 76 = .ok (.iaload, 1) := by decide +kernel
theorem dX6_load_77 : decode cX6_load 77 = .ok (.iastore, 1) := by decide +kernel
theorem dX6_load_78 : decode cX6_load 78 = .ok (.aload_n 0, 1) := by decide +kernel
theorem dX6_load_79 : decode cX6_load 79 = .ok (.getfield 25, 3) := by decide +kernel
theorem dX6_load_82 : decode cX6_load 82 = .ok (.aload_n 0, 1) := by decide +kernel
theorem dX6_load_83 : decode cX6_load 83 = .ok (.getfield 37, 3) := by decide +kernel
theorem dX6_load_86 : decode cX6_load 86 = .ok (.getfield 83, 3) := by decide +kernel
theorem dX6_load_89 : decode cX6_load 89 = .ok (.iload_n 1, 1) := by decide +kernel
theorem dX6_load_90 : decode cX6_load 90 = .ok (.iaload, 1) := by decide +kernel
theorem dX6_load_91 : decode cX6_load 91 = .ok (.dup2, 1) := by decide +kernel
theorem dX6_load_92 : decode cX6_load 92 = .ok (.iaload, 1) := by decide +kernel
theorem dX6_load_93 : decode cX6_load 93 = .ok (.iconst 1, 1) := by decide +kernel
theorem dX6_load_94 : decode cX6_load 94 = .ok (.iload_n 1, 1) := by decide +kernel
theorem dX6_load_95 : decode cX6_load 95 = .ok (.ishl, 1) := by decide +kernel
theorem dX6_load_96 : decode cX6_load 96 = .ok (.ior, 1) := by decide +kernel
theorem dX6_load_97 : decode cX6_load 97 = .ok (.iastore, 1) := by decide +kernel
theorem dX6_load_98 : decode cX6_load 98 = .ok (.iinc 1 1, 3) := by decide +kernel
theorem dX6_load_101 : decode cX6_load 101 = .ok (.goto (-79), 3) := by decide +kernel
theorem dX6_load_104 : decode cX6_load 104 = .ok (.return_, 1) := by decide +kernel
set_option maxRecDepth 20000 in
theorem ggX6_followRows_X7_contains : GoodIn wsX6_followRows wsX7_contains := goodIn_r _ [6] (by decide +kernel) (by decide +kernel)
set_option maxRecDepth 20000 in
theorem gX6_followRows_X7_contains_n86 : GoodIn wsX6_followRows (wsX7_contains) := ggX6_followRows_X7_contains
set_option maxRecDepth 20000 in
theorem ggX6_followRows_X6_putBehind : GoodIn wsX6_followRows wsX6_putBehind := goodIn_r _ [11, 3, 12, 13, 14, 15, 16, 17, 18, 19, 20] (by decide +kernel) (by decide +kernel)
set_option maxRecDepth 20000 in
theorem gX6_followRows_X6_putBehind : GoodIn wsX6_followRows (wsV RX6 90 RX6 yX6_putBehind wsX6_putBehind) := goodIn_app (goodIn_of _ (by decide +kernel)) ggX6_followRows_X6_putBehind
theorem dX6_followRows_0 : decode cX6_followRows 0 = .ok (.iconst 0, 1) := by decide +kernel
theorem dX6_followRows_1 : decode cX6_followRows 1 = .ok (.istore_n 1, 1) := by decide +kernel
theorem dX6_followRows_2 : decode cX6_followRows 2 = .ok (.iconst 0, 1) := by decide +kernel
theorem dX6_followRows_3 : decode cX6_followRows 3 = .ok (.istore_n 2, 1) := by decide +kernel
theorem dX6_followRows_4 : decode cX6_followRows 4 = .ok (.iload_n 2, 1) := by decide +kernel
theorem dX6_followRows_5 : decode cX6_followRows 5 = .ok (.aload_n 0, 1) := by decide +kernel
theorem dX6_followRows_6 : decode cX6_followRows 6 = .ok (.getfield 37, 3) := by decide +kernel
theorem dX6_followRows_9 : decode cX6_followRows 9 = .ok (.getfield 70, 3) := by decide +kernel
theorem dX6_followRows_12 : decode cX6_followRows 12 = .ok (.if_icmp .ge 65, 3) := by decide +kernel
theorem dX6_followRows_15 : decode cX6_followRows 15 = .ok (.iconst 0, 1) := by decide +kernel
theorem dX6_followRows_16 : decode cX6_followRows 16 = .ok (.istore_n 3, 1) := by decide +kernel
theorem dX6_followRows_17 : decode cX6_followRows 17 = .ok (.iload_n 3, 1) := by decide +kernel
theorem dX6_followRows_18 : decode cX6_followRows 18 = .ok (.aload_n 0, 1) := by decide +kernel
theorem dX6_followRows_19 : decode cX6_followRows 19 = .ok (.getfield 37, 3) := by decide +kernel
theorem dX6_followRows_22 : decode cX6_followRows 22 = .ok (.getfield 70, 3) := by decide +kernel
theorem dX6_followRows_25 : decode cX6_followRows 25 = .ok (.if_icmp .ge 46, 3) := by decide +kernel
theorem dX6_followRows_28 : decode cX6_followRows 28 = .ok (.aload_n 0, 1) := by decide +kernel
theorem dX6_followRows_29 : decode cX6_followRows 29 = .ok (.getfield 22, 3) := by decide +kernel
theorem dX6_followRows_32 : decode cX6_followRows 32 = .ok (.iload_n 3, 1) := by decide +kernel
theorem dX6_followRows_33 : decode cX6_followRows 33 = .ok (.iaload, 1) := by decide +kernel
theorem dX6_followRows_34 : decode cX6_followRows 34 = .ok (.iload_n 2, 1) := by decide +kernel
theorem dX6_followRows_35 : decode cX6_followRows 35 = .ok (.invokestatic 86, 3) := by decide +kernel
theorem dX6_followRows_38 : decode cX6_followRows 38 = .ok (.ifCond .eq 27, 3) := by decide +kernel
theorem dX6_followRows_41 : decode cX6_followRows 41 = .ok (.aload_n 0, 1) := by decide +kernel
theorem dX6_followRows_42 : decode cX6_followRows 42 = .ok (.iload_n 3, 1) := by decide +kernel
theorem dX6_followRows_43 : decode cX6_followRows 43 = .ok (.aload_n 0, 1) := by decide +kernel
theorem dX6_followRows_44 : decode cX6_followRows 44 = .ok (.getfield 22, 3) := by decide +kernel
theorem dX6_followRows_47 : decode cX6_followRows 47 = .ok (.iload_n 2, 1) := by decide +kernel
theorem dX6_followRows_48 : decode cX6_followRows 48 = .ok (.iaload, 1) := by decide +kernel
theorem dX6_followRows_49 : decode cX6_followRows 49 = .ok (.invokevirtual 90, 3) := by decide +kernel
theorem dX6_followRows_52 : decode cX6_followRows 52 = .ok (.ifCond .ne 7, 3) := by decide +kernel
theorem dX6_followRows_55 : decode cX6_followRows 55 = .ok (.iload_n 1, 1) := by decide +kernel
theorem dX6_followRows_56 : decode cX6_followRows 56 = .ok (.ifCond .eq 7, 3) := by decide +kernel
theorem dX6_followRows_59 : decode cX6_followRows 59 = .ok (.iconst 1, 1) := by decide +kernel
theorem dX6_followRows_60 : decode cX6_followRows 60 = .ok (.goto 4, 3) := by decide +kernel
theorem dX6_followRows_63 : decode cX6_followRows 63 = .ok (.iconst 0, 1) := by decide +kernel
theorem dX6_followRows_64 : decode cX6_followRows 64 = .ok (.istore_n 1, 1) := by decide +kernel
theorem dX6_followRows_65 : decode cX6_followRows 65 = .ok (.iinc 3 1, 3) := by decide +kernel
theorem dX6_followRows_68 : decode cX6_followRows 68 = .ok (.goto (-51), 3) := by decide +kernel
theorem dX6_followRows_71 : decode cX6_followRows 71 = .ok (.iinc 2 1, 3) := by decide +kernel
theorem dX6_followRows_74 : decode cX6_followRows 74 = .ok (.goto (-70), 3) := by decide +kernel
theorem dX6_followRows_77 : decode cX6_followRows 77 = .ok (.iload_n 1, 1) := by decide +kernel
theorem dX6_followRows_78 : decode cX6_followRows 78 = .ok (.ireturn, 1) := by decide +kernel
set_option maxRecDepth 20000 in
theorem ggX6_orderByPairs_X6_pairTells : GoodIn wsX6_orderByPairs wsX6_pairTells := goodIn_r _ [7, 1, 8, 9, 10, 11, 17, 18, 19, 20, 21, 22, 23, 24, 25, 26, 27, 28, 29, 30, 31, 32, 33] (by decide +kernel) (by decide +kernel)
set_option maxRecDepth 20000 in
theorem gX6_orderByPairs_X6_pairTells : GoodIn wsX6_orderByPairs (wsV RX6 93 RX6 yX6_pairTells wsX6_pairTells) := goodIn_app (goodIn_of _ (by decide +kernel)) ggX6_orderByPairs_X6_pairTells
set_option maxRecDepth 20000 in
theorem ggX6_orderByPairs_X6_putBehind : GoodIn wsX6_orderByPairs wsX6_putBehind := goodIn_r _ [15, 16, 17, 18, 19, 20, 21, 22, 23, 24, 25] (by decide +kernel) (by decide +kernel)
set_option maxRecDepth 20000 in
theorem gX6_orderByPairs_X6_putBehind : GoodIn wsX6_orderByPairs (wsV RX6 90 RX6 yX6_putBehind wsX6_putBehind) := goodIn_app (goodIn_of _ (by decide +kernel)) ggX6_orderByPairs_X6_putBehind
theorem dX6_orderByPairs_0 : decode cX6_orderByPairs 0 = .ok (.iconst 0, 1) := by decide +kernel
theorem dX6_orderByPairs_1 : decode cX6_orderByPairs 1 = .ok (.istore_n 1, 1) := by decide +kernel
theorem dX6_orderByPairs_2 : decode cX6_orderByPairs 2 = .ok (.iconst 0, 1) := by decide +kernel
theorem dX6_orderByPairs_3 : decode cX6_orderByPairs 3 = .ok (.istore_n 2, 1) := by decide +kernel
theorem dX6_orderByPairs_4 : decode cX6_orderByPairs 4 = .ok (.iload_n 2, 1) := by decide +kernel
theorem dX6_orderByPairs_5 : decode cX6_orderByPairs 5 = .ok (.aload_n 0, 1) := by decide +kernel
theorem dX6_orderByPairs_6 : decode cX6_orderByPairs 6 = .ok (.getfield 37, 3) := by decide +kernel
theorem dX6_orderByPairs_9 : decode cX6_orderByPairs 9 = .ok (.getfield 70, 3) := by decide +kernel
theorem dX6_orderByPairs_12 : decode cX6_orderByPairs 12 = .ok (.if_icmp .ge 58, 3) := by decide +kernel
theorem dX6_orderByPairs_15 : decode cX6_orderByPairs 15 = .ok (.iconst 0, 1) := by decide +kernel
theorem dX6_orderByPairs_16 : decode cX6_orderByPairs 16 = .ok (.istore_n 3, 1) := by decide +kernel
theorem dX6_orderByPairs_17 : decode cX6_orderByPairs 17 = .ok (.iload_n 3, 1) := by decide +kernel
theorem dX6_orderByPairs_18 : decode cX6_orderByPairs 18 = .ok (.aload_n 0, 1) := by decide +kernel
theorem dX6_orderByPairs_19 : decode cX6_orderByPairs 19 = .ok (.getfield 37, 3) := by decide +kernel
theorem dX6_orderByPairs_22 : decode cX6_orderByPairs 22 = .ok (.getfield 70, 3) := by decide +kernel
theorem dX6_orderByPairs_25 : decode cX6_orderByPairs 25 = .ok (.if_icmp .ge 39, 3) := by decide +kernel
theorem dX6_orderByPairs_28 : decode cX6_orderByPairs 28 = .ok (.aload_n 0, 1) := by decide +kernel
theorem dX6_orderByPairs_29 : decode cX6_orderByPairs 29 = .ok (.iload_n 2, 1) := by decide +kernel
theorem dX6_orderByPairs_30 : decode cX6_orderByPairs 30 = .ok (.iload_n 3, 1) := by decide +kernel
theorem dX6_orderByPairs_31 : decode cX6_orderByPairs 31 = .ok (.invokevirtual 93, 3) := by decide +kernel
theorem dX6_orderByPairs_34 : decode cX6_orderByPairs 34 = .ok (.ifCond .eq 24, 3) := by decide +kernel
theorem dX6_orderByPairs_37 : decode cX6_orderByPairs 37 = .ok (.aload_n 0, 1) := by decide +kernel
theorem dX6_orderByPairs_38 : decode cX6_orderByPairs 38 = .ok (.iload_n 2, 1) := by decide +kernel
theorem dX6_orderByPairs_39 : decode cX6_orderByPairs 39 = .ok (.iconst 1, 1) := by decide +kernel
theorem dX6_orderByPairs_40 : decode cX6_orderByPairs 40 = .ok (.iload_n 3, 1) := by decide +kernel
theorem dX6_orderByPairs_41 : decode cX6_orderByPairs 41 = .ok (.ishl, 1) := by decide +kernel
theorem dX6_orderByPairs_42 : decode cX6_orderByPairs 42 = .ok (.invokevirtual 90, 3) := by decide +kernel
theorem dX6_orderByPairs_45 : decode cX6_orderByPairs 45 = .ok (.ifCond .ne 7, 3) := by decide +kernel
theorem dX6_orderByPairs_48 : decode cX6_orderByPairs 48 = .ok (.iload_n 1, 1) := by decide +kernel
theorem dX6_orderByPairs_49 : decode cX6_orderByPairs 49 = .ok (.ifCond .eq 7, 3) := by decide +kernel
theorem dX6_orderByPairs_52 : decode cX6_orderByPairs 52 = .ok (.iconst 1, 1) := by decide +kernel
theorem dX6_orderByPairs_53 : decode cX6_orderByPairs 53 = .ok (.goto 4, 3) := by decide +kernel
theorem dX6_orderByPairs_56 : decode cX6_orderByPairs 56 = .ok (.iconst 0, 1) := by decide +kernel
theorem dX6_orderByPairs_57 : decode cX6_orderByPairs 57 = .ok (.istore_n 1, 1) := by decide +kernel
theorem dX6_orderByPairs_58 : decode cX6_orderByPairs 58 = .ok (.iinc 3 1, 3) := by decide +kernel
theorem dX6_orderByPairs_61 : decode cX6_orderByPairs 61 = .ok (.goto (-44), 3) := by decide +kernel
theorem dX6_orderByPairs_64 : decode cX6_orderByPairs 64 = .ok (.iinc 2 1, 3) := by decide +kernel
theorem dX6_orderByPairs_67 : decode cX6_orderByPairs 67 = .ok (.goto (-63), 3) := by decide +kernel
theorem dX6_orderByPairs_70 : decode cX6_orderByPairs 70 = .ok (.iload_n 1, 1) := by decide +kernel
theorem dX6_orderByPairs_71 : decode cX6_orderByPairs 71 = .ok (.ireturn, 1) := by decide +kernel
set_option maxRecDepth 20000 in
theorem ggX6_orderBySets_X6_setTellsBefore : GoodIn wsX6_orderBySets wsX6_setTellsBefore := goodIn_r _ [9, 10, 11, 12, 29, 30, 31, 32, 33, 34, 35, 36, 37] (by decide +kernel) (by decide +kernel)
set_option maxRecDepth 20000 in
theorem gX6_orderBySets_X6_setTellsBefore : GoodIn wsX6_orderBySets (wsV RX6 96 RX6 yX6_setTellsBefore wsX6_setTellsBefore) := goodIn_app (goodIn_of _ (by decide +kernel)) ggX6_orderBySets_X6_setTellsBefore
set_option maxRecDepth 20000 in
theorem ggX6_orderBySets_X6_putBehindAll : GoodIn wsX6_orderBySets wsX6_putBehindAll := goodIn_r _ [16, 1, 2, 17, 18, 19, 20, 21, 22, 8, 23, 24, 29, 30, 31, 32, 33, 34, 35, 36, 37, 38, 39, 40, 41, 42, 43, 44, 45] (by decide +kernel) (by decide +kernel)
set_option maxRecDepth 20000 in
theorem gX6_orderBySets_X6_putBehindAll : GoodIn wsX6_orderBySets (wsV RX6 99 RX6 yX6_putBehindAll wsX6_putBehindAll) := goodIn_app (goodIn_of _ (by decide +kernel)) ggX6_orderBySets_X6_putBehindAll
set_option maxRecDepth 20000 in
theorem ggX6_orderBySets_X6_setTellsBehind : GoodIn wsX6_orderBySets wsX6_setTellsBehind := goodIn_r _ [28, 10, 11, 12, 29, 30, 31, 32, 33, 34, 35, 36, 37] (by decide +kernel) (by decide +kernel)
set_option maxRecDepth 20000 in
theorem gX6_orderBySets_X6_setTellsBehind : GoodIn wsX6_orderBySets (wsV RX6 102 RX6 yX6_setTellsBehind wsX6_setTellsBehind) := goodIn_app (goodIn_of _ (by decide +kernel)) ggX6_orderBySets_X6_setTellsBehind
set_option maxRecDepth 20000 in
theorem ggX6_orderBySets_X6_putBehind : GoodIn wsX6_orderBySets wsX6_putBehind := goodIn_r _ [23, 24, 29, 30, 31, 32, 33, 34, 35, 36, 37] (by decide +kernel) (by decide +kernel)
set_option maxRecDepth 20000 in
theorem gX6_orderBySets_X6_putBehind : GoodIn wsX6_orderBySets (wsV RX6 90 RX6 yX6_putBehind wsX6_putBehind) := goodIn_app (goodIn_of _ (by decide +kernel)) ggX6_orderBySets_X6_putBehind
theorem dX6_orderBySets_0 : decode cX6_orderBySets 0 = .ok (.iconst 0, 1) := by decide +kernel
theorem dX6_orderBySets_1 : decode cX6_orderBySets 1 = .ok (.istore_n 1, 1) := by decide +kernel
theorem dX6_orderBySets_2 : decode cX6_orderBySets 2 = .ok (.iconst 0, 1) := by decide +kernel
theorem dX6_orderBySets_3 : decode cX6_orderBySets 3 = .ok (.istore_n 2, 1) := by decide +kernel
theorem dX6_orderBySets_4 : decode cX6_orderBySets 4 = .ok (.iload_n 2, 1) := by decide +kernel
theorem dX6_orderBySets_5 : decode cX6_orderBySets 5 = .ok (.aload_n 0, 1) := by decide +kernel
theorem dX6_orderBySets_6 : decode cX6_orderBySets 6 = .ok (.getfield 37, 3) := by decide +kernel
theorem dX6_orderBySets_9 : decode cX6_orderBySets 9 = .ok (.getfield 70, 3) := by decide +kernel
theorem dX6_orderBySets_12 : decode cX6_orderBySets 12 = .ok (.if_icmp .ge 117, 3) := by decide +kernel
theorem dX6_orderBySets_15 : decode cX6_orderBySets 15 = .ok (.aload_n 0, 1) := by decide +kernel
theorem dX6_orderBySets_16 : decode cX6_orderBySets 16 = .ok (.getfield 25, 3) := by decide +kernel
theorem dX6_orderBySets_19 : decode cX6_orderBySets 19 = .ok (.aload_n 0, 1) := by decide +kernel
theorem dX6_orderBySets_20 : decode cX6_orderBySets 20 = .ok (.getfield 37, 3) := by decide +kernel
theorem dX6_orderBySets_23 : decode cX6_orderBySets 23 = .ok (.getfield 83, 3) := by decide +kernel
theorem dX6_orderBySets_26 : decode cX6_orderBySets 26 = .ok (.iload_n 2, 1) := by decide +kernel
theorem dX6_orderBySets_27 : decode cX6_orderBySets 27 = .ok (.iaload, 1) := by decide +kernel
theorem dX6_orderBySets_28 : decode cX6_orderBySets 28 = .ok (.iaload, 1) := by decide +kernel
theorem dX6_orderBySets_29 : decode cX6_orderBySets 29 = .ok (.iconst 1, 1) := by decide +kernel
theorem dX6_orderBySets_30 : decode cX6_orderBySets 30 = .ok (.iload_n 2, 1) := by decide +kernel
theorem dX6_orderBySets_31 : decode cX6_orderBySets 31 = .ok (.ishl, 1) := by decide +kernel
theorem dX6_orderBySets_32 : decode cX6_orderBySets 32 = .ok (.iconst (-1), 1) := by decide +kernel
theorem dX6_orderBySets_33 : decode cX6_orderBySets 33 = .ok (.ixor, 1) := by decide +kernel
theorem dX6_orderBySets_34 : decode cX6_orderBySets 34 = .ok (.iand, 1) := by decide +kernel
theorem dX6_orderBySets_35 : decode cX6_orderBySets 35 = .ok (.istore_n 3, 1) := by decide +kernel
theorem dX6_orderBySets_36 : decode cX6_orderBySets 36 = .ok (.iconst 1, 1) := by decide +kernel
theorem dX6_orderBySets_37 : decode cX6_orderBySets 37 = .ok (.istore 4, 2) := by decide +kernel
theorem dX6_orderBySets_39 : decode cX6_orderBySets 39 = .ok (.iload 4, 2) := by decide +kernel
theorem dX6_orderBySets_41 : decode cX6_orderBySets 41 = .ok (.iload_n 3, 1) := by decide +kernel
theorem dX6_orderBySets_42 : decode cX6_orderBySets 42 = .ok (.if_icmp .gt 81, 3) := by decide +kernel
theorem dX6_orderBySets_45 : decode cX6_orderBySets 45 = .ok (.iload 4, 2) := by decide +kernel
theorem dX6_orderBySets_47 : decode cX6_orderBySets 47 = .ok (.iload_n 3, 1) := by decide +kernel
theorem dX6_orderBySets_48 : decode cX6_orderBySets 48 = .ok (.iconst (-1), 1) := by decide +kernel
theorem dX6_orderBySets_49 : decode cX6_orderBySets 49 = .ok (.ixor, 1) := by decide +kernel
theorem dX6_orderBySets_50 : decode cX6_orderBySets 50 = .ok (.iand, 1) := by decide +kernel
theorem dX6_orderBySets_51 : decode cX6_orderBySets 51 = .ok (.ifCond .eq 6, 3) := by decide +kernel
theorem dX6_orderBySets_54 : decode cX6_orderBySets 54 = .ok (.goto 63, 3) := by decide +kernel
theorem dX6_orderBySets_57 : decode cX6_orderBySets 57 = .ok (.aload_n 0, 1) := by decide +kernel
theorem dX6_orderBySets_58 : decode cX6_orderBySets 58 = .ok (.iload 4, 2) := by decide +kernel
theorem dX6_orderBySets_60 : decode cX6_orderBySets 60 = .ok (.iload_n 2, 1) := by decide +kernel
theorem dX6_orderBySets_61 : decode cX6_orderBySets 61 = .ok (.invokevirtual 96, 3) := by decide +kernel
theorem dX6_orderBySets_64 : decode cX6_orderBySets 64 = .ok (.ifCond .eq 23, 3) := by decide +kernel
theorem dX6_orderBySets_67 : decode cX6_orderBySets 67 = .ok (.aload_n 0, 1) := by decide +kernel
theorem dX6_orderBySets_68 : decode cX6_orderBySets 68 = .ok (.iload 4, 2) := by decide +kernel
theorem dX6_orderBySets_70 : decode cX6_orderBySets 70 = .ok (.iload_n 2, 1) := by decide +kernel
theorem dX6_orderBySets_71 : decode cX6_orderBySets 71 = .ok (.invokevirtual 99, 3) := by decide +kernel
theorem dX6_orderBySets_74 : decode cX6_orderBySets 74 = .ok (.ifCond .ne 7, 3) := by decide +kernel
theorem dX6_orderBySets_77 : decode cX6_orderBySets 77 = .ok (.iload_n 1, 1) := by decide +kernel
theorem dX6_orderBySets_78 : decode cX6_orderBySets 78 = .ok (.ifCond .eq 7, 3) := by decide +kernel
theorem dX6_orderBySets_81 : decode cX6_orderBySets 81 = .ok (.iconst 1, 1) := by decide +kernel
theorem dX6_orderBySets_82 : decode cX6_orderBySets 82 = .ok (.goto 4, 3) := by decide +kernel
theorem dX6_orderBySets_85 : decode cX6_orderBySets 85 = .ok (.iconst 0, 1) := by decide +kernel
theorem dX6_orderBySets_86 : decode cX6_orderBySets 86 = .ok (.istore_n 1, 1) := by decide +kernel
theorem dX6_orderBySets_87 : decode cX6_orderBySets 87 = .ok (.aload_n 0, 1) := by decide +kernel
theorem dX6_orderBySets_88 : decode cX6_orderBySets 88 = .ok (.iload 4, 2) := by decide +kernel
theorem dX6_orderBySets_90 : decode cX6_orderBySets 90 = .ok (.iload_n 2, 1) := by decide +kernel
theorem dX6_orderBySets_91 : decode cX6_orderBySets 91 = .ok (.invokevirtual 102, 3) := by decide +kernel
theorem dX6_orderBySets_94 : decode cX6_orderBySets 94 = .ok (.ifCond .eq 23, 3) := by decide +kernel
theorem dX6_orderBySets_97 : decode cX6_orderBySets 97 = .ok (.aload_n 0, 1) := by decide +kernel
theorem dX6_orderBySets_98 : decode cX6_orderBySets 98 = .ok (.iload_n 2, 1) := by decide +kernel
theorem dX6_orderBySets_99 : decode cX6_orderBySets 99 = .ok (.iload 4, 2) := by decide +kernel
theorem dX6_orderBySets_101 : decode cX6_orderBySets 101 = .ok (.invokevirtual 90, 3) := by decide +kernel
theorem dX6_orderBySets_104 : decode cX6_orderBySets 104 = .ok (.ifCond .ne 7, 3) := by decide +kernel
theorem dX6_orderBySets_107 : decode cX6_orderBySets 107 = .ok (.iload_n 1, 1) := by decide +kernel
theorem dX6_orderBySets_108 : decode cX6_orderBySets 108 = .ok (.ifCond .eq 7, 3) := by decide +kernel
theorem dX6_orderBySets_111 : decode cX6_orderBySets 111 = .ok (.iconst 1, 1) := by decide +kernel
theorem dX6_orderBySets_112 : decode cX6_orderBySets 112 = .ok (.goto 4, 3) := by decide +kernel
theorem dX6_orderBySets_115 : decode cX6_orderBySets 115 = .ok (.iconst 0, 1) := by decide +kernel
theorem dX6_orderBySets_116 : decode cX6_orderBySets 116 = .ok (.istore_n 1, 1) := by decide +kernel
theorem dX6_orderBySets_117 : decode cX6_orderBySets 117 = .ok (.iinc 4 1, 3) := by decide +kernel
theorem dX6_orderBySets_120 : decode cX6_orderBySets 120 = .ok (.goto (-81), 3) := by decide +kernel
theorem dX6_orderBySets_123 : decode cX6_orderBySets 123 = .ok (.iinc 2 1, 3) := by decide +kernel
theorem dX6_orderBySets_126 : decode cX6_orderBySets 126 = .ok (.goto (-122), 3) := by decide +kernel
theorem dX6_orderBySets_129 : decode cX6_orderBySets 129 = .ok (.iload_n 1, 1) := by decide +kernel
theorem dX6_orderBySets_130 : decode cX6_orderBySets 130 = .ok (.ireturn, 1) := by decide +kernel
set_option maxRecDepth 20000 in
theorem ggX6_raiseFirsts_X6_aheadOf : GoodIn wsX6_raiseFirsts wsX6_aheadOf := goodIn_r _ [10, 1, 2, 11, 12, 13, 14, 15, 16, 17, 18, 19, 20, 21, 22, 23, 24, 25, 26, 27, 28, 29, 30, 31] (by decide +kernel) (by decide +kernel)
set_option maxRecDepth 20000 in
theorem gX6_raiseFirsts_X6_aheadOf : GoodIn wsX6_raiseFirsts (wsV RX6 105 RX6 yX6_aheadOf wsX6_aheadOf) := goodIn_app (goodIn_of _ (by decide +kernel)) ggX6_raiseFirsts_X6_aheadOf
set_option maxRecDepth 20000 in
theorem ggX6_raiseFirsts_X7_contains : GoodIn wsX6_raiseFirsts wsX7_contains := goodIn_r _ [14] (by decide +kernel) (by decide +kernel)
set_option maxRecDepth 20000 in
theorem gX6_raiseFirsts_X7_contains_n86 : GoodIn wsX6_raiseFirsts (wsX7_contains) := ggX6_raiseFirsts_X7_contains
theorem dX6_raiseFirsts_0 : decode cX6_raiseFirsts 0 = .ok (.iconst 0, 1) := by decide +kernel
theorem dX6_raiseFirsts_1 : decode cX6_raiseFirsts 1 = .ok (.istore_n 1, 1) := by decide +kernel
theorem dX6_raiseFirsts_2 : decode cX6_raiseFirsts 2 = .ok (.iconst 0, 1) := by decide +kernel
theorem dX6_raiseFirsts_3 : decode cX6_raiseFirsts 3 = .ok (.istore_n 2, 1) := by decide +kernel
theorem dX6_raiseFirsts_4 : decode cX6_raiseFirsts 4 = .ok (.iload_n 2, 1) := by decide +kernel
theorem dX6_raiseFirsts_5 : decode cX6_raiseFirsts 5 = .ok (.aload_n 0, 1) := by decide +kernel
theorem dX6_raiseFirsts_6 : decode cX6_raiseFirsts 6 = .ok (.getfield 37, 3) := by decide +kernel
theorem dX6_raiseFirsts_9 : decode cX6_raiseFirsts 9 = .ok (.getfield 70, 3) := by decide +kernel
theorem dX6_raiseFirsts_12 : decode cX6_raiseFirsts 12 = .ok (.if_icmp .ge 173, 3) := by decide +kernel
theorem dX6_raiseFirsts_15 : decode cX6_raiseFirsts 15 = .ok (.aload_n 0, 1) := by decide +kernel
theorem dX6_raiseFirsts_16 : decode cX6_raiseFirsts 16 = .ok (.iload_n 2, 1) := by decide +kernel
theorem dX6_raiseFirsts_17 : decode cX6_raiseFirsts 17 = .ok (.invokevirtual 105, 3) := by decide +kernel
theorem dX6_raiseFirsts_20 : decode cX6_raiseFirsts 20 = .ok (.istore_n 3, 1) := by decide +kernel
theorem dX6_raiseFirsts_21 : decode cX6_raiseFirsts 21 = .ok (.iconst 0, 1) := by decide +kernel
theorem dX6_raiseFirsts_22 : decode cX6_raiseFirsts 22 = .ok (.istore 4, 2) := by decide +kernel
theorem dX6_raiseFirsts_24 : decode cX6_raiseFirsts 24 = .ok (.iload 4, 2) := by decide +kernel
theorem dX6_raiseFirsts_26 : decode cX6_raiseFirsts 26 = .ok (.aload_n 0, 1) := by decide +kernel
theorem dX6_raiseFirsts_27 : decode cX6_raiseFirsts 27 = .ok (.getfield 37, 3) := by decide +kernel
theorem dX6_raiseFirsts_30 : decode cX6_raiseFirsts 30 = .ok (.getfield 70, 3) := by decide +kernel
theorem dX6_raiseFirsts_33 : decode cX6_raiseFirsts 33 = .ok (.if_icmp .ge 146, 3) := by decide +kernel
theorem dX6_raiseFirsts_36 : decode cX6_raiseFirsts 36 = .ok (.iload_n 3, 1) := by decide +kernel
theorem dX6_raiseFirsts_37 : decode cX6_raiseFirsts 37 = .ok (.iload 4, 2) := by decide +kernel
theorem dX6_raiseFirsts_39 : decode cX6_raiseFirsts 39 = .ok (.invokestatic 86, 3) := by decide +kernel
theorem dX6_raiseFirsts_42 : decode cX6_raiseFirsts 42 = .ok (.ifCond .ne 6, 3) := by decide +kernel
theorem dX6_raiseFirsts_45 : decode cX6_raiseFirsts 45 = .ok (.goto 128, 3) := by decide +kernel
theorem dX6_raiseFirsts_48 : decode cX6_raiseFirsts 48 = .ok (.iconst 0, 1) := by decide +kernel
theorem dX6_raiseFirsts_49 : decode cX6_raiseFirsts 49 = .ok (.istore 5, 2) := by decide +kernel
theorem dX6_raiseFirsts_51 : decode cX6_raiseFirsts 51 = .ok (.iconst 0, 1) := by decide +kernel
theorem dX6_raiseFirsts_52 : decode cX6_raiseFirsts 52 = .ok (.istore 6, 2) := by decide +kernel
theorem dX6_raiseFirsts_54 : decode cX6_raiseFirsts 54 = .ok (.iload 6, 2) := by decide +kernel
theorem dX6_raiseFirsts_56 : decode cX6_raiseFirsts 56 = .ok (.aload_n 0, 1) := by decide +kernel
theorem dX6_raiseFirsts_57 : decode cX6_raiseFirsts 57 = .ok (.getfield 37, 3) := by decide +kernel
theorem dX6_raiseFirsts_60 : decode cX6_raiseFirsts 60 = .ok (.getfield 70, 3) := by decide +kernel
theorem dX6_raiseFirsts_63 : decode cX6_raiseFirsts 63 = .ok (.if_icmp .ge 73, 3) := by decide +kernel
theorem dX6_raiseFirsts_66 : decode cX6_raiseFirsts 66 = .ok (.iload_n 3, 1) := by decide +kernel
theorem dX6_raiseFirsts_67 : decode cX6_raiseFirsts 67 = .ok (.iload 6, 2) := by decide +kernel
theorem dX6_raiseFirsts_69 : decode cX6_raiseFirsts 69 = .ok (.invokestatic 86, 3) := by decide +kernel
theorem dX6_raiseFirsts_72 : decode cX6_raiseFirsts 72 = .ok (.ifCond .eq 58, 3) := by decide +kernel
theorem dX6_raiseFirsts_75 : decode cX6_raiseFirsts 75 = .ok (.aload_n 0, 1) := by decide +kernel
theorem dX6_raiseFirsts_76 : decode cX6_raiseFirsts 76 = .ok (.getfield 37, 3) := by decide +kernel
theorem dX6_raiseFirsts_79 : decode cX6_raiseFirsts 79 = .ok (.getfield 83, 3) := by decide +kernel
theorem dX6_raiseFirsts_82 : decode cX6_raiseFirsts 82 = .ok (.iload 6, 2) := by decide +kernel
theorem dX6_raiseFirsts_84 : decode cX6_raiseFirsts 84 = .ok (.iaload, 1) := by decide +kernel
theorem dX6_raiseFirsts_85 : decode cX6_raiseFirsts 85 = .ok (.aload_n 0, 1) := by decide +kernel
theorem dX6_raiseFirsts_86 : decode cX6_raiseFirsts 86 = .ok (.getfield 37, 3) := by decide +kernel
theorem dX6_raiseFirsts_89 : decode cX6_raiseFirsts 89 = .ok (.getfield 83, 3) := by decide +kernel
theorem dX6_raiseFirsts_92 : decode cX6_raiseFirsts 92 = .ok (.iload 4, 2) := by decide +kernel
theorem dX6_raiseFirsts_94 : decode cX6_raiseFirsts 94 = .ok (.iaload, 1) := by decide +kernel
theorem dX6_raiseFirsts_95 : decode cX6_raiseFirsts 95 = .ok (.if_icmp .ne 35, 3) := by decide +kernel
theorem dX6_raiseFirsts_98 : decode cX6_raiseFirsts 98 = .ok (.aload_n 0, 1) := by decide +kernel
theorem dX6_raiseFirsts_99 : decode cX6_raiseFirsts 99 = .ok (.getfield 15, 3) := by decide +kernel
theorem dX6_raiseFirsts_102 : decode cX6_raiseFirsts 102 = .ok (.iload 6, 2) := by decide +kernel
theorem dX6_raiseFirsts_104 : decode cX6_raiseFirsts 104 = .ok (.iaload, 1) := by decide +kernel
theorem dX6_raiseFirsts_105 : decode cX6_raiseFirsts 105 = .ok (.aload_n 0, 1) := by decide +kernel
theorem dX6_raiseFirsts_106 : decode cX6_raiseFirsts 106 = .ok (.getfield 15, 3) := by decide +kernel
theorem dX6_raiseFirsts_109 : decode cX6_raiseFirsts 109 = .ok (.iload 4, 2) := by decide +kernel
theorem dX6_raiseFirsts_111 : decode cX6_raiseFirsts 111 = .ok (.iaload, 1) := by decide +kernel
theorem dX6_raiseFirsts_112 : decode cX6_raiseFirsts 112 = .ok (.if_icmp .lt 18, 3) := by decide +kernel
theorem dX6_raiseFirsts_115 : decode cX6_raiseFirsts 115 = .ok (.iload 5, 2) := by decide +kernel
theorem dX6_raiseFirsts_117 : decode cX6_raiseFirsts 117 = .ok (.aload_n 0, 1) := by decide +kernel
theorem dX6_raiseFirsts_118 : decode cX6_raiseFirsts 118 = .ok (.getfield 37, 3) := by decide +kernel
theorem dX6_raiseFirsts_121 : decode cX6_raiseFirsts 121 = .ok (.getfield 109, 3) := by decide +kernel
theorem dX6_raiseFirsts_124 : decode cX6_raiseFirsts 124 = .ok (.iload 6, 2) := by decide +kernel
theorem dX6_raiseFirsts_126 : decode cX6_raiseFirsts 126 = .ok (.iaload, 1) := by decide +kernel
theorem dX6_raiseFirsts_127 : decode cX6_raiseFirsts 127 = .ok (.iadd, 1) := by decide +kernel
theorem dX6_raiseFirsts_128 : decode cX6_raiseFirsts 128 = .ok (.istore 5, 2) := by decide +kernel
theorem dX6_raiseFirsts_130 : decode cX6_raiseFirsts 130 = .ok (.iinc 6 1, 3) := by decide +kernel
theorem dX6_raiseFirsts_133 : decode cX6_raiseFirsts 133 = .ok (.goto (-79), 3) := by decide +kernel
theorem dX6_raiseFirsts_136 : decode cX6_raiseFirsts 136 = .ok (.aload_n 0, 1) := by decide +kernel
theorem dX6_raiseFirsts_137 : decode cX6_raiseFirsts 137 = .ok (.getfield 15, 3) := by decide +kernel
theorem dX6_raiseFirsts_140 : decode cX6_raiseFirsts 140 = .ok (.iload 4, 2) := by decide +kernel
theorem dX6_raiseFirsts_142 : decode cX6_raiseFirsts 142 = .ok (.iaload, 1) := by decide +kernel
theorem dX6_raiseFirsts_143 : decode cX6_raiseFirsts 143 = .ok (.iload 5, 2) := by decide +kernel
theorem dX6_raiseFirsts_145 : decode cX6_raiseFirsts 145 = .ok (.iadd, 1) := by decide +kernel
theorem dX6_raiseFirsts_146 : decode cX6_raiseFirsts 146 = .ok (.aload_n 0, 1) := by decide +kernel
theorem dX6_raiseFirsts_147 : decode cX6_raiseFirsts 147 = .ok (.getfield 15, 3) := by decide +kernel
theorem dX6_raiseFirsts_150 : decode cX6_raiseFirsts 150 = .ok (.iload_n 2, 1) := by decide +kernel
theorem dX6_raiseFirsts_151 : decode cX6_raiseFirsts 151 = .ok (.iaload, 1) := by decide +kernel
theorem dX6_raiseFirsts_152 : decode cX6_raiseFirsts 152 = .ok (.if_icmp .le 21, 3) := by decide +kernel
theorem dX6_raiseFirsts_155 : decode cX6_raiseFirsts 155 = .ok (.aload_n 0, 1) := by decide +kernel
theorem dX6_raiseFirsts_156 : decode cX6_raiseFirsts 156 = .ok (.getfield 15, 3) := by decide +kernel
theorem dX6_raiseFirsts_159 : decode cX6_raiseFirsts 159 = .ok (.iload_n 2, 1) := by decide +kernel
theorem dX6_raiseFirsts_160 : decode cX6_raiseFirsts 160 = .ok (.aload_n 0, 1) := by decide +kernel
theorem dX6_raiseFirsts_161 : decode cX6_raiseFirsts 161 = .ok (.getfield 15, 3) := by decide +kernel
theorem dX6_raiseFirsts_164 : decode cX6_raiseFirsts 164 = .ok (.iload 4, 2) := by decide +kernel
theorem dX6_raiseFirsts_166 : decode cX6_raiseFirsts 166 = .ok (.iaload, 1) := by decide +kernel
theorem dX6_raiseFirsts_167 : decode cX6_raiseFirsts 167 = .ok (.iload 5, 2) := by decide +kernel
theorem dX6_raiseFirsts_169 : decode cX6_raiseFirsts 169 = .ok (.iadd, 1) := by decide +kernel
theorem dX6_raiseFirsts_170 : decode cX6_raiseFirsts 170 = .ok (.iastore, 1) := by decide +kernel
theorem dX6_raiseFirsts_171 : decode cX6_raiseFirsts 171 = .ok (.iconst 1, 1) := by decide +kernel
theorem dX6_raiseFirsts_172 : decode cX6_raiseFirsts 172 = .ok (.istore_n 1, 1) := by decide +kernel
theorem dX6_raiseFirsts_173 : decode cX6_raiseFirsts 173 = .ok (.iinc 4 1, 3) := by decide +kernel
theorem dX6_raiseFirsts_176 : decode cX6_raiseFirsts 176 = .ok (.goto (-152), 3) := by decide +kernel
theorem dX6_raiseFirsts_179 : decode cX6_raiseFirsts 179 = .ok (.iinc 2 1, 3) := by decide +kernel
theorem dX6_raiseFirsts_182 : decode cX6_raiseFirsts 182 = .ok (.goto (-178), 3) := by decide +kernel
theorem dX6_raiseFirsts_185 : decode cX6_raiseFirsts 185 = .ok (.iload_n 1, 1) := by decide +kernel
theorem dX6_raiseFirsts_186 : decode cX6_raiseFirsts 186 = .ok (.ireturn, 1) := by decide +kernel
set_option maxRecDepth 20000 in
theorem ggX6_lowerLasts_X7_contains : GoodIn wsX6_lowerLasts wsX7_contains := goodIn_r _ [9] (by decide +kernel) (by decide +kernel)
set_option maxRecDepth 20000 in
theorem gX6_lowerLasts_X7_contains_n86 : GoodIn wsX6_lowerLasts (wsX7_contains) := ggX6_lowerLasts_X7_contains
theorem dX6_lowerLasts_0 : decode cX6_lowerLasts 0 = .ok (.iconst 0, 1) := by decide +kernel
theorem dX6_lowerLasts_1 : decode cX6_lowerLasts 1 = .ok (.istore_n 1, 1) := by decide +kernel
theorem dX6_lowerLasts_2 : decode cX6_lowerLasts 2 = .ok (.iconst 0, 1) := by decide +kernel
theorem dX6_lowerLasts_3 : decode cX6_lowerLasts 3 = .ok (.istore_n 2, 1) := by decide +kernel
theorem dX6_lowerLasts_4 : decode cX6_lowerLasts 4 = .ok (.iload_n 2, 1) := by decide +kernel
theorem dX6_lowerLasts_5 : decode cX6_lowerLasts 5 = .ok (.aload_n 0, 1) := by decide +kernel
theorem dX6_lowerLasts_6 : decode cX6_lowerLasts 6 = .ok (.getfield 37, 3) := by decide +kernel
theorem dX6_lowerLasts_9 : decode cX6_lowerLasts 9 = .ok (.getfield 70, 3) := by decide +kernel
theorem dX6_lowerLasts_12 : decode cX6_lowerLasts 12 = .ok (.if_icmp .ge 170, 3) := by decide +kernel
theorem dX6_lowerLasts_15 : decode cX6_lowerLasts 15 = .ok (.iconst 0, 1) := by decide +kernel
theorem dX6_lowerLasts_16 : decode cX6_lowerLasts 16 = .ok (.istore_n 3, 1) := by decide +kernel
theorem dX6_lowerLasts_17 : decode cX6_lowerLasts 17 = .ok (.iload_n 3, 1) := by decide +kernel
theorem dX6_lowerLasts_18 : decode cX6_lowerLasts 18 = .ok (.aload_n 0, 1) := by decide +kernel
theorem dX6_lowerLasts_19 : decode cX6_lowerLasts 19 = .ok (.getfield 37, 3) := by decide +kernel
theorem dX6_lowerLasts_22 : decode cX6_lowerLasts 22 = .ok (.getfield 70, 3) := by decide +kernel
theorem dX6_lowerLasts_25 : decode cX6_lowerLasts 25 = .ok (.if_icmp .ge 151, 3) := by decide +kernel
theorem dX6_lowerLasts_28 : decode cX6_lowerLasts 28 = .ok (.aload_n 0, 1) := by decide +kernel
theorem dX6_lowerLasts_29 : decode cX6_lowerLasts 29 = .ok (.getfield 22, 3) := by decide +kernel
theorem dX6_lowerLasts_32 : decode cX6_lowerLasts 32 = .ok (.iload_n 2, 1) := by decide +kernel
theorem dX6_lowerLasts_33 : decode cX6_lowerLasts 33 = .ok (.iaload, 1) := by decide +kernel
theorem dX6_lowerLasts_34 : decode cX6_lowerLasts 34 = .ok (.iload_n 3, 1) := by decide +kernel
theorem dX6_lowerLasts_35 : decode cX6_lowerLasts 35 = .ok (.invokestatic 86, 3) := by decide +kernel
theorem dX6_lowerLasts_38 : decode cX6_lowerLasts 38 = .ok (.ifCond .ne 6, 3) := by decide +kernel
theorem dX6_lowerLasts_41 : decode cX6_lowerLasts 41 = .ok (.goto 129, 3) := by decide +kernel
theorem dX6_lowerLasts_44 : decode cX6_lowerLasts 44 = .ok (.iconst 0, 1) := by decide +kernel
theorem dX6_lowerLasts_45 : decode cX6_lowerLasts 45 = .ok (.istore 4, 2) := by decide +kernel
theorem dX6_lowerLasts_47 : decode cX6_lowerLasts 47 = .ok (.iconst 0, 1) := by decide +kernel
theorem dX6_lowerLasts_48 : decode cX6_lowerLasts 48 = .ok (.istore 5, 2) := by decide +kernel
theorem dX6_lowerLasts_50 : decode cX6_lowerLasts 50 = .ok (.iload 5, 2) := by decide +kernel
theorem dX6_lowerLasts_52 : decode cX6_lowerLasts 52 = .ok (.aload_n 0, 1) := by decide +kernel
theorem dX6_lowerLasts_53 : decode cX6_lowerLasts 53 = .ok (.getfield 37, 3) := by decide +kernel
theorem dX6_lowerLasts_56 : decode cX6_lowerLasts 56 = .ok (.getfield 70, 3) := by decide +kernel
theorem dX6_lowerLasts_59 : decode cX6_lowerLasts 59 = .ok (.if_icmp .ge 76, 3) := by decide +kernel
theorem dX6_lowerLasts_62 : decode cX6_lowerLasts 62 = .ok (.aload_n 0, 1) := by decide +kernel
theorem dX6_lowerLasts_63 : decode cX6_lowerLasts 63 = .ok (.getfield 22, 3) := by decide +kernel
theorem dX6_lowerLasts_66 : decode cX6_lowerLasts 66 = .ok (.iload_n 2, 1) := by decide +kernel
theorem dX6_lowerLasts_67 : decode cX6_lowerLasts 67 = .ok (.iaload, 1) := by decide +kernel
theorem dX6_lowerLasts_68 : decode cX6_lowerLasts 68 = .ok (.iload 5, 2) := by decide +kernel
theorem dX6_lowerLasts_70 : decode cX6_lowerLasts 70 = .ok (.invokestatic 86, 3) := by decide +kernel
theorem dX6_lowerLasts_73 : decode cX6_lowerLasts 73 = .ok (.ifCond .eq 56, 3) := by decide +kernel
theorem dX6_lowerLasts_76 : decode cX6_lowerLasts 76 = .ok (.aload_n 0, 1) := by decide +kernel
theorem dX6_lowerLasts_77 : decode cX6_lowerLasts 77 = .ok (.getfield 37, 3) := by decide +kernel
theorem dX6_lowerLasts_80 : decode cX6_lowerLasts 80 = .ok (.getfield 83, 3) := by decide +kernel
theorem dX6_lowerLasts_83 : decode cX6_lowerLasts 83 = .ok (.iload 5, 2) := by decide +kernel
theorem dX6_lowerLasts_85 : decode cX6_lowerLasts 85 = .ok (.iaload, 1) := by decide +kernel
theorem dX6_lowerLasts_86 : decode cX6_lowerLasts 86 = .ok (.aload_n 0, 1) := by decide +kernel
theorem dX6_lowerLasts_87 : decode cX6_lowerLasts 87 = .ok (.getfield 37, 3) := by decide +kernel
theorem dX6_lowerLasts_90 : decode cX6_lowerLasts 90 = .ok (.getfield 83, 3) := by decide +kernel
theorem dX6_lowerLasts_93 : decode cX6_lowerLasts 93 = .ok (.iload_n 3, 1) := by decide +kernel
theorem dX6_lowerLasts_94 : decode cX6_lowerLasts 94 = .ok (.iaload, 1) := by decide +kernel
theorem dX6_lowerLasts_95 : decode cX6_lowerLasts 95 = .ok (.if_icmp .ne 34, 3) := by decide +kernel
theorem dX6_lowerLasts_98 : decode cX6_lowerLasts 98 = .ok (.aload_n 0, 1) := by decide +kernel
theorem dX6_lowerLasts_99 : decode cX6_lowerLasts 99 = .ok (.getfield 19, 3) := by decide +kernel
theorem dX6_lowerLasts_102 : decode cX6_lowerLasts 102 = .ok (.iload 5, 2) := by decide +kernel
theorem dX6_lowerLasts_104 : decode cX6_lowerLasts 104 = .ok (.iaload, 1) := by decide +kernel
theorem dX6_lowerLasts_105 : decode cX6_lowerLasts 105 = .ok (.aload_n 0, 1) := by decide +kernel
theorem dX6_lowerLasts_106 : decode cX6_lowerLasts 106 = .ok (.getfield 19, 3) := by decide +kernel
theorem dX6_lowerLasts_109 : decode cX6_lowerLasts 109 = .ok (.iload_n 3, 1) := by decide +kernel
theorem dX6_lowerLasts_110 : decode cX6_lowerLasts 110 = .ok (.iaload, 1) := by decide +kernel
theorem dX6_lowerLasts_111 : decode cX6_lowerLasts 111 = .ok (.if_icmp .gt 18, 3) := by decide +kernel
theorem dX6_lowerLasts_114 : decode cX6_lowerLasts 114 = .ok (.iload 4, 2) := by decide +kernel
theorem dX6_lowerLasts_116 : decode cX6_lowerLasts 116 = .ok (.aload_n 0, 1) := by decide +kernel
theorem dX6_lowerLasts_117 : decode cX6_lowerLasts 117 = .ok (.getfield 37, 3) := by decide +kernel
theorem dX6_lowerLasts_120 : decode cX6_lowerLasts 120 = .ok (.getfield 109, 3) := by decide +kernel
theorem dX6_lowerLasts_123 : decode cX6_lowerLasts 123 = .ok (.iload 5, 2) := by decide +kernel
theorem dX6_lowerLasts_125 : decode cX6_lowerLasts 125 = .ok (.iaload, 1) := by decide +kernel
theorem dX6_lowerLasts_126 : decode cX6_lowerLasts 126 = .ok (.iadd, 1) := by decide +kernel
theorem dX6_lowerLasts_127 : decode cX6_lowerLasts 127 = .ok (.istore 4, 2) := by decide +kernel
theorem dX6_lowerLasts_129 : decode cX6_lowerLasts 129 = .ok (.iinc 5 1, 3) := by decide +kernel
theorem dX6_lowerLasts_132 : decode cX6_lowerLasts 132 = .ok (.goto (-82), 3) := by decide +kernel
theorem dX6_lowerLasts_135 : decode cX6_lowerLasts 135 = .ok (.aload_n 0, 1) := by decide +kernel
theorem dX6_lowerLasts_136 : decode cX6_lowerLasts 136 = .ok (.getfield 19, 3) := by decide +kernel
theorem dX6_lowerLasts_139 : decode cX6_lowerLasts 139 = .ok (.iload_n 3, 1) := by decide +kernel
theorem dX6_lowerLasts_140 : decode cX6_lowerLasts 140 = .ok (.iaload, 1) := by decide +kernel
theorem dX6_lowerLasts_141 : decode cX6_lowerLasts 141 = .ok (.iload 4, 2) := by decide +kernel
theorem dX6_lowerLasts_143 : decode cX6_lowerLasts 143 = .ok (.isub, 1) := by decide +kernel
theorem dX6_lowerLasts_144 : decode cX6_lowerLasts 144 = .ok (.aload_n 0, 1) := by decide +kernel
theorem dX6_lowerLasts_145 : decode cX6_lowerLasts 145 = .ok (.getfield 19, 3) := by decide +kernel
theorem dX6_lowerLasts_148 : decode cX6_lowerLasts 148 = .ok (.iload_n 2, 1) := by decide +kernel
theorem dX6_lowerLasts_149 : decode cX6_lowerLasts 149 = .ok (.iaload, 1) := by decide +kernel
theorem dX6_lowerLasts_150 : decode cX6_lowerLasts 150 = .ok (.if_icmp .ge 20, 3) := by decide +kernel
theorem dX6_lowerLasts_153 : decode cX6_lowerLasts 153 = .ok (.aload_n 0, 1) := by decide +kernel
theorem dX6_lowerLasts_154 : decode cX6_lowerLasts 154 = .ok (.getfield 19, 3) := by decide +kernel
theorem dX6_lowerLasts_157 : decode cX6_lowerLasts 157 = .ok (.iload_n 2, 1) := by decide +kernel
theorem dX6_lowerLasts_158 : decode cX6_lowerLasts 158 = .ok (.aload_n 0, 1) := by decide +kernel
theorem dX6_lowerLasts_159 : decode cX6_lowerLasts 159 = .ok (.getfield 19, 3) := by decide +kernel
theorem dX6_lowerLasts_162 : decode cX6_lowerLasts 162 = .ok (.iload_n 3, 1) := by decide +kernel
theorem dX6_lowerLasts_163 : decode cX6_lowerLasts 163 = .ok (.iaload, 1) := by decide +kernel
theorem dX6_lowerLasts_164 : decode cX6_lowerLasts 164 = .ok (.iload 4, 2) := by decide +kernel
theorem dX6_lowerLasts_166 : decode cX6_lowerLasts 166 = .ok (.isub, 1) := by decide +kernel
theorem dX6_lowerLasts_167 : decode cX6_lowerLasts 167 = .ok (.iastore, 1) := by decide +kernel
theorem dX6_lowerLasts_168 : decode cX6_lowerLasts 168 = .ok (.iconst 1, 1) := by decide +kernel
theorem dX6_lowerLasts_169 : decode cX6_lowerLasts 169 = .ok (.istore_n 1, 1) := by decide +kernel
theorem dX6_lowerLasts_170 : decode cX6_lowerLasts 170 = .ok (.iinc 3 1, 3) := by decide +kernel
theorem dX6_lowerLasts_173 : decode cX6_lowerLasts 173 = .ok (.goto (-156), 3) := by decide +kernel
theorem dX6_lowerLasts_176 : decode cX6_lowerLasts 176 = .ok (.iinc 2 1, 3) := by decide +kernel
theorem dX6_lowerLasts_179 : decode cX6_lowerLasts 179 = .ok (.goto (-175), 3) := by decide +kernel
theorem dX6_lowerLasts_182 : decode cX6_lowerLasts 182 = .ok (.iload_n 1, 1) := by decide +kernel
theorem dX6_lowerLasts_183 : decode cX6_lowerLasts 183 = .ok (.ireturn, 1) := by decide +kernel
theorem dX6_putBehind_0 : decode cX6_putBehind 0 = .ok (.iload_n 2, 1) := by decide +kernel
theorem dX6_putBehind_1 : decode cX6_putBehind 1 = .ok (.aload_n 0, 1) := by decide +kernel
theorem dX6_putBehind_2 : decode cX6_putBehind 2 = .ok (.getfield 22, 3) := by decide +kernel
theorem dX6_putBehind_5 : decode cX6_putBehind 5 = .ok (.iload_n 1, 1) := by decide +kernel
theorem dX6_putBehind_6 : decode cX6_putBehind 6 = .ok (.iaload, 1) := by decide +kernel
theorem dX6_putBehind_7 : decode cX6_putBehind 7 = .ok (.iconst (-1), 1) := by decide +kernel
theorem dX6_putBehind_8 : decode cX6_putBehind 8 = .ok (.ixor, 1) := by decide +kernel
theorem dX6_putBehind_9 : decode cX6_putBehind 9 = .ok (.iand, 1) := by decide +kernel
theorem dX6_putBehind_10 : decode cX6_putBehind 10 = .ok (.ifCond .eq 7, 3) := by decide +kernel
theorem dX6_putBehind_13 : decode cX6_putBehind 13 = .ok (.iconst 1, 1) := by decide +kernel
theorem dX6_putBehind_14 : decode cX6_putBehind 14 = .ok (.goto 4, 3) := by decide +kernel
theorem dX6_putBehind_17 : decode cX6_putBehind 17 = .ok (.iconst 0, 1) := by decide +kernel
theorem dX6_putBehind_18 : decode cX6_putBehind 18 = .ok (.istore_n 3, 1) := by decide +kernel
theorem dX6_putBehind_19 : decode cX6_putBehind 19 = .ok (.aload_n 0, 1) := by decide +kernel
theorem dX6_putBehind_20 : decode cX6_putBehind 20 = .ok (.getfield 22, 3) := by decide +kernel
theorem dX6_putBehind_23 : decode cX6_putBehind 23 = .ok (.iload_n 1, 1) := by decide +kernel
theorem dX6_putBehind_24 : decode cX6_putBehind 24 = .ok (.dup2, 1) := by decide +kernel
theorem dX6_putBehind_25 : decode cX6_putBehind 25 = .ok (.iaload, 1) := by decide +kernel
theorem dX6_putBehind_26 : decode cX6_putBehind 26 = .ok (.iload_n 2, 1) := by decide +kernel
theorem dX6_putBehind_27 : decode cX6_putBehind 27 = .ok (.ior, 1) := by decide +kernel
theorem dX6_putBehind_28 : decode cX6_putBehind 28 = .ok (.iastore, 1) := by decide +kernel
theorem dX6_putBehind_29 : decode cX6_putBehind 29 = .ok (.iload_n 3, 1) := by decide +kernel
theorem dX6_putBehind_30 : decode cX6_putBehind 30 = .ok (.ireturn, 1) := by decide +kernel
set_option maxRecDepth 20000 in
theorem ggX6_putBehindAll_X7_contains : GoodIn wsX6_putBehindAll wsX7_contains := goodIn_r _ [5] (by decide +kernel) (by decide +kernel)
set_option maxRecDepth 20000 in
theorem gX6_putBehindAll_X7_contains_n86 : GoodIn wsX6_putBehindAll (wsX7_contains) := ggX6_putBehindAll_X7_contains
set_option maxRecDepth 20000 in
theorem ggX6_putBehindAll_X6_putBehind : GoodIn wsX6_putBehindAll wsX6_putBehind := goodIn_r _ [10, 11, 12, 13, 14, 15, 16, 17, 18, 19, 20] (by decide +kernel) (by decide +kernel)
set_option maxRecDepth 20000 in
theorem gX6_putBehindAll_X6_putBehind : GoodIn wsX6_putBehindAll (wsV RX6 90 RX6 yX6_putBehind wsX6_putBehind) := goodIn_app (goodIn_of _ (by decide +kernel)) ggX6_putBehindAll_X6_putBehind
theorem dX6_putBehindAll_0 : decode cX6_putBehindAll 0 = .ok (.iconst 0, 1) := by decide +kernel
theorem dX6_putBehindAll_1 : decode cX6_putBehindAll 1 = .ok (.istore_n 3, 1) := by decide +kernel
theorem dX6_putBehindAll_2 : decode cX6_putBehindAll 2 = .ok (.iconst 0, 1) := by decide +kernel
theorem dX6_putBehindAll_3 : decode cX6_putBehindAll 3 = .ok (.istore 4, 2) := by decide +kernel
theorem dX6_putBehindAll_5 : decode cX6_putBehindAll 5 = .ok (.iload 4, 2) := by decide +kernel
theorem dX6_putBehindAll_7 : decode cX6_putBehindAll 7 = .ok (.aload_n 0, 1) := by decide +kernel
theorem dX6_putBehindAll_8 : decode cX6_putBehindAll 8 = .ok (.getfield 37, 3) := by decide +kernel
theorem dX6_putBehindAll_11 : decode cX6_putBehindAll 11 = .ok (.getfield 70, 3) := by decide +kernel
theorem dX6_putBehindAll_14 : decode cX6_putBehindAll 14 = .ok (.if_icmp .ge 40, 3) := by decide +kernel
theorem dX6_putBehindAll_17 : decode cX6_putBehindAll 17 = .ok (.iload_n 1, 1) := by decide +kernel
theorem dX6_putBehindAll_18 : decode cX6_putBehindAll 18 = .ok (.iload 4, 2) := by decide +kernel
theorem dX6_putBehindAll_20 : decode cX6_putBehindAll 20 = .ok (.invokestatic 86, 3) := by decide +kernel
theorem dX6_putBehindAll_23 : decode cX6_putBehindAll 23 = .ok (.ifCond .eq 25, 3) := by decide +kernel
theorem dX6_putBehindAll_26 : decode cX6_putBehindAll 26 = .ok (.aload_n 0, 1) := by decide +kernel
theorem dX6_putBehindAll_27 : decode cX6_putBehindAll 27 = .ok (.iload 4, 2) := by decide +kernel
theorem dX6_putBehindAll_29 : decode cX6_putBehindAll 29 = .ok (.iconst 1, 1) := by decide +kernel
theorem dX6_putBehindAll_30 : decode cX6_putBehindAll 30 = .ok (.iload_n 2, 1) := by decide +kernel
theorem dX6_putBehindAll_31 : decode cX6_putBehindAll 31 = .ok (.ishl, 1) := by decide +kernel
theorem dX6_putBehindAll_32 : decode cX6_putBehindAll 32 = .ok (.invokevirtual 90, 3) := by decide +kernel
theorem dX6_putBehindAll_35 : decode cX6_putBehindAll 35 = .ok (.ifCond .ne 7, 3) := by decide +kernel
theorem dX6_putBehindAll_38 : decode cX6_putBehindAll 38 = .ok (.iload_n 3, 1) := by decide +kernel
theorem dX6_putBehindAll_39 : decode cX6_putBehindAll 39 = .ok (.ifCond .eq 7, 3) := by decide +kernel
theorem dX6_putBehindAll_42 : decode cX6_putBehindAll 42 = .ok (.iconst 1, 1) := by decide +kernel
theorem dX6_putBehindAll_43 : decode cX6_putBehindAll 43 = .ok (.goto 4, 3) := by decide +kernel
theorem dX6_putBehindAll_46 : decode cX6_putBehindAll 46 = .ok (.iconst 0, 1) := by decide +kernel
theorem dX6_putBehindAll_47 : decode cX6_putBehindAll 47 = .ok (.istore_n 3, 1) := by decide +kernel
theorem dX6_putBehindAll_48 : decode cX6_putBehindAll 48 = .ok (.iinc 4 1, 3) := by decide +kernel
theorem dX6_putBehindAll_51 : decode cX6_putBehindAll 51 = .ok (.goto (-46), 3) := by decide +kernel
theorem dX6_putBehindAll_54 : decode cX6_putBehindAll 54 = .ok (.iload_n 3, 1) := by decide +kernel
theorem dX6_putBehindAll_55 : decode cX6_putBehindAll 55 = .ok (.ireturn, 1) := by decide +kernel
set_option maxRecDepth 20000 in
theorem ggX6_aheadOf_X7_contains : GoodIn wsX6_aheadOf wsX7_contains := goodIn_r _ [6] (by decide +kernel) (by decide +kernel)
set_option maxRecDepth 20000 in
theorem gX6_aheadOf_X7_contains_n86 : GoodIn wsX6_aheadOf (wsX7_contains) := ggX6_aheadOf_X7_contains
theorem dX6_aheadOf_0 : decode cX6_aheadOf 0 = .ok (.iconst 0, 1) := by decide +kernel
theorem dX6_aheadOf_1 : decode cX6_aheadOf 1 = .ok (.istore_n 2, 1) := by decide +kernel
theorem dX6_aheadOf_2 : decode cX6_aheadOf 2 = .ok (.iconst 0, 1) := by decide +kernel
theorem dX6_aheadOf_3 : decode cX6_aheadOf 3 = .ok (.istore_n 3, 1) := by decide +kernel
theorem dX6_aheadOf_4 : decode cX6_aheadOf 4 = .ok (.iload_n 3, 1) := by decide +kernel
theorem dX6_aheadOf_5 : decode cX6_aheadOf 5 = .ok (.aload_n 0, 1) := by decide +kernel
theorem dX6_aheadOf_6 : decode cX6_aheadOf 6 = .ok (.getfield 37, 3) := by decide +kernel
theorem dX6_aheadOf_9 : decode cX6_aheadOf 9 = .ok (.getfield 70, 3) := by decide +kernel
theorem dX6_aheadOf_12 : decode cX6_aheadOf 12 = .ok (.if_icmp .ge 28, 3) := by decide +kernel
theorem dX6_aheadOf_15 : decode cX6_aheadOf 15 = .ok (.aload_n 0, 1) := by decide +kernel
theorem dX6_aheadOf_16 : decode cX6_aheadOf 16 = .ok (.getfield 22, 3) := by decide +kernel
theorem dX6_aheadOf_19 : decode cX6_aheadOf 19 = .ok (.iload_n 3, 1) := by decide +kernel
theorem dX6_aheadOf_20 : decode cX6_aheadOf 20 = .ok (.iaload, 1) := by decide +kernel
theorem dX6_aheadOf_21 : decode cX6_aheadOf 21 = .ok (.iload_n 1, 1) := by decide +kernel
theorem dX6_aheadOf_22 : decode cX6_aheadOf 22 = .ok (.invokestatic 86, 3) := by decide +kernel
theorem dX6_aheadOf_25 : decode cX6_aheadOf 25 = .ok (.ifCond .eq 9, 3) := by decide +kernel
theorem dX6_aheadOf_28 : decode cX6_aheadOf 28 = .ok (.iload_n 2, 1) := by decide +kernel
theorem dX6_aheadOf_29 : decode cX6_aheadOf 29 = .ok (.iconst 1, 1) := by decide +kernel
theorem dX6_aheadOf_30 : decode cX6_aheadOf 30 = .ok (.iload_n 3, 1) := by decide +kernel
theorem dX6_aheadOf_31 : decode cX6_aheadOf 31 = .ok (.ishl, 1) := by decide +kernel
theorem dX6_aheadOf_32 : decode cX6_aheadOf 32 = .ok (.ior, 1) := by decide +kernel
theorem dX6_aheadOf_33 : decode cX6_aheadOf 33 = .ok (.istore_n 2, 1) := by decide +kernel
theorem dX6_aheadOf_34 : decode cX6_aheadOf 34 = .ok (.iinc 3 1, 3) := by decide +kernel
theorem dX6_aheadOf_37 : decode cX6_aheadOf 37 = .ok (.goto (-33), 3) := by decide +kernel
theorem dX6_aheadOf_40 : decode cX6_aheadOf 40 = .ok (.iload_n 2, 1) := by decide +kernel
theorem dX6_aheadOf_41 : decode cX6_aheadOf 41 = .ok (.ireturn, 1) := by decide +kernel
theorem dX6_weighSets_0 : decode cX6_weighSets 0 = .ok (.aload_n 0, 1) := by decide +kernel
theorem dX6_weighSets_1 : decode cX6_weighSets 1 = .ok (.getfield 28, 3) := by decide +kernel
theorem dX6_weighSets_4 : decode cX6_weighSets 4 = .ok (.iconst 0, 1) := by decide +kernel
theorem dX6_weighSets_5 : decode cX6_weighSets 5 = .ok (.ldc 44, 2) := by decide +kernel
theorem dX6_weighSets_7 : decode cX6_weighSets 7 = .ok (.iastore, 1) := by decide +kernel
theorem dX6_weighSets_8 : decode cX6_weighSets 8 = .ok (.aload_n 0, 1) := by decide +kernel
theorem dX6_weighSets_9 : decode cX6_weighSets 9 = .ok (.getfield 31, 3) := by decide +kernel
theorem dX6_weighSets_12 : decode cX6_weighSets 12 = .ok (.iconst 0, 1) := by decide +kernel
theorem dX6_weighSets_13 : decode cX6_weighSets 13 = .ok (.ldc 112, 2) := by decide +kernel
theorem dX6_weighSets_15 : decode cX6_weighSets 15 = .ok (.iastore, 1) := by decide +kernel
theorem dX6_weighSets_16 : decode cX6_weighSets 16 = .ok (.aload_n 0, 1) := by decide +kernel
theorem dX6_weighSets_17 : decode cX6_weighSets 17 = .ok (.getfield 34, 3) := by decide +kernel
theorem dX6_weighSets_20 : decode cX6_weighSets 20 = .ok (.iconst 0, 1) := by decide +kernel
theorem dX6_weighSets_21 : decode cX6_weighSets 21 = .ok (.iconst 0, 1) := by decide +kernel
theorem dX6_weighSets_22 : decode cX6_weighSets 22 = .ok (.iastore, 1) := by decide +kernel
theorem dX6_weighSets_23 : decode cX6_weighSets 23 = .ok (.iconst 0, 1) := by decide +kernel
theorem dX6_weighSets_24 : decode cX6_weighSets 24 = .ok (.istore_n 1, 1) := by decide +kernel
theorem dX6_weighSets_25 : decode cX6_weighSets 25 = .ok (.iload_n 1, 1) := by decide +kernel
theorem dX6_weighSets_26 : decode cX6_weighSets 26 = .ok (.aload_n 0, 1) := by decide +kernel
theorem dX6_weighSets_27 : decode cX6_weighSets 27 = .ok (.getfield 37, 3) := by decide +kernel
theorem dX6_weighSets_30 : decode cX6_weighSets 30 = .ok (.getfield 70, 3) := by decide +kernel
theorem dX6_weighSets_33 : decode cX6_weighSets 33 = .ok (.if_icmp .ge 96, 3) := by decide +kernel
theorem dX6_weighSets_36 : decode cX6_weighSets 36 = .ok (.iconst 1, 1) := by decide +kernel
theorem dX6_weighSets_37 : decode cX6_weighSets 37 = .ok (.iload_n 1, 1) := by decide +kernel
theorem dX6_weighSets_38 : decode cX6_weighSets 38 = .ok (.ishl, 1) := by decide +kernel
theorem dX6_weighSets_39 : decode cX6_weighSets 39 = .ok (.istore_n 2, 1) := by decide +kernel
theorem dX6_weighSets_40 : decode cX6_weighSets 40 = .ok (.iconst 0, 1) := by decide +kernel
theorem dX6_weighSets_41 : decode cX6_weighSets 41 = .ok (.istore_n 3, 1) := by decide +kernel
theorem dX6_weighSets_42 : decode cX6_weighSets 42 = .ok (.iload_n 3, 1) := by decide +kernel
theorem dX6_weighSets_43 : decode cX6_weighSets 43 = .ok (.iload_n 2, 1) := by decide +kernel
theorem dX6_weighSets_44 : decode cX6_weighSets 44 = .ok (.if_icmp .ge 79, 3) := by decide +kernel
theorem dX6_weighSets_47 : decode cX6_weighSets 47 = .ok (.aload_n 0, 1) := by decide +kernel
theorem dX6_weighSets_48 : decode cX6_weighSets 48 = .ok (.getfield 28, 3) := by decide +kernel
theorem dX6_weighSets_51 : decode cX6_weighSets 51 = .ok (.iload_n 2, 1) := by decide +kernel
theorem dX6_weighSets_52 : decode cX6_weighSets 52 = .ok (.iload_n 3, 1) := by decide +kernel
theorem dX6_weighSets_53 : decode cX6_weighSets 53 = .ok (.ior, 1) := by decide +kernel
theorem dX6_weighSets_54 : decode cX6_weighSets 54 = .ok (.aload_n 0, 1) := by decide +kernel
theorem dX6_weighSets_55 : decode cX6_weighSets 55 = .ok (.getfield 28, 3) := by decide +kernel
theorem dX6_weighSets_58 : decode cX6_weighSets 58 = .ok (.iload_n 3, 1) := by decide +kernel
theorem dX6_weighSets_59 : decode cX6_weighSets 59 = .ok (.iaload, 1) := by decide +kernel
theorem dX6_weighSets_60 : decode cX6_weighSets 60 = .ok (.aload_n 0, 1) := by decide +kernel
theorem dX6_weighSets_61 : decode cX6_weighSets 61 = .ok (.getfield 15, 3) := by decide +kernel
theorem dX6_weighSets_64 : decode cX6_weighSets 64 = .ok (.iload_n 1, 1) := by decide +kernel
theorem dX6_weighSets_65 : decode cX6_weighSets 65 = .ok (.iaload, 1) := by decide +kernel
theorem dX6_weighSets_66 : decode cX6_weighSets 66 = .ok (.invokestatic 113, 3) := by decide +kernel
theorem dX6_weighSets_69 : decode cX6_weighSets 69 = .ok (.iastore, 1) := by decide +kernel
theorem dX6_weighSets_70 : decode cX6_weighSets 70 = .ok (.aload_n 0, 1) := by decide +kernel
theorem dX6_weighSets_71 : decode cX6_weighSets 71 = .ok (.getfield 31, 3) := by decide +kernel
theorem dX6_weighSets_74 : decode cX6_weighSets 74 = .ok (.iload_n 2, 1) := by decide +kernel
theorem dX6_weighSets_75 : decode cX6_weighSets 75 = .ok (.iload_n 3, 1) := by decide +kernel
theorem dX6_weighSets_76 : decode cX6_weighSets 76 = .ok (.ior, 1) := by decide +kernel
theorem dX6_weighSets_77 : decode cX6_weighSets 77 = .ok (.aload_n 0, 1) := by decide +kernel
theorem dX6_weighSets_78 : decode cX6_weighSets 78 = .ok (.getfield 31, 3) := by decide +kernel
theorem dX6_weighSets_81 : decode cX6_weighSets 81 = .ok (.iload_n 3, 1) := by decide +kernel
theorem dX6_weighSets_82 : decode cX6_weighSets 82 = .ok (.iaload, 1) := by decide +kernel
theorem dX6_weighSets_83 : decode cX6_weighSets 83 = .ok (.aload_n 0, 1) := by decide +kernel
theorem dX6_weighSets_84 : decode cX6_weighSets 84 = .ok (.getfield 19, 3) := by decide +kernel
theorem dX6_weighSets_87 : decode cX6_weighSets 87 = .ok (.iload_n 1, 1) := by decide +kernel
theorem dX6_weighSets_88 : decode cX6_weighSets 88 = .ok (.iaload, 1) := by decide +kernel
theorem dX6_weighSets_89 : decode cX6_weighSets 89 = .ok (.invokestatic 119, 3) := by decide +kernel
theorem dX6_weighSets_92 : decode cX6_weighSets 92 = .ok (.iastore, 1) := by decide +kernel
theorem dX6_weighSets_93 : decode cX6_weighSets 93 = .ok (.aload_n 0, 1) := by decide +kernel
theorem dX6_weighSets_94 : decode cX6_weighSets 94 = .ok (.getfield 34, 3) := by decide +kernel
theorem dX6_weighSets_97 : decode cX6_weighSets 97 = .ok (.iload_n 2, 1) := by decide +kernel
theorem dX6_weighSets_98 : decode cX6_weighSets 98 = .ok (.iload_n 3, 1) := by decide +kernel
theorem dX6_weighSets_99 : decode cX6_weighSets 99 = .ok (.ior, 1) := by decide +kernel
theorem dX6_weighSets_100 : decode cX6_weighSets 100 = .ok (.aload_n 0, 1) := by decide +kernel
theorem dX6_weighSets_101 : decode cX6_weighSets 101 = .ok (.getfield 34, 3) := by decide +kernel
theorem dX6_weighSets_104 : decode cX6_weighSets 104 = .ok (.iload_n 3, 1) := by decide +kernel
theorem dX6_weighSets_105 : decode cX6_weighSets 105 = .ok (.iaload, 1) := by decide +kernel
theorem dX6_weighSets_106 : decode cX6_weighSets 106 = .ok (.aload_n 0, 1) := by decide +kernel
theorem dX6_weighSets_107 : decode cX6_weighSets 107 = .ok (.getfield 37, 3) := by decide +kernel
theorem dX6_weighSets_110 : decode cX6_weighSets 110 = .ok (.getfield 109, 3) := by decide +kernel
theorem dX6_weighSets_113 : decode cX6_weighSets 113 = .ok (.iload_n 1, 1) := by decide +kernel
theorem dX6_weighSets_114 : decode cX6_weighSets 114 = .ok (.iaload, 1) := by decide +kernel
theorem dX6_weighSets_115 : decode cX6_weighSets 115 = .ok (.iadd, 1) := by decide +kernel
theorem dX6_weighSets_116 : decode cX6_weighSets 116 = .ok (.iastore, 1) := by decide +kernel
theorem dX6_weighSets_117 : decode cX6_weighSets 117 = .ok (.iinc 3 1, 3) := by decide +kernel
theorem dX6_weighSets_120 : decode cX6_weighSets 120 = .ok (.goto (-78), 3) := by decide +kernel
theorem dX6_weighSets_123 : decode cX6_weighSets 123 = .ok (.iinc 1 1, 3) := by decide +kernel
theorem dX6_weighSets_126 : decode cX6_weighSets 126 = .ok (.goto (-101), 3) := by decide +kernel
theorem dX6_weighSets_129 : decode cX6_weighSets 129 = .ok (.return_, 1) := by decide +kernel
set_option maxRecDepth 20000 in
theorem ggX6_someTaskPrecedesItself_X7_contains : GoodIn wsX6_someTaskPrecedesItself wsX7_contains := goodIn_r _ [6] (by decide +kernel) (by decide +kernel)
set_option maxRecDepth 20000 in
theorem gX6_someTaskPrecedesItself_X7_contains_n86 : GoodIn wsX6_someTaskPrecedesItself (wsX7_contains) := ggX6_someTaskPrecedesItself_X7_contains
theorem dX6_someTaskPrecedesItself_0 : decode cX6_someTaskPrecedesItself 0 = .ok (.iconst 0, 1) := by decide +kernel
theorem dX6_someTaskPrecedesItself_1 : decode cX6_someTaskPrecedesItself 1 = .ok (.istore_n 1, 1) := by decide +kernel
theorem dX6_someTaskPrecedesItself_2 : decode cX6_someTaskPrecedesItself 2 = .ok (.iload_n 1, 1) := by decide +kernel
theorem dX6_someTaskPrecedesItself_3 : decode cX6_someTaskPrecedesItself 3 = .ok (.aload_n 0, 1) := by decide +kernel
theorem dX6_someTaskPrecedesItself_4 : decode cX6_someTaskPrecedesItself 4 = .ok (.getfield 37, 3) := by decide +kernel
theorem dX6_someTaskPrecedesItself_7 : decode cX6_someTaskPrecedesItself 7 = .ok (.getfield 70, 3) := by decide +kernel
theorem dX6_someTaskPrecedesItself_10 : decode cX6_someTaskPrecedesItself 10 = .ok (.if_icmp .ge 24, 3) := by decide +kernel
theorem dX6_someTaskPrecedesItself_13 : decode cX6_someTaskPrecedesItself 13 = .ok (.aload_n 0, 1) := by decide +kernel
theorem dX6_someTaskPrecedesItself_14 : decode cX6_someTaskPrecedesItself 14 = .ok (.getfield 22, 3) := by decide +kernel
theorem dX6_someTaskPrecedesItself_17 : decode cX6_someTaskPrecedesItself 17 = .ok (.iload_n 1, 1) := by decide +kernel
theorem dX6_someTaskPrecedesItself_18 : decode cX6_someTaskPrecedesItself 18 = .ok (.iaload, 1) := by decide +kernel
theorem dX6_someTaskPrecedesItself_19 : decode cX6_someTaskPrecedesItself 19 = .ok (.iload_n 1, 1) := by decide +kernel
theorem dX6_someTaskPrecedesItself_20 : decode cX6_someTaskPrecedesItself 20 = .ok (.invokestatic 86, 3) := by decide +kernel
theorem dX6_someTaskPrecedesItself_23 : decode cX6_someTaskPrecedesItself 23 = .ok (.ifCond .eq 5, 3) := by decide +kernel
theorem dX6_someTaskPrecedesItself_26 : decode cX6_someTaskPrecedesItself 26 = .ok (.iconst 1, 1) := by decide +kernel
theorem dX6_someTaskPrecedesItself_27 : decode cX6_someTaskPrecedesItself 27 = .ok (.ireturn, 1) := by decide +kernel
theorem dX6_someTaskPrecedesItself_28 : decode cX6_someTaskPrecedesItself 28 = .ok (.iinc 1 1, 3) := by decide +kernel
theorem dX6_someTaskPrecedesItself_31 : decode cX6_someTaskPrecedesItself 31 = .ok (.goto (-29), 3) := by decide +kernel
theorem dX6_someTaskPrecedesItself_34 : decode cX6_someTaskPrecedesItself 34 = .ok (.iconst 0, 1) := by decide +kernel
theorem dX6_someTaskPrecedesItself_35 : decode cX6_someTaskPrecedesItself 35 = .ok (.ireturn, 1) := by decide +kernel
theorem dX6_someSetIsTooTight_0 : decode cX6_someSetIsTooTight 0 = .ok (.iconst 0, 1) := by decide +kernel
theorem dX6_someSetIsTooTight_1 : decode cX6_someSetIsTooTight 1 = .ok (.istore_n 1, 1) := by decide +kernel
theorem dX6_someSetIsTooTight_2 : decode cX6_someSetIsTooTight 2 = .ok (.iload_n 1, 1) := by decide +kernel
theorem dX6_someSetIsTooTight_3 : decode cX6_someSetIsTooTight 3 = .ok (.iconst 3, 1) := by decide +kernel
theorem dX6_someSetIsTooTight_4 : decode cX6_someSetIsTooTight 4 = .ok (.if_icmp .ge 64, 3) := by decide +kernel
theorem dX6_someSetIsTooTight_7 : decode cX6_someSetIsTooTight 7 = .ok (.iconst 1, 1) := by decide +kernel
theorem dX6_someSetIsTooTight_8 : decode cX6_someSetIsTooTight 8 = .ok (.istore_n 2, 1) := by decide +kernel
theorem dX6_someSetIsTooTight_9 : decode cX6_someSetIsTooTight 9 = .ok (.iload_n 2, 1) := by decide +kernel
theorem dX6_someSetIsTooTight_10 : decode cX6_someSetIsTooTight 10 = .ok (.aload_n 0, 1) := by decide +kernel
theorem dX6_someSetIsTooTight_11 : decode cX6_someSetIsTooTight 11 = .ok (.getfield 25, 3) := by decide +kernel
theorem dX6_someSetIsTooTight_14 : decode cX6_someSetIsTooTight 14 = .ok (.iload_n 1, 1) := by decide +kernel
theorem dX6_someSetIsTooTight_15 : decode cX6_someSetIsTooTight 15 = .ok (.iaload, 1) := by decide +kernel
theorem dX6_someSetIsTooTight_16 : decode cX6_someSetIsTooTight 16 = .ok (.if_icmp .gt 46, 3) := by decide +kernel
theorem dX6_someSetIsTooTight_19 : decode cX6_someSetIsTooTight 19 = .ok (.iload_n 2, 1) := by decide +kernel
theorem dX6_someSetIsTooTight_20 : decode cX6_someSetIsTooTight 20 = .ok (.aload_n 0, 1) := by decide +kernel
theorem dX6_someSetIsTooTight_21 : decode cX6_someSetIsTooTight 21 = .ok (.getfield 25, 3) := by decide +kernel
theorem dX6_someSetIsTooTight_24 : decode cX6_someSetIsTooTight 24 = .ok (.iload_n 1, 1) := by decide +kernel
theorem dX6_someSetIsTooTight_25 : decode cX6_someSetIsTooTight 25 = .ok (.iaload, 1) := by decide +kernel
theorem dX6_someSetIsTooTight_26 : decode cX6_someSetIsTooTight 26 = .ok (.iconst (-1), 1) := by decide +kernel
theorem dX6_someSetIsTooTight_27 : decode cX6_someSetIsTooTight 27 = .ok (.ixor, 1) := by decide +kernel
theorem dX6_someSetIsTooTight_28 : decode cX6_someSetIsTooTight 28 = .ok (.iand, 1) := by decide +kernel
theorem dX6_someSetIsTooTight_29 : decode cX6_someSetIsTooTight 29 = .ok (.ifCond .ne 27, 3) := by decide +kernel
theorem dX6_someSetIsTooTight_32 : decode cX6_someSetIsTooTight 32 = .ok (.aload_n 0, 1) := by decide +kernel
theorem dX6_someSetIsTooTight_33 : decode cX6_someSetIsTooTight 33 = .ok (.getfield 28, 3) := by decide +kernel
theorem dX6_someSetIsTooTight_36 : decode cX6_someSetIsTooTight 36 = .ok (.iload_n 2, 1) := by decide +kernel
theorem dX6_someSetIsTooTight_37 : decode cX6_someSetIsTooTight 37 = .ok (.iaload, 1) := by decide +kernel
theorem dX6_someSetIsTooTight_38 : decode cX6_someSetIsTooTight 38 = .ok (.aload_n 0, 1) := by decide +kernel
theorem dX6_someSetIsTooTight_39 : decode cX6_someSetIsTooTight 39 = .ok (.getfield 34, 3) := by decide +kernel
theorem dX6_someSetIsTooTight_42 : decode cX6_someSetIsTooTight 42 = .ok (.iload_n 2, 1) := by decide +kernel
theorem dX6_someSetIsTooTight_43 : decode cX6_someSetIsTooTight 43 = .ok (.iaload, 1) := by decide +kernel
theorem dX6_someSetIsTooTight_44 : decode cX6_someSetIsTooTight 44 = .ok (.iadd, 1) := by decide +kernel
theorem dX6_someSetIsTooTight_45 : decode cX6_someSetIsTooTight 45 = .ok (.aload_n 0, 1) := by decide +kernel
theorem dX6_someSetIsTooTight_46 : decode cX6_someSetIsTooTight 46 = .ok (.getfield 31, 3) := by decide +kernel
theorem dX6_someSetIsTooTight_49 : decode cX6_someSetIsTooTight 49 = .ok (.iload_n 2, 1) := by decide +kernel
theorem dX6_someSetIsTooTight_50 : decode cX6_someSetIsTooTight 50 = .ok (.iaload, 1) := by decide +kernel
theorem dX6_someSetIsTooTight_51 : decode cX6_someSetIsTooTight 51 = .ok (.if_icmp .le 5, 3) := by decide +kernel
theorem dX6_someSetIsTooTight_54 : decode cX6_someSetIsTooTight 54 = .ok (.iconst 1, 1) := by decide +kernel
theorem dX6_someSetIsTooTight_55 : decode cX6_someSetIsTooTight 55 = .ok (.ireturn, 1) := by decide +kernel
theorem dX6_someSetIsTooTight_56 : decode cX6_someSetIsTooTight 56 = .ok (.iinc 2 1, 3) := by decide +kernel
theorem dX6_someSetIsTooTight_59 : decode cX6_someSetIsTooTight 59 = .ok (.goto (-50), 3) := by decide +kernel
theorem dX6_someSetIsTooTight_62 : decode cX6_someSetIsTooTight 62 = .ok (.iinc 1 1, 3) := by decide +kernel
theorem dX6_someSetIsTooTight_65 : decode cX6_someSetIsTooTight 65 = .ok (.goto (-63), 3) := by decide +kernel
theorem dX6_someSetIsTooTight_68 : decode cX6_someSetIsTooTight 68 = .ok (.iconst 0, 1) := by decide +kernel
theorem dX6_someSetIsTooTight_69 : decode cX6_someSetIsTooTight 69 = .ok (.ireturn, 1) := by decide +kernel
theorem dX6_pairTells_0 : decode cX6_pairTells 0 = .ok (.iload_n 1, 1) := by decide +kernel
theorem dX6_pairTells_1 : decode cX6_pairTells 1 = .ok (.iload_n 2, 1) := by decide +kernel
theorem dX6_pairTells_2 : decode cX6_pairTells 2 = .ok (.if_icmp .eq 63, 3) := by decide +kernel
theorem dX6_pairTells_5 : decode cX6_pairTells 5 = .ok (.aload_n 0, 1) := by decide +kernel
theorem dX6_pairTells_6 : decode cX6_pairTells 6 = .ok (.getfield 37, 3) := by decide +kernel
theorem dX6_pairTells_9 : decode cX6_pairTells 9 = .ok (.getfield 83, 3) := by decide +kernel
theorem dX6_pairTells_12 : decode cX6_pairTells 12 = .ok (.iload_n 1, 1) := by decide +kernel
theorem dX6_pairTells_13 : decode cX6_pairTells 13 = .ok (.iaload, 1) := by decide +kernel
theorem dX6_pairTells_14 : decode cX6_pairTells 14 = .ok (.aload_n 0, 1) := by decide +kernel
theorem dX6_pairTells_15 : decode cX6_pairTells 15 = .ok (.getfield 37, 3) := by decide +kernel
theorem dX6_pairTells_18 : decode cX6_pairTells 18 = .ok (.getfield 83, 3) := by decide +kernel
theorem dX6_pairTells_21 : decode cX6_pairTells 21 = .ok (.iload_n 2, 1) := by decide +kernel
theorem dX6_pairTells_22 : decode cX6_pairTells 22 = .ok (.iaload, 1) := by decide +kernel
theorem dX6_pairTells_23 : decode cX6_pairTells 23 = .ok (.if_icmp .ne 42, 3) := by decide +kernel
theorem dX6_pairTells_26 : decode cX6_pairTells 26 = .ok (.aload_n 0, 1) := by decide +kernel
theorem dX6_pairTells_27 : decode cX6_pairTells 27 = .ok (.getfield 15, 3) := by decide +kernel
theorem dX6_pairTells_30 : decode cX6_pairTells 30 = .ok (.iload_n 2, 1) := by decide +kernel
theorem dX6_pairTells_31 : decode cX6_pairTells 31 = .ok (.iaload, 1) := by decide +kernel
theorem dX6_pairTells_32 : decode cX6_pairTells 32 = .ok (.aload_n 0, 1) := by decide +kernel
theorem dX6_pairTells_33 : decode cX6_pairTells 33 = .ok (.getfield 37, 3) := by decide +kernel
theorem dX6_pairTells_36 : decode cX6_pairTells 36 = .ok (.getfield 109, 3) := by decide +kernel
theorem dX6_pairTells_39 : decode cX6_pairTells 39 = .ok (.iload_n 2, 1) := by decide +kernel
theorem dX6_pairTells_40 : decode cX6_pairTells 40 = .ok (.iaload, 1) := by decide +kernel
theorem dX6_pairTells_41 : decode cX6_pairTells 41 = .ok (.iadd, 1) := by decide +kernel
theorem dX6_pairTells_42 : decode cX6_pairTells 42 = .ok (.aload_n 0, 1) := by decide +kernel
theorem dX6_pairTells_43 : decode cX6_pairTells 43 = .ok (.getfield 37, 3) := by decide +kernel
theorem dX6_pairTells_46 : decode cX6_pairTells 46 = .ok (.getfield 109, 3) := by decide +kernel
theorem dX6_pairTells_49 : decode cX6_pairTells 49 = .ok (.iload_n 1, 1) := by decide +kernel
theorem dX6_pairTells_50 : decode cX6_pairTells 50 = .ok (.iaload, 1) := by decide +kernel
theorem dX6_pairTells_51 : decode cX6_pairTells 51 = .ok (.iadd, 1) := by decide +kernel
theorem dX6_pairTells_52 : decode cX6_pairTells 52 = .ok (.aload_n 0, 1) := by decide +kernel
theorem dX6_pairTells_53 : decode cX6_pairTells 53 = .ok (.getfield 19, 3) := by decide +kernel
theorem dX6_pairTells_56 : decode cX6_pairTells 56 = .ok (.iload_n 1, 1) := by decide +kernel
theorem dX6_pairTells_57 : decode cX6_pairTells 57 = .ok (.iaload, 1) := by decide +kernel
theorem dX6_pairTells_58 : decode cX6_pairTells 58 = .ok (.if_icmp .le 7, 3) := by decide +kernel
theorem dX6_pairTells_61 : decode cX6_pairTells 61 = .ok (.iconst 1, 1) := by decide +kernel
theorem dX6_pairTells_62 : decode cX6_pairTells 62 = .ok (.goto 4, 3) := by decide +kernel
theorem dX6_pairTells_65 : decode cX6_pairTells 65 = .ok (.iconst 0, 1) := by decide +kernel
theorem dX6_pairTells_66 : decode cX6_pairTells 66 = .ok (.ireturn, 1) := by decide +kernel
theorem dX6_setTellsBefore_0 : decode cX6_setTellsBefore 0 = .ok (.iload_n 1, 1) := by decide +kernel
theorem dX6_setTellsBefore_1 : decode cX6_setTellsBefore 1 = .ok (.iconst 1, 1) := by decide +kernel
theorem dX6_setTellsBefore_2 : decode cX6_setTellsBefore 2 = .ok (.iload_n 2, 1) := by decide +kernel
theorem dX6_setTellsBefore_3 : decode cX6_setTellsBefore 3 = .ok (.ishl, 1) := by decide +kernel
theorem dX6_setTellsBefore_4 : decode cX6_setTellsBefore 4 = .ok (.ior, 1) := by decide +kernel
theorem dX6_setTellsBefore_5 : decode cX6_setTellsBefore 5 = .ok (.istore_n 3, 1) := by decide +kernel
theorem dX6_setTellsBefore_6 : decode cX6_setTellsBefore 6 = .ok (.aload_n 0, 1) := by decide +kernel
theorem dX6_setTellsBefore_7 : decode cX6_setTellsBefore 7 = .ok (.getfield 28, 3) := by decide +kernel
theorem dX6_setTellsBefore_10 : decode cX6_setTellsBefore 10 = .ok (.iload_n 3, 1) := by decide +kernel
theorem dX6_setTellsBefore_11 : decode cX6_setTellsBefore 11 = .ok (.iaload, 1) := by decide +kernel
theorem dX6_setTellsBefore_12 : decode cX6_setTellsBefore 12 = .ok (.aload_n 0, 1) := by decide +kernel
theorem dX6_setTellsBefore_13 : decode cX6_setTellsBefore 13 = .ok (.getfield 34, 3) := by decide +kernel
theorem dX6_setTellsBefore_16 : decode cX6_setTellsBefore 16 = .ok (.iload_n 3, 1) := by decide +kernel
theorem dX6_setTellsBefore_17 : decode cX6_setTellsBefore 17 = .ok (.iaload, 1) := by decide +kernel
theorem dX6_setTellsBefore_18 : decode cX6_setTellsBefore 18 = .ok (.iadd, 1) := by decide +kernel
theorem dX6_setTellsBefore_19 : decode cX6_setTellsBefore 19 = .ok (.aload_n 0, 1) := by decide +kernel
theorem dX6_setTellsBefore_20 : decode cX6_setTellsBefore 20 = .ok (.getfield 31, 3) := by decide +kernel
theorem dX6_setTellsBefore_23 : decode cX6_setTellsBefore 23 = .ok (.iload_n 1, 1) := by decide +kernel
theorem dX6_setTellsBefore_24 : decode cX6_setTellsBefore 24 = .ok (.iaload, 1) := by decide +kernel
theorem dX6_setTellsBefore_25 : decode cX6_setTellsBefore 25 = .ok (.if_icmp .le 7, 3) := by decide +kernel
theorem dX6_setTellsBefore_28 : decode cX6_setTellsBefore 28 = .ok (.iconst 1, 1) := by decide +kernel
theorem dX6_setTellsBefore_29 : decode cX6_setTellsBefore 29 = .ok (.goto 4, 3) := by decide +kernel
theorem dX6_setTellsBefore_32 : decode cX6_setTellsBefore 32 = .ok (.iconst 0, 1) := by decide +kernel
theorem dX6_setTellsBefore_33 : decode cX6_setTellsBefore 33 = .ok (.ireturn, 1) := by decide +kernel
theorem dX6_setTellsBehind_0 : decode cX6_setTellsBehind 0 = .ok (.iload_n 1, 1) := by decide +kernel
theorem dX6_setTellsBehind_1 : decode cX6_setTellsBehind 1 = .ok (.iconst 1, 1) := by decide +kernel
theorem dX6_setTellsBehind_2 : decode cX6_setTellsBehind 2 = .ok (.iload_n 2, 1) := by decide +kernel
theorem dX6_setTellsBehind_3 : decode cX6_setTellsBehind 3 = .ok (.ishl, 1) := by decide +kernel
theorem dX6_setTellsBehind_4 : decode cX6_setTellsBehind 4 = .ok (.ior, 1) := by decide +kernel
theorem dX6_setTellsBehind_5 : decode cX6_setTellsBehind 5 = .ok (.istore_n 3, 1) := by decide +kernel
theorem dX6_setTellsBehind_6 : decode cX6_setTellsBehind 6 = .ok (.aload_n 0, 1) := by decide +kernel
theorem dX6_setTellsBehind_7 : decode cX6_setTellsBehind 7 = .ok (.getfield 28, 3) := by decide +kernel
theorem dX6_setTellsBehind_10 : decode cX6_setTellsBehind 10 = .ok (.iload_n 1, 1) := by decide +kernel
theorem dX6_setTellsBehind_11 : decode cX6_setTellsBehind 11 = .ok (.iaload, 1) := by decide +kernel
theorem dX6_setTellsBehind_12 : decode cX6_setTellsBehind 12 = .ok (.aload_n 0, 1) := by decide +kernel
theorem dX6_setTellsBehind_13 : decode cX6_setTellsBehind 13 = .ok (.getfield 34, 3) := by decide +kernel
theorem dX6_setTellsBehind_16 : decode cX6_setTellsBehind 16 = .ok (.iload_n 3, 1) := by decide +kernel
theorem dX6_setTellsBehind_17 : decode cX6_setTellsBehind 17 = .ok (.iaload, 1) := by decide +kernel
theorem dX6_setTellsBehind_18 : decode cX6_setTellsBehind 18 = .ok (.iadd, 1) := by decide +kernel
theorem dX6_setTellsBehind_19 : decode cX6_setTellsBehind 19 = .ok (.aload_n 0, 1) := by decide +kernel
theorem dX6_setTellsBehind_20 : decode cX6_setTellsBehind 20 = .ok (.getfield 31, 3) := by decide +kernel
theorem dX6_setTellsBehind_23 : decode cX6_setTellsBehind 23 = .ok (.iload_n 3, 1) := by decide +kernel
theorem dX6_setTellsBehind_24 : decode cX6_setTellsBehind 24 = .ok (.iaload, 1) := by decide +kernel
theorem dX6_setTellsBehind_25 : decode cX6_setTellsBehind 25 = .ok (.if_icmp .le 7, 3) := by decide +kernel
theorem dX6_setTellsBehind_28 : decode cX6_setTellsBehind 28 = .ok (.iconst 1, 1) := by decide +kernel
theorem dX6_setTellsBehind_29 : decode cX6_setTellsBehind 29 = .ok (.goto 4, 3) := by decide +kernel
theorem dX6_setTellsBehind_32 : decode cX6_setTellsBehind 32 = .ok (.iconst 0, 1) := by decide +kernel
theorem dX6_setTellsBehind_33 : decode cX6_setTellsBehind 33 = .ok (.ireturn, 1) := by decide +kernel
set_option maxRecDepth 20000 in
theorem ggX6_orders_X7_contains : GoodIn wsX6_orders wsX7_contains := goodIn_r _ [4] (by decide +kernel) (by decide +kernel)
set_option maxRecDepth 20000 in
theorem gX6_orders_X7_contains_n86 : GoodIn wsX6_orders (wsX7_contains) := ggX6_orders_X7_contains
theorem dX6_orders_0 : decode cX6_orders 0 = .ok (.aload_n 0, 1) := by decide +kernel
theorem dX6_orders_1 : decode cX6_orders 1 = .ok (.getfield 22, 3) := by decide +kernel
theorem dX6_orders_4 : decode cX6_orders 4 = .ok (.iload_n 1, 1) := by decide +kernel
theorem dX6_orders_5 : decode cX6_orders 5 = .ok (.iaload, 1) := by decide +kernel
theorem dX6_orders_6 : decode cX6_orders 6 = .ok (.iload_n 2, 1) := by decide +kernel
theorem dX6_orders_7 : decode cX6_orders 7 = .ok (.invokestatic 86, 3) := by decide +kernel
theorem dX6_orders_10 : decode cX6_orders 10 = .ok (.ireturn, 1) := by decide +kernel
set_option maxRecDepth 20000 in
theorem ggX6_reason_X6_orders : GoodIn wsX6_reason wsX6_orders := goodIn_r _ [6, 7, 8, 9, 10, 41, 42, 43, 44, 45, 46, 47, 48, 49] (by decide +kernel) (by decide +kernel)
set_option maxRecDepth 20000 in
theorem gX6_reason_X6_orders : GoodIn wsX6_reason (wsV RX6 122 RX6 yX6_orders wsX6_orders) := goodIn_app (goodIn_of _ (by decide +kernel)) ggX6_reason_X6_orders
set_option maxRecDepth 20000 in
theorem ggX6_reason_X5_isGiven : GoodIn wsX6_reason wsX5_isGiven := goodIn_r _ [15, 16, 8, 9, 10, 50, 51, 52, 53, 54, 55, 56, 57] (by decide +kernel) (by decide +kernel)
set_option maxRecDepth 20000 in
theorem gX6_reason_X5_isGiven : GoodIn wsX6_reason (wsV RX6 125 RX5 yX5_isGiven wsX5_isGiven) := goodIn_app (goodIn_of _ (by decide +kernel)) ggX6_reason_X5_isGiven
set_option maxRecDepth 20000 in
theorem ggX6_reason_X6_pairTells : GoodIn wsX6_reason wsX6_pairTells := goodIn_r _ [20, 1, 21, 22, 23, 24, 41, 42, 43, 44, 45, 46, 47, 48, 49, 50, 51, 52, 53, 54, 55, 56, 57] (by decide +kernel) (by decide +kernel)
set_option maxRecDepth 20000 in
theorem gX6_reason_X6_pairTells : GoodIn wsX6_reason (wsV RX6 93 RX6 yX6_pairTells wsX6_pairTells) := goodIn_app (goodIn_of _ (by decide +kernel)) ggX6_reason_X6_pairTells
set_option maxRecDepth 20000 in
theorem ggX6_reason_X6_leastSet : GoodIn wsX6_reason wsX6_leastSet := goodIn_r _ [28, 1, 21, 29, 8, 9, 10, 30, 31, 32, 5, 33, 34, 35, 36, 37, 38, 39, 40, 41, 42, 43, 44, 45, 46, 47, 48, 49, 50, 51, 52, 53, 54, 55, 56, 57] (by decide +kernel) (by decide +kernel)
set_option maxRecDepth 20000 in
theorem gX6_reason_X6_leastSet : GoodIn wsX6_reason (wsV RX6 128 RX6 yX6_leastSet wsX6_leastSet) := goodIn_app (goodIn_of _ (by decide +kernel)) ggX6_reason_X6_leastSet
theorem dX6_reason_0 : decode cX6_reason 0 = .ok (.aload_n 0, 1) := by decide +kernel
theorem dX6_reason_1 : decode cX6_reason 1 = .ok (.iload_n 1, 1) := by decide +kernel
theorem dX6_reason_2 : decode cX6_reason 2 = .ok (.iload_n 2, 1) := by decide +kernel
theorem dX6_reason_3 : decode cX6_reason 3 = .ok (.invokevirtual 122, 3) := by decide +kernel
theorem dX6_reason_6 : decode cX6_reason 6 = .ok (.ifCond .ne 5, 3) := by decide +kernel
theorem dX6_reason_9 : decode cX6_reason 9 = .ok (.iconst (-1), 1) := by decide +kernel
theorem dX6_reason_10 : decode cX6_reason 10 = .ok (.ireturn, 1) := by decide +kernel
theorem dX6_reason_11 : decode cX6_reason 11 = .ok (.aload_n 0, 1) := by decide +kernel
theorem dX6_reason_12 : decode cX6_reason 12 = .ok (.getfield 37, 3) := by decide +kernel
theorem dX6_reason_15 : decode cX6_reason 15 = .ok (.iload_n 1, 1) := by decide +kernel
theorem dX6_reason_16 : decode cX6_reason 16 = .ok (.iload_n 2, 1) := by decide +kernel
theorem dX6_reason_17 : decode cX6_reason 17 = .ok (.invokevirtual 125, 3) := by decide +kernel
theorem dX6_reason_20 : decode cX6_reason 20 = .ok (.ifCond .eq 5, 3) := by decide +kernel
theorem dX6_reason_23 : decode cX6_reason 23 = .ok (.iconst 0, 1) := by decide +kernel
theorem dX6_reason_24 : decode cX6_reason 24 = .ok (.ireturn, 1) := by decide +kernel
theorem dX6_reason_25 : decode cX6_reason 25 = .ok (.aload_n 0, 1) := by decide +kernel
theorem dX6_reason_26 : decode cX6_reason 26 = .ok (.iload_n 1, 1) := by decide +kernel
theorem dX6_reason_27 : decode cX6_reason 27 = .ok (.iload_n 2, 1) := by decide +kernel
theorem dX6_reason_28 : decode cX6_reason 28 = .ok (.invokevirtual 93, 3) := by decide +kernel
theorem dX6_reason_31 : decode cX6_reason 31 = .ok (.ifCond .eq 5, 3) := by decide +kernel
theorem dX6_reason_34 : decode cX6_reason 34 = .ok (.iconst 1, 1) := by decide +kernel
theorem dX6_reason_35 : decode cX6_reason 35 = .ok (.ireturn, 1) := by decide +kernel
theorem dX6_reason_36 : decode cX6_reason 36 = .ok (.aload_n 0, 1) := by decide +kernel
theorem dX6_reason_37 : decode cX6_reason 37 = .ok (.iload_n 1, 1) := by decide +kernel
theorem dX6_reason_38 : decode cX6_reason 38 = .ok (.iload_n 2, 1) := by decide +kernel
theorem dX6_reason_39 : decode cX6_reason 39 = .ok (.invokevirtual 128, 3) := by decide +kernel
theorem dX6_reason_42 : decode cX6_reason 42 = .ok (.iconst (-1), 1) := by decide +kernel
theorem dX6_reason_43 : decode cX6_reason 43 = .ok (.if_icmp .eq 7, 3) := by decide +kernel
theorem dX6_reason_46 : decode cX6_reason 46 = .ok (.iconst 2, 1) := by decide +kernel
theorem dX6_reason_47 : decode cX6_reason 47 = .ok (.goto 4, 3) := by decide +kernel
theorem dX6_reason_50 : decode cX6_reason 50 = .ok (.iconst 3, 1) := by decide +kernel
theorem dX6_reason_51 : decode cX6_reason 51 = .ok (.ireturn, 1) := by decide +kernel
set_option maxRecDepth 20000 in
theorem ggX6_leastSet_X7_contains : GoodIn wsX6_leastSet wsX7_contains := goodIn_r _ [6] (by decide +kernel) (by decide +kernel)
set_option maxRecDepth 20000 in
theorem gX6_leastSet_X7_contains_n86 : GoodIn wsX6_leastSet (wsX7_contains) := ggX6_leastSet_X7_contains
set_option maxRecDepth 20000 in
theorem ggX6_leastSet_X6_setTellsBefore : GoodIn wsX6_leastSet wsX6_setTellsBefore := goodIn_r _ [11, 12, 13, 14, 19, 20, 21, 22, 23, 24, 25, 26, 27] (by decide +kernel) (by decide +kernel)
set_option maxRecDepth 20000 in
theorem gX6_leastSet_X6_setTellsBefore : GoodIn wsX6_leastSet (wsV RX6 96 RX6 yX6_setTellsBefore wsX6_setTellsBefore) := goodIn_app (goodIn_of _ (by decide +kernel)) ggX6_leastSet_X6_setTellsBefore
set_option maxRecDepth 20000 in
theorem ggX6_leastSet_X6_setTellsBehind : GoodIn wsX6_leastSet wsX6_setTellsBehind := goodIn_r _ [18, 12, 13, 14, 19, 20, 21, 22, 23, 24, 25, 26, 27] (by decide +kernel) (by decide +kernel)
set_option maxRecDepth 20000 in
theorem gX6_leastSet_X6_setTellsBehind : GoodIn wsX6_leastSet (wsV RX6 102 RX6 yX6_setTellsBehind wsX6_setTellsBehind) := goodIn_app (goodIn_of _ (by decide +kernel)) ggX6_leastSet_X6_setTellsBehind
theorem dX6_leastSet_0 : decode cX6_leastSet 0 = .ok (.iload_n 1, 1) := by decide +kernel
theorem dX6_leastSet_1 : decode cX6_leastSet 1 = .ok (.iload_n 2, 1) := by decide +kernel
theorem dX6_leastSet_2 : decode cX6_leastSet 2 = .ok (.if_icmp .eq 24, 3) := by decide +kernel
theorem dX6_leastSet_5 : decode cX6_leastSet 5 = .ok (.aload_n 0, 1) := by decide +kernel
theorem dX6_leastSet_6 : decode cX6_leastSet 6 = .ok (.getfield 37, 3) := by decide +kernel
theorem dX6_leastSet_9 : decode cX6_leastSet 9 = .ok (.getfield 83, 3) := by decide +kernel
theorem dX6_leastSet_12 : decode cX6_leastSet 12 = .ok (.iload_n 1, 1) := by decide +kernel
theorem dX6_leastSet_13 : decode cX6_leastSet 13 = .ok (.iaload, 1) := by decide +kernel
theorem dX6_leastSet_14 : decode cX6_leastSet 14 = .ok (.aload_n 0, 1) := by decide +kernel
theorem dX6_leastSet_15 : decode cX6_leastSet 15 = .ok (.getfield 37, 3) := by decide +kernel
theorem dX6_leastSet_18 : decode cX6_leastSet 18 = .ok (.getfield 83, 3) := by decide +kernel
theorem dX6_leastSet_21 : decode cX6_leastSet 21 = .ok (.iload_n 2, 1) := by decide +kernel
theorem dX6_leastSet_22 : decode cX6_leastSet 22 = .ok (.iaload, 1) := by decide +kernel
theorem dX6_leastSet_23 : decode cX6_leastSet 23 = .ok (.if_icmp .eq 5, 3) := by decide +kernel
theorem dX6_leastSet_26 : decode cX6_leastSet 26 = .ok (.iconst (-1), 1) := by decide +kernel
theorem dX6_leastSet_27 : decode cX6_leastSet 27 = .ok (.ireturn, 1) := by decide +kernel
theorem dX6_leastSet_28 : decode cX6_leastSet 28 = .ok (.aload_n 0, 1) := by decide +kernel
theorem dX6_leastSet_29 : decode cX6_leastSet 29 = .ok (.getfield 25, 3) := by decide +kernel
theorem dX6_leastSet_32 : decode cX6_leastSet 32 = .ok (.aload_n 0, 1) := by decide +kernel
theorem dX6_leastSet_33 : decode cX6_leastSet 33 = .ok (.getfield 37, 3) := by decide +kernel
theorem dX6_leastSet_36 : decode cX6_leastSet 36 = .ok (.getfield 83, 3) := by decide +kernel
theorem dX6_leastSet_39 : decode cX6_leastSet 39 = .ok (.iload_n 1, 1) := by decide +kernel
theorem dX6_leastSet_40 : decode cX6_leastSet 40 = .ok (.iaload, 1) := by decide +kernel
theorem dX6_leastSet_41 : decode cX6_leastSet 41 = .ok (.iaload, 1) := by decide +kernel
theorem dX6_leastSet_42 : decode cX6_leastSet 42 = .ok (.istore_n 3, 1) := by decide +kernel
theorem dX6_leastSet_43 : decode cX6_leastSet 43 = .ok (.iconst 1, 1) := by decide +kernel
theorem dX6_leastSet_44 : decode cX6_leastSet 44 = .ok (.istore 4, 2) := by decide +kernel
theorem dX6_leastSet_46 : decode cX6_leastSet 46 = .ok (.iload 4, 2) := by decide +kernel
theorem dX6_leastSet_48 : decode cX6_leastSet 48 = .ok (.iload_n 3, 1) := by decide +kernel
theorem dX6_leastSet_49 : decode cX6_leastSet 49 = .ok (.if_icmp .gt 71, 3) := by decide +kernel
theorem dX6_leastSet_52 : decode cX6_leastSet 52 = .ok (.iload 4, 2) := by decide +kernel
theorem dX6_leastSet_54 : decode cX6_leastSet 54 = .ok (.iload_n 3, 1) := by decide +kernel
theorem dX6_leastSet_55 : decode cX6_leastSet 55 = .ok (.iconst (-1), 1) := by decide +kernel
theorem dX6_leastSet_56 : decode cX6_leastSet 56 = .ok (.ixor, 1) := by decide +kernel
theorem dX6_leastSet_57 : decode cX6_leastSet 57 = .ok (.iand, 1) := by decide +kernel
theorem dX6_leastSet_58 : decode cX6_leastSet 58 = .ok (.ifCond .ne 56, 3) := by decide +kernel
theorem dX6_leastSet_61 : decode cX6_leastSet 61 = .ok (.iload 4, 2) := by decide +kernel
theorem dX6_leastSet_63 : decode cX6_leastSet 63 = .ok (.iload_n 1, 1) := by decide +kernel
theorem dX6_leastSet_64 : decode cX6_leastSet 64 = .ok (.invokestatic 86, 3) := by decide +kernel
theorem dX6_leastSet_67 : decode cX6_leastSet 67 = .ok (.iload 4, 2) := by decide +kernel
theorem dX6_leastSet_69 : decode cX6_leastSet 69 = .ok (.iload_n 2, 1) := by decide +kernel
theorem dX6_leastSet_70 : decode cX6_leastSet 70 = .ok (.invokestatic 86, 3) := by decide +kernel
theorem dX6_leastSet_73 : decode cX6_leastSet 73 = .ok (.if_icmp .ne 6, 3) := by decide +kernel
theorem dX6_leastSet_76 : decode cX6_leastSet 76 = .ok (.goto 38, 3) := by decide +kernel
theorem dX6_leastSet_79 : decode cX6_leastSet 79 = .ok (.iload 4, 2) := by decide +kernel
theorem dX6_leastSet_81 : decode cX6_leastSet 81 = .ok (.iload_n 1, 1) := by decide +kernel
theorem dX6_leastSet_82 : decode cX6_leastSet 82 = .ok (.invokestatic 86, 3) := by decide +kernel
theorem dX6_leastSet_85 : decode cX6_leastSet 85 = .ok (.ifCond .eq 16, 3) := by decide +kernel
theorem dX6_leastSet_88 : decode cX6_leastSet 88 = .ok (.aload_n 0, 1) := by decide +kernel
theorem dX6_leastSet_89 : decode cX6_leastSet 89 = .ok (.iload 4, 2) := by decide +kernel
theorem dX6_leastSet_91 : decode cX6_leastSet 91 = .ok (.iload_n 2, 1) := by decide +kernel
theorem dX6_leastSet_92 : decode cX6_leastSet 92 = .ok (.invokevirtual 96, 3) := by decide +kernel
theorem dX6_leastSet_95 : decode cX6_leastSet 95 = .ok (.ifCond .eq 19, 3) := by decide +kernel
theorem dX6_leastSet_98 : decode cX6_leastSet 98 = .ok (.goto 13, 3) := by decide +kernel
theorem dX6_leastSet_101 : decode cX6_leastSet 101 = .ok (.aload_n 0, 1) := by decide +kernel
theorem dX6_leastSet_102 : decode cX6_leastSet 102 = .ok (.iload 4, 2) := by decide +kernel
theorem dX6_leastSet_104 : decode cX6_leastSet 104 = .ok (.iload_n 1, 1) := by decide +kernel
theorem dX6_leastSet_105 : decode cX6_leastSet 105 = .ok (.invokevirtual 102, 3) := by decide +kernel
theorem dX6_leastSet_108 : decode cX6_leastSet 108 = .ok (.ifCond .eq 6, 3) := by decide +kernel
theorem dX6_leastSet_111 : decode cX6_leastSet 111 = .ok (.iload 4, 2) := by decide +kernel
theorem dX6_leastSet_113 : decode cX6_leastSet 113 = .ok (.ireturn, 1) := by decide +kernel
theorem dX6_leastSet_114 : decode cX6_leastSet 114 = .ok (.iinc 4 1, 3) := by decide +kernel
theorem dX6_leastSet_117 : decode cX6_leastSet 117 = .ok (.goto (-71), 3) := by decide +kernel
theorem dX6_leastSet_120 : decode cX6_leastSet 120 = .ok (.iconst (-1), 1) := by decide +kernel
theorem dX6_leastSet_121 : decode cX6_leastSet 121 = .ok (.ireturn, 1) := by decide +kernel
set_option maxRecDepth 20000 in
theorem ggX6_countOpenPairs_X6_orders : GoodIn wsX6_countOpenPairs wsX6_orders := goodIn_r _ [8, 9, 10, 11, 12, 13, 14, 15, 16, 17, 18, 19, 20, 21] (by decide +kernel) (by decide +kernel)
set_option maxRecDepth 20000 in
theorem gX6_countOpenPairs_X6_orders : GoodIn wsX6_countOpenPairs (wsV RX6 122 RX6 yX6_orders wsX6_orders) := goodIn_app (goodIn_of _ (by decide +kernel)) ggX6_countOpenPairs_X6_orders
theorem dX6_countOpenPairs_0 : decode cX6_countOpenPairs 0 = .ok (.iconst 0, 1) := by decide +kernel
theorem dX6_countOpenPairs_1 : decode cX6_countOpenPairs 1 = .ok (.istore_n 1, 1) := by decide +kernel
theorem dX6_countOpenPairs_2 : decode cX6_countOpenPairs 2 = .ok (.iconst 0, 1) := by decide +kernel
theorem dX6_countOpenPairs_3 : decode cX6_countOpenPairs 3 = .ok (.istore_n 2, 1) := by decide +kernel
theorem dX6_countOpenPairs_4 : decode cX6_countOpenPairs 4 = .ok (.iload_n 2, 1) := by decide +kernel
theorem dX6_countOpenPairs_5 : decode cX6_countOpenPairs 5 = .ok (.aload_n 0, 1) := by decide +kernel
theorem dX6_countOpenPairs_6 : decode cX6_countOpenPairs 6 = .ok (.getfield 37, 3) := by decide +kernel
theorem dX6_countOpenPairs_9 : decode cX6_countOpenPairs 9 = .ok (.getfield 70, 3) := by decide +kernel
theorem dX6_countOpenPairs_12 : decode cX6_countOpenPairs 12 = .ok (.if_icmp .ge 72, 3) := by decide +kernel
theorem dX6_countOpenPairs_15 : decode cX6_countOpenPairs 15 = .ok (.iload_n 2, 1) := by decide +kernel
theorem dX6_countOpenPairs_16 : decode cX6_countOpenPairs 16 = .ok (.iconst 1, 1) := by decide +kernel
theorem dX6_countOpenPairs_17 : decode cX6_countOpenPairs 17 = .ok (.iadd, 1) := by decide +kernel
theorem dX6_countOpenPairs_18 : decode cX6_countOpenPairs 18 = .ok (.istore_n 3, 1) := by decide +kernel
theorem dX6_countOpenPairs_19 : decode cX6_countOpenPairs 19 = .ok (.iload_n 3, 1) := by decide +kernel
theorem dX6_countOpenPairs_20 : decode cX6_countOpenPairs 20 = .ok (.aload_n 0, 1) := by decide +kernel
theorem dX6_countOpenPairs_21 : decode cX6_countOpenPairs 21 = .ok (.getfield 37, 3) := by decide +kernel
theorem dX6_countOpenPairs_24 : decode cX6_countOpenPairs 24 = .ok (.getfield 70, 3) := by decide +kernel
theorem dX6_countOpenPairs_27 : decode cX6_countOpenPairs 27 = .ok (.if_icmp .ge 51, 3) := by decide +kernel
theorem dX6_countOpenPairs_30 : decode cX6_countOpenPairs 30 = .ok (.aload_n 0, 1) := by decide +kernel
theorem dX6_countOpenPairs_31 : decode cX6_countOpenPairs 31 = .ok (.getfield 37, 3) := by decide +kernel
theorem dX6_countOpenPairs_34 : decode cX6_countOpenPairs 34 = .ok (.getfield 83, 3) := by decide +kernel
theorem dX6_countOpenPairs_37 : decode cX6_countOpenPairs 37 = .ok (.iload_n 2, 1) := by decide +kernel
theorem dX6_countOpenPairs_38 : decode cX6_countOpenPairs 38 = .ok (.iaload, 1) := by decide +kernel
theorem dX6_countOpenPairs_39 : decode cX6_countOpenPairs 39 = .ok (.aload_n 0, 1) := by decide +kernel
theorem dX6_countOpenPairs_40 : decode cX6_countOpenPairs 40 = .ok (.getfield 37, 3) := by decide +kernel
theorem dX6_countOpenPairs_43 : decode cX6_countOpenPairs 43 = .ok (.getfield 83, 3) := by decide +kernel
theorem dX6_countOpenPairs_46 : decode cX6_countOpenPairs 46 = .ok (.iload_n 3, 1) := by decide +kernel
theorem dX6_countOpenPairs_47 : decode cX6_countOpenPairs 47 = .ok (.iaload, 1) := by decide +kernel
theorem dX6_countOpenPairs_48 : decode cX6_countOpenPairs 48 = .ok (.if_icmp .ne 24, 3) := by decide +kernel
theorem dX6_countOpenPairs_51 : decode cX6_countOpenPairs 51 = .ok (.aload_n 0, 1) := by decide +kernel
theorem dX6_countOpenPairs_52 : decode cX6_countOpenPairs 52 = .ok (.iload_n 2, 1) := by decide +kernel
theorem dX6_countOpenPairs_53 : decode cX6_countOpenPairs 53 = .ok (.iload_n 3, 1) := by decide +kernel
theorem dX6_countOpenPairs_54 : decode cX6_countOpenPairs 54 = .ok (.invokevirtual 122, 3) := by decide +kernel
theorem dX6_countOpenPairs_57 : decode cX6_countOpenPairs 57 = .ok (.ifCond .ne 15, 3) := by decide +kernel
theorem dX6_countOpenPairs_60 : decode cX6_countOpenPairs 60 = .ok (.aload_n 0, 1) := by decide +kernel
theorem dX6_countOpenPairs_61 : decode cX6_countOpenPairs 61 = .ok (.iload_n 3, 1) := by decide +kernel
theorem dX6_countOpenPairs_62 : decode cX6_countOpenPairs 62 = .ok (.iload_n 2, 1) := by decide +kernel
theorem dX6_countOpenPairs_63 : decode cX6_countOpenPairs 63 = .ok (.invokevirtual 122, 3) := by decide +kernel
theorem dX6_countOpenPairs_66 : decode cX6_countOpenPairs 66 = .ok (.ifCond .ne 6, 3) := by decide +kernel
theorem dX6_countOpenPairs_69 : decode cX6_countOpenPairs 69 = .ok (.iinc 1 1, 3) := by decide +kernel
theorem dX6_countOpenPairs_72 : decode cX6_countOpenPairs 72 = .ok (.iinc 3 1, 3) := by decide +kernel
theorem dX6_countOpenPairs_75 : decode cX6_countOpenPairs 75 = .ok (.goto (-56), 3) := by decide +kernel
theorem dX6_countOpenPairs_78 : decode cX6_countOpenPairs 78 = .ok (.iinc 2 1, 3) := by decide +kernel
theorem dX6_countOpenPairs_81 : decode cX6_countOpenPairs 81 = .ok (.goto (-77), 3) := by decide +kernel
theorem dX6_countOpenPairs_84 : decode cX6_countOpenPairs 84 = .ok (.iload_n 1, 1) := by decide +kernel
theorem dX6_countOpenPairs_85 : decode cX6_countOpenPairs 85 = .ok (.ireturn, 1) := by decide +kernel
set_option maxRecDepth 20000 in
theorem ggX7_init_X5_init : GoodIn wsX7_init wsX5_init := goodIn_r _ [33, 34, 2, 3, 35, 36, 37, 38, 39, 40, 41, 42, 43, 112, 113, 114, 115, 116, 117, 118, 119] (by decide +kernel) (by decide +kernel)
set_option maxRecDepth 20000 in
theorem gX7_init_X5_init_n11 : GoodIn wsX7_init (wsX5_init) := ggX7_init_X5_init
set_option maxRecDepth 20000 in
theorem ggX7_init_X6_init : GoodIn wsX7_init wsX6_init := goodIn_r _ [46, 47, 2, 3, 48, 37, 49, 50, 51, 52, 53, 54, 55, 56, 130, 131, 132, 133, 134, 135, 136, 137, 138] (by decide +kernel) (by decide +kernel)
set_option maxRecDepth 20000 in
theorem gX7_init_X6_init : GoodIn wsX7_init (wsX6_init) := ggX7_init_X6_init
set_option maxRecDepth 20000 in
theorem ggX7_init_X0_init : GoodIn wsX7_init wsX0_init := goodIn_r _ [59, 60, 2, 3, 61, 37, 62, 63, 64, 65, 66, 67, 68, 69, 70, 71, 72, 73, 74, 75, 76, 77, 78, 79, 80, 139, 140, 141, 142, 143, 144, 145, 146, 147, 148, 165, 166, 167] (by decide +kernel) (by decide +kernel)
set_option maxRecDepth 20000 in
theorem gX7_init_X0_init : GoodIn wsX7_init (wsX0_init) := ggX7_init_X0_init
set_option maxRecDepth 20000 in
theorem ggX7_init_X1_init : GoodIn wsX7_init wsX1_init := goodIn_r _ [83, 84, 2, 3, 85, 86, 87, 71, 72, 88, 89, 75, 76, 77, 37, 78, 79, 80, 149, 150, 151, 165, 166, 167] (by decide +kernel) (by decide +kernel)
set_option maxRecDepth 20000 in
theorem gX7_init_X1_init : GoodIn wsX7_init (wsX1_init) := ggX7_init_X1_init
set_option maxRecDepth 20000 in
theorem ggX7_init_X2_init : GoodIn wsX7_init wsX2_init := goodIn_r _ [92, 93, 2, 3, 94, 95, 96, 5, 6, 32, 33, 34, 35, 36, 37, 38, 39, 40, 41, 42, 43, 152, 153, 112, 113, 114, 115, 116, 117, 118, 119] (by decide +kernel) (by decide +kernel)
set_option maxRecDepth 20000 in
theorem gX7_init_X2_init : GoodIn wsX7_init (wsX2_init) := ggX7_init_X2_init
set_option maxRecDepth 20000 in
theorem ggX7_init_X3_init : GoodIn wsX7_init wsX3_init := goodIn_r _ [98, 99, 2, 3, 100, 101, 102, 103, 104, 105, 106, 107, 108, 109, 110, 111, 154, 155, 156, 157, 158, 159, 160, 161, 162, 163, 164] (by decide +kernel) (by decide +kernel)
set_option maxRecDepth 20000 in
theorem gX7_init_X3_init_n56 : GoodIn wsX7_init (wsX3_init) := ggX7_init_X3_init
theorem dX7_init_0 : decode cX7_init 0 = .ok (.aload_n 0, 1) := by decide +kernel
theorem dX7_init_1 : decode cX7_init 1 = .ok (.invokespecial 3, 3) := by decide +kernel
theorem dX7_init_4 : decode cX7_init 4 = .ok (.aload_n 0, 1) := by decide +kernel
theorem dX7_init_5 : decode cX7_init 5 = .ok (.new 9, 3) := by decide +kernel
theorem dX7_init_8 : decode cX7_init 8 = .ok (.dup, 1) := by decide +kernel
theorem dX7_init_9 : decode cX7_init 9 = .ok (.invokespecial 11, 3) := by decide +kernel
theorem dX7_init_12 : decode cX7_init 12 = .ok (.putfield 12, 3) := by decide +kernel
theorem dX7_init_15 : decode cX7_init 15 = .ok (.aload_n 0, 1) := by decide +kernel
theorem dX7_init_16 : decode cX7_init 16 = .ok (.new 16, 3) := by decide +kernel
theorem dX7_init_19 : decode cX7_init 19 = .ok (.dup, 1) := by decide +kernel
theorem dX7_init_20 : decode cX7_init 20 = .ok (.aload_n 0, 1) := by decide +kernel
theorem dX7_init_21 : decode cX7_init 21 = .ok (.getfield 12, 3) := by decide +kernel
theorem dX7_init_24 : decode cX7_init 24 = .ok (.invokespecial 18, 3) := by decide +kernel
theorem dX7_init_27 : decode cX7_init 27 = .ok (.putfield 21, 3) := by decide +kernel
theorem dX7_init_30 : decode cX7_init 30 = .ok (.aload_n 0, 1) := by decide +kernel
theorem dX7_init_31 : decode cX7_init 31 = .ok (.new 25, 3) := by decide +kernel
theorem dX7_init_34 : decode cX7_init 34 = .ok (.dup, 1) := by decide +kernel
theorem dX7_init_35 : decode cX7_init 35 = .ok (.aload_n 0, 1) := by decide +kernel
theorem dX7_init_36 : decode cX7_init 36 = .ok (.getfield 12, 3) := by decide +kernel
theorem dX7_init_39 : decode cX7_init 39 = .ok (.aload_n 0, 1) := by decide +kernel
theorem dX7_init_40 : decode cX7_init 40 = .ok (.getfield 21, 3) := by decide +kernel
theorem dX7_init_43 : decode cX7_init 43 = .ok (.invokespecial 27, 3) := by decide +kernel
theorem dX7_init_46 : decode cX7_init 46 = .ok (.putfield 30, 3) := by decide +kernel
theorem dX7_init_49 : decode cX7_init 49 = .ok (.aload_n 0, 1) := by decide +kernel
theorem dX7_init_50 : decode cX7_init 50 = .ok (.new 34, 3) := by decide +kernel
theorem dX7_init_53 : decode cX7_init 53 = .ok (.dup, 1) := by decide +kernel
theorem dX7_init_54 : decode cX7_init 54 = .ok (.aload_n 0, 1) := by decide +kernel
theorem dX7_init_55 : decode cX7_init 55 = .ok (.getfield 12, 3) := by decide +kernel
theorem dX7_init_58 : decode cX7_init 58 = .ok (.invokespecial 36, 3) := by decide +kernel
theorem dX7_init_61 : decode cX7_init 61 = .ok (.putfield 37, 3) := by decide +kernel
theorem dX7_init_64 : decode cX7_init 64 = .ok (.aload_n 0, 1) := by decide +kernel
theorem dX7_init_65 : decode cX7_init 65 = .ok (.new 9, 3) := by decide +kernel
theorem dX7_init_68 : decode cX7_init 68 = .ok (.dup, 1) := by decide +kernel
theorem dX7_init_69 : decode cX7_init 69 = .ok (.invokespecial 11, 3) := by decide +kernel
theorem dX7_init_72 : decode cX7_init 72 = .ok (.putfield 41, 3) := by decide +kernel
theorem dX7_init_75 : decode cX7_init 75 = .ok (.aload_n 0, 1) := by decide +kernel
theorem dX7_init_76 : decode cX7_init 76 = .ok (.new 16, 3) := by decide +kernel
theorem dX7_init_79 : decode cX7_init 79 = .ok (.dup, 1) := by decide +kernel
theorem dX7_init_80 : decode cX7_init 80 = .ok (.aload_n 0, 1) := by decide +kernel
theorem dX7_init_81 : decode cX7_init 81 = .ok (.getfield 41, 3) := by decide +kernel
theorem dX7_init_84 : decode cX7_init 84 = .ok (.invokespecial 18, 3) := by decide +kernel
theorem dX7_init_87 : decode cX7_init 87 = .ok (.putfield 44, 3) := by decide +kernel
theorem dX7_init_90 : decode cX7_init 90 = .ok (.aload_n 0, 1) := by decide +kernel
theorem dX7_init_91 : decode cX7_init 91 = .ok (.new 47, 3) := by decide +kernel
theorem dX7_init_94 : decode cX7_init 94 = .ok (.dup, 1) := by decide +kernel
theorem dX7_init_95 : decode cX7_init 95 = .ok (.invokespecial 49, 3) := by decide +kernel
theorem dX7_init_98 : decode cX7_init 98 = .ok (.putfield 50, 3) := by decide +kernel
theorem dX7_init_101 : decode cX7_init 101 = .ok (.aload_n 0, 1) := by decide +kernel
theorem dX7_init_102 : decode cX7_init 102 = .ok (.new 54, 3) := by decide +kernel
theorem dX7_init_105 : decode cX7_init 105 = .ok (.dup, 1) := by decide +kernel
theorem dX7_init_106 : decode cX7_init 106 = .ok (.invokespecial 56, 3) := by decide +kernel
theorem dX7_init_109 : decode cX7_init 109 = .ok (.putfield 57, 3) := by decide +kernel
theorem dX7_init_112 : decode cX7_init 112 = .ok (.aload_n 0, 1) := by decide +kernel
theorem dX7_init_113 : decode cX7_init 113 = .ok (.iconst 0, 1) := by decide +kernel
theorem dX7_init_114 : decode cX7_init 114 = .ok (.putfield 61, 3) := by decide +kernel
theorem dX7_init_117 : decode cX7_init 117 = .ok (.aload_n 0, 1) := by decide +kernel
theorem dX7_init_118 : decode cX7_init 118 = .ok (.iconst 0, 1) := by decide +kernel
theorem dX7_init_119 : decode cX7_init 119 = .ok (.putfield 65, 3) := by decide +kernel
theorem dX7_init_122 : decode cX7_init 122 = .ok (.return_, 1) := by decide +kernel
set_option maxRecDepth 20000 in
theorem ggX7_begin_X7_beforeChange : GoodIn wsX7_begin wsX7_beforeChange := goodIn_r _ [9, 10, 3, 11, 12, 13, 14, 15, 16, 17, 18, 19, 20, 21, 22, 23, 24, 25, 26, 27, 28, 29, 30, 31, 32, 33, 8, 34, 35, 36, 41, 42, 43, 44, 45, 46, 47, 48, 49, 50, 59, 60, 51, 52, 53, 54, 55, 56, 57, 58] (by decide +kernel) (by decide +kernel)
set_option maxRecDepth 20000 in
theorem gX7_begin_X7_beforeChange : GoodIn wsX7_begin (wsV RX7 79 RX7 yX7_beforeChange wsX7_beforeChange) := goodIn_app (goodIn_of _ (by decide +kernel)) ggX7_begin_X7_beforeChange
set_option maxRecDepth 20000 in
theorem ggX7_begin_X5_clear : GoodIn wsX7_begin wsX5_clear := goodIn_r _ [40, 23, 24, 51, 52, 53, 54, 55, 56, 57, 58] (by decide +kernel) (by decide +kernel)
set_option maxRecDepth 20000 in
theorem gX7_begin_X5_clear : GoodIn wsX7_begin (wsV RX7 82 RX5 yX5_clear wsX5_clear) := goodIn_app (goodIn_of _ (by decide +kernel)) ggX7_begin_X5_clear
theorem dX7_begin_0 : decode cX7_begin 0 = .ok (.iload_n 1, 1) := by decide +kernel
theorem dX7_begin_1 : decode cX7_begin 1 = .ok (.iconst 1, 1) := by decide +kernel
theorem dX7_begin_2 : decode cX7_begin 2 = .ok (.if_icmp .lt 8, 3) := by decide +kernel
theorem dX7_begin_5 : decode cX7_begin 5 = .ok (.iload_n 1, 1) := by decide +kernel
theorem dX7_begin_6 : decode cX7_begin 6 = .ok (.iconst 3, 1) := by decide +kernel
theorem dX7_begin_7 : decode cX7_begin 7 = .ok (.if_icmp .le 13, 3) := by decide +kernel
theorem dX7_begin_10 : decode cX7_begin 10 = .ok (.new 68, 3) := by decide +kernel
theorem dX7_begin_13 : decode cX7_begin 13 = .ok (.dup, 1) := by decide +kernel
theorem dX7_begin_14 : decode cX7_begin 14 = .ok (.ldc 70, 2) := by decide +kernel
theorem dX7_begin_16 : decode cX7_begin 16 = .ok (.invokespecial 72, 3) := by decide +kernel
theorem dX7_begin_19 : decode cX7_begin 19 = .ok (.athrow, 1) := by decide +kernel
theorem dX7_begin_20 : decode cX7_begin 20 = .ok (.aload_n 0, 1) := by decide +kernel
theorem dX7_begin_21 : decode cX7_begin 21 = .ok (.getfield 12, 3) := by decide +kernel
theorem dX7_begin_24 : decode cX7_begin 24 = .ok (.getfield 75, 3) := by decide +kernel
theorem dX7_begin_27 : decode cX7_begin 27 = .ok (.istore_n 2, 1) := by decide +kernel
theorem dX7_begin_28 : decode cX7_begin 28 = .ok (.aload_n 0, 1) := by decide +kernel
theorem dX7_begin_29 : decode cX7_begin 29 = .ok (.invokevirtual 79, 3) := by decide +kernel
theorem dX7_begin_32 : decode cX7_begin 32 = .ok (.aload_n 0, 1) := by decide +kernel
theorem dX7_begin_33 : decode cX7_begin 33 = .ok (.getfield 12, 3) := by decide +kernel
theorem dX7_begin_36 : decode cX7_begin 36 = .ok (.iload_n 1, 1) := by decide +kernel
theorem dX7_begin_37 : decode cX7_begin 37 = .ok (.invokevirtual 82, 3) := by decide +kernel
theorem dX7_begin_40 : decode cX7_begin 40 = .ok (.iload_n 2, 1) := by decide +kernel
theorem dX7_begin_41 : decode cX7_begin 41 = .ok (.ireturn, 1) := by decide +kernel
set_option maxRecDepth 20000 in
theorem ggX7_addTask_X5_faultOfAdding : GoodIn wsX7_addTask wsX5_faultOfAdding := goodIn_r _ [7, 8, 9, 10, 11, 12, 6, 13, 66, 67, 68, 69, 70, 71, 72, 73] (by decide +kernel) (by decide +kernel)
set_option maxRecDepth 20000 in
theorem gX7_addTask_X5_faultOfAdding : GoodIn wsX7_addTask (wsV RX7 86 RX5 yX5_faultOfAdding wsX5_faultOfAdding) := goodIn_app (goodIn_of _ (by decide +kernel)) ggX7_addTask_X5_faultOfAdding
set_option maxRecDepth 20000 in
theorem ggX7_addTask_X7_refuse : GoodIn wsX7_addTask wsX7_refuse := goodIn_ca (goodIn_ca (goodIn_ca (goodIn_r _ [17, 18, 19, 20, 21, 22, 23] (by decide +kernel) (by decide +kernel)) (goodIn_sub (fun _ h => List.mem_cons_of_mem _ (List.mem_append_left _ (List.mem_append_left _ (List.mem_append_right _ h)))) (by decide +kernel))) (goodIn_sub (fun _ h => List.mem_cons_of_mem _ (List.mem_append_left _ (List.mem_append_right _ h))) (by decide +kernel))) (goodIn_sub (fun _ h => List.mem_cons_of_mem _ (List.mem_append_right _ h)) (by decide +kernel))
set_option maxRecDepth 20000 in
theorem gX7_addTask_X7_refuse : GoodIn wsX7_addTask (va_wsS RX7 90 yX7_refuse wsX7_refuse) := goodIn_app (goodIn_of _ (by decide +kernel)) ggX7_addTask_X7_refuse
set_option maxRecDepth 20000 in
theorem ggX7_addTask_X7_beforeChange : GoodIn wsX7_addTask wsX7_beforeChange := goodIn_r _ [27, 28, 1, 29, 30, 31, 32, 33, 34, 35, 36, 37, 38, 6, 39, 8, 9, 40, 41, 42, 43, 44, 45, 46, 47, 48, 16, 49, 50, 51, 56, 57, 58, 59, 60, 61, 62, 63, 64, 65, 74, 75, 66, 67, 68, 69, 70, 71, 72, 73] (by decide +kernel) (by decide +kernel)
set_option maxRecDepth 20000 in
theorem gX7_addTask_X7_beforeChange : GoodIn wsX7_addTask (wsV RX7 79 RX7 yX7_beforeChange wsX7_beforeChange) := goodIn_app (goodIn_of _ (by decide +kernel)) ggX7_addTask_X7_beforeChange
set_option maxRecDepth 20000 in
theorem ggX7_addTask_X5_add : GoodIn wsX7_addTask wsX5_add := goodIn_r _ [55, 9, 40, 41, 42, 43, 44, 45, 66, 67, 68, 69, 70, 71, 72, 73] (by decide +kernel) (by decide +kernel)
set_option maxRecDepth 20000 in
theorem gX7_addTask_X5_add : GoodIn wsX7_addTask (wsV RX7 93 RX5 yX5_add wsX5_add) := goodIn_app (goodIn_of _ (by decide +kernel)) ggX7_addTask_X5_add
theorem dX7_addTask_0 : decode cX7_addTask 0 = .ok (.aload_n 0, 1) := by decide +kernel
theorem dX7_addTask_1 : decode cX7_addTask 1 = .ok (.getfield 12, 3) := by decide +kernel
theorem dX7_addTask_4 : decode cX7_addTask 4 = .ok (.iload_n 1, 1) := by decide +kernel
theorem dX7_addTask_5 : decode cX7_addTask 5 = .ok (.iload_n 2, 1) := by decide +kernel
theorem dX7_addTask_6 : decode cX7_addTask 6 = .ok (.iload_n 3, 1) := by decide +kernel
theorem dX7_addTask_7 : decode cX7_addTask 7 = .ok (.iload 4, 2) := by decide +kernel
theorem dX7_addTask_9 : decode cX7_addTask 9 = .ok (.invokevirtual 86, 3) := by decide +kernel
theorem dX7_addTask_12 : decode cX7_addTask 12 = .ok (.invokestatic 90, 3) := by decide +kernel
theorem dX7_addTask_15 : decode cX7_addTask 15 = .ok (.aload_n 0, 1) := by decide +kernel
theorem dX7_addTask_16 : decode cX7_addTask 16 = .ok (.invokevirtual 79, 3) := by decide +kernel
theorem dX7_addTask_19 : decode cX7_addTask 19 = .ok (.aload_n 0, 1) := by decide +kernel
theorem dX7_addTask_20 : decode cX7_addTask 20 = .ok (.getfield 12, 3) := by decide +kernel
theorem dX7_addTask_23 : decode cX7_addTask 23 = .ok (.iload_n 1, 1) := by decide +kernel
theorem dX7_addTask_24 : decode cX7_addTask 24 = .ok (.iload_n 2, 1) := by decide +kernel
theorem dX7_addTask_25 : decode cX7_addTask 25 = .ok (.iload_n 3, 1) := by decide +kernel
theorem dX7_addTask_26 : decode cX7_addTask 26 = .ok (.iload 4, 2) := by decide +kernel
theorem dX7_addTask_28 : decode cX7_addTask 28 = .ok (.invokevirtual 93, 3) := by decide +kernel
theorem dX7_addTask_31 : decode cX7_addTask 31 = .ok (.aload_n 0, 1) := by decide +kernel
theorem dX7_addTask_32 : decode cX7_addTask 32 = .ok (.getfield 12, 3) := by decide +kernel
theorem dX7_addTask_35 : decode cX7_addTask 35 = .ok (.getfield 75, 3) := by decide +kernel
theorem dX7_addTask_38 : decode cX7_addTask 38 = .ok (.iconst 1, 1) := by decide +kernel
theorem dX7_addTask_39 : decode cX7_addTask 39 = .ok (.isub, 1) := by decide +kernel
theorem dX7_addTask_40 : decode cX7_addTask 40 = .ok (.ireturn, 1) := by decide +kernel
set_option maxRecDepth 20000 in
theorem ggX7_setDates_X7_refuseUnknown : GoodIn wsX7_setDates wsX7_refuseUnknown := goodIn_ca (goodIn_r _ [10, 11, 12, 3, 13, 14, 15, 16, 17, 18, 52, 53, 54, 55, 56, 57, 58, 59, 60, 61, 62, 63, 64, 65, 66, 67, 68, 69] (by decide +kernel) (by decide +kernel)) (goodIn_sub (fun _ h => List.mem_cons_of_mem _ (List.mem_append_right _ h)) (by decide +kernel))
set_option maxRecDepth 20000 in
theorem gX7_setDates_X7_refuseUnknown : GoodIn wsX7_setDates (wsV RX7 97 RX7 yX7_refuseUnknown wsX7_refuseUnknown) := goodIn_app (goodIn_of _ (by decide +kernel)) ggX7_setDates_X7_refuseUnknown
set_option maxRecDepth 20000 in
theorem ggX7_setDates_X5_areDates : GoodIn wsX7_setDates wsX5_areDates := goodIn_r _ [22] (by decide +kernel) (by decide +kernel)
set_option maxRecDepth 20000 in
theorem gX7_setDates_X5_areDates : GoodIn wsX7_setDates (wsV RX7 100 RX5 yX5_areDates wsX5_areDates) := goodIn_app (goodIn_of _ (by decide +kernel)) ggX7_setDates_X5_areDates
set_option maxRecDepth 20000 in
theorem ggX7_setDates_X7_beforeChange : GoodIn wsX7_setDates wsX7_beforeChange := goodIn_r _ [26, 27, 3, 28, 29, 30, 31, 32, 33, 34, 35, 36, 37, 16, 38, 39, 18, 40, 41, 42, 43, 44, 45, 46, 47, 48, 9, 49, 50, 51, 52, 53, 54, 55, 56, 57, 58, 59, 60, 61, 70, 71, 62, 63, 64, 65, 66, 67, 68, 69] (by decide +kernel) (by decide +kernel)
set_option maxRecDepth 20000 in
theorem gX7_setDates_X7_beforeChange : GoodIn wsX7_setDates (wsV RX7 79 RX7 yX7_beforeChange wsX7_beforeChange) := goodIn_app (goodIn_of _ (by decide +kernel)) ggX7_setDates_X7_beforeChange
theorem dX7_setDates_0 : decode cX7_setDates 0 = .ok (.aload_n 0, 1) := by decide +kernel
theorem dX7_setDates_1 : decode cX7_setDates 1 = .ok (.iload_n 1, 1) := by decide +kernel
theorem dX7_setDates_2 : decode cX7_setDates 2 = .ok (.invokevirtual 97, 3) := by decide +kernel
theorem dX7_setDates_5 : decode cX7_setDates 5 = .ok (.aload_n 0, 1) := by decide +kernel
theorem dX7_setDates_6 : decode cX7_setDates 6 = .ok (.getfield 12, 3) := by decide +kernel
theorem dX7_setDates_9 : decode cX7_setDates 9 = .ok (.iload_n 2, 1) := by decide +kernel
theorem dX7_setDates_10 : decode cX7_setDates 10 = .ok (.iload_n 3, 1) := by decide +kernel
theorem dX7_setDates_11 : decode cX7_setDates 11 = .ok (.invokevirtual 100, 3) := by decide +kernel
theorem dX7_setDates_14 : decode cX7_setDates 14 = .ok (.ifCond .ne 13, 3) := by decide +kernel
theorem dX7_setDates_17 : decode cX7_setDates 17 = .ok (.new 68, 3) := by decide +kernel
theorem dX7_setDates_20 : decode cX7_setDates 20 = .ok (.dup, 1) := by decide +kernel
theorem dX7_setDates_21 : decode cX7_setDates 21 = .ok (.ldc 104, 2) := by decide +kernel
theorem dX7_setDates_23 : decode cX7_setDates 23 = .ok (.invokespecial 72, 3) := by decide +kernel
theorem dX7_setDates_26 : decode cX7_setDates 26 = .ok (.athrow, 1) := by decide +kernel
theorem dX7_setDates_27 : decode cX7_setDates 27 = .ok (.aload_n 0, 1) := by decide +kernel
theorem dX7_setDates_28 : decode cX7_setDates 28 = .ok (.getfield 12, 3) := by decide +kernel
theorem dX7_setDates_31 : decode cX7_setDates 31 = .ok (.getfield 106, 3) := by decide +kernel
theorem dX7_setDates_34 : decode cX7_setDates 34 = .ok (.iload_n 1, 1) := by decide +kernel
theorem dX7_setDates_35 : decode cX7_setDates 35 = .ok (.iaload, 1) := by decide +kernel
theorem dX7_setDates_36 : decode cX7_setDates 36 = .ok (.aload_n 0, 1) := by decide +kernel
theorem dX7_setDates_37 : decode cX7_setDates 37 = .ok (.getfield 12, 3) := by decide +kernel
theorem dX7_setDates_40 : decode cX7_setDates 40 = .ok (.getfield 110, 3) := by decide +kernel
theorem dX7_setDates_43 : decode cX7_setDates 43 = .ok (.iload_n 1, 1) := by decide +kernel
theorem dX7_setDates_44 : decode cX7_setDates 44 = .ok (.iaload, 1) := by decide +kernel
theorem dX7_setDates_45 : decode cX7_setDates 45 = .ok (.isub, 1) := by decide +kernel
theorem dX7_setDates_46 : decode cX7_setDates 46 = .ok (.istore 4, 2) := by decide +kernel
theorem dX7_setDates_48 : decode cX7_setDates 48 = .ok (.aload_n 0, 1) := by decide +kernel
theorem dX7_setDates_49 : decode cX7_setDates 49 = .ok (.invokevirtual 79, 3) := by decide +kernel
theorem dX7_setDates_52 : decode cX7_setDates 52 = .ok (.aload_n 0, 1) := by decide +kernel
theorem dX7_setDates_53 : decode cX7_setDates 53 = .ok (.getfield 12, 3) := by decide +kernel
theorem dX7_setDates_56 : decode cX7_setDates 56 = .ok (.getfield 110, 3) := by decide +kernel
theorem dX7_setDates_59 : decode cX7_setDates 59 = .ok (.iload_n 1, 1) := by decide +kernel
theorem dX7_setDates_60 : decode cX7_setDates 60 = .ok (.iload_n 2, 1) := by decide +kernel
theorem dX7_setDates_61 : decode cX7_setDates 61 = .ok (.iastore, 1) := by decide +kernel
theorem dX7_setDates_62 : decode cX7_setDates 62 = .ok (.aload_n 0, 1) := by decide +kernel
theorem dX7_setDates_63 : decode cX7_setDates 63 = .ok (.getfield 12, 3) := by decide +kernel
theorem dX7_setDates_66 : decode cX7_setDates 66 = .ok (.getfield 106, 3) := by decide +kernel
theorem dX7_setDates_69 : decode cX7_setDates 69 = .ok (.iload_n 1, 1) := by decide +kernel
theorem dX7_setDates_70 : decode cX7_setDates 70 = .ok (.iload_n 3, 1) := by decide +kernel
theorem dX7_setDates_71 : decode cX7_setDates 71 = .ok (.iastore, 1) := by decide +kernel
theorem dX7_setDates_72 : decode cX7_setDates 72 = .ok (.iload 4, 2) := by decide +kernel
theorem dX7_setDates_74 : decode cX7_setDates 74 = .ok (.ireturn, 1) := by decide +kernel
set_option maxRecDepth 20000 in
theorem ggX7_give_X5_faultOfGiving : GoodIn wsX7_give wsX5_faultOfGiving := goodIn_r _ [6, 7, 8, 9, 5, 10, 11, 12, 13, 14, 15, 16, 17, 18, 19, 20, 21, 22, 23, 86, 87, 88, 89, 90, 91, 92, 93] (by decide +kernel) (by decide +kernel)
set_option maxRecDepth 20000 in
theorem gX7_give_X5_faultOfGiving : GoodIn wsX7_give (wsV RX7 113 RX5 yX5_faultOfGiving wsX5_faultOfGiving) := goodIn_app (goodIn_of _ (by decide +kernel)) ggX7_give_X5_faultOfGiving
set_option maxRecDepth 20000 in
theorem ggX7_give_X7_refuse : GoodIn wsX7_give wsX7_refuse := goodIn_ca (goodIn_ca (goodIn_ca (goodIn_r _ [26, 27, 28, 29, 30, 31, 32] (by decide +kernel) (by decide +kernel)) (goodIn_sub (fun _ h => List.mem_cons_of_mem _ (List.mem_append_left _ (List.mem_append_left _ (List.mem_append_right _ h)))) (by decide +kernel))) (goodIn_sub (fun _ h => List.mem_cons_of_mem _ (List.mem_append_left _ (List.mem_append_right _ h))) (by decide +kernel))) (goodIn_sub (fun _ h => List.mem_cons_of_mem _ (List.mem_append_right _ h)) (by decide +kernel))
set_option maxRecDepth 20000 in
theorem gX7_give_X7_refuse : GoodIn wsX7_give (va_wsS RX7 90 yX7_refuse wsX7_refuse) := goodIn_app (goodIn_of _ (by decide +kernel)) ggX7_give_X7_refuse
set_option maxRecDepth 20000 in
theorem ggX7_give_X7_beforeChange : GoodIn wsX7_give wsX7_beforeChange := goodIn_r _ [36, 37, 1, 38, 39, 40, 41, 42, 43, 44, 45, 46, 47, 5, 48, 49, 11, 50, 51, 52, 53, 54, 16, 55, 56, 57, 18, 58, 59, 60, 76, 77, 78, 79, 80, 81, 82, 83, 84, 85, 94, 95, 86, 87, 88, 89, 90, 91, 92, 93] (by decide +kernel) (by decide +kernel)
set_option maxRecDepth 20000 in
theorem gX7_give_X7_beforeChange : GoodIn wsX7_give (wsV RX7 79 RX7 yX7_beforeChange wsX7_beforeChange) := goodIn_app (goodIn_of _ (by decide +kernel)) ggX7_give_X7_beforeChange
set_option maxRecDepth 20000 in
theorem ggX7_give_X5_setGiven : GoodIn wsX7_give wsX5_setGiven := goodIn_r _ [64, 16, 54, 86, 87, 88, 89, 90, 91, 92, 93] (by decide +kernel) (by decide +kernel)
set_option maxRecDepth 20000 in
theorem gX7_give_X5_setGiven : GoodIn wsX7_give (wsV RX7 117 RX5 yX5_setGiven wsX5_setGiven) := goodIn_app (goodIn_of _ (by decide +kernel)) ggX7_give_X5_setGiven
set_option maxRecDepth 20000 in
theorem ggX7_give_X5_countGiven : GoodIn wsX7_give wsX5_countGiven := goodIn_r _ [68, 11, 16, 69, 70, 71, 72, 73, 74, 75, 86, 87, 88, 89, 90, 91, 92, 93] (by decide +kernel) (by decide +kernel)
set_option maxRecDepth 20000 in
theorem gX7_give_X5_countGiven : GoodIn wsX7_give (wsV RX7 121 RX5 yX5_countGiven wsX5_countGiven) := goodIn_app (goodIn_of _ (by decide +kernel)) ggX7_give_X5_countGiven
theorem dX7_give_0 : decode cX7_give 0 = .ok (.aload_n 0, 1) := by decide +kernel
theorem dX7_give_1 : decode cX7_give 1 = .ok (.getfield 12, 3) := by decide +kernel
theorem dX7_give_4 : decode cX7_give 4 = .ok (.iload_n 1, 1) := by decide +kernel
theorem dX7_give_5 : decode cX7_give 5 = .ok (.iload_n 2, 1) := by decide +kernel
theorem dX7_give_6 : decode cX7_give 6 = .ok (.iload_n 3, 1) := by decide +kernel
theorem dX7_give_7 : decode cX7_give 7 = .ok (.invokevirtual 113, 3) := by decide +kernel
theorem dX7_give_10 : decode cX7_give 10 = .ok (.invokestatic 90, 3) := by decide +kernel
theorem dX7_give_13 : decode cX7_give 13 = .ok (.aload_n 0, 1) := by decide +kernel
theorem dX7_give_14 : decode cX7_give 14 = .ok (.invokevirtual 79, 3) := by decide +kernel
theorem dX7_give_17 : decode cX7_give 17 = .ok (.aload_n 0, 1) := by decide +kernel
theorem dX7_give_18 : decode cX7_give 18 = .ok (.getfield 12, 3) := by decide +kernel
theorem dX7_give_21 : decode cX7_give 21 = .ok (.iload_n 1, 1) := by decide +kernel
theorem dX7_give_22 : decode cX7_give 22 = .ok (.iload_n 2, 1) := by decide +kernel
theorem dX7_give_23 : decode cX7_give 23 = .ok (.iload_n 3, 1) := by decide +kernel
theorem dX7_give_24 : decode cX7_give 24 = .ok (.invokevirtual 117, 3) := by decide +kernel
theorem dX7_give_27 : decode cX7_give 27 = .ok (.aload_n 0, 1) := by decide +kernel
theorem dX7_give_28 : decode cX7_give 28 = .ok (.getfield 12, 3) := by decide +kernel
theorem dX7_give_31 : decode cX7_give 31 = .ok (.invokevirtual 121, 3) := by decide +kernel
theorem dX7_give_34 : decode cX7_give 34 = .ok (.ireturn, 1) := by decide +kernel
set_option maxRecDepth 20000 in
theorem ggX7_giveDominance_X7_beforeChange : GoodIn wsX7_giveDominance wsX7_beforeChange := goodIn_r _ [7, 8, 1, 9, 10, 11, 12, 13, 14, 15, 16, 17, 18, 19, 20, 21, 22, 23, 24, 25, 26, 27, 28, 29, 30, 31, 6, 32, 33, 34, 54, 55, 56, 57, 58, 59, 60, 61, 62, 63, 72, 73, 64, 65, 66, 67, 68, 69, 70, 71] (by decide +kernel) (by decide +kernel)
set_option maxRecDepth 20000 in
theorem gX7_giveDominance_X7_beforeChange : GoodIn wsX7_giveDominance (wsV RX7 79 RX7 yX7_beforeChange wsX7_beforeChange) := goodIn_app (goodIn_of _ (by decide +kernel)) ggX7_giveDominance_X7_beforeChange
set_option maxRecDepth 20000 in
theorem ggX7_giveDominance_X5_outranks : GoodIn wsX7_giveDominance wsX5_outranks := goodIn_r _ [38, 23, 26, 24, 25, 27, 28, 39, 40, 41, 19, 42, 43, 6, 44, 64, 65, 66, 67, 68, 69, 70, 71] (by decide +kernel) (by decide +kernel)
set_option maxRecDepth 20000 in
theorem gX7_giveDominance_X5_outranks : GoodIn wsX7_giveDominance (wsV RX7 125 RX5 yX5_outranks wsX5_outranks) := goodIn_app (goodIn_of _ (by decide +kernel)) ggX7_giveDominance_X5_outranks
set_option maxRecDepth 20000 in
theorem ggX7_giveDominance_X5_isGiven : GoodIn wsX7_giveDominance wsX5_isGiven := goodIn_r _ [42, 28, 43, 6, 44, 64, 65, 66, 67, 68, 69, 70, 71] (by decide +kernel) (by decide +kernel)
set_option maxRecDepth 20000 in
theorem gX7_giveDominance_X5_isGiven : GoodIn wsX7_giveDominance (wsV RX7 128 RX5 yX5_isGiven wsX5_isGiven) := goodIn_app (goodIn_of _ (by decide +kernel)) ggX7_giveDominance_X5_isGiven
set_option maxRecDepth 20000 in
theorem ggX7_giveDominance_X5_leads : GoodIn wsX7_giveDominance wsX5_leads := goodIn_r _ [49, 28, 22, 43, 6, 44, 64, 65, 66, 67, 68, 69, 70, 71] (by decide +kernel) (by decide +kernel)
set_option maxRecDepth 20000 in
theorem gX7_giveDominance_X5_leads : GoodIn wsX7_giveDominance (wsV RX7 131 RX5 yX5_leads wsX5_leads) := goodIn_app (goodIn_of _ (by decide +kernel)) ggX7_giveDominance_X5_leads
set_option maxRecDepth 20000 in
theorem ggX7_giveDominance_X5_setGiven : GoodIn wsX7_giveDominance wsX5_setGiven := goodIn_r _ [53, 28, 27, 64, 65, 66, 67, 68, 69, 70, 71] (by decide +kernel) (by decide +kernel)
set_option maxRecDepth 20000 in
theorem gX7_giveDominance_X5_setGiven : GoodIn wsX7_giveDominance (wsV RX7 117 RX5 yX5_setGiven wsX5_setGiven) := goodIn_app (goodIn_of _ (by decide +kernel)) ggX7_giveDominance_X5_setGiven
theorem dX7_giveDominance_0 : decode cX7_giveDominance 0 = .ok (.aload_n 0, 1) := by decide +kernel
theorem dX7_giveDominance_1 : decode cX7_giveDominance 1 = .ok (.invokevirtual 79, 3) := by decide +kernel
theorem dX7_giveDominance_4 : decode cX7_giveDominance 4 = .ok (.iconst 0, 1) := by decide +kernel
theorem dX7_giveDominance_5 : decode cX7_giveDominance 5 = .ok (.istore_n 1, 1) := by decide +kernel
theorem dX7_giveDominance_6 : decode cX7_giveDominance 6 = .ok (.iconst 0, 1) := by decide +kernel
theorem dX7_giveDominance_7 : decode cX7_giveDominance 7 = .ok (.istore_n 2, 1) := by decide +kernel
theorem dX7_giveDominance_8 : decode cX7_giveDominance 8 = .ok (.iload_n 2, 1) := by decide +kernel
theorem dX7_giveDominance_9 : decode cX7_giveDominance 9 = .ok (.aload_n 0, 1) := by decide +kernel
theorem dX7_giveDominance_10 : decode cX7_giveDominance 10 = .ok (.getfield 12, 3) := by decide +kernel
theorem dX7_giveDominance_13 : decode cX7_giveDominance 13 = .ok (.getfield 75, 3) := by decide +kernel
theorem dX7_giveDominance_16 : decode cX7_giveDominance 16 = .ok (.if_icmp .ge 77, 3) := by decide +kernel
theorem dX7_giveDominance_19 : decode cX7_giveDominance 19 = .ok (.iconst 0, 1) := by decide +kernel
theorem dX7_giveDominance_20 : decode cX7_giveDominance 20 = .ok (.istore_n 3, 1) := by decide +kernel
theorem dX7_giveDominance_21 : decode cX7_giveDominance 21 = .ok (.iload_n 3, 1) := by decide +kernel
theorem dX7_giveDominance_22 : decode cX7_giveDominance 22 = .ok (.aload_n 0, 1) := by decide +kernel
theorem dX7_giveDominance_23 : decode cX7_giveDominance 23 = .ok (.getfield 12, 3) := by decide +kernel
theorem dX7_giveDominance_26 : decode cX7_giveDominance 26 = .ok (.getfield 75, 3) := by decide +kernel
theorem dX7_giveDominance_29 : decode cX7_giveDominance 29 = .ok (.if_icmp .ge 58, 3) := by decide +kernel
theorem dX7_giveDominance_32 : decode cX7_giveDominance 32 = .ok (.aload_n 0, 1) := by decide +kernel
theorem dX7_giveDominance_33 : decode cX7_giveDominance 33 = .ok (.getfield 12, 3) := by decide +kernel
theorem dX7_giveDominance_36 : decode cX7_giveDominance 36 = .ok (.iload_n 2, 1) := by decide +kernel
theorem dX7_giveDominance_37 : decode cX7_giveDominance 37 = .ok (.iload_n 3, 1) := by decide +kernel
theorem dX7_giveDominance_38 : decode cX7_giveDominance 38 = .ok (.invokevirtual 125, 3) := by decide +kernel
theorem dX7_giveDominance_41 : decode cX7_giveDominance 41 = .ok (.ifCond .eq 40, 3) := by decide +kernel
theorem dX7_giveDominance_44 : decode cX7_giveDominance 44 = .ok (.aload_n 0, 1) := by decide +kernel
theorem dX7_giveDominance_45 : decode cX7_giveDominance 45 = .ok (.getfield 12, 3) := by decide +kernel
theorem dX7_giveDominance_48 : decode cX7_giveDominance 48 = .ok (.iload_n 2, 1) := by decide +kernel
theorem dX7_giveDominance_49 : decode cX7_giveDominance 49 = .ok (.iload_n 3, 1) := by decide +kernel
theorem dX7_giveDominance_50 : decode cX7_giveDominance 50 = .ok (.invokevirtual 128, 3) := by decide +kernel
theorem dX7_giveDominance_53 : decode cX7_giveDominance 53 = .ok (.ifCond .ne 28, 3) := by decide +kernel
theorem dX7_giveDominance_56 : decode cX7_giveDominance 56 = .ok (.aload_n 0, 1) := by decide +kernel
theorem dX7_giveDominance_57 : decode cX7_giveDominance 57 = .ok (.getfield 12, 3) := by decide +kernel
theorem dX7_giveDominance_60 : decode cX7_giveDominance 60 = .ok (.iload_n 3, 1) := by decide +kernel
theorem dX7_giveDominance_61 : decode cX7_giveDominance 61 = .ok (.iload_n 2, 1) := by decide +kernel
theorem dX7_giveDominance_62 : decode cX7_giveDominance 62 = .ok (.invokevirtual 131, 3) := by decide +kernel
theorem dX7_giveDominance_65 : decode cX7_giveDominance 65 = .ok (.ifCond .ne 16, 3) := by decide +kernel
theorem dX7_giveDominance_68 : decode cX7_giveDominance 68 = .ok (.aload_n 0, 1) := by decide +kernel
theorem dX7_giveDominance_69 : decode cX7_giveDominance 69 = .ok (.getfield 12, 3) := by decide +kernel
theorem dX7_giveDominance_72 : decode cX7_giveDominance 72 = .ok (.iload_n 2, 1) := by decide +kernel
theorem dX7_giveDominance_73 : decode cX7_giveDominance 73 = .ok (.iload_n 3, 1) := by decide +kernel
theorem dX7_giveDominance_74 : decode cX7_giveDominance 74 = .ok (.iconst 1, 1) := by decide +kernel
theorem dX7_giveDominance_75 : decode cX7_giveDominance 75 = .ok (.invokevirtual 117, 3) := by decide +kernel
theorem dX7_giveDominance_78 : decode cX7_giveDominance 78 = .ok (.iinc 1 1, 3) := by decide +kernel
theorem dX7_giveDominance_81 : decode cX7_giveDominance 81 = .ok (.iinc 3 1, 3) := by decide +kernel
theorem dX7_giveDominance_84 : decode cX7_giveDominance 84 = .ok (.goto (-63), 3) := by decide +kernel
theorem dX7_giveDominance_87 : decode cX7_giveDominance 87 = .ok (.iinc 2 1, 3) := by decide +kernel
theorem dX7_giveDominance_90 : decode cX7_giveDominance 90 = .ok (.goto (-82), 3) := by decide +kernel
theorem dX7_giveDominance_93 : decode cX7_giveDominance 93 = .ok (.iload_n 1, 1) := by decide +kernel
theorem dX7_giveDominance_94 : decode cX7_giveDominance 94 = .ok (.ireturn, 1) := by decide +kernel
set_option maxRecDepth 20000 in
theorem ggX7_task_X7_refuseUnknown : GoodIn wsX7_task wsX7_refuseUnknown := goodIn_ca (goodIn_r _ [8, 9, 10, 3, 11, 12, 13, 14, 15, 16, 27, 28, 29, 30, 31, 32, 33, 34, 35, 36, 37, 38, 39, 40, 41, 42, 43, 44] (by decide +kernel) (by decide +kernel)) (goodIn_sub (fun _ h => List.mem_cons_of_mem _ (List.mem_append_right _ h)) (by decide +kernel))
set_option maxRecDepth 20000 in
theorem gX7_task_X7_refuseUnknown : GoodIn wsX7_task (wsV RX7 97 RX7 yX7_refuseUnknown wsX7_refuseUnknown) := goodIn_app (goodIn_of _ (by decide +kernel)) ggX7_task_X7_refuseUnknown
set_option maxRecDepth 20000 in
theorem ggX7_task_X5_aspect : GoodIn wsX7_task wsX5_aspect := goodIn_r _ [20, 21, 22, 23, 24, 25, 26, 37, 38, 39, 40, 41, 42, 43, 44] (by decide +kernel) (by decide +kernel)
set_option maxRecDepth 20000 in
theorem gX7_task_X5_aspect : GoodIn wsX7_task (wsV RX7 136 RX5 yX5_aspect wsX5_aspect) := goodIn_app (goodIn_of _ (by decide +kernel)) ggX7_task_X5_aspect
theorem dX7_task_0 : decode cX7_task 0 = .ok (.aload_n 0, 1) := by decide +kernel
theorem dX7_task_1 : decode cX7_task 1 = .ok (.iload_n 1, 1) := by decide +kernel
theorem dX7_task_2 : decode cX7_task 2 = .ok (.invokevirtual 97, 3) := by decide +kernel
theorem dX7_task_5 : decode cX7_task 5 = .ok (.iload_n 2, 1) := by decide +kernel
theorem dX7_task_6 : decode cX7_task 6 = .ok (.ifCond .lt 9, 3) := by decide +kernel
theorem dX7_task_9 : decode cX7_task 9 = .ok (.iload_n 2, 1) := by decide +kernel
theorem dX7_task_10 : decode cX7_task 10 = .ok (.bipush 6, 2) := by decide +kernel
theorem dX7_task_12 : decode cX7_task 12 = .ok (.if_icmp .lt 13, 3) := by decide +kernel
theorem dX7_task_15 : decode cX7_task 15 = .ok (.new 68, 3) := by decide +kernel
theorem dX7_task_18 : decode cX7_task 18 = .ok (.dup, 1) := by decide +kernel
theorem dX7_task_19 : decode cX7_task 19 = .ok (.ldc 134, 2) := by decide +kernel
theorem dX7_task_21 : decode cX7_task 21 = .ok (.invokespecial 72, 3) := by decide +kernel
theorem dX7_task_24 : decode cX7_task 24 = .ok (.athrow, 1) := by decide +kernel
theorem dX7_task_25 : decode cX7_task 25 = .ok (.aload_n 0, 1) := by decide +kernel
theorem dX7_task_26 : decode cX7_task 26 = .ok (.getfield 12, 3) := by decide +kernel
theorem dX7_task_29 : decode cX7_task 29 = .ok (.iload_n 1, 1) := by decide +kernel
theorem dX7_task_30 : decode cX7_task 30 = .ok (.iload_n 2, 1) := by decide +kernel
theorem dX7_task_31 : decode cX7_task 31 = .ok (.invokevirtual 136, 3) := by decide +kernel
theorem dX7_task_34 : decode cX7_task 34 = .ok (.ireturn, 1) := by decide +kernel
set_option maxRecDepth 20000 in
theorem ggX7_value_X7_number : GoodIn wsX7_value wsX7_number := goodIn_r _ [7, 8, 9, 10, 11, 12, 13, 14, 15, 16, 17, 18, 19, 20, 21, 22, 23, 24, 25, 26, 27, 28, 29, 30, 31, 32, 33, 34, 6, 35, 36, 37, 38, 39, 40, 41, 42, 43, 44, 45, 46, 47, 48, 49, 50, 51, 52, 53, 54, 55, 56, 57, 58, 59, 60, 61, 62, 63, 64, 65, 66, 67, 68, 69, 70, 71, 72, 73, 74, 75, 76, 77, 78, 79, 80, 81, 82, 83, 84, 85, 86, 87, 88, 89, 90, 91, 92, 93, 94, 95, 96, 97, 98, 99, 100, 101, 102, 103, 104, 105, 106, 107, 108, 109, 110, 111, 112, 113, 114, 115, 116, 117, 118, 119, 120, 121, 122, 123, 124, 125, 126, 127, 128, 129, 130, 131, 132, 133, 134, 135, 136, 137, 138, 139, 140, 141, 142, 143, 144, 145, 146, 147, 148, 149, 150, 151, 152, 153, 154, 155, 156, 157, 158, 159, 160, 161, 162] (by decide +kernel) (by decide +kernel)
set_option maxRecDepth 20000 in
theorem gX7_value_X7_number : GoodIn wsX7_value (wsV RX7 140 RX7 yX7_number wsX7_number) := goodIn_app (goodIn_of _ (by decide +kernel)) ggX7_value_X7_number
theorem dX7_value_0 : decode cX7_value 0 = .ok (.iload_n 1, 1) := by decide +kernel
theorem dX7_value_1 : decode cX7_value 1 = .ok (.ifCond .lt 9, 3) := by decide +kernel
theorem dX7_value_4 : decode cX7_value 4 = .ok (.iload_n 1, 1) := by decide +kernel
theorem dX7_value_5 : decode cX7_value 5 = .ok (.bipush 6, 2) := by decide +kernel
theorem dX7_value_7 : decode cX7_value 7 = .ok (.if_icmp .lt 13, 3) := by decide +kernel
theorem dX7_value_10 : decode cX7_value 10 = .ok (.new 68, 3) := by decide +kernel
theorem dX7_value_13 : decode cX7_value 13 = .ok (.dup, 1) := by decide +kernel
theorem dX7_value_14 : decode cX7_value 14 = .ok (.ldc 134, 2) := by decide +kernel
theorem dX7_value_16 : decode cX7_value 16 = .ok (.invokespecial 72, 3) := by decide +kernel
theorem dX7_value_19 : decode cX7_value 19 = .ok (.athrow, 1) := by decide +kernel
theorem dX7_value_20 : decode cX7_value 20 = .ok (.aload_n 0, 1) := by decide +kernel
theorem dX7_value_21 : decode cX7_value 21 = .ok (.iload_n 1, 1) := by decide +kernel
theorem dX7_value_22 : decode cX7_value 22 = .ok (.invokevirtual 140, 3) := by decide +kernel
theorem dX7_value_25 : decode cX7_value 25 = .ok (.ireturn, 1) := by decide +kernel
set_option maxRecDepth 20000 in
theorem ggX7_firstStart_X7_refuseUnknown : GoodIn wsX7_firstStart wsX7_refuseUnknown := goodIn_ca (goodIn_r _ [7, 8, 9, 10, 11, 12, 13, 14, 15, 16, 120, 121, 122, 123, 124, 125, 126, 127, 128, 129, 139, 140, 141, 142, 143, 144, 145, 146] (by decide +kernel) (by decide +kernel)) (goodIn_sub (fun _ h => List.mem_cons_of_mem _ (List.mem_append_left _ (List.mem_append_right _ h))) (by decide +kernel))
set_option maxRecDepth 20000 in
theorem gX7_firstStart_X7_refuseUnknown : GoodIn wsX7_firstStart (wsV RX7 97 RX7 yX7_refuseUnknown wsX7_refuseUnknown) := goodIn_app (goodIn_of _ (by decide +kernel)) ggX7_firstStart_X7_refuseUnknown
set_option maxRecDepth 20000 in
theorem ggX7_firstStart_X7_refuseContradiction : GoodIn wsX7_firstStart wsX7_refuseContradiction := goodIn_ca (goodIn_r _ [20, 21, 22, 1, 23, 24, 25, 26, 6, 27, 28, 29, 30, 31, 32, 33, 34, 35, 36, 37, 38, 39, 40, 41, 42, 43, 44, 45, 46, 47, 48, 49, 50, 51, 52, 53, 54, 55, 56, 57, 58, 59, 60, 61, 62, 63, 64, 65, 66, 67, 68, 69, 70, 71, 72, 73, 74, 75, 76, 77, 78, 79, 80, 81, 82, 83, 84, 85, 86, 87, 88, 89, 90, 91, 92, 93, 94, 95, 96, 97, 98, 99, 100, 101, 102, 103, 104, 105, 106, 107, 108, 109, 110, 111, 112, 113, 114, 115, 116, 117, 118, 119, 120, 121, 122, 123, 124, 125, 126, 127, 128, 129, 130, 131, 132, 133, 134, 135, 136, 137, 138, 139, 140, 141, 142, 143, 144, 145, 146] (by decide +kernel) (by decide +kernel)) (goodIn_sub (fun _ h => List.mem_cons_of_mem _ (List.mem_append_right _ h)) (by decide +kernel))
set_option maxRecDepth 20000 in
theorem gX7_firstStart_X7_refuseContradiction : GoodIn wsX7_firstStart (wsV RX7 144 RX7 yX7_refuseContradiction wsX7_refuseContradiction) := goodIn_app (goodIn_of _ (by decide +kernel)) ggX7_firstStart_X7_refuseContradiction
theorem dX7_firstStart_0 : decode cX7_firstStart 0 = .ok (.aload_n 0, 1) := by decide +kernel
theorem dX7_firstStart_1 : decode cX7_firstStart 1 = .ok (.iload_n 1, 1) := by decide +kernel
theorem dX7_firstStart_2 : decode cX7_firstStart 2 = .ok (.invokevirtual 97, 3) := by decide +kernel
theorem dX7_firstStart_5 : decode cX7_firstStart 5 = .ok (.aload_n 0, 1) := by decide +kernel
theorem dX7_firstStart_6 : decode cX7_firstStart 6 = .ok (.invokevirtual 144, 3) := by decide +kernel
theorem dX7_firstStart_9 : decode cX7_firstStart 9 = .ok (.aload_n 0, 1) := by decide +kernel
theorem dX7_firstStart_10 : decode cX7_firstStart 10 = .ok (.getfield 21, 3) := by decide +kernel
theorem dX7_firstStart_13 : decode cX7_firstStart 13 = .ok (.getfield 147, 3) := by decide +kernel
theorem dX7_firstStart_16 : decode cX7_firstStart 16 = .ok (.iload_n 1, 1) := by decide +kernel
theorem dX7_firstStart_17 : decode cX7_firstStart 17 = .ok (.iaload, 1) := by decide +kernel
theorem dX7_firstStart_18 : decode cX7_firstStart 18 = .ok (.ireturn, 1) := by decide +kernel
set_option maxRecDepth 20000 in
theorem ggX7_lastEnd_X7_refuseUnknown : GoodIn wsX7_lastEnd wsX7_refuseUnknown := goodIn_ca (goodIn_r _ [7, 8, 9, 10, 11, 12, 13, 14, 15, 16, 120, 121, 122, 123, 124, 125, 126, 127, 128, 129, 139, 140, 141, 142, 143, 144, 145, 146] (by decide +kernel) (by decide +kernel)) (goodIn_sub (fun _ h => List.mem_cons_of_mem _ (List.mem_append_left _ (List.mem_append_right _ h))) (by decide +kernel))
set_option maxRecDepth 20000 in
theorem gX7_lastEnd_X7_refuseUnknown : GoodIn wsX7_lastEnd (wsV RX7 97 RX7 yX7_refuseUnknown wsX7_refuseUnknown) := goodIn_app (goodIn_of _ (by decide +kernel)) ggX7_lastEnd_X7_refuseUnknown
set_option maxRecDepth 20000 in
theorem ggX7_lastEnd_X7_refuseContradiction : GoodIn wsX7_lastEnd wsX7_refuseContradiction := goodIn_ca (goodIn_r _ [20, 21, 22, 1, 23, 24, 25, 26, 6, 27, 28, 29, 30, 31, 32, 33, 34, 35, 36, 37, 38, 39, 40, 41, 42, 43, 44, 45, 46, 47, 48, 49, 50, 51, 52, 53, 54, 55, 56, 57, 58, 59, 60, 61, 62, 63, 64, 65, 66, 67, 68, 69, 70, 71, 72, 73, 74, 75, 76, 77, 78, 79, 80, 81, 82, 83, 84, 85, 86, 87, 88, 89, 90, 91, 92, 93, 94, 95, 96, 97, 98, 99, 100, 101, 102, 103, 104, 105, 106, 107, 108, 109, 110, 111, 112, 113, 114, 115, 116, 117, 118, 119, 120, 121, 122, 123, 124, 125, 126, 127, 128, 129, 130, 131, 132, 133, 134, 135, 136, 137, 138, 139, 140, 141, 142, 143, 144, 145, 146] (by decide +kernel) (by decide +kernel)) (goodIn_sub (fun _ h => List.mem_cons_of_mem _ (List.mem_append_right _ h)) (by decide +kernel))
set_option maxRecDepth 20000 in
theorem gX7_lastEnd_X7_refuseContradiction : GoodIn wsX7_lastEnd (wsV RX7 144 RX7 yX7_refuseContradiction wsX7_refuseContradiction) := goodIn_app (goodIn_of _ (by decide +kernel)) ggX7_lastEnd_X7_refuseContradiction
theorem dX7_lastEnd_0 : decode cX7_lastEnd 0 = .ok (.aload_n 0, 1) := by decide +kernel
theorem dX7_lastEnd_1 : decode cX7_lastEnd 1 = .ok (.iload_n 1, 1) := by decide +kernel
theorem dX7_lastEnd_2 : decode cX7_lastEnd 2 = .ok (.invokevirtual 97, 3) := by decide +kernel
theorem dX7_lastEnd_5 : decode cX7_lastEnd 5 = .ok (.aload_n 0, 1) := by decide +kernel
theorem dX7_lastEnd_6 : decode cX7_lastEnd 6 = .ok (.invokevirtual 144, 3) := by decide +kernel
theorem dX7_lastEnd_9 : decode cX7_lastEnd 9 = .ok (.aload_n 0, 1) := by decide +kernel
theorem dX7_lastEnd_10 : decode cX7_lastEnd 10 = .ok (.getfield 21, 3) := by decide +kernel
theorem dX7_lastEnd_13 : decode cX7_lastEnd 13 = .ok (.getfield 150, 3) := by decide +kernel
theorem dX7_lastEnd_16 : decode cX7_lastEnd 16 = .ok (.iload_n 1, 1) := by decide +kernel
theorem dX7_lastEnd_17 : decode cX7_lastEnd 17 = .ok (.iaload, 1) := by decide +kernel
theorem dX7_lastEnd_18 : decode cX7_lastEnd 18 = .ok (.ireturn, 1) := by decide +kernel
set_option maxRecDepth 20000 in
theorem ggX7_precedes_X7_refuseUnknown : GoodIn wsX7_precedes wsX7_refuseUnknown := goodIn_ca (goodIn_r _ [6, 7, 8, 9, 10, 11, 12, 13, 14, 15, 123, 124, 125, 126, 127, 128, 129, 130, 131, 132, 133, 134, 135, 136, 137, 138, 139, 140] (by decide +kernel) (by decide +kernel)) (goodIn_sub (fun _ h => List.mem_cons_of_mem _ (List.mem_append_left _ (List.mem_append_right _ h))) (by decide +kernel))
set_option maxRecDepth 20000 in
theorem gX7_precedes_X7_refuseUnknown : GoodIn wsX7_precedes (wsV RX7 97 RX7 yX7_refuseUnknown wsX7_refuseUnknown) := goodIn_app (goodIn_of _ (by decide +kernel)) ggX7_precedes_X7_refuseUnknown
set_option maxRecDepth 20000 in
theorem ggX7_precedes_X7_refuseContradiction : GoodIn wsX7_precedes wsX7_refuseContradiction := goodIn_ca (goodIn_r _ [19, 20, 21, 1, 22, 23, 24, 25, 5, 26, 27, 28, 29, 30, 31, 32, 33, 34, 35, 36, 37, 38, 39, 40, 41, 42, 43, 44, 45, 46, 47, 48, 49, 50, 51, 52, 53, 54, 55, 56, 57, 58, 59, 60, 61, 62, 63, 64, 65, 66, 67, 68, 69, 70, 71, 72, 73, 74, 75, 76, 77, 78, 79, 80, 81, 82, 83, 84, 85, 86, 87, 88, 89, 90, 91, 92, 93, 94, 95, 96, 97, 98, 99, 100, 101, 102, 103, 104, 105, 106, 107, 108, 109, 110, 111, 112, 113, 114, 115, 116, 117, 118, 123, 124, 125, 126, 127, 128, 129, 130, 131, 132, 141, 142, 143, 144, 145, 146, 147, 148, 149, 133, 134, 135, 136, 137, 138, 139, 140] (by decide +kernel) (by decide +kernel)) (goodIn_sub (fun _ h => List.mem_cons_of_mem _ (List.mem_append_right _ h)) (by decide +kernel))
set_option maxRecDepth 20000 in
theorem gX7_precedes_X7_refuseContradiction : GoodIn wsX7_precedes (wsV RX7 144 RX7 yX7_refuseContradiction wsX7_refuseContradiction) := goodIn_app (goodIn_of _ (by decide +kernel)) ggX7_precedes_X7_refuseContradiction
set_option maxRecDepth 20000 in
theorem ggX7_precedes_X6_orders : GoodIn wsX7_precedes wsX6_orders := goodIn_r _ [122, 46, 53, 5, 54, 141, 142, 143, 144, 145, 146, 147, 148, 149] (by decide +kernel) (by decide +kernel)
set_option maxRecDepth 20000 in
theorem gX7_precedes_X6_orders : GoodIn wsX7_precedes (wsV RX7 153 RX6 yX6_orders wsX6_orders) := goodIn_app (goodIn_of _ (by decide +kernel)) ggX7_precedes_X6_orders
theorem dX7_precedes_0 : decode cX7_precedes 0 = .ok (.aload_n 0, 1) := by decide +kernel
theorem dX7_precedes_1 : decode cX7_precedes 1 = .ok (.iload_n 1, 1) := by decide +kernel
theorem dX7_precedes_2 : decode cX7_precedes 2 = .ok (.invokevirtual 97, 3) := by decide +kernel
theorem dX7_precedes_5 : decode cX7_precedes 5 = .ok (.aload_n 0, 1) := by decide +kernel
theorem dX7_precedes_6 : decode cX7_precedes 6 = .ok (.iload_n 2, 1) := by decide +kernel
theorem dX7_precedes_7 : decode cX7_precedes 7 = .ok (.invokevirtual 97, 3) := by decide +kernel
theorem dX7_precedes_10 : decode cX7_precedes 10 = .ok (.aload_n 0, 1) := by decide +kernel
theorem dX7_precedes_11 : decode cX7_precedes 11 = .ok (.invokevirtual 144, 3) := by decide +kernel
theorem dX7_precedes_14 : decode cX7_precedes 14 = .ok (.aload_n 0, 1) := by decide +kernel
theorem dX7_precedes_15 : decode cX7_precedes 15 = .ok (.getfield 21, 3) := by decide +kernel
theorem dX7_precedes_18 : decode cX7_precedes 18 = .ok (.iload_n 1, 1) := by decide +kernel
theorem dX7_precedes_19 : decode cX7_precedes 19 = .ok (.iload_n 2, 1) := by decide +kernel
theorem dX7_precedes_20 : decode cX7_precedes 20 = .ok (.invokevirtual 153, 3) := by decide +kernel
theorem dX7_precedes_23 : decode cX7_precedes 23 = .ok (.ireturn, 1) := by decide +kernel
set_option maxRecDepth 20000 in
theorem ggX7_why_X7_refuseUnknown : GoodIn wsX7_why wsX7_refuseUnknown := goodIn_ca (goodIn_r _ [6, 7, 8, 9, 10, 11, 12, 13, 14, 15, 136, 137, 138, 139, 140, 141, 142, 143, 144, 145, 146, 147, 148, 149, 150, 151, 152, 153] (by decide +kernel) (by decide +kernel)) (goodIn_sub (fun _ h => List.mem_cons_of_mem _ (List.mem_append_left _ (List.mem_append_right _ h))) (by decide +kernel))
set_option maxRecDepth 20000 in
theorem gX7_why_X7_refuseUnknown : GoodIn wsX7_why (wsV RX7 97 RX7 yX7_refuseUnknown wsX7_refuseUnknown) := goodIn_app (goodIn_of _ (by decide +kernel)) ggX7_why_X7_refuseUnknown
set_option maxRecDepth 20000 in
theorem ggX7_why_X7_refuseContradiction : GoodIn wsX7_why wsX7_refuseContradiction := goodIn_ca (goodIn_r _ [19, 20, 21, 1, 22, 23, 24, 25, 5, 26, 27, 28, 29, 30, 31, 32, 33, 34, 35, 36, 37, 38, 39, 40, 41, 42, 43, 44, 45, 46, 47, 48, 49, 50, 51, 52, 53, 54, 55, 56, 57, 58, 59, 60, 61, 62, 63, 64, 65, 66, 67, 68, 69, 70, 71, 72, 73, 74, 75, 76, 77, 78, 79, 80, 81, 82, 83, 84, 85, 86, 87, 88, 89, 90, 91, 92, 93, 94, 95, 96, 97, 98, 99, 100, 101, 102, 103, 104, 105, 106, 107, 108, 109, 110, 111, 112, 113, 114, 115, 116, 117, 118, 136, 137, 138, 139, 140, 141, 142, 143, 144, 145, 154, 155, 156, 157, 158, 159, 160, 161, 162, 146, 147, 148, 149, 150, 151, 152, 153] (by decide +kernel) (by decide +kernel)) (goodIn_sub (fun _ h => List.mem_cons_of_mem _ (List.mem_append_right _ h)) (by decide +kernel))
set_option maxRecDepth 20000 in
theorem gX7_why_X7_refuseContradiction : GoodIn wsX7_why (wsV RX7 144 RX7 yX7_refuseContradiction wsX7_refuseContradiction) := goodIn_app (goodIn_of _ (by decide +kernel)) ggX7_why_X7_refuseContradiction
set_option maxRecDepth 20000 in
theorem ggX7_why_X6_reason : GoodIn wsX7_why wsX6_reason := goodIn_r _ [122, 40, 123, 124, 125, 31, 126, 46, 53, 5, 54, 127, 128, 129, 13, 130, 131, 99, 100, 101, 102, 48, 42, 63, 44, 132, 133, 134, 135, 39, 107, 108, 109, 110, 76, 79, 77, 115, 116, 117, 118, 154, 155, 156, 157, 158, 159, 160, 161, 162, 146, 147, 148, 149, 150, 151, 152, 153] (by decide +kernel) (by decide +kernel)
set_option maxRecDepth 20000 in
theorem gX7_why_X6_reason : GoodIn wsX7_why (wsV RX7 156 RX6 yX6_reason wsX6_reason) := goodIn_app (goodIn_of _ (by decide +kernel)) ggX7_why_X6_reason
theorem dX7_why_0 : decode cX7_why 0 = .ok (.aload_n 0, 1) := by decide +kernel
theorem dX7_why_1 : decode cX7_why 1 = .ok (.iload_n 1, 1) := by decide +kernel
theorem dX7_why_2 : decode cX7_why 2 = .ok (.invokevirtual 97, 3) := by decide +kernel
theorem dX7_why_5 : decode cX7_why 5 = .ok (.aload_n 0, 1) := by decide +kernel
theorem dX7_why_6 : decode cX7_why 6 = .ok (.iload_n 2, 1) := by decide +kernel
theorem dX7_why_7 : decode cX7_why 7 = .ok (.invokevirtual 97, 3) := by decide +kernel
theorem dX7_why_10 : decode cX7_why 10 = .ok (.aload_n 0, 1) := by decide +kernel
theorem dX7_why_11 : decode cX7_why 11 = .ok (.invokevirtual 144, 3) := by decide +kernel
theorem dX7_why_14 : decode cX7_why 14 = .ok (.aload_n 0, 1) := by decide +kernel
theorem dX7_why_15 : decode cX7_why 15 = .ok (.getfield 21, 3) := by decide +kernel
theorem dX7_why_18 : decode cX7_why 18 = .ok (.iload_n 1, 1) := by decide +kernel
theorem dX7_why_19 : decode cX7_why 19 = .ok (.iload_n 2, 1) := by decide +kernel
theorem dX7_why_20 : decode cX7_why 20 = .ok (.invokevirtual 156, 3) := by decide +kernel
theorem dX7_why_23 : decode cX7_why 23 = .ok (.ireturn, 1) := by decide +kernel
set_option maxRecDepth 20000 in
theorem ggX7_because_X7_refuseUnknown : GoodIn wsX7_because wsX7_refuseUnknown := goodIn_ca (goodIn_r _ [6, 7, 8, 9, 10, 11, 12, 13, 14, 15, 123, 124, 125, 126, 127, 128, 129, 130, 131, 132, 133, 134, 135, 136, 137, 138, 139, 140] (by decide +kernel) (by decide +kernel)) (goodIn_sub (fun _ h => List.mem_cons_of_mem _ (List.mem_append_left _ (List.mem_append_right _ h))) (by decide +kernel))
set_option maxRecDepth 20000 in
theorem gX7_because_X7_refuseUnknown : GoodIn wsX7_because (wsV RX7 97 RX7 yX7_refuseUnknown wsX7_refuseUnknown) := goodIn_app (goodIn_of _ (by decide +kernel)) ggX7_because_X7_refuseUnknown
set_option maxRecDepth 20000 in
theorem ggX7_because_X7_refuseContradiction : GoodIn wsX7_because wsX7_refuseContradiction := goodIn_ca (goodIn_r _ [19, 20, 21, 1, 22, 23, 24, 25, 5, 26, 27, 28, 29, 30, 31, 32, 33, 34, 35, 36, 37, 38, 39, 40, 41, 42, 43, 44, 45, 46, 47, 48, 49, 50, 51, 52, 53, 54, 55, 56, 57, 58, 59, 60, 61, 62, 63, 64, 65, 66, 67, 68, 69, 70, 71, 72, 73, 74, 75, 76, 77, 78, 79, 80, 81, 82, 83, 84, 85, 86, 87, 88, 89, 90, 91, 92, 93, 94, 95, 96, 97, 98, 99, 100, 101, 102, 103, 104, 105, 106, 107, 108, 109, 110, 111, 112, 113, 114, 115, 116, 117, 118, 123, 124, 125, 126, 127, 128, 129, 130, 131, 132, 141, 142, 143, 144, 145, 146, 147, 148, 149, 133, 134, 135, 136, 137, 138, 139, 140] (by decide +kernel) (by decide +kernel)) (goodIn_sub (fun _ h => List.mem_cons_of_mem _ (List.mem_append_right _ h)) (by decide +kernel))
set_option maxRecDepth 20000 in
theorem gX7_because_X7_refuseContradiction : GoodIn wsX7_because (wsV RX7 144 RX7 yX7_refuseContradiction wsX7_refuseContradiction) := goodIn_app (goodIn_of _ (by decide +kernel)) ggX7_because_X7_refuseContradiction
set_option maxRecDepth 20000 in
theorem ggX7_because_X6_leastSet : GoodIn wsX7_because wsX6_leastSet := goodIn_r _ [122, 40, 48, 39, 53, 5, 54, 107, 108, 109, 31, 110, 76, 79, 77, 115, 116, 117, 118, 141, 142, 143, 144, 145, 146, 147, 148, 149, 133, 134, 135, 136, 137, 138, 139, 140] (by decide +kernel) (by decide +kernel)
set_option maxRecDepth 20000 in
theorem gX7_because_X6_leastSet : GoodIn wsX7_because (wsV RX7 159 RX6 yX6_leastSet wsX6_leastSet) := goodIn_app (goodIn_of _ (by decide +kernel)) ggX7_because_X6_leastSet
theorem dX7_because_0 : decode cX7_because 0 = .ok (.aload_n 0, 1) := by decide +kernel
theorem dX7_because_1 : decode cX7_because 1 = .ok (.iload_n 1, 1) := by decide +kernel
theorem dX7_because_2 : decode cX7_because 2 = .ok (.invokevirtual 97, 3) := by decide +kernel
theorem dX7_because_5 : decode cX7_because 5 = .ok (.aload_n 0, 1) := by decide +kernel
theorem dX7_because_6 : decode cX7_because 6 = .ok (.iload_n 2, 1) := by decide +kernel
theorem dX7_because_7 : decode cX7_because 7 = .ok (.invokevirtual 97, 3) := by decide +kernel
theorem dX7_because_10 : decode cX7_because 10 = .ok (.aload_n 0, 1) := by decide +kernel
theorem dX7_because_11 : decode cX7_because 11 = .ok (.invokevirtual 144, 3) := by decide +kernel
theorem dX7_because_14 : decode cX7_because 14 = .ok (.aload_n 0, 1) := by decide +kernel
theorem dX7_because_15 : decode cX7_because 15 = .ok (.getfield 21, 3) := by decide +kernel
theorem dX7_because_18 : decode cX7_because 18 = .ok (.iload_n 1, 1) := by decide +kernel
theorem dX7_because_19 : decode cX7_because 19 = .ok (.iload_n 2, 1) := by decide +kernel
theorem dX7_because_20 : decode cX7_because 20 = .ok (.invokevirtual 159, 3) := by decide +kernel
theorem dX7_because_23 : decode cX7_because 23 = .ok (.ireturn, 1) := by decide +kernel
set_option maxRecDepth 20000 in
theorem ggX7_slack_X7_refuseUnknown : GoodIn wsX7_slack wsX7_refuseUnknown := goodIn_ca (goodIn_r _ [10, 11, 12, 4, 13, 14, 15, 16, 17, 18, 122, 123, 124, 125, 126, 127, 128, 129, 130, 131, 141, 142, 143, 144, 145, 146, 147, 148] (by decide +kernel) (by decide +kernel)) (goodIn_sub (fun _ h => List.mem_cons_of_mem _ (List.mem_append_left _ (List.mem_append_right _ h))) (by decide +kernel))
set_option maxRecDepth 20000 in
theorem gX7_slack_X7_refuseUnknown : GoodIn wsX7_slack (wsV RX7 97 RX7 yX7_refuseUnknown wsX7_refuseUnknown) := goodIn_app (goodIn_of _ (by decide +kernel)) ggX7_slack_X7_refuseUnknown
set_option maxRecDepth 20000 in
theorem ggX7_slack_X7_refuseContradiction : GoodIn wsX7_slack wsX7_refuseContradiction := goodIn_ca (goodIn_r _ [22, 23, 24, 1, 25, 26, 27, 28, 9, 29, 30, 31, 32, 33, 34, 35, 36, 37, 38, 39, 40, 41, 42, 43, 44, 45, 46, 47, 48, 49, 50, 51, 52, 53, 54, 55, 56, 57, 58, 59, 60, 61, 62, 63, 64, 65, 66, 67, 68, 69, 70, 71, 72, 73, 74, 75, 76, 77, 78, 79, 80, 81, 82, 83, 84, 85, 86, 87, 88, 89, 90, 91, 92, 93, 94, 95, 96, 97, 98, 99, 100, 101, 102, 103, 104, 105, 106, 107, 108, 109, 110, 111, 112, 113, 114, 115, 116, 117, 118, 119, 120, 121, 122, 123, 124, 125, 126, 127, 128, 129, 130, 131, 132, 133, 134, 135, 136, 137, 138, 139, 140, 141, 142, 143, 144, 145, 146, 147, 148] (by decide +kernel) (by decide +kernel)) (goodIn_sub (fun _ h => List.mem_cons_of_mem _ (List.mem_append_right _ h)) (by decide +kernel))
set_option maxRecDepth 20000 in
theorem gX7_slack_X7_refuseContradiction : GoodIn wsX7_slack (wsV RX7 144 RX7 yX7_refuseContradiction wsX7_refuseContradiction) := goodIn_app (goodIn_of _ (by decide +kernel)) ggX7_slack_X7_refuseContradiction
theorem dX7_slack_0 : decode cX7_slack 0 = .ok (.aload_n 0, 1) := by decide +kernel
theorem dX7_slack_1 : decode cX7_slack 1 = .ok (.iload_n 1, 1) := by decide +kernel
theorem dX7_slack_2 : decode cX7_slack 2 = .ok (.invokevirtual 97, 3) := by decide +kernel
theorem dX7_slack_5 : decode cX7_slack 5 = .ok (.aload_n 0, 1) := by decide +kernel
theorem dX7_slack_6 : decode cX7_slack 6 = .ok (.invokevirtual 144, 3) := by decide +kernel
theorem dX7_slack_9 : decode cX7_slack 9 = .ok (.aload_n 0, 1) := by decide +kernel
theorem dX7_slack_10 : decode cX7_slack 10 = .ok (.getfield 21, 3) := by decide +kernel
theorem dX7_slack_13 : decode cX7_slack 13 = .ok (.getfield 150, 3) := by decide +kernel
theorem dX7_slack_16 : decode cX7_slack 16 = .ok (.iload_n 1, 1) := by decide +kernel
theorem dX7_slack_17 : decode cX7_slack 17 = .ok (.iaload, 1) := by decide +kernel
theorem dX7_slack_18 : decode cX7_slack 18 = .ok (.aload_n 0, 1) := by decide +kernel
theorem dX7_slack_19 : decode cX7_slack 19 = .ok (.getfield 21, 3) := by decide +kernel
theorem dX7_slack_22 : decode cX7_slack 22 = .ok (.getfield 147, 3) := by decide +kernel
theorem dX7_slack_25 : decode cX7_slack 25 = .ok (.iload_n 1, 1) := by decide +kernel
theorem dX7_slack_26 : decode cX7_slack 26 = .ok (.iaload, 1) := by decide +kernel
theorem dX7_slack_27 : decode cX7_slack 27 = .ok (.isub, 1) := by decide +kernel
theorem dX7_slack_28 : decode cX7_slack 28 = .ok (.aload_n 0, 1) := by decide +kernel
theorem dX7_slack_29 : decode cX7_slack 29 = .ok (.getfield 12, 3) := by decide +kernel
theorem dX7_slack_32 : decode cX7_slack 32 = .ok (.getfield 162, 3) := by decide +kernel
theorem dX7_slack_35 : decode cX7_slack 35 = .ok (.iload_n 1, 1) := by decide +kernel
theorem dX7_slack_36 : decode cX7_slack 36 = .ok (.iaload, 1) := by decide +kernel
theorem dX7_slack_37 : decode cX7_slack 37 = .ok (.isub, 1) := by decide +kernel
theorem dX7_slack_38 : decode cX7_slack 38 = .ok (.ireturn, 1) := by decide +kernel
set_option maxRecDepth 20000 in
theorem ggX7_makespan_X7_makePlan : GoodIn wsX7_makespan wsX7_makePlan := goodIn_r _ [7, 8, 1, 9, 10, 11, 6, 12, 13, 14, 15, 16, 17, 18, 19, 20, 21, 22, 23, 24, 25, 26, 27, 28, 29, 30, 31, 32, 33, 34, 35, 36, 37, 38, 39, 40, 41, 42, 43, 44, 45, 46, 47, 48, 49, 50, 51, 52, 53, 54, 55, 56, 57, 58, 59, 60, 61, 62, 63, 64, 65, 66, 67, 68, 69, 70, 71, 72, 73, 74, 75, 76, 77, 78, 79, 80, 81, 82, 83, 84, 85, 86, 87, 88, 89, 90, 91, 92, 93, 94, 95, 96, 97, 98, 99, 100, 101, 102, 103, 104, 105, 106, 107, 108, 109, 110, 111, 112, 113, 114, 115, 116, 117, 118, 119, 120, 121, 122, 123, 124, 125, 126, 127, 128, 129, 130, 131, 132, 133, 134, 135, 136, 137, 138, 139, 140, 141, 142, 143, 144, 145, 146, 147, 148, 149, 150, 151, 152, 153, 154, 155, 156, 157, 158, 159, 160, 161, 162, 163, 164, 165, 166, 167, 168, 169, 170, 171, 172, 173, 174, 175, 176, 177, 178, 189, 190, 191, 192, 193, 194, 195, 196, 197, 198, 199, 200, 201, 202, 203, 204, 205, 179, 180, 181, 182, 183, 184, 185, 186, 187, 188, 206, 207, 208] (by decide +kernel) (by decide +kernel)
set_option maxRecDepth 20000 in
theorem gX7_makespan_X7_makePlan : GoodIn wsX7_makespan (wsV RX7 165 RX7 yX7_makePlan wsX7_makePlan) := goodIn_app (goodIn_of _ (by decide +kernel)) ggX7_makespan_X7_makePlan
theorem dX7_makespan_0 : decode cX7_makespan 0 = .ok (.aload_n 0, 1) := by decide +kernel
theorem dX7_makespan_1 : decode cX7_makespan 1 = .ok (.invokevirtual 165, 3) := by decide +kernel
theorem dX7_makespan_4 : decode cX7_makespan 4 = .ok (.aload_n 0, 1) := by decide +kernel
theorem dX7_makespan_5 : decode cX7_makespan 5 = .ok (.getfield 30, 3) := by decide +kernel
theorem dX7_makespan_8 : decode cX7_makespan 8 = .ok (.getfield 168, 3) := by decide +kernel
theorem dX7_makespan_11 : decode cX7_makespan 11 = .ok (.ireturn, 1) := by decide +kernel
set_option maxRecDepth 20000 in
theorem ggX7_inBest_X7_refuseUnknown : GoodIn wsX7_inBest wsX7_refuseUnknown := goodIn_ca (goodIn_r _ [11, 12, 13, 14, 15, 16, 17, 18, 19, 20, 186, 187, 188, 189, 190, 191, 192, 193, 194, 195, 206, 207, 208, 209, 210, 211, 212, 213] (by decide +kernel) (by decide +kernel)) (goodIn_sub (fun _ h => List.mem_cons_of_mem _ (List.mem_append_right _ h)) (by decide +kernel))
set_option maxRecDepth 20000 in
theorem gX7_inBest_X7_refuseUnknown : GoodIn wsX7_inBest (wsV RX7 97 RX7 yX7_refuseUnknown wsX7_refuseUnknown) := goodIn_app (goodIn_of _ (by decide +kernel)) ggX7_inBest_X7_refuseUnknown
set_option maxRecDepth 20000 in
theorem ggX7_inBest_X7_makePlan : GoodIn wsX7_inBest wsX7_makePlan := goodIn_r _ [24, 25, 3, 26, 27, 28, 10, 29, 30, 31, 32, 33, 34, 35, 36, 37, 38, 39, 40, 41, 42, 43, 44, 45, 46, 47, 48, 49, 50, 51, 52, 53, 54, 55, 56, 57, 58, 59, 60, 61, 62, 63, 64, 65, 66, 67, 68, 69, 70, 71, 72, 73, 74, 75, 76, 77, 78, 79, 80, 81, 82, 83, 84, 85, 86, 87, 88, 89, 90, 91, 92, 93, 94, 95, 96, 97, 98, 99, 100, 101, 102, 103, 104, 105, 106, 107, 108, 109, 110, 111, 112, 113, 114, 115, 116, 117, 118, 119, 120, 121, 122, 123, 124, 125, 126, 127, 128, 129, 130, 131, 132, 133, 134, 135, 136, 137, 138, 139, 140, 141, 142, 143, 144, 145, 146, 147, 148, 149, 150, 151, 152, 153, 154, 155, 156, 157, 158, 159, 160, 161, 162, 163, 164, 165, 166, 167, 168, 169, 170, 171, 172, 173, 174, 175, 176, 177, 178, 179, 180, 181, 182, 183, 184, 185, 186, 187, 188, 189, 190, 191, 192, 193, 194, 195, 214, 215, 216, 217, 218, 219, 220, 221, 222, 206, 207, 208, 209, 210, 211, 212, 213, 196, 197, 198, 199, 200, 201, 202, 203, 204, 205, 223, 224, 225] (by decide +kernel) (by decide +kernel)
set_option maxRecDepth 20000 in
theorem gX7_inBest_X7_makePlan : GoodIn wsX7_inBest (wsV RX7 165 RX7 yX7_makePlan wsX7_makePlan) := goodIn_app (goodIn_of _ (by decide +kernel)) ggX7_inBest_X7_makePlan
theorem dX7_inBest_0 : decode cX7_inBest 0 = .ok (.aload_n 0, 1) := by decide +kernel
theorem dX7_inBest_1 : decode cX7_inBest 1 = .ok (.iload_n 1, 1) := by decide +kernel
theorem dX7_inBest_2 : decode cX7_inBest 2 = .ok (.invokevirtual 97, 3) := by decide +kernel
theorem dX7_inBest_5 : decode cX7_inBest 5 = .ok (.iload_n 2, 1) := by decide +kernel
theorem dX7_inBest_6 : decode cX7_inBest 6 = .ok (.ifCond .lt 8, 3) := by decide +kernel
theorem dX7_inBest_9 : decode cX7_inBest 9 = .ok (.iload_n 2, 1) := by decide +kernel
theorem dX7_inBest_10 : decode cX7_inBest 10 = .ok (.iconst 1, 1) := by decide +kernel
theorem dX7_inBest_11 : decode cX7_inBest 11 = .ok (.if_icmp .le 13, 3) := by decide +kernel
theorem dX7_inBest_14 : decode cX7_inBest 14 = .ok (.new 68, 3) := by decide +kernel
theorem dX7_inBest_17 : decode cX7_inBest 17 = .ok (.dup, 1) := by decide +kernel
theorem dX7_inBest_18 : decode cX7_inBest 18 = .ok (.ldc 134, 2) := by decide +kernel
theorem dX7_inBest_20 : decode cX7_inBest 20 = .ok (.invokespecial 72, 3) := by decide +kernel
theorem dX7_inBest_23 : decode cX7_inBest 23 = .ok (.athrow, 1) := by decide +kernel
theorem dX7_inBest_24 : decode cX7_inBest 24 = .ok (.aload_n 0, 1) := by decide +kernel
theorem dX7_inBest_25 : decode cX7_inBest 25 = .ok (.invokevirtual 165, 3) := by decide +kernel
theorem dX7_inBest_28 : decode cX7_inBest 28 = .ok (.aload_n 0, 1) := by decide +kernel
theorem dX7_inBest_29 : decode cX7_inBest 29 = .ok (.getfield 30, 3) := by decide +kernel
theorem dX7_inBest_32 : decode cX7_inBest 32 = .ok (.getfield 168, 3) := by decide +kernel
theorem dX7_inBest_35 : decode cX7_inBest 35 = .ok (.iconst (-1), 1) := by decide +kernel
theorem dX7_inBest_36 : decode cX7_inBest 36 = .ok (.if_icmp .ne 5, 3) := by decide +kernel
theorem dX7_inBest_39 : decode cX7_inBest 39 = .ok (.iconst (-1), 1) := by decide +kernel
theorem dX7_inBest_40 : decode cX7_inBest 40 = .ok (.ireturn, 1) := by decide +kernel
theorem dX7_inBest_41 : decode cX7_inBest 41 = .ok (.iload_n 2, 1) := by decide +kernel
theorem dX7_inBest_42 : decode cX7_inBest 42 = .ok (.ifCond .ne 15, 3) := by decide +kernel
theorem dX7_inBest_45 : decode cX7_inBest 45 = .ok (.aload_n 0, 1) := by decide +kernel
theorem dX7_inBest_46 : decode cX7_inBest 46 = .ok (.getfield 30, 3) := by decide +kernel
theorem dX7_inBest_49 : decode cX7_inBest 49 = .ok (.getfield 171, 3) := by decide +kernel
theorem dX7_inBest_52 : decode cX7_inBest 52 = .ok (.iload_n 1, 1) := by decide +kernel
theorem dX7_inBest_53 : decode cX7_inBest 53 = .ok (.iaload, 1) := by decide +kernel
theorem dX7_inBest_54 : decode cX7_inBest 54 = .ok (.goto 12, 3) := by decide +kernel
theorem dX7_inBest_57 : decode cX7_inBest 57 = .ok (.aload_n 0, 1) := by decide +kernel
theorem dX7_inBest_58 : decode cX7_inBest 58 = .ok (.getfield 30, 3) := by decide +kernel
theorem dX7_inBest_61 : decode cX7_inBest 61 = .ok (.getfield 174, 3) := by decide +kernel
theorem dX7_inBest_64 : decode cX7_inBest 64 = .ok (.iload_n 1, 1) := by decide +kernel
theorem dX7_inBest_65 : decode cX7_inBest 65 = .ok (.iaload, 1) := by decide +kernel
theorem dX7_inBest_66 : decode cX7_inBest 66 = .ok (.ireturn, 1) := by decide +kernel
set_option maxRecDepth 20000 in
theorem ggX7_drawn_X1_leastMakespan : GoodIn wsX7_drawn wsX1_leastMakespan := goodIn_r _ [9, 10, 11, 12, 13, 8, 14, 15, 16, 17, 18, 19, 20, 21, 22, 23, 24, 25, 26, 27, 28, 29, 30, 31, 32, 33, 34, 35, 36, 37, 38, 39, 40, 41, 42, 43, 44, 45, 46, 47, 48, 49, 50, 51, 52, 53, 54, 55, 56, 57, 58, 59, 60, 61, 62, 63, 64, 65, 66, 77, 78, 79, 80, 81, 82, 83, 84, 85, 86, 87, 88, 89, 90] (by decide +kernel) (by decide +kernel)
set_option maxRecDepth 20000 in
theorem gX7_drawn_X1_leastMakespan : GoodIn wsX7_drawn (wsV RX7 180 RX1 yX1_leastMakespan wsX1_leastMakespan) := goodIn_app (goodIn_of _ (by decide +kernel)) ggX7_drawn_X1_leastMakespan
theorem dX7_drawn_0 : decode cX7_drawn 0 = .ok (.iload_n 1, 1) := by decide +kernel
theorem dX7_drawn_1 : decode cX7_drawn 1 = .ok (.ifCond .lt 20, 3) := by decide +kernel
theorem dX7_drawn_4 : decode cX7_drawn 4 = .ok (.iload_n 1, 1) := by decide +kernel
theorem dX7_drawn_5 : decode cX7_drawn 5 = .ok (.ldc 177, 2) := by decide +kernel
theorem dX7_drawn_7 : decode cX7_drawn 7 = .ok (.if_icmp .gt 14, 3) := by decide +kernel
theorem dX7_drawn_10 : decode cX7_drawn 10 = .ok (.iload_n 2, 1) := by decide +kernel
theorem dX7_drawn_11 : decode cX7_drawn 11 = .ok (.iconst 1, 1) := by decide +kernel
theorem dX7_drawn_12 : decode cX7_drawn 12 = .ok (.if_icmp .lt 9, 3) := by decide +kernel
theorem dX7_drawn_15 : decode cX7_drawn 15 = .ok (.iload_n 2, 1) := by decide +kernel
theorem dX7_drawn_16 : decode cX7_drawn 16 = .ok (.bipush 50, 2) := by decide +kernel
theorem dX7_drawn_18 : decode cX7_drawn 18 = .ok (.if_icmp .le 13, 3) := by decide +kernel
theorem dX7_drawn_21 : decode cX7_drawn 21 = .ok (.new 68, 3) := by decide +kernel
theorem dX7_drawn_24 : decode cX7_drawn 24 = .ok (.dup, 1) := by decide +kernel
theorem dX7_drawn_25 : decode cX7_drawn 25 = .ok (.ldc 178, 2) := by decide +kernel
theorem dX7_drawn_27 : decode cX7_drawn 27 = .ok (.invokespecial 72, 3) := by decide +kernel
theorem dX7_drawn_30 : decode cX7_drawn 30 = .ok (.athrow, 1) := by decide +kernel
theorem dX7_drawn_31 : decode cX7_drawn 31 = .ok (.aload_n 0, 1) := by decide +kernel
theorem dX7_drawn_32 : decode cX7_drawn 32 = .ok (.getfield 37, 3) := by decide +kernel
theorem dX7_drawn_35 : decode cX7_drawn 35 = .ok (.iload_n 1, 1) := by decide +kernel
theorem dX7_drawn_36 : decode cX7_drawn 36 = .ok (.iload_n 2, 1) := by decide +kernel
theorem dX7_drawn_37 : decode cX7_drawn 37 = .ok (.invokevirtual 180, 3) := by decide +kernel
theorem dX7_drawn_40 : decode cX7_drawn 40 = .ok (.ireturn, 1) := by decide +kernel
set_option maxRecDepth 20000 in
theorem ggX7_dominates_X7_refuseUnknown : GoodIn wsX7_dominates wsX7_refuseUnknown := goodIn_ca (goodIn_r _ [6, 7, 8, 1, 9, 10, 11, 12, 13, 14, 31, 32, 33, 34, 35, 36, 37, 38, 39, 40, 41, 42, 43, 44, 45, 46, 47, 48] (by decide +kernel) (by decide +kernel)) (goodIn_sub (fun _ h => List.mem_cons_of_mem _ (List.mem_append_right _ h)) (by decide +kernel))
set_option maxRecDepth 20000 in
theorem gX7_dominates_X7_refuseUnknown : GoodIn wsX7_dominates (wsV RX7 97 RX7 yX7_refuseUnknown wsX7_refuseUnknown) := goodIn_app (goodIn_of _ (by decide +kernel)) ggX7_dominates_X7_refuseUnknown
set_option maxRecDepth 20000 in
theorem ggX7_dominates_X5_outranks : GoodIn wsX7_dominates wsX5_outranks := goodIn_r _ [18, 19, 20, 21, 22, 23, 24, 25, 26, 27, 12, 28, 29, 5, 30, 41, 42, 43, 44, 45, 46, 47, 48] (by decide +kernel) (by decide +kernel)
set_option maxRecDepth 20000 in
theorem gX7_dominates_X5_outranks : GoodIn wsX7_dominates (wsV RX7 125 RX5 yX5_outranks wsX5_outranks) := goodIn_app (goodIn_of _ (by decide +kernel)) ggX7_dominates_X5_outranks
theorem dX7_dominates_0 : decode cX7_dominates 0 = .ok (.aload_n 0, 1) := by decide +kernel
theorem dX7_dominates_1 : decode cX7_dominates 1 = .ok (.iload_n 1, 1) := by decide +kernel
theorem dX7_dominates_2 : decode cX7_dominates 2 = .ok (.invokevirtual 97, 3) := by decide +kernel
theorem dX7_dominates_5 : decode cX7_dominates 5 = .ok (.aload_n 0, 1) := by decide +kernel
theorem dX7_dominates_6 : decode cX7_dominates 6 = .ok (.iload_n 2, 1) := by decide +kernel
theorem dX7_dominates_7 : decode cX7_dominates 7 = .ok (.invokevirtual 97, 3) := by decide +kernel
theorem dX7_dominates_10 : decode cX7_dominates 10 = .ok (.aload_n 0, 1) := by decide +kernel
theorem dX7_dominates_11 : decode cX7_dominates 11 = .ok (.getfield 12, 3) := by decide +kernel
theorem dX7_dominates_14 : decode cX7_dominates 14 = .ok (.iload_n 1, 1) := by decide +kernel
theorem dX7_dominates_15 : decode cX7_dominates 15 = .ok (.iload_n 2, 1) := by decide +kernel
theorem dX7_dominates_16 : decode cX7_dominates 16 = .ok (.invokevirtual 125, 3) := by decide +kernel
theorem dX7_dominates_19 : decode cX7_dominates 19 = .ok (.ireturn, 1) := by decide +kernel
set_option maxRecDepth 20000 in
theorem ggX7_leastDue_X7_refuseUnknown : GoodIn wsX7_leastDue wsX7_refuseUnknown := goodIn_ca (goodIn_r _ [5, 6, 7, 8, 9, 10, 11, 12, 13, 14, 125, 126, 127, 128, 129, 130, 131, 132, 133, 134, 135, 136, 137, 138, 139, 140, 141, 142] (by decide +kernel) (by decide +kernel)) (goodIn_sub (fun _ h => List.mem_cons_of_mem _ (List.mem_append_right _ h)) (by decide +kernel))
set_option maxRecDepth 20000 in
theorem gX7_leastDue_X7_refuseUnknown : GoodIn wsX7_leastDue (wsV RX7 97 RX7 yX7_refuseUnknown wsX7_refuseUnknown) := goodIn_app (goodIn_of _ (by decide +kernel)) ggX7_leastDue_X7_refuseUnknown
set_option maxRecDepth 20000 in
theorem ggX7_leastDue_X7_standsWithDue : GoodIn wsX7_leastDue wsX7_standsWithDue := goodIn_r _ [18, 19, 8, 20, 21, 22, 23, 24, 25, 12, 26, 27, 14, 28, 29, 30, 31, 32, 33, 34, 35, 36, 37, 38, 39, 40, 41, 42, 43, 44, 45, 46, 47, 48, 49, 50, 51, 52, 53, 54, 55, 56, 57, 58, 59, 4, 60, 61, 62, 63, 64, 65, 66, 67, 68, 69, 70, 71, 72, 73, 74, 75, 76, 77, 78, 79, 80, 81, 82, 83, 84, 85, 86, 87, 88, 89, 90, 91, 92, 93, 94, 95, 96, 97, 98, 99, 100, 101, 102, 103, 104, 105, 106, 107, 108, 109, 110, 111, 112, 113, 114, 115, 116, 117, 118, 119, 120, 121, 122, 123, 124, 125, 126, 127, 128, 129, 130, 131, 132, 133, 134, 135, 136, 137, 138, 139, 140, 141, 142, 143, 144, 145, 146, 147, 148, 149, 150, 151] (by decide +kernel) (by decide +kernel)
set_option maxRecDepth 20000 in
theorem gX7_leastDue_X7_standsWithDue : GoodIn wsX7_leastDue (wsV RX7 183 RX7 yX7_standsWithDue wsX7_standsWithDue) := goodIn_app (goodIn_of _ (by decide +kernel)) ggX7_leastDue_X7_standsWithDue
theorem dX7_leastDue_0 : decode cX7_leastDue 0 = .ok (.aload_n 0, 1) := by decide +kernel
theorem dX7_leastDue_1 : decode cX7_leastDue 1 = .ok (.iload_n 1, 1) := by decide +kernel
theorem dX7_leastDue_2 : decode cX7_leastDue 2 = .ok (.invokevirtual 97, 3) := by decide +kernel
theorem dX7_leastDue_5 : decode cX7_leastDue 5 = .ok (.aload_n 0, 1) := by decide +kernel
theorem dX7_leastDue_6 : decode cX7_leastDue 6 = .ok (.iload_n 1, 1) := by decide +kernel
theorem dX7_leastDue_7 : decode cX7_leastDue 7 = .ok (.sipush 400, 3) := by decide +kernel
theorem dX7_leastDue_10 : decode cX7_leastDue 10 = .ok (.invokevirtual 183, 3) := by decide +kernel
theorem dX7_leastDue_13 : decode cX7_leastDue 13 = .ok (.ifCond .ne 5, 3) := by decide +kernel
theorem dX7_leastDue_16 : decode cX7_leastDue 16 = .ok (.iconst (-1), 1) := by decide +kernel
theorem dX7_leastDue_17 : decode cX7_leastDue 17 = .ok (.ireturn, 1) := by decide +kernel
theorem dX7_leastDue_18 : decode cX7_leastDue 18 = .ok (.iconst 1, 1) := by decide +kernel
theorem dX7_leastDue_19 : decode cX7_leastDue 19 = .ok (.istore_n 2, 1) := by decide +kernel
theorem dX7_leastDue_20 : decode cX7_leastDue 20 = .ok (.sipush 400, 3) := by decide +kernel
theorem dX7_leastDue_23 : decode cX7_leastDue 23 = .ok (.istore_n 3, 1) := by decide +kernel
theorem dX7_leastDue_24 : decode cX7_leastDue 24 = .ok (.iconst 0, 1) := by decide +kernel
theorem dX7_leastDue_25 : decode cX7_leastDue 25 = .ok (.istore 4, 2) := by decide +kernel
theorem dX7_leastDue_27 : decode cX7_leastDue 27 = .ok (.iload_n 2, 1) := by decide +kernel
theorem dX7_leastDue_28 : decode cX7_leastDue 28 = .ok (.iload_n 3, 1) := by decide +kernel
theorem dX7_leastDue_29 : decode cX7_leastDue 29 = .ok (.if_icmp .ge 45, 3) := by decide +kernel
theorem dX7_leastDue_32 : decode cX7_leastDue 32 = .ok (.iload 4, 2) := by decide +kernel
theorem dX7_leastDue_34 : decode cX7_leastDue 34 = .ok (.sipush 400, 3) := by decide +kernel
theorem dX7_leastDue_37 : decode cX7_leastDue 37 = .ok (.if_icmp .ge 37, 3) := by decide +kernel
theorem dX7_leastDue_40 : decode cX7_leastDue 40 = .ok (.iload_n 2, 1) := by decide +kernel
theorem dX7_leastDue_41 : decode cX7_leastDue 41 = .ok (.iload_n 3, 1) := by decide +kernel
theorem dX7_leastDue_42 : decode cX7_leastDue 42 = .ok (.iadd, 1) := by decide +kernel
theorem dX7_leastDue_43 : decode cX7_leastDue 43 = .ok (.iconst 2, 1) := by decide +kernel
theorem dX7_leastDue_44 : decode cX7_leastDue 44 = .ok (.idiv, 1) := by decide +kernel
theorem dX7_leastDue_45 : decode cX7_leastDue 45 = .ok (.istore 5, 2) := by decide +kernel
theorem dX7_leastDue_47 : decode cX7_leastDue 47 = .ok (.aload_n 0, 1) := by decide +kernel
theorem dX7_leastDue_48 : decode cX7_leastDue 48 = .ok (.iload_n 1, 1) := by decide +kernel
theorem dX7_leastDue_49 : decode cX7_leastDue 49 = .ok (.iload 5, 2) := by decide +kernel
theorem dX7_leastDue_51 : decode cX7_leastDue 51 = .ok (.invokevirtual 183, 3) := by decide +kernel
theorem dX7_leastDue_54 : decode cX7_leastDue 54 = .ok (.ifCond .eq 9, 3) := by decide +kernel
theorem dX7_leastDue_57 : decode cX7_leastDue 57 = .ok (.iload 5, 2) := by decide +kernel
theorem dX7_leastDue_59 : decode cX7_leastDue 59 = .ok (.istore_n 3, 1) := by decide +kernel
theorem dX7_leastDue_60 : decode cX7_leastDue 60 = .ok (.goto 8, 3) := by decide +kernel
theorem dX7_leastDue_63 : decode cX7_leastDue 63 = .ok (.iload 5, 2) := by decide +kernel
theorem dX7_leastDue_65 : decode cX7_leastDue 65 = .ok (.iconst 1, 1) := by decide +kernel
theorem dX7_leastDue_66 : decode cX7_leastDue 66 = .ok (.iadd, 1) := by decide +kernel
theorem dX7_leastDue_67 : decode cX7_leastDue 67 = .ok (.istore_n 2, 1) := by decide +kernel
theorem dX7_leastDue_68 : decode cX7_leastDue 68 = .ok (.iinc 4 1, 3) := by decide +kernel
theorem dX7_leastDue_71 : decode cX7_leastDue 71 = .ok (.goto (-44), 3) := by decide +kernel
theorem dX7_leastDue_74 : decode cX7_leastDue 74 = .ok (.iload_n 3, 1) := by decide +kernel
theorem dX7_leastDue_75 : decode cX7_leastDue 75 = .ok (.ireturn, 1) := by decide +kernel
set_option maxRecDepth 20000 in
theorem ggX7_lowerBound_X7_standsWithin : GoodIn wsX7_lowerBound wsX7_standsWithin := goodIn_r _ [5, 6, 7, 8, 9, 10, 11, 12, 13, 14, 15, 16, 17, 18, 19, 20, 21, 22, 23, 24, 25, 26, 27, 28, 29, 30, 31, 32, 33, 34, 35, 36, 37, 38, 39, 40, 41, 42, 43, 44, 45, 46, 47, 48, 49, 50, 51, 52, 53, 54, 4, 55, 56, 57, 58, 59, 60, 61, 62, 63, 64, 65, 66, 67, 68, 69, 70, 71, 72, 73, 74, 75, 76, 77, 78, 79, 80, 81, 82, 83, 84, 85, 86, 87, 88, 89, 90, 91, 92, 93, 94, 95, 96, 97, 98, 99, 100, 101, 102, 103, 104, 105, 106, 107, 108, 109, 110, 111, 112, 113, 114, 115, 116, 117, 118, 119, 120, 121, 122, 123, 124, 125, 126, 127, 128, 129, 130, 131, 132, 133, 134, 135, 136, 137, 138, 139, 140, 141, 142, 143] (by decide +kernel) (by decide +kernel)
set_option maxRecDepth 20000 in
theorem gX7_lowerBound_X7_standsWithin : GoodIn wsX7_lowerBound (wsV RX7 186 RX7 yX7_standsWithin wsX7_standsWithin) := goodIn_app (goodIn_of _ (by decide +kernel)) ggX7_lowerBound_X7_standsWithin
theorem dX7_lowerBound_0 : decode cX7_lowerBound 0 = .ok (.aload_n 0, 1) := by decide +kernel
theorem dX7_lowerBound_1 : decode cX7_lowerBound 1 = .ok (.sipush 400, 3) := by decide +kernel
theorem dX7_lowerBound_4 : decode cX7_lowerBound 4 = .ok (.invokevirtual 186, 3) := by decide +kernel
theorem dX7_lowerBound_7 : decode cX7_lowerBound 7 = .ok (.ifCond .ne 5, 3) := by decide +kernel
theorem dX7_lowerBound_10 : decode cX7_lowerBound 10 = .ok (.iconst (-1), 1) := by decide +kernel
theorem dX7_lowerBound_11 : decode cX7_lowerBound 11 = .ok (.ireturn, 1) := by decide +kernel
theorem dX7_lowerBound_12 : decode cX7_lowerBound 12 = .ok (.iconst 0, 1) := by decide +kernel
theorem dX7_lowerBound_13 : decode cX7_lowerBound 13 = .ok (.istore_n 1, 1) := by decide +kernel
theorem dX7_lowerBound_14 : decode cX7_lowerBound 14 = .ok (.sipush 400, 3) := by decide +kernel
theorem dX7_lowerBound_17 : decode cX7_lowerBound 17 = .ok (.istore_n 2, 1) := by decide +kernel
theorem dX7_lowerBound_18 : decode cX7_lowerBound 18 = .ok (.iconst 0, 1) := by decide +kernel
theorem dX7_lowerBound_19 : decode cX7_lowerBound 19 = .ok (.istore_n 3, 1) := by decide +kernel
theorem dX7_lowerBound_20 : decode cX7_lowerBound 20 = .ok (.iload_n 1, 1) := by decide +kernel
theorem dX7_lowerBound_21 : decode cX7_lowerBound 21 = .ok (.iload_n 2, 1) := by decide +kernel
theorem dX7_lowerBound_22 : decode cX7_lowerBound 22 = .ok (.if_icmp .ge 43, 3) := by decide +kernel
theorem dX7_lowerBound_25 : decode cX7_lowerBound 25 = .ok (.iload_n 3, 1) := by decide +kernel
theorem dX7_lowerBound_26 : decode cX7_lowerBound 26 = .ok (.sipush 400, 3) := by decide +kernel
theorem dX7_lowerBound_29 : decode cX7_lowerBound 29 = .ok (.if_icmp .ge 36, 3) := by decide +kernel
theorem dX7_lowerBound_32 : decode cX7_lowerBound 32 = .ok (.iload_n 1, 1) := by decide +kernel
theorem dX7_lowerBound_33 : decode cX7_lowerBound 33 = .ok (.iload_n 2, 1) := by decide +kernel
theorem dX7_lowerBound_34 : decode cX7_lowerBound 34 = .ok (.iadd, 1) := by decide +kernel
theorem dX7_lowerBound_35 : decode cX7_lowerBound 35 = .ok (.iconst 2, 1) := by decide +kernel
theorem dX7_lowerBound_36 : decode cX7_lowerBound 36 = .ok (.idiv, 1) := by decide +kernel
theorem dX7_lowerBound_37 : decode cX7_lowerBound 37 = .ok (.istore 4, 2) := by decide +kernel
theorem dX7_lowerBound_39 : decode cX7_lowerBound 39 = .ok (.aload_n 0, 1) := by decide +kernel
theorem dX7_lowerBound_40 : decode cX7_lowerBound 40 = .ok (.iload 4, 2) := by decide +kernel
theorem dX7_lowerBound_42 : decode cX7_lowerBound 42 = .ok (.invokevirtual 186, 3) := by decide +kernel
theorem dX7_lowerBound_45 : decode cX7_lowerBound 45 = .ok (.ifCond .eq 9, 3) := by decide +kernel
theorem dX7_lowerBound_48 : decode cX7_lowerBound 48 = .ok (.iload 4, 2) := by decide +kernel
theorem dX7_lowerBound_50 : decode cX7_lowerBound 50 = .ok (.istore_n 2, 1) := by decide +kernel
theorem dX7_lowerBound_51 : decode cX7_lowerBound 51 = .ok (.goto 8, 3) := by decide +kernel
theorem dX7_lowerBound_54 : decode cX7_lowerBound 54 = .ok (.iload 4, 2) := by decide +kernel
theorem dX7_lowerBound_56 : decode cX7_lowerBound 56 = .ok (.iconst 1, 1) := by decide +kernel
theorem dX7_lowerBound_57 : decode cX7_lowerBound 57 = .ok (.iadd, 1) := by decide +kernel
theorem dX7_lowerBound_58 : decode cX7_lowerBound 58 = .ok (.istore_n 1, 1) := by decide +kernel
theorem dX7_lowerBound_59 : decode cX7_lowerBound 59 = .ok (.iinc 3 1, 3) := by decide +kernel
theorem dX7_lowerBound_62 : decode cX7_lowerBound 62 = .ok (.goto (-42), 3) := by decide +kernel
theorem dX7_lowerBound_65 : decode cX7_lowerBound 65 = .ok (.iload_n 2, 1) := by decide +kernel
theorem dX7_lowerBound_66 : decode cX7_lowerBound 66 = .ok (.ireturn, 1) := by decide +kernel
set_option maxRecDepth 20000 in
theorem ggX7_refutes_X7_refuseUnknown : GoodIn wsX7_refutes wsX7_refuseUnknown := goodIn_ca (goodIn_r _ [9, 10, 11, 2, 12, 13, 14, 15, 16, 17, 124, 125, 126, 127, 128, 129, 130, 131, 132, 133, 143, 144, 145, 146, 147, 148, 149, 150] (by decide +kernel) (by decide +kernel)) (goodIn_sub (fun _ h => List.mem_cons_of_mem _ (List.mem_append_right _ h)) (by decide +kernel))
set_option maxRecDepth 20000 in
theorem gX7_refutes_X7_refuseUnknown : GoodIn wsX7_refutes (wsV RX7 97 RX7 yX7_refuseUnknown wsX7_refuseUnknown) := goodIn_app (goodIn_of _ (by decide +kernel)) ggX7_refutes_X7_refuseUnknown
set_option maxRecDepth 20000 in
theorem ggX7_refutes_X5_copyFrom : GoodIn wsX7_refutes wsX5_copyFrom := goodIn_r _ [21, 22, 17, 23, 24, 25, 26, 27, 28, 143, 144, 145, 146, 147, 148, 149, 150] (by decide +kernel) (by decide +kernel)
set_option maxRecDepth 20000 in
theorem gX7_refutes_X5_copyFrom : GoodIn wsX7_refutes (wsV RX7 190 RX5 yX5_copyFrom wsX5_copyFrom) := goodIn_app (goodIn_of _ (by decide +kernel)) ggX7_refutes_X5_copyFrom
set_option maxRecDepth 20000 in
theorem ggX7_refutes_X5_setGiven : GoodIn wsX7_refutes wsX5_setGiven := goodIn_r _ [32, 28, 27, 143, 144, 145, 146, 147, 148, 149, 150] (by decide +kernel) (by decide +kernel)
set_option maxRecDepth 20000 in
theorem gX7_refutes_X5_setGiven : GoodIn wsX7_refutes (wsV RX7 117 RX5 yX5_setGiven wsX5_setGiven) := goodIn_app (goodIn_of _ (by decide +kernel)) ggX7_refutes_X5_setGiven
set_option maxRecDepth 20000 in
theorem ggX7_refutes_X6_run : GoodIn wsX7_refutes wsX6_run := goodIn_r _ [37, 38, 39, 40, 41, 42, 36, 43, 44, 45, 46, 47, 48, 49, 50, 51, 52, 53, 54, 55, 56, 57, 58, 8, 59, 60, 61, 62, 63, 64, 65, 66, 67, 68, 69, 70, 71, 72, 73, 74, 75, 76, 77, 78, 79, 80, 81, 82, 83, 84, 85, 86, 87, 88, 89, 90, 91, 92, 93, 94, 95, 96, 97, 98, 99, 100, 101, 102, 103, 104, 105, 106, 107, 108, 109, 110, 111, 112, 113, 114, 115, 116, 117, 118, 119, 120, 121, 122, 123, 134, 135, 136, 137, 138, 139, 140, 141, 142, 143, 144, 145, 146, 147, 148, 149, 150] (by decide +kernel) (by decide +kernel)
set_option maxRecDepth 20000 in
theorem gX7_refutes_X6_run : GoodIn wsX7_refutes (wsV RX7 193 RX6 yX6_run wsX6_run) := goodIn_app (goodIn_of _ (by decide +kernel)) ggX7_refutes_X6_run
theorem dX7_refutes_0 : decode cX7_refutes 0 = .ok (.aload_n 0, 1) := by decide +kernel
theorem dX7_refutes_1 : decode cX7_refutes 1 = .ok (.iload_n 1, 1) := by decide +kernel
theorem dX7_refutes_2 : decode cX7_refutes 2 = .ok (.invokevirtual 97, 3) := by decide +kernel
theorem dX7_refutes_5 : decode cX7_refutes 5 = .ok (.aload_n 0, 1) := by decide +kernel
theorem dX7_refutes_6 : decode cX7_refutes 6 = .ok (.iload_n 2, 1) := by decide +kernel
theorem dX7_refutes_7 : decode cX7_refutes 7 = .ok (.invokevirtual 97, 3) := by decide +kernel
theorem dX7_refutes_10 : decode cX7_refutes 10 = .ok (.iload_n 1, 1) := by decide +kernel
theorem dX7_refutes_11 : decode cX7_refutes 11 = .ok (.iload_n 2, 1) := by decide +kernel
theorem dX7_refutes_12 : decode cX7_refutes 12 = .ok (.if_icmp .ne 5, 3) := by decide +kernel
theorem dX7_refutes_15 : decode cX7_refutes 15 = .ok (.iconst 1, 1) := by decide +kernel
theorem dX7_refutes_16 : decode cX7_refutes 16 = .ok (.ireturn, 1) := by decide +kernel
theorem dX7_refutes_17 : decode cX7_refutes 17 = .ok (.aload_n 0, 1) := by decide +kernel
theorem dX7_refutes_18 : decode cX7_refutes 18 = .ok (.getfield 41, 3) := by decide +kernel
theorem dX7_refutes_21 : decode cX7_refutes 21 = .ok (.aload_n 0, 1) := by decide +kernel
theorem dX7_refutes_22 : decode cX7_refutes 22 = .ok (.getfield 12, 3) := by decide +kernel
theorem dX7_refutes_25 : decode cX7_refutes 25 = .ok (.invokevirtual 190, 3) := by decide +kernel
theorem dX7_refutes_28 : decode cX7_refutes 28 = .ok (.aload_n 0, 1) := by decide +kernel
theorem dX7_refutes_29 : decode cX7_refutes 29 = .ok (.getfield 41, 3) := by decide +kernel
theorem dX7_refutes_32 : decode cX7_refutes 32 = .ok (.iload_n 1, 1) := by decide +kernel
theorem dX7_refutes_33 : decode cX7_refutes 33 = .ok (.iload_n 2, 1) := by decide +kernel
theorem dX7_refutes_34 : decode cX7_refutes 34 = .ok (.iconst 1, 1) := by decide +kernel
theorem dX7_refutes_35 : decode cX7_refutes 35 = .ok (.invokevirtual 117, 3) := by decide +kernel
theorem dX7_refutes_38 : decode cX7_refutes 38 = .ok (.aload_n 0, 1) := by decide +kernel
theorem dX7_refutes_39 : decode cX7_refutes 39 = .ok (.getfield 44, 3) := by decide +kernel
theorem dX7_refutes_42 : decode cX7_refutes 42 = .ok (.invokevirtual 193, 3) := by decide +kernel
theorem dX7_refutes_45 : decode cX7_refutes 45 = .ok (.aload_n 0, 1) := by decide +kernel
theorem dX7_refutes_46 : decode cX7_refutes 46 = .ok (.getfield 44, 3) := by decide +kernel
theorem dX7_refutes_49 : decode cX7_refutes 49 = .ok (.getfield 196, 3) := by decide +kernel
theorem dX7_refutes_52 : decode cX7_refutes 52 = .ok (.ireturn, 1) := by decide +kernel
set_option maxRecDepth 20000 in
theorem ggX7_decided_X7_refuseContradiction : GoodIn wsX7_decided wsX7_refuseContradiction := goodIn_ca (goodIn_r _ [7, 8, 9, 2, 10, 11, 12, 13, 6, 14, 15, 16, 17, 18, 19, 20, 21, 22, 23, 24, 25, 26, 27, 28, 29, 30, 31, 32, 33, 34, 35, 36, 37, 38, 39, 40, 41, 42, 43, 44, 45, 46, 47, 48, 49, 50, 51, 52, 53, 54, 55, 56, 57, 58, 59, 60, 61, 62, 63, 64, 65, 66, 67, 68, 69, 70, 71, 72, 73, 74, 75, 76, 77, 78, 79, 80, 81, 82, 83, 84, 85, 86, 87, 88, 89, 90, 91, 92, 93, 94, 95, 96, 97, 98, 99, 100, 101, 102, 103, 104, 105, 106, 122, 123, 124, 125, 126, 127, 128, 129, 130, 131, 132, 133, 134, 135, 136, 137, 138, 139, 140, 141, 142, 143, 144, 145, 146, 147, 148] (by decide +kernel) (by decide +kernel)) (goodIn_sub (fun _ h => List.mem_cons_of_mem _ (List.mem_append_right _ h)) (by decide +kernel))
set_option maxRecDepth 20000 in
theorem gX7_decided_X7_refuseContradiction : GoodIn wsX7_decided (wsV RX7 144 RX7 yX7_refuseContradiction wsX7_refuseContradiction) := goodIn_app (goodIn_of _ (by decide +kernel)) ggX7_decided_X7_refuseContradiction
set_option maxRecDepth 20000 in
theorem ggX7_decided_X5_countPairs : GoodIn wsX7_decided wsX5_countPairs := goodIn_r _ [111, 112, 113, 141, 142, 143, 144, 145, 146, 147, 148] (by decide +kernel) (by decide +kernel)
set_option maxRecDepth 20000 in
theorem gX7_decided_X5_countPairs : GoodIn wsX7_decided (wsV RX7 199 RX5 yX5_countPairs wsX5_countPairs) := goodIn_app (goodIn_of _ (by decide +kernel)) ggX7_decided_X5_countPairs
set_option maxRecDepth 20000 in
theorem ggX7_decided_X6_countOpenPairs : GoodIn wsX7_decided wsX6_countOpenPairs := goodIn_r _ [117, 28, 29, 36, 118, 119, 120, 19, 121, 34, 41, 6, 42, 132, 133, 134, 135, 136, 137, 138, 139, 140, 141, 142, 143, 144, 145, 146, 147, 148] (by decide +kernel) (by decide +kernel)
set_option maxRecDepth 20000 in
theorem gX7_decided_X6_countOpenPairs : GoodIn wsX7_decided (wsV RX7 202 RX6 yX6_countOpenPairs wsX6_countOpenPairs) := goodIn_app (goodIn_of _ (by decide +kernel)) ggX7_decided_X6_countOpenPairs
theorem dX7_decided_0 : decode cX7_decided 0 = .ok (.aload_n 0, 1) := by decide +kernel
theorem dX7_decided_1 : decode cX7_decided 1 = .ok (.invokevirtual 144, 3) := by decide +kernel
theorem dX7_decided_4 : decode cX7_decided 4 = .ok (.aload_n 0, 1) := by decide +kernel
theorem dX7_decided_5 : decode cX7_decided 5 = .ok (.getfield 12, 3) := by decide +kernel
theorem dX7_decided_8 : decode cX7_decided 8 = .ok (.invokevirtual 199, 3) := by decide +kernel
theorem dX7_decided_11 : decode cX7_decided 11 = .ok (.istore_n 1, 1) := by decide +kernel
theorem dX7_decided_12 : decode cX7_decided 12 = .ok (.iload_n 1, 1) := by decide +kernel
theorem dX7_decided_13 : decode cX7_decided 13 = .ok (.ifCond .ne 5, 3) := by decide +kernel
theorem dX7_decided_16 : decode cX7_decided 16 = .ok (.dconst 1, 1) := by decide +kernel
theorem dX7_decided_17 : decode cX7_decided 17 = .ok (.dreturn, 1) := by decide +kernel
theorem dX7_decided_18 : decode cX7_decided 18 = .ok (.iload_n 1, 1) := by decide +kernel
theorem dX7_decided_19 : decode cX7_decided 19 = .ok (.aload_n 0, 1) := by decide +kernel
theorem dX7_decided_20 : decode cX7_decided 20 = .ok (.getfield 21, 3) := by decide +kernel
theorem dX7_decided_23 : decode cX7_decided 23 = .ok (.invokevirtual 202, 3) := by decide +kernel
theorem dX7_decided_26 : decode cX7_decided 26 = .ok (.isub, 1) := by decide +kernel
theorem dX7_decided_27 : decode cX7_decided 27 = .ok (.i2d, 1) := by decide +kernel
theorem dX7_decided_28 : decode cX7_decided 28 = .ok (.iload_n 1, 1) := by decide +kernel
theorem dX7_decided_29 : decode cX7_decided 29 = .ok (.i2d, 1) := by decide +kernel
theorem dX7_decided_30 : decode cX7_decided 30 = .ok (.ddiv, 1) := by decide +kernel
theorem dX7_decided_31 : decode cX7_decided 31 = .ok (.dreturn, 1) := by decide +kernel
set_option maxRecDepth 20000 in
theorem ggX7_append_X3_put : GoodIn wsX7_append wsX3_put := goodIn_r _ [11, 12, 13, 24, 25, 26, 27, 28, 29, 30, 31, 32, 33, 34] (by decide +kernel) (by decide +kernel)
set_option maxRecDepth 20000 in
theorem gX7_append_X3_put : GoodIn wsX7_append (wsV RX7 215 RX3 yX3_put wsX3_put) := goodIn_app (goodIn_of _ (by decide +kernel)) ggX7_append_X3_put
theorem dX7_append_0 : decode cX7_append 0 = .ok (.iload_n 1, 1) := by decide +kernel
theorem dX7_append_1 : decode cX7_append 1 = .ok (.ifCond .lt 9, 3) := by decide +kernel
theorem dX7_append_4 : decode cX7_append 4 = .ok (.iload_n 1, 1) := by decide +kernel
theorem dX7_append_5 : decode cX7_append 5 = .ok (.bipush 127, 2) := by decide +kernel
theorem dX7_append_7 : decode cX7_append 7 = .ok (.if_icmp .le 13, 3) := by decide +kernel
theorem dX7_append_10 : decode cX7_append 10 = .ok (.new 68, 3) := by decide +kernel
theorem dX7_append_13 : decode cX7_append 13 = .ok (.dup, 1) := by decide +kernel
theorem dX7_append_14 : decode cX7_append 14 = .ok (.ldc 205, 2) := by decide +kernel
theorem dX7_append_16 : decode cX7_append 16 = .ok (.invokespecial 72, 3) := by decide +kernel
theorem dX7_append_19 : decode cX7_append 19 = .ok (.athrow, 1) := by decide +kernel
theorem dX7_append_20 : decode cX7_append 20 = .ok (.aload_n 0, 1) := by decide +kernel
theorem dX7_append_21 : decode cX7_append 21 = .ok (.getfield 57, 3) := by decide +kernel
theorem dX7_append_24 : decode cX7_append 24 = .ok (.getfield 207, 3) := by decide +kernel
theorem dX7_append_27 : decode cX7_append 27 = .ok (.bipush 100, 2) := by decide +kernel
theorem dX7_append_29 : decode cX7_append 29 = .ok (.if_icmp .lt 13, 3) := by decide +kernel
theorem dX7_append_32 : decode cX7_append 32 = .ok (.new 210, 3) := by decide +kernel
theorem dX7_append_35 : decode cX7_append 35 = .ok (.dup, 1) := by decide +kernel
theorem dX7_append_36 : decode cX7_append 36 = .ok (.ldc 212, 2) := by decide +kernel
theorem dX7_append_38 : decode cX7_append 38 = .ok (.invokespecial 214, 3) := by decide +kernel
theorem dX7_append_41 : decode cX7_append 41 = .ok (.athrow, 1) := by decide +kernel
theorem dX7_append_42 : decode cX7_append 42 = .ok (.aload_n 0, 1) := by decide +kernel
theorem dX7_append_43 : decode cX7_append 43 = .ok (.getfield 57, 3) := by decide +kernel
theorem dX7_append_46 : decode cX7_append 46 = .ok (.iload_n 1, 1) := by decide +kernel
theorem dX7_append_47 : decode cX7_append 47 = .ok (.invokevirtual 215, 3) := by decide +kernel
theorem dX7_append_50 : decode cX7_append 50 = .ok (.aload_n 0, 1) := by decide +kernel
theorem dX7_append_51 : decode cX7_append 51 = .ok (.getfield 57, 3) := by decide +kernel
theorem dX7_append_54 : decode cX7_append 54 = .ok (.getfield 207, 3) := by decide +kernel
theorem dX7_append_57 : decode cX7_append 57 = .ok (.ireturn, 1) := by decide +kernel
theorem dX7_clearText_0 : decode cX7_clearText 0 = .ok (.aload_n 0, 1) := by decide +kernel
theorem dX7_clearText_1 : decode cX7_clearText 1 = .ok (.getfield 57, 3) := by decide +kernel
theorem dX7_clearText_4 : decode cX7_clearText 4 = .ok (.getfield 207, 3) := by decide +kernel
theorem dX7_clearText_7 : decode cX7_clearText 7 = .ok (.istore_n 1, 1) := by decide +kernel
theorem dX7_clearText_8 : decode cX7_clearText 8 = .ok (.aload_n 0, 1) := by decide +kernel
theorem dX7_clearText_9 : decode cX7_clearText 9 = .ok (.getfield 57, 3) := by decide +kernel
theorem dX7_clearText_12 : decode cX7_clearText 12 = .ok (.iconst 0, 1) := by decide +kernel
theorem dX7_clearText_13 : decode cX7_clearText 13 = .ok (.putfield 207, 3) := by decide +kernel
theorem dX7_clearText_16 : decode cX7_clearText 16 = .ok (.iload_n 1, 1) := by decide +kernel
theorem dX7_clearText_17 : decode cX7_clearText 17 = .ok (.ireturn, 1) := by decide +kernel
set_option maxRecDepth 20000 in
theorem ggX7_carryOut_X3_findFault : GoodIn wsX7_carryOut wsX3_findFault := goodIn_r _ [6, 7, 8, 9, 10, 5, 11, 12, 13, 14, 15, 16, 17, 18, 19, 20, 21, 22, 23, 24, 25, 26, 27, 28, 29, 30, 31, 32, 33, 34, 35, 36, 37, 38, 39, 40, 41, 42, 43, 44, 45, 46, 47, 48, 139, 140, 141, 142, 143, 144, 145, 146, 147, 148, 149] (by decide +kernel) (by decide +kernel)
set_option maxRecDepth 20000 in
theorem gX7_carryOut_X3_findFault : GoodIn wsX7_carryOut (wsV RX7 218 RX3 yX3_findFault wsX3_findFault) := goodIn_app (goodIn_of _ (by decide +kernel)) ggX7_carryOut_X3_findFault
set_option maxRecDepth 20000 in
theorem ggX7_carryOut_X7_beforeChange : GoodIn wsX7_carryOut wsX7_beforeChange := goodIn_r _ [53, 54, 55, 56, 57, 58, 59, 60, 61, 62, 63, 64, 65, 66, 67, 68, 69, 70, 71, 72, 73, 74, 75, 76, 77, 78, 52, 79, 80, 81, 129, 130, 131, 132, 133, 134, 135, 136, 137, 138, 150, 151, 152, 153, 154, 155, 156, 157, 158, 159] (by decide +kernel) (by decide +kernel)
set_option maxRecDepth 20000 in
theorem gX7_carryOut_X7_beforeChange : GoodIn wsX7_carryOut (wsV RX7 79 RX7 yX7_beforeChange wsX7_beforeChange) := goodIn_app (goodIn_of _ (by decide +kernel)) ggX7_carryOut_X7_beforeChange
set_option maxRecDepth 20000 in
theorem ggX7_carryOut_X3_rewind : GoodIn wsX7_carryOut wsX3_rewind := goodIn_r _ [11, 12, 7, 139, 140, 141, 142, 143, 144, 145, 146, 147, 148, 149] (by decide +kernel) (by decide +kernel)
set_option maxRecDepth 20000 in
theorem gX7_carryOut_X3_rewind : GoodIn wsX7_carryOut (wsV RX7 221 RX3 yX3_rewind wsX3_rewind) := goodIn_app (goodIn_of _ (by decide +kernel)) ggX7_carryOut_X3_rewind
set_option maxRecDepth 20000 in
theorem ggX7_carryOut_X3_readOrder : GoodIn wsX7_carryOut wsX3_readOrder := goodIn_r _ [16, 12, 17, 7, 18, 19, 20, 21, 22, 23, 5, 24, 25, 26, 27, 28, 29, 30, 31, 32, 33, 34, 35, 36, 37, 38, 39, 40, 41, 42, 43, 44, 45, 46, 47, 48, 139, 140, 141, 142, 143, 144, 145, 146, 147, 148, 149] (by decide +kernel) (by decide +kernel)
set_option maxRecDepth 20000 in
theorem gX7_carryOut_X3_readOrder : GoodIn wsX7_carryOut (wsV RX7 224 RX3 yX3_readOrder wsX3_readOrder) := goodIn_app (goodIn_of _ (by decide +kernel)) ggX7_carryOut_X3_readOrder
set_option maxRecDepth 20000 in
theorem ggX7_carryOut_X7_follow : GoodIn wsX7_carryOut wsX7_follow := goodIn_r _ [87, 1, 88, 55, 89, 90, 91, 92, 93, 94, 95, 96, 97, 66, 98, 68, 69, 99, 100, 101, 102, 103, 104, 105, 106, 70, 71, 72, 73, 74, 75, 107, 108, 109, 110, 111, 112, 113, 114, 115, 116, 117, 118, 119, 52, 120, 121, 122, 123, 124, 125, 126, 127, 128, 129, 130, 131, 132, 133, 134, 135, 136, 137, 138, 139, 140, 141, 142, 143, 144, 145, 146, 147, 148, 149, 152, 153, 154, 155, 156, 157, 158, 159] (by decide +kernel) (by decide +kernel)
set_option maxRecDepth 20000 in
theorem gX7_carryOut_X7_follow : GoodIn wsX7_carryOut (wsV RX7 228 RX7 yX7_follow wsX7_follow) := goodIn_app (goodIn_of _ (by decide +kernel)) ggX7_carryOut_X7_follow
theorem dX7_carryOut_0 : decode cX7_carryOut 0 = .ok (.aload_n 0, 1) := by decide +kernel
theorem dX7_carryOut_1 : decode cX7_carryOut 1 = .ok (.getfield 57, 3) := by decide +kernel
theorem dX7_carryOut_4 : decode cX7_carryOut 4 = .ok (.invokevirtual 218, 3) := by decide +kernel
theorem dX7_carryOut_7 : decode cX7_carryOut 7 = .ok (.istore_n 1, 1) := by decide +kernel
theorem dX7_carryOut_8 : decode cX7_carryOut 8 = .ok (.iload_n 1, 1) := by decide +kernel
theorem dX7_carryOut_9 : decode cX7_carryOut 9 = .ok (.iconst (-1), 1) := by decide +kernel
theorem dX7_carryOut_10 : decode cX7_carryOut 10 = .ok (.if_icmp .eq 8, 3) := by decide +kernel
theorem dX7_carryOut_13 : decode cX7_carryOut 13 = .ok (.bipush (-10), 2) := by decide +kernel
theorem dX7_carryOut_15 : decode cX7_carryOut 15 = .ok (.iload_n 1, 1) := by decide +kernel
theorem dX7_carryOut_16 : decode cX7_carryOut 16 = .ok (.isub, 1) := by decide +kernel
theorem dX7_carryOut_17 : decode cX7_carryOut 17 = .ok (.ireturn, 1) := by decide +kernel
theorem dX7_carryOut_18 : decode cX7_carryOut 18 = .ok (.aload_n 0, 1) := by decide +kernel
theorem dX7_carryOut_19 : decode cX7_carryOut 19 = .ok (.invokevirtual 79, 3) := by decide +kernel
theorem dX7_carryOut_22 : decode cX7_carryOut 22 = .ok (.aload_n 0, 1) := by decide +kernel
theorem dX7_carryOut_23 : decode cX7_carryOut 23 = .ok (.getfield 57, 3) := by decide +kernel
theorem dX7_carryOut_26 : decode cX7_carryOut 26 = .ok (.invokevirtual 221, 3) := by decide +kernel
theorem dX7_carryOut_29 : decode cX7_carryOut 29 = .ok (.iconst 0, 1) := by decide +kernel
theorem dX7_carryOut_30 : decode cX7_carryOut 30 = .ok (.istore_n 2, 1) := by decide +kernel
theorem dX7_carryOut_31 : decode cX7_carryOut 31 = .ok (.iconst 0, 1) := by decide +kernel
theorem dX7_carryOut_32 : decode cX7_carryOut 32 = .ok (.istore_n 3, 1) := by decide +kernel
theorem dX7_carryOut_33 : decode cX7_carryOut 33 = .ok (.iload_n 3, 1) := by decide +kernel
theorem dX7_carryOut_34 : decode cX7_carryOut 34 = .ok (.bipush 100, 2) := by decide +kernel
theorem dX7_carryOut_36 : decode cX7_carryOut 36 = .ok (.if_icmp .ge 29, 3) := by decide +kernel
theorem dX7_carryOut_39 : decode cX7_carryOut 39 = .ok (.aload_n 0, 1) := by decide +kernel
theorem dX7_carryOut_40 : decode cX7_carryOut 40 = .ok (.getfield 57, 3) := by decide +kernel
theorem dX7_carryOut_43 : decode cX7_carryOut 43 = .ok (.invokevirtual 224, 3) := by decide +kernel
theorem dX7_carryOut_46 : decode cX7_carryOut 46 = .ok (.ifCond .eq 19, 3) := by decide +kernel
theorem dX7_carryOut_49 : decode cX7_carryOut 49 = .ok (.aload_n 0, 1) := by decide +kernel
theorem dX7_carryOut_50 : decode cX7_carryOut 50 = .ok (.invokevirtual 228, 3) := by decide +kernel
theorem dX7_carryOut_53 : decode cX7_carryOut 53 = .ok (.ifCond .eq 12, 3) := by decide +kernel
theorem dX7_carryOut_56 : decode cX7_carryOut 56 = .ok (.iinc 2 1, 3) := by decide +kernel
theorem dX7_carryOut_59 : decode cX7_carryOut 59 = .ok (.iinc 3 1, 3) := by decide +kernel
theorem dX7_carryOut_62 : decode cX7_carryOut 62 = .ok (.goto (-29), 3) := by decide +kernel
theorem dX7_carryOut_65 : decode cX7_carryOut 65 = .ok (.iload_n 2, 1) := by decide +kernel
theorem dX7_carryOut_66 : decode cX7_carryOut 66 = .ok (.ireturn, 1) := by decide +kernel
set_option maxRecDepth 20000 in
theorem ggX7_undo_X2_restoreInto : GoodIn wsX7_undo wsX2_restoreInto := goodIn_r _ [10, 11, 12, 13, 14, 15, 16, 17, 18, 19, 20, 21, 22, 23, 24, 25, 43, 44, 45, 46, 47, 48, 49, 50, 51, 52] (by decide +kernel) (by decide +kernel)
set_option maxRecDepth 20000 in
theorem gX7_undo_X2_restoreInto : GoodIn wsX7_undo (wsV RX7 236 RX2 yX2_restoreInto wsX2_restoreInto) := goodIn_app (goodIn_of _ (by decide +kernel)) ggX7_undo_X2_restoreInto
set_option maxRecDepth 20000 in
theorem ggX7_undo_X7_forgetAnswers : GoodIn wsX7_undo wsX7_forgetAnswers := goodIn_r _ [30, 31, 32, 33, 34, 35, 36, 37, 38, 39, 40, 41, 42] (by decide +kernel) (by decide +kernel)
set_option maxRecDepth 20000 in
theorem gX7_undo_X7_forgetAnswers : GoodIn wsX7_undo (wsV RX7 239 RX7 yX7_forgetAnswers wsX7_forgetAnswers) := goodIn_app (goodIn_of _ (by decide +kernel)) ggX7_undo_X7_forgetAnswers
theorem dX7_undo_0 : decode cX7_undo 0 = .ok (.aload_n 0, 1) := by decide +kernel
theorem dX7_undo_1 : decode cX7_undo 1 = .ok (.getfield 50, 3) := by decide +kernel
theorem dX7_undo_4 : decode cX7_undo 4 = .ok (.getfield 231, 3) := by decide +kernel
theorem dX7_undo_7 : decode cX7_undo 7 = .ok (.ifCond .ne 13, 3) := by decide +kernel
theorem dX7_undo_10 : decode cX7_undo 10 = .ok (.new 210, 3) := by decide +kernel
theorem dX7_undo_13 : decode cX7_undo 13 = .ok (.dup, 1) := by decide +kernel
theorem dX7_undo_14 : decode cX7_undo 14 = .ok (.ldc 234, 2) := by decide +kernel
theorem dX7_undo_16 : decode cX7_undo 16 = .ok (.invokespecial 214, 3) := by decide +kernel
theorem dX7_undo_19 : decode cX7_undo 19 = .ok (.athrow, 1) := by decide +kernel
theorem dX7_undo_20 : decode cX7_undo 20 = .ok (.aload_n 0, 1) := by decide +kernel
theorem dX7_undo_21 : decode cX7_undo 21 = .ok (.getfield 50, 3) := by decide +kernel
theorem dX7_undo_24 : decode cX7_undo 24 = .ok (.aload_n 0, 1) := by decide +kernel
theorem dX7_undo_25 : decode cX7_undo 25 = .ok (.getfield 12, 3) := by decide +kernel
theorem dX7_undo_28 : decode cX7_undo 28 = .ok (.invokevirtual 236, 3) := by decide +kernel
theorem dX7_undo_31 : decode cX7_undo 31 = .ok (.aload_n 0, 1) := by decide +kernel
theorem dX7_undo_32 : decode cX7_undo 32 = .ok (.invokevirtual 239, 3) := by decide +kernel
theorem dX7_undo_35 : decode cX7_undo 35 = .ok (.aload_n 0, 1) := by decide +kernel
theorem dX7_undo_36 : decode cX7_undo 36 = .ok (.getfield 50, 3) := by decide +kernel
theorem dX7_undo_39 : decode cX7_undo 39 = .ok (.getfield 231, 3) := by decide +kernel
theorem dX7_undo_42 : decode cX7_undo 42 = .ok (.ireturn, 1) := by decide +kernel
set_option maxRecDepth 20000 in
theorem ggX7_digest_X7_think : GoodIn wsX7_digest wsX7_think := goodIn_r _ [18, 19, 7, 20, 21, 22, 23, 24, 25, 26, 27, 28, 29, 30, 31, 32, 33, 34, 35, 36, 37, 38, 39, 40, 41, 42, 43, 44, 45, 17, 46, 47, 48, 49, 50, 51, 52, 53, 54, 55, 56, 57, 58, 59, 60, 61, 62, 63, 64, 65, 66, 67, 68, 69, 70, 71, 72, 73, 74, 75, 76, 77, 78, 79, 80, 81, 82, 83, 84, 85, 86, 87, 88, 89, 90, 91, 92, 93, 94, 95, 96, 97, 98, 99, 100, 101, 102, 103, 104, 105, 106, 107, 108, 109, 110, 151, 152, 153, 154, 155, 156, 157, 158, 159, 160, 180, 181, 182, 183, 184, 185, 186, 187, 188, 172, 173, 174, 175, 176, 177, 178, 179] (by decide +kernel) (by decide +kernel)
set_option maxRecDepth 20000 in
theorem gX7_digest_X7_think : GoodIn wsX7_digest (wsV RX7 242 RX7 yX7_think wsX7_think) := goodIn_app (goodIn_of _ (by decide +kernel)) ggX7_digest_X7_think
set_option maxRecDepth 20000 in
theorem ggX7_digest_X7_number : GoodIn wsX7_digest wsX7_number := goodIn_r _ [114, 5, 115, 6, 7, 8, 116, 117, 118, 119, 120, 121, 122, 123, 124, 125, 126, 127, 128, 129, 130, 131, 132, 133, 134, 14, 15, 16, 17, 18, 19, 20, 21, 22, 23, 24, 25, 26, 27, 28, 29, 30, 31, 32, 33, 34, 35, 36, 37, 38, 39, 40, 41, 42, 43, 44, 45, 46, 47, 48, 49, 50, 51, 52, 53, 54, 55, 56, 57, 58, 59, 60, 61, 62, 63, 64, 65, 66, 67, 68, 69, 70, 71, 72, 73, 74, 75, 76, 77, 78, 79, 80, 81, 82, 83, 84, 85, 86, 87, 88, 89, 90, 91, 92, 93, 94, 95, 96, 97, 98, 99, 100, 101, 102, 103, 104, 105, 106, 107, 108, 109, 110, 135, 136, 137, 138, 139, 140, 141, 142, 151, 152, 153, 154, 155, 156, 157, 158, 159, 160, 172, 173, 174, 175, 176, 177, 178, 179, 180, 181, 182, 183, 184, 185, 186, 187, 188] (by decide +kernel) (by decide +kernel)
set_option maxRecDepth 20000 in
theorem gX7_digest_X7_number : GoodIn wsX7_digest (wsV RX7 140 RX7 yX7_number wsX7_number) := goodIn_app (goodIn_of _ (by decide +kernel)) ggX7_digest_X7_number
set_option maxRecDepth 20000 in
theorem ggX7_digest_X5_aspect : GoodIn wsX7_digest wsX5_aspect := goodIn_r _ [146, 134, 147, 148, 149, 150, 122, 172, 173, 174, 175, 176, 177, 178, 179] (by decide +kernel) (by decide +kernel)
set_option maxRecDepth 20000 in
theorem gX7_digest_X5_aspect : GoodIn wsX7_digest (wsV RX7 136 RX5 yX5_aspect wsX5_aspect) := goodIn_app (goodIn_of _ (by decide +kernel)) ggX7_digest_X5_aspect
theorem dX7_digest_0 : decode cX7_digest 0 = .ok (.aload_n 0, 1) := by decide +kernel
theorem dX7_digest_1 : decode cX7_digest 1 = .ok (.invokevirtual 242, 3) := by decide +kernel
theorem dX7_digest_4 : decode cX7_digest 4 = .ok (.ldc2_w 245, 3) := by decide +kernel
theorem dX7_digest_7 : decode cX7_digest 7 = .ok (.lstore_n 1, 1) := by decide +kernel
theorem dX7_digest_8 : decode cX7_digest 8 = .ok (.ldc2_w 247, 3) := by decide +kernel
theorem dX7_digest_11 : decode cX7_digest 11 = .ok (.lload_n 1, 1) := by decide +kernel
theorem dX7_digest_12 : decode cX7_digest 12 = .ok (.lmul, 1) := by decide +kernel
theorem dX7_digest_13 : decode cX7_digest 13 = .ok (.aload_n 0, 1) := by decide +kernel
theorem dX7_digest_14 : decode cX7_digest 14 = .ok (.getfield 57, 3) := by decide +kernel
theorem dX7_digest_17 : decode cX7_digest 17 = .ok (.getfield 207, 3) := by decide +kernel
theorem dX7_digest_20 : decode cX7_digest 20 = .ok (.i2l, 1) := by decide +kernel
theorem dX7_digest_21 : decode cX7_digest 21 = .ok (.ladd, 1) := by decide +kernel
theorem dX7_digest_22 : decode cX7_digest 22 = .ok (.lstore_n 1, 1) := by decide +kernel
theorem dX7_digest_23 : decode cX7_digest 23 = .ok (.iconst 0, 1) := by decide +kernel
theorem dX7_digest_24 : decode cX7_digest 24 = .ok (.istore_n 3, 1) := by decide +kernel
theorem dX7_digest_25 : decode cX7_digest 25 = .ok (.iload_n 3, 1) := by decide +kernel
theorem dX7_digest_26 : decode cX7_digest 26 = .ok (.bipush 6, 2) := by decide +kernel
theorem dX7_digest_28 : decode cX7_digest 28 = .ok (.if_icmp .ge 22, 3) := by decide +kernel
theorem dX7_digest_31 : decode cX7_digest 31 = .ok (.ldc2_w 247, 3) := by decide +kernel
theorem dX7_digest_34 : decode cX7_digest 34 = .ok (.lload_n 1, 1) := by decide +kernel
theorem dX7_digest_35 : decode cX7_digest 35 = .ok (.lmul, 1) := by decide +kernel
theorem dX7_digest_36 : decode cX7_digest 36 = .ok (.aload_n 0, 1) := by decide +kernel
theorem dX7_digest_37 : decode cX7_digest 37 = .ok (.iload_n 3, 1) := by decide +kernel
theorem dX7_digest_38 : decode cX7_digest 38 = .ok (.invokevirtual 140, 3) := by decide +kernel
theorem dX7_digest_41 : decode cX7_digest 41 = .ok (.i2l, 1) := by decide +kernel
theorem dX7_digest_42 : decode cX7_digest 42 = .ok (.ladd, 1) := by decide +kernel
theorem dX7_digest_43 : decode cX7_digest 43 = .ok (.lstore_n 1, 1) := by decide +kernel
theorem dX7_digest_44 : decode cX7_digest 44 = .ok (.iinc 3 1, 3) := by decide +kernel
theorem dX7_digest_47 : decode cX7_digest 47 = .ok (.goto (-22), 3) := by decide +kernel
theorem dX7_digest_50 : decode cX7_digest 50 = .ok (.iconst 0, 1) := by decide +kernel
theorem dX7_digest_51 : decode cX7_digest 51 = .ok (.istore_n 3, 1) := by decide +kernel
theorem dX7_digest_52 : decode cX7_digest 52 = .ok (.iload_n 3, 1) := by decide +kernel
theorem dX7_digest_53 : decode cX7_digest 53 = .ok (.aload_n 0, 1) := by decide +kernel
theorem dX7_digest_54 : decode cX7_digest 54 = .ok (.getfield 12, 3) := by decide +kernel
theorem dX7_digest_57 : decode cX7_digest 57 = .ok (.getfield 75, 3) := by decide +kernel
theorem dX7_digest_60 : decode cX7_digest 60 = .ok (.if_icmp .ge 104, 3) := by decide +kernel
theorem dX7_digest_63 : decode cX7_digest 63 = .ok (.iconst 0, 1) := by decide +kernel
theorem dX7_digest_64 : decode cX7_digest 64 = .ok (.istore 4, 2) := by decide +kernel
theorem dX7_digest_66 : decode cX7_digest 66 = .ok (.iload 4, 2) := by decide +kernel
theorem dX7_digest_68 : decode cX7_digest 68 = .ok (.bipush 6, 2) := by decide +kernel
theorem dX7_digest_70 : decode cX7_digest 70 = .ok (.if_icmp .ge 27, 3) := by decide +kernel
theorem dX7_digest_73 : decode cX7_digest 73 = .ok (.ldc2_w 247, 3) := by decide +kernel
theorem dX7_digest_76 : decode cX7_digest 76 = .ok (.lload_n 1, 1) := by decide +kernel
theorem dX7_digest_77 : decode cX7_digest 77 = .ok (.lmul, 1) := by decide +kernel
theorem dX7_digest_78 : decode cX7_digest 78 = .ok (.aload_n 0, 1) := by decide +kernel
theorem dX7_digest_79 : decode cX7_digest 79 = .ok (.getfield 12, 3) := by decide +kernel
theorem dX7_digest_82 : decode cX7_digest 82 = .ok (.iload_n 3, 1) := by decide +kernel
theorem dX7_digest_83 : decode cX7_digest 83 = .ok (.iload 4, 2) := by decide +kernel
theorem dX7_digest_85 : decode cX7_digest 85 = .ok (.invokevirtual 136, 3) := by decide +kernel
theorem dX7_digest_88 : decode cX7_digest 88 = .ok (.i2l, 1) := by decide +kernel
theorem dX7_digest_89 : decode cX7_digest 89 = .ok (.ladd, 1) := by decide +kernel
theorem dX7_digest_90 : decode cX7_digest 90 = .ok (.lstore_n 1, 1) := by decide +kernel
theorem dX7_digest_91 : decode cX7_digest 91 = .ok (.iinc 4 1, 3) := by decide +kernel
theorem dX7_digest_94 : decode cX7_digest 94 = .ok (.goto (-28), 3) := by decide +kernel
theorem dX7_digest_97 : decode cX7_digest 97 = .ok (.aload_n 0, 1) := by decide +kernel
theorem dX7_digest_98 : decode cX7_digest 98 = .ok (.getfield 21, 3) := by decide +kernel
theorem dX7_digest_101 : decode cX7_digest 101 = .ok (.getfield 196, 3) := by decide +kernel
theorem dX7_digest_104 : decode cX7_digest 104 = .ok (.ifCond .ne 54, 3) := by decide +kernel
theorem dX7_digest_107 : decode cX7_digest 107 = .ok (.ldc2_w 247, 3) := by decide +kernel
theorem dX7_digest_110 : decode cX7_digest 110 = .ok (.lload_n 1, 1) := by decide +kernel
theorem dX7_digest_111 : decode cX7_digest 111 = .ok (.lmul, 1) := by decide +kernel
theorem dX7_digest_112 : decode cX7_digest 112 = .ok (.aload_n 0, 1) := by decide +kernel
theorem dX7_digest_113 : decode cX7_digest 113 = .ok (.getfield 21, 3) := by decide +kernel
theorem dX7_digest_116 : decode cX7_digest 116 = .ok (.getfield 147, 3) := by decide +kernel
theorem dX7_digest_119 : decode cX7_digest 119 = .ok (.iload_n 3, 1) := by decide +kernel
theorem dX7_digest_120 : decode cX7_digest 120 = .ok (.iaload, 1) := by decide +kernel
theorem dX7_digest_121 : decode cX7_digest 121 = .ok (.i2l, 1) := by decide +kernel
theorem dX7_digest_122 : decode cX7_digest 122 = .ok (.ladd, 1) := by decide +kernel
theorem dX7_digest_123 : decode cX7_digest 123 = .ok (.lstore_n 1, 1) := by decide +kernel
theorem dX7_digest_124 : decode cX7_digest 124 = .ok (.ldc2_w 247, 3) := by decide +kernel
theorem dX7_digest_127 : decode cX7_digest 127 = .ok (.lload_n 1, 1) := by decide +kernel
theorem dX7_digest_128 : decode cX7_digest 128 = .ok (.lmul, 1) := by decide +kernel
theorem dX7_digest_129 : decode cX7_digest 129 = .ok (.aload_n 0, 1) := by decide +kernel
theorem dX7_digest_130 : decode cX7_digest 130 = .ok (.getfield 21, 3) := by decide +kernel
theorem dX7_digest_133 : decode cX7_digest 133 = .ok (.getfield 150, 3) := by decide +kernel
theorem dX7_digest_136 : decode cX7_digest 136 = .ok (.iload_n 3, 1) := by decide +kernel
theorem dX7_digest_137 : decode cX7_digest 137 = .ok (.iaload, 1) := by decide +kernel
theorem dX7_digest_138 : decode cX7_digest 138 = .ok (.i2l, 1) := by decide +kernel
theorem dX7_digest_139 : decode cX7_digest 139 = .ok (.ladd, 1) := by decide +kernel
theorem dX7_digest_140 : decode cX7_digest 140 = .ok (.lstore_n 1, 1) := by decide +kernel
theorem dX7_digest_141 : decode cX7_digest 141 = .ok (.ldc2_w 247, 3) := by decide +kernel
theorem dX7_digest_144 : decode cX7_digest 144 = .ok (.lload_n 1, 1) := by decide +kernel
theorem dX7_digest_145 : decode cX7_digest 145 = .ok (.lmul, 1) := by decide +kernel
theorem dX7_digest_146 : decode cX7_digest 146 = .ok (.aload_n 0, 1) := by decide +kernel
theorem dX7_digest_147 : decode cX7_digest 147 = .ok (.getfield 21, 3) := by decide +kernel
theorem dX7_digest_150 : decode cX7_digest 150 = .ok (.getfield 249, 3) := by decide +kernel
theorem dX7_digest_153 : decode cX7_digest 153 = .ok (.iload_n 3, 1) := by decide +kernel
theorem dX7_digest_154 : decode cX7_digest 154 = .ok (.iaload, 1) := by decide +kernel
theorem dX7_digest_155 : decode cX7_digest 155 = .ok (.i2l, 1) := by decide +kernel
theorem dX7_digest_156 : decode cX7_digest 156 = .ok (.ladd, 1) := by decide +kernel
theorem dX7_digest_157 : decode cX7_digest 157 = .ok (.lstore_n 1, 1) := by decide +kernel
theorem dX7_digest_158 : decode cX7_digest 158 = .ok (.iinc 3 1, 3) := by decide +kernel
theorem dX7_digest_161 : decode cX7_digest 161 = .ok (.goto (-109), 3) := by decide +kernel
theorem dX7_digest_164 : decode cX7_digest 164 = .ok (.ldc2_w 247, 3) := by decide +kernel
theorem dX7_digest_167 : decode cX7_digest 167 = .ok (.lload_n 1, 1) := by decide +kernel
theorem dX7_digest_168 : decode cX7_digest 168 = .ok (.lmul, 1) := by decide +kernel
theorem dX7_digest_169 : decode cX7_digest 169 = .ok (.aload_n 0, 1) := by decide +kernel
theorem dX7_digest_170 : decode cX7_digest 170 = .ok (.getfield 50, 3) := by decide +kernel
theorem dX7_digest_173 : decode cX7_digest 173 = .ok (.getfield 231, 3) := by decide +kernel
theorem dX7_digest_176 : decode cX7_digest 176 = .ok (.i2l, 1) := by decide +kernel
theorem dX7_digest_177 : decode cX7_digest 177 = .ok (.ladd, 1) := by decide +kernel
theorem dX7_digest_178 : decode cX7_digest 178 = .ok (.lreturn, 1) := by decide +kernel
theorem dX7_refuse_0 : decode cX7_refuse 0 = .ok (.iload_n 0, 1) := by decide +kernel
theorem dX7_refuse_1 : decode cX7_refuse 1 = .ok (.iconst 1, 1) := by decide +kernel
theorem dX7_refuse_2 : decode cX7_refuse 2 = .ok (.if_icmp .ne 13, 3) := by decide +kernel
theorem dX7_refuse_5 : decode cX7_refuse 5 = .ok (.new 252, 3) := by decide +kernel
theorem dX7_refuse_8 : decode cX7_refuse 8 = .ok (.dup, 1) := by decide +kernel
theorem dX7_refuse_9 : decode cX7_refuse 9 = .ok (.ldc 254, 2) := by decide +kernel
theorem dX7_refuse_11 : decode cX7_refuse 11 = .ok (.invokespecial 256, 3) := by decide +kernel
theorem dX7_refuse_14 : decode cX7_refuse 14 = .ok (.athrow, 1) := by decide +kernel
theorem dX7_refuse_15 : decode cX7_refuse 15 = .ok (.iload_n 0, 1) := by decide +kernel
theorem dX7_refuse_16 : decode cX7_refuse 16 = .ok (.iconst 2, 1) := by decide +kernel
theorem dX7_refuse_17 : decode cX7_refuse 17 = .ok (.if_icmp .ne 14, 3) := by decide +kernel
theorem dX7_refuse_20 : decode cX7_refuse 20 = .ok (.new 68, 3) := by decide +kernel
theorem dX7_refuse_23 : decode cX7_refuse 23 = .ok (.dup, 1) := by decide +kernel
theorem dX7_refuse_24 : decode cX7_refuse 24 = .ok (.ldc_w 257, 3) := by decide +kernel
theorem dX7_refuse_27 : decode cX7_refuse 27 = .ok (.invokespecial 72, 3) := by decide +kernel
theorem dX7_refuse_30 : decode cX7_refuse 30 = .ok (.athrow, 1) := by decide +kernel
theorem dX7_refuse_31 : decode cX7_refuse 31 = .ok (.iload_n 0, 1) := by decide +kernel
theorem dX7_refuse_32 : decode cX7_refuse 32 = .ok (.iconst 3, 1) := by decide +kernel
theorem dX7_refuse_33 : decode cX7_refuse 33 = .ok (.if_icmp .ne 14, 3) := by decide +kernel
theorem dX7_refuse_36 : decode cX7_refuse 36 = .ok (.new 210, 3) := by decide +kernel
theorem dX7_refuse_39 : decode cX7_refuse 39 = .ok (.dup, 1) := by decide +kernel
theorem dX7_refuse_40 : decode cX7_refuse 40 = .ok (.ldc_w 259, 3) := by decide +kernel
theorem dX7_refuse_43 : decode cX7_refuse 43 = .ok (.invokespecial 214, 3) := by decide +kernel
theorem dX7_refuse_46 : decode cX7_refuse 46 = .ok (.athrow, 1) := by decide +kernel
theorem dX7_refuse_47 : decode cX7_refuse 47 = .ok (.return_, 1) := by decide +kernel
set_option maxRecDepth 20000 in
theorem ggX7_refuseUnknown_X5_has : GoodIn wsX7_refuseUnknown wsX5_has := goodIn_r _ [8, 9, 20, 21, 22, 23, 24, 25, 26, 27] (by decide +kernel) (by decide +kernel)
set_option maxRecDepth 20000 in
theorem gX7_refuseUnknown_X5_has : GoodIn wsX7_refuseUnknown (wsV RX7 261 RX5 yX5_has wsX5_has) := goodIn_app (goodIn_of _ (by decide +kernel)) ggX7_refuseUnknown_X5_has
theorem dX7_refuseUnknown_0 : decode cX7_refuseUnknown 0 = .ok (.aload_n 0, 1) := by decide +kernel
theorem dX7_refuseUnknown_1 : decode cX7_refuseUnknown 1 = .ok (.getfield 12, 3) := by decide +kernel
theorem dX7_refuseUnknown_4 : decode cX7_refuseUnknown 4 = .ok (.iload_n 1, 1) := by decide +kernel
theorem dX7_refuseUnknown_5 : decode cX7_refuseUnknown 5 = .ok (.invokevirtual 261, 3) := by decide +kernel
theorem dX7_refuseUnknown_8 : decode cX7_refuseUnknown 8 = .ok (.ifCond .ne 14, 3) := by decide +kernel
theorem dX7_refuseUnknown_11 : decode cX7_refuseUnknown 11 = .ok (.new 252, 3) := by decide +kernel
theorem dX7_refuseUnknown_14 : decode cX7_refuseUnknown 14 = .ok (.dup, 1) := by decide +kernel
theorem dX7_refuseUnknown_15 : decode cX7_refuseUnknown 15 = .ok (.ldc_w 264, 3) := by decide +kernel
theorem dX7_refuseUnknown_18 : decode cX7_refuseUnknown 18 = .ok (.invokespecial 256, 3) := by decide +kernel
theorem dX7_refuseUnknown_21 : decode cX7_refuseUnknown 21 = .ok (.athrow, 1) := by decide +kernel
theorem dX7_refuseUnknown_22 : decode cX7_refuseUnknown 22 = .ok (.return_, 1) := by decide +kernel
set_option maxRecDepth 20000 in
theorem ggX7_refuseContradiction_X7_think : GoodIn wsX7_refuseContradiction wsX7_think := goodIn_r _ [9, 10, 3, 11, 12, 13, 14, 15, 16, 17, 18, 19, 20, 21, 22, 23, 24, 25, 26, 27, 28, 29, 30, 31, 32, 33, 34, 35, 36, 8, 37, 38, 39, 40, 41, 42, 43, 44, 45, 46, 47, 48, 49, 50, 51, 52, 53, 54, 55, 56, 57, 58, 59, 60, 61, 62, 63, 64, 65, 66, 67, 68, 69, 70, 71, 72, 73, 74, 75, 76, 77, 78, 79, 80, 81, 82, 83, 84, 85, 86, 87, 88, 89, 90, 91, 92, 93, 94, 95, 96, 97, 98, 99, 100, 101, 102, 103, 104, 105, 106, 107, 108, 109, 110, 111, 112, 113, 114, 115, 116, 117, 118, 119, 120, 121, 122, 123, 124, 125, 126, 127, 128] (by decide +kernel) (by decide +kernel)
set_option maxRecDepth 20000 in
theorem gX7_refuseContradiction_X7_think : GoodIn wsX7_refuseContradiction (wsV RX7 242 RX7 yX7_think wsX7_think) := goodIn_app (goodIn_of _ (by decide +kernel)) ggX7_refuseContradiction_X7_think
theorem dX7_refuseContradiction_0 : decode cX7_refuseContradiction 0 = .ok (.aload_n 0, 1) := by decide +kernel
theorem dX7_refuseContradiction_1 : decode cX7_refuseContradiction 1 = .ok (.invokevirtual 242, 3) := by decide +kernel
theorem dX7_refuseContradiction_4 : decode cX7_refuseContradiction 4 = .ok (.aload_n 0, 1) := by decide +kernel
theorem dX7_refuseContradiction_5 : decode cX7_refuseContradiction 5 = .ok (.getfield 21, 3) := by decide +kernel
theorem dX7_refuseContradiction_8 : decode cX7_refuseContradiction 8 = .ok (.getfield 196, 3) := by decide +kernel
theorem dX7_refuseContradiction_11 : decode cX7_refuseContradiction 11 = .ok (.ifCond .eq 14, 3) := by decide +kernel
theorem dX7_refuseContradiction_14 : decode cX7_refuseContradiction 14 = .ok (.new 210, 3) := by decide +kernel
theorem dX7_refuseContradiction_17 : decode cX7_refuseContradiction 17 = .ok (.dup, 1) := by decide +kernel
theorem dX7_refuseContradiction_18 : decode cX7_refuseContradiction 18 = .ok (.ldc_w 266, 3) := by decide +kernel
theorem dX7_refuseContradiction_21 : decode cX7_refuseContradiction 21 = .ok (.invokespecial 214, 3) := by decide +kernel
theorem dX7_refuseContradiction_24 : decode cX7_refuseContradiction 24 = .ok (.athrow, 1) := by decide +kernel
theorem dX7_refuseContradiction_25 : decode cX7_refuseContradiction 25 = .ok (.return_, 1) := by decide +kernel
set_option maxRecDepth 20000 in
theorem ggX7_beforeChange_X2_save : GoodIn wsX7_beforeChange wsX2_save := goodIn_r _ [7, 8, 9, 10, 11, 12, 13, 14, 15, 16, 17, 18, 19, 20, 21, 22, 40, 41, 42, 43, 44, 45, 46, 47, 48, 49] (by decide +kernel) (by decide +kernel)
set_option maxRecDepth 20000 in
theorem gX7_beforeChange_X2_save : GoodIn wsX7_beforeChange (wsV RX7 267 RX2 yX2_save wsX2_save) := goodIn_app (goodIn_of _ (by decide +kernel)) ggX7_beforeChange_X2_save
set_option maxRecDepth 20000 in
theorem ggX7_beforeChange_X7_forgetAnswers : GoodIn wsX7_beforeChange wsX7_forgetAnswers := goodIn_r _ [27, 28, 29, 30, 31, 32, 33, 34, 35, 36, 37, 38, 39] (by decide +kernel) (by decide +kernel)
set_option maxRecDepth 20000 in
theorem gX7_beforeChange_X7_forgetAnswers : GoodIn wsX7_beforeChange (wsV RX7 239 RX7 yX7_forgetAnswers wsX7_forgetAnswers) := goodIn_app (goodIn_of _ (by decide +kernel)) ggX7_beforeChange_X7_forgetAnswers
theorem dX7_beforeChange_0 : decode cX7_beforeChange 0 = .ok (.aload_n 0, 1) := by decide +kernel
theorem dX7_beforeChange_1 : decode cX7_beforeChange 1 = .ok (.getfield 50, 3) := by decide +kernel
theorem dX7_beforeChange_4 : decode cX7_beforeChange 4 = .ok (.aload_n 0, 1) := by decide +kernel
theorem dX7_beforeChange_5 : decode cX7_beforeChange 5 = .ok (.getfield 12, 3) := by decide +kernel
theorem dX7_beforeChange_8 : decode cX7_beforeChange 8 = .ok (.invokevirtual 267, 3) := by decide +kernel
theorem dX7_beforeChange_11 : decode cX7_beforeChange 11 = .ok (.aload_n 0, 1) := by decide +kernel
theorem dX7_beforeChange_12 : decode cX7_beforeChange 12 = .ok (.invokevirtual 239, 3) := by decide +kernel
theorem dX7_beforeChange_15 : decode cX7_beforeChange 15 = .ok (.return_, 1) := by decide +kernel
theorem dX7_forgetAnswers_0 : decode cX7_forgetAnswers 0 = .ok (.aload_n 0, 1) := by decide +kernel
theorem dX7_forgetAnswers_1 : decode cX7_forgetAnswers 1 = .ok (.iconst 0, 1) := by decide +kernel
theorem dX7_forgetAnswers_2 : decode cX7_forgetAnswers 2 = .ok (.putfield 61, 3) := by decide +kernel
theorem dX7_forgetAnswers_5 : decode cX7_forgetAnswers 5 = .ok (.aload_n 0, 1) := by decide +kernel
theorem dX7_forgetAnswers_6 : decode cX7_forgetAnswers 6 = .ok (.iconst 0, 1) := by decide +kernel
theorem dX7_forgetAnswers_7 : decode cX7_forgetAnswers 7 = .ok (.putfield 65, 3) := by decide +kernel
theorem dX7_forgetAnswers_10 : decode cX7_forgetAnswers 10 = .ok (.return_, 1) := by decide +kernel
set_option maxRecDepth 20000 in
theorem ggX7_think_X6_run : GoodIn wsX7_think wsX6_run := goodIn_r _ [7, 8, 9, 10, 11, 12, 6, 13, 14, 15, 16, 17, 18, 19, 20, 21, 22, 23, 24, 25, 26, 27, 28, 29, 30, 31, 32, 33, 34, 35, 36, 37, 38, 39, 40, 41, 42, 43, 44, 45, 46, 47, 48, 49, 50, 51, 52, 53, 54, 55, 56, 57, 58, 59, 60, 61, 62, 63, 64, 65, 66, 67, 68, 69, 70, 71, 72, 73, 74, 75, 76, 77, 78, 79, 80, 81, 82, 83, 84, 85, 86, 87, 88, 89, 90, 91, 92, 93, 94, 105, 106, 107, 108, 109, 110, 111, 112, 113, 114, 115, 116, 117, 118, 119, 120, 121] (by decide +kernel) (by decide +kernel)
set_option maxRecDepth 20000 in
theorem gX7_think_X6_run : GoodIn wsX7_think (wsV RX7 193 RX6 yX6_run wsX6_run) := goodIn_app (goodIn_of _ (by decide +kernel)) ggX7_think_X6_run
theorem dX7_think_0 : decode cX7_think 0 = .ok (.aload_n 0, 1) := by decide +kernel
theorem dX7_think_1 : decode cX7_think 1 = .ok (.getfield 61, 3) := by decide +kernel
theorem dX7_think_4 : decode cX7_think 4 = .ok (.ifCond .ne 15, 3) := by decide +kernel
theorem dX7_think_7 : decode cX7_think 7 = .ok (.aload_n 0, 1) := by decide +kernel
theorem dX7_think_8 : decode cX7_think 8 = .ok (.getfield 21, 3) := by decide +kernel
theorem dX7_think_11 : decode cX7_think 11 = .ok (.invokevirtual 193, 3) := by decide +kernel
theorem dX7_think_14 : decode cX7_think 14 = .ok (.aload_n 0, 1) := by decide +kernel
theorem dX7_think_15 : decode cX7_think 15 = .ok (.iconst 1, 1) := by decide +kernel
theorem dX7_think_16 : decode cX7_think 16 = .ok (.putfield 61, 3) := by decide +kernel
theorem dX7_think_19 : decode cX7_think 19 = .ok (.return_, 1) := by decide +kernel
set_option maxRecDepth 20000 in
theorem ggX7_makePlan_X7_think : GoodIn wsX7_makePlan wsX7_think := goodIn_r _ [7, 8, 9, 10, 11, 12, 13, 14, 15, 16, 17, 18, 19, 20, 21, 22, 23, 24, 25, 26, 27, 28, 29, 30, 31, 32, 33, 34, 35, 6, 36, 37, 38, 39, 40, 41, 42, 43, 44, 45, 46, 47, 48, 49, 50, 51, 52, 53, 54, 55, 56, 57, 58, 59, 60, 61, 62, 63, 64, 65, 66, 67, 68, 69, 70, 71, 72, 73, 74, 75, 76, 77, 78, 79, 80, 81, 82, 83, 84, 85, 86, 87, 88, 89, 90, 91, 92, 93, 94, 95, 96, 97, 98, 99, 100, 164, 165, 166, 167, 168, 169, 170, 171, 172, 173, 174, 175, 176, 177, 178, 179, 180, 181, 182, 183, 184, 185, 186, 187, 188, 189, 190] (by decide +kernel) (by decide +kernel)
set_option maxRecDepth 20000 in
theorem gX7_makePlan_X7_think : GoodIn wsX7_makePlan (wsV RX7 242 RX7 yX7_think wsX7_think) := goodIn_app (goodIn_of _ (by decide +kernel)) ggX7_makePlan_X7_think
set_option maxRecDepth 20000 in
theorem ggX7_makePlan_X0_search : GoodIn wsX7_makePlan wsX0_search := goodIn_r _ [105, 106, 107, 108, 109, 110, 111, 112, 113, 47, 13, 48, 49, 22, 23, 28, 35, 6, 36, 114, 115, 116, 117, 118, 119, 120, 121, 104, 122, 123, 124, 125, 126, 127, 128, 129, 130, 131, 132, 133, 134, 135, 136, 137, 138, 67, 64, 68, 139, 140, 141, 142, 143, 144, 145, 146, 147, 148, 149, 150, 151, 152, 153, 154, 155, 156, 157, 158, 159, 160, 161, 162, 163, 191, 192, 193, 194, 195, 196, 197, 198, 199, 200, 174, 175, 176, 177, 178, 179, 180, 181, 182, 183, 184, 185, 186, 187, 188, 189, 190, 201, 202, 203] (by decide +kernel) (by decide +kernel)
set_option maxRecDepth 20000 in
theorem gX7_makePlan_X0_search : GoodIn wsX7_makePlan (wsV RX7 270 RX0 yX0_search wsX0_search) := goodIn_app (goodIn_of _ (by decide +kernel)) ggX7_makePlan_X0_search
theorem dX7_makePlan_0 : decode cX7_makePlan 0 = .ok (.aload_n 0, 1) := by decide +kernel
theorem dX7_makePlan_1 : decode cX7_makePlan 1 = .ok (.getfield 65, 3) := by decide +kernel
theorem dX7_makePlan_4 : decode cX7_makePlan 4 = .ok (.ifCond .ne 19, 3) := by decide +kernel
theorem dX7_makePlan_7 : decode cX7_makePlan 7 = .ok (.aload_n 0, 1) := by decide +kernel
theorem dX7_makePlan_8 : decode cX7_makePlan 8 = .ok (.invokevirtual 242, 3) := by decide +kernel
theorem dX7_makePlan_11 : decode cX7_makePlan 11 = .ok (.aload_n 0, 1) := by decide +kernel
theorem dX7_makePlan_12 : decode cX7_makePlan 12 = .ok (.getfield 30, 3) := by decide +kernel
theorem dX7_makePlan_15 : decode cX7_makePlan 15 = .ok (.invokevirtual 270, 3) := by decide +kernel
theorem dX7_makePlan_18 : decode cX7_makePlan 18 = .ok (.aload_n 0, 1) := by decide +kernel
theorem dX7_makePlan_19 : decode cX7_makePlan 19 = .ok (.iconst 1, 1) := by decide +kernel
theorem dX7_makePlan_20 : decode cX7_makePlan 20 = .ok (.putfield 65, 3) := by decide +kernel
theorem dX7_makePlan_23 : decode cX7_makePlan 23 = .ok (.return_, 1) := by decide +kernel
set_option maxRecDepth 20000 in
theorem ggX7_number_X5_countGiven : GoodIn wsX7_number wsX5_countGiven := goodIn_r _ [10, 11, 12, 13, 14, 15, 16, 17, 18, 19, 140, 141, 142, 143, 144, 145, 146, 147] (by decide +kernel) (by decide +kernel)
set_option maxRecDepth 20000 in
theorem gX7_number_X5_countGiven : GoodIn wsX7_number (wsV RX7 121 RX5 yX5_countGiven wsX5_countGiven) := goodIn_app (goodIn_of _ (by decide +kernel)) ggX7_number_X5_countGiven
set_option maxRecDepth 20000 in
theorem ggX7_number_X5_countPairs : GoodIn wsX7_number wsX5_countPairs := goodIn_r _ [23, 11, 24, 140, 141, 142, 143, 144, 145, 146, 147] (by decide +kernel) (by decide +kernel)
set_option maxRecDepth 20000 in
theorem gX7_number_X5_countPairs : GoodIn wsX7_number (wsV RX7 199 RX5 yX5_countPairs wsX5_countPairs) := goodIn_app (goodIn_of _ (by decide +kernel)) ggX7_number_X5_countPairs
set_option maxRecDepth 20000 in
theorem ggX7_number_X7_think : GoodIn wsX7_number wsX7_think := goodIn_r _ [29, 30, 4, 31, 32, 33, 34, 35, 36, 37, 38, 39, 40, 41, 42, 43, 44, 45, 46, 47, 48, 49, 50, 51, 52, 53, 54, 55, 56, 28, 57, 58, 59, 60, 61, 62, 63, 64, 65, 66, 67, 68, 69, 70, 71, 72, 73, 74, 75, 76, 77, 78, 79, 80, 81, 82, 83, 84, 85, 86, 87, 88, 89, 90, 91, 92, 93, 94, 95, 96, 97, 98, 99, 100, 101, 102, 103, 104, 105, 106, 107, 108, 109, 110, 111, 112, 113, 114, 115, 116, 117, 118, 119, 120, 121, 130, 131, 132, 133, 134, 135, 136, 137, 138, 139, 148, 149, 150, 151, 152, 153, 154, 155, 156, 140, 141, 142, 143, 144, 145, 146, 147] (by decide +kernel) (by decide +kernel)
set_option maxRecDepth 20000 in
theorem gX7_number_X7_think : GoodIn wsX7_number (wsV RX7 242 RX7 yX7_think wsX7_think) := goodIn_app (goodIn_of _ (by decide +kernel)) ggX7_number_X7_think
set_option maxRecDepth 20000 in
theorem ggX7_number_X6_countOpenPairs : GoodIn wsX7_number wsX6_countOpenPairs := goodIn_r _ [125, 43, 44, 51, 126, 127, 128, 34, 129, 49, 56, 28, 57, 148, 149, 150, 151, 152, 153, 154, 155, 156, 140, 141, 142, 143, 144, 145, 146, 147] (by decide +kernel) (by decide +kernel)
set_option maxRecDepth 20000 in
theorem gX7_number_X6_countOpenPairs : GoodIn wsX7_number (wsV RX7 202 RX6 yX6_countOpenPairs wsX6_countOpenPairs) := goodIn_app (goodIn_of _ (by decide +kernel)) ggX7_number_X6_countOpenPairs
theorem dX7_number_0 : decode cX7_number 0 = .ok (.iload_n 1, 1) := by decide +kernel
theorem dX7_number_1 : decode cX7_number 1 = .ok (.tableswitch 63 0 3 #[31, 39, 47, 55], 31) := by decide +kernel
theorem dX7_number_32 : decode cX7_number 32 = .ok (.aload_n 0, 1) := by decide +kernel
theorem dX7_number_33 : decode cX7_number 33 = .ok (.getfield 12, 3) := by decide +kernel
theorem dX7_number_36 : decode cX7_number 36 = .ok (.getfield 273, 3) := by decide +kernel
theorem dX7_number_39 : decode cX7_number 39 = .ok (.ireturn, 1) := by decide +kernel
theorem dX7_number_40 : decode cX7_number 40 = .ok (.aload_n 0, 1) := by decide +kernel
theorem dX7_number_41 : decode cX7_number 41 = .ok (.getfield 12, 3) := by decide +kernel
theorem dX7_number_44 : decode cX7_number 44 = .ok (.getfield 75, 3) := by decide +kernel
theorem dX7_number_47 : decode cX7_number 47 = .ok (.ireturn, 1) := by decide +kernel
theorem dX7_number_48 : decode cX7_number 48 = .ok (.aload_n 0, 1) := by decide +kernel
theorem dX7_number_49 : decode cX7_number 49 = .ok (.getfield 12, 3) := by decide +kernel
theorem dX7_number_52 : decode cX7_number 52 = .ok (.invokevirtual 121, 3) := by decide +kernel
theorem dX7_number_55 : decode cX7_number 55 = .ok (.ireturn, 1) := by decide +kernel
theorem dX7_number_56 : decode cX7_number 56 = .ok (.aload_n 0, 1) := by decide +kernel
theorem dX7_number_57 : decode cX7_number 57 = .ok (.getfield 12, 3) := by decide +kernel
theorem dX7_number_60 : decode cX7_number 60 = .ok (.invokevirtual 199, 3) := by decide +kernel
theorem dX7_number_63 : decode cX7_number 63 = .ok (.ireturn, 1) := by decide +kernel
theorem dX7_number_64 : decode cX7_number 64 = .ok (.aload_n 0, 1) := by decide +kernel
theorem dX7_number_65 : decode cX7_number 65 = .ok (.invokevirtual 242, 3) := by decide +kernel
theorem dX7_number_68 : decode cX7_number 68 = .ok (.iload_n 1, 1) := by decide +kernel
theorem dX7_number_69 : decode cX7_number 69 = .ok (.iconst 4, 1) := by decide +kernel
theorem dX7_number_70 : decode cX7_number 70 = .ok (.if_icmp .ne 19, 3) := by decide +kernel
theorem dX7_number_73 : decode cX7_number 73 = .ok (.aload_n 0, 1) := by decide +kernel
theorem dX7_number_74 : decode cX7_number 74 = .ok (.getfield 21, 3) := by decide +kernel
theorem dX7_number_77 : decode cX7_number 77 = .ok (.getfield 196, 3) := by decide +kernel
theorem dX7_number_80 : decode cX7_number 80 = .ok (.ifCond .eq 7, 3) := by decide +kernel
theorem dX7_number_83 : decode cX7_number 83 = .ok (.iconst 1, 1) := by decide +kernel
theorem dX7_number_84 : decode cX7_number 84 = .ok (.goto 4, 3) := by decide +kernel
theorem dX7_number_87 : decode cX7_number 87 = .ok (.iconst 0, 1) := by decide +kernel
theorem dX7_number_88 : decode cX7_number 88 = .ok (.ireturn, 1) := by decide +kernel
theorem dX7_number_89 : decode cX7_number 89 = .ok (.aload_n 0, 1) := by decide +kernel
theorem dX7_number_90 : decode cX7_number 90 = .ok (.getfield 21, 3) := by decide +kernel
theorem dX7_number_93 : decode cX7_number 93 = .ok (.getfield 196, 3) := by decide +kernel
theorem dX7_number_96 : decode cX7_number 96 = .ok (.ifCond .eq 7, 3) := by decide +kernel
theorem dX7_number_99 : decode cX7_number 99 = .ok (.iconst (-1), 1) := by decide +kernel
theorem dX7_number_100 : decode cX7_number 100 = .ok (.goto 10, 3) := by decide +kernel
theorem dX7_number_103 : decode cX7_number 103 = .ok (.aload_n 0, 1) := by decide +kernel
theorem dX7_number_104 : decode cX7_number 104 = .ok (.getfield 21, 3) := by decide +kernel
theorem dX7_number_107 : decode cX7_number 107 = .ok (.invokevirtual 202, 3) := by decide +kernel
theorem dX7_number_110 : decode cX7_number 110 = .ok (.ireturn, 1) := by decide +kernel
set_option maxRecDepth 20000 in
theorem ggX7_standsWithDue_X5_copyFrom : GoodIn wsX7_standsWithDue wsX5_copyFrom := goodIn_r _ [10, 11, 12, 13, 14, 15, 16, 17, 18, 121, 122, 123, 124, 125, 126, 127, 128] (by decide +kernel) (by decide +kernel)
set_option maxRecDepth 20000 in
theorem gX7_standsWithDue_X5_copyFrom : GoodIn wsX7_standsWithDue (wsV RX7 190 RX5 yX5_copyFrom wsX5_copyFrom) := goodIn_app (goodIn_of _ (by decide +kernel)) ggX7_standsWithDue_X5_copyFrom
set_option maxRecDepth 20000 in
theorem ggX7_standsWithDue_X6_run : GoodIn wsX7_standsWithDue wsX6_run := goodIn_r _ [23, 24, 25, 26, 27, 28, 22, 29, 30, 31, 32, 33, 34, 35, 36, 37, 38, 39, 40, 41, 42, 43, 44, 45, 46, 47, 48, 49, 50, 51, 52, 53, 54, 55, 56, 57, 58, 59, 60, 61, 62, 63, 64, 65, 66, 67, 68, 69, 70, 71, 72, 73, 74, 75, 76, 77, 78, 79, 80, 81, 82, 83, 84, 85, 86, 87, 88, 89, 90, 91, 92, 93, 94, 95, 96, 97, 98, 99, 100, 101, 102, 103, 104, 105, 106, 107, 108, 109, 110, 129, 130, 131, 132, 133, 134, 135, 136, 137, 121, 122, 123, 124, 125, 126, 127, 128] (by decide +kernel) (by decide +kernel)
set_option maxRecDepth 20000 in
theorem gX7_standsWithDue_X6_run : GoodIn wsX7_standsWithDue (wsV RX7 193 RX6 yX6_run wsX6_run) := goodIn_app (goodIn_of _ (by decide +kernel)) ggX7_standsWithDue_X6_run
theorem dX7_standsWithDue_0 : decode cX7_standsWithDue 0 = .ok (.aload_n 0, 1) := by decide +kernel
theorem dX7_standsWithDue_1 : decode cX7_standsWithDue 1 = .ok (.getfield 41, 3) := by decide +kernel
theorem dX7_standsWithDue_4 : decode cX7_standsWithDue 4 = .ok (.aload_n 0, 1) := by decide +kernel
theorem dX7_standsWithDue_5 : decode cX7_standsWithDue 5 = .ok (.getfield 12, 3) := by decide +kernel
theorem dX7_standsWithDue_8 : decode cX7_standsWithDue 8 = .ok (.invokevirtual 190, 3) := by decide +kernel
theorem dX7_standsWithDue_11 : decode cX7_standsWithDue 11 = .ok (.aload_n 0, 1) := by decide +kernel
theorem dX7_standsWithDue_12 : decode cX7_standsWithDue 12 = .ok (.getfield 41, 3) := by decide +kernel
theorem dX7_standsWithDue_15 : decode cX7_standsWithDue 15 = .ok (.getfield 106, 3) := by decide +kernel
theorem dX7_standsWithDue_18 : decode cX7_standsWithDue 18 = .ok (.iload_n 1, 1) := by decide +kernel
theorem dX7_standsWithDue_19 : decode cX7_standsWithDue 19 = .ok (.iload_n 2, 1) := by decide +kernel
theorem dX7_standsWithDue_20 : decode cX7_standsWithDue 20 = .ok (.iastore, 1) := by decide +kernel
theorem dX7_standsWithDue_21 : decode cX7_standsWithDue 21 = .ok (.aload_n 0, 1) := by decide +kernel
theorem dX7_standsWithDue_22 : decode cX7_standsWithDue 22 = .ok (.getfield 44, 3) := by decide +kernel
theorem dX7_standsWithDue_25 : decode cX7_standsWithDue 25 = .ok (.invokevirtual 193, 3) := by decide +kernel
theorem dX7_standsWithDue_28 : decode cX7_standsWithDue 28 = .ok (.aload_n 0, 1) := by decide +kernel
theorem dX7_standsWithDue_29 : decode cX7_standsWithDue 29 = .ok (.getfield 44, 3) := by decide +kernel
theorem dX7_standsWithDue_32 : decode cX7_standsWithDue 32 = .ok (.getfield 196, 3) := by decide +kernel
theorem dX7_standsWithDue_35 : decode cX7_standsWithDue 35 = .ok (.ifCond .ne 7, 3) := by decide +kernel
theorem dX7_standsWithDue_38 : decode cX7_standsWithDue 38 = .ok (.iconst 1, 1) := by decide +kernel
theorem dX7_standsWithDue_39 : decode cX7_standsWithDue 39 = .ok (.goto 4, 3) := by decide +kernel
theorem dX7_standsWithDue_42 : decode cX7_standsWithDue 42 = .ok (.iconst 0, 1) := by decide +kernel
theorem dX7_standsWithDue_43 : decode cX7_standsWithDue 43 = .ok (.ireturn, 1) := by decide +kernel
set_option maxRecDepth 20000 in
theorem ggX7_standsWithin_X5_copyFrom : GoodIn wsX7_standsWithin wsX5_copyFrom := goodIn_r _ [15, 16, 17, 18, 19, 20, 21, 22, 23, 123, 124, 125, 126, 127, 128, 129, 130] (by decide +kernel) (by decide +kernel)
set_option maxRecDepth 20000 in
theorem gX7_standsWithin_X5_copyFrom : GoodIn wsX7_standsWithin (wsV RX7 190 RX5 yX5_copyFrom wsX5_copyFrom) := goodIn_app (goodIn_of _ (by decide +kernel)) ggX7_standsWithin_X5_copyFrom
set_option maxRecDepth 20000 in
theorem ggX7_standsWithin_X6_run : GoodIn wsX7_standsWithin wsX6_run := goodIn_r _ [28, 29, 30, 31, 32, 33, 27, 34, 35, 36, 37, 38, 39, 40, 41, 42, 43, 44, 45, 46, 47, 48, 49, 50, 51, 52, 53, 54, 55, 56, 57, 58, 59, 60, 61, 62, 63, 64, 65, 66, 67, 68, 69, 70, 71, 72, 73, 74, 75, 76, 77, 6, 7, 8, 78, 79, 80, 81, 82, 83, 84, 85, 86, 87, 88, 89, 90, 91, 92, 93, 94, 95, 96, 97, 98, 99, 100, 101, 102, 103, 104, 105, 106, 107, 108, 109, 110, 111, 112, 131, 132, 133, 134, 135, 136, 137, 138, 139, 123, 124, 125, 126, 127, 128, 129, 130] (by decide +kernel) (by decide +kernel)
set_option maxRecDepth 20000 in
theorem gX7_standsWithin_X6_run : GoodIn wsX7_standsWithin (wsV RX7 193 RX6 yX6_run wsX6_run) := goodIn_app (goodIn_of _ (by decide +kernel)) ggX7_standsWithin_X6_run
theorem dX7_standsWithin_0 : decode cX7_standsWithin 0 = .ok (.aload_n 0, 1) := by decide +kernel
theorem dX7_standsWithin_1 : decode cX7_standsWithin 1 = .ok (.getfield 41, 3) := by decide +kernel
theorem dX7_standsWithin_4 : decode cX7_standsWithin 4 = .ok (.aload_n 0, 1) := by decide +kernel
theorem dX7_standsWithin_5 : decode cX7_standsWithin 5 = .ok (.getfield 12, 3) := by decide +kernel
theorem dX7_standsWithin_8 : decode cX7_standsWithin 8 = .ok (.invokevirtual 190, 3) := by decide +kernel
theorem dX7_standsWithin_11 : decode cX7_standsWithin 11 = .ok (.iconst 0, 1) := by decide +kernel
theorem dX7_standsWithin_12 : decode cX7_standsWithin 12 = .ok (.istore_n 2, 1) := by decide +kernel
theorem dX7_standsWithin_13 : decode cX7_standsWithin 13 = .ok (.iload_n 2, 1) := by decide +kernel
theorem dX7_standsWithin_14 : decode cX7_standsWithin 14 = .ok (.aload_n 0, 1) := by decide +kernel
theorem dX7_standsWithin_15 : decode cX7_standsWithin 15 = .ok (.getfield 41, 3) := by decide +kernel
theorem dX7_standsWithin_18 : decode cX7_standsWithin 18 = .ok (.getfield 75, 3) := by decide +kernel
theorem dX7_standsWithin_21 : decode cX7_standsWithin 21 = .ok (.if_icmp .ge 31, 3) := by decide +kernel
theorem dX7_standsWithin_24 : decode cX7_standsWithin 24 = .ok (.aload_n 0, 1) := by decide +kernel
theorem dX7_standsWithin_25 : decode cX7_standsWithin 25 = .ok (.getfield 41, 3) := by decide +kernel
theorem dX7_standsWithin_28 : decode cX7_standsWithin 28 = .ok (.getfield 106, 3) := by decide +kernel
theorem dX7_standsWithin_31 : decode cX7_standsWithin 31 = .ok (.iload_n 2, 1) := by decide +kernel
theorem dX7_standsWithin_32 : decode cX7_standsWithin 32 = .ok (.aload_n 0, 1) := by decide +kernel
theorem dX7_standsWithin_33 : decode cX7_standsWithin 33 = .ok (.getfield 41, 3) := by decide +kernel
theorem dX7_standsWithin_36 : decode cX7_standsWithin 36 = .ok (.getfield 106, 3) := by decide +kernel
theorem dX7_standsWithin_39 : decode cX7_standsWithin 39 = .ok (.iload_n 2, 1) := by decide +kernel
theorem dX7_standsWithin_40 : decode cX7_standsWithin 40 = .ok (.iaload, 1) := by decide +kernel
theorem dX7_standsWithin_41 : decode cX7_standsWithin 41 = .ok (.iload_n 1, 1) := by decide +kernel
theorem dX7_standsWithin_42 : decode cX7_standsWithin 42 = .ok (.invokestatic 276, 3) := by decide +kernel
theorem dX7_standsWithin_45 : decode cX7_standsWithin 45 = .ok (.iastore, 1) := by decide +kernel
theorem dX7_standsWithin_46 : decode cX7_standsWithin 46 = .ok (.iinc 2 1, 3) := by decide +kernel
theorem dX7_standsWithin_49 : decode cX7_standsWithin 49 = .ok (.goto (-36), 3) := by decide +kernel
theorem dX7_standsWithin_52 : decode cX7_standsWithin 52 = .ok (.aload_n 0, 1) := by decide +kernel
theorem dX7_standsWithin_53 : decode cX7_standsWithin 53 = .ok (.getfield 44, 3) := by decide +kernel
theorem dX7_standsWithin_56 : decode cX7_standsWithin 56 = .ok (.invokevirtual 193, 3) := by decide +kernel
theorem dX7_standsWithin_59 : decode cX7_standsWithin 59 = .ok (.aload_n 0, 1) := by decide +kernel
theorem dX7_standsWithin_60 : decode cX7_standsWithin 60 = .ok (.getfield 44, 3) := by decide +kernel
theorem dX7_standsWithin_63 : decode cX7_standsWithin 63 = .ok (.getfield 196, 3) := by decide +kernel
theorem dX7_standsWithin_66 : decode cX7_standsWithin 66 = .ok (.ifCond .ne 7, 3) := by decide +kernel
theorem dX7_standsWithin_69 : decode cX7_standsWithin 69 = .ok (.iconst 1, 1) := by decide +kernel
theorem dX7_standsWithin_70 : decode cX7_standsWithin 70 = .ok (.goto 4, 3) := by decide +kernel
theorem dX7_standsWithin_73 : decode cX7_standsWithin 73 = .ok (.iconst 0, 1) := by decide +kernel
theorem dX7_standsWithin_74 : decode cX7_standsWithin 74 = .ok (.ireturn, 1) := by decide +kernel
set_option maxRecDepth 20000 in
theorem ggX7_follow_X5_faultOfAdding : GoodIn wsX7_follow wsX5_faultOfAdding := goodIn_r _ [14, 15, 16, 17, 18, 19, 13, 20, 75, 76, 77, 78, 79, 80, 81, 82] (by decide +kernel) (by decide +kernel)
set_option maxRecDepth 20000 in
theorem gX7_follow_X5_faultOfAdding : GoodIn wsX7_follow (wsV RX7 86 RX5 yX5_faultOfAdding wsX5_faultOfAdding) := goodIn_app (goodIn_of _ (by decide +kernel)) ggX7_follow_X5_faultOfAdding
set_option maxRecDepth 20000 in
theorem ggX7_follow_X5_add : GoodIn wsX7_follow wsX5_add := goodIn_r _ [24, 16, 25, 26, 27, 28, 29, 30, 75, 76, 77, 78, 79, 80, 81, 82] (by decide +kernel) (by decide +kernel)
set_option maxRecDepth 20000 in
theorem gX7_follow_X5_add : GoodIn wsX7_follow (wsV RX7 93 RX5 yX5_add wsX5_add) := goodIn_app (goodIn_of _ (by decide +kernel)) ggX7_follow_X5_add
set_option maxRecDepth 20000 in
theorem ggX7_follow_X5_faultOfGiving : GoodIn wsX7_follow wsX5_faultOfGiving := goodIn_r _ [34, 35, 36, 37, 13, 38, 16, 39, 40, 41, 42, 30, 43, 44, 45, 46, 47, 48, 49, 75, 76, 77, 78, 79, 80, 81, 82] (by decide +kernel) (by decide +kernel)
set_option maxRecDepth 20000 in
theorem gX7_follow_X5_faultOfGiving : GoodIn wsX7_follow (wsV RX7 113 RX5 yX5_faultOfGiving wsX5_faultOfGiving) := goodIn_app (goodIn_of _ (by decide +kernel)) ggX7_follow_X5_faultOfGiving
set_option maxRecDepth 20000 in
theorem ggX7_follow_X5_setGiven : GoodIn wsX7_follow wsX5_setGiven := goodIn_r _ [53, 30, 29, 75, 76, 77, 78, 79, 80, 81, 82] (by decide +kernel) (by decide +kernel)
set_option maxRecDepth 20000 in
theorem gX7_follow_X5_setGiven : GoodIn wsX7_follow (wsV RX7 117 RX5 yX5_setGiven wsX5_setGiven) := goodIn_app (goodIn_of _ (by decide +kernel)) ggX7_follow_X5_setGiven
theorem dX7_follow_0 : decode cX7_follow 0 = .ok (.aload_n 0, 1) := by decide +kernel
theorem dX7_follow_1 : decode cX7_follow 1 = .ok (.getfield 57, 3) := by decide +kernel
theorem dX7_follow_4 : decode cX7_follow 4 = .ok (.getfield 281, 3) := by decide +kernel
theorem dX7_follow_7 : decode cX7_follow 7 = .ok (.bipush 116, 2) := by decide +kernel
theorem dX7_follow_9 : decode cX7_follow 9 = .ok (.if_icmp .ne 80, 3) := by decide +kernel
theorem dX7_follow_12 : decode cX7_follow 12 = .ok (.aload_n 0, 1) := by decide +kernel
theorem dX7_follow_13 : decode cX7_follow 13 = .ok (.getfield 12, 3) := by decide +kernel
theorem dX7_follow_16 : decode cX7_follow 16 = .ok (.aload_n 0, 1) := by decide +kernel
theorem dX7_follow_17 : decode cX7_follow 17 = .ok (.getfield 57, 3) := by decide +kernel
theorem dX7_follow_20 : decode cX7_follow 20 = .ok (.getfield 284, 3) := by decide +kernel
theorem dX7_follow_23 : decode cX7_follow 23 = .ok (.aload_n 0, 1) := by decide +kernel
theorem dX7_follow_24 : decode cX7_follow 24 = .ok (.getfield 57, 3) := by decide +kernel
theorem dX7_follow_27 : decode cX7_follow 27 = .ok (.getfield 287, 3) := by decide +kernel
theorem dX7_follow_30 : decode cX7_follow 30 = .ok (.aload_n 0, 1) := by decide +kernel
theorem dX7_follow_31 : decode cX7_follow 31 = .ok (.getfield 57, 3) := by decide +kernel
theorem dX7_follow_34 : decode cX7_follow 34 = .ok (.getfield 289, 3) := by decide +kernel
theorem dX7_follow_37 : decode cX7_follow 37 = .ok (.aload_n 0, 1) := by decide +kernel
theorem dX7_follow_38 : decode cX7_follow 38 = .ok (.getfield 57, 3) := by decide +kernel
theorem dX7_follow_41 : decode cX7_follow 41 = .ok (.getfield 291, 3) := by decide +kernel
theorem dX7_follow_44 : decode cX7_follow 44 = .ok (.invokevirtual 86, 3) := by decide +kernel
theorem dX7_follow_47 : decode cX7_follow 47 = .ok (.ifCond .eq 5, 3) := by decide +kernel
theorem dX7_follow_50 : decode cX7_follow 50 = .ok (.iconst 0, 1) := by decide +kernel
theorem dX7_follow_51 : decode cX7_follow 51 = .ok (.ireturn, 1) := by decide +kernel
theorem dX7_follow_52 : decode cX7_follow 52 = .ok (.aload_n 0, 1) := by decide +kernel
theorem dX7_follow_53 : decode cX7_follow 53 = .ok (.getfield 12, 3) := by decide +kernel
theorem dX7_follow_56 : decode cX7_follow 56 = .ok (.aload_n 0, 1) := by decide +kernel
theorem dX7_follow_57 : decode cX7_follow 57 = .ok (.getfield 57, 3) := by decide +kernel
theorem dX7_follow_60 : decode cX7_follow 60 = .ok (.getfield 284, 3) := by decide +kernel
theorem dX7_follow_63 : decode cX7_follow 63 = .ok (.aload_n 0, 1) := by decide +kernel
theorem dX7_follow_64 : decode cX7_follow 64 = .ok (.getfield 57, 3) := by decide +kernel
theorem dX7_follow_67 : decode cX7_follow 67 = .ok (.getfield 287, 3) := by decide +kernel
theorem dX7_follow_70 : decode cX7_follow 70 = .ok (.aload_n 0, 1) := by decide +kernel
theorem dX7_follow_71 : decode cX7_follow 71 = .ok (.getfield 57, 3) := by decide +kernel
theorem dX7_follow_74 : decode cX7_follow 74 = .ok (.getfield 289, 3) := by decide +kernel
theorem dX7_follow_77 : decode cX7_follow 77 = .ok (.aload_n 0, 1) := by decide +kernel
theorem dX7_follow_78 : decode cX7_follow 78 = .ok (.getfield 57, 3) := by decide +kernel
theorem dX7_follow_81 : decode cX7_follow 81 = .ok (.getfield 291, 3) := by decide +kernel
theorem dX7_follow_84 : decode cX7_follow 84 = .ok (.invokevirtual 93, 3) := by decide +kernel
theorem dX7_follow_87 : decode cX7_follow 87 = .ok (.iconst 1, 1) := by decide +kernel
theorem dX7_follow_88 : decode cX7_follow 88 = .ok (.ireturn, 1) := by decide +kernel
theorem dX7_follow_89 : decode cX7_follow 89 = .ok (.aload_n 0, 1) := by decide +kernel
theorem dX7_follow_90 : decode cX7_follow 90 = .ok (.getfield 57, 3) := by decide +kernel
theorem dX7_follow_93 : decode cX7_follow 93 = .ok (.getfield 281, 3) := by decide +kernel
