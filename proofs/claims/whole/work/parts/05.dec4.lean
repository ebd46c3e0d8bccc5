theorem dX8_leastDue_35 : decode cX8_leastDue 35 = .ok (.iconst 1, 1) := by decide +kernel
theorem dX8_leastDue_36 : decode cX8_leastDue 36 = .ok (.istore 4, 2) := by decide +kernel
theorem dX8_leastDue_38 : decode cX8_leastDue 38 = .ok (.iload 4, 2) := by decide +kernel
theorem dX8_leastDue_40 : decode cX8_leastDue 40 = .ok (.sipush 400, 3) := by decide +kernel
theorem dX8_leastDue_43 : decode cX8_leastDue 43 = .ok (.if_icmp .gt 36, 3) := by decide +kernel
theorem dX8_leastDue_46 : decode cX8_leastDue 46 = .ok (.iload_n 3, 1) := by decide +kernel
theorem dX8_leastDue_47 : decode cX8_leastDue 47 = .ok (.iconst (-1), 1) := by decide +kernel
theorem dX8_leastDue_48 : decode cX8_leastDue 48 = .ok (.if_icmp .ne 31, 3) := by decide +kernel
theorem dX8_leastDue_51 : decode cX8_leastDue 51 = .ok (.aload_n 0, 1) := by decide +kernel
theorem dX8_leastDue_52 : decode cX8_leastDue 52 = .ok (.getfield 20, 3) := by decide +kernel
theorem dX8_leastDue_55 : decode cX8_leastDue 55 = .ok (.iload_n 1, 1) := by decide +kernel
theorem dX8_leastDue_56 : decode cX8_leastDue 56 = .ok (.iload 4, 2) := by decide +kernel
theorem dX8_leastDue_58 : decode cX8_leastDue 58 = .ok (.iastore, 1) := by decide +kernel
theorem dX8_leastDue_59 : decode cX8_leastDue 59 = .ok (.aload_n 0, 1) := by decide +kernel
theorem dX8_leastDue_60 : decode cX8_leastDue 60 = .ok (.invokevirtual 173, 3) := by decide +kernel
theorem dX8_leastDue_63 : decode cX8_leastDue 63 = .ok (.ifCond .eq 8, 3) := by decide +kernel
theorem dX8_leastDue_66 : decode cX8_leastDue 66 = .ok (.iload 4, 2) := by decide +kernel
theorem dX8_leastDue_68 : decode cX8_leastDue 68 = .ok (.goto 4, 3) := by decide +kernel
theorem dX8_leastDue_71 : decode cX8_leastDue 71 = .ok (.iconst (-1), 1) := by decide +kernel
theorem dX8_leastDue_72 : decode cX8_leastDue 72 = .ok (.istore_n 3, 1) := by decide +kernel
theorem dX8_leastDue_73 : decode cX8_leastDue 73 = .ok (.iinc 4 1, 3) := by decide +kernel
theorem dX8_leastDue_76 : decode cX8_leastDue 76 = .ok (.goto (-38), 3) := by decide +kernel
theorem dX8_leastDue_79 : decode cX8_leastDue 79 = .ok (.aload_n 0, 1) := by decide +kernel
theorem dX8_leastDue_80 : decode cX8_leastDue 80 = .ok (.getfield 20, 3) := by decide +kernel
theorem dX8_leastDue_83 : decode cX8_leastDue 83 = .ok (.iload_n 1, 1) := by decide +kernel
theorem dX8_leastDue_84 : decode cX8_leastDue 84 = .ok (.iload_n 2, 1) := by decide +kernel
theorem dX8_leastDue_85 : decode cX8_leastDue 85 = .ok (.iastore, 1) := by decide +kernel
theorem dX8_leastDue_86 : decode cX8_leastDue 86 = .ok (.iload_n 3, 1) := by decide +kernel
theorem dX8_leastDue_87 : decode cX8_leastDue 87 = .ok (.ireturn, 1) := by decide +kernel
set_option maxRecDepth 20000 in
theorem ggX8_lowerBound_X8_reason : GoodIn wsX8_lowerBound wsX8_reason := goodIn_r _ [9, 2, 10, 11, 12, 4, 13, 14, 15, 16, 17, 18, 8, 19, 20, 21, 22, 23, 24, 25, 26, 27, 28, 29, 30, 31, 32, 33, 34, 35, 36, 37, 38, 39, 40, 41, 42, 43, 44, 45, 46, 47, 48, 49, 50, 51, 52, 53, 54, 55, 56, 57, 58, 59, 60, 61, 62, 63, 64, 65, 66, 67, 68, 69, 70, 71, 72, 73, 74, 75, 76, 77, 78, 79, 80, 81, 82, 83, 84, 85, 86, 87, 88, 89, 90, 91, 92, 93, 94, 95, 96] (by decide +kernel) (by decide +kernel)
set_option maxRecDepth 20000 in
theorem gX8_lowerBound_X8_reason : GoodIn wsX8_lowerBound (wsV RX8 173 RX8 yX8_reason wsX8_reason) := goodIn_app (goodIn_of _ (by decide +kernel)) ggX8_lowerBound_X8_reason
theorem dX8_lowerBound_0 : decode cX8_lowerBound 0 = .ok (.aload_n 0, 1) := by decide +kernel
theorem dX8_lowerBound_1 : decode cX8_lowerBound 1 = .ok (.iconst 0, 1) := by decide +kernel
theorem dX8_lowerBound_2 : decode cX8_lowerBound 2 = .ok (.putfield 75, 3) := by decide +kernel
theorem dX8_lowerBound_5 : decode cX8_lowerBound 5 = .ok (.iconst 0, 1) := by decide +kernel
theorem dX8_lowerBound_6 : decode cX8_lowerBound 6 = .ok (.istore_n 1, 1) := by decide +kernel
theorem dX8_lowerBound_7 : decode cX8_lowerBound 7 = .ok (.iload_n 1, 1) := by decide +kernel
theorem dX8_lowerBound_8 : decode cX8_lowerBound 8 = .ok (.aload_n 0, 1) := by decide +kernel
theorem dX8_lowerBound_9 : decode cX8_lowerBound 9 = .ok (.getfield 78, 3) := by decide +kernel
theorem dX8_lowerBound_12 : decode cX8_lowerBound 12 = .ok (.if_icmp .ge 21, 3) := by decide +kernel
theorem dX8_lowerBound_15 : decode cX8_lowerBound 15 = .ok (.aload_n 0, 1) := by decide +kernel
theorem dX8_lowerBound_16 : decode cX8_lowerBound 16 = .ok (.getfield 69, 3) := by decide +kernel
theorem dX8_lowerBound_19 : decode cX8_lowerBound 19 = .ok (.iload_n 1, 1) := by decide +kernel
theorem dX8_lowerBound_20 : decode cX8_lowerBound 20 = .ok (.aload_n 0, 1) := by decide +kernel
theorem dX8_lowerBound_21 : decode cX8_lowerBound 21 = .ok (.getfield 20, 3) := by decide +kernel
theorem dX8_lowerBound_24 : decode cX8_lowerBound 24 = .ok (.iload_n 1, 1) := by decide +kernel
theorem dX8_lowerBound_25 : decode cX8_lowerBound 25 = .ok (.iaload, 1) := by decide +kernel
theorem dX8_lowerBound_26 : decode cX8_lowerBound 26 = .ok (.iastore, 1) := by decide +kernel
theorem dX8_lowerBound_27 : decode cX8_lowerBound 27 = .ok (.iinc 1 1, 3) := by decide +kernel
theorem dX8_lowerBound_30 : decode cX8_lowerBound 30 = .ok (.goto (-23), 3) := by decide +kernel
theorem dX8_lowerBound_33 : decode cX8_lowerBound 33 = .ok (.iconst (-1), 1) := by decide +kernel
theorem dX8_lowerBound_34 : decode cX8_lowerBound 34 = .ok (.istore_n 1, 1) := by decide +kernel
theorem dX8_lowerBound_35 : decode cX8_lowerBound 35 = .ok (.iconst 0, 1) := by decide +kernel
theorem dX8_lowerBound_36 : decode cX8_lowerBound 36 = .ok (.istore_n 2, 1) := by decide +kernel
theorem dX8_lowerBound_37 : decode cX8_lowerBound 37 = .ok (.iload_n 2, 1) := by decide +kernel
theorem dX8_lowerBound_38 : decode cX8_lowerBound 38 = .ok (.sipush 400, 3) := by decide +kernel
theorem dX8_lowerBound_41 : decode cX8_lowerBound 41 = .ok (.if_icmp .gt 69, 3) := by decide +kernel
theorem dX8_lowerBound_44 : decode cX8_lowerBound 44 = .ok (.iload_n 1, 1) := by decide +kernel
theorem dX8_lowerBound_45 : decode cX8_lowerBound 45 = .ok (.iconst (-1), 1) := by decide +kernel
theorem dX8_lowerBound_46 : decode cX8_lowerBound 46 = .ok (.if_icmp .ne 64, 3) := by decide +kernel
theorem dX8_lowerBound_49 : decode cX8_lowerBound 49 = .ok (.iconst 0, 1) := by decide +kernel
theorem dX8_lowerBound_50 : decode cX8_lowerBound 50 = .ok (.istore_n 3, 1) := by decide +kernel
theorem dX8_lowerBound_51 : decode cX8_lowerBound 51 = .ok (.iload_n 3, 1) := by decide +kernel
theorem dX8_lowerBound_52 : decode cX8_lowerBound 52 = .ok (.aload_n 0, 1) := by decide +kernel
theorem dX8_lowerBound_53 : decode cX8_lowerBound 53 = .ok (.getfield 78, 3) := by decide +kernel
theorem dX8_lowerBound_56 : decode cX8_lowerBound 56 = .ok (.if_icmp .ge 35, 3) := by decide +kernel
theorem dX8_lowerBound_59 : decode cX8_lowerBound 59 = .ok (.aload_n 0, 1) := by decide +kernel
theorem dX8_lowerBound_60 : decode cX8_lowerBound 60 = .ok (.getfield 20, 3) := by decide +kernel
theorem dX8_lowerBound_63 : decode cX8_lowerBound 63 = .ok (.iload_n 3, 1) := by decide +kernel
theorem dX8_lowerBound_64 : decode cX8_lowerBound 64 = .ok (.aload_n 0, 1) := by decide +kernel
theorem dX8_lowerBound_65 : decode cX8_lowerBound 65 = .ok (.getfield 69, 3) := by decide +kernel
theorem dX8_lowerBound_68 : decode cX8_lowerBound 68 = .ok (.iload_n 3, 1) := by decide +kernel
theorem dX8_lowerBound_69 : decode cX8_lowerBound 69 = .ok (.iaload, 1) := by decide +kernel
theorem dX8_lowerBound_70 : decode cX8_lowerBound 70 = .ok (.iload_n 2, 1) := by decide +kernel
theorem dX8_lowerBound_71 : decode cX8_lowerBound 71 = .ok (.if_icmp .le 7, 3) := by decide +kernel
theorem dX8_lowerBound_74 : decode cX8_lowerBound 74 = .ok (.iload_n 2, 1) := by decide +kernel
theorem dX8_lowerBound_75 : decode cX8_lowerBound 75 = .ok (.goto 9, 3) := by decide +kernel
theorem dX8_lowerBound_78 : decode cX8_lowerBound 78 = .ok (.aload_n 0, 1) := by decide +kernel
theorem dX8_lowerBound_79 : decode cX8_lowerBound 79 = .ok (.getfield 69, 3) := by decide +kernel
theorem dX8_lowerBound_82 : decode cX8_lowerBound 82 = .ok (.iload_n 3, 1) := by decide +kernel
theorem dX8_lowerBound_83 : decode cX8_lowerBound 83 = .ok (.iaload, 1) := by decide +kernel
theorem dX8_lowerBound_84 : decode cX8_lowerBound 84 = .ok (.iastore, 1) := by decide +kernel
theorem dX8_lowerBound_85 : decode cX8_lowerBound 85 = .ok (.iinc 3 1, 3) := by decide +kernel
theorem dX8_lowerBound_88 : decode cX8_lowerBound 88 = .ok (.goto (-37), 3) := by decide +kernel
theorem dX8_lowerBound_91 : decode cX8_lowerBound 91 = .ok (.aload_n 0, 1) := by decide +kernel
theorem dX8_lowerBound_92 : decode cX8_lowerBound 92 = .ok (.invokevirtual 173, 3) := by decide +kernel
theorem dX8_lowerBound_95 : decode cX8_lowerBound 95 = .ok (.ifCond .eq 7, 3) := by decide +kernel
theorem dX8_lowerBound_98 : decode cX8_lowerBound 98 = .ok (.iload_n 2, 1) := by decide +kernel
theorem dX8_lowerBound_99 : decode cX8_lowerBound 99 = .ok (.goto 4, 3) := by decide +kernel
theorem dX8_lowerBound_102 : decode cX8_lowerBound 102 = .ok (.iconst (-1), 1) := by decide +kernel
theorem dX8_lowerBound_103 : decode cX8_lowerBound 103 = .ok (.istore_n 1, 1) := by decide +kernel
theorem dX8_lowerBound_104 : decode cX8_lowerBound 104 = .ok (.iinc 2 1, 3) := by decide +kernel
theorem dX8_lowerBound_107 : decode cX8_lowerBound 107 = .ok (.goto (-70), 3) := by decide +kernel
theorem dX8_lowerBound_110 : decode cX8_lowerBound 110 = .ok (.iconst 0, 1) := by decide +kernel
theorem dX8_lowerBound_111 : decode cX8_lowerBound 111 = .ok (.istore_n 2, 1) := by decide +kernel
theorem dX8_lowerBound_112 : decode cX8_lowerBound 112 = .ok (.iload_n 2, 1) := by decide +kernel
theorem dX8_lowerBound_113 : decode cX8_lowerBound 113 = .ok (.aload_n 0, 1) := by decide +kernel
theorem dX8_lowerBound_114 : decode cX8_lowerBound 114 = .ok (.getfield 78, 3) := by decide +kernel
theorem dX8_lowerBound_117 : decode cX8_lowerBound 117 = .ok (.if_icmp .ge 21, 3) := by decide +kernel
theorem dX8_lowerBound_120 : decode cX8_lowerBound 120 = .ok (.aload_n 0, 1) := by decide +kernel
theorem dX8_lowerBound_121 : decode cX8_lowerBound 121 = .ok (.getfield 20, 3) := by decide +kernel
theorem dX8_lowerBound_124 : decode cX8_lowerBound 124 = .ok (.iload_n 2, 1) := by decide +kernel
theorem dX8_lowerBound_125 : decode cX8_lowerBound 125 = .ok (.aload_n 0, 1) := by decide +kernel
theorem dX8_lowerBound_126 : decode cX8_lowerBound 126 = .ok (.getfield 69, 3) := by decide +kernel
theorem dX8_lowerBound_129 : decode cX8_lowerBound 129 = .ok (.iload_n 2, 1) := by decide +kernel
theorem dX8_lowerBound_130 : decode cX8_lowerBound 130 = .ok (.iaload, 1) := by decide +kernel
theorem dX8_lowerBound_131 : decode cX8_lowerBound 131 = .ok (.iastore, 1) := by decide +kernel
theorem dX8_lowerBound_132 : decode cX8_lowerBound 132 = .ok (.iinc 2 1, 3) := by decide +kernel
theorem dX8_lowerBound_135 : decode cX8_lowerBound 135 = .ok (.goto (-23), 3) := by decide +kernel
theorem dX8_lowerBound_138 : decode cX8_lowerBound 138 = .ok (.iload_n 1, 1) := by decide +kernel
theorem dX8_lowerBound_139 : decode cX8_lowerBound 139 = .ok (.ireturn, 1) := by decide +kernel
set_option maxRecDepth 20000 in
theorem ggX8_refutes_X8_isTask : GoodIn wsX8_refutes wsX8_isTask := goodIn_r _ [7, 8, 70, 71, 72, 73, 74, 75, 76, 77, 78, 79, 80, 81, 82, 83, 84, 85, 86, 87, 88, 89, 90, 91, 92, 93, 94, 95, 96, 97, 98, 99] (by decide +kernel) (by decide +kernel)
set_option maxRecDepth 20000 in
theorem gX8_refutes_X8_isTask : GoodIn wsX8_refutes (wsV RX8 98 RX8 yX8_isTask wsX8_isTask) := goodIn_app (goodIn_of _ (by decide +kernel)) ggX8_refutes_X8_isTask
set_option maxRecDepth 20000 in
theorem ggX8_refutes_X8_reason : GoodIn wsX8_refutes wsX8_reason := goodIn_r _ [12, 8, 13, 14, 15, 16, 17, 2, 18, 19, 20, 21, 6, 22, 23, 24, 25, 26, 27, 28, 29, 30, 31, 32, 33, 34, 35, 36, 37, 38, 39, 40, 41, 42, 43, 44, 45, 46, 47, 48, 49, 50, 51, 52, 53, 54, 55, 56, 57, 58, 59, 60, 61, 62, 63, 64, 65, 66, 67, 68, 69, 70, 71, 72, 73, 74, 75, 76, 77, 78, 79, 80, 81, 82, 83, 84, 85, 86, 87, 88, 89, 90, 91, 92, 93, 94, 95, 96, 97, 98, 99] (by decide +kernel) (by decide +kernel)
set_option maxRecDepth 20000 in
theorem gX8_refutes_X8_reason : GoodIn wsX8_refutes (wsV RX8 173 RX8 yX8_reason wsX8_reason) := goodIn_app (goodIn_of _ (by decide +kernel)) ggX8_refutes_X8_reason
theorem dX8_refutes_0 : decode cX8_refutes 0 = .ok (.aload_n 0, 1) := by decide +kernel
theorem dX8_refutes_1 : decode cX8_refutes 1 = .ok (.aload_n 0, 1) := by decide +kernel
theorem dX8_refutes_2 : decode cX8_refutes 2 = .ok (.iload_n 1, 1) := by decide +kernel
theorem dX8_refutes_3 : decode cX8_refutes 3 = .ok (.invokevirtual 98, 3) := by decide +kernel
theorem dX8_refutes_6 : decode cX8_refutes 6 = .ok (.ifCond .eq 15, 3) := by decide +kernel
theorem dX8_refutes_9 : decode cX8_refutes 9 = .ok (.aload_n 0, 1) := by decide +kernel
theorem dX8_refutes_10 : decode cX8_refutes 10 = .ok (.iload_n 2, 1) := by decide +kernel
theorem dX8_refutes_11 : decode cX8_refutes 11 = .ok (.invokevirtual 98, 3) := by decide +kernel
theorem dX8_refutes_14 : decode cX8_refutes 14 = .ok (.ifCond .eq 7, 3) := by decide +kernel
theorem dX8_refutes_17 : decode cX8_refutes 17 = .ok (.iconst 0, 1) := by decide +kernel
theorem dX8_refutes_18 : decode cX8_refutes 18 = .ok (.goto 4, 3) := by decide +kernel
theorem dX8_refutes_21 : decode cX8_refutes 21 = .ok (.iconst 1, 1) := by decide +kernel
theorem dX8_refutes_22 : decode cX8_refutes 22 = .ok (.putfield 75, 3) := by decide +kernel
theorem dX8_refutes_25 : decode cX8_refutes 25 = .ok (.aload_n 0, 1) := by decide +kernel
theorem dX8_refutes_26 : decode cX8_refutes 26 = .ok (.getfield 75, 3) := by decide +kernel
theorem dX8_refutes_29 : decode cX8_refutes 29 = .ok (.ifCond .le 5, 3) := by decide +kernel
theorem dX8_refutes_32 : decode cX8_refutes 32 = .ok (.iconst 0, 1) := by decide +kernel
theorem dX8_refutes_33 : decode cX8_refutes 33 = .ok (.ireturn, 1) := by decide +kernel
theorem dX8_refutes_34 : decode cX8_refutes 34 = .ok (.iload_n 1, 1) := by decide +kernel
theorem dX8_refutes_35 : decode cX8_refutes 35 = .ok (.iload_n 2, 1) := by decide +kernel
theorem dX8_refutes_36 : decode cX8_refutes 36 = .ok (.if_icmp .ne 5, 3) := by decide +kernel
theorem dX8_refutes_39 : decode cX8_refutes 39 = .ok (.iconst 1, 1) := by decide +kernel
theorem dX8_refutes_40 : decode cX8_refutes 40 = .ok (.ireturn, 1) := by decide +kernel
theorem dX8_refutes_41 : decode cX8_refutes 41 = .ok (.aload_n 0, 1) := by decide +kernel
theorem dX8_refutes_42 : decode cX8_refutes 42 = .ok (.getfield 26, 3) := by decide +kernel
theorem dX8_refutes_45 : decode cX8_refutes 45 = .ok (.iload_n 1, 1) := by decide +kernel
theorem dX8_refutes_46 : decode cX8_refutes 46 = .ok (.iaload, 1) := by decide +kernel
theorem dX8_refutes_47 : decode cX8_refutes 47 = .ok (.istore_n 3, 1) := by decide +kernel
theorem dX8_refutes_48 : decode cX8_refutes 48 = .ok (.aload_n 0, 1) := by decide +kernel
theorem dX8_refutes_49 : decode cX8_refutes 49 = .ok (.getfield 26, 3) := by decide +kernel
theorem dX8_refutes_52 : decode cX8_refutes 52 = .ok (.iload_n 1, 1) := by decide +kernel
theorem dX8_refutes_53 : decode cX8_refutes 53 = .ok (.dup2, 1) := by decide +kernel
theorem dX8_refutes_54 : decode cX8_refutes 54 = .ok (.iaload, 1) := by decide +kernel
theorem dX8_refutes_55 : decode cX8_refutes 55 = .ok (.iconst 1, 1) := by decide +kernel
theorem dX8_refutes_56 : decode cX8_refutes 56 = .ok (.iload_n 2, 1) := by decide +kernel
theorem dX8_refutes_57 : decode cX8_refutes 57 = .ok (.ishl, 1) := by decide +kernel
theorem dX8_refutes_58 : decode cX8_refutes 58 = .ok (.ior, 1) := by decide +kernel
theorem dX8_refutes_59 : decode cX8_refutes 59 = .ok (.iastore, 1) := by decide +kernel
theorem dX8_refutes_60 : decode cX8_refutes 60 = .ok (.aload_n 0, 1) := by decide +kernel
theorem dX8_refutes_61 : decode cX8_refutes 61 = .ok (.invokevirtual 173, 3) := by decide +kernel
theorem dX8_refutes_64 : decode cX8_refutes 64 = .ok (.ifCond .ne 7, 3) := by decide +kernel
theorem dX8_refutes_67 : decode cX8_refutes 67 = .ok (.iconst 1, 1) := by decide +kernel
theorem dX8_refutes_68 : decode cX8_refutes 68 = .ok (.goto 4, 3) := by decide +kernel
theorem dX8_refutes_71 : decode cX8_refutes 71 = .ok (.iconst 0, 1) := by decide +kernel
theorem dX8_refutes_72 : decode cX8_refutes 72 = .ok (.istore 4, 2) := by decide +kernel
theorem dX8_refutes_74 : decode cX8_refutes 74 = .ok (.aload_n 0, 1) := by decide +kernel
theorem dX8_refutes_75 : decode cX8_refutes 75 = .ok (.getfield 26, 3) := by decide +kernel
theorem dX8_refutes_78 : decode cX8_refutes 78 = .ok (.iload_n 1, 1) := by decide +kernel
theorem dX8_refutes_79 : decode cX8_refutes 79 = .ok (.iload_n 3, 1) := by decide +kernel
theorem dX8_refutes_80 : decode cX8_refutes 80 = .ok (.iastore, 1) := by decide +kernel
theorem dX8_refutes_81 : decode cX8_refutes 81 = .ok (.iload 4, 2) := by decide +kernel
theorem dX8_refutes_83 : decode cX8_refutes 83 = .ok (.ireturn, 1) := by decide +kernel
set_option maxRecDepth 20000 in
theorem ggX8_append_X8_in : GoodIn wsX8_append wsX8_in := goodIn_r _ [7] (by decide +kernel) (by decide +kernel)
set_option maxRecDepth 20000 in
theorem gX8_append_X8_in : GoodIn wsX8_append (va_wsS RX8 84 yX8_in wsX8_in) := goodIn_app (goodIn_of _ (by decide +kernel)) ggX8_append_X8_in
theorem dX8_append_0 : decode cX8_append 0 = .ok (.aload_n 0, 1) := by decide +kernel
theorem dX8_append_1 : decode cX8_append 1 = .ok (.iload_n 1, 1) := by decide +kernel
theorem dX8_append_2 : decode cX8_append 2 = .ok (.iconst 0, 1) := by decide +kernel
theorem dX8_append_3 : decode cX8_append 3 = .ok (.bipush 127, 2) := by decide +kernel
theorem dX8_append_5 : decode cX8_append 5 = .ok (.invokestatic 84, 3) := by decide +kernel
theorem dX8_append_8 : decode cX8_append 8 = .ok (.ifCond .ne 7, 3) := by decide +kernel
theorem dX8_append_11 : decode cX8_append 11 = .ok (.iconst 1, 1) := by decide +kernel
theorem dX8_append_12 : decode cX8_append 12 = .ok (.goto 17, 3) := by decide +kernel
theorem dX8_append_15 : decode cX8_append 15 = .ok (.aload_n 0, 1) := by decide +kernel
theorem dX8_append_16 : decode cX8_append 16 = .ok (.getfield 220, 3) := by decide +kernel
theorem dX8_append_19 : decode cX8_append 19 = .ok (.bipush 100, 2) := by decide +kernel
theorem dX8_append_21 : decode cX8_append 21 = .ok (.if_icmp .ne 7, 3) := by decide +kernel
theorem dX8_append_24 : decode cX8_append 24 = .ok (.iconst 2, 1) := by decide +kernel
theorem dX8_append_25 : decode cX8_append 25 = .ok (.goto 4, 3) := by decide +kernel
theorem dX8_append_28 : decode cX8_append 28 = .ok (.iconst 0, 1) := by decide +kernel
theorem dX8_append_29 : decode cX8_append 29 = .ok (.putfield 75, 3) := by decide +kernel
theorem dX8_append_32 : decode cX8_append 32 = .ok (.aload_n 0, 1) := by decide +kernel
theorem dX8_append_33 : decode cX8_append 33 = .ok (.getfield 75, 3) := by decide +kernel
theorem dX8_append_36 : decode cX8_append 36 = .ok (.ifCond .le 5, 3) := by decide +kernel
theorem dX8_append_39 : decode cX8_append 39 = .ok (.iconst 0, 1) := by decide +kernel
theorem dX8_append_40 : decode cX8_append 40 = .ok (.ireturn, 1) := by decide +kernel
theorem dX8_append_41 : decode cX8_append 41 = .ok (.aload_n 0, 1) := by decide +kernel
theorem dX8_append_42 : decode cX8_append 42 = .ok (.getfield 32, 3) := by decide +kernel
theorem dX8_append_45 : decode cX8_append 45 = .ok (.aload_n 0, 1) := by decide +kernel
theorem dX8_append_46 : decode cX8_append 46 = .ok (.getfield 220, 3) := by decide +kernel
theorem dX8_append_49 : decode cX8_append 49 = .ok (.iload_n 1, 1) := by decide +kernel
theorem dX8_append_50 : decode cX8_append 50 = .ok (.iastore, 1) := by decide +kernel
theorem dX8_append_51 : decode cX8_append 51 = .ok (.aload_n 0, 1) := by decide +kernel
theorem dX8_append_52 : decode cX8_append 52 = .ok (.dup, 1) := by decide +kernel
theorem dX8_append_53 : decode cX8_append 53 = .ok (.getfield 220, 3) := by decide +kernel
theorem dX8_append_56 : decode cX8_append 56 = .ok (.iconst 1, 1) := by decide +kernel
theorem dX8_append_57 : decode cX8_append 57 = .ok (.iadd, 1) := by decide +kernel
theorem dX8_append_58 : decode cX8_append 58 = .ok (.putfield 220, 3) := by decide +kernel
theorem dX8_append_61 : decode cX8_append 61 = .ok (.aload_n 0, 1) := by decide +kernel
theorem dX8_append_62 : decode cX8_append 62 = .ok (.getfield 220, 3) := by decide +kernel
theorem dX8_append_65 : decode cX8_append 65 = .ok (.ireturn, 1) := by decide +kernel
theorem dX8_clearText_0 : decode cX8_clearText 0 = .ok (.aload_n 0, 1) := by decide +kernel
theorem dX8_clearText_1 : decode cX8_clearText 1 = .ok (.iconst 0, 1) := by decide +kernel
theorem dX8_clearText_2 : decode cX8_clearText 2 = .ok (.putfield 75, 3) := by decide +kernel
theorem dX8_clearText_5 : decode cX8_clearText 5 = .ok (.aload_n 0, 1) := by decide +kernel
theorem dX8_clearText_6 : decode cX8_clearText 6 = .ok (.getfield 220, 3) := by decide +kernel
theorem dX8_clearText_9 : decode cX8_clearText 9 = .ok (.istore_n 1, 1) := by decide +kernel
theorem dX8_clearText_10 : decode cX8_clearText 10 = .ok (.aload_n 0, 1) := by decide +kernel
theorem dX8_clearText_11 : decode cX8_clearText 11 = .ok (.iconst 0, 1) := by decide +kernel
theorem dX8_clearText_12 : decode cX8_clearText 12 = .ok (.putfield 220, 3) := by decide +kernel
theorem dX8_clearText_15 : decode cX8_clearText 15 = .ok (.iload_n 1, 1) := by decide +kernel
theorem dX8_clearText_16 : decode cX8_clearText 16 = .ok (.ireturn, 1) := by decide +kernel
theorem dX8_byteAt_0 : decode cX8_byteAt 0 = .ok (.iload_n 1, 1) := by decide +kernel
theorem dX8_byteAt_1 : decode cX8_byteAt 1 = .ok (.aload_n 0, 1) := by decide +kernel
theorem dX8_byteAt_2 : decode cX8_byteAt 2 = .ok (.getfield 220, 3) := by decide +kernel
theorem dX8_byteAt_5 : decode cX8_byteAt 5 = .ok (.if_icmp .ge 12, 3) := by decide +kernel
theorem dX8_byteAt_8 : decode cX8_byteAt 8 = .ok (.aload_n 0, 1) := by decide +kernel
theorem dX8_byteAt_9 : decode cX8_byteAt 9 = .ok (.getfield 32, 3) := by decide +kernel
theorem dX8_byteAt_12 : decode cX8_byteAt 12 = .ok (.iload_n 1, 1) := by decide +kernel
theorem dX8_byteAt_13 : decode cX8_byteAt 13 = .ok (.iaload, 1) := by decide +kernel
theorem dX8_byteAt_14 : decode cX8_byteAt 14 = .ok (.goto 4, 3) := by decide +kernel
theorem dX8_byteAt_17 : decode cX8_byteAt 17 = .ok (.iconst (-1), 1) := by decide +kernel
theorem dX8_byteAt_18 : decode cX8_byteAt 18 = .ok (.ireturn, 1) := by decide +kernel
theorem dX8_fail_0 : decode cX8_fail 0 = .ok (.aload_n 0, 1) := by decide +kernel
theorem dX8_fail_1 : decode cX8_fail 1 = .ok (.aload_n 0, 1) := by decide +kernel
theorem dX8_fail_2 : decode cX8_fail 2 = .ok (.getfield 223, 3) := by decide +kernel
theorem dX8_fail_5 : decode cX8_fail 5 = .ok (.iconst (-1), 1) := by decide +kernel
theorem dX8_fail_6 : decode cX8_fail 6 = .ok (.if_icmp .ne 7, 3) := by decide +kernel
theorem dX8_fail_9 : decode cX8_fail 9 = .ok (.iload_n 1, 1) := by decide +kernel
theorem dX8_fail_10 : decode cX8_fail 10 = .ok (.goto 7, 3) := by decide +kernel
theorem dX8_fail_13 : decode cX8_fail 13 = .ok (.aload_n 0, 1) := by decide +kernel
theorem dX8_fail_14 : decode cX8_fail 14 = .ok (.getfield 223, 3) := by decide +kernel
theorem dX8_fail_17 : decode cX8_fail 17 = .ok (.putfield 223, 3) := by decide +kernel
theorem dX8_fail_20 : decode cX8_fail 20 = .ok (.return_, 1) := by decide +kernel
set_option maxRecDepth 20000 in
theorem ggX8_takeByte_X8_byteAt : GoodIn wsX8_takeByte wsX8_byteAt := goodIn_r _ [7, 8, 9, 14, 15, 16, 17, 18, 19, 20, 21, 22, 23, 24, 25, 26, 27, 28, 29, 30, 31, 32, 33, 34, 35, 36, 37, 38, 39, 40, 41, 42, 43] (by decide +kernel) (by decide +kernel)
set_option maxRecDepth 20000 in
theorem gX8_takeByte_X8_byteAt : GoodIn wsX8_takeByte (wsV RX8 229 RX8 yX8_byteAt wsX8_byteAt) := goodIn_app (goodIn_of _ (by decide +kernel)) ggX8_takeByte_X8_byteAt
set_option maxRecDepth 20000 in
theorem ggX8_takeByte_X8_fail : GoodIn wsX8_takeByte wsX8_fail := goodIn_r _ [13, 1, 14, 15, 16, 17, 18, 19, 20, 21, 22, 23, 24, 25, 26, 27, 28, 29, 30, 31, 32, 33, 34, 35, 36, 37, 38, 39, 40, 41, 42, 43] (by decide +kernel) (by decide +kernel)
set_option maxRecDepth 20000 in
theorem gX8_takeByte_X8_fail : GoodIn wsX8_takeByte (wsV RX8 232 RX8 yX8_fail wsX8_fail) := goodIn_app (goodIn_of _ (by decide +kernel)) ggX8_takeByte_X8_fail
theorem dX8_takeByte_0 : decode cX8_takeByte 0 = .ok (.aload_n 0, 1) := by decide +kernel
theorem dX8_takeByte_1 : decode cX8_takeByte 1 = .ok (.getfield 223, 3) := by decide +kernel
theorem dX8_takeByte_4 : decode cX8_takeByte 4 = .ok (.iconst (-1), 1) := by decide +kernel
theorem dX8_takeByte_5 : decode cX8_takeByte 5 = .ok (.if_icmp .ne 23, 3) := by decide +kernel
theorem dX8_takeByte_8 : decode cX8_takeByte 8 = .ok (.aload_n 0, 1) := by decide +kernel
theorem dX8_takeByte_9 : decode cX8_takeByte 9 = .ok (.aload_n 0, 1) := by decide +kernel
theorem dX8_takeByte_10 : decode cX8_takeByte 10 = .ok (.getfield 226, 3) := by decide +kernel
theorem dX8_takeByte_13 : decode cX8_takeByte 13 = .ok (.invokevirtual 229, 3) := by decide +kernel
theorem dX8_takeByte_16 : decode cX8_takeByte 16 = .ok (.iload_n 1, 1) := by decide +kernel
theorem dX8_takeByte_17 : decode cX8_takeByte 17 = .ok (.if_icmp .eq 11, 3) := by decide +kernel
theorem dX8_takeByte_20 : decode cX8_takeByte 20 = .ok (.aload_n 0, 1) := by decide +kernel
theorem dX8_takeByte_21 : decode cX8_takeByte 21 = .ok (.aload_n 0, 1) := by decide +kernel
theorem dX8_takeByte_22 : decode cX8_takeByte 22 = .ok (.getfield 226, 3) := by decide +kernel
theorem dX8_takeByte_25 : decode cX8_takeByte 25 = .ok (.invokevirtual 232, 3) := by decide +kernel
theorem dX8_takeByte_28 : decode cX8_takeByte 28 = .ok (.aload_n 0, 1) := by decide +kernel
theorem dX8_takeByte_29 : decode cX8_takeByte 29 = .ok (.dup, 1) := by decide +kernel
theorem dX8_takeByte_30 : decode cX8_takeByte 30 = .ok (.getfield 226, 3) := by decide +kernel
theorem dX8_takeByte_33 : decode cX8_takeByte 33 = .ok (.iconst 1, 1) := by decide +kernel
theorem dX8_takeByte_34 : decode cX8_takeByte 34 = .ok (.iadd, 1) := by decide +kernel
theorem dX8_takeByte_35 : decode cX8_takeByte 35 = .ok (.putfield 226, 3) := by decide +kernel
theorem dX8_takeByte_38 : decode cX8_takeByte 38 = .ok (.return_, 1) := by decide +kernel
set_option maxRecDepth 20000 in
theorem ggX8_takeDigit_X8_byteAt : GoodIn wsX8_takeDigit wsX8_byteAt := goodIn_r _ [7, 8, 9, 17, 18, 19, 20, 21, 22, 23, 24, 25, 26, 27, 28, 29, 30, 31, 32, 33, 34, 35, 36, 37, 38, 39, 40, 41, 42, 43, 44, 45, 46] (by decide +kernel) (by decide +kernel)
set_option maxRecDepth 20000 in
theorem gX8_takeDigit_X8_byteAt : GoodIn wsX8_takeDigit (wsV RX8 229 RX8 yX8_byteAt wsX8_byteAt) := goodIn_app (goodIn_of _ (by decide +kernel)) ggX8_takeDigit_X8_byteAt
set_option maxRecDepth 20000 in
theorem ggX8_takeDigit_X8_in : GoodIn wsX8_takeDigit wsX8_in := goodIn_r _ [12] (by decide +kernel) (by decide +kernel)
set_option maxRecDepth 20000 in
theorem gX8_takeDigit_X8_in : GoodIn wsX8_takeDigit (va_wsS RX8 84 yX8_in wsX8_in) := goodIn_app (goodIn_of _ (by decide +kernel)) ggX8_takeDigit_X8_in
set_option maxRecDepth 20000 in
theorem ggX8_takeDigit_X8_fail : GoodIn wsX8_takeDigit wsX8_fail := goodIn_r _ [16, 2, 17, 18, 19, 20, 21, 22, 23, 24, 25, 26, 27, 28, 29, 30, 31, 32, 33, 34, 35, 36, 37, 38, 39, 40, 41, 42, 43, 44, 45, 46] (by decide +kernel) (by decide +kernel)
set_option maxRecDepth 20000 in
theorem gX8_takeDigit_X8_fail : GoodIn wsX8_takeDigit (wsV RX8 232 RX8 yX8_fail wsX8_fail) := goodIn_app (goodIn_of _ (by decide +kernel)) ggX8_takeDigit_X8_fail
theorem dX8_takeDigit_0 : decode cX8_takeDigit 0 = .ok (.aload_n 0, 1) := by decide +kernel
theorem dX8_takeDigit_1 : decode cX8_takeDigit 1 = .ok (.aload_n 0, 1) := by decide +kernel
theorem dX8_takeDigit_2 : decode cX8_takeDigit 2 = .ok (.getfield 226, 3) := by decide +kernel
theorem dX8_takeDigit_5 : decode cX8_takeDigit 5 = .ok (.invokevirtual 229, 3) := by decide +kernel
theorem dX8_takeDigit_8 : decode cX8_takeDigit 8 = .ok (.istore_n 2, 1) := by decide +kernel
theorem dX8_takeDigit_9 : decode cX8_takeDigit 9 = .ok (.aload_n 0, 1) := by decide +kernel
theorem dX8_takeDigit_10 : decode cX8_takeDigit 10 = .ok (.getfield 223, 3) := by decide +kernel
theorem dX8_takeDigit_13 : decode cX8_takeDigit 13 = .ok (.iconst (-1), 1) := by decide +kernel
theorem dX8_takeDigit_14 : decode cX8_takeDigit 14 = .ok (.if_icmp .ne 24, 3) := by decide +kernel
theorem dX8_takeDigit_17 : decode cX8_takeDigit 17 = .ok (.iload_n 2, 1) := by decide +kernel
theorem dX8_takeDigit_18 : decode cX8_takeDigit 18 = .ok (.bipush 48, 2) := by decide +kernel
theorem dX8_takeDigit_20 : decode cX8_takeDigit 20 = .ok (.bipush 48, 2) := by decide +kernel
theorem dX8_takeDigit_22 : decode cX8_takeDigit 22 = .ok (.iload_n 1, 1) := by decide +kernel
theorem dX8_takeDigit_23 : decode cX8_takeDigit 23 = .ok (.iadd, 1) := by decide +kernel
theorem dX8_takeDigit_24 : decode cX8_takeDigit 24 = .ok (.invokestatic 84, 3) := by decide +kernel
theorem dX8_takeDigit_27 : decode cX8_takeDigit 27 = .ok (.ifCond .ne 11, 3) := by decide +kernel
theorem dX8_takeDigit_30 : decode cX8_takeDigit 30 = .ok (.aload_n 0, 1) := by decide +kernel
theorem dX8_takeDigit_31 : decode cX8_takeDigit 31 = .ok (.aload_n 0, 1) := by decide +kernel
theorem dX8_takeDigit_32 : decode cX8_takeDigit 32 = .ok (.getfield 226, 3) := by decide +kernel
theorem dX8_takeDigit_35 : decode cX8_takeDigit 35 = .ok (.invokevirtual 232, 3) := by decide +kernel
theorem dX8_takeDigit_38 : decode cX8_takeDigit 38 = .ok (.aload_n 0, 1) := by decide +kernel
theorem dX8_takeDigit_39 : decode cX8_takeDigit 39 = .ok (.dup, 1) := by decide +kernel
theorem dX8_takeDigit_40 : decode cX8_takeDigit 40 = .ok (.getfield 226, 3) := by decide +kernel
theorem dX8_takeDigit_43 : decode cX8_takeDigit 43 = .ok (.iconst 1, 1) := by decide +kernel
theorem dX8_takeDigit_44 : decode cX8_takeDigit 44 = .ok (.iadd, 1) := by decide +kernel
theorem dX8_takeDigit_45 : decode cX8_takeDigit 45 = .ok (.putfield 226, 3) := by decide +kernel
theorem dX8_takeDigit_48 : decode cX8_takeDigit 48 = .ok (.iload_n 2, 1) := by decide +kernel
theorem dX8_takeDigit_49 : decode cX8_takeDigit 49 = .ok (.bipush 48, 2) := by decide +kernel
theorem dX8_takeDigit_51 : decode cX8_takeDigit 51 = .ok (.isub, 1) := by decide +kernel
theorem dX8_takeDigit_52 : decode cX8_takeDigit 52 = .ok (.ireturn, 1) := by decide +kernel
set_option maxRecDepth 20000 in
theorem ggX8_takeNumber_X8_takeDigit : GoodIn wsX8_takeNumber wsX8_takeDigit := goodIn_r _ [7, 1, 2, 8, 9, 10, 6, 11, 12, 13, 14, 15, 16, 17, 18, 19, 20, 21, 22, 23, 24, 25, 26, 27, 28, 29, 30, 31, 32, 33, 34, 35, 36, 37, 38, 39, 40, 41, 42, 43, 44, 45, 46, 47, 48, 49, 50] (by decide +kernel) (by decide +kernel)
set_option maxRecDepth 20000 in
theorem gX8_takeNumber_X8_takeDigit : GoodIn wsX8_takeNumber (wsV RX8 236 RX8 yX8_takeDigit wsX8_takeDigit) := goodIn_app (goodIn_of _ (by decide +kernel)) ggX8_takeNumber_X8_takeDigit
set_option maxRecDepth 20000 in
theorem ggX8_takeNumber_X8_byteAt : GoodIn wsX8_takeNumber wsX8_byteAt := goodIn_r _ [11, 12, 13, 21, 22, 23, 24, 25, 26, 27, 28, 29, 30, 31, 32, 33, 34, 35, 36, 37, 38, 39, 40, 41, 42, 43, 44, 45, 46, 47, 48, 49, 50] (by decide +kernel) (by decide +kernel)
set_option maxRecDepth 20000 in
theorem gX8_takeNumber_X8_byteAt : GoodIn wsX8_takeNumber (wsV RX8 229 RX8 yX8_byteAt wsX8_byteAt) := goodIn_app (goodIn_of _ (by decide +kernel)) ggX8_takeNumber_X8_byteAt
set_option maxRecDepth 20000 in
theorem ggX8_takeNumber_X8_in : GoodIn wsX8_takeNumber wsX8_in := goodIn_r _ [16] (by decide +kernel) (by decide +kernel)
set_option maxRecDepth 20000 in
theorem gX8_takeNumber_X8_in : GoodIn wsX8_takeNumber (va_wsS RX8 84 yX8_in wsX8_in) := goodIn_app (goodIn_of _ (by decide +kernel)) ggX8_takeNumber_X8_in
set_option maxRecDepth 20000 in
theorem ggX8_takeNumber_X8_fail : GoodIn wsX8_takeNumber wsX8_fail := goodIn_r _ [20, 2, 21, 22, 23, 24, 25, 26, 27, 28, 29, 30, 31, 32, 33, 34, 35, 36, 37, 38, 39, 40, 41, 42, 43, 44, 45, 46, 47, 48, 49, 50] (by decide +kernel) (by decide +kernel)
set_option maxRecDepth 20000 in
theorem gX8_takeNumber_X8_fail : GoodIn wsX8_takeNumber (wsV RX8 232 RX8 yX8_fail wsX8_fail) := goodIn_app (goodIn_of _ (by decide +kernel)) ggX8_takeNumber_X8_fail
theorem dX8_takeNumber_0 : decode cX8_takeNumber 0 = .ok (.aload_n 0, 1) := by decide +kernel
theorem dX8_takeNumber_1 : decode cX8_takeNumber 1 = .ok (.getfield 226, 3) := by decide +kernel
theorem dX8_takeNumber_4 : decode cX8_takeNumber 4 = .ok (.istore 4, 2) := by decide +kernel
theorem dX8_takeNumber_6 : decode cX8_takeNumber 6 = .ok (.aload_n 0, 1) := by decide +kernel
theorem dX8_takeNumber_7 : decode cX8_takeNumber 7 = .ok (.bipush 9, 2) := by decide +kernel
theorem dX8_takeNumber_9 : decode cX8_takeNumber 9 = .ok (.invokevirtual 236, 3) := by decide +kernel
theorem dX8_takeNumber_12 : decode cX8_takeNumber 12 = .ok (.istore 5, 2) := by decide +kernel
theorem dX8_takeNumber_14 : decode cX8_takeNumber 14 = .ok (.iconst 1, 1) := by decide +kernel
theorem dX8_takeNumber_15 : decode cX8_takeNumber 15 = .ok (.istore 6, 2) := by decide +kernel
theorem dX8_takeNumber_17 : decode cX8_takeNumber 17 = .ok (.iload 6, 2) := by decide +kernel
theorem dX8_takeNumber_19 : decode cX8_takeNumber 19 = .ok (.iload_n 1, 1) := by decide +kernel
theorem dX8_takeNumber_20 : decode cX8_takeNumber 20 = .ok (.if_icmp .ge 56, 3) := by decide +kernel
theorem dX8_takeNumber_23 : decode cX8_takeNumber 23 = .ok (.aload_n 0, 1) := by decide +kernel
theorem dX8_takeNumber_24 : decode cX8_takeNumber 24 = .ok (.aload_n 0, 1) := by decide +kernel
theorem dX8_takeNumber_25 : decode cX8_takeNumber 25 = .ok (.getfield 226, 3) := by decide +kernel
theorem dX8_takeNumber_28 : decode cX8_takeNumber 28 = .ok (.invokevirtual 229, 3) := by decide +kernel
theorem dX8_takeNumber_31 : decode cX8_takeNumber 31 = .ok (.bipush 48, 2) := by decide +kernel
theorem dX8_takeNumber_33 : decode cX8_takeNumber 33 = .ok (.bipush 57, 2) := by decide +kernel
theorem dX8_takeNumber_35 : decode cX8_takeNumber 35 = .ok (.invokestatic 84, 3) := by decide +kernel
theorem dX8_takeNumber_38 : decode cX8_takeNumber 38 = .ok (.ifCond .eq 38, 3) := by decide +kernel
theorem dX8_takeNumber_41 : decode cX8_takeNumber 41 = .ok (.bipush 10, 2) := by decide +kernel
theorem dX8_takeNumber_43 : decode cX8_takeNumber 43 = .ok (.iload 5, 2) := by decide +kernel
theorem dX8_takeNumber_45 : decode cX8_takeNumber 45 = .ok (.imul, 1) := by decide +kernel
theorem dX8_takeNumber_46 : decode cX8_takeNumber 46 = .ok (.aload_n 0, 1) := by decide +kernel
theorem dX8_takeNumber_47 : decode cX8_takeNumber 47 = .ok (.aload_n 0, 1) := by decide +kernel
theorem dX8_takeNumber_48 : decode cX8_takeNumber 48 = .ok (.getfield 226, 3) := by decide +kernel
theorem dX8_takeNumber_51 : decode cX8_takeNumber 51 = .ok (.invokevirtual 229, 3) := by decide +kernel
theorem dX8_takeNumber_54 : decode cX8_takeNumber 54 = .ok (.iadd, 1) := by decide +kernel
theorem dX8_takeNumber_55 : decode cX8_takeNumber 55 = .ok (.bipush 48, 2) := by decide +kernel
theorem dX8_takeNumber_57 : decode cX8_takeNumber 57 = .ok (.isub, 1) := by decide +kernel
theorem dX8_takeNumber_58 : decode cX8_takeNumber 58 = .ok (.istore 5, 2) := by decide +kernel
theorem dX8_takeNumber_60 : decode cX8_takeNumber 60 = .ok (.aload_n 0, 1) := by decide +kernel
theorem dX8_takeNumber_61 : decode cX8_takeNumber 61 = .ok (.dup, 1) := by decide +kernel
theorem dX8_takeNumber_62 : decode cX8_takeNumber 62 = .ok (.getfield 226, 3) := by decide +kernel
theorem dX8_takeNumber_65 : decode cX8_takeNumber 65 = .ok (.iconst 1, 1) := by decide +kernel
theorem dX8_takeNumber_66 : decode cX8_takeNumber 66 = .ok (.iadd, 1) := by decide +kernel
theorem dX8_takeNumber_67 : decode cX8_takeNumber 67 = .ok (.putfield 226, 3) := by decide +kernel
theorem dX8_takeNumber_70 : decode cX8_takeNumber 70 = .ok (.iinc 6 1, 3) := by decide +kernel
theorem dX8_takeNumber_73 : decode cX8_takeNumber 73 = .ok (.goto (-56), 3) := by decide +kernel
theorem dX8_takeNumber_76 : decode cX8_takeNumber 76 = .ok (.aload_n 0, 1) := by decide +kernel
theorem dX8_takeNumber_77 : decode cX8_takeNumber 77 = .ok (.getfield 223, 3) := by decide +kernel
theorem dX8_takeNumber_80 : decode cX8_takeNumber 80 = .ok (.iconst (-1), 1) := by decide +kernel
theorem dX8_takeNumber_81 : decode cX8_takeNumber 81 = .ok (.if_icmp .ne 37, 3) := by decide +kernel
theorem dX8_takeNumber_84 : decode cX8_takeNumber 84 = .ok (.aload_n 0, 1) := by decide +kernel
theorem dX8_takeNumber_85 : decode cX8_takeNumber 85 = .ok (.aload_n 0, 1) := by decide +kernel
theorem dX8_takeNumber_86 : decode cX8_takeNumber 86 = .ok (.getfield 226, 3) := by decide +kernel
theorem dX8_takeNumber_89 : decode cX8_takeNumber 89 = .ok (.invokevirtual 229, 3) := by decide +kernel
theorem dX8_takeNumber_92 : decode cX8_takeNumber 92 = .ok (.bipush 48, 2) := by decide +kernel
theorem dX8_takeNumber_94 : decode cX8_takeNumber 94 = .ok (.bipush 57, 2) := by decide +kernel
theorem dX8_takeNumber_96 : decode cX8_takeNumber 96 = .ok (.invokestatic 84, 3) := by decide +kernel
theorem dX8_takeNumber_99 : decode cX8_takeNumber 99 = .ok (.ifCond .ne 19, 3) := by decide +kernel
theorem dX8_takeNumber_102 : decode cX8_takeNumber 102 = .ok (.iload 5, 2) := by decide +kernel
theorem dX8_takeNumber_104 : decode cX8_takeNumber 104 = .ok (.iload_n 2, 1) := by decide +kernel
theorem dX8_takeNumber_105 : decode cX8_takeNumber 105 = .ok (.iload_n 3, 1) := by decide +kernel
theorem dX8_takeNumber_106 : decode cX8_takeNumber 106 = .ok (.invokestatic 84, 3) := by decide +kernel
theorem dX8_takeNumber_109 : decode cX8_takeNumber 109 = .ok (.ifCond .ne 9, 3) := by decide +kernel
theorem dX8_takeNumber_112 : decode cX8_takeNumber 112 = .ok (.aload_n 0, 1) := by decide +kernel
theorem dX8_takeNumber_113 : decode cX8_takeNumber 113 = .ok (.iload 4, 2) := by decide +kernel
theorem dX8_takeNumber_115 : decode cX8_takeNumber 115 = .ok (.invokevirtual 232, 3) := by decide +kernel
theorem dX8_takeNumber_118 : decode cX8_takeNumber 118 = .ok (.iload 5, 2) := by decide +kernel
theorem dX8_takeNumber_120 : decode cX8_takeNumber 120 = .ok (.ireturn, 1) := by decide +kernel
set_option maxRecDepth 20000 in
theorem ggX8_readTask_X8_takeDigit : GoodIn wsX8_readTask wsX8_takeDigit := goodIn_r _ [6, 7, 8, 9, 10, 11, 5, 12, 13, 14, 15, 16, 17, 18, 19, 20, 21, 30, 31, 32, 33, 34, 35, 36, 37, 38, 39, 40, 41, 42, 43, 44, 45, 46, 47, 48, 49, 50, 51, 52, 53, 54, 55, 56, 57, 58, 59] (by decide +kernel) (by decide +kernel)
set_option maxRecDepth 20000 in
theorem gX8_readTask_X8_takeDigit : GoodIn wsX8_readTask (wsV RX8 236 RX8 yX8_takeDigit wsX8_takeDigit) := goodIn_app (goodIn_of _ (by decide +kernel)) ggX8_readTask_X8_takeDigit
set_option maxRecDepth 20000 in
theorem ggX8_readTask_X8_takeByte : GoodIn wsX8_readTask wsX8_takeByte := goodIn_r _ [25, 8, 7, 9, 10, 11, 5, 12, 13, 14, 18, 19, 20, 21, 30, 31, 32, 33, 34, 35, 36, 37, 38, 39, 40, 41, 42, 43, 44, 45, 46, 47, 48, 49, 50, 51, 52, 53, 54, 55, 56, 57, 58, 59] (by decide +kernel) (by decide +kernel)
set_option maxRecDepth 20000 in
theorem gX8_readTask_X8_takeByte : GoodIn wsX8_readTask (wsV RX8 239 RX8 yX8_takeByte wsX8_takeByte) := goodIn_app (goodIn_of _ (by decide +kernel)) ggX8_readTask_X8_takeByte
set_option maxRecDepth 20000 in
theorem ggX8_readTask_X8_takeNumber : GoodIn wsX8_readTask wsX8_takeNumber := goodIn_r _ [29, 7, 8, 2, 3, 4, 5, 6, 9, 10, 11, 12, 13, 14, 15, 16, 17, 18, 19, 20, 21, 30, 31, 32, 33, 34, 35, 36, 37, 38, 39, 40, 41, 42, 43, 44, 45, 46, 47, 48, 49, 50, 51, 52, 53, 54, 55, 56, 57, 58, 59] (by decide +kernel) (by decide +kernel)
set_option maxRecDepth 20000 in
theorem gX8_readTask_X8_takeNumber : GoodIn wsX8_readTask (wsV RX8 242 RX8 yX8_takeNumber wsX8_takeNumber) := goodIn_app (goodIn_of _ (by decide +kernel)) ggX8_readTask_X8_takeNumber
theorem dX8_readTask_0 : decode cX8_readTask 0 = .ok (.aload_n 0, 1) := by decide +kernel
theorem dX8_readTask_1 : decode cX8_readTask 1 = .ok (.getfield 72, 3) := by decide +kernel
theorem dX8_readTask_4 : decode cX8_readTask 4 = .ok (.iload_n 1, 1) := by decide +kernel
theorem dX8_readTask_5 : decode cX8_readTask 5 = .ok (.iconst 0, 1) := by decide +kernel
theorem dX8_readTask_6 : decode cX8_readTask 6 = .ok (.iastore, 1) := by decide +kernel
theorem dX8_readTask_7 : decode cX8_readTask 7 = .ok (.aload_n 0, 1) := by decide +kernel
theorem dX8_readTask_8 : decode cX8_readTask 8 = .ok (.getfield 72, 3) := by decide +kernel
theorem dX8_readTask_11 : decode cX8_readTask 11 = .ok (.iload_n 1, 1) := by decide +kernel
theorem dX8_readTask_12 : decode cX8_readTask 12 = .ok (.iconst 1, 1) := by decide +kernel
theorem dX8_readTask_13 : decode cX8_readTask 13 = .ok (.iadd, 1) := by decide +kernel
theorem dX8_readTask_14 : decode cX8_readTask 14 = .ok (.aload_n 0, 1) := by decide +kernel
theorem dX8_readTask_15 : decode cX8_readTask 15 = .ok (.iconst 2, 1) := by decide +kernel
theorem dX8_readTask_16 : decode cX8_readTask 16 = .ok (.invokevirtual 236, 3) := by decide +kernel
theorem dX8_readTask_19 : decode cX8_readTask 19 = .ok (.iastore, 1) := by decide +kernel
theorem dX8_readTask_20 : decode cX8_readTask 20 = .ok (.aload_n 0, 1) := by decide +kernel
theorem dX8_readTask_21 : decode cX8_readTask 21 = .ok (.bipush 58, 2) := by decide +kernel
theorem dX8_readTask_23 : decode cX8_readTask 23 = .ok (.invokevirtual 239, 3) := by decide +kernel
theorem dX8_readTask_26 : decode cX8_readTask 26 = .ok (.aload_n 0, 1) := by decide +kernel
theorem dX8_readTask_27 : decode cX8_readTask 27 = .ok (.getfield 72, 3) := by decide +kernel
theorem dX8_readTask_30 : decode cX8_readTask 30 = .ok (.iload_n 1, 1) := by decide +kernel
theorem dX8_readTask_31 : decode cX8_readTask 31 = .ok (.iconst 2, 1) := by decide +kernel
theorem dX8_readTask_32 : decode cX8_readTask 32 = .ok (.iadd, 1) := by decide +kernel
theorem dX8_readTask_33 : decode cX8_readTask 33 = .ok (.aload_n 0, 1) := by decide +kernel
theorem dX8_readTask_34 : decode cX8_readTask 34 = .ok (.iconst 3, 1) := by decide +kernel
theorem dX8_readTask_35 : decode cX8_readTask 35 = .ok (.iconst 0, 1) := by decide +kernel
theorem dX8_readTask_36 : decode cX8_readTask 36 = .ok (.sipush 200, 3) := by decide +kernel
theorem dX8_readTask_39 : decode cX8_readTask 39 = .ok (.invokevirtual 242, 3) := by decide +kernel
theorem dX8_readTask_42 : decode cX8_readTask 42 = .ok (.iastore, 1) := by decide +kernel
theorem dX8_readTask_43 : decode cX8_readTask 43 = .ok (.aload_n 0, 1) := by decide +kernel
theorem dX8_readTask_44 : decode cX8_readTask 44 = .ok (.bipush 45, 2) := by decide +kernel
theorem dX8_readTask_46 : decode cX8_readTask 46 = .ok (.invokevirtual 239, 3) := by decide +kernel
theorem dX8_readTask_49 : decode cX8_readTask 49 = .ok (.aload_n 0, 1) := by decide +kernel
theorem dX8_readTask_50 : decode cX8_readTask 50 = .ok (.getfield 72, 3) := by decide +kernel
theorem dX8_readTask_53 : decode cX8_readTask 53 = .ok (.iload_n 1, 1) := by decide +kernel
theorem dX8_readTask_54 : decode cX8_readTask 54 = .ok (.iconst 3, 1) := by decide +kernel
theorem dX8_readTask_55 : decode cX8_readTask 55 = .ok (.iadd, 1) := by decide +kernel
theorem dX8_readTask_56 : decode cX8_readTask 56 = .ok (.aload_n 0, 1) := by decide +kernel
theorem dX8_readTask_57 : decode cX8_readTask 57 = .ok (.iconst 3, 1) := by decide +kernel
theorem dX8_readTask_58 : decode cX8_readTask 58 = .ok (.iconst 1, 1) := by decide +kernel
theorem dX8_readTask_59 : decode cX8_readTask 59 = .ok (.sipush 400, 3) := by decide +kernel
theorem dX8_readTask_62 : decode cX8_readTask 62 = .ok (.invokevirtual 242, 3) := by decide +kernel
theorem dX8_readTask_65 : decode cX8_readTask 65 = .ok (.iastore, 1) := by decide +kernel
theorem dX8_readTask_66 : decode cX8_readTask 66 = .ok (.aload_n 0, 1) := by decide +kernel
theorem dX8_readTask_67 : decode cX8_readTask 67 = .ok (.bipush 42, 2) := by decide +kernel
theorem dX8_readTask_69 : decode cX8_readTask 69 = .ok (.invokevirtual 239, 3) := by decide +kernel
theorem dX8_readTask_72 : decode cX8_readTask 72 = .ok (.aload_n 0, 1) := by decide +kernel
theorem dX8_readTask_73 : decode cX8_readTask 73 = .ok (.getfield 72, 3) := by decide +kernel
theorem dX8_readTask_76 : decode cX8_readTask 76 = .ok (.iload_n 1, 1) := by decide +kernel
theorem dX8_readTask_77 : decode cX8_readTask 77 = .ok (.iconst 4, 1) := by decide +kernel
theorem dX8_readTask_78 : decode cX8_readTask 78 = .ok (.iadd, 1) := by decide +kernel
theorem dX8_readTask_79 : decode cX8_readTask 79 = .ok (.aload_n 0, 1) := by decide +kernel
theorem dX8_readTask_80 : decode cX8_readTask 80 = .ok (.iconst 2, 1) := by decide +kernel
theorem dX8_readTask_81 : decode cX8_readTask 81 = .ok (.iconst 1, 1) := by decide +kernel
theorem dX8_readTask_82 : decode cX8_readTask 82 = .ok (.bipush 50, 2) := by decide +kernel
theorem dX8_readTask_84 : decode cX8_readTask 84 = .ok (.invokevirtual 242, 3) := by decide +kernel
theorem dX8_readTask_87 : decode cX8_readTask 87 = .ok (.iastore, 1) := by decide +kernel
theorem dX8_readTask_88 : decode cX8_readTask 88 = .ok (.return_, 1) := by decide +kernel
set_option maxRecDepth 20000 in
theorem ggX8_readText_X8_byteAt : GoodIn wsX8_readText wsX8_byteAt := goodIn_r _ [10, 4, 11, 35, 36, 37, 38, 39, 40, 41, 42, 43, 44, 45, 46, 47, 48, 49, 50, 51, 52, 53, 54, 55, 56, 57, 58, 59, 60, 61, 62, 63, 64] (by decide +kernel) (by decide +kernel)
set_option maxRecDepth 20000 in
theorem gX8_readText_X8_byteAt : GoodIn wsX8_readText (wsV RX8 229 RX8 yX8_byteAt wsX8_byteAt) := goodIn_app (goodIn_of _ (by decide +kernel)) ggX8_readText_X8_byteAt
set_option maxRecDepth 20000 in
theorem ggX8_readText_X8_readTask : GoodIn wsX8_readText wsX8_readTask := goodIn_r _ [15, 5, 16, 17, 18, 9, 19, 1, 2, 6, 7, 8, 10, 4, 11, 20, 21, 22, 23, 24, 25, 26, 27, 28, 29, 30, 31, 32, 33, 34, 35, 36, 37, 38, 39, 40, 41, 42, 43, 44, 45, 46, 47, 48, 49, 50, 51, 52, 53, 54, 55, 56, 57, 58, 59, 60, 61, 62, 63, 64] (by decide +kernel) (by decide +kernel)
set_option maxRecDepth 20000 in
theorem gX8_readText_X8_readTask : GoodIn wsX8_readText (wsV RX8 249 RX8 yX8_readTask wsX8_readTask) := goodIn_app (goodIn_of _ (by decide +kernel)) ggX8_readText_X8_readTask
set_option maxRecDepth 20000 in
theorem ggX8_readText_X8_takeDigit : GoodIn wsX8_readText wsX8_takeDigit := goodIn_r _ [19, 1, 2, 6, 7, 8, 9, 10, 4, 11, 20, 21, 22, 23, 24, 25, 26, 35, 36, 37, 38, 39, 40, 41, 42, 43, 44, 45, 46, 47, 48, 49, 50, 51, 52, 53, 54, 55, 56, 57, 58, 59, 60, 61, 62, 63, 64] (by decide +kernel) (by decide +kernel)
set_option maxRecDepth 20000 in
theorem gX8_readText_X8_takeDigit : GoodIn wsX8_readText (wsV RX8 236 RX8 yX8_takeDigit wsX8_takeDigit) := goodIn_app (goodIn_of _ (by decide +kernel)) ggX8_readText_X8_takeDigit
set_option maxRecDepth 20000 in
theorem ggX8_readText_X8_fail : GoodIn wsX8_readText wsX8_fail := goodIn_r _ [26, 2, 35, 36, 37, 38, 39, 40, 41, 42, 43, 44, 45, 46, 47, 48, 49, 50, 51, 52, 53, 54, 55, 56, 57, 58, 59, 60, 61, 62, 63, 64] (by decide +kernel) (by decide +kernel)
set_option maxRecDepth 20000 in
theorem gX8_readText_X8_fail : GoodIn wsX8_readText (wsV RX8 232 RX8 yX8_fail wsX8_fail) := goodIn_app (goodIn_of _ (by decide +kernel)) ggX8_readText_X8_fail
set_option maxRecDepth 20000 in
theorem ggX8_readText_X8_takeByte : GoodIn wsX8_readText wsX8_takeByte := goodIn_r _ [30, 2, 1, 6, 7, 8, 9, 10, 4, 11, 23, 24, 25, 26, 35, 36, 37, 38, 39, 40, 41, 42, 43, 44, 45, 46, 47, 48, 49, 50, 51, 52, 53, 54, 55, 56, 57, 58, 59, 60, 61, 62, 63, 64] (by decide +kernel) (by decide +kernel)
set_option maxRecDepth 20000 in
theorem gX8_readText_X8_takeByte : GoodIn wsX8_readText (wsV RX8 239 RX8 yX8_takeByte wsX8_takeByte) := goodIn_app (goodIn_of _ (by decide +kernel)) ggX8_readText_X8_takeByte
theorem dX8_readText_0 : decode cX8_readText 0 = .ok (.aload_n 0, 1) := by decide +kernel
theorem dX8_readText_1 : decode cX8_readText 1 = .ok (.iconst 0, 1) := by decide +kernel
theorem dX8_readText_2 : decode cX8_readText 2 = .ok (.putfield 226, 3) := by decide +kernel
theorem dX8_readText_5 : decode cX8_readText 5 = .ok (.aload_n 0, 1) := by decide +kernel
theorem dX8_readText_6 : decode cX8_readText 6 = .ok (.iconst (-1), 1) := by decide +kernel
theorem dX8_readText_7 : decode cX8_readText 7 = .ok (.putfield 223, 3) := by decide +kernel
theorem dX8_readText_10 : decode cX8_readText 10 = .ok (.aload_n 0, 1) := by decide +kernel
theorem dX8_readText_11 : decode cX8_readText 11 = .ok (.iconst 0, 1) := by decide +kernel
theorem dX8_readText_12 : decode cX8_readText 12 = .ok (.putfield 246, 3) := by decide +kernel
theorem dX8_readText_15 : decode cX8_readText 15 = .ok (.aload_n 0, 1) := by decide +kernel
theorem dX8_readText_16 : decode cX8_readText 16 = .ok (.getfield 226, 3) := by decide +kernel
theorem dX8_readText_19 : decode cX8_readText 19 = .ok (.aload_n 0, 1) := by decide +kernel
theorem dX8_readText_20 : decode cX8_readText 20 = .ok (.getfield 220, 3) := by decide +kernel
theorem dX8_readText_23 : decode cX8_readText 23 = .ok (.if_icmp .ge 148, 3) := by decide +kernel
theorem dX8_readText_26 : decode cX8_readText 26 = .ok (.aload_n 0, 1) := by decide +kernel
theorem dX8_readText_27 : decode cX8_readText 27 = .ok (.getfield 223, 3) := by decide +kernel
theorem dX8_readText_30 : decode cX8_readText 30 = .ok (.iconst (-1), 1) := by decide +kernel
theorem dX8_readText_31 : decode cX8_readText 31 = .ok (.if_icmp .ne 140, 3) := by decide +kernel
theorem dX8_readText_34 : decode cX8_readText 34 = .ok (.iconst 5, 1) := by decide +kernel
theorem dX8_readText_35 : decode cX8_readText 35 = .ok (.aload_n 0, 1) := by decide +kernel
theorem dX8_readText_36 : decode cX8_readText 36 = .ok (.getfield 246, 3) := by decide +kernel
theorem dX8_readText_39 : decode cX8_readText 39 = .ok (.imul, 1) := by decide +kernel
theorem dX8_readText_40 : decode cX8_readText 40 = .ok (.istore_n 1, 1) := by decide +kernel
theorem dX8_readText_41 : decode cX8_readText 41 = .ok (.aload_n 0, 1) := by decide +kernel
theorem dX8_readText_42 : decode cX8_readText 42 = .ok (.aload_n 0, 1) := by decide +kernel
theorem dX8_readText_43 : decode cX8_readText 43 = .ok (.getfield 226, 3) := by decide +kernel
theorem dX8_readText_46 : decode cX8_readText 46 = .ok (.invokevirtual 229, 3) := by decide +kernel
theorem dX8_readText_49 : decode cX8_readText 49 = .ok (.istore_n 2, 1) := by decide +kernel
theorem dX8_readText_50 : decode cX8_readText 50 = .ok (.iload_n 2, 1) := by decide +kernel
theorem dX8_readText_51 : decode cX8_readText 51 = .ok (.bipush 116, 2) := by decide +kernel
theorem dX8_readText_53 : decode cX8_readText 53 = .ok (.if_icmp .ne 21, 3) := by decide +kernel
theorem dX8_readText_56 : decode cX8_readText 56 = .ok (.aload_n 0, 1) := by decide +kernel
theorem dX8_readText_57 : decode cX8_readText 57 = .ok (.dup, 1) := by decide +kernel
theorem dX8_readText_58 : decode cX8_readText 58 = .ok (.getfield 226, 3) := by decide +kernel
theorem dX8_readText_61 : decode cX8_readText 61 = .ok (.iconst 1, 1) := by decide +kernel
theorem dX8_readText_62 : decode cX8_readText 62 = .ok (.iadd, 1) := by decide +kernel
theorem dX8_readText_63 : decode cX8_readText 63 = .ok (.putfield 226, 3) := by decide +kernel
theorem dX8_readText_66 : decode cX8_readText 66 = .ok (.aload_n 0, 1) := by decide +kernel
theorem dX8_readText_67 : decode cX8_readText 67 = .ok (.iload_n 1, 1) := by decide +kernel
theorem dX8_readText_68 : decode cX8_readText 68 = .ok (.invokevirtual 249, 3) := by decide +kernel
theorem dX8_readText_71 : decode cX8_readText 71 = .ok (.goto 81, 3) := by decide +kernel
theorem dX8_readText_74 : decode cX8_readText 74 = .ok (.iload_n 2, 1) := by decide +kernel
theorem dX8_readText_75 : decode cX8_readText 75 = .ok (.bipush 112, 2) := by decide +kernel
theorem dX8_readText_77 : decode cX8_readText 77 = .ok (.if_icmp .eq 9, 3) := by decide +kernel
theorem dX8_readText_80 : decode cX8_readText 80 = .ok (.iload_n 2, 1) := by decide +kernel
theorem dX8_readText_81 : decode cX8_readText 81 = .ok (.bipush 113, 2) := by decide +kernel
theorem dX8_readText_83 : decode cX8_readText 83 = .ok (.if_icmp .ne 61, 3) := by decide +kernel
theorem dX8_readText_86 : decode cX8_readText 86 = .ok (.aload_n 0, 1) := by decide +kernel
theorem dX8_readText_87 : decode cX8_readText 87 = .ok (.dup, 1) := by decide +kernel
theorem dX8_readText_88 : decode cX8_readText 88 = .ok (.getfield 226, 3) := by decide +kernel
theorem dX8_readText_91 : decode cX8_readText 91 = .ok (.iconst 1, 1) := by decide +kernel
theorem dX8_readText_92 : decode cX8_readText 92 = .ok (.iadd, 1) := by decide +kernel
theorem dX8_readText_93 : decode cX8_readText 93 = .ok (.putfield 226, 3) := by decide +kernel
theorem dX8_readText_96 : decode cX8_readText 96 = .ok (.aload_n 0, 1) := by decide +kernel
theorem dX8_readText_97 : decode cX8_readText 97 = .ok (.getfield 72, 3) := by decide +kernel
theorem dX8_readText_100 : decode cX8_readText 100 = .ok (.iload_n 1, 1) := by decide +kernel
theorem dX8_readText_101 : decode cX8_readText 101 = .ok (.iload_n 2, 1) := by decide +kernel
theorem dX8_readText_102 : decode cX8_readText 102 = .ok (.bipush 112, 2) := by decide +kernel
theorem dX8_readText_104 : decode cX8_readText 104 = .ok (.if_icmp .ne 7, 3) := by decide +kernel
theorem dX8_readText_107 : decode cX8_readText 107 = .ok (.iconst 1, 1) := by decide +kernel
theorem dX8_readText_108 : decode cX8_readText 108 = .ok (.goto 4, 3) := by decide +kernel
theorem dX8_readText_111 : decode cX8_readText 111 = .ok (.iconst 2, 1) := by decide +kernel
theorem dX8_readText_112 : decode cX8_readText 112 = .ok (.iastore, 1) := by decide +kernel
theorem dX8_readText_113 : decode cX8_readText 113 = .ok (.aload_n 0, 1) := by decide +kernel
theorem dX8_readText_114 : decode cX8_readText 114 = .ok (.getfield 72, 3) := by decide +kernel
theorem dX8_readText_117 : decode cX8_readText 117 = .ok (.iload_n 1, 1) := by decide +kernel
theorem dX8_readText_118 : decode cX8_readText 118 = .ok (.iconst 1, 1) := by decide +kernel
theorem dX8_readText_119 : decode cX8_readText 119 = .ok (.iadd, 1) := by decide +kernel
theorem dX8_readText_120 : decode cX8_readText 120 = .ok (.aload_n 0, 1) := by decide +kernel
theorem dX8_readText_121 : decode cX8_readText 121 = .ok (.bipush 7, 2) := by decide +kernel
theorem dX8_readText_123 : decode cX8_readText 123 = .ok (.invokevirtual 236, 3) := by decide +kernel
theorem dX8_readText_126 : decode cX8_readText 126 = .ok (.iastore, 1) := by decide +kernel
theorem dX8_readText_127 : decode cX8_readText 127 = .ok (.aload_n 0, 1) := by decide +kernel
theorem dX8_readText_128 : decode cX8_readText 128 = .ok (.getfield 72, 3) := by decide +kernel
theorem dX8_readText_131 : decode cX8_readText 131 = .ok (.iload_n 1, 1) := by decide +kernel
theorem dX8_readText_132 : decode cX8_readText 132 = .ok (.iconst 2, 1) := by decide +kernel
theorem dX8_readText_133 : decode cX8_readText 133 = .ok (.iadd, 1) := by decide +kernel
theorem dX8_readText_134 : decode cX8_readText 134 = .ok (.aload_n 0, 1) := by decide +kernel
theorem dX8_readText_135 : decode cX8_readText 135 = .ok (.bipush 7, 2) := by decide +kernel
theorem dX8_readText_137 : decode cX8_readText 137 = .ok (.invokevirtual 236, 3) := by decide +kernel
theorem dX8_readText_140 : decode cX8_readText 140 = .ok (.iastore, 1) := by decide +kernel
theorem dX8_readText_141 : decode cX8_readText 141 = .ok (.goto 11, 3) := by decide +kernel
theorem dX8_readText_144 : decode cX8_readText 144 = .ok (.aload_n 0, 1) := by decide +kernel
theorem dX8_readText_145 : decode cX8_readText 145 = .ok (.aload_n 0, 1) := by decide +kernel
theorem dX8_readText_146 : decode cX8_readText 146 = .ok (.getfield 226, 3) := by decide +kernel
theorem dX8_readText_149 : decode cX8_readText 149 = .ok (.invokevirtual 232, 3) := by decide +kernel
theorem dX8_readText_152 : decode cX8_readText 152 = .ok (.aload_n 0, 1) := by decide +kernel
theorem dX8_readText_153 : decode cX8_readText 153 = .ok (.bipush 59, 2) := by decide +kernel
theorem dX8_readText_155 : decode cX8_readText 155 = .ok (.invokevirtual 239, 3) := by decide +kernel
theorem dX8_readText_158 : decode cX8_readText 158 = .ok (.aload_n 0, 1) := by decide +kernel
theorem dX8_readText_159 : decode cX8_readText 159 = .ok (.dup, 1) := by decide +kernel
theorem dX8_readText_160 : decode cX8_readText 160 = .ok (.getfield 246, 3) := by decide +kernel
theorem dX8_readText_163 : decode cX8_readText 163 = .ok (.iconst 1, 1) := by decide +kernel
theorem dX8_readText_164 : decode cX8_readText 164 = .ok (.iadd, 1) := by decide +kernel
theorem dX8_readText_165 : decode cX8_readText 165 = .ok (.putfield 246, 3) := by decide +kernel
theorem dX8_readText_168 : decode cX8_readText 168 = .ok (.goto (-153), 3) := by decide +kernel
theorem dX8_readText_171 : decode cX8_readText 171 = .ok (.return_, 1) := by decide +kernel
set_option maxRecDepth 20000 in
theorem ggX8_does_X8_whyNoTask : GoodIn wsX8_does wsX8_whyNoTask := goodIn_r _ [6, 7, 8, 9, 10, 5, 11, 40, 41, 42, 43, 44, 45, 46, 47, 48, 49, 50, 51, 52, 53, 54, 55, 56, 57, 58, 59, 60, 61, 62, 63, 64, 65, 66, 67, 68, 69] (by decide +kernel) (by decide +kernel)
set_option maxRecDepth 20000 in
theorem gX8_does_X8_whyNoTask : GoodIn wsX8_does (wsV RX8 91 RX8 yX8_whyNoTask wsX8_whyNoTask) := goodIn_app (goodIn_of _ (by decide +kernel)) ggX8_does_X8_whyNoTask
set_option maxRecDepth 20000 in
theorem ggX8_does_X8_putTask : GoodIn wsX8_does wsX8_putTask := goodIn_r _ [15, 8, 16, 17, 18, 19, 20, 40, 41, 42, 43, 44, 45, 46, 47, 48, 49, 50, 51, 52, 53, 54, 55, 56, 57, 58, 59, 60, 61, 62, 63, 64, 65, 66, 67, 68, 69] (by decide +kernel) (by decide +kernel)
set_option maxRecDepth 20000 in
theorem gX8_does_X8_putTask : GoodIn wsX8_does (wsV RX8 95 RX8 yX8_putTask wsX8_putTask) := goodIn_app (goodIn_of _ (by decide +kernel)) ggX8_does_X8_putTask
set_option maxRecDepth 20000 in
theorem ggX8_does_X8_whyNotGive : GoodIn wsX8_does wsX8_whyNotGive := goodIn_r _ [24, 20, 25, 26, 27, 5, 28, 8, 29, 30, 31, 32, 33, 34, 35, 40, 41, 42, 43, 44, 45, 46, 47, 48, 49, 50, 51, 52, 53, 54, 55, 56, 57, 58, 59, 60, 61, 62, 63, 64, 65, 66, 67, 68, 69] (by decide +kernel) (by decide +kernel)
set_option maxRecDepth 20000 in
theorem gX8_does_X8_whyNotGive : GoodIn wsX8_does (wsV RX8 113 RX8 yX8_whyNotGive wsX8_whyNotGive) := goodIn_app (goodIn_of _ (by decide +kernel)) ggX8_does_X8_whyNotGive
set_option maxRecDepth 20000 in
theorem ggX8_does_X8_putGiven : GoodIn wsX8_does wsX8_putGiven := goodIn_r _ [39, 20, 40, 41, 42, 43, 44, 45, 46, 47, 48, 49, 50, 51, 52, 53, 54, 55, 56, 57, 58, 59, 60, 61, 62, 63, 64, 65, 66, 67, 68, 69] (by decide +kernel) (by decide +kernel)
set_option maxRecDepth 20000 in
theorem gX8_does_X8_putGiven : GoodIn wsX8_does (wsV RX8 117 RX8 yX8_putGiven wsX8_putGiven) := goodIn_app (goodIn_of _ (by decide +kernel)) ggX8_does_X8_putGiven
theorem dX8_does_0 : decode cX8_does 0 = .ok (.aload_n 0, 1) := by decide +kernel
theorem dX8_does_1 : decode cX8_does 1 = .ok (.getfield 72, 3) := by decide +kernel
theorem dX8_does_4 : decode cX8_does 4 = .ok (.iload_n 1, 1) := by decide +kernel
theorem dX8_does_5 : decode cX8_does 5 = .ok (.iaload, 1) := by decide +kernel
theorem dX8_does_6 : decode cX8_does 6 = .ok (.ifCond .ne 83, 3) := by decide +kernel
theorem dX8_does_9 : decode cX8_does 9 = .ok (.aload_n 0, 1) := by decide +kernel
theorem dX8_does_10 : decode cX8_does 10 = .ok (.aload_n 0, 1) := by decide +kernel
theorem dX8_does_11 : decode cX8_does 11 = .ok (.getfield 72, 3) := by decide +kernel
theorem dX8_does_14 : decode cX8_does 14 = .ok (.iload_n 1, 1) := by decide +kernel
theorem dX8_does_15 : decode cX8_does 15 = .ok (.iconst 1, 1) := by decide +kernel
theorem dX8_does_16 : decode cX8_does 16 = .ok (.iadd, 1) := by decide +kernel
theorem dX8_does_17 : decode cX8_does 17 = .ok (.iaload, 1) := by decide +kernel
theorem dX8_does_18 : decode cX8_does 18 = .ok (.aload_n 0, 1) := by decide +kernel
theorem dX8_does_19 : decode cX8_does 19 = .ok (.getfield 72, 3) := by decide +kernel
theorem dX8_does_22 : decode cX8_does 22 = .ok (.iload_n 1, 1) := by decide +kernel
theorem dX8_does_23 : decode cX8_does 23 = .ok (.iconst 2, 1) := by decide +kernel
theorem dX8_does_24 : decode cX8_does 24 = .ok (.iadd, 1) := by decide +kernel
theorem dX8_does_25 : decode cX8_does 25 = .ok (.iaload, 1) := by decide +kernel
theorem dX8_does_26 : decode cX8_does 26 = .ok (.aload_n 0, 1) := by decide +kernel
theorem dX8_does_27 : decode cX8_does 27 = .ok (.getfield 72, 3) := by decide +kernel
theorem dX8_does_30 : decode cX8_does 30 = .ok (.iload_n 1, 1) := by decide +kernel
theorem dX8_does_31 : decode cX8_does 31 = .ok (.iconst 3, 1) := by decide +kernel
theorem dX8_does_32 : decode cX8_does 32 = .ok (.iadd, 1) := by decide +kernel
theorem dX8_does_33 : decode cX8_does 33 = .ok (.iaload, 1) := by decide +kernel
theorem dX8_does_34 : decode cX8_does 34 = .ok (.aload_n 0, 1) := by decide +kernel
theorem dX8_does_35 : decode cX8_does 35 = .ok (.getfield 72, 3) := by decide +kernel
theorem dX8_does_38 : decode cX8_does 38 = .ok (.iload_n 1, 1) := by decide +kernel
theorem dX8_does_39 : decode cX8_does 39 = .ok (.iconst 4, 1) := by decide +kernel
theorem dX8_does_40 : decode cX8_does 40 = .ok (.iadd, 1) := by decide +kernel
theorem dX8_does_41 : decode cX8_does 41 = .ok (.iaload, 1) := by decide +kernel
theorem dX8_does_42 : decode cX8_does 42 = .ok (.invokevirtual 91, 3) := by decide +kernel
theorem dX8_does_45 : decode cX8_does 45 = .ok (.ifCond .le 5, 3) := by decide +kernel
theorem dX8_does_48 : decode cX8_does 48 = .ok (.iconst 0, 1) := by decide +kernel
theorem dX8_does_49 : decode cX8_does 49 = .ok (.ireturn, 1) := by decide +kernel
theorem dX8_does_50 : decode cX8_does 50 = .ok (.aload_n 0, 1) := by decide +kernel
theorem dX8_does_51 : decode cX8_does 51 = .ok (.aload_n 0, 1) := by decide +kernel
theorem dX8_does_52 : decode cX8_does 52 = .ok (.getfield 72, 3) := by decide +kernel
theorem dX8_does_55 : decode cX8_does 55 = .ok (.iload_n 1, 1) := by decide +kernel
theorem dX8_does_56 : decode cX8_does 56 = .ok (.iconst 1, 1) := by decide +kernel
theorem dX8_does_57 : decode cX8_does 57 = .ok (.iadd, 1) := by decide +kernel
theorem dX8_does_58 : decode cX8_does 58 = .ok (.iaload, 1) := by decide +kernel
theorem dX8_does_59 : decode cX8_does 59 = .ok (.aload_n 0, 1) := by decide +kernel
theorem dX8_does_60 : decode cX8_does 60 = .ok (.getfield 72, 3) := by decide +kernel
theorem dX8_does_63 : decode cX8_does 63 = .ok (.iload_n 1, 1) := by decide +kernel
theorem dX8_does_64 : decode cX8_does 64 = .ok (.iconst 2, 1) := by decide +kernel
theorem dX8_does_65 : decode cX8_does 65 = .ok (.iadd, 1) := by decide +kernel
theorem dX8_does_66 : decode cX8_does 66 = .ok (.iaload, 1) := by decide +kernel
theorem dX8_does_67 : decode cX8_does 67 = .ok (.aload_n 0, 1) := by decide +kernel
theorem dX8_does_68 : decode cX8_does 68 = .ok (.getfield 72, 3) := by decide +kernel
theorem dX8_does_71 : decode cX8_does 71 = .ok (.iload_n 1, 1) := by decide +kernel
theorem dX8_does_72 : decode cX8_does 72 = .ok (.iconst 3, 1) := by decide +kernel
theorem dX8_does_73 : decode cX8_does 73 = .ok (.iadd, 1) := by decide +kernel
theorem dX8_does_74 : decode cX8_does 74 = .ok (.iaload, 1) := by decide +kernel
theorem dX8_does_75 : decode cX8_does 75 = .ok (.aload_n 0, 1) := by decide +kernel
theorem dX8_does_76 : decode cX8_does 76 = .ok (.getfield 72, 3) := by decide +kernel
theorem dX8_does_79 : decode cX8_does 79 = .ok (.iload_n 1, 1) := by decide +kernel
theorem dX8_does_80 : decode cX8_does 80 = .ok (.iconst 4, 1) := by decide +kernel
theorem dX8_does_81 : decode cX8_does 81 = .ok (.iadd, 1) := by decide +kernel
theorem dX8_does_82 : decode cX8_does 82 = .ok (.iaload, 1) := by decide +kernel
theorem dX8_does_83 : decode cX8_does 83 = .ok (.invokevirtual 95, 3) := by decide +kernel
theorem dX8_does_86 : decode cX8_does 86 = .ok (.pop, 1) := by decide +kernel
theorem dX8_does_87 : decode cX8_does 87 = .ok (.iconst 1, 1) := by decide +kernel
theorem dX8_does_88 : decode cX8_does 88 = .ok (.ireturn, 1) := by decide +kernel
theorem dX8_does_89 : decode cX8_does 89 = .ok (.aload_n 0, 1) := by decide +kernel
theorem dX8_does_90 : decode cX8_does 90 = .ok (.getfield 72, 3) := by decide +kernel
theorem dX8_does_93 : decode cX8_does 93 = .ok (.iload_n 1, 1) := by decide +kernel
theorem dX8_does_94 : decode cX8_does 94 = .ok (.iaload, 1) := by decide +kernel
theorem dX8_does_95 : decode cX8_does 95 = .ok (.iconst 1, 1) := by decide +kernel
theorem dX8_does_96 : decode cX8_does 96 = .ok (.if_icmp .ne 7, 3) := by decide +kernel
theorem dX8_does_99 : decode cX8_does 99 = .ok (.iconst 1, 1) := by decide +kernel
theorem dX8_does_100 : decode cX8_does 100 = .ok (.goto 4, 3) := by decide +kernel
theorem dX8_does_103 : decode cX8_does 103 = .ok (.iconst 0, 1) := by decide +kernel
theorem dX8_does_104 : decode cX8_does 104 = .ok (.istore_n 2, 1) := by decide +kernel
theorem dX8_does_105 : decode cX8_does 105 = .ok (.aload_n 0, 1) := by decide +kernel
theorem dX8_does_106 : decode cX8_does 106 = .ok (.aload_n 0, 1) := by decide +kernel
theorem dX8_does_107 : decode cX8_does 107 = .ok (.getfield 72, 3) := by decide +kernel
theorem dX8_does_110 : decode cX8_does 110 = .ok (.iload_n 1, 1) := by decide +kernel
theorem dX8_does_111 : decode cX8_does 111 = .ok (.iconst 1, 1) := by decide +kernel
theorem dX8_does_112 : decode cX8_does 112 = .ok (.iadd, 1) := by decide +kernel
theorem dX8_does_113 : decode cX8_does 113 = .ok (.iaload, 1) := by decide +kernel
theorem dX8_does_114 : decode cX8_does 114 = .ok (.aload_n 0, 1) := by decide +kernel
theorem dX8_does_115 : decode cX8_does 115 = .ok (.getfield 72, 3) := by decide +kernel
theorem dX8_does_118 : decode cX8_does 118 = .ok (.iload_n 1, 1) := by decide +kernel
theorem dX8_does_119 : decode cX8_does 119 = .ok (.iconst 2, 1) := by decide +kernel
theorem dX8_does_120 : decode cX8_does 120 = .ok (.iadd, 1) := by decide +kernel
theorem dX8_does_121 : decode cX8_does 121 = .ok (.iaload, 1) := by decide +kernel
theorem dX8_does_122 : decode cX8_does 122 = .ok (.iload_n 2, 1) := by decide +kernel
theorem dX8_does_123 : decode cX8_does 123 = .ok (.invokevirtual 113, 3) := by decide +kernel
theorem dX8_does_126 : decode cX8_does 126 = .ok (.ifCond .le 5, 3) := by decide +kernel
theorem dX8_does_129 : decode cX8_does 129 = .ok (.iconst 0, 1) := by decide +kernel
theorem dX8_does_130 : decode cX8_does 130 = .ok (.ireturn, 1) := by decide +kernel
theorem dX8_does_131 : decode cX8_does 131 = .ok (.aload_n 0, 1) := by decide +kernel
theorem dX8_does_132 : decode cX8_does 132 = .ok (.aload_n 0, 1) := by decide +kernel
theorem dX8_does_133 : decode cX8_does 133 = .ok (.getfield 72, 3) := by decide +kernel
theorem dX8_does_136 : decode cX8_does 136 = .ok (.iload_n 1, 1) := by decide +kernel
theorem dX8_does_137 : decode cX8_does 137 = .ok (.iconst 1, 1) := by decide +kernel
theorem dX8_does_138 : decode cX8_does 138 = .ok (.iadd, 1) := by decide +kernel
theorem dX8_does_139 : decode cX8_does 139 = .ok (.iaload, 1) := by decide +kernel
theorem dX8_does_140 : decode cX8_does 140 = .ok (.aload_n 0, 1) := by decide +kernel
theorem dX8_does_141 : decode cX8_does 141 = .ok (.getfield 72, 3) := by decide +kernel
theorem dX8_does_144 : decode cX8_does 144 = .ok (.iload_n 1, 1) := by decide +kernel
theorem dX8_does_145 : decode cX8_does 145 = .ok (.iconst 2, 1) := by decide +kernel
theorem dX8_does_146 : decode cX8_does 146 = .ok (.iadd, 1) := by decide +kernel
theorem dX8_does_147 : decode cX8_does 147 = .ok (.iaload, 1) := by decide +kernel
theorem dX8_does_148 : decode cX8_does 148 = .ok (.iload_n 2, 1) := by decide +kernel
theorem dX8_does_149 : decode cX8_does 149 = .ok (.invokevirtual 117, 3) := by decide +kernel
theorem dX8_does_152 : decode cX8_does 152 = .ok (.iconst 1, 1) := by decide +kernel
theorem dX8_does_153 : decode cX8_does 153 = .ok (.ireturn, 1) := by decide +kernel
set_option maxRecDepth 20000 in
theorem ggX8_carryOut_X8_readText : GoodIn wsX8_carryOut wsX8_readText := goodIn_r _ [8, 9, 2, 3, 10, 11, 12, 13, 14, 7, 15, 16, 17, 18, 19, 20, 21, 22, 23, 24, 25, 26, 27, 28, 29, 30, 31, 32, 33, 34, 35, 36, 37, 38, 39, 84, 85, 86, 87, 88, 89, 90, 91, 92, 93, 94, 95, 96, 97, 98, 99, 100, 101, 102, 103, 104, 105, 106, 107, 108, 109, 110, 111, 112, 113] (by decide +kernel) (by decide +kernel)
set_option maxRecDepth 20000 in
theorem gX8_carryOut_X8_readText : GoodIn wsX8_carryOut (wsV RX8 252 RX8 yX8_readText wsX8_readText) := goodIn_app (goodIn_of _ (by decide +kernel)) ggX8_carryOut_X8_readText
set_option maxRecDepth 20000 in
theorem ggX8_carryOut_X8_save : GoodIn wsX8_carryOut wsX8_save := goodIn_r _ [43, 44, 45, 46, 47, 48, 49, 50, 51, 52, 84, 85, 86, 87, 88, 89, 90, 91, 92, 93, 94, 95, 96, 97, 98, 99, 100, 101, 102, 103, 104, 105, 106, 107, 108, 109, 110, 111, 112, 113] (by decide +kernel) (by decide +kernel)
set_option maxRecDepth 20000 in
theorem gX8_carryOut_X8_save : GoodIn wsX8_carryOut (wsV RX8 88 RX8 yX8_save wsX8_save) := goodIn_app (goodIn_of _ (by decide +kernel)) ggX8_carryOut_X8_save
set_option maxRecDepth 20000 in
theorem ggX8_carryOut_X8_does : GoodIn wsX8_carryOut wsX8_does := goodIn_r _ [56, 11, 57, 58, 59, 7, 60, 46, 47, 25, 26, 27, 61, 62, 63, 64, 48, 49, 50, 51, 52, 65, 66, 67, 68, 69, 70, 71, 72, 73, 74, 75, 76, 77, 78, 79, 80, 81, 82, 83, 84, 85, 86, 87, 88, 89, 90, 91, 92, 93, 94, 95, 96, 97, 98, 99, 100, 101, 102, 103, 104, 105, 106, 107, 108, 109, 110, 111, 112, 113] (by decide +kernel) (by decide +kernel)
set_option maxRecDepth 20000 in
theorem gX8_carryOut_X8_does : GoodIn wsX8_carryOut (wsV RX8 255 RX8 yX8_does wsX8_does) := goodIn_app (goodIn_of _ (by decide +kernel)) ggX8_carryOut_X8_does
theorem dX8_carryOut_0 : decode cX8_carryOut 0 = .ok (.aload_n 0, 1) := by decide +kernel
theorem dX8_carryOut_1 : decode cX8_carryOut 1 = .ok (.iconst 0, 1) := by decide +kernel
theorem dX8_carryOut_2 : decode cX8_carryOut 2 = .ok (.putfield 75, 3) := by decide +kernel
theorem dX8_carryOut_5 : decode cX8_carryOut 5 = .ok (.aload_n 0, 1) := by decide +kernel
theorem dX8_carryOut_6 : decode cX8_carryOut 6 = .ok (.invokevirtual 252, 3) := by decide +kernel
theorem dX8_carryOut_9 : decode cX8_carryOut 9 = .ok (.aload_n 0, 1) := by decide +kernel
theorem dX8_carryOut_10 : decode cX8_carryOut 10 = .ok (.getfield 223, 3) := by decide +kernel
theorem dX8_carryOut_13 : decode cX8_carryOut 13 = .ok (.iconst (-1), 1) := by decide +kernel
theorem dX8_carryOut_14 : decode cX8_carryOut 14 = .ok (.if_icmp .eq 11, 3) := by decide +kernel
theorem dX8_carryOut_17 : decode cX8_carryOut 17 = .ok (.bipush (-10), 2) := by decide +kernel
theorem dX8_carryOut_19 : decode cX8_carryOut 19 = .ok (.aload_n 0, 1) := by decide +kernel
theorem dX8_carryOut_20 : decode cX8_carryOut 20 = .ok (.getfield 223, 3) := by decide +kernel
theorem dX8_carryOut_23 : decode cX8_carryOut 23 = .ok (.isub, 1) := by decide +kernel
theorem dX8_carryOut_24 : decode cX8_carryOut 24 = .ok (.ireturn, 1) := by decide +kernel
theorem dX8_carryOut_25 : decode cX8_carryOut 25 = .ok (.aload_n 0, 1) := by decide +kernel
theorem dX8_carryOut_26 : decode cX8_carryOut 26 = .ok (.invokevirtual 88, 3) := by decide +kernel
theorem dX8_carryOut_29 : decode cX8_carryOut 29 = .ok (.iconst 0, 1) := by decide +kernel
theorem dX8_carryOut_30 : decode cX8_carryOut 30 = .ok (.istore_n 1, 1) := by decide +kernel
theorem dX8_carryOut_31 : decode cX8_carryOut 31 = .ok (.iload_n 1, 1) := by decide +kernel
theorem dX8_carryOut_32 : decode cX8_carryOut 32 = .ok (.aload_n 0, 1) := by decide +kernel
theorem dX8_carryOut_33 : decode cX8_carryOut 33 = .ok (.getfield 246, 3) := by decide +kernel
theorem dX8_carryOut_36 : decode cX8_carryOut 36 = .ok (.if_icmp .ge 19, 3) := by decide +kernel
theorem dX8_carryOut_39 : decode cX8_carryOut 39 = .ok (.aload_n 0, 1) := by decide +kernel
theorem dX8_carryOut_40 : decode cX8_carryOut 40 = .ok (.iconst 5, 1) := by decide +kernel
theorem dX8_carryOut_41 : decode cX8_carryOut 41 = .ok (.iload_n 1, 1) := by decide +kernel
theorem dX8_carryOut_42 : decode cX8_carryOut 42 = .ok (.imul, 1) := by decide +kernel
theorem dX8_carryOut_43 : decode cX8_carryOut 43 = .ok (.invokevirtual 255, 3) := by decide +kernel
theorem dX8_carryOut_46 : decode cX8_carryOut 46 = .ok (.ifCond .eq 9, 3) := by decide +kernel
theorem dX8_carryOut_49 : decode cX8_carryOut 49 = .ok (.iinc 1 1, 3) := by decide +kernel
theorem dX8_carryOut_52 : decode cX8_carryOut 52 = .ok (.goto (-21), 3) := by decide +kernel
theorem dX8_carryOut_55 : decode cX8_carryOut 55 = .ok (.iload_n 1, 1) := by decide +kernel
theorem dX8_carryOut_56 : decode cX8_carryOut 56 = .ok (.ireturn, 1) := by decide +kernel
set_option maxRecDepth 20000 in
theorem ggX8_digest_X8_number : GoodIn wsX8_digest wsX8_number := goodIn_r _ [19, 20, 5, 21, 22, 23, 18, 24, 10, 25, 26, 27, 28, 29, 30, 31, 6, 32, 33, 34, 35, 11, 7, 12, 8, 13, 36, 37, 38, 39, 40, 41, 42, 9, 43, 44, 45, 46, 47, 48, 49, 50, 51, 52, 53, 54, 55, 56, 57, 58, 59, 60, 61, 62, 63, 64, 65, 66, 67, 68, 69, 70, 71, 72, 73, 74, 75, 76, 77, 78, 79, 80, 81, 82, 83, 84, 85, 86, 87, 88, 89, 94, 95, 96, 97, 98, 99, 100, 101, 102, 103, 104, 105, 106, 107, 108, 109, 110, 111, 112, 113, 114, 115, 116, 117, 118, 119, 120, 121, 122, 123] (by decide +kernel) (by decide +kernel)
set_option maxRecDepth 20000 in
theorem gX8_digest_X8_number : GoodIn wsX8_digest (wsV RX8 179 RX8 yX8_number wsX8_number) := goodIn_app (goodIn_of _ (by decide +kernel)) ggX8_digest_X8_number
set_option maxRecDepth 20000 in
theorem ggX8_digest_X8_reason : GoodIn wsX8_digest wsX8_reason := goodIn_r _ [35, 5, 11, 7, 12, 8, 13, 10, 36, 37, 38, 39, 18, 40, 41, 42, 9, 6, 43, 44, 45, 46, 47, 48, 49, 50, 51, 52, 53, 54, 55, 56, 57, 58, 59, 60, 61, 62, 63, 64, 65, 66, 67, 68, 69, 70, 71, 72, 73, 74, 75, 76, 77, 78, 79, 80, 81, 82, 83, 84, 85, 94, 95, 96, 97, 98, 99, 100, 101, 102, 103, 104, 105, 106, 107, 108, 109, 110, 111, 112, 113, 114, 115, 116, 117, 118, 119, 120, 121, 122, 123] (by decide +kernel) (by decide +kernel)
set_option maxRecDepth 20000 in
theorem gX8_digest_X8_reason : GoodIn wsX8_digest (wsV RX8 173 RX8 yX8_reason wsX8_reason) := goodIn_app (goodIn_of _ (by decide +kernel)) ggX8_digest_X8_reason
set_option maxRecDepth 20000 in
theorem ggX8_digest_X8_givenTo : GoodIn wsX8_digest wsX8_givenTo := goodIn_r _ [93, 5, 10, 47, 48, 18, 49, 94, 95, 96, 97, 98, 99, 100, 101, 102, 103, 104, 105, 106, 107, 108, 109, 110, 111, 112, 113, 114, 115, 116, 117, 118, 119, 120, 121, 122, 123] (by decide +kernel) (by decide +kernel)
set_option maxRecDepth 20000 in
theorem gX8_digest_X8_givenTo : GoodIn wsX8_digest (wsV RX8 125 RX8 yX8_givenTo wsX8_givenTo) := goodIn_app (goodIn_of _ (by decide +kernel)) ggX8_digest_X8_givenTo
theorem dX8_digest_0 : decode cX8_digest 0 = .ok (.aload_n 0, 1) := by decide +kernel
theorem dX8_digest_1 : decode cX8_digest 1 = .ok (.iconst 0, 1) := by decide +kernel
theorem dX8_digest_2 : decode cX8_digest 2 = .ok (.putfield 75, 3) := by decide +kernel
theorem dX8_digest_5 : decode cX8_digest 5 = .ok (.ldc2_w 258, 3) := by decide +kernel
theorem dX8_digest_8 : decode cX8_digest 8 = .ok (.aload_n 0, 1) := by decide +kernel
theorem dX8_digest_9 : decode cX8_digest 9 = .ok (.getfield 220, 3) := by decide +kernel
theorem dX8_digest_12 : decode cX8_digest 12 = .ok (.i2l, 1) := by decide +kernel
theorem dX8_digest_13 : decode cX8_digest 13 = .ok (.ladd, 1) := by decide +kernel
theorem dX8_digest_14 : decode cX8_digest 14 = .ok (.lstore_n 1, 1) := by decide +kernel
theorem dX8_digest_15 : decode cX8_digest 15 = .ok (.iconst 0, 1) := by decide +kernel
theorem dX8_digest_16 : decode cX8_digest 16 = .ok (.istore_n 3, 1) := by decide +kernel
theorem dX8_digest_17 : decode cX8_digest 17 = .ok (.iload_n 3, 1) := by decide +kernel
theorem dX8_digest_18 : decode cX8_digest 18 = .ok (.bipush 6, 2) := by decide +kernel
theorem dX8_digest_20 : decode cX8_digest 20 = .ok (.if_icmp .ge 22, 3) := by decide +kernel
theorem dX8_digest_23 : decode cX8_digest 23 = .ok (.ldc2_w 260, 3) := by decide +kernel
theorem dX8_digest_26 : decode cX8_digest 26 = .ok (.lload_n 1, 1) := by decide +kernel
theorem dX8_digest_27 : decode cX8_digest 27 = .ok (.lmul, 1) := by decide +kernel
theorem dX8_digest_28 : decode cX8_digest 28 = .ok (.aload_n 0, 1) := by decide +kernel
theorem dX8_digest_29 : decode cX8_digest 29 = .ok (.iload_n 3, 1) := by decide +kernel
theorem dX8_digest_30 : decode cX8_digest 30 = .ok (.invokevirtual 179, 3) := by decide +kernel
theorem dX8_digest_33 : decode cX8_digest 33 = .ok (.i2l, 1) := by decide +kernel
theorem dX8_digest_34 : decode cX8_digest 34 = .ok (.ladd, 1) := by decide +kernel
theorem dX8_digest_35 : decode cX8_digest 35 = .ok (.lstore_n 1, 1) := by decide +kernel
theorem dX8_digest_36 : decode cX8_digest 36 = .ok (.iinc 3 1, 3) := by decide +kernel
theorem dX8_digest_39 : decode cX8_digest 39 = .ok (.goto (-22), 3) := by decide +kernel
theorem dX8_digest_42 : decode cX8_digest 42 = .ok (.aload_n 0, 1) := by decide +kernel
theorem dX8_digest_43 : decode cX8_digest 43 = .ok (.invokevirtual 173, 3) := by decide +kernel
theorem dX8_digest_46 : decode cX8_digest 46 = .ok (.istore_n 3, 1) := by decide +kernel
theorem dX8_digest_47 : decode cX8_digest 47 = .ok (.iconst 0, 1) := by decide +kernel
theorem dX8_digest_48 : decode cX8_digest 48 = .ok (.istore 4, 2) := by decide +kernel
theorem dX8_digest_50 : decode cX8_digest 50 = .ok (.iload 4, 2) := by decide +kernel
theorem dX8_digest_52 : decode cX8_digest 52 = .ok (.aload_n 0, 1) := by decide +kernel
theorem dX8_digest_53 : decode cX8_digest 53 = .ok (.getfield 78, 3) := by decide +kernel
theorem dX8_digest_56 : decode cX8_digest 56 = .ok (.if_icmp .ge 147, 3) := by decide +kernel
theorem dX8_digest_59 : decode cX8_digest 59 = .ok (.ldc2_w 260, 3) := by decide +kernel
theorem dX8_digest_62 : decode cX8_digest 62 = .ok (.lload_n 1, 1) := by decide +kernel
theorem dX8_digest_63 : decode cX8_digest 63 = .ok (.lmul, 1) := by decide +kernel
theorem dX8_digest_64 : decode cX8_digest 64 = .ok (.aload_n 0, 1) := by decide +kernel
theorem dX8_digest_65 : decode cX8_digest 65 = .ok (.getfield 13, 3) := by decide +kernel
theorem dX8_digest_68 : decode cX8_digest 68 = .ok (.iload 4, 2) := by decide +kernel
theorem dX8_digest_70 : decode cX8_digest 70 = .ok (.iaload, 1) := by decide +kernel
theorem dX8_digest_71 : decode cX8_digest 71 = .ok (.i2l, 1) := by decide +kernel
theorem dX8_digest_72 : decode cX8_digest 72 = .ok (.ladd, 1) := by decide +kernel
theorem dX8_digest_73 : decode cX8_digest 73 = .ok (.lstore_n 1, 1) := by decide +kernel
theorem dX8_digest_74 : decode cX8_digest 74 = .ok (.ldc2_w 260, 3) := by decide +kernel
theorem dX8_digest_77 : decode cX8_digest 77 = .ok (.lload_n 1, 1) := by decide +kernel
theorem dX8_digest_78 : decode cX8_digest 78 = .ok (.lmul, 1) := by decide +kernel
theorem dX8_digest_79 : decode cX8_digest 79 = .ok (.aload_n 0, 1) := by decide +kernel
theorem dX8_digest_80 : decode cX8_digest 80 = .ok (.getfield 17, 3) := by decide +kernel
theorem dX8_digest_83 : decode cX8_digest 83 = .ok (.iload 4, 2) := by decide +kernel
theorem dX8_digest_85 : decode cX8_digest 85 = .ok (.iaload, 1) := by decide +kernel
theorem dX8_digest_86 : decode cX8_digest 86 = .ok (.i2l, 1) := by decide +kernel
theorem dX8_digest_87 : decode cX8_digest 87 = .ok (.ladd, 1) := by decide +kernel
theorem dX8_digest_88 : decode cX8_digest 88 = .ok (.lstore_n 1, 1) := by decide +kernel
theorem dX8_digest_89 : decode cX8_digest 89 = .ok (.ldc2_w 260, 3) := by decide +kernel
theorem dX8_digest_92 : decode cX8_digest 92 = .ok (.lload_n 1, 1) := by decide +kernel
theorem dX8_digest_93 : decode cX8_digest 93 = .ok (.lmul, 1) := by decide +kernel
theorem dX8_digest_94 : decode cX8_digest 94 = .ok (.aload_n 0, 1) := by decide +kernel
theorem dX8_digest_95 : decode cX8_digest 95 = .ok (.getfield 20, 3) := by decide +kernel
theorem dX8_digest_98 : decode cX8_digest 98 = .ok (.iload 4, 2) := by decide +kernel
theorem dX8_digest_100 : decode cX8_digest 100 = .ok (.iaload, 1) := by decide +kernel
theorem dX8_digest_101 : decode cX8_digest 101 = .ok (.i2l, 1) := by decide +kernel
theorem dX8_digest_102 : decode cX8_digest 102 = .ok (.ladd, 1) := by decide +kernel
theorem dX8_digest_103 : decode cX8_digest 103 = .ok (.lstore_n 1, 1) := by decide +kernel
theorem dX8_digest_104 : decode cX8_digest 104 = .ok (.ldc2_w 260, 3) := by decide +kernel
theorem dX8_digest_107 : decode cX8_digest 107 = .ok (.lload_n 1, 1) := by decide +kernel
theorem dX8_digest_108 : decode cX8_digest 108 = .ok (.lmul, 1) := by decide +kernel
theorem dX8_digest_109 : decode cX8_digest 109 = .ok (.aload_n 0, 1) := by decide +kernel
theorem dX8_digest_110 : decode cX8_digest 110 = .ok (.getfield 23, 3) := by decide +kernel
theorem dX8_digest_113 : decode cX8_digest 113 = .ok (.iload 4, 2) := by decide +kernel
theorem dX8_digest_115 : decode cX8_digest 115 = .ok (.iaload, 1) := by decide +kernel
theorem dX8_digest_116 : decode cX8_digest 116 = .ok (.i2l, 1) := by decide +kernel
theorem dX8_digest_117 : decode cX8_digest 117 = .ok (.ladd, 1) := by decide +kernel
theorem dX8_digest_118 : decode cX8_digest 118 = .ok (.lstore_n 1, 1) := by decide +kernel
theorem dX8_digest_119 : decode cX8_digest 119 = .ok (.ldc2_w 260, 3) := by decide +kernel
theorem dX8_digest_122 : decode cX8_digest 122 = .ok (.lload_n 1, 1) := by decide +kernel
theorem dX8_digest_123 : decode cX8_digest 123 = .ok (.lmul, 1) := by decide +kernel
theorem dX8_digest_124 : decode cX8_digest 124 = .ok (.aload_n 0, 1) := by decide +kernel
theorem dX8_digest_125 : decode cX8_digest 125 = .ok (.iload 4, 2) := by decide +kernel
theorem dX8_digest_127 : decode cX8_digest 127 = .ok (.invokevirtual 125, 3) := by decide +kernel
theorem dX8_digest_130 : decode cX8_digest 130 = .ok (.i2l, 1) := by decide +kernel
theorem dX8_digest_131 : decode cX8_digest 131 = .ok (.ladd, 1) := by decide +kernel
theorem dX8_digest_132 : decode cX8_digest 132 = .ok (.lstore_n 1, 1) := by decide +kernel
theorem dX8_digest_133 : decode cX8_digest 133 = .ok (.ldc2_w 260, 3) := by decide +kernel
theorem dX8_digest_136 : decode cX8_digest 136 = .ok (.lload_n 1, 1) := by decide +kernel
theorem dX8_digest_137 : decode cX8_digest 137 = .ok (.lmul, 1) := by decide +kernel
theorem dX8_digest_138 : decode cX8_digest 138 = .ok (.aload_n 0, 1) := by decide +kernel
theorem dX8_digest_139 : decode cX8_digest 139 = .ok (.getfield 26, 3) := by decide +kernel
theorem dX8_digest_142 : decode cX8_digest 142 = .ok (.iload 4, 2) := by decide +kernel
theorem dX8_digest_144 : decode cX8_digest 144 = .ok (.iaload, 1) := by decide +kernel
theorem dX8_digest_145 : decode cX8_digest 145 = .ok (.i2l, 1) := by decide +kernel
theorem dX8_digest_146 : decode cX8_digest 146 = .ok (.ladd, 1) := by decide +kernel
theorem dX8_digest_147 : decode cX8_digest 147 = .ok (.lstore_n 1, 1) := by decide +kernel
theorem dX8_digest_148 : decode cX8_digest 148 = .ok (.iload_n 3, 1) := by decide +kernel
theorem dX8_digest_149 : decode cX8_digest 149 = .ok (.ifCond .eq 48, 3) := by decide +kernel
theorem dX8_digest_152 : decode cX8_digest 152 = .ok (.ldc2_w 260, 3) := by decide +kernel
theorem dX8_digest_155 : decode cX8_digest 155 = .ok (.lload_n 1, 1) := by decide +kernel
theorem dX8_digest_156 : decode cX8_digest 156 = .ok (.lmul, 1) := by decide +kernel
theorem dX8_digest_157 : decode cX8_digest 157 = .ok (.aload_n 0, 1) := by decide +kernel
theorem dX8_digest_158 : decode cX8_digest 158 = .ok (.getfield 35, 3) := by decide +kernel
theorem dX8_digest_161 : decode cX8_digest 161 = .ok (.iload 4, 2) := by decide +kernel
theorem dX8_digest_163 : decode cX8_digest 163 = .ok (.iaload, 1) := by decide +kernel
theorem dX8_digest_164 : decode cX8_digest 164 = .ok (.i2l, 1) := by decide +kernel
theorem dX8_digest_165 : decode cX8_digest 165 = .ok (.ladd, 1) := by decide +kernel
theorem dX8_digest_166 : decode cX8_digest 166 = .ok (.lstore_n 1, 1) := by decide +kernel
theorem dX8_digest_167 : decode cX8_digest 167 = .ok (.ldc2_w 260, 3) := by decide +kernel
theorem dX8_digest_170 : decode cX8_digest 170 = .ok (.lload_n 1, 1) := by decide +kernel
theorem dX8_digest_171 : decode cX8_digest 171 = .ok (.lmul, 1) := by decide +kernel
theorem dX8_digest_172 : decode cX8_digest 172 = .ok (.aload_n 0, 1) := by decide +kernel
theorem dX8_digest_173 : decode cX8_digest 173 = .ok (.getfield 38, 3) := by decide +kernel
theorem dX8_digest_176 : decode cX8_digest 176 = .ok (.iload 4, 2) := by decide +kernel
theorem dX8_digest_178 : decode cX8_digest 178 = .ok (.iaload, 1) := by decide +kernel
theorem dX8_digest_179 : decode cX8_digest 179 = .ok (.i2l, 1) := by decide +kernel
theorem dX8_digest_180 : decode cX8_digest 180 = .ok (.ladd, 1) := by decide +kernel
theorem dX8_digest_181 : decode cX8_digest 181 = .ok (.lstore_n 1, 1) := by decide +kernel
theorem dX8_digest_182 : decode cX8_digest 182 = .ok (.ldc2_w 260, 3) := by decide +kernel
theorem dX8_digest_185 : decode cX8_digest 185 = .ok (.lload_n 1, 1) := by decide +kernel
theorem dX8_digest_186 : decode cX8_digest 186 = .ok (.lmul, 1) := by decide +kernel
theorem dX8_digest_187 : decode cX8_digest 187 = .ok (.aload_n 0, 1) := by decide +kernel
theorem dX8_digest_188 : decode cX8_digest 188 = .ok (.getfield 41, 3) := by decide +kernel
theorem dX8_digest_191 : decode cX8_digest 191 = .ok (.iload 4, 2) := by decide +kernel
theorem dX8_digest_193 : decode cX8_digest 193 = .ok (.iaload, 1) := by decide +kernel
theorem dX8_digest_194 : decode cX8_digest 194 = .ok (.i2l, 1) := by decide +kernel
theorem dX8_digest_195 : decode cX8_digest 195 = .ok (.ladd, 1) := by decide +kernel
theorem dX8_digest_196 : decode cX8_digest 196 = .ok (.lstore_n 1, 1) := by decide +kernel
theorem dX8_digest_197 : decode cX8_digest 197 = .ok (.iinc 4 1, 3) := by decide +kernel
theorem dX8_digest_200 : decode cX8_digest 200 = .ok (.goto (-150), 3) := by decide +kernel
theorem dX8_digest_203 : decode cX8_digest 203 = .ok (.ldc2_w 260, 3) := by decide +kernel
theorem dX8_digest_206 : decode cX8_digest 206 = .ok (.lload_n 1, 1) := by decide +kernel
theorem dX8_digest_207 : decode cX8_digest 207 = .ok (.lmul, 1) := by decide +kernel
theorem dX8_digest_208 : decode cX8_digest 208 = .ok (.aload_n 0, 1) := by decide +kernel
theorem dX8_digest_209 : decode cX8_digest 209 = .ok (.getfield 81, 3) := by decide +kernel
theorem dX8_digest_212 : decode cX8_digest 212 = .ok (.i2l, 1) := by decide +kernel
theorem dX8_digest_213 : decode cX8_digest 213 = .ok (.ladd, 1) := by decide +kernel
theorem dX8_digest_214 : decode cX8_digest 214 = .ok (.lreturn, 1) := by decide +kernel
theorem dJ6_bitCount_0f7a4_0 : decode cJ6_bitCount_0f7a4 0 = .ok (.iload_n 0, 1) := by decide +kernel
theorem dJ6_bitCount_0f7a4_1 : decode cJ6_bitCount_0f7a4 1 = .ok (.iload_n 0, 1) := by decide +kernel
theorem dJ6_bitCount_0f7a4_2 : decode cJ6_bitCount_0f7a4 2 = .ok (.iconst 1, 1) := by decide +kernel
theorem dJ6_bitCount_0f7a4_3 : decode cJ6_bitCount_0f7a4 3 = .ok (.iushr, 1) := by decide +kernel
theorem dJ6_bitCount_0f7a4_4 : decode cJ6_bitCount_0f7a4 4 = .ok (.ldc_w 265, 3) := by decide +kernel
theorem dJ6_bitCount_0f7a4_7 : decode cJ6_bitCount_0f7a4 7 = .ok (.iand, 1) := by decide +kernel
theorem dJ6_bitCount_0f7a4_8 : decode cJ6_bitCount_0f7a4 8 = .ok (.isub, 1) := by decide +kernel
theorem dJ6_bitCount_0f7a4_9 : decode cJ6_bitCount_0f7a4 9 = .ok (.istore_n 0, 1) := by decide +kernel
theorem dJ6_bitCount_0f7a4_10 : decode cJ6_bitCount_0f7a4 10 = .ok (.iload_n 0, 1) := by decide +kernel
theorem dJ6_bitCount_0f7a4_11 : decode cJ6_bitCount_0f7a4 11 = .ok (.ldc_w 266, 3) := by decide +kernel
theorem dJ6_bitCount_0f7a4_14 : decode cJ6_bitCount_0f7a4 14 = .ok (.iand, 1) := by decide +kernel
theorem dJ6_bitCount_0f7a4_15 : decode cJ6_bitCount_0f7a4 15 = .ok (.iload_n 0, 1) := by decide +kernel
theorem dJ6_bitCount_0f7a4_16 : decode cJ6_bitCount_0f7a4 16 = .ok (.iconst 2, 1) := by decide +kernel
theorem dJ6_bitCount_0f7a4_17 : decode cJ6_bitCount_0f7a4 17 = .ok (.iushr, 1) := by decide +kernel
theorem dJ6_bitCount_0f7a4_18 : decode cJ6_bitCount_0f7a4 18 = .ok (.ldc_w 266, 3) := by decide +kernel
theorem dJ6_bitCount_0f7a4_21 : decode cJ6_bitCount_0f7a4 21 = .ok (.iand, 1) := by decide +kernel
theorem dJ6_bitCount_0f7a4_22 : decode cJ6_bitCount_0f7a4 22 = .ok (.iadd, 1) := by decide +kernel
theorem dJ6_bitCount_0f7a4_23 : decode cJ6_bitCount_0f7a4 23 = .ok (.istore_n 0, 1) := by decide +kernel
theorem dJ6_bitCount_0f7a4_24 : decode cJ6_bitCount_0f7a4 24 = .ok (.iload_n 0, 1) := by decide +kernel
theorem dJ6_bitCount_0f7a4_25 : decode cJ6_bitCount_0f7a4 25 = .ok (.iload_n 0, 1) := by decide +kernel
theorem dJ6_bitCount_0f7a4_26 : decode cJ6_bitCount_0f7a4 26 = .ok (.iconst 4, 1) := by decide +kernel
theorem dJ6_bitCount_0f7a4_27 : decode cJ6_bitCount_0f7a4 27 = .ok (.iushr, 1) := by decide +kernel
theorem dJ6_bitCount_0f7a4_28 : decode cJ6_bitCount_0f7a4 28 = .ok (.iadd, 1) := by decide +kernel
theorem dJ6_bitCount_0f7a4_29 : decode cJ6_bitCount_0f7a4 29 = .ok (.ldc_w 267, 3) := by decide +kernel
theorem dJ6_bitCount_0f7a4_32 : decode cJ6_bitCount_0f7a4 32 = .ok (.iand, 1) := by decide +kernel
theorem dJ6_bitCount_0f7a4_33 : decode cJ6_bitCount_0f7a4 33 = .ok (.istore_n 0, 1) := by decide +kernel
theorem dJ6_bitCount_0f7a4_34 : decode cJ6_bitCount_0f7a4 34 = .ok (.iload_n 0, 1) := by decide +kernel
theorem dJ6_bitCount_0f7a4_35 : decode cJ6_bitCount_0f7a4 35 = .ok (.iload_n 0, 1) := by decide +kernel
theorem dJ6_bitCount_0f7a4_36 : decode cJ6_bitCount_0f7a4 36 = .ok (.bipush 8, 2) := by decide +kernel
theorem dJ6_bitCount_0f7a4_38 : decode cJ6_bitCount_0f7a4 38 = .ok (.iushr, 1) := by decide +kernel
theorem dJ6_bitCount_0f7a4_39 : decode cJ6_bitCount_0f7a4 39 = .ok (.iadd, 1) := by decide +kernel
theorem dJ6_bitCount_0f7a4_40 : decode cJ6_bitCount_0f7a4 40 = .ok (.istore_n 0, 1) := by decide +kernel
theorem dJ6_bitCount_0f7a4_41 : decode cJ6_bitCount_0f7a4 41 = .ok (.iload_n 0, 1) := by decide +kernel
theorem dJ6_bitCount_0f7a4_42 : decode cJ6_bitCount_0f7a4 42 = .ok (.iload_n 0, 1) := by decide +kernel
theorem dJ6_bitCount_0f7a4_43 : decode cJ6_bitCount_0f7a4 43 = .ok (.bipush 16, 2) := by decide +kernel
theorem dJ6_bitCount_0f7a4_45 : decode cJ6_bitCount_0f7a4 45 = .ok (.iushr, 1) := by decide +kernel
theorem dJ6_bitCount_0f7a4_46 : decode cJ6_bitCount_0f7a4 46 = .ok (.iadd, 1) := by decide +kernel
theorem dJ6_bitCount_0f7a4_47 : decode cJ6_bitCount_0f7a4 47 = .ok (.istore_n 0, 1) := by decide +kernel
theorem dJ6_bitCount_0f7a4_48 : decode cJ6_bitCount_0f7a4 48 = .ok (.iload_n 0, 1) := by decide +kernel
theorem dJ6_bitCount_0f7a4_49 : decode cJ6_bitCount_0f7a4 49 = .ok (.bipush 63, 2) := by decide +kernel
theorem dJ6_bitCount_0f7a4_51 : decode cJ6_bitCount_0f7a4 51 = .ok (.iand, 1) := by decide +kernel
theorem dJ6_bitCount_0f7a4_52 : decode cJ6_bitCount_0f7a4 52 = .ok (.ireturn, 1) := by decide +kernel
theorem dJ9_max_7cf53_0 : decode cJ9_max_7cf53 0 = .ok (.iload_n 0, 1) := by decide +kernel
theorem dJ9_max_7cf53_1 : decode cJ9_max_7cf53 1 = .ok (.iload_n 1, 1) := by decide +kernel
theorem dJ9_max_7cf53_2 : decode cJ9_max_7cf53 2 = .ok (.if_icmp .lt 7, 3) := by decide +kernel
theorem dJ9_max_7cf53_5 : decode cJ9_max_7cf53 5 = .ok (.iload_n 0, 1) := by decide +kernel
theorem dJ9_max_7cf53_6 : decode cJ9_max_7cf53 6 = .ok (.goto 4, 3) := by decide +kernel
theorem dJ9_max_7cf53_9 : decode cJ9_max_7cf53 9 = .ok (.iload_n 1, 1) := by decide +kernel
theorem dJ9_max_7cf53_10 : decode cJ9_max_7cf53 10 = .ok (.ireturn, 1) := by decide +kernel
theorem dJ9_min_7cf53_0 : decode cJ9_min_7cf53 0 = .ok (.iload_n 0, 1) := by decide +kernel
theorem dJ9_min_7cf53_1 : decode cJ9_min_7cf53 1 = .ok (.iload_n 1, 1) := by decide +kernel
theorem dJ9_min_7cf53_2 : decode cJ9_min_7cf53 2 = .ok (.if_icmp .gt 7, 3) := by decide +kernel
theorem dJ9_min_7cf53_5 : decode cJ9_min_7cf53 5 = .ok (.iload_n 0, 1) := by decide +kernel
theorem dJ9_min_7cf53_6 : decode cJ9_min_7cf53 6 = .ok (.goto 4, 3) := by decide +kernel
theorem dJ9_min_7cf53_9 : decode cJ9_min_7cf53 9 = .ok (.iload_n 1, 1) := by decide +kernel
theorem dJ9_min_7cf53_10 : decode cJ9_min_7cf53 10 = .ok (.ireturn, 1) := by decide +kernel
