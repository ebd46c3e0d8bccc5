theorem dX7_refutes_0 : decode cX7_refutes 0 = .ok (.aload_n 0, 1) := by decide +kernel
theorem dX7_refutes_1 : decode cX7_refutes 1 = .ok (.iload_n 1, 1) := by decide +kernel
theorem dX7_refutes_2 : decode cX7_refutes 2 = .ok (.invokevirtual 97, 3) := by decide +kernel
theorem dX7_refutes_5 : decode cX7_refutes 5 = .ok (.aload_n 0, 1) := by decide +kernel
theorem dX7_refutes_6 : decode cX7_refutes 6 = .ok (.iload_n 2, 1) := by decide +kernel
theorem dX7_refutes_7 : decode cX7_refutes 7 = .ok (.invokevirtual 97, 3) := by decide +kernel
theorem dX7_refutes_10 : decode cX7_refutes 10 = .ok (.iload_n 1, 1) := by decide +kernel
theorem dX7_refutes_11 : decode cX7_refutes 11 = .ok (.iload_n 2, 1) := by decide +kernel
theorem dX7_refutes_12 : decode cX7_refutes 12 = .ok (.if_icmp .ne 5, 3) := by decide +kernel
theorem dX7_refutes_15 : decode cX7_refutes 15 = .ok (.iconst 1, 1) := by decide +kernel
theorem dX7_refutes_16 : decode cX7_refutes 16 = .ok (.ireturn, 1) := by decide +kernel
theorem dX7_refutes_17 : decode cX7_refutes 17 = .ok (.aload_n 0, 1) := by decide +kernel
theorem dX7_refutes_18 : decode cX7_refutes 18 = .ok (.getfield 41, 3) := by decide +kernel
theorem dX7_refutes_21 : decode cX7_refutes 21 = .ok (.aload_n 0, 1) := by decide +kernel
theorem dX7_refutes_22 : decode cX7_refutes 22 = .ok (.getfield 12, 3) := by decide +kernel
theorem dX7_refutes_25 : decode cX7_refutes 25 = .ok (.invokevirtual 190, 3) := by decide +kernel
theorem dX7_refutes_28 : decode cX7_refutes 28 = .ok (.aload_n 0, 1) := by decide +kernel
theorem dX7_refutes_29 : decode cX7_refutes 29 = .ok (.getfield 41, 3) := by decide +kernel
theorem dX7_refutes_32 : decode cX7_refutes 32 = .ok (.iload_n 1, 1) := by decide +kernel
theorem dX7_refutes_33 : decode cX7_refutes 33 = .ok (.iload_n 2, 1) := by decide +kernel
theorem dX7_refutes_34 : decode cX7_refutes 34 = .ok (.iconst 1, 1) := by decide +kernel
theorem dX7_refutes_35 : decode cX7_refutes 35 = .ok (.invokevirtual 117, 3) := by decide +kernel
theorem dX7_refutes_38 : decode cX7_refutes 38 = .ok (.aload_n 0, 1) := by decide +kernel
theorem dX7_refutes_39 : decode cX7_refutes 39 = .ok (.getfield 44, 3) := by decide +kernel
theorem dX7_refutes_42 : decode cX7_refutes 42 = .ok (.invokevirtual 193, 3) := by decide +kernel
theorem dX7_refutes_45 : decode cX7_refutes 45 = .ok (.aload_n 0, 1) := by decide +kernel
theorem dX7_refutes_46 : decode cX7_refutes 46 = .ok (.getfield 44, 3) := by decide +kernel
theorem dX7_refutes_49 : decode cX7_refutes 49 = .ok (.getfield 196, 3) := by decide +kernel
theorem dX7_refutes_52 : decode cX7_refutes 52 = .ok (.ireturn, 1) := by decide +kernel
set_option maxRecDepth 20000 in
theorem ggX7_decided_X7_refuseContradiction : GoodIn wsX7_decided wsX7_refuseContradiction := goodIn_ca (goodIn_r _ [7, 8, 9, 2, 10, 11, 12, 13, 6, 14, 15, 16, 17, 18, 19, 20, 21, 22, 23, 24, 25, 26, 27, 28, 29, 30, 31, 32, 33, 34, 35, 36, 37, 38, 39, 40, 41, 42, 43, 44, 45, 46, 47, 48, 49, 50, 51, 52, 53, 54, 55, 56, 57, 58, 59, 60, 61, 62, 63, 64, 65, 66, 67, 68, 69, 70, 71, 72, 73, 74, 75, 76, 77, 78, 79, 80, 81, 82, 83, 84, 85, 86, 87, 88, 89, 90, 91, 92, 93, 94, 95, 96, 97, 98, 99, 100, 101, 102, 103, 104, 105, 106, 122, 123, 124, 125, 126, 127, 128, 129, 130, 131, 132, 133, 134, 135, 136, 137, 138, 139, 140, 141, 142, 143, 144, 145, 146, 147, 148] (by decide +kernel) (by decide +kernel)) (goodIn_sub (fun _ h => List.mem_cons_of_mem _ (List.mem_append_right _ h)) (by decide +kernel))
set_option maxRecDepth 20000 in
theorem gX7_decided_X7_refuseContradiction : GoodIn wsX7_decided (wsV RX7 144 RX7 yX7_refuseContradiction wsX7_refuseContradiction) := goodIn_app (goodIn_of _ (by decide +kernel)) ggX7_decided_X7_refuseContradiction
set_option maxRecDepth 20000 in
theorem ggX7_decided_X5_countPairs : GoodIn wsX7_decided wsX5_countPairs := goodIn_r _ [111, 112, 113, 141, 142, 143, 144, 145, 146, 147, 148] (by decide +kernel) (by decide +kernel)
set_option maxRecDepth 20000 in
theorem gX7_decided_X5_countPairs : GoodIn wsX7_decided (wsV RX7 199 RX5 yX5_countPairs wsX5_countPairs) := goodIn_app (goodIn_of _ (by decide +kernel)) ggX7_decided_X5_countPairs
set_option maxRecDepth 20000 in
theorem ggX7_decided_X6_countOpenPairs : GoodIn wsX7_decided wsX6_countOpenPairs := goodIn_r _ [117, 28, 29, 36, 118, 119, 120, 19, 121, 34, 41, 6, 42, 132, 133, 134, 135, 136, 137, 138, 139, 140, 141, 142, 143, 144, 145, 146, 147, 148] (by decide +kernel) (by decide +kernel)
set_option maxRecDepth 20000 in
theorem gX7_decided_X6_countOpenPairs : GoodIn wsX7_decided (wsV RX7 202 RX6 yX6_countOpenPairs wsX6_countOpenPairs) := goodIn_app (goodIn_of _ (by decide +kernel)) ggX7_decided_X6_countOpenPairs
theorem dX7_decided_0 : decode cX7_decided 0 = .ok (.aload_n 0, 1) := by decide +kernel
theorem dX7_decided_1 : decode cX7_decided 1 = .ok (.invokevirtual 144, 3) := by decide +kernel
theorem dX7_decided_4 : decode cX7_decided 4 = .ok (.aload_n 0, 1) := by decide +kernel
theorem dX7_decided_5 : decode cX7_decided 5 = .ok (.getfield 12, 3) := by decide +kernel
theorem dX7_decided_8 : decode cX7_decided 8 = .ok (.invokevirtual 199, 3) := by decide +kernel
theorem dX7_decided_11 : decode cX7_decided 11 = .ok (.istore_n 1, 1) := by decide +kernel
theorem dX7_decided_12 : decode cX7_decided 12 = .ok (.iload_n 1, 1) := by decide +kernel
theorem dX7_decided_13 : decode cX7_decided 13 = .ok (.ifCond .ne 5, 3) := by decide +kernel
theorem dX7_decided_16 : decode cX7_decided 16 = .ok (.dconst 1, 1) := by decide +kernel
theorem dX7_decided_17 : decode cX7_decided 17 = .ok (.dreturn, 1) := by decide +kernel
theorem dX7_decided_18 : decode cX7_decided 18 = .ok (.iload_n 1, 1) := by decide +kernel
theorem dX7_decided_19 : decode cX7_decided 19 = .ok (.aload_n 0, 1) := by decide +kernel
theorem dX7_decided_20 : decode cX7_decided 20 = .ok (.getfield 21, 3) := by decide +kernel
theorem dX7_decided_23 : decode cX7_decided 23 = .ok (.invokevirtual 202, 3) := by decide +kernel
theorem dX7_decided_26 : decode cX7_decided 26 = .ok (.isub, 1) := by decide +kernel
theorem dX7_decided_27 : decode cX7_decided 27 = .ok (.i2d, 1) := by decide +kernel
theorem dX7_decided_28 : decode cX7_decided 28 = .ok (.iload_n 1, 1) := by decide +kernel
theorem dX7_decided_29 : decode cX7_decided 29 = .ok (.i2d, 1) := by decide +kernel
theorem dX7_decided_30 : decode cX7_decided 30 = .ok (.ddiv, 1) := by decide +kernel
theorem dX7_decided_31 : decode cX7_decided 31 = .ok (.dreturn, 1) := by decide +kernel
set_option maxRecDepth 20000 in
theorem ggX7_undo_X2_restoreInto : GoodIn wsX7_undo wsX2_restoreInto := goodIn_r _ [10, 11, 12, 13, 14, 15, 16, 17, 18, 19, 20, 21, 22, 23, 24, 25, 43, 44, 45, 46, 47, 48, 49, 50, 51, 52] (by decide +kernel) (by decide +kernel)
set_option maxRecDepth 20000 in
theorem gX7_undo_X2_restoreInto : GoodIn wsX7_undo (wsV RX7 236 RX2 yX2_restoreInto wsX2_restoreInto) := goodIn_app (goodIn_of _ (by decide +kernel)) ggX7_undo_X2_restoreInto
set_option maxRecDepth 20000 in
theorem ggX7_undo_X7_forgetAnswers : GoodIn wsX7_undo wsX7_forgetAnswers := goodIn_r _ [30, 31, 32, 33, 34, 35, 36, 37, 38, 39, 40, 41, 42] (by decide +kernel) (by decide +kernel)
set_option maxRecDepth 20000 in
theorem gX7_undo_X7_forgetAnswers : GoodIn wsX7_undo (wsV RX7 239 RX7 yX7_forgetAnswers wsX7_forgetAnswers) := goodIn_app (goodIn_of _ (by decide +kernel)) ggX7_undo_X7_forgetAnswers
theorem dX7_undo_0 : decode cX7_undo 0 = .ok (.aload_n 0, 1) := by decide +kernel
theorem dX7_undo_1 : decode cX7_undo 1 = .ok (.getfield 50, 3) := by decide +kernel
theorem dX7_undo_4 : decode cX7_undo 4 = .ok (.getfield 231, 3) := by decide +kernel
theorem dX7_undo_7 : decode cX7_undo 7 = .ok (.ifCond .ne 13, 3) := by decide +kernel
theorem dX7_undo_10 : decode cX7_undo 10 = .ok (.new 210, 3) := by decide +kernel
theorem dX7_undo_13 : decode cX7_undo 13 = .ok (.dup, 1) := by decide +kernel
theorem dX7_undo_14 : decode cX7_undo 14 = .ok (.ldc 234, 2) := by decide +kernel
theorem dX7_undo_16 : decode cX7_undo 16 = .ok (.invokespecial 214, 3) := by decide +kernel
theorem dX7_undo_19 : decode cX7_undo 19 = .ok (.athrow, 1) := by decide +kernel
theorem dX7_undo_20 : decode cX7_undo 20 = .ok (.aload_n 0, 1) := by decide +kernel
theorem dX7_undo_21 : decode cX7_undo 21 = .ok (.getfield 50, 3) := by decide +kernel
theorem dX7_undo_24 : decode cX7_undo 24 = .ok (.aload_n 0, 1) := by decide +kernel
theorem dX7_undo_25 : decode cX7_undo 25 = .ok (.getfield 12, 3) := by decide +kernel
theorem dX7_undo_28 : decode cX7_undo 28 = .ok (.invokevirtual 236, 3) := by decide +kernel
theorem dX7_undo_31 : decode cX7_undo 31 = .ok (.aload_n 0, 1) := by decide +kernel
theorem dX7_undo_32 : decode cX7_undo 32 = .ok (.invokevirtual 239, 3) := by decide +kernel
theorem dX7_undo_35 : decode cX7_undo 35 = .ok (.aload_n 0, 1) := by decide +kernel
theorem dX7_undo_36 : decode cX7_undo 36 = .ok (.getfield 50, 3) := by decide +kernel
theorem dX7_undo_39 : decode cX7_undo 39 = .ok (.getfield 231, 3) := by decide +kernel
theorem dX7_undo_42 : decode cX7_undo 42 = .ok (.ireturn, 1) := by decide +kernel
theorem dX7_refuse_0 : decode cX7_refuse 0 = .ok (.iload_n 0, 1) := by decide +kernel
theorem dX7_refuse_1 : decode cX7_refuse 1 = .ok (.iconst 1, 1) := by decide +kernel
theorem dX7_refuse_2 : decode cX7_refuse 2 = .ok (.if_icmp .ne 13, 3) := by decide +kernel
theorem dX7_refuse_5 : decode cX7_refuse 5 = .ok (.new 252, 3) := by decide +kernel
theorem dX7_refuse_8 : decode cX7_refuse 8 = .ok (.dup, 1) := by decide +kernel
theorem dX7_refuse_9 : decode cX7_refuse 9 = .ok (.ldc 254, 2) := by decide +kernel
theorem dX7_refuse_11 : decode cX7_refuse 11 = .ok (.invokespecial 256, 3) := by decide +kernel
theorem dX7_refuse_14 : decode cX7_refuse 14 = .ok (.athrow, 1) := by decide +kernel
theorem dX7_refuse_15 : decode cX7_refuse 15 = .ok (.iload_n 0, 1) := by decide +kernel
theorem dX7_refuse_16 : decode cX7_refuse 16 = .ok (.iconst 2, 1) := by decide +kernel
theorem dX7_refuse_17 : decode cX7_refuse 17 = .ok (.if_icmp .ne 14, 3) := by decide +kernel
theorem dX7_refuse_20 : decode cX7_refuse 20 = .ok (.new 68, 3) := by decide +kernel
theorem dX7_refuse_23 : decode cX7_refuse 23 = .ok (.dup, 1) := by decide +kernel
theorem dX7_refuse_24 : decode cX7_refuse 24 = .ok (.ldc_w 257, 3) := by decide +kernel
theorem dX7_refuse_27 : decode cX7_refuse 27 = .ok (.invokespecial 72, 3) := by decide +kernel
theorem dX7_refuse_30 : decode cX7_refuse 30 = .ok (.athrow, 1) := by decide +kernel
theorem dX7_refuse_31 : decode cX7_refuse 31 = .ok (.iload_n 0, 1) := by decide +kernel
theorem dX7_refuse_32 : decode cX7_refuse 32 = .ok (.iconst 3, 1) := by decide +kernel
theorem dX7_refuse_33 : decode cX7_refuse 33 = .ok (.if_icmp .ne 14, 3) := by decide +kernel
theorem dX7_refuse_36 : decode cX7_refuse 36 = .ok (.new 210, 3) := by decide +kernel
theorem dX7_refuse_39 : decode cX7_refuse 39 = .ok (.dup, 1) := by decide +kernel
theorem dX7_refuse_40 : decode cX7_refuse 40 = .ok (.ldc_w 259, 3) := by decide +kernel
theorem dX7_refuse_43 : decode cX7_refuse 43 = .ok (.invokespecial 214, 3) := by decide +kernel
theorem dX7_refuse_46 : decode cX7_refuse 46 = .ok (.athrow, 1) := by decide +kernel
theorem dX7_refuse_47 : decode cX7_refuse 47 = .ok (.return_, 1) := by decide +kernel
set_option maxRecDepth 20000 in
theorem ggX7_refuseUnknown_X5_has : GoodIn wsX7_refuseUnknown wsX5_has := goodIn_r _ [8, 9, 20, 21, 22, 23, 24, 25, 26, 27] (by decide +kernel) (by decide +kernel)
set_option maxRecDepth 20000 in
theorem gX7_refuseUnknown_X5_has : GoodIn wsX7_refuseUnknown (wsV RX7 261 RX5 yX5_has wsX5_has) := goodIn_app (goodIn_of _ (by decide +kernel)) ggX7_refuseUnknown_X5_has
theorem dX7_refuseUnknown_0 : decode cX7_refuseUnknown 0 = .ok (.aload_n 0, 1) := by decide +kernel
theorem dX7_refuseUnknown_1 : decode cX7_refuseUnknown 1 = .ok (.getfield 12, 3) := by decide +kernel
theorem dX7_refuseUnknown_4 : decode cX7_refuseUnknown 4 = .ok (.iload_n 1, 1) := by decide +kernel
theorem dX7_refuseUnknown_5 : decode cX7_refuseUnknown 5 = .ok (.invokevirtual 261, 3) := by decide +kernel
theorem dX7_refuseUnknown_8 : decode cX7_refuseUnknown 8 = .ok (.ifCond .ne 14, 3) := by decide +kernel
theorem dX7_refuseUnknown_11 : decode cX7_refuseUnknown 11 = .ok (.new 252, 3) := by decide +kernel
theorem dX7_refuseUnknown_14 : decode cX7_refuseUnknown 14 = .ok (.dup, 1) := by decide +kernel
theorem dX7_refuseUnknown_15 : decode cX7_refuseUnknown 15 = .ok (.ldc_w 264, 3) := by decide +kernel
theorem dX7_refuseUnknown_18 : decode cX7_refuseUnknown 18 = .ok (.invokespecial 256, 3) := by decide +kernel
theorem dX7_refuseUnknown_21 : decode cX7_refuseUnknown 21 = .ok (.athrow, 1) := by decide +kernel
theorem dX7_refuseUnknown_22 : decode cX7_refuseUnknown 22 = .ok (.return_, 1) := by decide +kernel
set_option maxRecDepth 20000 in
theorem ggX7_refuseContradiction_X7_think : GoodIn wsX7_refuseContradiction wsX7_think := goodIn_r _ [9, 10, 3, 11, 12, 13, 14, 15, 16, 17, 18, 19, 20, 21, 22, 23, 24, 25, 26, 27, 28, 29, 30, 31, 32, 33, 34, 35, 36, 8, 37, 38, 39, 40, 41, 42, 43, 44, 45, 46, 47, 48, 49, 50, 51, 52, 53, 54, 55, 56, 57, 58, 59, 60, 61, 62, 63, 64, 65, 66, 67, 68, 69, 70, 71, 72, 73, 74, 75, 76, 77, 78, 79, 80, 81, 82, 83, 84, 85, 86, 87, 88, 89, 90, 91, 92, 93, 94, 95, 96, 97, 98, 99, 100, 101, 102, 103, 104, 105, 106, 107, 108, 109, 110, 111, 112, 113, 114, 115, 116, 117, 118, 119, 120, 121, 122, 123, 124, 125, 126, 127, 128] (by decide +kernel) (by decide +kernel)
set_option maxRecDepth 20000 in
theorem gX7_refuseContradiction_X7_think : GoodIn wsX7_refuseContradiction (wsV RX7 242 RX7 yX7_think wsX7_think) := goodIn_app (goodIn_of _ (by decide +kernel)) ggX7_refuseContradiction_X7_think
theorem dX7_refuseContradiction_0 : decode cX7_refuseContradiction 0 = .ok (.aload_n 0, 1) := by decide +kernel
theorem dX7_refuseContradiction_1 : decode cX7_refuseContradiction 1 = .ok (.invokevirtual 242, 3) := by decide +kernel
theorem dX7_refuseContradiction_4 : decode cX7_refuseContradiction 4 = .ok (.aload_n 0, 1) := by decide +kernel
theorem dX7_refuseContradiction_5 : decode cX7_refuseContradiction 5 = .ok (.getfield 21, 3) := by decide +kernel
theorem dX7_refuseContradiction_8 : decode cX7_refuseContradiction 8 = .ok (.getfield 196, 3) := by decide +kernel
theorem dX7_refuseContradiction_11 : decode cX7_refuseContradiction 11 = .ok (.ifCond .eq 14, 3) := by decide +kernel
theorem dX7_refuseContradiction_14 : decode cX7_refuseContradiction 14 = .ok (.new 210, 3) := by decide +kernel
theorem dX7_refuseContradiction_17 : decode cX7_refuseContradiction 17 = .ok (.dup, 1) := by decide +kernel
theorem dX7_refuseContradiction_18 : decode cX7_refuseContradiction 18 = .ok (.ldc_w 266, 3) := by decide +kernel
theorem dX7_refuseContradiction_21 : decode cX7_refuseContradiction 21 = .ok (.invokespecial 214, 3) := by decide +kernel
theorem dX7_refuseContradiction_24 : decode cX7_refuseContradiction 24 = .ok (.athrow, 1) := by decide +kernel
theorem dX7_refuseContradiction_25 : decode cX7_refuseContradiction 25 = .ok (.return_, 1) := by decide +kernel
set_option maxRecDepth 20000 in
theorem ggX7_beforeChange_X2_save : GoodIn wsX7_beforeChange wsX2_save := goodIn_r _ [7, 8, 9, 10, 11, 12, 13, 14, 15, 16, 17, 18, 19, 20, 21, 22, 40, 41, 42, 43, 44, 45, 46, 47, 48, 49] (by decide +kernel) (by decide +kernel)
set_option maxRecDepth 20000 in
theorem gX7_beforeChange_X2_save : GoodIn wsX7_beforeChange (wsV RX7 267 RX2 yX2_save wsX2_save) := goodIn_app (goodIn_of _ (by decide +kernel)) ggX7_beforeChange_X2_save
set_option maxRecDepth 20000 in
theorem ggX7_beforeChange_X7_forgetAnswers : GoodIn wsX7_beforeChange wsX7_forgetAnswers := goodIn_r _ [27, 28, 29, 30, 31, 32, 33, 34, 35, 36, 37, 38, 39] (by decide +kernel) (by decide +kernel)
set_option maxRecDepth 20000 in
theorem gX7_beforeChange_X7_forgetAnswers : GoodIn wsX7_beforeChange (wsV RX7 239 RX7 yX7_forgetAnswers wsX7_forgetAnswers) := goodIn_app (goodIn_of _ (by decide +kernel)) ggX7_beforeChange_X7_forgetAnswers
theorem dX7_beforeChange_0 : decode cX7_beforeChange 0 = .ok (.aload_n 0, 1) := by decide +kernel
theorem dX7_beforeChange_1 : decode cX7_beforeChange 1 = .ok (.getfield 50, 3) := by decide +kernel
theorem dX7_beforeChange_4 : decode cX7_beforeChange 4 = .ok (.aload_n 0, 1) := by decide +kernel
theorem dX7_beforeChange_5 : decode cX7_beforeChange 5 = .ok (.getfield 12, 3) := by decide +kernel
theorem dX7_beforeChange_8 : decode cX7_beforeChange 8 = .ok (.invokevirtual 267, 3) := by decide +kernel
theorem dX7_beforeChange_11 : decode cX7_beforeChange 11 = .ok (.aload_n 0, 1) := by decide +kernel
theorem dX7_beforeChange_12 : decode cX7_beforeChange 12 = .ok (.invokevirtual 239, 3) := by decide +kernel
theorem dX7_beforeChange_15 : decode cX7_beforeChange 15 = .ok (.return_, 1) := by decide +kernel
theorem dX7_forgetAnswers_0 : decode cX7_forgetAnswers 0 = .ok (.aload_n 0, 1) := by decide +kernel
theorem dX7_forgetAnswers_1 : decode cX7_forgetAnswers 1 = .ok (.iconst 0, 1) := by decide +kernel
theorem dX7_forgetAnswers_2 : decode cX7_forgetAnswers 2 = .ok (.putfield 61, 3) := by decide +kernel
theorem dX7_forgetAnswers_5 : decode cX7_forgetAnswers 5 = .ok (.aload_n 0, 1) := by decide +kernel
theorem dX7_forgetAnswers_6 : decode cX7_forgetAnswers 6 = .ok (.iconst 0, 1) := by decide +kernel
theorem dX7_forgetAnswers_7 : decode cX7_forgetAnswers 7 = .ok (.putfield 65, 3) := by decide +kernel
theorem dX7_forgetAnswers_10 : decode cX7_forgetAnswers 10 = .ok (.return_, 1) := by decide +kernel
set_option maxRecDepth 20000 in
theorem ggX7_think_X6_run : GoodIn wsX7_think wsX6_run := goodIn_r _ [7, 8, 9, 10, 11, 12, 6, 13, 14, 15, 16, 17, 18, 19, 20, 21, 22, 23, 24, 25, 26, 27, 28, 29, 30, 31, 32, 33, 34, 35, 36, 37, 38, 39, 40, 41, 42, 43, 44, 45, 46, 47, 48, 49, 50, 51, 52, 53, 54, 55, 56, 57, 58, 59, 60, 61, 62, 63, 64, 65, 66, 67, 68, 69, 70, 71, 72, 73, 74, 75, 76, 77, 78, 79, 80, 81, 82, 83, 84, 85, 86, 87, 88, 89, 90, 91, 92, 93, 94, 105, 106, 107, 108, 109, 110, 111, 112, 113, 114, 115, 116, 117, 118, 119, 120, 121] (by decide +kernel) (by decide +kernel)
set_option maxRecDepth 20000 in
theorem gX7_think_X6_run : GoodIn wsX7_think (wsV RX7 193 RX6 yX6_run wsX6_run) := goodIn_app (goodIn_of _ (by decide +kernel)) ggX7_think_X6_run
theorem dX7_think_0 : decode cX7_think 0 = .ok (.aload_n 0, 1) := by decide +kernel
theorem dX7_think_1 : decode cX7_think 1 = .ok (.getfield 61, 3) := by decide +kernel
theorem dX7_think_4 : decode cX7_think 4 = .ok (.ifCond .ne 15, 3) := by decide +kernel
theorem dX7_think_7 : decode cX7_think 7 = .ok (.aload_n 0, 1) := by decide +kernel
theorem dX7_think_8 : decode cX7_think 8 = .ok (.getfield 21, 3) := by decide +kernel
theorem dX7_think_11 : decode cX7_think 11 = .ok (.invokevirtual 193, 3) := by decide +kernel
theorem dX7_think_14 : decode cX7_think 14 = .ok (.aload_n 0, 1) := by decide +kernel
theorem dX7_think_15 : decode cX7_think 15 = .ok (.iconst 1, 1) := by decide +kernel
theorem dX7_think_16 : decode cX7_think 16 = .ok (.putfield 61, 3) := by decide +kernel
theorem dX7_think_19 : decode cX7_think 19 = .ok (.return_, 1) := by decide +kernel
set_option maxRecDepth 20000 in
theorem ggX7_makePlan_X7_think : GoodIn wsX7_makePlan wsX7_think := goodIn_r _ [7, 8, 9, 10, 11, 12, 13, 14, 15, 16, 17, 18, 19, 20, 21, 22, 23, 24, 25, 26, 27, 28, 29, 30, 31, 32, 33, 34, 35, 6, 36, 37, 38, 39, 40, 41, 42, 43, 44, 45, 46, 47, 48, 49, 50, 51, 52, 53, 54, 55, 56, 57, 58, 59, 60, 61, 62, 63, 64, 65, 66, 67, 68, 69, 70, 71, 72, 73, 74, 75, 76, 77, 78, 79, 80, 81, 82, 83, 84, 85, 86, 87, 88, 89, 90, 91, 92, 93, 94, 95, 96, 97, 98, 99, 100, 164, 165, 166, 167, 168, 169, 170, 171, 172, 173, 174, 175, 176, 177, 178, 179, 180, 181, 182, 183, 184, 185, 186, 187, 188, 189, 190] (by decide +kernel) (by decide +kernel)
set_option maxRecDepth 20000 in
theorem gX7_makePlan_X7_think : GoodIn wsX7_makePlan (wsV RX7 242 RX7 yX7_think wsX7_think) := goodIn_app (goodIn_of _ (by decide +kernel)) ggX7_makePlan_X7_think
set_option maxRecDepth 20000 in
theorem ggX7_makePlan_X0_search : GoodIn wsX7_makePlan wsX0_search := goodIn_r _ [105, 106, 107, 108, 109, 110, 111, 112, 113, 47, 13, 48, 49, 22, 23, 28, 35, 6, 36, 114, 115, 116, 117, 118, 119, 120, 121, 104, 122, 123, 124, 125, 126, 127, 128, 129, 130, 131, 132, 133, 134, 135, 136, 137, 138, 67, 64, 68, 139, 140, 141, 142, 143, 144, 145, 146, 147, 148, 149, 150, 151, 152, 153, 154, 155, 156, 157, 158, 159, 160, 161, 162, 163, 191, 192, 193, 194, 195, 196, 197, 198, 199, 200, 174, 175, 176, 177, 178, 179, 180, 181, 182, 183, 184, 185, 186, 187, 188, 189, 190, 201, 202, 203] (by decide +kernel) (by decide +kernel)
set_option maxRecDepth 20000 in
theorem gX7_makePlan_X0_search : GoodIn wsX7_makePlan (wsV RX7 270 RX0 yX0_search wsX0_search) := goodIn_app (goodIn_of _ (by decide +kernel)) ggX7_makePlan_X0_search
theorem dX7_makePlan_0 : decode cX7_makePlan 0 = .ok (.aload_n 0, 1) := by decide +kernel
theorem dX7_makePlan_1 : decode cX7_makePlan 1 = .ok (.getfield 65, 3) := by decide +kernel
theorem dX7_makePlan_4 : decode cX7_makePlan 4 = .ok (.ifCond .ne 19, 3) := by decide +kernel
theorem dX7_makePlan_7 : decode cX7_makePlan 7 = .ok (.aload_n 0, 1) := by decide +kernel
theorem dX7_makePlan_8 : decode cX7_makePlan 8 = .ok (.invokevirtual 242, 3) := by decide +kernel
theorem dX7_makePlan_11 : decode cX7_makePlan 11 = .ok (.aload_n 0, 1) := by decide +kernel
theorem dX7_makePlan_12 : decode cX7_makePlan 12 = .ok (.getfield 30, 3) := by decide +kernel
theorem dX7_makePlan_15 : decode cX7_makePlan 15 = .ok (.invokevirtual 270, 3) := by decide +kernel
theorem dX7_makePlan_18 : decode cX7_makePlan 18 = .ok (.aload_n 0, 1) := by decide +kernel
theorem dX7_makePlan_19 : decode cX7_makePlan 19 = .ok (.iconst 1, 1) := by decide +kernel
theorem dX7_makePlan_20 : decode cX7_makePlan 20 = .ok (.putfield 65, 3) := by decide +kernel
theorem dX7_makePlan_23 : decode cX7_makePlan 23 = .ok (.return_, 1) := by decide +kernel
set_option maxRecDepth 20000 in
theorem ggX7_number_X5_countGiven : GoodIn wsX7_number wsX5_countGiven := goodIn_r _ [10, 11, 12, 13, 14, 15, 16, 17, 18, 19, 140, 141, 142, 143, 144, 145, 146, 147] (by decide +kernel) (by decide +kernel)
set_option maxRecDepth 20000 in
theorem gX7_number_X5_countGiven : GoodIn wsX7_number (wsV RX7 121 RX5 yX5_countGiven wsX5_countGiven) := goodIn_app (goodIn_of _ (by decide +kernel)) ggX7_number_X5_countGiven
set_option maxRecDepth 20000 in
theorem ggX7_number_X5_countPairs : GoodIn wsX7_number wsX5_countPairs := goodIn_r _ [23, 11, 24, 140, 141, 142, 143, 144, 145, 146, 147] (by decide +kernel) (by decide +kernel)
set_option maxRecDepth 20000 in
theorem gX7_number_X5_countPairs : GoodIn wsX7_number (wsV RX7 199 RX5 yX5_countPairs wsX5_countPairs) := goodIn_app (goodIn_of _ (by decide +kernel)) ggX7_number_X5_countPairs
set_option maxRecDepth 20000 in
theorem ggX7_number_X7_think : GoodIn wsX7_number wsX7_think := goodIn_r _ [29, 30, 4, 31, 32, 33, 34, 35, 36, 37, 38, 39, 40, 41, 42, 43, 44, 45, 46, 47, 48, 49, 50, 51, 52, 53, 54, 55, 56, 28, 57, 58, 59, 60, 61, 62, 63, 64, 65, 66, 67, 68, 69, 70, 71, 72, 73, 74, 75, 76, 77, 78, 79, 80, 81, 82, 83, 84, 85, 86, 87, 88, 89, 90, 91, 92, 93, 94, 95, 96, 97, 98, 99, 100, 101, 102, 103, 104, 105, 106, 107, 108, 109, 110, 111, 112, 113, 114, 115, 116, 117, 118, 119, 120, 121, 130, 131, 132, 133, 134, 135, 136, 137, 138, 139, 148, 149, 150, 151, 152, 153, 154, 155, 156, 140, 141, 142, 143, 144, 145, 146, 147] (by decide +kernel) (by decide +kernel)
set_option maxRecDepth 20000 in
theorem gX7_number_X7_think : GoodIn wsX7_number (wsV RX7 242 RX7 yX7_think wsX7_think) := goodIn_app (goodIn_of _ (by decide +kernel)) ggX7_number_X7_think
set_option maxRecDepth 20000 in
theorem ggX7_number_X6_countOpenPairs : GoodIn wsX7_number wsX6_countOpenPairs := goodIn_r _ [125, 43, 44, 51, 126, 127, 128, 34, 129, 49, 56, 28, 57, 148, 149, 150, 151, 152, 153, 154, 155, 156, 140, 141, 142, 143, 144, 145, 146, 147] (by decide +kernel) (by decide +kernel)
set_option maxRecDepth 20000 in
theorem gX7_number_X6_countOpenPairs : GoodIn wsX7_number (wsV RX7 202 RX6 yX6_countOpenPairs wsX6_countOpenPairs) := goodIn_app (goodIn_of _ (by decide +kernel)) ggX7_number_X6_countOpenPairs
theorem dX7_number_0 : decode cX7_number 0 = .ok (.iload_n 1, 1) := by decide +kernel
theorem dX7_number_1 : decode cX7_number 1 = .ok (.tableswitch 63 0 3 #[31, 39, 47, 55], 31) := by decide +kernel
theorem dX7_number_32 : decode cX7_number 32 = .ok (.aload_n 0, 1) := by decide +kernel
theorem dX7_number_33 : decode cX7_number 33 = .ok (.getfield 12, 3) := by decide +kernel
theorem dX7_number_36 : decode cX7_number 36 = .ok (.getfield 273, 3) := by decide +kernel
theorem dX7_number_39 : decode cX7_number 39 = .ok (.ireturn, 1) := by decide +kernel
theorem dX7_number_40 : decode cX7_number 40 = .ok (.aload_n 0, 1) := by decide +kernel
theorem dX7_number_41 : decode cX7_number 41 = .ok (.getfield 12, 3) := by decide +kernel
theorem dX7_number_44 : decode cX7_number 44 = .ok (.getfield 75, 3) := by decide +kernel
theorem dX7_number_47 : decode cX7_number 47 = .ok (.ireturn, 1) := by decide +kernel
theorem dX7_number_48 : decode cX7_number 48 = .ok (.aload_n 0, 1) := by decide +kernel
theorem dX7_number_49 : decode cX7_number 49 = .ok (.getfield 12, 3) := by decide +kernel
theorem dX7_number_52 : decode cX7_number 52 = .ok (.invokevirtual 121, 3) := by decide +kernel
theorem dX7_number_55 : decode cX7_number 55 = .ok (.ireturn, 1) := by decide +kernel
theorem dX7_number_56 : decode cX7_number 56 = .ok (.aload_n 0, 1) := by decide +kernel
theorem dX7_number_57 : decode cX7_number 57 = .ok (.getfield 12, 3) := by decide +kernel
theorem dX7_number_60 : decode cX7_number 60 = .ok (.invokevirtual 199, 3) := by decide +kernel
theorem dX7_number_63 : decode cX7_number 63 = .ok (.ireturn, 1) := by decide +kernel
theorem dX7_number_64 : decode cX7_number 64 = .ok (.aload_n 0, 1) := by decide +kernel
theorem dX7_number_65 : decode cX7_number 65 = .ok (.invokevirtual 242, 3) := by decide +kernel
theorem dX7_number_68 : decode cX7_number 68 = .ok (.iload_n 1, 1) := by decide +kernel
theorem dX7_number_69 : decode cX7_number 69 = .ok (.iconst 4, 1) := by decide +kernel
theorem dX7_number_70 : decode cX7_number 70 = .ok (.if_icmp .ne 19, 3) := by decide +kernel
theorem dX7_number_73 : decode cX7_number 73 = .ok (.aload_n 0, 1) := by decide +kernel
theorem dX7_number_74 : decode cX7_number 74 = .ok (.getfield 21, 3) := by decide +kernel
theorem dX7_number_77 : decode cX7_number 77 = .ok (.getfield 196, 3) := by decide +kernel
theorem dX7_number_80 : decode cX7_number 80 = .ok (.ifCond .eq 7, 3) := by decide +kernel
theorem dX7_number_83 : decode cX7_number 83 = .ok (.iconst 1, 1) := by decide +kernel
theorem dX7_number_84 : decode cX7_number 84 = .ok (.goto 4, 3) := by decide +kernel
theorem dX7_number_87 : decode cX7_number 87 = .ok (.iconst 0, 1) := by decide +kernel
theorem dX7_number_88 : decode cX7_number 88 = .ok (.ireturn, 1) := by decide +kernel
theorem dX7_number_89 : decode cX7_number 89 = .ok (.aload_n 0, 1) := by decide +kernel
theorem dX7_number_90 : decode cX7_number 90 = .ok (.getfield 21, 3) := by decide +kernel
theorem dX7_number_93 : decode cX7_number 93 = .ok (.getfield 196, 3) := by decide +kernel
theorem dX7_number_96 : decode cX7_number 96 = .ok (.ifCond .eq 7, 3) := by decide +kernel
theorem dX7_number_99 : decode cX7_number 99 = .ok (.iconst (-1), 1) := by decide +kernel
theorem dX7_number_100 : decode cX7_number 100 = .ok (.goto 10, 3) := by decide +kernel
theorem dX7_number_103 : decode cX7_number 103 = .ok (.aload_n 0, 1) := by decide +kernel
theorem dX7_number_104 : decode cX7_number 104 = .ok (.getfield 21, 3) := by decide +kernel
theorem dX7_number_107 : decode cX7_number 107 = .ok (.invokevirtual 202, 3) := by decide +kernel
theorem dX7_number_110 : decode cX7_number 110 = .ok (.ireturn, 1) := by decide +kernel
set_option maxRecDepth 20000 in
theorem ggX7_standsWithDue_X5_copyFrom : GoodIn wsX7_standsWithDue wsX5_copyFrom := goodIn_r _ [10, 11, 12, 13, 14, 15, 16, 17, 18, 121, 122, 123, 124, 125, 126, 127, 128] (by decide +kernel) (by decide +kernel)
set_option maxRecDepth 20000 in
theorem gX7_standsWithDue_X5_copyFrom : GoodIn wsX7_standsWithDue (wsV RX7 190 RX5 yX5_copyFrom wsX5_copyFrom) := goodIn_app (goodIn_of _ (by decide +kernel)) ggX7_standsWithDue_X5_copyFrom
set_option maxRecDepth 20000 in
theorem ggX7_standsWithDue_X6_run : GoodIn wsX7_standsWithDue wsX6_run := goodIn_r _ [23, 24, 25, 26, 27, 28, 22, 29, 30, 31, 32, 33, 34, 35, 36, 37, 38, 39, 40, 41, 42, 43, 44, 45, 46, 47, 48, 49, 50, 51, 52, 53, 54, 55, 56, 57, 58, 59, 60, 61, 62, 63, 64, 65, 66, 67, 68, 69, 70, 71, 72, 73, 74, 75, 76, 77, 78, 79, 80, 81, 82, 83, 84, 85, 86, 87, 88, 89, 90, 91, 92, 93, 94, 95, 96, 97, 98, 99, 100, 101, 102, 103, 104, 105, 106, 107, 108, 109, 110, 129, 130, 131, 132, 133, 134, 135, 136, 137, 121, 122, 123, 124, 125, 126, 127, 128] (by decide +kernel) (by decide +kernel)
set_option maxRecDepth 20000 in
theorem gX7_standsWithDue_X6_run : GoodIn wsX7_standsWithDue (wsV RX7 193 RX6 yX6_run wsX6_run) := goodIn_app (goodIn_of _ (by decide +kernel)) ggX7_standsWithDue_X6_run
theorem dX7_standsWithDue_0 : decode cX7_standsWithDue 0 = .ok (.aload_n 0, 1) := by decide +kernel
theorem dX7_standsWithDue_1 : decode cX7_standsWithDue 1 = .ok (.getfield 41, 3) := by decide +kernel
theorem dX7_standsWithDue_4 : decode cX7_standsWithDue 4 = .ok (.aload_n 0, 1) := by decide +kernel
theorem dX7_standsWithDue_5 : decode cX7_standsWithDue 5 = .ok (.getfield 12, 3) := by decide +kernel
theorem dX7_standsWithDue_8 : decode cX7_standsWithDue 8 = .ok (.invokevirtual 190, 3) := by decide +kernel
theorem dX7_standsWithDue_11 : decode cX7_standsWithDue 11 = .ok (.aload_n 0, 1) := by decide +kernel
theorem dX7_standsWithDue_12 : decode cX7_standsWithDue 12 = .ok (.getfield 41, 3) := by decide +kernel
theorem dX7_standsWithDue_15 : decode cX7_standsWithDue 15 = .ok (.getfield 106, 3) := by decide +kernel
theorem dX7_standsWithDue_18 : decode cX7_standsWithDue 18 = .ok (.iload_n 1, 1) := by decide +kernel
theorem dX7_standsWithDue_19 : decode cX7_standsWithDue 19 = .ok (.iload_n 2, 1) := by decide +kernel
theorem dX7_standsWithDue_20 : decode cX7_standsWithDue 20 = .ok (.iastore, 1) := by decide +kernel
theorem dX7_standsWithDue_21 : decode cX7_standsWithDue 21 = .ok (.aload_n 0, 1) := by decide +kernel
theorem dX7_standsWithDue_22 : decode cX7_standsWithDue 22 = .ok (.getfield 44, 3) := by decide +kernel
theorem dX7_standsWithDue_25 : decode cX7_standsWithDue 25 = .ok (.invokevirtual 193, 3) := by decide +kernel
theorem dX7_standsWithDue_28 : decode cX7_standsWithDue 28 = .ok (.aload_n 0, 1) := by decide +kernel
theorem dX7_standsWithDue_29 : decode cX7_standsWithDue 29 = .ok (.getfield 44, 3) := by decide +kernel
theorem dX7_standsWithDue_32 : decode cX7_standsWithDue 32 = .ok (.getfield 196, 3) := by decide +kernel
theorem dX7_standsWithDue_35 : decode cX7_standsWithDue 35 = .ok (.ifCond .ne 7, 3) := by decide +kernel
theorem dX7_standsWithDue_38 : decode cX7_standsWithDue 38 = .ok (.iconst 1, 1) := by decide +kernel
theorem dX7_standsWithDue_39 : decode cX7_standsWithDue 39 = .ok (.goto 4, 3) := by decide +kernel
theorem dX7_standsWithDue_42 : decode cX7_standsWithDue 42 = .ok (.iconst 0, 1) := by decide +kernel
theorem dX7_standsWithDue_43 : decode cX7_standsWithDue 43 = .ok (.ireturn, 1) := by decide +kernel
set_option maxRecDepth 20000 in
theorem ggX7_standsWithin_X5_copyFrom : GoodIn wsX7_standsWithin wsX5_copyFrom := goodIn_r _ [15, 16, 17, 18, 19, 20, 21, 22, 23, 123, 124, 125, 126, 127, 128, 129, 130] (by decide +kernel) (by decide +kernel)
set_option maxRecDepth 20000 in
theorem gX7_standsWithin_X5_copyFrom : GoodIn wsX7_standsWithin (wsV RX7 190 RX5 yX5_copyFrom wsX5_copyFrom) := goodIn_app (goodIn_of _ (by decide +kernel)) ggX7_standsWithin_X5_copyFrom
set_option maxRecDepth 20000 in
theorem ggX7_standsWithin_X6_run : GoodIn wsX7_standsWithin wsX6_run := goodIn_r _ [28, 29, 30, 31, 32, 33, 27, 34, 35, 36, 37, 38, 39, 40, 41, 42, 43, 44, 45, 46, 47, 48, 49, 50, 51, 52, 53, 54, 55, 56, 57, 58, 59, 60, 61, 62, 63, 64, 65, 66, 67, 68, 69, 70, 71, 72, 73, 74, 75, 76, 77, 6, 7, 8, 78, 79, 80, 81, 82, 83, 84, 85, 86, 87, 88, 89, 90, 91, 92, 93, 94, 95, 96, 97, 98, 99, 100, 101, 102, 103, 104, 105, 106, 107, 108, 109, 110, 111, 112, 131, 132, 133, 134, 135, 136, 137, 138, 139, 123, 124, 125, 126, 127, 128, 129, 130] (by decide +kernel) (by decide +kernel)
set_option maxRecDepth 20000 in
theorem gX7_standsWithin_X6_run : GoodIn wsX7_standsWithin (wsV RX7 193 RX6 yX6_run wsX6_run) := goodIn_app (goodIn_of _ (by decide +kernel)) ggX7_standsWithin_X6_run
theorem dX7_standsWithin_0 : decode cX7_standsWithin 0 = .ok (.aload_n 0, 1) := by decide +kernel
theorem dX7_standsWithin_1 : decode cX7_standsWithin 1 = .ok (.getfield 41, 3) := by decide +kernel
theorem dX7_standsWithin_4 : decode cX7_standsWithin 4 = .ok (.aload_n 0, 1) := by decide +kernel
theorem dX7_standsWithin_5 : decode cX7_standsWithin 5 = .ok (.getfield 12, 3) := by decide +kernel
theorem dX7_standsWithin_8 : decode cX7_standsWithin 8 = .ok (.invokevirtual 190, 3) := by decide +kernel
theorem dX7_standsWithin_11 : decode cX7_standsWithin 11 = .ok (.iconst 0, 1) := by decide +kernel
theorem dX7_standsWithin_12 : decode cX7_standsWithin 12 = .ok (.istore_n 2, 1) := by decide +kernel
theorem dX7_standsWithin_13 : decode cX7_standsWithin 13 = .ok (.iload_n 2, 1) := by decide +kernel
theorem dX7_standsWithin_14 : decode cX7_standsWithin 14 = .ok (.aload_n 0, 1) := by decide +kernel
theorem dX7_standsWithin_15 : decode cX7_standsWithin 15 = .ok (.getfield 41, 3) := by decide +kernel
theorem dX7_standsWithin_18 : decode cX7_standsWithin 18 = .ok (.getfield 75, 3) := by decide +kernel
theorem dX7_standsWithin_21 : decode cX7_standsWithin 21 = .ok (.if_icmp .ge 31, 3) := by decide +kernel
theorem dX7_standsWithin_24 : decode cX7_standsWithin 24 = .ok (.aload_n 0, 1) := by decide +kernel
theorem dX7_standsWithin_25 : decode cX7_standsWithin 25 = .ok (.getfield 41, 3) := by decide +kernel
theorem dX7_standsWithin_28 : decode cX7_standsWithin 28 = .ok (.getfield 106, 3) := by decide +kernel
theorem dX7_standsWithin_31 : decode cX7_standsWithin 31 = .ok (.iload_n 2, 1) := by decide +kernel
theorem dX7_standsWithin_32 : decode cX7_standsWithin 32 = .ok (.aload_n 0, 1) := by decide +kernel
theorem dX7_standsWithin_33 : decode cX7_standsWithin 33 = .ok (.getfield 41, 3) := by decide +kernel
theorem dX7_standsWithin_36 : decode cX7_standsWithin 36 = .ok (.getfield 106, 3) := by decide +kernel
theorem dX7_standsWithin_39 : decode cX7_standsWithin 39 = .ok (.iload_n 2, 1) := by decide +kernel
theorem dX7_standsWithin_40 : decode cX7_standsWithin 40 = .ok (.iaload, 1) := by decide +kernel
theorem dX7_standsWithin_41 : decode cX7_standsWithin 41 = .ok (.iload_n 1, 1) := by decide +kernel
theorem dX7_standsWithin_42 : decode cX7_standsWithin 42 = .ok (.invokestatic 276, 3) := by decide +kernel
theorem dX7_standsWithin_45 : decode cX7_standsWithin 45 = .ok (.iastore, 1) := by decide +kernel
theorem dX7_standsWithin_46 : decode cX7_standsWithin 46 = .ok (.iinc 2 1, 3) := by decide +kernel
theorem dX7_standsWithin_49 : decode cX7_standsWithin 49 = .ok (.goto (-36), 3) := by decide +kernel
theorem dX7_standsWithin_52 : decode cX7_standsWithin 52 = .ok (.aload_n 0, 1) := by decide +kernel
theorem dX7_standsWithin_53 : decode cX7_standsWithin 53 = .ok (.getfield 44, 3) := by decide +kernel
theorem dX7_standsWithin_56 : decode cX7_standsWithin 56 = .ok (.invokevirtual 193, 3) := by decide +kernel
theorem dX7_standsWithin_59 : decode cX7_standsWithin 59 = .ok (.aload_n 0, 1) := by decide +kernel
theorem dX7_standsWithin_60 : decode cX7_standsWithin 60 = .ok (.getfield 44, 3) := by decide +kernel
theorem dX7_standsWithin_63 : decode cX7_standsWithin 63 = .ok (.getfield 196, 3) := by decide +kernel
theorem dX7_standsWithin_66 : decode cX7_standsWithin 66 = .ok (.ifCond .ne 7, 3) := by decide +kernel
theorem dX7_standsWithin_69 : decode cX7_standsWithin 69 = .ok (.iconst 1, 1) := by decide +kernel
theorem dX7_standsWithin_70 : decode cX7_standsWithin 70 = .ok (.goto 4, 3) := by decide +kernel
theorem dX7_standsWithin_73 : decode cX7_standsWithin 73 = .ok (.iconst 0, 1) := by decide +kernel
theorem dX7_standsWithin_74 : decode cX7_standsWithin 74 = .ok (.ireturn, 1) := by decide +kernel
theorem dX7_contains_0 : decode cX7_contains 0 = .ok (.iload_n 0, 1) := by decide +kernel
theorem dX7_contains_1 : decode cX7_contains 1 = .ok (.iload_n 1, 1) := by decide +kernel
theorem dX7_contains_2 : decode cX7_contains 2 = .ok (.ishr, 1) := by decide +kernel
theorem dX7_contains_3 : decode cX7_contains 3 = .ok (.iconst 1, 1) := by decide +kernel
theorem dX7_contains_4 : decode cX7_contains 4 = .ok (.iand, 1) := by decide +kernel
theorem dX7_contains_5 : decode cX7_contains 5 = .ok (.ifCond .eq 7, 3) := by decide +kernel
theorem dX7_contains_8 : decode cX7_contains 8 = .ok (.iconst 1, 1) := by decide +kernel
theorem dX7_contains_9 : decode cX7_contains 9 = .ok (.goto 4, 3) := by decide +kernel
theorem dX7_contains_12 : decode cX7_contains 12 = .ok (.iconst 0, 1) := by decide +kernel
theorem dX7_contains_13 : decode cX7_contains 13 = .ok (.ireturn, 1) := by decide +kernel
theorem dJ6_bitCount_0f7a4_0 : decode cJ6_bitCount_0f7a4 0 = .ok (.iload_n 0, 1) := by decide +kernel
theorem dJ6_bitCount_0f7a4_1 : decode cJ6_bitCount_0f7a4 1 = .ok (.iload_n 0, 1) := by decide +kernel
theorem dJ6_bitCount_0f7a4_2 : decode cJ6_bitCount_0f7a4 2 = .ok (.iconst 1, 1) := by decide +kernel
theorem dJ6_bitCount_0f7a4_3 : decode cJ6_bitCount_0f7a4 3 = .ok (.iushr, 1) := by decide +kernel
theorem dJ6_bitCount_0f7a4_4 : decode cJ6_bitCount_0f7a4 4 = .ok (.ldc_w 265, 3) := by decide +kernel
theorem dJ6_bitCount_0f7a4_7 : decode cJ6_bitCount_0f7a4 7 = .ok (.iand, 1) := by decide +kernel
theorem dJ6_bitCount_0f7a4_8 : decode cJ6_bitCount_0f7a4 8 = .ok (.isub, 1) := by decide +kernel
theorem dJ6_bitCount_0f7a4_9 : decode cJ6_bitCount_0f7a4 9 = .ok (.istore_n 0, 1) := by decide +kernel
theorem dJ6_bitCount_0f7a4_10 : decode cJ6_bitCount_0f7a4 10 = .ok (.iload_n 0, 1) := by decide +kernel
theorem dJ6_bitCount_0f7a4_11 : decode cJ6_bitCount_0f7a4 11 = .ok (.ldc_w 266, 3) := by decide +kernel
theorem dJ6_bitCount_0f7a4_14 : decode cJ6_bitCount_0f7a4 14 = .ok (.iand, 1) := by decide +kernel
theorem dJ6_bitCount_0f7a4_15 : decode cJ6_bitCount_0f7a4 15 = .ok (.iload_n 0, 1) := by decide +kernel
theorem dJ6_bitCount_0f7a4_16 : decode cJ6_bitCount_0f7a4 16 = .ok (.iconst 2, 1) := by decide +kernel
theorem dJ6_bitCount_0f7a4_17 : decode cJ6_bitCount_0f7a4 17 = .ok (.iushr, 1) := by decide +kernel
theorem dJ6_bitCount_0f7a4_18 : decode cJ6_bitCount_0f7a4 18 = .ok (.ldc_w 266, 3) := by decide +kernel
theorem dJ6_bitCount_0f7a4_21 : decode cJ6_bitCount_0f7a4 21 = .ok (.iand, 1) := by decide +kernel
theorem dJ6_bitCount_0f7a4_22 : decode cJ6_bitCount_0f7a4 22 = .ok (.iadd, 1) := by decide +kernel
theorem dJ6_bitCount_0f7a4_23 : decode cJ6_bitCount_0f7a4 23 = .ok (.istore_n 0, 1) := by decide +kernel
theorem dJ6_bitCount_0f7a4_24 : decode cJ6_bitCount_0f7a4 24 = .ok (.iload_n 0, 1) := by decide +kernel
theorem dJ6_bitCount_0f7a4_25 : decode cJ6_bitCount_0f7a4 25 = .ok (.iload_n 0, 1) := by decide +kernel
theorem dJ6_bitCount_0f7a4_26 : decode cJ6_bitCount_0f7a4 26 = .ok (.iconst 4, 1) := by decide +kernel
theorem dJ6_bitCount_0f7a4_27 : decode cJ6_bitCount_0f7a4 27 = .ok (.iushr, 1) := by decide +kernel
theorem dJ6_bitCount_0f7a4_28 : decode cJ6_bitCount_0f7a4 28 = .ok (.iadd, 1) := by decide +kernel
theorem dJ6_bitCount_0f7a4_29 : decode cJ6_bitCount_0f7a4 29 = .ok (.ldc_w 267, 3) := by decide +kernel
theorem dJ6_bitCount_0f7a4_32 : decode cJ6_bitCount_0f7a4 32 = .ok (.iand, 1) := by decide +kernel
theorem dJ6_bitCount_0f7a4_33 : decode cJ6_bitCount_0f7a4 33 = .ok (.istore_n 0, 1) := by decide +kernel
theorem dJ6_bitCount_0f7a4_34 : decode cJ6_bitCount_0f7a4 34 = .ok (.iload_n 0, 1) := by decide +kernel
theorem dJ6_bitCount_0f7a4_35 : decode cJ6_bitCount_0f7a4 35 = .ok (.iload_n 0, 1) := by decide +kernel
theorem dJ6_bitCount_0f7a4_36 : decode cJ6_bitCount_0f7a4 36 = .ok (.bipush 8, 2) := by decide +kernel
theorem dJ6_bitCount_0f7a4_38 : decode cJ6_bitCount_0f7a4 38 = .ok (.iushr, 1) := by decide +kernel
theorem dJ6_bitCount_0f7a4_39 : decode cJ6_bitCount_0f7a4 39 = .ok (.iadd, 1) := by decide +kernel
theorem dJ6_bitCount_0f7a4_40 : decode cJ6_bitCount_0f7a4 40 = .ok (.istore_n 0, 1) := by decide +kernel
theorem dJ6_bitCount_0f7a4_41 : decode cJ6_bitCount_0f7a4 41 = .ok (.iload_n 0, 1) := by decide +kernel
theorem dJ6_bitCount_0f7a4_42 : decode cJ6_bitCount_0f7a4 42 = .ok (.iload_n 0, 1) := by decide +kernel
theorem dJ6_bitCount_0f7a4_43 : decode cJ6_bitCount_0f7a4 43 = .ok (.bipush 16, 2) := by decide +kernel
theorem dJ6_bitCount_0f7a4_45 : decode cJ6_bitCount_0f7a4 45 = .ok (.iushr, 1) := by decide +kernel
theorem dJ6_bitCount_0f7a4_46 : decode cJ6_bitCount_0f7a4 46 = .ok (.iadd, 1) := by decide +kernel
theorem dJ6_bitCount_0f7a4_47 : decode cJ6_bitCount_0f7a4 47 = .ok (.istore_n 0, 1) := by decide +kernel
theorem dJ6_bitCount_0f7a4_48 : decode cJ6_bitCount_0f7a4 48 = .ok (.iload_n 0, 1) := by decide +kernel
theorem dJ6_bitCount_0f7a4_49 : decode cJ6_bitCount_0f7a4 49 = .ok (.bipush 63, 2) := by decide +kernel
theorem dJ6_bitCount_0f7a4_51 : decode cJ6_bitCount_0f7a4 51 = .ok (.iand, 1) := by decide +kernel
theorem dJ6_bitCount_0f7a4_52 : decode cJ6_bitCount_0f7a4 52 = .ok (.ireturn, 1) := by decide +kernel
theorem dJ9_max_7cf53_0 : decode cJ9_max_7cf53 0 = .ok (.iload_n 0, 1) := by decide +kernel
theorem dJ9_max_7cf53_1 : decode cJ9_max_7cf53 1 = .ok (.iload_n 1, 1) := by decide +kernel
theorem dJ9_max_7cf53_2 : decode cJ9_max_7cf53 2 = .ok (.if_icmp .lt 7, 3) := by decide +kernel
theorem dJ9_max_7cf53_5 : decode cJ9_max_7cf53 5 = .ok (.iload_n 0, 1) := by decide +kernel
theorem dJ9_max_7cf53_6 : decode cJ9_max_7cf53 6 = .ok (.goto 4, 3) := by decide +kernel
theorem dJ9_max_7cf53_9 : decode cJ9_max_7cf53 9 = .ok (.iload_n 1, 1) := by decide +kernel
theorem dJ9_max_7cf53_10 : decode cJ9_max_7cf53 10 = .ok (.ireturn, 1) := by decide +kernel
theorem dJ9_min_7cf53_0 : decode cJ9_min_7cf53 0 = .ok (.iload_n 0, 1) := by decide +kernel
theorem dJ9_min_7cf53_1 : decode cJ9_min_7cf53 1 = .ok (.iload_n 1, 1) := by decide +kernel
theorem dJ9_min_7cf53_2 : decode cJ9_min_7cf53 2 = .ok (.if_icmp .gt 7, 3) := by decide +kernel
theorem dJ9_min_7cf53_5 : decode cJ9_min_7cf53 5 = .ok (.iload_n 0, 1) := by decide +kernel
theorem dJ9_min_7cf53_6 : decode cJ9_min_7cf53 6 = .ok (.goto 4, 3) := by decide +kernel
theorem dJ9_min_7cf53_9 : decode cJ9_min_7cf53 9 = .ok (.iload_n 1, 1) := by decide +kernel
theorem dJ9_min_7cf53_10 : decode cJ9_min_7cf53 10 = .ok (.ireturn, 1) := by decide +kernel
theorem dL_cell_0 : decode cL_cell 0 = .ok (.iload_n 1, 1) := by decide +kernel
theorem dL_cell_1 : decode cL_cell 1 = .ok (.aload_n 0, 1) := by decide +kernel
theorem dL_cell_2 : decode cL_cell 2 = .ok (.arraylength, 1) := by decide +kernel
theorem dL_cell_3 : decode cL_cell 3 = .ok (.if_icmp .ge 9, 3) := by decide +kernel
theorem dL_cell_6 : decode cL_cell 6 = .ok (.aload_n 0, 1) := by decide +kernel
theorem dL_cell_7 : decode cL_cell 7 = .ok (.iload_n 1, 1) := by decide +kernel
theorem dL_cell_8 : decode cL_cell 8 = .ok (.iaload, 1) := by decide +kernel
theorem dL_cell_9 : decode cL_cell 9 = .ok (.goto 10, 3) := by decide +kernel
theorem dL_cell_12 : decode cL_cell 12 = .ok (.ldc 7, 2) := by decide +kernel
theorem dL_cell_14 : decode cL_cell 14 = .ok (.iload_n 1, 1) := by decide +kernel
theorem dL_cell_15 : decode cL_cell 15 = .ok (.imul, 1) := by decide +kernel
theorem dL_cell_16 : decode cL_cell 16 = .ok (.ldc 8, 2) := by decide +kernel
theorem dL_cell_18 : decode cL_cell 18 = .ok (.iadd, 1) := by decide +kernel
theorem dL_cell_19 : decode cL_cell 19 = .ok (.ireturn, 1) := by decide +kernel
theorem dL_low_0 : decode cL_low 0 = .ok (.iload_n 0, 1) := by decide +kernel
theorem dL_low_1 : decode cL_low 1 = .ok (.ldc 9, 2) := by decide +kernel
theorem dL_low_3 : decode cL_low 3 = .ok (.iand, 1) := by decide +kernel
theorem dL_low_4 : decode cL_low 4 = .ok (.iload_n 1, 1) := by decide +kernel
theorem dL_low_5 : decode cL_low 5 = .ok (.irem, 1) := by decide +kernel
theorem dL_low_6 : decode cL_low 6 = .ok (.ireturn, 1) := by decide +kernel
set_option maxRecDepth 20000 in
theorem ggL_leads_X7_task : GoodIn wsL_leads wsX7_task := goodIn_ca (goodIn_ca (goodIn_r _ [5, 6, 7, 8, 9, 10, 11, 4, 12, 13, 14, 15, 16, 17, 18, 19, 20, 21, 22, 23, 24, 25, 26, 27, 28, 29, 30, 162, 163, 164, 165, 166, 167, 168, 169, 170, 171, 172, 173, 174, 175, 176, 177, 178, 179] (by decide +kernel) (by decide +kernel)) (goodIn_sub (fun _ h => List.mem_cons_of_mem _ (List.mem_append_left _ (List.mem_append_right _ h))) (by decide +kernel))) (goodIn_sub (fun _ h => List.mem_cons_of_mem _ (List.mem_append_right _ h)) (by decide +kernel))
set_option maxRecDepth 20000 in
theorem gL_leads_X7_task : GoodIn wsL_leads (wsV RL 10 RX7 yX7_task wsX7_task) := goodIn_app (goodIn_of _ (by decide +kernel)) ggL_leads_X7_task
set_option maxRecDepth 20000 in
theorem ggL_leads_X7_value : GoodIn wsL_leads wsX7_value := goodIn_ca (goodIn_r _ [34, 6, 7, 35, 36, 37, 4, 38, 8, 39, 40, 41, 42, 43, 44, 45, 18, 46, 20, 30, 47, 48, 49, 50, 51, 52, 53, 54, 55, 56, 57, 25, 58, 59, 60, 61, 62, 63, 64, 65, 66, 67, 68, 69, 70, 71, 72, 73, 74, 75, 76, 77, 78, 79, 80, 81, 82, 83, 84, 85, 86, 87, 88, 89, 90, 91, 92, 93, 94, 95, 96, 97, 98, 99, 100, 101, 102, 103, 104, 105, 106, 107, 108, 109, 110, 111, 112, 113, 114, 115, 116, 117, 118, 119, 120, 121, 122, 123, 124, 125, 126, 127, 128, 129, 130, 131, 132, 133, 134, 135, 136, 137, 138, 139, 140, 141, 142, 143, 144, 145, 146, 147, 148, 149, 150, 151, 152, 153, 154, 155, 156, 157, 158, 159, 160, 161, 162, 163, 164, 165, 166, 167, 168, 169, 170, 171, 172, 173, 174, 175, 176, 177, 178, 179, 180, 181, 182, 183, 184, 185, 186, 187, 188] (by decide +kernel) (by decide +kernel)) (goodIn_sub (fun _ h => List.mem_cons_of_mem _ (List.mem_append_left _ (List.mem_append_right _ h))) (by decide +kernel))
set_option maxRecDepth 20000 in
theorem gL_leads_X7_value : GoodIn wsL_leads (wsV RL 16 RX7 yX7_value wsX7_value) := goodIn_app (goodIn_of _ (by decide +kernel)) ggL_leads_X7_value
theorem dL_leads_0 : decode cL_leads 0 = .ok (.aload_n 0, 1) := by decide +kernel
theorem dL_leads_1 : decode cL_leads 1 = .ok (.iload_n 1, 1) := by decide +kernel
theorem dL_leads_2 : decode cL_leads 2 = .ok (.iconst 5, 1) := by decide +kernel
theorem dL_leads_3 : decode cL_leads 3 = .ok (.invokevirtual 10, 3) := by decide +kernel
theorem dL_leads_6 : decode cL_leads 6 = .ok (.istore_n 3, 1) := by decide +kernel
theorem dL_leads_7 : decode cL_leads 7 = .ok (.iconst 0, 1) := by decide +kernel
theorem dL_leads_8 : decode cL_leads 8 = .ok (.istore 4, 2) := by decide +kernel
theorem dL_leads_10 : decode cL_leads 10 = .ok (.iload 4, 2) := by decide +kernel
theorem dL_leads_12 : decode cL_leads 12 = .ok (.bipush 8, 2) := by decide +kernel
theorem dL_leads_14 : decode cL_leads 14 = .ok (.if_icmp .ge 52, 3) := by decide +kernel
theorem dL_leads_17 : decode cL_leads 17 = .ok (.iconst 0, 1) := by decide +kernel
theorem dL_leads_18 : decode cL_leads 18 = .ok (.istore 5, 2) := by decide +kernel
theorem dL_leads_20 : decode cL_leads 20 = .ok (.iload 5, 2) := by decide +kernel
theorem dL_leads_22 : decode cL_leads 22 = .ok (.aload_n 0, 1) := by decide +kernel
theorem dL_leads_23 : decode cL_leads 23 = .ok (.iconst 1, 1) := by decide +kernel
theorem dL_leads_24 : decode cL_leads 24 = .ok (.invokevirtual 16, 3) := by decide +kernel
theorem dL_leads_27 : decode cL_leads 27 = .ok (.if_icmp .ge 33, 3) := by decide +kernel
theorem dL_leads_30 : decode cL_leads 30 = .ok (.iload_n 3, 1) := by decide +kernel
theorem dL_leads_31 : decode cL_leads 31 = .ok (.iload_n 3, 1) := by decide +kernel
theorem dL_leads_32 : decode cL_leads 32 = .ok (.iload 5, 2) := by decide +kernel
theorem dL_leads_34 : decode cL_leads 34 = .ok (.ishr, 1) := by decide +kernel
theorem dL_leads_35 : decode cL_leads 35 = .ok (.iconst 1, 1) := by decide +kernel
theorem dL_leads_36 : decode cL_leads 36 = .ok (.iand, 1) := by decide +kernel
theorem dL_leads_37 : decode cL_leads 37 = .ok (.iconst 1, 1) := by decide +kernel
theorem dL_leads_38 : decode cL_leads 38 = .ok (.if_icmp .ne 13, 3) := by decide +kernel
theorem dL_leads_41 : decode cL_leads 41 = .ok (.aload_n 0, 1) := by decide +kernel
theorem dL_leads_42 : decode cL_leads 42 = .ok (.iload 5, 2) := by decide +kernel
theorem dL_leads_44 : decode cL_leads 44 = .ok (.iconst 5, 1) := by decide +kernel
theorem dL_leads_45 : decode cL_leads 45 = .ok (.invokevirtual 10, 3) := by decide +kernel
theorem dL_leads_48 : decode cL_leads 48 = .ok (.goto 4, 3) := by decide +kernel
theorem dL_leads_51 : decode cL_leads 51 = .ok (.iconst 0, 1) := by decide +kernel
theorem dL_leads_52 : decode cL_leads 52 = .ok (.ior, 1) := by decide +kernel
theorem dL_leads_53 : decode cL_leads 53 = .ok (.istore_n 3, 1) := by decide +kernel
theorem dL_leads_54 : decode cL_leads 54 = .ok (.iinc 5 1, 3) := by decide +kernel
theorem dL_leads_57 : decode cL_leads 57 = .ok (.goto (-37), 3) := by decide +kernel
theorem dL_leads_60 : decode cL_leads 60 = .ok (.iinc 4 1, 3) := by decide +kernel
theorem dL_leads_63 : decode cL_leads 63 = .ok (.goto (-53), 3) := by decide +kernel
theorem dL_leads_66 : decode cL_leads 66 = .ok (.iload_n 3, 1) := by decide +kernel
theorem dL_leads_67 : decode cL_leads 67 = .ok (.iload_n 2, 1) := by decide +kernel
theorem dL_leads_68 : decode cL_leads 68 = .ok (.ishr, 1) := by decide +kernel
theorem dL_leads_69 : decode cL_leads 69 = .ok (.iconst 1, 1) := by decide +kernel
theorem dL_leads_70 : decode cL_leads 70 = .ok (.iand, 1) := by decide +kernel
theorem dL_leads_71 : decode cL_leads 71 = .ok (.iconst 1, 1) := by decide +kernel
theorem dL_leads_72 : decode cL_leads 72 = .ok (.if_icmp .ne 7, 3) := by decide +kernel
theorem dL_leads_75 : decode cL_leads 75 = .ok (.iconst 1, 1) := by decide +kernel
theorem dL_leads_76 : decode cL_leads 76 = .ok (.goto 4, 3) := by decide +kernel
theorem dL_leads_79 : decode cL_leads 79 = .ok (.iconst 0, 1) := by decide +kernel
theorem dL_leads_80 : decode cL_leads 80 = .ok (.ireturn, 1) := by decide +kernel
set_option maxRecDepth 20000 in
theorem ggL_build_L_cell : GoodIn wsL_build wsL_cell := goodIn_r _ [4, 5, 6] (by decide +kernel) (by decide +kernel)
set_option maxRecDepth 20000 in
theorem gL_build_L_cell : GoodIn wsL_build (va_wsS RL 20 yL_cell wsL_cell) := goodIn_app (goodIn_of _ (by decide +kernel)) ggL_build_L_cell
set_option maxRecDepth 20000 in
theorem ggL_build_L_low : GoodIn wsL_build wsL_low := goodIn_r _ [9, 10] (by decide +kernel) (by decide +kernel)
set_option maxRecDepth 20000 in
theorem gL_build_L_low : GoodIn wsL_build (va_wsS RL 26 yL_low wsL_low) := goodIn_app (goodIn_of _ (by decide +kernel)) ggL_build_L_low
set_option maxRecDepth 20000 in
theorem ggL_build_X7_begin : GoodIn wsL_build wsX7_begin := goodIn_ca (goodIn_r _ [15, 16, 17, 18, 19, 20, 21, 22, 14, 23, 24, 25, 26, 27, 28, 29, 30, 31, 32, 33, 34, 35, 36, 37, 38, 39, 40, 41, 42, 43, 44, 45, 46, 47, 48, 49, 50, 51, 52, 53, 54, 333, 334, 335, 336, 337, 338, 339, 340, 341, 342, 343, 344, 345, 346, 347, 348, 349, 350, 351, 352] (by decide +kernel) (by decide +kernel)) (goodIn_sub (fun _ h => List.mem_cons_of_mem _ (List.mem_append_left _ (List.mem_append_left _ (List.mem_append_right _ h)))) (by decide +kernel))
set_option maxRecDepth 20000 in
theorem gL_build_X7_begin : GoodIn wsL_build (wsV RL 29 RX7 yX7_begin wsX7_begin) := goodIn_app (goodIn_of _ (by decide +kernel)) ggL_build_X7_begin
set_option maxRecDepth 20000 in
theorem ggL_build_X7_value : GoodIn wsL_build wsX7_value := goodIn_ca (goodIn_r _ [58, 16, 17, 59, 60, 61, 14, 62, 18, 63, 19, 64, 65, 66, 67, 68, 35, 69, 38, 44, 70, 71, 72, 73, 74, 75, 76, 77, 78, 79, 80, 39, 81, 82, 83, 84, 49, 85, 86, 87, 88, 89, 90, 91, 92, 93, 94, 95, 96, 97, 98, 99, 100, 101, 102, 103, 104, 105, 106, 107, 108, 109, 110, 111, 112, 113, 114, 115, 116, 117, 118, 119, 120, 121, 122, 123, 124, 125, 126, 127, 128, 129, 130, 131, 132, 133, 134, 135, 136, 137, 138, 139, 140, 141, 142, 143, 144, 145, 146, 147, 148, 149, 150, 151, 152, 153, 154, 155, 156, 157, 158, 159, 160, 161, 162, 163, 164, 165, 166, 167, 168, 169, 170, 171, 172, 173, 174, 175, 176, 177, 178, 179, 180, 181, 182, 183, 333, 334, 335, 336, 337, 338, 339, 340, 341, 342, 343, 344, 345, 346, 347, 348, 349, 350, 353, 354, 355, 356, 357, 358, 359, 360, 361] (by decide +kernel) (by decide +kernel)) (goodIn_sub (fun _ h => List.mem_cons_of_mem _ (List.mem_append_left _ (List.mem_append_left _ (List.mem_append_right _ h)))) (by decide +kernel))
set_option maxRecDepth 20000 in
theorem gL_build_X7_value : GoodIn wsL_build (wsV RL 16 RX7 yX7_value wsX7_value) := goodIn_app (goodIn_of _ (by decide +kernel)) ggL_build_X7_value
set_option maxRecDepth 20000 in
theorem ggL_build_X7_makespan : GoodIn wsL_build wsX7_makespan := goodIn_r _ [187, 188, 189, 190, 191, 192, 14, 193, 50, 81, 82, 83, 84, 49, 64, 85, 86, 87, 88, 89, 90, 91, 92, 93, 94, 95, 96, 97, 98, 99, 100, 101, 102, 103, 104, 105, 106, 107, 108, 109, 110, 111, 112, 113, 114, 115, 116, 117, 118, 119, 120, 121, 122, 123, 124, 125, 126, 127, 128, 129, 130, 131, 132, 133, 134, 135, 136, 137, 138, 139, 140, 141, 142, 143, 144, 145, 146, 147, 148, 149, 150, 151, 152, 153, 154, 155, 156, 157, 158, 159, 160, 161, 162, 163, 164, 165, 166, 167, 168, 169, 170, 171, 172, 173, 174, 175, 194, 195, 196, 197, 198, 199, 200, 201, 202, 203, 204, 205, 206, 207, 208, 209, 210, 211, 212, 213, 214, 215, 216, 217, 218, 219, 220, 221, 222, 223, 224, 225, 226, 227, 228, 229, 230, 231, 232, 233, 234, 235, 236, 237, 238, 239, 240, 241, 242, 243, 244, 245, 246, 247, 248, 249, 250, 251, 252, 253, 254, 255, 256, 333, 334, 335, 336, 337, 338, 339, 340, 341, 342, 362, 363, 364, 365, 366, 367, 368, 369, 370, 371, 353, 354, 355, 356, 357, 358, 359, 360, 361, 343, 344, 345, 346, 347, 348, 349, 350, 372, 373, 374] (by decide +kernel) (by decide +kernel)
set_option maxRecDepth 20000 in
theorem gL_build_X7_makespan : GoodIn wsL_build (wsV RL 32 RX7 yX7_makespan wsX7_makespan) := goodIn_app (goodIn_of _ (by decide +kernel)) ggL_build_X7_makespan
set_option maxRecDepth 20000 in
theorem ggL_build_X7_lowerBound : GoodIn wsL_build wsX7_lowerBound := goodIn_r _ [260, 261, 262, 263, 14, 264, 265, 18, 19, 266, 267, 138, 139, 140, 268, 65, 269, 33, 34, 35, 36, 37, 38, 39, 40, 41, 42, 43, 44, 85, 86, 87, 88, 89, 90, 91, 92, 93, 94, 95, 96, 97, 98, 99, 100, 101, 102, 103, 104, 105, 106, 107, 108, 109, 110, 111, 112, 113, 114, 115, 116, 117, 118, 119, 120, 121, 122, 123, 124, 125, 126, 127, 128, 129, 130, 131, 132, 133, 134, 135, 136, 137, 141, 142, 143, 144, 145, 146, 147, 148, 149, 150, 151, 152, 153, 154, 155, 156, 157, 158, 159, 160, 161, 162, 163, 164, 165, 166, 167, 168, 169, 170, 171, 172, 173, 174, 175, 333, 334, 335, 336, 337, 338, 339, 340, 341, 342, 343, 344, 345, 346, 347, 348, 349, 350, 353, 354, 355, 356, 357, 358, 359, 360, 361] (by decide +kernel) (by decide +kernel)
set_option maxRecDepth 20000 in
theorem gL_build_X7_lowerBound : GoodIn wsL_build (wsV RL 36 RX7 yX7_lowerBound wsX7_lowerBound) := goodIn_app (goodIn_of _ (by decide +kernel)) ggL_build_X7_lowerBound
set_option maxRecDepth 20000 in
theorem ggL_build_X7_addTask : GoodIn wsL_build wsX7_addTask := goodIn_ca (goodIn_ca (goodIn_ca (goodIn_r _ [273, 18, 19, 274, 275, 276, 35, 277, 37, 38, 278, 279, 280, 281, 282, 283, 14, 284, 285, 286, 16, 17, 287, 288, 20, 21, 22, 23, 24, 25, 26, 27, 28, 29, 30, 31, 32, 33, 34, 36, 39, 40, 41, 42, 43, 44, 45, 46, 47, 48, 49, 50, 289, 290, 291, 292, 333, 334, 335, 336, 337, 338, 339, 340, 341, 342, 343, 344, 345, 346, 347, 348, 349, 350, 351, 352] (by decide +kernel) (by decide +kernel)) (goodIn_sub (fun _ h => List.mem_cons_of_mem _ (List.mem_append_left _ (List.mem_append_right _ h))) (by decide +kernel))) (goodIn_sub (fun _ h => List.mem_cons_of_mem _ (List.mem_append_left _ (List.mem_append_left _ (List.mem_append_right _ h)))) (by decide +kernel))) (goodIn_sub (fun _ h => List.mem_cons_of_mem _ (List.mem_append_right _ h)) (by decide +kernel))
set_option maxRecDepth 20000 in
theorem gL_build_X7_addTask : GoodIn wsL_build (wsV RL 39 RX7 yX7_addTask wsX7_addTask) := goodIn_app (goodIn_of _ (by decide +kernel)) ggL_build_X7_addTask
set_option maxRecDepth 20000 in
theorem ggL_build_X7_task : GoodIn wsL_build wsX7_task := goodIn_ca (goodIn_ca (goodIn_r _ [296, 16, 17, 18, 297, 298, 299, 14, 300, 285, 286, 301, 302, 303, 35, 304, 38, 305, 306, 307, 308, 39, 40, 41, 42, 43, 44, 333, 334, 335, 336, 337, 338, 339, 340, 341, 342, 343, 344, 345, 346, 347, 348, 349, 350] (by decide +kernel) (by decide +kernel)) (goodIn_sub (fun _ h => List.mem_cons_of_mem _ (List.mem_append_left _ (List.mem_append_left _ (List.mem_append_right _ h)))) (by decide +kernel))) (goodIn_sub (fun _ h => List.mem_cons_of_mem _ (List.mem_append_left _ (List.mem_append_right _ h))) (by decide +kernel))
set_option maxRecDepth 20000 in
theorem gL_build_X7_task : GoodIn wsL_build (wsV RL 10 RX7 yX7_task wsX7_task) := goodIn_app (goodIn_of _ (by decide +kernel)) ggL_build_X7_task
set_option maxRecDepth 20000 in
theorem ggL_build_L_leads : GoodIn wsL_build wsL_leads := goodIn_ca (goodIn_ca (goodIn_r _ [311, 293, 294, 295, 14, 296, 16, 17, 18, 297, 298, 299, 300, 285, 286, 301, 302, 303, 35, 304, 38, 305, 306, 307, 308, 39, 40, 41, 42, 43, 44, 55, 56, 57, 58, 59, 60, 61, 62, 63, 19, 64, 65, 66, 67, 68, 69, 70, 71, 72, 73, 74, 75, 76, 77, 78, 79, 80, 81, 82, 83, 84, 49, 85, 86, 87, 88, 89, 90, 91, 92, 93, 94, 95, 96, 97, 98, 99, 100, 101, 102, 103, 104, 105, 106, 107, 108, 109, 110, 111, 112, 113, 114, 115, 116, 117, 118, 119, 120, 121, 122, 123, 124, 125, 126, 127, 128, 129, 130, 131, 132, 133, 134, 135, 136, 137, 138, 139, 140, 141, 142, 143, 144, 145, 146, 147, 148, 149, 150, 151, 152, 153, 154, 155, 156, 157, 158, 159, 160, 161, 162, 163, 164, 165, 166, 167, 168, 169, 170, 171, 172, 173, 174, 175, 176, 177, 178, 179, 180, 181, 182, 183, 333, 334, 335, 336, 337, 338, 339, 340, 341, 342, 343, 344, 345, 346, 347, 348, 349, 350, 353, 354, 355, 356, 357, 358, 359, 360, 361] (by decide +kernel) (by decide +kernel)) (goodIn_sub (fun _ h => List.mem_cons_of_mem _ (List.mem_append_left _ (List.mem_append_left _ (List.mem_append_right _ h)))) (by decide +kernel))) (goodIn_sub (fun _ h => List.mem_cons_of_mem _ (List.mem_append_left _ (List.mem_append_right _ h))) (by decide +kernel))
set_option maxRecDepth 20000 in
theorem gL_build_L_leads : GoodIn wsL_build (va_wsS RL 43 yL_leads wsL_leads) := goodIn_app (goodIn_of _ (by decide +kernel)) ggL_build_L_leads
set_option maxRecDepth 20000 in
theorem ggL_build_X7_give : GoodIn wsL_build wsX7_give := goodIn_ca (goodIn_ca (goodIn_ca (goodIn_r _ [315, 18, 316, 317, 318, 35, 319, 320, 302, 303, 304, 38, 321, 322, 323, 324, 44, 110, 14, 111, 325, 326, 327, 328, 282, 283, 284, 285, 286, 16, 17, 287, 288, 20, 21, 22, 23, 24, 25, 26, 27, 28, 29, 30, 31, 32, 33, 34, 36, 37, 39, 40, 41, 42, 43, 45, 46, 47, 48, 49, 50, 329, 330, 331, 332, 66, 67, 68, 69, 70, 71, 72, 73, 74, 75, 76, 333, 334, 335, 336, 337, 338, 339, 340, 341, 342, 343, 344, 345, 346, 347, 348, 349, 350, 351, 352] (by decide +kernel) (by decide +kernel)) (goodIn_sub (fun _ h => List.mem_cons_of_mem _ (List.mem_append_left _ (List.mem_append_right _ h))) (by decide +kernel))) (goodIn_sub (fun _ h => List.mem_cons_of_mem _ (List.mem_append_left _ (List.mem_append_left _ (List.mem_append_right _ h)))) (by decide +kernel))) (goodIn_sub (fun _ h => List.mem_cons_of_mem _ (List.mem_append_right _ h)) (by decide +kernel))
set_option maxRecDepth 20000 in
theorem gL_build_X7_give : GoodIn wsL_build (wsV RL 47 RX7 yX7_give wsX7_give) := goodIn_app (goodIn_of _ (by decide +kernel)) ggL_build_X7_give
theorem dL_build_0 : decode cL_build 0 = .ok (.iconst 1, 1) := by decide +kernel
theorem dL_build_1 : decode cL_build 1 = .ok (.aload_n 1, 1) := by decide +kernel
theorem dL_build_2 : decode cL_build 2 = .ok (.iconst 1, 1) := by decide +kernel
theorem dL_build_3 : decode cL_build 3 = .ok (.invokestatic 20, 3) := by decide +kernel
theorem dL_build_6 : decode cL_build 6 = .ok (.iconst 3, 1) := by decide +kernel
theorem dL_build_7 : decode cL_build 7 = .ok (.invokestatic 26, 3) := by decide +kernel
theorem dL_build_10 : decode cL_build 10 = .ok (.iadd, 1) := by decide +kernel
theorem dL_build_11 : decode cL_build 11 = .ok (.istore_n 3, 1) := by decide +kernel
theorem dL_build_12 : decode cL_build 12 = .ok (.aload_n 0, 1) := by decide +kernel
theorem dL_build_13 : decode cL_build 13 = .ok (.iload_n 3, 1) := by decide +kernel
theorem dL_build_14 : decode cL_build 14 = .ok (.invokevirtual 29, 3) := by decide +kernel
theorem dL_build_17 : decode cL_build 17 = .ok (.ifCond .ne 38, 3) := by decide +kernel
theorem dL_build_20 : decode cL_build 20 = .ok (.aload_n 0, 1) := by decide +kernel
theorem dL_build_21 : decode cL_build 21 = .ok (.iconst 0, 1) := by decide +kernel
theorem dL_build_22 : decode cL_build 22 = .ok (.invokevirtual 16, 3) := by decide +kernel
theorem dL_build_25 : decode cL_build 25 = .ok (.iload_n 3, 1) := by decide +kernel
theorem dL_build_26 : decode cL_build 26 = .ok (.if_icmp .ne 29, 3) := by decide +kernel
theorem dL_build_29 : decode cL_build 29 = .ok (.aload_n 0, 1) := by decide +kernel
theorem dL_build_30 : decode cL_build 30 = .ok (.iconst 1, 1) := by decide +kernel
theorem dL_build_31 : decode cL_build 31 = .ok (.invokevirtual 16, 3) := by decide +kernel
theorem dL_build_34 : decode cL_build 34 = .ok (.ifCond .ne 21, 3) := by decide +kernel
theorem dL_build_37 : decode cL_build 37 = .ok (.aload_n 0, 1) := by decide +kernel
theorem dL_build_38 : decode cL_build 38 = .ok (.invokevirtual 32, 3) := by decide +kernel
theorem dL_build_41 : decode cL_build 41 = .ok (.ifCond .ne 14, 3) := by decide +kernel
theorem dL_build_44 : decode cL_build 44 = .ok (.aload_n 0, 1) := by decide +kernel
theorem dL_build_45 : decode cL_build 45 = .ok (.invokevirtual 36, 3) := by decide +kernel
theorem dL_build_48 : decode cL_build 48 = .ok (.ifCond .ne 7, 3) := by decide +kernel
theorem dL_build_51 : decode cL_build 51 = .ok (.iconst 1, 1) := by decide +kernel
theorem dL_build_52 : decode cL_build 52 = .ok (.goto 4, 3) := by decide +kernel
theorem dL_build_55 : decode cL_build 55 = .ok (.iconst 0, 1) := by decide +kernel
theorem dL_build_56 : decode cL_build 56 = .ok (.istore 4, 2) := by decide +kernel
theorem dL_build_58 : decode cL_build 58 = .ok (.iconst 0, 1) := by decide +kernel
theorem dL_build_59 : decode cL_build 59 = .ok (.istore 5, 2) := by decide +kernel
theorem dL_build_61 : decode cL_build 61 = .ok (.iload 5, 2) := by decide +kernel
theorem dL_build_63 : decode cL_build 63 = .ok (.iload_n 2, 1) := by decide +kernel
theorem dL_build_64 : decode cL_build 64 = .ok (.if_icmp .ge 150, 3) := by decide +kernel
theorem dL_build_67 : decode cL_build 67 = .ok (.iload 4, 2) := by decide +kernel
theorem dL_build_69 : decode cL_build 69 = .ok (.ifCond .eq 145, 3) := by decide +kernel
theorem dL_build_72 : decode cL_build 72 = .ok (.aload_n 1, 1) := by decide +kernel
theorem dL_build_73 : decode cL_build 73 = .ok (.iconst 4, 1) := by decide +kernel
theorem dL_build_74 : decode cL_build 74 = .ok (.iload 5, 2) := by decide +kernel
theorem dL_build_76 : decode cL_build 76 = .ok (.iadd, 1) := by decide +kernel
theorem dL_build_77 : decode cL_build 77 = .ok (.invokestatic 20, 3) := by decide +kernel
theorem dL_build_80 : decode cL_build 80 = .ok (.istore 6, 2) := by decide +kernel
theorem dL_build_82 : decode cL_build 82 = .ok (.iload 6, 2) := by decide +kernel
theorem dL_build_84 : decode cL_build 84 = .ok (.iconst 2, 1) := by decide +kernel
theorem dL_build_85 : decode cL_build 85 = .ok (.ishr, 1) := by decide +kernel
theorem dL_build_86 : decode cL_build 86 = .ok (.bipush 30, 2) := by decide +kernel
theorem dL_build_88 : decode cL_build 88 = .ok (.invokestatic 26, 3) := by decide +kernel
theorem dL_build_91 : decode cL_build 91 = .ok (.istore 7, 2) := by decide +kernel
theorem dL_build_93 : decode cL_build 93 = .ok (.iconst 1, 1) := by decide +kernel
theorem dL_build_94 : decode cL_build 94 = .ok (.iload 6, 2) := by decide +kernel
theorem dL_build_96 : decode cL_build 96 = .ok (.bipush 7, 2) := by decide +kernel
theorem dL_build_98 : decode cL_build 98 = .ok (.ishr, 1) := by decide +kernel
theorem dL_build_99 : decode cL_build 99 = .ok (.iload 6, 2) := by decide +kernel
theorem dL_build_101 : decode cL_build 101 = .ok (.bipush 27, 2) := by decide +kernel
theorem dL_build_103 : decode cL_build 103 = .ok (.ishr, 1) := by decide +kernel
theorem dL_build_104 : decode cL_build 104 = .ok (.iconst 3, 1) := by decide +kernel
theorem dL_build_105 : decode cL_build 105 = .ok (.invokestatic 26, 3) := by decide +kernel
theorem dL_build_108 : decode cL_build 108 = .ok (.ifCond .ne 7, 3) := by decide +kernel
theorem dL_build_111 : decode cL_build 111 = .ok (.iconst 3, 1) := by decide +kernel
theorem dL_build_112 : decode cL_build 112 = .ok (.goto 5, 3) := by decide +kernel
theorem dL_build_115 : decode cL_build 115 = .ok (.bipush 14, 2) := by decide +kernel
theorem dL_build_117 : decode cL_build 117 = .ok (.invokestatic 26, 3) := by decide +kernel
theorem dL_build_120 : decode cL_build 120 = .ok (.iadd, 1) := by decide +kernel
theorem dL_build_121 : decode cL_build 121 = .ok (.istore 8, 2) := by decide +kernel
theorem dL_build_123 : decode cL_build 123 = .ok (.iload 7, 2) := by decide +kernel
theorem dL_build_125 : decode cL_build 125 = .ok (.iload 8, 2) := by decide +kernel
theorem dL_build_127 : decode cL_build 127 = .ok (.iadd, 1) := by decide +kernel
theorem dL_build_128 : decode cL_build 128 = .ok (.iload 6, 2) := by decide +kernel
theorem dL_build_130 : decode cL_build 130 = .ok (.bipush 12, 2) := by decide +kernel
theorem dL_build_132 : decode cL_build 132 = .ok (.ishr, 1) := by decide +kernel
theorem dL_build_133 : decode cL_build 133 = .ok (.iload 6, 2) := by decide +kernel
theorem dL_build_135 : decode cL_build 135 = .ok (.bipush 25, 2) := by decide +kernel
theorem dL_build_137 : decode cL_build 137 = .ok (.ishr, 1) := by decide +kernel
theorem dL_build_138 : decode cL_build 138 = .ok (.iconst 3, 1) := by decide +kernel
theorem dL_build_139 : decode cL_build 139 = .ok (.invokestatic 26, 3) := by decide +kernel
theorem dL_build_142 : decode cL_build 142 = .ok (.ifCond .ne 8, 3) := by decide +kernel
theorem dL_build_145 : decode cL_build 145 = .ok (.bipush 12, 2) := by decide +kernel
theorem dL_build_147 : decode cL_build 147 = .ok (.goto 5, 3) := by decide +kernel
theorem dL_build_150 : decode cL_build 150 = .ok (.bipush 80, 2) := by decide +kernel
theorem dL_build_152 : decode cL_build 152 = .ok (.invokestatic 26, 3) := by decide +kernel
theorem dL_build_155 : decode cL_build 155 = .ok (.iadd, 1) := by decide +kernel
theorem dL_build_156 : decode cL_build 156 = .ok (.istore 9, 2) := by decide +kernel
theorem dL_build_158 : decode cL_build 158 = .ok (.aload_n 0, 1) := by decide +kernel
theorem dL_build_159 : decode cL_build 159 = .ok (.iload 6, 2) := by decide +kernel
theorem dL_build_161 : decode cL_build 161 = .ok (.iload_n 3, 1) := by decide +kernel
theorem dL_build_162 : decode cL_build 162 = .ok (.invokestatic 26, 3) := by decide +kernel
theorem dL_build_165 : decode cL_build 165 = .ok (.iload 7, 2) := by decide +kernel
theorem dL_build_167 : decode cL_build 167 = .ok (.iload 9, 2) := by decide +kernel
theorem dL_build_169 : decode cL_build 169 = .ok (.iload 8, 2) := by decide +kernel
theorem dL_build_171 : decode cL_build 171 = .ok (.invokevirtual 39, 3) := by decide +kernel
theorem dL_build_174 : decode cL_build 174 = .ok (.iload 5, 2) := by decide +kernel
theorem dL_build_176 : decode cL_build 176 = .ok (.if_icmp .ne 29, 3) := by decide +kernel
theorem dL_build_179 : decode cL_build 179 = .ok (.aload_n 0, 1) := by decide +kernel
theorem dL_build_180 : decode cL_build 180 = .ok (.iload 5, 2) := by decide +kernel
theorem dL_build_182 : decode cL_build 182 = .ok (.iconst 2, 1) := by decide +kernel
theorem dL_build_183 : decode cL_build 183 = .ok (.invokevirtual 10, 3) := by decide +kernel
theorem dL_build_186 : decode cL_build 186 = .ok (.iload 9, 2) := by decide +kernel
theorem dL_build_188 : decode cL_build 188 = .ok (.if_icmp .ne 17, 3) := by decide +kernel
theorem dL_build_191 : decode cL_build 191 = .ok (.aload_n 0, 1) := by decide +kernel
theorem dL_build_192 : decode cL_build 192 = .ok (.iload 5, 2) := by decide +kernel
theorem dL_build_194 : decode cL_build 194 = .ok (.iconst 4, 1) := by decide +kernel
theorem dL_build_195 : decode cL_build 195 = .ok (.invokevirtual 10, 3) := by decide +kernel
theorem dL_build_198 : decode cL_build 198 = .ok (.ifCond .ne 7, 3) := by decide +kernel
theorem dL_build_201 : decode cL_build 201 = .ok (.iconst 1, 1) := by decide +kernel
theorem dL_build_202 : decode cL_build 202 = .ok (.goto 4, 3) := by decide +kernel
theorem dL_build_205 : decode cL_build 205 = .ok (.iconst 0, 1) := by decide +kernel
theorem dL_build_206 : decode cL_build 206 = .ok (.istore 4, 2) := by decide +kernel
theorem dL_build_208 : decode cL_build 208 = .ok (.iinc 5 1, 3) := by decide +kernel
theorem dL_build_211 : decode cL_build 211 = .ok (.goto (-150), 3) := by decide +kernel
theorem dL_build_214 : decode cL_build 214 = .ok (.iconst 0, 1) := by decide +kernel
theorem dL_build_215 : decode cL_build 215 = .ok (.istore 5, 2) := by decide +kernel
theorem dL_build_217 : decode cL_build 217 = .ok (.iload 5, 2) := by decide +kernel
theorem dL_build_219 : decode cL_build 219 = .ok (.iconst 4, 1) := by decide +kernel
theorem dL_build_220 : decode cL_build 220 = .ok (.if_icmp .ge 134, 3) := by decide +kernel
theorem dL_build_223 : decode cL_build 223 = .ok (.iload 4, 2) := by decide +kernel
theorem dL_build_225 : decode cL_build 225 = .ok (.ifCond .eq 129, 3) := by decide +kernel
theorem dL_build_228 : decode cL_build 228 = .ok (.aload_n 1, 1) := by decide +kernel
theorem dL_build_229 : decode cL_build 229 = .ok (.bipush 20, 2) := by decide +kernel
theorem dL_build_231 : decode cL_build 231 = .ok (.iload 5, 2) := by decide +kernel
theorem dL_build_233 : decode cL_build 233 = .ok (.iadd, 1) := by decide +kernel
theorem dL_build_234 : decode cL_build 234 = .ok (.invokestatic 20, 3) := by decide +kernel
theorem dL_build_237 : decode cL_build 237 = .ok (.istore 6, 2) := by decide +kernel
theorem dL_build_239 : decode cL_build 239 = .ok (.iload 6, 2) := by decide +kernel
theorem dL_build_241 : decode cL_build 241 = .ok (.iload_n 2, 1) := by decide +kernel
theorem dL_build_242 : decode cL_build 242 = .ok (.invokestatic 26, 3) := by decide +kernel
theorem dL_build_245 : decode cL_build 245 = .ok (.istore 7, 2) := by decide +kernel
theorem dL_build_247 : decode cL_build 247 = .ok (.iload 6, 2) := by decide +kernel
theorem dL_build_249 : decode cL_build 249 = .ok (.iconst 3, 1) := by decide +kernel
theorem dL_build_250 : decode cL_build 250 = .ok (.ishr, 1) := by decide +kernel
theorem dL_build_251 : decode cL_build 251 = .ok (.iload_n 2, 1) := by decide +kernel
theorem dL_build_252 : decode cL_build 252 = .ok (.invokestatic 26, 3) := by decide +kernel
theorem dL_build_255 : decode cL_build 255 = .ok (.istore 8, 2) := by decide +kernel
theorem dL_build_257 : decode cL_build 257 = .ok (.aload_n 0, 1) := by decide +kernel
theorem dL_build_258 : decode cL_build 258 = .ok (.iconst 2, 1) := by decide +kernel
theorem dL_build_259 : decode cL_build 259 = .ok (.invokevirtual 16, 3) := by decide +kernel
theorem dL_build_262 : decode cL_build 262 = .ok (.istore 9, 2) := by decide +kernel
theorem dL_build_264 : decode cL_build 264 = .ok (.iload 6, 2) := by decide +kernel
theorem dL_build_266 : decode cL_build 266 = .ok (.bipush 6, 2) := by decide +kernel
theorem dL_build_268 : decode cL_build 268 = .ok (.ishr, 1) := by decide +kernel
theorem dL_build_269 : decode cL_build 269 = .ok (.iconst 2, 1) := by decide +kernel
theorem dL_build_270 : decode cL_build 270 = .ok (.invokestatic 26, 3) := by decide +kernel
theorem dL_build_273 : decode cL_build 273 = .ok (.ifCond .ne 75, 3) := by decide +kernel
theorem dL_build_276 : decode cL_build 276 = .ok (.iload 7, 2) := by decide +kernel
theorem dL_build_278 : decode cL_build 278 = .ok (.iload 8, 2) := by decide +kernel
theorem dL_build_280 : decode cL_build 280 = .ok (.if_icmp .eq 68, 3) := by decide +kernel
theorem dL_build_283 : decode cL_build 283 = .ok (.aload_n 0, 1) := by decide +kernel
theorem dL_build_284 : decode cL_build 284 = .ok (.iload 7, 2) := by decide +kernel
theorem dL_build_286 : decode cL_build 286 = .ok (.iconst 5, 1) := by decide +kernel
theorem dL_build_287 : decode cL_build 287 = .ok (.invokevirtual 10, 3) := by decide +kernel
theorem dL_build_290 : decode cL_build 290 = .ok (.iload 8, 2) := by decide +kernel
theorem dL_build_292 : decode cL_build 292 = .ok (.ishr, 1) := by decide +kernel
theorem dL_build_293 : decode cL_build 293 = .ok (.iconst 1, 1) := by decide +kernel
theorem dL_build_294 : decode cL_build 294 = .ok (.iand, 1) := by decide +kernel
theorem dL_build_295 : decode cL_build 295 = .ok (.ifCond .ne 53, 3) := by decide +kernel
theorem dL_build_298 : decode cL_build 298 = .ok (.aload_n 0, 1) := by decide +kernel
theorem dL_build_299 : decode cL_build 299 = .ok (.iload 8, 2) := by decide +kernel
theorem dL_build_301 : decode cL_build 301 = .ok (.iload 7, 2) := by decide +kernel
theorem dL_build_303 : decode cL_build 303 = .ok (.invokestatic 43, 3) := by decide +kernel
theorem dL_build_306 : decode cL_build 306 = .ok (.ifCond .ne 42, 3) := by decide +kernel
theorem dL_build_309 : decode cL_build 309 = .ok (.aload_n 0, 1) := by decide +kernel
theorem dL_build_310 : decode cL_build 310 = .ok (.iload 7, 2) := by decide +kernel
theorem dL_build_312 : decode cL_build 312 = .ok (.iload 8, 2) := by decide +kernel
theorem dL_build_314 : decode cL_build 314 = .ok (.iconst 1, 1) := by decide +kernel
theorem dL_build_315 : decode cL_build 315 = .ok (.invokevirtual 47, 3) := by decide +kernel
theorem dL_build_318 : decode cL_build 318 = .ok (.iload 9, 2) := by decide +kernel
theorem dL_build_320 : decode cL_build 320 = .ok (.iconst 1, 1) := by decide +kernel
theorem dL_build_321 : decode cL_build 321 = .ok (.iadd, 1) := by decide +kernel
theorem dL_build_322 : decode cL_build 322 = .ok (.if_icmp .ne 23, 3) := by decide +kernel
theorem dL_build_325 : decode cL_build 325 = .ok (.aload_n 0, 1) := by decide +kernel
theorem dL_build_326 : decode cL_build 326 = .ok (.iload 8, 2) := by decide +kernel
theorem dL_build_328 : decode cL_build 328 = .ok (.iconst 4, 1) := by decide +kernel
theorem dL_build_329 : decode cL_build 329 = .ok (.invokevirtual 10, 3) := by decide +kernel
theorem dL_build_332 : decode cL_build 332 = .ok (.iload 7, 2) := by decide +kernel
theorem dL_build_334 : decode cL_build 334 = .ok (.ishr, 1) := by decide +kernel
theorem dL_build_335 : decode cL_build 335 = .ok (.iconst 1, 1) := by decide +kernel
theorem dL_build_336 : decode cL_build 336 = .ok (.iand, 1) := by decide +kernel
theorem dL_build_337 : decode cL_build 337 = .ok (.iconst 1, 1) := by decide +kernel
theorem dL_build_338 : decode cL_build 338 = .ok (.if_icmp .ne 7, 3) := by decide +kernel
theorem dL_build_341 : decode cL_build 341 = .ok (.iconst 1, 1) := by decide +kernel
theorem dL_build_342 : decode cL_build 342 = .ok (.goto 4, 3) := by decide +kernel
theorem dL_build_345 : decode cL_build 345 = .ok (.iconst 0, 1) := by decide +kernel
theorem dL_build_346 : decode cL_build 346 = .ok (.istore 4, 2) := by decide +kernel
theorem dL_build_348 : decode cL_build 348 = .ok (.iinc 5 1, 3) := by decide +kernel
theorem dL_build_351 : decode cL_build 351 = .ok (.goto (-134), 3) := by decide +kernel
theorem dL_build_354 : decode cL_build 354 = .ok (.iload 4, 2) := by decide +kernel
theorem dL_build_356 : decode cL_build 356 = .ok (.ireturn, 1) := by decide +kernel
set_option maxRecDepth 20000 in
theorem ggL_end_X7_inBest : GoodIn wsL_end wsX7_inBest := goodIn_ca (goodIn_ca (goodIn_r _ [5, 6, 7, 8, 9, 10, 11, 12, 13, 14, 4, 15, 16, 17, 18, 19, 20, 21, 22, 23, 24, 25, 26, 27, 28, 29, 30, 31, 32, 33, 34, 35, 36, 37, 38, 39, 40, 41, 42, 43, 44, 45, 46, 47, 48, 49, 50, 51, 52, 53, 54, 55, 56, 57, 58, 59, 60, 61, 62, 63, 64, 65, 66, 67, 68, 69, 70, 71, 72, 73, 74, 75, 76, 77, 78, 79, 80, 81, 82, 83, 84, 85, 86, 87, 88, 89, 90, 91, 92, 93, 94, 95, 96, 97, 98, 99, 100, 101, 102, 103, 104, 105, 106, 107, 108, 109, 110, 111, 112, 113, 114, 115, 116, 117, 118, 119, 120, 121, 122, 123, 124, 125, 126, 127, 128, 129, 130, 131, 132, 133, 134, 135, 136, 137, 138, 139, 140, 141, 142, 143, 144, 145, 146, 147, 148, 149, 150, 151, 152, 153, 154, 155, 156, 157, 158, 159, 160, 161, 162, 163, 164, 165, 166, 167, 168, 169, 170, 171, 172, 173, 174, 175, 176, 177, 178, 179, 180, 181, 182, 183, 184, 185, 186, 187, 188, 189, 204, 205, 206, 207, 208, 209, 210, 211, 212, 213, 214, 215, 216, 217, 218, 219, 220, 221, 222, 223, 224, 225, 226, 227, 228, 229, 230, 231, 232, 233, 234, 235, 236, 237, 238, 239, 240, 241, 242, 243] (by decide +kernel) (by decide +kernel)) (goodIn_sub (fun _ h => List.mem_cons_of_mem _ (List.mem_append_left _ (List.mem_append_right _ h))) (by decide +kernel))) (goodIn_sub (fun _ h => List.mem_cons_of_mem _ (List.mem_append_right _ h)) (by decide +kernel))
set_option maxRecDepth 20000 in
theorem gL_end_X7_inBest : GoodIn wsL_end (wsV RL 51 RX7 yX7_inBest wsX7_inBest) := goodIn_app (goodIn_of _ (by decide +kernel)) ggL_end_X7_inBest
set_option maxRecDepth 20000 in
theorem ggL_end_X7_task : GoodIn wsL_end wsX7_task := goodIn_ca (goodIn_ca (goodIn_r _ [193, 6, 7, 18, 12, 13, 14, 4, 15, 16, 17, 19, 20, 21, 22, 23, 24, 194, 195, 196, 197, 198, 199, 200, 201, 202, 203, 204, 205, 206, 207, 208, 209, 210, 211, 212, 213, 224, 225, 226, 227, 228, 229, 230, 231] (by decide +kernel) (by decide +kernel)) (goodIn_sub (fun _ h => List.mem_cons_of_mem _ (List.mem_append_left _ (List.mem_append_right _ h))) (by decide +kernel))) (goodIn_sub (fun _ h => List.mem_cons_of_mem _ (List.mem_append_right _ h)) (by decide +kernel))
set_option maxRecDepth 20000 in
theorem gL_end_X7_task : GoodIn wsL_end (wsV RL 10 RX7 yX7_task wsX7_task) := goodIn_app (goodIn_of _ (by decide +kernel)) ggL_end_X7_task
theorem dL_end_0 : decode cL_end 0 = .ok (.aload_n 0, 1) := by decide +kernel
theorem dL_end_1 : decode cL_end 1 = .ok (.iload_n 1, 1) := by decide +kernel
theorem dL_end_2 : decode cL_end 2 = .ok (.iconst 1, 1) := by decide +kernel
theorem dL_end_3 : decode cL_end 3 = .ok (.invokevirtual 51, 3) := by decide +kernel
theorem dL_end_6 : decode cL_end 6 = .ok (.aload_n 0, 1) := by decide +kernel
theorem dL_end_7 : decode cL_end 7 = .ok (.iload_n 1, 1) := by decide +kernel
theorem dL_end_8 : decode cL_end 8 = .ok (.iconst 3, 1) := by decide +kernel
theorem dL_end_9 : decode cL_end 9 = .ok (.invokevirtual 10, 3) := by decide +kernel
theorem dL_end_12 : decode cL_end 12 = .ok (.iadd, 1) := by decide +kernel
theorem dL_end_13 : decode cL_end 13 = .ok (.ireturn, 1) := by decide +kernel
set_option maxRecDepth 20000 in
theorem ggL_isPlan_X7_inBest : GoodIn wsL_isPlan wsX7_inBest := goodIn_ca (goodIn_ca (goodIn_r _ [5, 6, 7, 8, 9, 10, 11, 12, 13, 14, 4, 15, 16, 17, 18, 19, 20, 21, 22, 23, 24, 25, 26, 27, 28, 29, 30, 31, 32, 33, 34, 35, 36, 37, 38, 39, 40, 41, 42, 43, 44, 45, 46, 47, 48, 49, 50, 51, 52, 53, 54, 55, 56, 57, 58, 59, 60, 61, 62, 63, 64, 65, 66, 67, 68, 69, 70, 71, 72, 73, 74, 75, 76, 77, 78, 79, 80, 81, 82, 83, 84, 85, 86, 87, 88, 89, 90, 91, 92, 93, 94, 95, 96, 97, 98, 99, 100, 101, 102, 103, 104, 105, 106, 107, 108, 109, 110, 111, 112, 113, 114, 115, 116, 117, 118, 119, 120, 121, 122, 123, 124, 125, 126, 127, 128, 129, 130, 131, 132, 133, 134, 135, 136, 137, 138, 139, 140, 141, 142, 143, 144, 145, 146, 147, 148, 149, 150, 151, 152, 153, 154, 155, 156, 157, 158, 159, 160, 161, 162, 163, 164, 165, 166, 167, 168, 169, 170, 171, 172, 173, 174, 175, 176, 177, 178, 179, 180, 181, 182, 183, 184, 185, 186, 187, 188, 189, 212, 213, 214, 215, 216, 217, 218, 219, 220, 221, 222, 223, 224, 225, 226, 227, 228, 229, 230, 231, 232, 233, 234, 235, 236, 237, 238, 239, 240, 241, 242, 243, 244, 245, 246, 247, 248, 249, 250, 251] (by decide +kernel) (by decide +kernel)) (goodIn_sub (fun _ h => List.mem_cons_of_mem _ (List.mem_append_left _ (List.mem_append_right _ h))) (by decide +kernel))) (goodIn_sub (fun _ h => List.mem_cons_of_mem _ (List.mem_append_right _ h)) (by decide +kernel))
set_option maxRecDepth 20000 in
theorem gL_isPlan_X7_inBest : GoodIn wsL_isPlan (wsV RL 51 RX7 yX7_inBest wsX7_inBest) := goodIn_app (goodIn_of _ (by decide +kernel)) ggL_isPlan_X7_inBest
set_option maxRecDepth 20000 in
theorem ggL_isPlan_X7_task : GoodIn wsL_isPlan wsX7_task := goodIn_ca (goodIn_ca (goodIn_r _ [193, 6, 7, 18, 12, 13, 14, 4, 15, 16, 17, 19, 20, 21, 22, 23, 24, 194, 195, 196, 197, 198, 199, 200, 201, 202, 203, 212, 213, 214, 215, 216, 217, 218, 219, 220, 221, 232, 233, 234, 235, 236, 237, 238, 239] (by decide +kernel) (by decide +kernel)) (goodIn_sub (fun _ h => List.mem_cons_of_mem _ (List.mem_append_left _ (List.mem_append_right _ h))) (by decide +kernel))) (goodIn_sub (fun _ h => List.mem_cons_of_mem _ (List.mem_append_right _ h)) (by decide +kernel))
set_option maxRecDepth 20000 in
theorem gL_isPlan_X7_task : GoodIn wsL_isPlan (wsV RL 10 RX7 yX7_task wsX7_task) := goodIn_app (goodIn_of _ (by decide +kernel)) ggL_isPlan_X7_task
set_option maxRecDepth 20000 in
theorem ggL_isPlan_L_end : GoodIn wsL_isPlan wsL_end := goodIn_ca (goodIn_ca (goodIn_r _ [207, 1, 2, 3, 4, 5, 6, 7, 8, 9, 10, 11, 12, 13, 14, 15, 16, 17, 18, 19, 20, 21, 22, 23, 24, 25, 26, 27, 28, 29, 30, 31, 32, 33, 34, 35, 36, 37, 38, 39, 40, 41, 42, 43, 44, 45, 46, 47, 48, 49, 50, 51, 52, 53, 54, 55, 56, 57, 58, 59, 60, 61, 62, 63, 64, 65, 66, 67, 68, 69, 70, 71, 72, 73, 74, 75, 76, 77, 78, 79, 80, 81, 82, 83, 84, 85, 86, 87, 88, 89, 90, 91, 92, 93, 94, 95, 96, 97, 98, 99, 100, 101, 102, 103, 104, 105, 106, 107, 108, 109, 110, 111, 112, 113, 114, 115, 116, 117, 118, 119, 120, 121, 122, 123, 124, 125, 126, 127, 128, 129, 130, 131, 132, 133, 134, 135, 136, 137, 138, 139, 140, 141, 142, 143, 144, 145, 146, 147, 148, 149, 150, 151, 152, 153, 154, 155, 156, 157, 158, 159, 160, 161, 162, 163, 164, 165, 166, 167, 168, 169, 170, 171, 172, 173, 174, 175, 176, 177, 178, 179, 180, 181, 182, 183, 184, 185, 186, 187, 188, 189, 190, 191, 192, 193, 194, 195, 196, 197, 198, 199, 200, 201, 202, 203, 212, 213, 214, 215, 216, 217, 218, 219, 220, 221, 222, 223, 224, 225, 226, 227, 228, 229, 230, 231, 232, 233, 234, 235, 236, 237, 238, 239, 240, 241, 242, 243, 244, 245, 246, 247, 248, 249, 250, 251] (by decide +kernel) (by decide +kernel)) (goodIn_sub (fun _ h => List.mem_cons_of_mem _ (List.mem_append_left _ (List.mem_append_right _ h))) (by decide +kernel))) (goodIn_sub (fun _ h => List.mem_cons_of_mem _ (List.mem_append_right _ h)) (by decide +kernel))
set_option maxRecDepth 20000 in
theorem gL_isPlan_L_end : GoodIn wsL_isPlan (va_wsS RL 54 yL_end wsL_end) := goodIn_app (goodIn_of _ (by decide +kernel)) ggL_isPlan_L_end
set_option maxRecDepth 20000 in
theorem ggL_isPlan_X7_makespan : GoodIn wsL_isPlan wsX7_makespan := goodIn_r _ [211, 8, 9, 25, 26, 27, 4, 28, 29, 30, 31, 32, 33, 34, 35, 36, 37, 38, 39, 40, 41, 42, 43, 44, 45, 46, 47, 48, 49, 50, 51, 52, 53, 54, 55, 56, 57, 58, 59, 60, 61, 62, 63, 64, 65, 66, 67, 68, 69, 70, 71, 72, 73, 74, 75, 76, 77, 78, 79, 80, 81, 82, 83, 84, 85, 86, 87, 88, 89, 90, 91, 92, 93, 94, 95, 96, 97, 98, 99, 100, 101, 102, 103, 104, 105, 106, 107, 108, 109, 110, 111, 112, 113, 114, 115, 116, 117, 118, 119, 120, 121, 122, 123, 124, 125, 126, 127, 128, 129, 130, 131, 132, 133, 134, 135, 136, 137, 138, 139, 140, 141, 142, 143, 144, 145, 146, 147, 148, 149, 150, 151, 152, 153, 154, 155, 156, 157, 158, 159, 160, 161, 162, 163, 164, 165, 166, 167, 168, 169, 170, 171, 172, 173, 174, 175, 176, 177, 178, 179, 180, 181, 182, 183, 184, 185, 186, 187, 188, 189, 212, 213, 214, 215, 216, 217, 218, 219, 220, 221, 222, 223, 224, 225, 226, 227, 228, 229, 230, 231, 240, 241, 242, 243, 244, 245, 246, 247, 248, 232, 233, 234, 235, 236, 237, 238, 239, 249, 250, 251] (by decide +kernel) (by decide +kernel)
set_option maxRecDepth 20000 in
theorem gL_isPlan_X7_makespan : GoodIn wsL_isPlan (wsV RL 32 RX7 yX7_makespan wsX7_makespan) := goodIn_app (goodIn_of _ (by decide +kernel)) ggL_isPlan_X7_makespan
theorem dL_isPlan_0 : decode cL_isPlan 0 = .ok (.iconst 0, 1) := by decide +kernel
theorem dL_isPlan_1 : decode cL_isPlan 1 = .ok (.istore_n 2, 1) := by decide +kernel
theorem dL_isPlan_2 : decode cL_isPlan 2 = .ok (.iconst 0, 1) := by decide +kernel
theorem dL_isPlan_3 : decode cL_isPlan 3 = .ok (.istore_n 3, 1) := by decide +kernel
theorem dL_isPlan_4 : decode cL_isPlan 4 = .ok (.iconst 0, 1) := by decide +kernel
theorem dL_isPlan_5 : decode cL_isPlan 5 = .ok (.istore 4, 2) := by decide +kernel
theorem dL_isPlan_7 : decode cL_isPlan 7 = .ok (.iload 4, 2) := by decide +kernel
theorem dL_isPlan_9 : decode cL_isPlan 9 = .ok (.iload_n 1, 1) := by decide +kernel
theorem dL_isPlan_10 : decode cL_isPlan 10 = .ok (.if_icmp .ge 202, 3) := by decide +kernel
theorem dL_isPlan_13 : decode cL_isPlan 13 = .ok (.aload_n 0, 1) := by decide +kernel
theorem dL_isPlan_14 : decode cL_isPlan 14 = .ok (.iload 4, 2) := by decide +kernel
theorem dL_isPlan_16 : decode cL_isPlan 16 = .ok (.iconst 1, 1) := by decide +kernel
theorem dL_isPlan_17 : decode cL_isPlan 17 = .ok (.invokevirtual 51, 3) := by decide +kernel
theorem dL_isPlan_20 : decode cL_isPlan 20 = .ok (.istore 5, 2) := by decide +kernel
theorem dL_isPlan_22 : decode cL_isPlan 22 = .ok (.iload 5, 2) := by decide +kernel
theorem dL_isPlan_24 : decode cL_isPlan 24 = .ok (.aload_n 0, 1) := by decide +kernel
theorem dL_isPlan_25 : decode cL_isPlan 25 = .ok (.iload 4, 2) := by decide +kernel
theorem dL_isPlan_27 : decode cL_isPlan 27 = .ok (.iconst 1, 1) := by decide +kernel
theorem dL_isPlan_28 : decode cL_isPlan 28 = .ok (.invokevirtual 10, 3) := by decide +kernel
theorem dL_isPlan_31 : decode cL_isPlan 31 = .ok (.if_icmp .lt 19, 3) := by decide +kernel
theorem dL_isPlan_34 : decode cL_isPlan 34 = .ok (.aload_n 0, 1) := by decide +kernel
theorem dL_isPlan_35 : decode cL_isPlan 35 = .ok (.iload 4, 2) := by decide +kernel
theorem dL_isPlan_37 : decode cL_isPlan 37 = .ok (.invokestatic 54, 3) := by decide +kernel
theorem dL_isPlan_40 : decode cL_isPlan 40 = .ok (.aload_n 0, 1) := by decide +kernel
theorem dL_isPlan_41 : decode cL_isPlan 41 = .ok (.iload 4, 2) := by decide +kernel
theorem dL_isPlan_43 : decode cL_isPlan 43 = .ok (.iconst 2, 1) := by decide +kernel
theorem dL_isPlan_44 : decode cL_isPlan 44 = .ok (.invokevirtual 10, 3) := by decide +kernel
theorem dL_isPlan_47 : decode cL_isPlan 47 = .ok (.if_icmp .le 5, 3) := by decide +kernel
theorem dL_isPlan_50 : decode cL_isPlan 50 = .ok (.iconst 0, 1) := by decide +kernel
theorem dL_isPlan_51 : decode cL_isPlan 51 = .ok (.ireturn, 1) := by decide +kernel
theorem dL_isPlan_52 : decode cL_isPlan 52 = .ok (.aload_n 0, 1) := by decide +kernel
theorem dL_isPlan_53 : decode cL_isPlan 53 = .ok (.iload 4, 2) := by decide +kernel
theorem dL_isPlan_55 : decode cL_isPlan 55 = .ok (.invokestatic 54, 3) := by decide +kernel
theorem dL_isPlan_58 : decode cL_isPlan 58 = .ok (.iload_n 2, 1) := by decide +kernel
theorem dL_isPlan_59 : decode cL_isPlan 59 = .ok (.if_icmp .le 12, 3) := by decide +kernel
theorem dL_isPlan_62 : decode cL_isPlan 62 = .ok (.aload_n 0, 1) := by decide +kernel
theorem dL_isPlan_63 : decode cL_isPlan 63 = .ok (.iload 4, 2) := by decide +kernel
theorem dL_isPlan_65 : decode cL_isPlan 65 = .ok (.invokestatic 54, 3) := by decide +kernel
theorem dL_isPlan_68 : decode cL_isPlan 68 = .ok (.goto 4, 3) := by decide +kernel
theorem dL_isPlan_71 : decode cL_isPlan 71 = .ok (.iload_n 2, 1) := by decide +kernel
theorem dL_isPlan_72 : decode cL_isPlan 72 = .ok (.istore_n 2, 1) := by decide +kernel
theorem dL_isPlan_73 : decode cL_isPlan 73 = .ok (.iload_n 3, 1) := by decide +kernel
theorem dL_isPlan_74 : decode cL_isPlan 74 = .ok (.iconst 1, 1) := by decide +kernel
theorem dL_isPlan_75 : decode cL_isPlan 75 = .ok (.aload_n 0, 1) := by decide +kernel
theorem dL_isPlan_76 : decode cL_isPlan 76 = .ok (.iload 4, 2) := by decide +kernel
theorem dL_isPlan_78 : decode cL_isPlan 78 = .ok (.iconst 0, 1) := by decide +kernel
theorem dL_isPlan_79 : decode cL_isPlan 79 = .ok (.invokevirtual 51, 3) := by decide +kernel
theorem dL_isPlan_82 : decode cL_isPlan 82 = .ok (.ishl, 1) := by decide +kernel
theorem dL_isPlan_83 : decode cL_isPlan 83 = .ok (.ior, 1) := by decide +kernel
theorem dL_isPlan_84 : decode cL_isPlan 84 = .ok (.istore_n 3, 1) := by decide +kernel
theorem dL_isPlan_85 : decode cL_isPlan 85 = .ok (.iconst 0, 1) := by decide +kernel
theorem dL_isPlan_86 : decode cL_isPlan 86 = .ok (.istore 6, 2) := by decide +kernel
theorem dL_isPlan_88 : decode cL_isPlan 88 = .ok (.iload 6, 2) := by decide +kernel
theorem dL_isPlan_90 : decode cL_isPlan 90 = .ok (.iload_n 1, 1) := by decide +kernel
theorem dL_isPlan_91 : decode cL_isPlan 91 = .ok (.if_icmp .ge 115, 3) := by decide +kernel
theorem dL_isPlan_94 : decode cL_isPlan 94 = .ok (.aload_n 0, 1) := by decide +kernel
theorem dL_isPlan_95 : decode cL_isPlan 95 = .ok (.iload 4, 2) := by decide +kernel
theorem dL_isPlan_97 : decode cL_isPlan 97 = .ok (.invokestatic 54, 3) := by decide +kernel
theorem dL_isPlan_100 : decode cL_isPlan 100 = .ok (.aload_n 0, 1) := by decide +kernel
theorem dL_isPlan_101 : decode cL_isPlan 101 = .ok (.iload 6, 2) := by decide +kernel
theorem dL_isPlan_103 : decode cL_isPlan 103 = .ok (.iconst 1, 1) := by decide +kernel
theorem dL_isPlan_104 : decode cL_isPlan 104 = .ok (.invokevirtual 51, 3) := by decide +kernel
