set_option maxRecDepth 20000 in
theorem ggX8_number_X8_pairsOnOne : GoodIn wsX8_number wsX8_pairsOnOne := goodIn_r _ [15, 2, 16, 81, 82, 83, 84, 85, 86, 87, 88, 89, 90, 91, 92, 93, 94, 95, 96, 97, 98, 99, 100, 101, 102, 103, 104, 105, 106, 107, 108, 109, 110] (by decide +kernel) (by decide +kernel)
set_option maxRecDepth 20000 in
theorem gX8_number_X8_pairsOnOne : GoodIn wsX8_number (wsV RX8 170 RX8 yX8_pairsOnOne wsX8_pairsOnOne) := goodIn_app (goodIn_of _ (by decide +kernel)) ggX8_number_X8_pairsOnOne
set_option maxRecDepth 20000 in
theorem ggX8_number_X8_reason : GoodIn wsX8_number wsX8_reason := goodIn_r _ [20, 2, 21, 22, 23, 24, 25, 8, 26, 27, 28, 29, 6, 30, 31, 32, 33, 16, 34, 35, 36, 37, 38, 39, 40, 41, 42, 43, 44, 45, 46, 47, 48, 49, 50, 51, 52, 53, 54, 55, 56, 57, 58, 59, 60, 61, 62, 63, 64, 65, 66, 67, 68, 69, 70, 71, 72, 73, 74, 75, 76, 81, 82, 83, 84, 85, 86, 87, 88, 89, 90, 91, 92, 93, 94, 95, 96, 97, 98, 99, 100, 101, 102, 103, 104, 105, 106, 107, 108, 109, 110] (by decide +kernel) (by decide +kernel)
set_option maxRecDepth 20000 in
theorem gX8_number_X8_reason : GoodIn wsX8_number (wsV RX8 173 RX8 yX8_reason wsX8_reason) := goodIn_app (goodIn_of _ (by decide +kernel)) ggX8_number_X8_reason
set_option maxRecDepth 20000 in
theorem ggX8_number_X8_openPairs : GoodIn wsX8_number wsX8_openPairs := goodIn_r _ [80, 2, 16, 25, 38, 39, 6, 40, 81, 82, 83, 84, 85, 86, 87, 88, 89, 90, 91, 92, 93, 94, 95, 96, 97, 98, 99, 100, 101, 102, 103, 104, 105, 106, 107, 108, 109, 110] (by decide +kernel) (by decide +kernel)
set_option maxRecDepth 20000 in
theorem gX8_number_X8_openPairs : GoodIn wsX8_number (wsV RX8 176 RX8 yX8_openPairs wsX8_openPairs) := goodIn_app (goodIn_of _ (by decide +kernel)) ggX8_number_X8_openPairs
theorem dX8_number_0 : decode cX8_number 0 = .ok (.iload_n 1, 1) := by decide +kernel
theorem dX8_number_1 : decode cX8_number 1 = .ok (.tableswitch 68 0 4 #[35, 40, 45, 50, 55], 35) := by decide +kernel
theorem dX8_number_36 : decode cX8_number 36 = .ok (.aload_n 0, 1) := by decide +kernel
theorem dX8_number_37 : decode cX8_number 37 = .ok (.getfield 7, 3) := by decide +kernel
theorem dX8_number_40 : decode cX8_number 40 = .ok (.ireturn, 1) := by decide +kernel
theorem dX8_number_41 : decode cX8_number 41 = .ok (.aload_n 0, 1) := by decide +kernel
theorem dX8_number_42 : decode cX8_number 42 = .ok (.getfield 78, 3) := by decide +kernel
theorem dX8_number_45 : decode cX8_number 45 = .ok (.ireturn, 1) := by decide +kernel
theorem dX8_number_46 : decode cX8_number 46 = .ok (.aload_n 0, 1) := by decide +kernel
theorem dX8_number_47 : decode cX8_number 47 = .ok (.invokevirtual 121, 3) := by decide +kernel
theorem dX8_number_50 : decode cX8_number 50 = .ok (.ireturn, 1) := by decide +kernel
theorem dX8_number_51 : decode cX8_number 51 = .ok (.aload_n 0, 1) := by decide +kernel
theorem dX8_number_52 : decode cX8_number 52 = .ok (.invokevirtual 170, 3) := by decide +kernel
theorem dX8_number_55 : decode cX8_number 55 = .ok (.ireturn, 1) := by decide +kernel
theorem dX8_number_56 : decode cX8_number 56 = .ok (.aload_n 0, 1) := by decide +kernel
theorem dX8_number_57 : decode cX8_number 57 = .ok (.invokevirtual 173, 3) := by decide +kernel
theorem dX8_number_60 : decode cX8_number 60 = .ok (.ifCond .eq 7, 3) := by decide +kernel
theorem dX8_number_63 : decode cX8_number 63 = .ok (.iconst 0, 1) := by decide +kernel
theorem dX8_number_64 : decode cX8_number 64 = .ok (.goto 4, 3) := by decide +kernel
theorem dX8_number_67 : decode cX8_number 67 = .ok (.iconst 1, 1) := by decide +kernel
theorem dX8_number_68 : decode cX8_number 68 = .ok (.ireturn, 1) := by decide +kernel
theorem dX8_number_69 : decode cX8_number 69 = .ok (.aload_n 0, 1) := by decide +kernel
theorem dX8_number_70 : decode cX8_number 70 = .ok (.invokevirtual 173, 3) := by decide +kernel
theorem dX8_number_73 : decode cX8_number 73 = .ok (.ifCond .eq 10, 3) := by decide +kernel
theorem dX8_number_76 : decode cX8_number 76 = .ok (.aload_n 0, 1) := by decide +kernel
theorem dX8_number_77 : decode cX8_number 77 = .ok (.invokevirtual 176, 3) := by decide +kernel
theorem dX8_number_80 : decode cX8_number 80 = .ok (.goto 4, 3) := by decide +kernel
theorem dX8_number_83 : decode cX8_number 83 = .ok (.iconst (-1), 1) := by decide +kernel
theorem dX8_number_84 : decode cX8_number 84 = .ok (.ireturn, 1) := by decide +kernel
set_option maxRecDepth 20000 in
theorem ggX8_value_X8_in : GoodIn wsX8_value wsX8_in := goodIn_r _ [5] (by decide +kernel) (by decide +kernel)
set_option maxRecDepth 20000 in
theorem gX8_value_X8_in : GoodIn wsX8_value (va_wsS RX8 84 yX8_in wsX8_in) := goodIn_app (goodIn_of _ (by decide +kernel)) ggX8_value_X8_in
set_option maxRecDepth 20000 in
theorem ggX8_value_X8_number : GoodIn wsX8_value wsX8_number := goodIn_r _ [9, 10, 11, 12, 13, 14, 4, 15, 16, 17, 18, 19, 20, 21, 22, 23, 24, 25, 26, 27, 28, 29, 30, 31, 32, 33, 34, 35, 36, 37, 38, 39, 40, 41, 42, 43, 44, 45, 46, 47, 48, 49, 50, 51, 52, 53, 54, 55, 56, 57, 58, 59, 60, 61, 62, 63, 64, 65, 66, 67, 68, 69, 70, 71, 72, 73, 74, 75, 76, 77, 78, 79, 80, 81, 82, 83, 84, 85, 86, 87, 88, 89, 90, 91, 92, 93, 94, 95, 96, 97, 98, 99, 100, 101, 102, 103, 104, 105, 106, 107, 108, 109, 110, 111, 112, 113, 114, 115, 116, 117, 118] (by decide +kernel) (by decide +kernel)
set_option maxRecDepth 20000 in
theorem gX8_value_X8_number : GoodIn wsX8_value (wsV RX8 179 RX8 yX8_number wsX8_number) := goodIn_app (goodIn_of _ (by decide +kernel)) ggX8_value_X8_number
theorem dX8_value_0 : decode cX8_value 0 = .ok (.aload_n 0, 1) := by decide +kernel
theorem dX8_value_1 : decode cX8_value 1 = .ok (.iload_n 1, 1) := by decide +kernel
theorem dX8_value_2 : decode cX8_value 2 = .ok (.iconst 0, 1) := by decide +kernel
theorem dX8_value_3 : decode cX8_value 3 = .ok (.iconst 5, 1) := by decide +kernel
theorem dX8_value_4 : decode cX8_value 4 = .ok (.invokestatic 84, 3) := by decide +kernel
theorem dX8_value_7 : decode cX8_value 7 = .ok (.ifCond .eq 7, 3) := by decide +kernel
theorem dX8_value_10 : decode cX8_value 10 = .ok (.iconst 0, 1) := by decide +kernel
theorem dX8_value_11 : decode cX8_value 11 = .ok (.goto 4, 3) := by decide +kernel
theorem dX8_value_14 : decode cX8_value 14 = .ok (.iconst 1, 1) := by decide +kernel
theorem dX8_value_15 : decode cX8_value 15 = .ok (.putfield 75, 3) := by decide +kernel
theorem dX8_value_18 : decode cX8_value 18 = .ok (.aload_n 0, 1) := by decide +kernel
theorem dX8_value_19 : decode cX8_value 19 = .ok (.getfield 75, 3) := by decide +kernel
theorem dX8_value_22 : decode cX8_value 22 = .ok (.ifCond .le 7, 3) := by decide +kernel
theorem dX8_value_25 : decode cX8_value 25 = .ok (.iconst 0, 1) := by decide +kernel
theorem dX8_value_26 : decode cX8_value 26 = .ok (.goto 8, 3) := by decide +kernel
theorem dX8_value_29 : decode cX8_value 29 = .ok (.aload_n 0, 1) := by decide +kernel
theorem dX8_value_30 : decode cX8_value 30 = .ok (.iload_n 1, 1) := by decide +kernel
theorem dX8_value_31 : decode cX8_value 31 = .ok (.invokevirtual 179, 3) := by decide +kernel
theorem dX8_value_34 : decode cX8_value 34 = .ok (.ireturn, 1) := by decide +kernel
set_option maxRecDepth 20000 in
theorem ggX8_whyNotOne_X8_isTask : GoodIn wsX8_whyNotOne wsX8_isTask := goodIn_r _ [5, 6, 69, 70, 71, 72, 73, 74, 75, 76, 77, 78, 79, 80, 81, 82, 83, 84, 85, 86, 87, 88, 89, 90, 91, 92, 93, 94, 95, 96, 97, 98] (by decide +kernel) (by decide +kernel)
set_option maxRecDepth 20000 in
theorem gX8_whyNotOne_X8_isTask : GoodIn wsX8_whyNotOne (wsV RX8 98 RX8 yX8_isTask wsX8_isTask) := goodIn_app (goodIn_of _ (by decide +kernel)) ggX8_whyNotOne_X8_isTask
set_option maxRecDepth 20000 in
theorem ggX8_whyNotOne_X8_reason : GoodIn wsX8_whyNotOne wsX8_reason := goodIn_r _ [10, 6, 11, 12, 13, 14, 15, 16, 17, 18, 19, 20, 4, 21, 22, 23, 24, 25, 26, 27, 28, 29, 30, 31, 32, 33, 34, 35, 36, 37, 38, 39, 40, 41, 42, 43, 44, 45, 46, 47, 48, 49, 50, 51, 52, 53, 54, 55, 56, 57, 58, 59, 60, 61, 62, 63, 64, 65, 66, 67, 68, 69, 70, 71, 72, 73, 74, 75, 76, 77, 78, 79, 80, 81, 82, 83, 84, 85, 86, 87, 88, 89, 90, 91, 92, 93, 94, 95, 96, 97, 98] (by decide +kernel) (by decide +kernel)
set_option maxRecDepth 20000 in
theorem gX8_whyNotOne_X8_reason : GoodIn wsX8_whyNotOne (wsV RX8 173 RX8 yX8_reason wsX8_reason) := goodIn_app (goodIn_of _ (by decide +kernel)) ggX8_whyNotOne_X8_reason
theorem dX8_whyNotOne_0 : decode cX8_whyNotOne 0 = .ok (.aload_n 0, 1) := by decide +kernel
theorem dX8_whyNotOne_1 : decode cX8_whyNotOne 1 = .ok (.iload_n 1, 1) := by decide +kernel
theorem dX8_whyNotOne_2 : decode cX8_whyNotOne 2 = .ok (.invokevirtual 98, 3) := by decide +kernel
theorem dX8_whyNotOne_5 : decode cX8_whyNotOne 5 = .ok (.ifCond .ne 7, 3) := by decide +kernel
theorem dX8_whyNotOne_8 : decode cX8_whyNotOne 8 = .ok (.iconst 1, 1) := by decide +kernel
theorem dX8_whyNotOne_9 : decode cX8_whyNotOne 9 = .ok (.goto 15, 3) := by decide +kernel
theorem dX8_whyNotOne_12 : decode cX8_whyNotOne 12 = .ok (.aload_n 0, 1) := by decide +kernel
theorem dX8_whyNotOne_13 : decode cX8_whyNotOne 13 = .ok (.invokevirtual 173, 3) := by decide +kernel
theorem dX8_whyNotOne_16 : decode cX8_whyNotOne 16 = .ok (.ifCond .eq 7, 3) := by decide +kernel
theorem dX8_whyNotOne_19 : decode cX8_whyNotOne 19 = .ok (.iconst 0, 1) := by decide +kernel
theorem dX8_whyNotOne_20 : decode cX8_whyNotOne 20 = .ok (.goto 4, 3) := by decide +kernel
theorem dX8_whyNotOne_23 : decode cX8_whyNotOne 23 = .ok (.iconst 2, 1) := by decide +kernel
theorem dX8_whyNotOne_24 : decode cX8_whyNotOne 24 = .ok (.ireturn, 1) := by decide +kernel
set_option maxRecDepth 20000 in
theorem ggX8_whyNotTwo_X8_isTask : GoodIn wsX8_whyNotTwo wsX8_isTask := goodIn_r _ [5, 6, 69, 70, 71, 72, 73, 74, 75, 76, 77, 78, 79, 80, 81, 82, 83, 84, 85, 86, 87, 88, 89, 90, 91, 92, 93, 94, 95, 96, 97, 98] (by decide +kernel) (by decide +kernel)
set_option maxRecDepth 20000 in
theorem gX8_whyNotTwo_X8_isTask : GoodIn wsX8_whyNotTwo (wsV RX8 98 RX8 yX8_isTask wsX8_isTask) := goodIn_app (goodIn_of _ (by decide +kernel)) ggX8_whyNotTwo_X8_isTask
set_option maxRecDepth 20000 in
theorem ggX8_whyNotTwo_X8_reason : GoodIn wsX8_whyNotTwo wsX8_reason := goodIn_r _ [10, 6, 11, 12, 13, 14, 15, 16, 17, 18, 19, 20, 4, 21, 22, 23, 24, 25, 26, 27, 28, 29, 30, 31, 32, 33, 34, 35, 36, 37, 38, 39, 40, 41, 42, 43, 44, 45, 46, 47, 48, 49, 50, 51, 52, 53, 54, 55, 56, 57, 58, 59, 60, 61, 62, 63, 64, 65, 66, 67, 68, 69, 70, 71, 72, 73, 74, 75, 76, 77, 78, 79, 80, 81, 82, 83, 84, 85, 86, 87, 88, 89, 90, 91, 92, 93, 94, 95, 96, 97, 98] (by decide +kernel) (by decide +kernel)
set_option maxRecDepth 20000 in
theorem gX8_whyNotTwo_X8_reason : GoodIn wsX8_whyNotTwo (wsV RX8 173 RX8 yX8_reason wsX8_reason) := goodIn_app (goodIn_of _ (by decide +kernel)) ggX8_whyNotTwo_X8_reason
theorem dX8_whyNotTwo_0 : decode cX8_whyNotTwo 0 = .ok (.aload_n 0, 1) := by decide +kernel
theorem dX8_whyNotTwo_1 : decode cX8_whyNotTwo 1 = .ok (.iload_n 1, 1) := by decide +kernel
theorem dX8_whyNotTwo_2 : decode cX8_whyNotTwo 2 = .ok (.invokevirtual 98, 3) := by decide +kernel
theorem dX8_whyNotTwo_5 : decode cX8_whyNotTwo 5 = .ok (.ifCond .eq 11, 3) := by decide +kernel
theorem dX8_whyNotTwo_8 : decode cX8_whyNotTwo 8 = .ok (.aload_n 0, 1) := by decide +kernel
theorem dX8_whyNotTwo_9 : decode cX8_whyNotTwo 9 = .ok (.iload_n 2, 1) := by decide +kernel
theorem dX8_whyNotTwo_10 : decode cX8_whyNotTwo 10 = .ok (.invokevirtual 98, 3) := by decide +kernel
theorem dX8_whyNotTwo_13 : decode cX8_whyNotTwo 13 = .ok (.ifCond .ne 7, 3) := by decide +kernel
theorem dX8_whyNotTwo_16 : decode cX8_whyNotTwo 16 = .ok (.iconst 1, 1) := by decide +kernel
theorem dX8_whyNotTwo_17 : decode cX8_whyNotTwo 17 = .ok (.goto 15, 3) := by decide +kernel
theorem dX8_whyNotTwo_20 : decode cX8_whyNotTwo 20 = .ok (.aload_n 0, 1) := by decide +kernel
theorem dX8_whyNotTwo_21 : decode cX8_whyNotTwo 21 = .ok (.invokevirtual 173, 3) := by decide +kernel
theorem dX8_whyNotTwo_24 : decode cX8_whyNotTwo 24 = .ok (.ifCond .eq 7, 3) := by decide +kernel
theorem dX8_whyNotTwo_27 : decode cX8_whyNotTwo 27 = .ok (.iconst 0, 1) := by decide +kernel
theorem dX8_whyNotTwo_28 : decode cX8_whyNotTwo 28 = .ok (.goto 4, 3) := by decide +kernel
theorem dX8_whyNotTwo_31 : decode cX8_whyNotTwo 31 = .ok (.iconst 2, 1) := by decide +kernel
theorem dX8_whyNotTwo_32 : decode cX8_whyNotTwo 32 = .ok (.ireturn, 1) := by decide +kernel
set_option maxRecDepth 20000 in
theorem ggX8_firstStart_X8_whyNotOne : GoodIn wsX8_firstStart wsX8_whyNotOne := goodIn_r _ [7, 8, 9, 10, 6, 11, 12, 13, 14, 15, 16, 2, 17, 18, 19, 20, 21, 22, 23, 24, 25, 26, 27, 28, 29, 30, 31, 32, 33, 34, 35, 36, 37, 38, 39, 40, 41, 42, 43, 44, 45, 46, 47, 48, 49, 50, 51, 52, 53, 54, 55, 56, 57, 58, 59, 60, 61, 62, 63, 64, 65, 66, 67, 68, 69, 70, 71, 72, 73, 74, 75, 76, 77, 78, 79, 80, 81, 82, 83, 84, 85, 86, 87, 88, 89, 90, 91, 92, 93, 94, 95, 96, 97, 98, 99, 100, 101, 102, 103] (by decide +kernel) (by decide +kernel)
set_option maxRecDepth 20000 in
theorem gX8_firstStart_X8_whyNotOne : GoodIn wsX8_firstStart (wsV RX8 182 RX8 yX8_whyNotOne wsX8_whyNotOne) := goodIn_app (goodIn_of _ (by decide +kernel)) ggX8_firstStart_X8_whyNotOne
theorem dX8_firstStart_0 : decode cX8_firstStart 0 = .ok (.aload_n 0, 1) := by decide +kernel
theorem dX8_firstStart_1 : decode cX8_firstStart 1 = .ok (.aload_n 0, 1) := by decide +kernel
theorem dX8_firstStart_2 : decode cX8_firstStart 2 = .ok (.iload_n 1, 1) := by decide +kernel
theorem dX8_firstStart_3 : decode cX8_firstStart 3 = .ok (.invokevirtual 182, 3) := by decide +kernel
theorem dX8_firstStart_6 : decode cX8_firstStart 6 = .ok (.putfield 75, 3) := by decide +kernel
theorem dX8_firstStart_9 : decode cX8_firstStart 9 = .ok (.aload_n 0, 1) := by decide +kernel
theorem dX8_firstStart_10 : decode cX8_firstStart 10 = .ok (.getfield 75, 3) := by decide +kernel
theorem dX8_firstStart_13 : decode cX8_firstStart 13 = .ok (.ifCond .le 7, 3) := by decide +kernel
theorem dX8_firstStart_16 : decode cX8_firstStart 16 = .ok (.iconst 0, 1) := by decide +kernel
theorem dX8_firstStart_17 : decode cX8_firstStart 17 = .ok (.goto 9, 3) := by decide +kernel
theorem dX8_firstStart_20 : decode cX8_firstStart 20 = .ok (.aload_n 0, 1) := by decide +kernel
theorem dX8_firstStart_21 : decode cX8_firstStart 21 = .ok (.getfield 35, 3) := by decide +kernel
theorem dX8_firstStart_24 : decode cX8_firstStart 24 = .ok (.iload_n 1, 1) := by decide +kernel
theorem dX8_firstStart_25 : decode cX8_firstStart 25 = .ok (.iaload, 1) := by decide +kernel
theorem dX8_firstStart_26 : decode cX8_firstStart 26 = .ok (.ireturn, 1) := by decide +kernel
set_option maxRecDepth 20000 in
theorem ggX8_lastEnd_X8_whyNotOne : GoodIn wsX8_lastEnd wsX8_whyNotOne := goodIn_r _ [7, 8, 9, 10, 6, 11, 12, 13, 14, 15, 16, 17, 18, 2, 19, 20, 21, 22, 23, 24, 25, 26, 27, 28, 29, 30, 31, 32, 33, 34, 35, 36, 37, 38, 39, 40, 41, 42, 43, 44, 45, 46, 47, 48, 49, 50, 51, 52, 53, 54, 55, 56, 57, 58, 59, 60, 61, 62, 63, 64, 65, 66, 67, 68, 69, 70, 71, 72, 73, 74, 75, 76, 77, 78, 79, 80, 81, 82, 83, 84, 85, 86, 87, 88, 89, 90, 91, 92, 93, 94, 95, 96, 97, 98, 99, 100, 101, 102, 103] (by decide +kernel) (by decide +kernel)
set_option maxRecDepth 20000 in
theorem gX8_lastEnd_X8_whyNotOne : GoodIn wsX8_lastEnd (wsV RX8 182 RX8 yX8_whyNotOne wsX8_whyNotOne) := goodIn_app (goodIn_of _ (by decide +kernel)) ggX8_lastEnd_X8_whyNotOne
theorem dX8_lastEnd_0 : decode cX8_lastEnd 0 = .ok (.aload_n 0, 1) := by decide +kernel
theorem dX8_lastEnd_1 : decode cX8_lastEnd 1 = .ok (.aload_n 0, 1) := by decide +kernel
theorem dX8_lastEnd_2 : decode cX8_lastEnd 2 = .ok (.iload_n 1, 1) := by decide +kernel
theorem dX8_lastEnd_3 : decode cX8_lastEnd 3 = .ok (.invokevirtual 182, 3) := by decide +kernel
theorem dX8_lastEnd_6 : decode cX8_lastEnd 6 = .ok (.putfield 75, 3) := by decide +kernel
theorem dX8_lastEnd_9 : decode cX8_lastEnd 9 = .ok (.aload_n 0, 1) := by decide +kernel
theorem dX8_lastEnd_10 : decode cX8_lastEnd 10 = .ok (.getfield 75, 3) := by decide +kernel
theorem dX8_lastEnd_13 : decode cX8_lastEnd 13 = .ok (.ifCond .le 7, 3) := by decide +kernel
theorem dX8_lastEnd_16 : decode cX8_lastEnd 16 = .ok (.iconst 0, 1) := by decide +kernel
theorem dX8_lastEnd_17 : decode cX8_lastEnd 17 = .ok (.goto 9, 3) := by decide +kernel
theorem dX8_lastEnd_20 : decode cX8_lastEnd 20 = .ok (.aload_n 0, 1) := by decide +kernel
theorem dX8_lastEnd_21 : decode cX8_lastEnd 21 = .ok (.getfield 38, 3) := by decide +kernel
theorem dX8_lastEnd_24 : decode cX8_lastEnd 24 = .ok (.iload_n 1, 1) := by decide +kernel
theorem dX8_lastEnd_25 : decode cX8_lastEnd 25 = .ok (.iaload, 1) := by decide +kernel
theorem dX8_lastEnd_26 : decode cX8_lastEnd 26 = .ok (.ireturn, 1) := by decide +kernel
set_option maxRecDepth 20000 in
theorem ggX8_slack_X8_whyNotOne : GoodIn wsX8_slack wsX8_whyNotOne := goodIn_r _ [9, 10, 11, 12, 8, 13, 14, 15, 16, 17, 18, 3, 19, 2, 20, 21, 22, 23, 24, 25, 26, 27, 28, 29, 4, 30, 31, 32, 33, 34, 35, 36, 37, 38, 39, 40, 41, 42, 43, 44, 45, 46, 47, 48, 49, 50, 51, 52, 53, 54, 55, 56, 57, 58, 59, 60, 61, 62, 63, 64, 65, 66, 67, 68, 69, 70, 71, 72, 73, 74, 75, 76, 77, 78, 79, 80, 81, 82, 83, 84, 85, 86, 87, 88, 89, 90, 91, 92, 93, 94, 95, 96, 97, 98, 99, 100, 101, 102, 103] (by decide +kernel) (by decide +kernel)
set_option maxRecDepth 20000 in
theorem gX8_slack_X8_whyNotOne : GoodIn wsX8_slack (wsV RX8 182 RX8 yX8_whyNotOne wsX8_whyNotOne) := goodIn_app (goodIn_of _ (by decide +kernel)) ggX8_slack_X8_whyNotOne
theorem dX8_slack_0 : decode cX8_slack 0 = .ok (.aload_n 0, 1) := by decide +kernel
theorem dX8_slack_1 : decode cX8_slack 1 = .ok (.aload_n 0, 1) := by decide +kernel
theorem dX8_slack_2 : decode cX8_slack 2 = .ok (.iload_n 1, 1) := by decide +kernel
theorem dX8_slack_3 : decode cX8_slack 3 = .ok (.invokevirtual 182, 3) := by decide +kernel
theorem dX8_slack_6 : decode cX8_slack 6 = .ok (.putfield 75, 3) := by decide +kernel
theorem dX8_slack_9 : decode cX8_slack 9 = .ok (.aload_n 0, 1) := by decide +kernel
theorem dX8_slack_10 : decode cX8_slack 10 = .ok (.getfield 75, 3) := by decide +kernel
theorem dX8_slack_13 : decode cX8_slack 13 = .ok (.ifCond .le 7, 3) := by decide +kernel
theorem dX8_slack_16 : decode cX8_slack 16 = .ok (.iconst 0, 1) := by decide +kernel
theorem dX8_slack_17 : decode cX8_slack 17 = .ok (.goto 23, 3) := by decide +kernel
theorem dX8_slack_20 : decode cX8_slack 20 = .ok (.aload_n 0, 1) := by decide +kernel
theorem dX8_slack_21 : decode cX8_slack 21 = .ok (.getfield 38, 3) := by decide +kernel
theorem dX8_slack_24 : decode cX8_slack 24 = .ok (.iload_n 1, 1) := by decide +kernel
theorem dX8_slack_25 : decode cX8_slack 25 = .ok (.iaload, 1) := by decide +kernel
theorem dX8_slack_26 : decode cX8_slack 26 = .ok (.aload_n 0, 1) := by decide +kernel
theorem dX8_slack_27 : decode cX8_slack 27 = .ok (.getfield 35, 3) := by decide +kernel
theorem dX8_slack_30 : decode cX8_slack 30 = .ok (.iload_n 1, 1) := by decide +kernel
theorem dX8_slack_31 : decode cX8_slack 31 = .ok (.iaload, 1) := by decide +kernel
theorem dX8_slack_32 : decode cX8_slack 32 = .ok (.isub, 1) := by decide +kernel
theorem dX8_slack_33 : decode cX8_slack 33 = .ok (.aload_n 0, 1) := by decide +kernel
theorem dX8_slack_34 : decode cX8_slack 34 = .ok (.getfield 23, 3) := by decide +kernel
theorem dX8_slack_37 : decode cX8_slack 37 = .ok (.iload_n 1, 1) := by decide +kernel
theorem dX8_slack_38 : decode cX8_slack 38 = .ok (.iaload, 1) := by decide +kernel
theorem dX8_slack_39 : decode cX8_slack 39 = .ok (.isub, 1) := by decide +kernel
theorem dX8_slack_40 : decode cX8_slack 40 = .ok (.ireturn, 1) := by decide +kernel
set_option maxRecDepth 20000 in
theorem ggX8_precedes_X8_whyNotTwo : GoodIn wsX8_precedes wsX8_whyNotTwo := goodIn_r _ [7, 8, 9, 10, 6, 11, 12, 13, 14, 15, 16, 17, 18, 19, 20, 2, 21, 22, 23, 24, 25, 26, 27, 28, 29, 30, 31, 32, 33, 34, 35, 36, 37, 38, 39, 40, 41, 42, 43, 44, 45, 46, 47, 48, 49, 50, 51, 52, 53, 54, 55, 56, 57, 58, 59, 60, 61, 62, 63, 64, 65, 66, 67, 68, 69, 70, 71, 72, 73, 74, 75, 76, 77, 78, 79, 80, 81, 82, 83, 84, 85, 86, 87, 88, 89, 90, 91, 92, 93, 94, 95, 96, 97, 98, 99, 100, 101, 102, 103] (by decide +kernel) (by decide +kernel)
set_option maxRecDepth 20000 in
theorem gX8_precedes_X8_whyNotTwo : GoodIn wsX8_precedes (wsV RX8 185 RX8 yX8_whyNotTwo wsX8_whyNotTwo) := goodIn_app (goodIn_of _ (by decide +kernel)) ggX8_precedes_X8_whyNotTwo
set_option maxRecDepth 20000 in
theorem ggX8_precedes_X8_has : GoodIn wsX8_precedes wsX8_has := goodIn_r _ [37] (by decide +kernel) (by decide +kernel)
set_option maxRecDepth 20000 in
theorem gX8_precedes_X8_has : GoodIn wsX8_precedes (va_wsS RX8 102 yX8_has wsX8_has) := goodIn_app (goodIn_of _ (by decide +kernel)) ggX8_precedes_X8_has
theorem dX8_precedes_0 : decode cX8_precedes 0 = .ok (.aload_n 0, 1) := by decide +kernel
theorem dX8_precedes_1 : decode cX8_precedes 1 = .ok (.aload_n 0, 1) := by decide +kernel
theorem dX8_precedes_2 : decode cX8_precedes 2 = .ok (.iload_n 1, 1) := by decide +kernel
theorem dX8_precedes_3 : decode cX8_precedes 3 = .ok (.iload_n 2, 1) := by decide +kernel
theorem dX8_precedes_4 : decode cX8_precedes 4 = .ok (.invokevirtual 185, 3) := by decide +kernel
theorem dX8_precedes_7 : decode cX8_precedes 7 = .ok (.putfield 75, 3) := by decide +kernel
theorem dX8_precedes_10 : decode cX8_precedes 10 = .ok (.aload_n 0, 1) := by decide +kernel
theorem dX8_precedes_11 : decode cX8_precedes 11 = .ok (.getfield 75, 3) := by decide +kernel
theorem dX8_precedes_14 : decode cX8_precedes 14 = .ok (.ifCond .ne 25, 3) := by decide +kernel
theorem dX8_precedes_17 : decode cX8_precedes 17 = .ok (.iload_n 1, 1) := by decide +kernel
theorem dX8_precedes_18 : decode cX8_precedes 18 = .ok (.iload_n 2, 1) := by decide +kernel
theorem dX8_precedes_19 : decode cX8_precedes 19 = .ok (.if_icmp .eq 20, 3) := by decide +kernel
theorem dX8_precedes_22 : decode cX8_precedes 22 = .ok (.aload_n 0, 1) := by decide +kernel
theorem dX8_precedes_23 : decode cX8_precedes 23 = .ok (.getfield 41, 3) := by decide +kernel
theorem dX8_precedes_26 : decode cX8_precedes 26 = .ok (.iload_n 1, 1) := by decide +kernel
theorem dX8_precedes_27 : decode cX8_precedes 27 = .ok (.iaload, 1) := by decide +kernel
theorem dX8_precedes_28 : decode cX8_precedes 28 = .ok (.iload_n 2, 1) := by decide +kernel
theorem dX8_precedes_29 : decode cX8_precedes 29 = .ok (.invokestatic 102, 3) := by decide +kernel
theorem dX8_precedes_32 : decode cX8_precedes 32 = .ok (.ifCond .eq 7, 3) := by decide +kernel
theorem dX8_precedes_35 : decode cX8_precedes 35 = .ok (.iconst 1, 1) := by decide +kernel
theorem dX8_precedes_36 : decode cX8_precedes 36 = .ok (.goto 4, 3) := by decide +kernel
theorem dX8_precedes_39 : decode cX8_precedes 39 = .ok (.iconst 0, 1) := by decide +kernel
theorem dX8_precedes_40 : decode cX8_precedes 40 = .ok (.ireturn, 1) := by decide +kernel
set_option maxRecDepth 20000 in
theorem ggX8_leastSet_X8_has : GoodIn wsX8_leastSet wsX8_has := goodIn_r _ [5] (by decide +kernel) (by decide +kernel)
set_option maxRecDepth 20000 in
theorem gX8_leastSet_X8_has : GoodIn wsX8_leastSet (va_wsS RX8 102 yX8_has wsX8_has) := goodIn_app (goodIn_of _ (by decide +kernel)) ggX8_leastSet_X8_has
set_option maxRecDepth 20000 in
theorem ggX8_leastSet_X8_tellsBehind : GoodIn wsX8_leastSet wsX8_tellsBehind := goodIn_r _ [9, 10, 11, 12, 13, 18, 19, 20, 21, 22, 23, 24, 25, 26, 27, 28, 29, 30, 31, 32, 33, 34, 35, 36, 37, 38, 39, 40, 41, 42, 43, 44, 45, 46, 47] (by decide +kernel) (by decide +kernel)
set_option maxRecDepth 20000 in
theorem gX8_leastSet_X8_tellsBehind : GoodIn wsX8_leastSet (wsV RX8 144 RX8 yX8_tellsBehind wsX8_tellsBehind) := goodIn_app (goodIn_of _ (by decide +kernel)) ggX8_leastSet_X8_tellsBehind
set_option maxRecDepth 20000 in
theorem ggX8_leastSet_X8_tellsAhead : GoodIn wsX8_leastSet wsX8_tellsAhead := goodIn_r _ [17, 10, 11, 12, 13, 18, 19, 20, 21, 22, 23, 24, 25, 26, 27, 28, 29, 30, 31, 32, 33, 34, 35, 36, 37, 38, 39, 40, 41, 42, 43, 44, 45, 46, 47] (by decide +kernel) (by decide +kernel)
set_option maxRecDepth 20000 in
theorem gX8_leastSet_X8_tellsAhead : GoodIn wsX8_leastSet (wsV RX8 147 RX8 yX8_tellsAhead wsX8_tellsAhead) := goodIn_app (goodIn_of _ (by decide +kernel)) ggX8_leastSet_X8_tellsAhead
theorem dX8_leastSet_0 : decode cX8_leastSet 0 = .ok (.iconst 1, 1) := by decide +kernel
theorem dX8_leastSet_1 : decode cX8_leastSet 1 = .ok (.istore_n 3, 1) := by decide +kernel
theorem dX8_leastSet_2 : decode cX8_leastSet 2 = .ok (.iload_n 3, 1) := by decide +kernel
theorem dX8_leastSet_3 : decode cX8_leastSet 3 = .ok (.iconst 1, 1) := by decide +kernel
theorem dX8_leastSet_4 : decode cX8_leastSet 4 = .ok (.aload_n 0, 1) := by decide +kernel
theorem dX8_leastSet_5 : decode cX8_leastSet 5 = .ok (.getfield 78, 3) := by decide +kernel
theorem dX8_leastSet_8 : decode cX8_leastSet 8 = .ok (.ishl, 1) := by decide +kernel
theorem dX8_leastSet_9 : decode cX8_leastSet 9 = .ok (.if_icmp .ge 90, 3) := by decide +kernel
theorem dX8_leastSet_12 : decode cX8_leastSet 12 = .ok (.iload_n 1, 1) := by decide +kernel
theorem dX8_leastSet_13 : decode cX8_leastSet 13 = .ok (.iload_n 2, 1) := by decide +kernel
theorem dX8_leastSet_14 : decode cX8_leastSet 14 = .ok (.if_icmp .eq 85, 3) := by decide +kernel
theorem dX8_leastSet_17 : decode cX8_leastSet 17 = .ok (.iload_n 3, 1) := by decide +kernel
theorem dX8_leastSet_18 : decode cX8_leastSet 18 = .ok (.iload_n 1, 1) := by decide +kernel
theorem dX8_leastSet_19 : decode cX8_leastSet 19 = .ok (.invokestatic 102, 3) := by decide +kernel
theorem dX8_leastSet_22 : decode cX8_leastSet 22 = .ok (.ifCond .eq 24, 3) := by decide +kernel
theorem dX8_leastSet_25 : decode cX8_leastSet 25 = .ok (.iload_n 3, 1) := by decide +kernel
theorem dX8_leastSet_26 : decode cX8_leastSet 26 = .ok (.iload_n 2, 1) := by decide +kernel
theorem dX8_leastSet_27 : decode cX8_leastSet 27 = .ok (.invokestatic 102, 3) := by decide +kernel
theorem dX8_leastSet_30 : decode cX8_leastSet 30 = .ok (.ifCond .ne 16, 3) := by decide +kernel
theorem dX8_leastSet_33 : decode cX8_leastSet 33 = .ok (.aload_n 0, 1) := by decide +kernel
theorem dX8_leastSet_34 : decode cX8_leastSet 34 = .ok (.iload_n 2, 1) := by decide +kernel
theorem dX8_leastSet_35 : decode cX8_leastSet 35 = .ok (.iload_n 3, 1) := by decide +kernel
theorem dX8_leastSet_36 : decode cX8_leastSet 36 = .ok (.invokevirtual 144, 3) := by decide +kernel
theorem dX8_leastSet_39 : decode cX8_leastSet 39 = .ok (.ifCond .eq 7, 3) := by decide +kernel
theorem dX8_leastSet_42 : decode cX8_leastSet 42 = .ok (.iconst 1, 1) := by decide +kernel
theorem dX8_leastSet_43 : decode cX8_leastSet 43 = .ok (.goto 4, 3) := by decide +kernel
theorem dX8_leastSet_46 : decode cX8_leastSet 46 = .ok (.iconst 0, 1) := by decide +kernel
theorem dX8_leastSet_47 : decode cX8_leastSet 47 = .ok (.istore 4, 2) := by decide +kernel
theorem dX8_leastSet_49 : decode cX8_leastSet 49 = .ok (.iload_n 3, 1) := by decide +kernel
theorem dX8_leastSet_50 : decode cX8_leastSet 50 = .ok (.iload_n 2, 1) := by decide +kernel
theorem dX8_leastSet_51 : decode cX8_leastSet 51 = .ok (.invokestatic 102, 3) := by decide +kernel
theorem dX8_leastSet_54 : decode cX8_leastSet 54 = .ok (.ifCond .eq 24, 3) := by decide +kernel
theorem dX8_leastSet_57 : decode cX8_leastSet 57 = .ok (.iload_n 3, 1) := by decide +kernel
theorem dX8_leastSet_58 : decode cX8_leastSet 58 = .ok (.iload_n 1, 1) := by decide +kernel
theorem dX8_leastSet_59 : decode cX8_leastSet 59 = .ok (.invokestatic 102, 3) := by decide +kernel
theorem dX8_leastSet_62 : decode cX8_leastSet 62 = .ok (.ifCond .ne 16, 3) := by decide +kernel
theorem dX8_leastSet_65 : decode cX8_leastSet 65 = .ok (.aload_n 0, 1) := by decide +kernel
theorem dX8_leastSet_66 : decode cX8_leastSet 66 = .ok (.iload_n 1, 1) := by decide +kernel
theorem dX8_leastSet_67 : decode cX8_leastSet 67 = .ok (.iload_n 3, 1) := by decide +kernel
theorem dX8_leastSet_68 : decode cX8_leastSet 68 = .ok (.invokevirtual 147, 3) := by decide +kernel
theorem dX8_leastSet_71 : decode cX8_leastSet 71 = .ok (.ifCond .eq 7, 3) := by decide +kernel
theorem dX8_leastSet_74 : decode cX8_leastSet 74 = .ok (.iconst 1, 1) := by decide +kernel
theorem dX8_leastSet_75 : decode cX8_leastSet 75 = .ok (.goto 4, 3) := by decide +kernel
theorem dX8_leastSet_78 : decode cX8_leastSet 78 = .ok (.iconst 0, 1) := by decide +kernel
theorem dX8_leastSet_79 : decode cX8_leastSet 79 = .ok (.istore 5, 2) := by decide +kernel
theorem dX8_leastSet_81 : decode cX8_leastSet 81 = .ok (.iload 4, 2) := by decide +kernel
theorem dX8_leastSet_83 : decode cX8_leastSet 83 = .ok (.ifCond .ne 8, 3) := by decide +kernel
theorem dX8_leastSet_86 : decode cX8_leastSet 86 = .ok (.iload 5, 2) := by decide +kernel
theorem dX8_leastSet_88 : decode cX8_leastSet 88 = .ok (.ifCond .eq 5, 3) := by decide +kernel
theorem dX8_leastSet_91 : decode cX8_leastSet 91 = .ok (.iload_n 3, 1) := by decide +kernel
theorem dX8_leastSet_92 : decode cX8_leastSet 92 = .ok (.ireturn, 1) := by decide +kernel
theorem dX8_leastSet_93 : decode cX8_leastSet 93 = .ok (.iinc 3 1, 3) := by decide +kernel
theorem dX8_leastSet_96 : decode cX8_leastSet 96 = .ok (.goto (-94), 3) := by decide +kernel
theorem dX8_leastSet_99 : decode cX8_leastSet 99 = .ok (.iconst (-1), 1) := by decide +kernel
theorem dX8_leastSet_100 : decode cX8_leastSet 100 = .ok (.ireturn, 1) := by decide +kernel
set_option maxRecDepth 20000 in
theorem ggX8_because_X8_whyNotTwo : GoodIn wsX8_because wsX8_whyNotTwo := goodIn_r _ [6, 7, 8, 9, 5, 10, 11, 12, 13, 14, 15, 16, 17, 18, 19, 20, 21, 22, 23, 24, 25, 26, 27, 28, 29, 30, 31, 32, 33, 34, 35, 36, 37, 38, 39, 40, 41, 42, 43, 44, 45, 46, 47, 48, 49, 50, 51, 52, 53, 54, 55, 56, 57, 58, 59, 60, 61, 62, 63, 64, 65, 66, 67, 68, 69, 70, 71, 72, 73, 78, 79, 80, 81, 82, 83, 84, 85, 86, 87, 88, 89, 90, 91, 92, 93, 94, 95, 96, 97, 98, 99, 100, 101, 102, 103, 104, 105, 106, 107] (by decide +kernel) (by decide +kernel)
set_option maxRecDepth 20000 in
theorem gX8_because_X8_whyNotTwo : GoodIn wsX8_because (wsV RX8 185 RX8 yX8_whyNotTwo wsX8_whyNotTwo) := goodIn_app (goodIn_of _ (by decide +kernel)) ggX8_because_X8_whyNotTwo
set_option maxRecDepth 20000 in
theorem ggX8_because_X8_leastSet : GoodIn wsX8_because wsX8_leastSet := goodIn_r _ [77, 11, 35, 36, 5, 37, 62, 63, 64, 65, 34, 31, 33, 32, 66, 67, 68, 69, 78, 79, 80, 81, 82, 83, 84, 85, 86, 87, 88, 89, 90, 91, 92, 93, 94, 95, 96, 97, 98, 99, 100, 101, 102, 103, 104, 105, 106, 107] (by decide +kernel) (by decide +kernel)
set_option maxRecDepth 20000 in
theorem gX8_because_X8_leastSet : GoodIn wsX8_because (wsV RX8 189 RX8 yX8_leastSet wsX8_leastSet) := goodIn_app (goodIn_of _ (by decide +kernel)) ggX8_because_X8_leastSet
theorem dX8_because_0 : decode cX8_because 0 = .ok (.aload_n 0, 1) := by decide +kernel
theorem dX8_because_1 : decode cX8_because 1 = .ok (.aload_n 0, 1) := by decide +kernel
theorem dX8_because_2 : decode cX8_because 2 = .ok (.iload_n 1, 1) := by decide +kernel
theorem dX8_because_3 : decode cX8_because 3 = .ok (.iload_n 2, 1) := by decide +kernel
theorem dX8_because_4 : decode cX8_because 4 = .ok (.invokevirtual 185, 3) := by decide +kernel
theorem dX8_because_7 : decode cX8_because 7 = .ok (.putfield 75, 3) := by decide +kernel
theorem dX8_because_10 : decode cX8_because 10 = .ok (.aload_n 0, 1) := by decide +kernel
theorem dX8_because_11 : decode cX8_because 11 = .ok (.getfield 75, 3) := by decide +kernel
theorem dX8_because_14 : decode cX8_because 14 = .ok (.ifCond .le 7, 3) := by decide +kernel
theorem dX8_because_17 : decode cX8_because 17 = .ok (.iconst 0, 1) := by decide +kernel
theorem dX8_because_18 : decode cX8_because 18 = .ok (.goto 9, 3) := by decide +kernel
theorem dX8_because_21 : decode cX8_because 21 = .ok (.aload_n 0, 1) := by decide +kernel
theorem dX8_because_22 : decode cX8_because 22 = .ok (.iload_n 1, 1) := by decide +kernel
theorem dX8_because_23 : decode cX8_because 23 = .ok (.iload_n 2, 1) := by decide +kernel
theorem dX8_because_24 : decode cX8_because 24 = .ok (.invokevirtual 189, 3) := by decide +kernel
theorem dX8_because_27 : decode cX8_because 27 = .ok (.ireturn, 1) := by decide +kernel
set_option maxRecDepth 20000 in
theorem ggX8_why_X8_whyNotTwo : GoodIn wsX8_why wsX8_whyNotTwo := goodIn_r _ [8, 9, 10, 11, 7, 12, 13, 14, 15, 16, 17, 18, 19, 20, 21, 2, 3, 22, 23, 24, 25, 26, 27, 28, 29, 30, 31, 32, 33, 34, 35, 36, 37, 38, 39, 40, 41, 42, 43, 44, 45, 46, 47, 48, 49, 50, 51, 52, 53, 54, 55, 56, 57, 58, 59, 60, 61, 62, 63, 64, 65, 66, 67, 68, 69, 70, 71, 72, 73, 78, 79, 80, 81, 82, 83, 84, 85, 86, 87, 88, 89, 90, 91, 92, 93, 94, 95, 96, 97, 98, 99, 100, 101, 102, 103, 104, 105, 106, 107] (by decide +kernel) (by decide +kernel)
set_option maxRecDepth 20000 in
theorem gX8_why_X8_whyNotTwo : GoodIn wsX8_why (wsV RX8 185 RX8 yX8_whyNotTwo wsX8_whyNotTwo) := goodIn_app (goodIn_of _ (by decide +kernel)) ggX8_why_X8_whyNotTwo
set_option maxRecDepth 20000 in
theorem ggX8_why_X8_has : GoodIn wsX8_why wsX8_has := goodIn_r _ [37] (by decide +kernel) (by decide +kernel)
set_option maxRecDepth 20000 in
theorem gX8_why_X8_has : GoodIn wsX8_why (va_wsS RX8 102 yX8_has wsX8_has) := goodIn_app (goodIn_of _ (by decide +kernel)) ggX8_why_X8_has
set_option maxRecDepth 20000 in
theorem ggX8_why_X8_tellsTwo : GoodIn wsX8_why wsX8_tellsTwo := goodIn_r _ [53, 30, 18, 29, 20, 78, 79, 80, 81, 82, 83, 84, 85, 86, 87, 88, 89, 90, 91, 92, 93, 94, 95, 96, 97, 98, 99, 100, 101, 102, 103, 104, 105, 106, 107] (by decide +kernel) (by decide +kernel)
set_option maxRecDepth 20000 in
theorem gX8_why_X8_tellsTwo : GoodIn wsX8_why (wsV RX8 141 RX8 yX8_tellsTwo wsX8_tellsTwo) := goodIn_app (goodIn_of _ (by decide +kernel)) ggX8_why_X8_tellsTwo
set_option maxRecDepth 20000 in
theorem ggX8_why_X8_leastSet : GoodIn wsX8_why wsX8_leastSet := goodIn_r _ [77, 13, 35, 36, 7, 37, 62, 63, 64, 65, 34, 31, 33, 32, 66, 67, 68, 69, 78, 79, 80, 81, 82, 83, 84, 85, 86, 87, 88, 89, 90, 91, 92, 93, 94, 95, 96, 97, 98, 99, 100, 101, 102, 103, 104, 105, 106, 107] (by decide +kernel) (by decide +kernel)
set_option maxRecDepth 20000 in
theorem gX8_why_X8_leastSet : GoodIn wsX8_why (wsV RX8 189 RX8 yX8_leastSet wsX8_leastSet) := goodIn_app (goodIn_of _ (by decide +kernel)) ggX8_why_X8_leastSet
theorem dX8_why_0 : decode cX8_why 0 = .ok (.aload_n 0, 1) := by decide +kernel
theorem dX8_why_1 : decode cX8_why 1 = .ok (.aload_n 0, 1) := by decide +kernel
theorem dX8_why_2 : decode cX8_why 2 = .ok (.iload_n 1, 1) := by decide +kernel
theorem dX8_why_3 : decode cX8_why 3 = .ok (.iload_n 2, 1) := by decide +kernel
theorem dX8_why_4 : decode cX8_why 4 = .ok (.invokevirtual 185, 3) := by decide +kernel
theorem dX8_why_7 : decode cX8_why 7 = .ok (.putfield 75, 3) := by decide +kernel
theorem dX8_why_10 : decode cX8_why 10 = .ok (.aload_n 0, 1) := by decide +kernel
theorem dX8_why_11 : decode cX8_why 11 = .ok (.getfield 75, 3) := by decide +kernel
theorem dX8_why_14 : decode cX8_why 14 = .ok (.ifCond .le 5, 3) := by decide +kernel
theorem dX8_why_17 : decode cX8_why 17 = .ok (.iconst 0, 1) := by decide +kernel
theorem dX8_why_18 : decode cX8_why 18 = .ok (.ireturn, 1) := by decide +kernel
theorem dX8_why_19 : decode cX8_why 19 = .ok (.iload_n 1, 1) := by decide +kernel
theorem dX8_why_20 : decode cX8_why 20 = .ok (.iload_n 2, 1) := by decide +kernel
theorem dX8_why_21 : decode cX8_why 21 = .ok (.if_icmp .eq 16, 3) := by decide +kernel
theorem dX8_why_24 : decode cX8_why 24 = .ok (.aload_n 0, 1) := by decide +kernel
theorem dX8_why_25 : decode cX8_why 25 = .ok (.getfield 41, 3) := by decide +kernel
theorem dX8_why_28 : decode cX8_why 28 = .ok (.iload_n 1, 1) := by decide +kernel
theorem dX8_why_29 : decode cX8_why 29 = .ok (.iaload, 1) := by decide +kernel
theorem dX8_why_30 : decode cX8_why 30 = .ok (.iload_n 2, 1) := by decide +kernel
theorem dX8_why_31 : decode cX8_why 31 = .ok (.invokestatic 102, 3) := by decide +kernel
theorem dX8_why_34 : decode cX8_why 34 = .ok (.ifCond .ne 5, 3) := by decide +kernel
theorem dX8_why_37 : decode cX8_why 37 = .ok (.iconst (-1), 1) := by decide +kernel
theorem dX8_why_38 : decode cX8_why 38 = .ok (.ireturn, 1) := by decide +kernel
theorem dX8_why_39 : decode cX8_why 39 = .ok (.aload_n 0, 1) := by decide +kernel
theorem dX8_why_40 : decode cX8_why 40 = .ok (.getfield 26, 3) := by decide +kernel
theorem dX8_why_43 : decode cX8_why 43 = .ok (.iload_n 1, 1) := by decide +kernel
theorem dX8_why_44 : decode cX8_why 44 = .ok (.iaload, 1) := by decide +kernel
theorem dX8_why_45 : decode cX8_why 45 = .ok (.iload_n 2, 1) := by decide +kernel
theorem dX8_why_46 : decode cX8_why 46 = .ok (.invokestatic 102, 3) := by decide +kernel
theorem dX8_why_49 : decode cX8_why 49 = .ok (.ifCond .eq 5, 3) := by decide +kernel
theorem dX8_why_52 : decode cX8_why 52 = .ok (.iconst 0, 1) := by decide +kernel
theorem dX8_why_53 : decode cX8_why 53 = .ok (.ireturn, 1) := by decide +kernel
theorem dX8_why_54 : decode cX8_why 54 = .ok (.aload_n 0, 1) := by decide +kernel
theorem dX8_why_55 : decode cX8_why 55 = .ok (.iload_n 1, 1) := by decide +kernel
theorem dX8_why_56 : decode cX8_why 56 = .ok (.iload_n 2, 1) := by decide +kernel
theorem dX8_why_57 : decode cX8_why 57 = .ok (.invokevirtual 141, 3) := by decide +kernel
theorem dX8_why_60 : decode cX8_why 60 = .ok (.ifCond .eq 5, 3) := by decide +kernel
theorem dX8_why_63 : decode cX8_why 63 = .ok (.iconst 1, 1) := by decide +kernel
theorem dX8_why_64 : decode cX8_why 64 = .ok (.ireturn, 1) := by decide +kernel
theorem dX8_why_65 : decode cX8_why 65 = .ok (.aload_n 0, 1) := by decide +kernel
theorem dX8_why_66 : decode cX8_why 66 = .ok (.iload_n 1, 1) := by decide +kernel
theorem dX8_why_67 : decode cX8_why 67 = .ok (.iload_n 2, 1) := by decide +kernel
theorem dX8_why_68 : decode cX8_why 68 = .ok (.invokevirtual 189, 3) := by decide +kernel
theorem dX8_why_71 : decode cX8_why 71 = .ok (.iconst (-1), 1) := by decide +kernel
theorem dX8_why_72 : decode cX8_why 72 = .ok (.if_icmp .ne 7, 3) := by decide +kernel
theorem dX8_why_75 : decode cX8_why 75 = .ok (.iconst 3, 1) := by decide +kernel
theorem dX8_why_76 : decode cX8_why 76 = .ok (.goto 4, 3) := by decide +kernel
theorem dX8_why_79 : decode cX8_why 79 = .ok (.iconst 2, 1) := by decide +kernel
theorem dX8_why_80 : decode cX8_why 80 = .ok (.ireturn, 1) := by decide +kernel
set_option maxRecDepth 20000 in
theorem ggX8_decided_X8_reason : GoodIn wsX8_decided wsX8_reason := goodIn_r _ [6, 7, 8, 9, 10, 11, 12, 13, 14, 15, 16, 17, 5, 18, 19, 20, 21, 22, 23, 24, 25, 26, 27, 28, 29, 30, 31, 32, 33, 34, 35, 36, 37, 38, 39, 40, 41, 42, 43, 44, 45, 46, 47, 48, 49, 50, 51, 52, 53, 54, 55, 56, 57, 58, 59, 60, 61, 62, 63, 64, 65, 74, 75, 76, 77, 78, 79, 80, 81, 82, 83, 84, 85, 86, 87, 88, 89, 90, 91, 92, 93, 94, 95, 96, 97, 98, 99, 100, 101, 102, 103] (by decide +kernel) (by decide +kernel)
set_option maxRecDepth 20000 in
theorem gX8_decided_X8_reason : GoodIn wsX8_decided (wsV RX8 173 RX8 yX8_reason wsX8_reason) := goodIn_app (goodIn_of _ (by decide +kernel)) ggX8_decided_X8_reason
set_option maxRecDepth 20000 in
theorem ggX8_decided_X8_pairsOnOne : GoodIn wsX8_decided wsX8_pairsOnOne := goodIn_r _ [69, 7, 22, 74, 75, 76, 77, 78, 79, 80, 81, 82, 83, 84, 85, 86, 87, 88, 89, 90, 91, 92, 93, 94, 95, 96, 97, 98, 99, 100, 101, 102, 103] (by decide +kernel) (by decide +kernel)
set_option maxRecDepth 20000 in
theorem gX8_decided_X8_pairsOnOne : GoodIn wsX8_decided (wsV RX8 170 RX8 yX8_pairsOnOne wsX8_pairsOnOne) := goodIn_app (goodIn_of _ (by decide +kernel)) ggX8_decided_X8_pairsOnOne
set_option maxRecDepth 20000 in
theorem ggX8_decided_X8_openPairs : GoodIn wsX8_decided wsX8_openPairs := goodIn_r _ [73, 7, 22, 12, 27, 28, 5, 29, 74, 75, 76, 77, 78, 79, 80, 81, 82, 83, 84, 85, 86, 87, 88, 89, 90, 91, 92, 93, 94, 95, 96, 97, 98, 99, 100, 101, 102, 103] (by decide +kernel) (by decide +kernel)
set_option maxRecDepth 20000 in
theorem gX8_decided_X8_openPairs : GoodIn wsX8_decided (wsV RX8 176 RX8 yX8_openPairs wsX8_openPairs) := goodIn_app (goodIn_of _ (by decide +kernel)) ggX8_decided_X8_openPairs
theorem dX8_decided_0 : decode cX8_decided 0 = .ok (.aload_n 0, 1) := by decide +kernel
theorem dX8_decided_1 : decode cX8_decided 1 = .ok (.aload_n 0, 1) := by decide +kernel
theorem dX8_decided_2 : decode cX8_decided 2 = .ok (.invokevirtual 173, 3) := by decide +kernel
theorem dX8_decided_5 : decode cX8_decided 5 = .ok (.ifCond .eq 7, 3) := by decide +kernel
theorem dX8_decided_8 : decode cX8_decided 8 = .ok (.iconst 0, 1) := by decide +kernel
theorem dX8_decided_9 : decode cX8_decided 9 = .ok (.goto 4, 3) := by decide +kernel
theorem dX8_decided_12 : decode cX8_decided 12 = .ok (.iconst 1, 1) := by decide +kernel
theorem dX8_decided_13 : decode cX8_decided 13 = .ok (.putfield 75, 3) := by decide +kernel
theorem dX8_decided_16 : decode cX8_decided 16 = .ok (.aload_n 0, 1) := by decide +kernel
theorem dX8_decided_17 : decode cX8_decided 17 = .ok (.getfield 75, 3) := by decide +kernel
theorem dX8_decided_20 : decode cX8_decided 20 = .ok (.ifCond .le 5, 3) := by decide +kernel
theorem dX8_decided_23 : decode cX8_decided 23 = .ok (.dconst 0, 1) := by decide +kernel
theorem dX8_decided_24 : decode cX8_decided 24 = .ok (.dreturn, 1) := by decide +kernel
theorem dX8_decided_25 : decode cX8_decided 25 = .ok (.aload_n 0, 1) := by decide +kernel
theorem dX8_decided_26 : decode cX8_decided 26 = .ok (.invokevirtual 170, 3) := by decide +kernel
theorem dX8_decided_29 : decode cX8_decided 29 = .ok (.istore_n 1, 1) := by decide +kernel
theorem dX8_decided_30 : decode cX8_decided 30 = .ok (.iload_n 1, 1) := by decide +kernel
theorem dX8_decided_31 : decode cX8_decided 31 = .ok (.ifCond .ne 7, 3) := by decide +kernel
theorem dX8_decided_34 : decode cX8_decided 34 = .ok (.dconst 1, 1) := by decide +kernel
theorem dX8_decided_35 : decode cX8_decided 35 = .ok (.goto 13, 3) := by decide +kernel
theorem dX8_decided_38 : decode cX8_decided 38 = .ok (.iload_n 1, 1) := by decide +kernel
theorem dX8_decided_39 : decode cX8_decided 39 = .ok (.aload_n 0, 1) := by decide +kernel
theorem dX8_decided_40 : decode cX8_decided 40 = .ok (.invokevirtual 176, 3) := by decide +kernel
theorem dX8_decided_43 : decode cX8_decided 43 = .ok (.isub, 1) := by decide +kernel
theorem dX8_decided_44 : decode cX8_decided 44 = .ok (.i2d, 1) := by decide +kernel
theorem dX8_decided_45 : decode cX8_decided 45 = .ok (.iload_n 1, 1) := by decide +kernel
theorem dX8_decided_46 : decode cX8_decided 46 = .ok (.i2d, 1) := by decide +kernel
theorem dX8_decided_47 : decode cX8_decided 47 = .ok (.ddiv, 1) := by decide +kernel
theorem dX8_decided_48 : decode cX8_decided 48 = .ok (.dreturn, 1) := by decide +kernel
set_option maxRecDepth 20000 in
theorem ggX8_planOf_X8_has : GoodIn wsX8_planOf wsX8_has := goodIn_r _ [12] (by decide +kernel) (by decide +kernel)
set_option maxRecDepth 20000 in
theorem gX8_planOf_X8_has : GoodIn wsX8_planOf (va_wsS RX8 102 yX8_has wsX8_has) := goodIn_app (goodIn_of _ (by decide +kernel)) ggX8_planOf_X8_has
theorem dX8_planOf_0 : decode cX8_planOf 0 = .ok (.iconst 0, 1) := by decide +kernel
theorem dX8_planOf_1 : decode cX8_planOf 1 = .ok (.istore_n 1, 1) := by decide +kernel
theorem dX8_planOf_2 : decode cX8_planOf 2 = .ok (.iconst 1, 1) := by decide +kernel
theorem dX8_planOf_3 : decode cX8_planOf 3 = .ok (.istore_n 2, 1) := by decide +kernel
theorem dX8_planOf_4 : decode cX8_planOf 4 = .ok (.iconst 0, 1) := by decide +kernel
theorem dX8_planOf_5 : decode cX8_planOf 5 = .ok (.istore_n 3, 1) := by decide +kernel
theorem dX8_planOf_6 : decode cX8_planOf 6 = .ok (.iload_n 3, 1) := by decide +kernel
theorem dX8_planOf_7 : decode cX8_planOf 7 = .ok (.aload_n 0, 1) := by decide +kernel
theorem dX8_planOf_8 : decode cX8_planOf 8 = .ok (.getfield 78, 3) := by decide +kernel
theorem dX8_planOf_11 : decode cX8_planOf 11 = .ok (.if_icmp .ge 195, 3) := by decide +kernel
theorem dX8_planOf_14 : decode cX8_planOf 14 = .ok (.aload_n 0, 1) := by decide +kernel
theorem dX8_planOf_15 : decode cX8_planOf 15 = .ok (.getfield 57, 3) := by decide +kernel
theorem dX8_planOf_18 : decode cX8_planOf 18 = .ok (.iload_n 3, 1) := by decide +kernel
theorem dX8_planOf_19 : decode cX8_planOf 19 = .ok (.iaload, 1) := by decide +kernel
theorem dX8_planOf_20 : decode cX8_planOf 20 = .ok (.istore 4, 2) := by decide +kernel
theorem dX8_planOf_22 : decode cX8_planOf 22 = .ok (.aload_n 0, 1) := by decide +kernel
theorem dX8_planOf_23 : decode cX8_planOf 23 = .ok (.getfield 17, 3) := by decide +kernel
theorem dX8_planOf_26 : decode cX8_planOf 26 = .ok (.iload 4, 2) := by decide +kernel
theorem dX8_planOf_28 : decode cX8_planOf 28 = .ok (.iaload, 1) := by decide +kernel
theorem dX8_planOf_29 : decode cX8_planOf 29 = .ok (.istore 5, 2) := by decide +kernel
theorem dX8_planOf_31 : decode cX8_planOf 31 = .ok (.iconst 0, 1) := by decide +kernel
theorem dX8_planOf_32 : decode cX8_planOf 32 = .ok (.istore 6, 2) := by decide +kernel
theorem dX8_planOf_34 : decode cX8_planOf 34 = .ok (.iload 6, 2) := by decide +kernel
theorem dX8_planOf_36 : decode cX8_planOf 36 = .ok (.iload_n 3, 1) := by decide +kernel
theorem dX8_planOf_37 : decode cX8_planOf 37 = .ok (.if_icmp .ge 95, 3) := by decide +kernel
theorem dX8_planOf_40 : decode cX8_planOf 40 = .ok (.aload_n 0, 1) := by decide +kernel
theorem dX8_planOf_41 : decode cX8_planOf 41 = .ok (.getfield 57, 3) := by decide +kernel
theorem dX8_planOf_44 : decode cX8_planOf 44 = .ok (.iload 6, 2) := by decide +kernel
theorem dX8_planOf_46 : decode cX8_planOf 46 = .ok (.iaload, 1) := by decide +kernel
theorem dX8_planOf_47 : decode cX8_planOf 47 = .ok (.istore 7, 2) := by decide +kernel
theorem dX8_planOf_49 : decode cX8_planOf 49 = .ok (.aload_n 0, 1) := by decide +kernel
theorem dX8_planOf_50 : decode cX8_planOf 50 = .ok (.getfield 63, 3) := by decide +kernel
theorem dX8_planOf_53 : decode cX8_planOf 53 = .ok (.iload 7, 2) := by decide +kernel
theorem dX8_planOf_55 : decode cX8_planOf 55 = .ok (.iaload, 1) := by decide +kernel
theorem dX8_planOf_56 : decode cX8_planOf 56 = .ok (.aload_n 0, 1) := by decide +kernel
theorem dX8_planOf_57 : decode cX8_planOf 57 = .ok (.getfield 23, 3) := by decide +kernel
theorem dX8_planOf_60 : decode cX8_planOf 60 = .ok (.iload 7, 2) := by decide +kernel
theorem dX8_planOf_62 : decode cX8_planOf 62 = .ok (.iaload, 1) := by decide +kernel
theorem dX8_planOf_63 : decode cX8_planOf 63 = .ok (.iadd, 1) := by decide +kernel
theorem dX8_planOf_64 : decode cX8_planOf 64 = .ok (.istore 8, 2) := by decide +kernel
theorem dX8_planOf_66 : decode cX8_planOf 66 = .ok (.aload_n 0, 1) := by decide +kernel
theorem dX8_planOf_67 : decode cX8_planOf 67 = .ok (.getfield 13, 3) := by decide +kernel
theorem dX8_planOf_70 : decode cX8_planOf 70 = .ok (.iload 7, 2) := by decide +kernel
theorem dX8_planOf_72 : decode cX8_planOf 72 = .ok (.iaload, 1) := by decide +kernel
theorem dX8_planOf_73 : decode cX8_planOf 73 = .ok (.aload_n 0, 1) := by decide +kernel
theorem dX8_planOf_74 : decode cX8_planOf 74 = .ok (.getfield 13, 3) := by decide +kernel
theorem dX8_planOf_77 : decode cX8_planOf 77 = .ok (.iload 4, 2) := by decide +kernel
theorem dX8_planOf_79 : decode cX8_planOf 79 = .ok (.iaload, 1) := by decide +kernel
theorem dX8_planOf_80 : decode cX8_planOf 80 = .ok (.if_icmp .eq 18, 3) := by decide +kernel
theorem dX8_planOf_83 : decode cX8_planOf 83 = .ok (.aload_n 0, 1) := by decide +kernel
theorem dX8_planOf_84 : decode cX8_planOf 84 = .ok (.getfield 26, 3) := by decide +kernel
theorem dX8_planOf_87 : decode cX8_planOf 87 = .ok (.iload 7, 2) := by decide +kernel
theorem dX8_planOf_89 : decode cX8_planOf 89 = .ok (.iaload, 1) := by decide +kernel
theorem dX8_planOf_90 : decode cX8_planOf 90 = .ok (.iload 4, 2) := by decide +kernel
theorem dX8_planOf_92 : decode cX8_planOf 92 = .ok (.invokestatic 102, 3) := by decide +kernel
theorem dX8_planOf_95 : decode cX8_planOf 95 = .ok (.ifCond .eq 7, 3) := by decide +kernel
theorem dX8_planOf_98 : decode cX8_planOf 98 = .ok (.iconst 1, 1) := by decide +kernel
theorem dX8_planOf_99 : decode cX8_planOf 99 = .ok (.goto 4, 3) := by decide +kernel
theorem dX8_planOf_102 : decode cX8_planOf 102 = .ok (.iconst 0, 1) := by decide +kernel
theorem dX8_planOf_103 : decode cX8_planOf 103 = .ok (.istore 9, 2) := by decide +kernel
theorem dX8_planOf_105 : decode cX8_planOf 105 = .ok (.iload 9, 2) := by decide +kernel
theorem dX8_planOf_107 : decode cX8_planOf 107 = .ok (.ifCond .eq 15, 3) := by decide +kernel
theorem dX8_planOf_110 : decode cX8_planOf 110 = .ok (.iload 8, 2) := by decide +kernel
theorem dX8_planOf_112 : decode cX8_planOf 112 = .ok (.iload 5, 2) := by decide +kernel
theorem dX8_planOf_114 : decode cX8_planOf 114 = .ok (.if_icmp .le 8, 3) := by decide +kernel
theorem dX8_planOf_117 : decode cX8_planOf 117 = .ok (.iload 8, 2) := by decide +kernel
theorem dX8_planOf_119 : decode cX8_planOf 119 = .ok (.goto 5, 3) := by decide +kernel
theorem dX8_planOf_122 : decode cX8_planOf 122 = .ok (.iload 5, 2) := by decide +kernel
theorem dX8_planOf_124 : decode cX8_planOf 124 = .ok (.istore 5, 2) := by decide +kernel
theorem dX8_planOf_126 : decode cX8_planOf 126 = .ok (.iinc 6 1, 3) := by decide +kernel
theorem dX8_planOf_129 : decode cX8_planOf 129 = .ok (.goto (-95), 3) := by decide +kernel
theorem dX8_planOf_132 : decode cX8_planOf 132 = .ok (.aload_n 0, 1) := by decide +kernel
theorem dX8_planOf_133 : decode cX8_planOf 133 = .ok (.getfield 63, 3) := by decide +kernel
theorem dX8_planOf_136 : decode cX8_planOf 136 = .ok (.iload 4, 2) := by decide +kernel
theorem dX8_planOf_138 : decode cX8_planOf 138 = .ok (.iload 5, 2) := by decide +kernel
theorem dX8_planOf_140 : decode cX8_planOf 140 = .ok (.iastore, 1) := by decide +kernel
theorem dX8_planOf_141 : decode cX8_planOf 141 = .ok (.iload_n 2, 1) := by decide +kernel
theorem dX8_planOf_142 : decode cX8_planOf 142 = .ok (.ifCond .eq 27, 3) := by decide +kernel
theorem dX8_planOf_145 : decode cX8_planOf 145 = .ok (.iload 5, 2) := by decide +kernel
theorem dX8_planOf_147 : decode cX8_planOf 147 = .ok (.aload_n 0, 1) := by decide +kernel
theorem dX8_planOf_148 : decode cX8_planOf 148 = .ok (.getfield 23, 3) := by decide +kernel
theorem dX8_planOf_151 : decode cX8_planOf 151 = .ok (.iload 4, 2) := by decide +kernel
theorem dX8_planOf_153 : decode cX8_planOf 153 = .ok (.iaload, 1) := by decide +kernel
theorem dX8_planOf_154 : decode cX8_planOf 154 = .ok (.iadd, 1) := by decide +kernel
theorem dX8_planOf_155 : decode cX8_planOf 155 = .ok (.aload_n 0, 1) := by decide +kernel
theorem dX8_planOf_156 : decode cX8_planOf 156 = .ok (.getfield 20, 3) := by decide +kernel
theorem dX8_planOf_159 : decode cX8_planOf 159 = .ok (.iload 4, 2) := by decide +kernel
theorem dX8_planOf_161 : decode cX8_planOf 161 = .ok (.iaload, 1) := by decide +kernel
theorem dX8_planOf_162 : decode cX8_planOf 162 = .ok (.if_icmp .gt 7, 3) := by decide +kernel
theorem dX8_planOf_165 : decode cX8_planOf 165 = .ok (.iconst 1, 1) := by decide +kernel
theorem dX8_planOf_166 : decode cX8_planOf 166 = .ok (.goto 4, 3) := by decide +kernel
theorem dX8_planOf_169 : decode cX8_planOf 169 = .ok (.iconst 0, 1) := by decide +kernel
theorem dX8_planOf_170 : decode cX8_planOf 170 = .ok (.istore_n 2, 1) := by decide +kernel
theorem dX8_planOf_171 : decode cX8_planOf 171 = .ok (.iload 5, 2) := by decide +kernel
theorem dX8_planOf_173 : decode cX8_planOf 173 = .ok (.aload_n 0, 1) := by decide +kernel
theorem dX8_planOf_174 : decode cX8_planOf 174 = .ok (.getfield 23, 3) := by decide +kernel
theorem dX8_planOf_177 : decode cX8_planOf 177 = .ok (.iload 4, 2) := by decide +kernel
theorem dX8_planOf_179 : decode cX8_planOf 179 = .ok (.iaload, 1) := by decide +kernel
theorem dX8_planOf_180 : decode cX8_planOf 180 = .ok (.iadd, 1) := by decide +kernel
theorem dX8_planOf_181 : decode cX8_planOf 181 = .ok (.iload_n 1, 1) := by decide +kernel
theorem dX8_planOf_182 : decode cX8_planOf 182 = .ok (.if_icmp .le 16, 3) := by decide +kernel
theorem dX8_planOf_185 : decode cX8_planOf 185 = .ok (.iload 5, 2) := by decide +kernel
theorem dX8_planOf_187 : decode cX8_planOf 187 = .ok (.aload_n 0, 1) := by decide +kernel
theorem dX8_planOf_188 : decode cX8_planOf 188 = .ok (.getfield 23, 3) := by decide +kernel
theorem dX8_planOf_191 : decode cX8_planOf 191 = .ok (.iload 4, 2) := by decide +kernel
theorem dX8_planOf_193 : decode cX8_planOf 193 = .ok (.iaload, 1) := by decide +kernel
theorem dX8_planOf_194 : decode cX8_planOf 194 = .ok (.iadd, 1) := by decide +kernel
theorem dX8_planOf_195 : decode cX8_planOf 195 = .ok (.goto 4, 3) := by decide +kernel
theorem dX8_planOf_198 : decode cX8_planOf 198 = .ok (.iload_n 1, 1) := by decide +kernel
theorem dX8_planOf_199 : decode cX8_planOf 199 = .ok (.istore_n 1, 1) := by decide +kernel
theorem dX8_planOf_200 : decode cX8_planOf 200 = .ok (.iinc 3 1, 3) := by decide +kernel
theorem dX8_planOf_203 : decode cX8_planOf 203 = .ok (.goto (-197), 3) := by decide +kernel
theorem dX8_planOf_206 : decode cX8_planOf 206 = .ok (.iload_n 2, 1) := by decide +kernel
theorem dX8_planOf_207 : decode cX8_planOf 207 = .ok (.ifCond .eq 7, 3) := by decide +kernel
theorem dX8_planOf_210 : decode cX8_planOf 210 = .ok (.iload_n 1, 1) := by decide +kernel
theorem dX8_planOf_211 : decode cX8_planOf 211 = .ok (.goto 4, 3) := by decide +kernel
theorem dX8_planOf_214 : decode cX8_planOf 214 = .ok (.iconst (-1), 1) := by decide +kernel
theorem dX8_planOf_215 : decode cX8_planOf 215 = .ok (.ireturn, 1) := by decide +kernel
set_option maxRecDepth 20000 in
theorem ggX8_canStand_X8_has : GoodIn wsX8_canStand wsX8_has := goodIn_r _ [5] (by decide +kernel) (by decide +kernel)
set_option maxRecDepth 20000 in
theorem gX8_canStand_X8_has : GoodIn wsX8_canStand (va_wsS RX8 102 yX8_has wsX8_has) := goodIn_app (goodIn_of _ (by decide +kernel)) ggX8_canStand_X8_has
set_option maxRecDepth 20000 in
theorem ggX8_canStand_X8_givenTo : GoodIn wsX8_canStand wsX8_givenTo := goodIn_r _ [9, 10, 11, 2, 3, 4, 5, 12, 13, 14, 15, 16, 17, 18, 19, 20, 21, 22, 23, 24, 25, 26, 27, 28, 29, 30, 31, 32, 33, 34, 35, 36, 37, 38, 39, 40, 41] (by decide +kernel) (by decide +kernel)
set_option maxRecDepth 20000 in
theorem gX8_canStand_X8_givenTo : GoodIn wsX8_canStand (wsV RX8 125 RX8 yX8_givenTo wsX8_givenTo) := goodIn_app (goodIn_of _ (by decide +kernel)) ggX8_canStand_X8_givenTo
theorem dX8_canStand_0 : decode cX8_canStand 0 = .ok (.iconst 0, 1) := by decide +kernel
theorem dX8_canStand_1 : decode cX8_canStand 1 = .ok (.istore_n 3, 1) := by decide +kernel
theorem dX8_canStand_2 : decode cX8_canStand 2 = .ok (.iconst 0, 1) := by decide +kernel
theorem dX8_canStand_3 : decode cX8_canStand 3 = .ok (.istore 4, 2) := by decide +kernel
theorem dX8_canStand_5 : decode cX8_canStand 5 = .ok (.iload 4, 2) := by decide +kernel
theorem dX8_canStand_7 : decode cX8_canStand 7 = .ok (.iload_n 1, 1) := by decide +kernel
theorem dX8_canStand_8 : decode cX8_canStand 8 = .ok (.if_icmp .ge 21, 3) := by decide +kernel
theorem dX8_canStand_11 : decode cX8_canStand 11 = .ok (.iload_n 3, 1) := by decide +kernel
theorem dX8_canStand_12 : decode cX8_canStand 12 = .ok (.iconst 1, 1) := by decide +kernel
theorem dX8_canStand_13 : decode cX8_canStand 13 = .ok (.aload_n 0, 1) := by decide +kernel
theorem dX8_canStand_14 : decode cX8_canStand 14 = .ok (.getfield 57, 3) := by decide +kernel
theorem dX8_canStand_17 : decode cX8_canStand 17 = .ok (.iload 4, 2) := by decide +kernel
theorem dX8_canStand_19 : decode cX8_canStand 19 = .ok (.iaload, 1) := by decide +kernel
theorem dX8_canStand_20 : decode cX8_canStand 20 = .ok (.ishl, 1) := by decide +kernel
theorem dX8_canStand_21 : decode cX8_canStand 21 = .ok (.ior, 1) := by decide +kernel
theorem dX8_canStand_22 : decode cX8_canStand 22 = .ok (.istore_n 3, 1) := by decide +kernel
theorem dX8_canStand_23 : decode cX8_canStand 23 = .ok (.iinc 4 1, 3) := by decide +kernel
theorem dX8_canStand_26 : decode cX8_canStand 26 = .ok (.goto (-21), 3) := by decide +kernel
theorem dX8_canStand_29 : decode cX8_canStand 29 = .ok (.iload_n 3, 1) := by decide +kernel
theorem dX8_canStand_30 : decode cX8_canStand 30 = .ok (.iload_n 2, 1) := by decide +kernel
theorem dX8_canStand_31 : decode cX8_canStand 31 = .ok (.invokestatic 102, 3) := by decide +kernel
theorem dX8_canStand_34 : decode cX8_canStand 34 = .ok (.ifCond .ne 19, 3) := by decide +kernel
theorem dX8_canStand_37 : decode cX8_canStand 37 = .ok (.aload_n 0, 1) := by decide +kernel
theorem dX8_canStand_38 : decode cX8_canStand 38 = .ok (.iload_n 2, 1) := by decide +kernel
theorem dX8_canStand_39 : decode cX8_canStand 39 = .ok (.invokevirtual 125, 3) := by decide +kernel
theorem dX8_canStand_42 : decode cX8_canStand 42 = .ok (.iload_n 3, 1) := by decide +kernel
theorem dX8_canStand_43 : decode cX8_canStand 43 = .ok (.iconst (-1), 1) := by decide +kernel
theorem dX8_canStand_44 : decode cX8_canStand 44 = .ok (.ixor, 1) := by decide +kernel
theorem dX8_canStand_45 : decode cX8_canStand 45 = .ok (.iand, 1) := by decide +kernel
theorem dX8_canStand_46 : decode cX8_canStand 46 = .ok (.ifCond .ne 7, 3) := by decide +kernel
theorem dX8_canStand_49 : decode cX8_canStand 49 = .ok (.iconst 1, 1) := by decide +kernel
theorem dX8_canStand_50 : decode cX8_canStand 50 = .ok (.goto 4, 3) := by decide +kernel
theorem dX8_canStand_53 : decode cX8_canStand 53 = .ok (.iconst 0, 1) := by decide +kernel
theorem dX8_canStand_54 : decode cX8_canStand 54 = .ok (.ireturn, 1) := by decide +kernel
set_option maxRecDepth 20000 in
theorem ggX8_best_X8_canStand : GoodIn wsX8_best wsX8_canStand := goodIn_r _ [7, 1, 8, 9, 6, 10, 11, 12, 13, 14, 2, 15, 31, 32, 33, 34, 35, 36, 37, 38, 39, 40, 41, 42, 43, 44, 45, 46, 47, 48, 49, 50, 51, 52, 53, 54, 55, 56, 57, 58, 59, 60] (by decide +kernel) (by decide +kernel)
set_option maxRecDepth 20000 in
theorem gX8_best_X8_canStand : GoodIn wsX8_best (wsV RX8 192 RX8 yX8_canStand wsX8_canStand) := goodIn_app (goodIn_of _ (by decide +kernel)) ggX8_best_X8_canStand
set_option maxRecDepth 20000 in
theorem ggX8_best_X8_planOf : GoodIn wsX8_best wsX8_planOf := goodIn_r _ [19, 2, 1, 20, 21, 22, 23, 15, 24, 8, 9, 6, 10, 31, 32, 33, 34, 35, 36, 37, 38, 39, 40, 41, 42, 43, 44, 45, 46, 47, 48, 49, 50, 51, 52, 53, 54, 55, 56, 57, 58, 59, 60] (by decide +kernel) (by decide +kernel)
set_option maxRecDepth 20000 in
theorem gX8_best_X8_planOf : GoodIn wsX8_best (wsV RX8 195 RX8 yX8_planOf wsX8_planOf) := goodIn_app (goodIn_of _ (by decide +kernel)) ggX8_best_X8_planOf
set_option maxRecDepth 20000 in
theorem ggX8_best_X8_keepRow : GoodIn wsX8_best wsX8_keepRow := goodIn_r _ [28, 2, 29, 1, 30, 21, 31, 32, 33, 34, 35, 36, 37, 38, 39, 40, 41, 42, 43, 44, 45, 46, 47, 48, 49, 50, 51, 52, 53, 54, 55, 56, 57, 58, 59, 60] (by decide +kernel) (by decide +kernel)
set_option maxRecDepth 20000 in
theorem gX8_best_X8_keepRow : GoodIn wsX8_best (wsV RX8 198 RX8 yX8_keepRow wsX8_keepRow) := goodIn_app (goodIn_of _ (by decide +kernel)) ggX8_best_X8_keepRow
theorem dX8_best_0 : decode cX8_best 0 = .ok (.iconst (-1), 1) := by decide +kernel
theorem dX8_best_1 : decode cX8_best 1 = .ok (.istore_n 1, 1) := by decide +kernel
theorem dX8_best_2 : decode cX8_best 2 = .ok (.iconst 0, 1) := by decide +kernel
theorem dX8_best_3 : decode cX8_best 3 = .ok (.istore_n 2, 1) := by decide +kernel
theorem dX8_best_4 : decode cX8_best 4 = .ok (.aload_n 0, 1) := by decide +kernel
theorem dX8_best_5 : decode cX8_best 5 = .ok (.getfield 57, 3) := by decide +kernel
theorem dX8_best_8 : decode cX8_best 8 = .ok (.iconst 0, 1) := by decide +kernel
theorem dX8_best_9 : decode cX8_best 9 = .ok (.iconst (-1), 1) := by decide +kernel
theorem dX8_best_10 : decode cX8_best 10 = .ok (.iastore, 1) := by decide +kernel
theorem dX8_best_11 : decode cX8_best 11 = .ok (.aload_n 0, 1) := by decide +kernel
theorem dX8_best_12 : decode cX8_best 12 = .ok (.getfield 78, 3) := by decide +kernel
theorem dX8_best_15 : decode cX8_best 15 = .ok (.ifCond .ne 5, 3) := by decide +kernel
theorem dX8_best_18 : decode cX8_best 18 = .ok (.iconst 0, 1) := by decide +kernel
theorem dX8_best_19 : decode cX8_best 19 = .ok (.ireturn, 1) := by decide +kernel
theorem dX8_best_20 : decode cX8_best 20 = .ok (.iload_n 2, 1) := by decide +kernel
theorem dX8_best_21 : decode cX8_best 21 = .ok (.ifCond .lt 124, 3) := by decide +kernel
theorem dX8_best_24 : decode cX8_best 24 = .ok (.aload_n 0, 1) := by decide +kernel
theorem dX8_best_25 : decode cX8_best 25 = .ok (.getfield 57, 3) := by decide +kernel
theorem dX8_best_28 : decode cX8_best 28 = .ok (.iload_n 2, 1) := by decide +kernel
theorem dX8_best_29 : decode cX8_best 29 = .ok (.dup2, 1) := by decide +kernel
theorem dX8_best_30 : decode cX8_best 30 = .ok (.iaload, 1) := by decide +kernel
theorem dX8_best_31 : decode cX8_best 31 = .ok (.iconst 1, 1) := by decide +kernel
theorem dX8_best_32 : decode cX8_best 32 = .ok (.iadd, 1) := by decide +kernel
theorem dX8_best_33 : decode cX8_best 33 = .ok (.iastore, 1) := by decide +kernel
theorem dX8_best_34 : decode cX8_best 34 = .ok (.aload_n 0, 1) := by decide +kernel
theorem dX8_best_35 : decode cX8_best 35 = .ok (.getfield 57, 3) := by decide +kernel
theorem dX8_best_38 : decode cX8_best 38 = .ok (.iload_n 2, 1) := by decide +kernel
theorem dX8_best_39 : decode cX8_best 39 = .ok (.iaload, 1) := by decide +kernel
theorem dX8_best_40 : decode cX8_best 40 = .ok (.aload_n 0, 1) := by decide +kernel
theorem dX8_best_41 : decode cX8_best 41 = .ok (.getfield 78, 3) := by decide +kernel
theorem dX8_best_44 : decode cX8_best 44 = .ok (.if_icmp .ge 30, 3) := by decide +kernel
theorem dX8_best_47 : decode cX8_best 47 = .ok (.aload_n 0, 1) := by decide +kernel
theorem dX8_best_48 : decode cX8_best 48 = .ok (.iload_n 2, 1) := by decide +kernel
theorem dX8_best_49 : decode cX8_best 49 = .ok (.aload_n 0, 1) := by decide +kernel
theorem dX8_best_50 : decode cX8_best 50 = .ok (.getfield 57, 3) := by decide +kernel
theorem dX8_best_53 : decode cX8_best 53 = .ok (.iload_n 2, 1) := by decide +kernel
theorem dX8_best_54 : decode cX8_best 54 = .ok (.iaload, 1) := by decide +kernel
theorem dX8_best_55 : decode cX8_best 55 = .ok (.invokevirtual 192, 3) := by decide +kernel
theorem dX8_best_58 : decode cX8_best 58 = .ok (.ifCond .ne 16, 3) := by decide +kernel
theorem dX8_best_61 : decode cX8_best 61 = .ok (.aload_n 0, 1) := by decide +kernel
theorem dX8_best_62 : decode cX8_best 62 = .ok (.getfield 57, 3) := by decide +kernel
theorem dX8_best_65 : decode cX8_best 65 = .ok (.iload_n 2, 1) := by decide +kernel
theorem dX8_best_66 : decode cX8_best 66 = .ok (.dup2, 1) := by decide +kernel
theorem dX8_best_67 : decode cX8_best 67 = .ok (.iaload, 1) := by decide +kernel
theorem dX8_best_68 : decode cX8_best 68 = .ok (.iconst 1, 1) := by decide +kernel
theorem dX8_best_69 : decode cX8_best 69 = .ok (.iadd, 1) := by decide +kernel
theorem dX8_best_70 : decode cX8_best 70 = .ok (.iastore, 1) := by decide +kernel
theorem dX8_best_71 : decode cX8_best 71 = .ok (.goto (-37), 3) := by decide +kernel
theorem dX8_best_74 : decode cX8_best 74 = .ok (.aload_n 0, 1) := by decide +kernel
theorem dX8_best_75 : decode cX8_best 75 = .ok (.getfield 57, 3) := by decide +kernel
theorem dX8_best_78 : decode cX8_best 78 = .ok (.iload_n 2, 1) := by decide +kernel
theorem dX8_best_79 : decode cX8_best 79 = .ok (.iaload, 1) := by decide +kernel
theorem dX8_best_80 : decode cX8_best 80 = .ok (.aload_n 0, 1) := by decide +kernel
theorem dX8_best_81 : decode cX8_best 81 = .ok (.getfield 78, 3) := by decide +kernel
theorem dX8_best_84 : decode cX8_best 84 = .ok (.if_icmp .ne 9, 3) := by decide +kernel
theorem dX8_best_87 : decode cX8_best 87 = .ok (.iinc 2 (-1), 3) := by decide +kernel
theorem dX8_best_90 : decode cX8_best 90 = .ok (.goto (-70), 3) := by decide +kernel
theorem dX8_best_93 : decode cX8_best 93 = .ok (.iload_n 2, 1) := by decide +kernel
theorem dX8_best_94 : decode cX8_best 94 = .ok (.iconst 1, 1) := by decide +kernel
theorem dX8_best_95 : decode cX8_best 95 = .ok (.iadd, 1) := by decide +kernel
theorem dX8_best_96 : decode cX8_best 96 = .ok (.aload_n 0, 1) := by decide +kernel
theorem dX8_best_97 : decode cX8_best 97 = .ok (.getfield 78, 3) := by decide +kernel
theorem dX8_best_100 : decode cX8_best 100 = .ok (.if_icmp .ge 16, 3) := by decide +kernel
theorem dX8_best_103 : decode cX8_best 103 = .ok (.iinc 2 1, 3) := by decide +kernel
theorem dX8_best_106 : decode cX8_best 106 = .ok (.aload_n 0, 1) := by decide +kernel
theorem dX8_best_107 : decode cX8_best 107 = .ok (.getfield 57, 3) := by decide +kernel
theorem dX8_best_110 : decode cX8_best 110 = .ok (.iload_n 2, 1) := by decide +kernel
theorem dX8_best_111 : decode cX8_best 111 = .ok (.iconst (-1), 1) := by decide +kernel
theorem dX8_best_112 : decode cX8_best 112 = .ok (.iastore, 1) := by decide +kernel
theorem dX8_best_113 : decode cX8_best 113 = .ok (.goto (-93), 3) := by decide +kernel
theorem dX8_best_116 : decode cX8_best 116 = .ok (.aload_n 0, 1) := by decide +kernel
theorem dX8_best_117 : decode cX8_best 117 = .ok (.invokevirtual 195, 3) := by decide +kernel
theorem dX8_best_120 : decode cX8_best 120 = .ok (.istore_n 3, 1) := by decide +kernel
theorem dX8_best_121 : decode cX8_best 121 = .ok (.iload_n 3, 1) := by decide +kernel
theorem dX8_best_122 : decode cX8_best 122 = .ok (.iconst (-1), 1) := by decide +kernel
theorem dX8_best_123 : decode cX8_best 123 = .ok (.if_icmp .eq 19, 3) := by decide +kernel
theorem dX8_best_126 : decode cX8_best 126 = .ok (.iload_n 1, 1) := by decide +kernel
theorem dX8_best_127 : decode cX8_best 127 = .ok (.iconst (-1), 1) := by decide +kernel
theorem dX8_best_128 : decode cX8_best 128 = .ok (.if_icmp .eq 8, 3) := by decide +kernel
theorem dX8_best_131 : decode cX8_best 131 = .ok (.iload_n 3, 1) := by decide +kernel
theorem dX8_best_132 : decode cX8_best 132 = .ok (.iload_n 1, 1) := by decide +kernel
theorem dX8_best_133 : decode cX8_best 133 = .ok (.if_icmp .ge 9, 3) := by decide +kernel
theorem dX8_best_136 : decode cX8_best 136 = .ok (.iload_n 3, 1) := by decide +kernel
theorem dX8_best_137 : decode cX8_best 137 = .ok (.istore_n 1, 1) := by decide +kernel
theorem dX8_best_138 : decode cX8_best 138 = .ok (.aload_n 0, 1) := by decide +kernel
theorem dX8_best_139 : decode cX8_best 139 = .ok (.invokevirtual 198, 3) := by decide +kernel
theorem dX8_best_142 : decode cX8_best 142 = .ok (.goto (-122), 3) := by decide +kernel
theorem dX8_best_145 : decode cX8_best 145 = .ok (.iload_n 1, 1) := by decide +kernel
theorem dX8_best_146 : decode cX8_best 146 = .ok (.ireturn, 1) := by decide +kernel
theorem dX8_keepRow_0 : decode cX8_keepRow 0 = .ok (.iconst 0, 1) := by decide +kernel
theorem dX8_keepRow_1 : decode cX8_keepRow 1 = .ok (.istore_n 1, 1) := by decide +kernel
theorem dX8_keepRow_2 : decode cX8_keepRow 2 = .ok (.iload_n 1, 1) := by decide +kernel
theorem dX8_keepRow_3 : decode cX8_keepRow 3 = .ok (.aload_n 0, 1) := by decide +kernel
theorem dX8_keepRow_4 : decode cX8_keepRow 4 = .ok (.getfield 78, 3) := by decide +kernel
theorem dX8_keepRow_7 : decode cX8_keepRow 7 = .ok (.if_icmp .ge 33, 3) := by decide +kernel
theorem dX8_keepRow_10 : decode cX8_keepRow 10 = .ok (.aload_n 0, 1) := by decide +kernel
theorem dX8_keepRow_11 : decode cX8_keepRow 11 = .ok (.getfield 60, 3) := by decide +kernel
theorem dX8_keepRow_14 : decode cX8_keepRow 14 = .ok (.iload_n 1, 1) := by decide +kernel
theorem dX8_keepRow_15 : decode cX8_keepRow 15 = .ok (.aload_n 0, 1) := by decide +kernel
theorem dX8_keepRow_16 : decode cX8_keepRow 16 = .ok (.getfield 57, 3) := by decide +kernel
theorem dX8_keepRow_19 : decode cX8_keepRow 19 = .ok (.iload_n 1, 1) := by decide +kernel
theorem dX8_keepRow_20 : decode cX8_keepRow 20 = .ok (.iaload, 1) := by decide +kernel
theorem dX8_keepRow_21 : decode cX8_keepRow 21 = .ok (.iastore, 1) := by decide +kernel
theorem dX8_keepRow_22 : decode cX8_keepRow 22 = .ok (.aload_n 0, 1) := by decide +kernel
theorem dX8_keepRow_23 : decode cX8_keepRow 23 = .ok (.getfield 66, 3) := by decide +kernel
theorem dX8_keepRow_26 : decode cX8_keepRow 26 = .ok (.iload_n 1, 1) := by decide +kernel
theorem dX8_keepRow_27 : decode cX8_keepRow 27 = .ok (.aload_n 0, 1) := by decide +kernel
theorem dX8_keepRow_28 : decode cX8_keepRow 28 = .ok (.getfield 63, 3) := by decide +kernel
theorem dX8_keepRow_31 : decode cX8_keepRow 31 = .ok (.iload_n 1, 1) := by decide +kernel
theorem dX8_keepRow_32 : decode cX8_keepRow 32 = .ok (.iaload, 1) := by decide +kernel
theorem dX8_keepRow_33 : decode cX8_keepRow 33 = .ok (.iastore, 1) := by decide +kernel
theorem dX8_keepRow_34 : decode cX8_keepRow 34 = .ok (.iinc 1 1, 3) := by decide +kernel
theorem dX8_keepRow_37 : decode cX8_keepRow 37 = .ok (.goto (-35), 3) := by decide +kernel
theorem dX8_keepRow_40 : decode cX8_keepRow 40 = .ok (.return_, 1) := by decide +kernel
set_option maxRecDepth 20000 in
theorem ggX8_makespan_X8_best : GoodIn wsX8_makespan wsX8_best := goodIn_r _ [6, 7, 8, 9, 10, 11, 5, 12, 13, 14, 15, 16, 17, 18, 19, 20, 21, 22, 23, 24, 25, 26, 27, 28, 29, 30, 31, 32, 33, 34, 35, 36, 37, 38, 39, 40, 41, 42, 43, 44, 45, 46, 47, 48, 49, 50, 51, 52, 53, 54, 55, 56, 57, 58, 59, 60, 61, 62, 63, 64, 65] (by decide +kernel) (by decide +kernel)
set_option maxRecDepth 20000 in
theorem gX8_makespan_X8_best : GoodIn wsX8_makespan (wsV RX8 201 RX8 yX8_best wsX8_best) := goodIn_app (goodIn_of _ (by decide +kernel)) ggX8_makespan_X8_best
theorem dX8_makespan_0 : decode cX8_makespan 0 = .ok (.aload_n 0, 1) := by decide +kernel
theorem dX8_makespan_1 : decode cX8_makespan 1 = .ok (.iconst 0, 1) := by decide +kernel
theorem dX8_makespan_2 : decode cX8_makespan 2 = .ok (.putfield 75, 3) := by decide +kernel
theorem dX8_makespan_5 : decode cX8_makespan 5 = .ok (.aload_n 0, 1) := by decide +kernel
theorem dX8_makespan_6 : decode cX8_makespan 6 = .ok (.invokevirtual 201, 3) := by decide +kernel
theorem dX8_makespan_9 : decode cX8_makespan 9 = .ok (.ireturn, 1) := by decide +kernel
set_option maxRecDepth 20000 in
theorem ggX8_inBest_X8_isTask : GoodIn wsX8_inBest wsX8_isTask := goodIn_r _ [9, 2, 43, 44, 45, 46, 47, 48, 49, 50, 51, 52, 53, 54, 55, 56, 57, 58, 59, 60, 61, 62, 63, 64, 65, 66, 67, 68, 69, 70, 71, 72] (by decide +kernel) (by decide +kernel)
set_option maxRecDepth 20000 in
theorem gX8_inBest_X8_isTask : GoodIn wsX8_inBest (wsV RX8 98 RX8 yX8_isTask wsX8_isTask) := goodIn_app (goodIn_of _ (by decide +kernel)) ggX8_inBest_X8_isTask
set_option maxRecDepth 20000 in
theorem ggX8_inBest_X8_in : GoodIn wsX8_inBest wsX8_in := goodIn_r _ [12] (by decide +kernel) (by decide +kernel)
set_option maxRecDepth 20000 in
theorem gX8_inBest_X8_in : GoodIn wsX8_inBest (va_wsS RX8 84 yX8_in wsX8_in) := goodIn_app (goodIn_of _ (by decide +kernel)) ggX8_inBest_X8_in
set_option maxRecDepth 20000 in
theorem ggX8_inBest_X8_best : GoodIn wsX8_inBest wsX8_best := goodIn_r _ [16, 17, 2, 18, 19, 20, 8, 21, 22, 23, 24, 25, 26, 27, 28, 29, 30, 31, 32, 33, 34, 35, 36, 37, 38, 39, 40, 41, 42, 3, 4, 43, 44, 45, 46, 47, 48, 49, 50, 51, 52, 53, 54, 55, 56, 57, 58, 59, 60, 61, 62, 63, 64, 65, 66, 67, 68, 69, 70, 71, 72] (by decide +kernel) (by decide +kernel)
set_option maxRecDepth 20000 in
theorem gX8_inBest_X8_best : GoodIn wsX8_inBest (wsV RX8 201 RX8 yX8_best wsX8_best) := goodIn_app (goodIn_of _ (by decide +kernel)) ggX8_inBest_X8_best
theorem dX8_inBest_0 : decode cX8_inBest 0 = .ok (.aload_n 0, 1) := by decide +kernel
theorem dX8_inBest_1 : decode cX8_inBest 1 = .ok (.aload_n 0, 1) := by decide +kernel
theorem dX8_inBest_2 : decode cX8_inBest 2 = .ok (.iload_n 1, 1) := by decide +kernel
theorem dX8_inBest_3 : decode cX8_inBest 3 = .ok (.invokevirtual 98, 3) := by decide +kernel
theorem dX8_inBest_6 : decode cX8_inBest 6 = .ok (.ifCond .ne 7, 3) := by decide +kernel
theorem dX8_inBest_9 : decode cX8_inBest 9 = .ok (.iconst 1, 1) := by decide +kernel
theorem dX8_inBest_10 : decode cX8_inBest 10 = .ok (.goto 17, 3) := by decide +kernel
theorem dX8_inBest_13 : decode cX8_inBest 13 = .ok (.iload_n 2, 1) := by decide +kernel
theorem dX8_inBest_14 : decode cX8_inBest 14 = .ok (.iconst 0, 1) := by decide +kernel
theorem dX8_inBest_15 : decode cX8_inBest 15 = .ok (.iconst 1, 1) := by decide +kernel
theorem dX8_inBest_16 : decode cX8_inBest 16 = .ok (.invokestatic 84, 3) := by decide +kernel
theorem dX8_inBest_19 : decode cX8_inBest 19 = .ok (.ifCond .eq 7, 3) := by decide +kernel
theorem dX8_inBest_22 : decode cX8_inBest 22 = .ok (.iconst 0, 1) := by decide +kernel
theorem dX8_inBest_23 : decode cX8_inBest 23 = .ok (.goto 4, 3) := by decide +kernel
theorem dX8_inBest_26 : decode cX8_inBest 26 = .ok (.iconst 2, 1) := by decide +kernel
theorem dX8_inBest_27 : decode cX8_inBest 27 = .ok (.putfield 75, 3) := by decide +kernel
theorem dX8_inBest_30 : decode cX8_inBest 30 = .ok (.aload_n 0, 1) := by decide +kernel
theorem dX8_inBest_31 : decode cX8_inBest 31 = .ok (.getfield 75, 3) := by decide +kernel
theorem dX8_inBest_34 : decode cX8_inBest 34 = .ok (.ifCond .le 5, 3) := by decide +kernel
theorem dX8_inBest_37 : decode cX8_inBest 37 = .ok (.iconst 0, 1) := by decide +kernel
theorem dX8_inBest_38 : decode cX8_inBest 38 = .ok (.ireturn, 1) := by decide +kernel
theorem dX8_inBest_39 : decode cX8_inBest 39 = .ok (.aload_n 0, 1) := by decide +kernel
theorem dX8_inBest_40 : decode cX8_inBest 40 = .ok (.invokevirtual 201, 3) := by decide +kernel
theorem dX8_inBest_43 : decode cX8_inBest 43 = .ok (.iconst (-1), 1) := by decide +kernel
theorem dX8_inBest_44 : decode cX8_inBest 44 = .ok (.if_icmp .ne 5, 3) := by decide +kernel
theorem dX8_inBest_47 : decode cX8_inBest 47 = .ok (.iconst (-1), 1) := by decide +kernel
theorem dX8_inBest_48 : decode cX8_inBest 48 = .ok (.ireturn, 1) := by decide +kernel
theorem dX8_inBest_49 : decode cX8_inBest 49 = .ok (.iconst 0, 1) := by decide +kernel
theorem dX8_inBest_50 : decode cX8_inBest 50 = .ok (.istore_n 3, 1) := by decide +kernel
theorem dX8_inBest_51 : decode cX8_inBest 51 = .ok (.iconst 0, 1) := by decide +kernel
theorem dX8_inBest_52 : decode cX8_inBest 52 = .ok (.istore 4, 2) := by decide +kernel
theorem dX8_inBest_54 : decode cX8_inBest 54 = .ok (.iload 4, 2) := by decide +kernel
theorem dX8_inBest_56 : decode cX8_inBest 56 = .ok (.aload_n 0, 1) := by decide +kernel
theorem dX8_inBest_57 : decode cX8_inBest 57 = .ok (.getfield 78, 3) := by decide +kernel
theorem dX8_inBest_60 : decode cX8_inBest 60 = .ok (.if_icmp .ge 27, 3) := by decide +kernel
theorem dX8_inBest_63 : decode cX8_inBest 63 = .ok (.aload_n 0, 1) := by decide +kernel
theorem dX8_inBest_64 : decode cX8_inBest 64 = .ok (.getfield 60, 3) := by decide +kernel
theorem dX8_inBest_67 : decode cX8_inBest 67 = .ok (.iload 4, 2) := by decide +kernel
theorem dX8_inBest_69 : decode cX8_inBest 69 = .ok (.iaload, 1) := by decide +kernel
theorem dX8_inBest_70 : decode cX8_inBest 70 = .ok (.iload_n 1, 1) := by decide +kernel
theorem dX8_inBest_71 : decode cX8_inBest 71 = .ok (.if_icmp .ne 8, 3) := by decide +kernel
theorem dX8_inBest_74 : decode cX8_inBest 74 = .ok (.iload 4, 2) := by decide +kernel
theorem dX8_inBest_76 : decode cX8_inBest 76 = .ok (.goto 4, 3) := by decide +kernel
theorem dX8_inBest_79 : decode cX8_inBest 79 = .ok (.iload_n 3, 1) := by decide +kernel
theorem dX8_inBest_80 : decode cX8_inBest 80 = .ok (.istore_n 3, 1) := by decide +kernel
theorem dX8_inBest_81 : decode cX8_inBest 81 = .ok (.iinc 4 1, 3) := by decide +kernel
theorem dX8_inBest_84 : decode cX8_inBest 84 = .ok (.goto (-30), 3) := by decide +kernel
theorem dX8_inBest_87 : decode cX8_inBest 87 = .ok (.iload_n 2, 1) := by decide +kernel
theorem dX8_inBest_88 : decode cX8_inBest 88 = .ok (.ifCond .ne 7, 3) := by decide +kernel
theorem dX8_inBest_91 : decode cX8_inBest 91 = .ok (.iload_n 3, 1) := by decide +kernel
theorem dX8_inBest_92 : decode cX8_inBest 92 = .ok (.goto 9, 3) := by decide +kernel
theorem dX8_inBest_95 : decode cX8_inBest 95 = .ok (.aload_n 0, 1) := by decide +kernel
theorem dX8_inBest_96 : decode cX8_inBest 96 = .ok (.getfield 66, 3) := by decide +kernel
theorem dX8_inBest_99 : decode cX8_inBest 99 = .ok (.iload_n 1, 1) := by decide +kernel
theorem dX8_inBest_100 : decode cX8_inBest 100 = .ok (.iaload, 1) := by decide +kernel
theorem dX8_inBest_101 : decode cX8_inBest 101 = .ok (.ireturn, 1) := by decide +kernel
set_option maxRecDepth 20000 in
theorem ggX8_drawRow_X8_canStand : GoodIn wsX8_drawRow wsX8_canStand := goodIn_r _ [12, 7, 13, 14, 11, 15, 16, 17, 18, 19, 1, 20, 21, 22, 23, 24, 25, 26, 27, 28, 29, 30, 31, 32, 33, 34, 35, 36, 37, 38, 39, 40, 41, 42, 43, 44, 45, 46, 47, 48, 49, 50] (by decide +kernel) (by decide +kernel)
set_option maxRecDepth 20000 in
theorem gX8_drawRow_X8_canStand : GoodIn wsX8_drawRow (wsV RX8 192 RX8 yX8_canStand wsX8_canStand) := goodIn_app (goodIn_of _ (by decide +kernel)) ggX8_drawRow_X8_canStand
theorem dX8_drawRow_0 : decode cX8_drawRow 0 = .ok (.iconst 0, 1) := by decide +kernel
theorem dX8_drawRow_1 : decode cX8_drawRow 1 = .ok (.istore_n 1, 1) := by decide +kernel
theorem dX8_drawRow_2 : decode cX8_drawRow 2 = .ok (.iload_n 1, 1) := by decide +kernel
theorem dX8_drawRow_3 : decode cX8_drawRow 3 = .ok (.aload_n 0, 1) := by decide +kernel
theorem dX8_drawRow_4 : decode cX8_drawRow 4 = .ok (.getfield 78, 3) := by decide +kernel
theorem dX8_drawRow_7 : decode cX8_drawRow 7 = .ok (.if_icmp .ge 132, 3) := by decide +kernel
theorem dX8_drawRow_10 : decode cX8_drawRow 10 = .ok (.iconst 0, 1) := by decide +kernel
theorem dX8_drawRow_11 : decode cX8_drawRow 11 = .ok (.istore_n 2, 1) := by decide +kernel
theorem dX8_drawRow_12 : decode cX8_drawRow 12 = .ok (.iconst 0, 1) := by decide +kernel
theorem dX8_drawRow_13 : decode cX8_drawRow 13 = .ok (.istore_n 3, 1) := by decide +kernel
theorem dX8_drawRow_14 : decode cX8_drawRow 14 = .ok (.iload_n 3, 1) := by decide +kernel
theorem dX8_drawRow_15 : decode cX8_drawRow 15 = .ok (.aload_n 0, 1) := by decide +kernel
theorem dX8_drawRow_16 : decode cX8_drawRow 16 = .ok (.getfield 78, 3) := by decide +kernel
theorem dX8_drawRow_19 : decode cX8_drawRow 19 = .ok (.if_icmp .ge 26, 3) := by decide +kernel
theorem dX8_drawRow_22 : decode cX8_drawRow 22 = .ok (.iload_n 2, 1) := by decide +kernel
theorem dX8_drawRow_23 : decode cX8_drawRow 23 = .ok (.aload_n 0, 1) := by decide +kernel
theorem dX8_drawRow_24 : decode cX8_drawRow 24 = .ok (.iload_n 1, 1) := by decide +kernel
theorem dX8_drawRow_25 : decode cX8_drawRow 25 = .ok (.iload_n 3, 1) := by decide +kernel
theorem dX8_drawRow_26 : decode cX8_drawRow 26 = .ok (.invokevirtual 192, 3) := by decide +kernel
theorem dX8_drawRow_29 : decode cX8_drawRow 29 = .ok (.ifCond .eq 7, 3) := by decide +kernel
theorem dX8_drawRow_32 : decode cX8_drawRow 32 = .ok (.iconst 1, 1) := by decide +kernel
theorem dX8_drawRow_33 : decode cX8_drawRow 33 = .ok (.goto 4, 3) := by decide +kernel
theorem dX8_drawRow_36 : decode cX8_drawRow 36 = .ok (.iconst 0, 1) := by decide +kernel
theorem dX8_drawRow_37 : decode cX8_drawRow 37 = .ok (.iadd, 1) := by decide +kernel
theorem dX8_drawRow_38 : decode cX8_drawRow 38 = .ok (.istore_n 2, 1) := by decide +kernel
theorem dX8_drawRow_39 : decode cX8_drawRow 39 = .ok (.iinc 3 1, 3) := by decide +kernel
theorem dX8_drawRow_42 : decode cX8_drawRow 42 = .ok (.goto (-28), 3) := by decide +kernel
theorem dX8_drawRow_45 : decode cX8_drawRow 45 = .ok (.aload_n 0, 1) := by decide +kernel
theorem dX8_drawRow_46 : decode cX8_drawRow 46 = .ok (.aload_n 0, 1) := by decide +kernel
theorem dX8_drawRow_47 : decode cX8_drawRow 47 = .ok (.getfield 204, 3) := by decide +kernel
theorem dX8_drawRow_50 : decode cX8_drawRow 50 = .ok (.ldc2_w 208, 3) := by decide +kernel
theorem dX8_drawRow_53 : decode cX8_drawRow 53 = .ok (.lmul, 1) := by decide +kernel
theorem dX8_drawRow_54 : decode cX8_drawRow 54 = .ok (.ldc2_w 210, 3) := by decide +kernel
theorem dX8_drawRow_57 : decode cX8_drawRow 57 = .ok (.ladd, 1) := by decide +kernel
theorem dX8_drawRow_58 : decode cX8_drawRow 58 = .ok (.ldc2_w 212, 3) := by decide +kernel
theorem dX8_drawRow_61 : decode cX8_drawRow 61 = .ok (.lrem, 1) := by decide +kernel
theorem dX8_drawRow_62 : decode cX8_drawRow 62 = .ok (.putfield 204, 3) := by decide +kernel
theorem dX8_drawRow_65 : decode cX8_drawRow 65 = .ok (.aload_n 0, 1) := by decide +kernel
theorem dX8_drawRow_66 : decode cX8_drawRow 66 = .ok (.getfield 204, 3) := by decide +kernel
theorem dX8_drawRow_69 : decode cX8_drawRow 69 = .ok (.ldc2_w 214, 3) := by decide +kernel
theorem dX8_drawRow_72 : decode cX8_drawRow 72 = .ok (.ldiv, 1) := by decide +kernel
theorem dX8_drawRow_73 : decode cX8_drawRow 73 = .ok (.iload_n 2, 1) := by decide +kernel
theorem dX8_drawRow_74 : decode cX8_drawRow 74 = .ok (.i2l, 1) := by decide +kernel
theorem dX8_drawRow_75 : decode cX8_drawRow 75 = .ok (.lrem, 1) := by decide +kernel
theorem dX8_drawRow_76 : decode cX8_drawRow 76 = .ok (.l2i, 1) := by decide +kernel
theorem dX8_drawRow_77 : decode cX8_drawRow 77 = .ok (.istore_n 3, 1) := by decide +kernel
theorem dX8_drawRow_78 : decode cX8_drawRow 78 = .ok (.iconst (-1), 1) := by decide +kernel
theorem dX8_drawRow_79 : decode cX8_drawRow 79 = .ok (.istore 4, 2) := by decide +kernel
theorem dX8_drawRow_81 : decode cX8_drawRow 81 = .ok (.iconst 0, 1) := by decide +kernel
theorem dX8_drawRow_82 : decode cX8_drawRow 82 = .ok (.istore 5, 2) := by decide +kernel
theorem dX8_drawRow_84 : decode cX8_drawRow 84 = .ok (.iload 5, 2) := by decide +kernel
theorem dX8_drawRow_86 : decode cX8_drawRow 86 = .ok (.aload_n 0, 1) := by decide +kernel
theorem dX8_drawRow_87 : decode cX8_drawRow 87 = .ok (.getfield 78, 3) := by decide +kernel
theorem dX8_drawRow_90 : decode cX8_drawRow 90 = .ok (.if_icmp .ge 35, 3) := by decide +kernel
theorem dX8_drawRow_93 : decode cX8_drawRow 93 = .ok (.aload_n 0, 1) := by decide +kernel
theorem dX8_drawRow_94 : decode cX8_drawRow 94 = .ok (.iload_n 1, 1) := by decide +kernel
theorem dX8_drawRow_95 : decode cX8_drawRow 95 = .ok (.iload 5, 2) := by decide +kernel
theorem dX8_drawRow_97 : decode cX8_drawRow 97 = .ok (.invokevirtual 192, 3) := by decide +kernel
theorem dX8_drawRow_100 : decode cX8_drawRow 100 = .ok (.ifCond .eq 19, 3) := by decide +kernel
theorem dX8_drawRow_103 : decode cX8_drawRow 103 = .ok (.iload_n 3, 1) := by decide +kernel
theorem dX8_drawRow_104 : decode cX8_drawRow 104 = .ok (.ifCond .ne 8, 3) := by decide +kernel
theorem dX8_drawRow_107 : decode cX8_drawRow 107 = .ok (.iload 5, 2) := by decide +kernel
theorem dX8_drawRow_109 : decode cX8_drawRow 109 = .ok (.goto 5, 3) := by decide +kernel
theorem dX8_drawRow_112 : decode cX8_drawRow 112 = .ok (.iload 4, 2) := by decide +kernel
theorem dX8_drawRow_114 : decode cX8_drawRow 114 = .ok (.istore 4, 2) := by decide +kernel
theorem dX8_drawRow_116 : decode cX8_drawRow 116 = .ok (.iinc 3 (-1), 3) := by decide +kernel
theorem dX8_drawRow_119 : decode cX8_drawRow 119 = .ok (.iinc 5 1, 3) := by decide +kernel
theorem dX8_drawRow_122 : decode cX8_drawRow 122 = .ok (.goto (-38), 3) := by decide +kernel
theorem dX8_drawRow_125 : decode cX8_drawRow 125 = .ok (.aload_n 0, 1) := by decide +kernel
theorem dX8_drawRow_126 : decode cX8_drawRow 126 = .ok (.getfield 57, 3) := by decide +kernel
theorem dX8_drawRow_129 : decode cX8_drawRow 129 = .ok (.iload_n 1, 1) := by decide +kernel
theorem dX8_drawRow_130 : decode cX8_drawRow 130 = .ok (.iload 4, 2) := by decide +kernel
theorem dX8_drawRow_132 : decode cX8_drawRow 132 = .ok (.iastore, 1) := by decide +kernel
theorem dX8_drawRow_133 : decode cX8_drawRow 133 = .ok (.iinc 1 1, 3) := by decide +kernel
theorem dX8_drawRow_136 : decode cX8_drawRow 136 = .ok (.goto (-134), 3) := by decide +kernel
theorem dX8_drawRow_139 : decode cX8_drawRow 139 = .ok (.return_, 1) := by decide +kernel
set_option maxRecDepth 20000 in
theorem ggX8_drawn_X8_in : GoodIn wsX8_drawn wsX8_in := goodIn_r _ [7] (by decide +kernel) (by decide +kernel)
set_option maxRecDepth 20000 in
theorem gX8_drawn_X8_in : GoodIn wsX8_drawn (va_wsS RX8 84 yX8_in wsX8_in) := goodIn_app (goodIn_of _ (by decide +kernel)) ggX8_drawn_X8_in
set_option maxRecDepth 20000 in
theorem ggX8_drawn_X8_drawRow : GoodIn wsX8_drawn wsX8_drawRow := goodIn_r _ [11, 12, 3, 13, 14, 15, 16, 17, 18, 19, 20, 6, 21, 22, 23, 24, 25, 26, 27, 28, 29, 39, 40, 41, 42, 43, 44, 45, 46, 47, 48, 49, 50, 51, 52, 53, 54, 55, 56, 57, 58, 59, 60, 61, 62, 63, 64, 65, 66, 67, 68] (by decide +kernel) (by decide +kernel)
set_option maxRecDepth 20000 in
theorem gX8_drawn_X8_drawRow : GoodIn wsX8_drawn (wsV RX8 217 RX8 yX8_drawRow wsX8_drawRow) := goodIn_app (goodIn_of _ (by decide +kernel)) ggX8_drawn_X8_drawRow
set_option maxRecDepth 20000 in
theorem ggX8_drawn_X8_planOf : GoodIn wsX8_drawn wsX8_planOf := goodIn_r _ [33, 12, 17, 34, 35, 36, 37, 29, 38, 22, 23, 6, 24, 39, 40, 41, 42, 43, 44, 45, 46, 47, 48, 49, 50, 51, 52, 53, 54, 55, 56, 57, 58, 59, 60, 61, 62, 63, 64, 65, 66, 67, 68] (by decide +kernel) (by decide +kernel)
set_option maxRecDepth 20000 in
theorem gX8_drawn_X8_planOf : GoodIn wsX8_drawn (wsV RX8 195 RX8 yX8_planOf wsX8_planOf) := goodIn_app (goodIn_of _ (by decide +kernel)) ggX8_drawn_X8_planOf
theorem dX8_drawn_0 : decode cX8_drawn 0 = .ok (.aload_n 0, 1) := by decide +kernel
theorem dX8_drawn_1 : decode cX8_drawn 1 = .ok (.iload_n 1, 1) := by decide +kernel
theorem dX8_drawn_2 : decode cX8_drawn 2 = .ok (.iconst 0, 1) := by decide +kernel
theorem dX8_drawn_3 : decode cX8_drawn 3 = .ok (.ldc 216, 2) := by decide +kernel
theorem dX8_drawn_5 : decode cX8_drawn 5 = .ok (.invokestatic 84, 3) := by decide +kernel
theorem dX8_drawn_8 : decode cX8_drawn 8 = .ok (.ifCond .eq 17, 3) := by decide +kernel
theorem dX8_drawn_11 : decode cX8_drawn 11 = .ok (.iload_n 2, 1) := by decide +kernel
theorem dX8_drawn_12 : decode cX8_drawn 12 = .ok (.iconst 1, 1) := by decide +kernel
theorem dX8_drawn_13 : decode cX8_drawn 13 = .ok (.bipush 50, 2) := by decide +kernel
theorem dX8_drawn_15 : decode cX8_drawn 15 = .ok (.invokestatic 84, 3) := by decide +kernel
theorem dX8_drawn_18 : decode cX8_drawn 18 = .ok (.ifCond .eq 7, 3) := by decide +kernel
theorem dX8_drawn_21 : decode cX8_drawn 21 = .ok (.iconst 0, 1) := by decide +kernel
theorem dX8_drawn_22 : decode cX8_drawn 22 = .ok (.goto 4, 3) := by decide +kernel
theorem dX8_drawn_25 : decode cX8_drawn 25 = .ok (.iconst 1, 1) := by decide +kernel
theorem dX8_drawn_26 : decode cX8_drawn 26 = .ok (.putfield 75, 3) := by decide +kernel
theorem dX8_drawn_29 : decode cX8_drawn 29 = .ok (.aload_n 0, 1) := by decide +kernel
theorem dX8_drawn_30 : decode cX8_drawn 30 = .ok (.getfield 75, 3) := by decide +kernel
theorem dX8_drawn_33 : decode cX8_drawn 33 = .ok (.ifCond .le 5, 3) := by decide +kernel
theorem dX8_drawn_36 : decode cX8_drawn 36 = .ok (.iconst 0, 1) := by decide +kernel
theorem dX8_drawn_37 : decode cX8_drawn 37 = .ok (.ireturn, 1) := by decide +kernel
theorem dX8_drawn_38 : decode cX8_drawn 38 = .ok (.aload_n 0, 1) := by decide +kernel
theorem dX8_drawn_39 : decode cX8_drawn 39 = .ok (.iload_n 1, 1) := by decide +kernel
theorem dX8_drawn_40 : decode cX8_drawn 40 = .ok (.i2l, 1) := by decide +kernel
theorem dX8_drawn_41 : decode cX8_drawn 41 = .ok (.putfield 204, 3) := by decide +kernel
theorem dX8_drawn_44 : decode cX8_drawn 44 = .ok (.iconst (-1), 1) := by decide +kernel
theorem dX8_drawn_45 : decode cX8_drawn 45 = .ok (.istore_n 3, 1) := by decide +kernel
theorem dX8_drawn_46 : decode cX8_drawn 46 = .ok (.iconst 0, 1) := by decide +kernel
theorem dX8_drawn_47 : decode cX8_drawn 47 = .ok (.istore 4, 2) := by decide +kernel
theorem dX8_drawn_49 : decode cX8_drawn 49 = .ok (.iload 4, 2) := by decide +kernel
theorem dX8_drawn_51 : decode cX8_drawn 51 = .ok (.iload_n 2, 1) := by decide +kernel
theorem dX8_drawn_52 : decode cX8_drawn 52 = .ok (.if_icmp .ge 43, 3) := by decide +kernel
theorem dX8_drawn_55 : decode cX8_drawn 55 = .ok (.aload_n 0, 1) := by decide +kernel
theorem dX8_drawn_56 : decode cX8_drawn 56 = .ok (.invokevirtual 217, 3) := by decide +kernel
theorem dX8_drawn_59 : decode cX8_drawn 59 = .ok (.aload_n 0, 1) := by decide +kernel
theorem dX8_drawn_60 : decode cX8_drawn 60 = .ok (.invokevirtual 195, 3) := by decide +kernel
theorem dX8_drawn_63 : decode cX8_drawn 63 = .ok (.istore 5, 2) := by decide +kernel
theorem dX8_drawn_65 : decode cX8_drawn 65 = .ok (.iload 5, 2) := by decide +kernel
theorem dX8_drawn_67 : decode cX8_drawn 67 = .ok (.iconst (-1), 1) := by decide +kernel
theorem dX8_drawn_68 : decode cX8_drawn 68 = .ok (.if_icmp .eq 19, 3) := by decide +kernel
theorem dX8_drawn_71 : decode cX8_drawn 71 = .ok (.iload_n 3, 1) := by decide +kernel
theorem dX8_drawn_72 : decode cX8_drawn 72 = .ok (.iconst (-1), 1) := by decide +kernel
theorem dX8_drawn_73 : decode cX8_drawn 73 = .ok (.if_icmp .eq 9, 3) := by decide +kernel
theorem dX8_drawn_76 : decode cX8_drawn 76 = .ok (.iload 5, 2) := by decide +kernel
theorem dX8_drawn_78 : decode cX8_drawn 78 = .ok (.iload_n 3, 1) := by decide +kernel
theorem dX8_drawn_79 : decode cX8_drawn 79 = .ok (.if_icmp .ge 8, 3) := by decide +kernel
theorem dX8_drawn_82 : decode cX8_drawn 82 = .ok (.iload 5, 2) := by decide +kernel
theorem dX8_drawn_84 : decode cX8_drawn 84 = .ok (.goto 4, 3) := by decide +kernel
theorem dX8_drawn_87 : decode cX8_drawn 87 = .ok (.iload_n 3, 1) := by decide +kernel
theorem dX8_drawn_88 : decode cX8_drawn 88 = .ok (.istore_n 3, 1) := by decide +kernel
theorem dX8_drawn_89 : decode cX8_drawn 89 = .ok (.iinc 4 1, 3) := by decide +kernel
theorem dX8_drawn_92 : decode cX8_drawn 92 = .ok (.goto (-43), 3) := by decide +kernel
theorem dX8_drawn_95 : decode cX8_drawn 95 = .ok (.iload_n 3, 1) := by decide +kernel
theorem dX8_drawn_96 : decode cX8_drawn 96 = .ok (.ireturn, 1) := by decide +kernel
set_option maxRecDepth 20000 in
theorem ggX8_leastDue_X8_isTask : GoodIn wsX8_leastDue wsX8_isTask := goodIn_r _ [7, 8, 70, 71, 72, 73, 74, 75, 76, 77, 78, 79, 80, 81, 82, 83, 84, 85, 86, 87, 88, 89, 90, 91, 92, 93, 94, 95, 96, 97, 98, 99] (by decide +kernel) (by decide +kernel)
set_option maxRecDepth 20000 in
theorem gX8_leastDue_X8_isTask : GoodIn wsX8_leastDue (wsV RX8 98 RX8 yX8_isTask wsX8_isTask) := goodIn_app (goodIn_of _ (by decide +kernel)) ggX8_leastDue_X8_isTask
set_option maxRecDepth 20000 in
theorem ggX8_leastDue_X8_reason : GoodIn wsX8_leastDue wsX8_reason := goodIn_r _ [12, 8, 13, 14, 15, 2, 16, 17, 18, 19, 20, 21, 6, 22, 23, 24, 25, 26, 27, 28, 29, 30, 31, 32, 33, 34, 35, 36, 37, 38, 39, 40, 41, 42, 43, 44, 45, 46, 47, 48, 49, 50, 51, 52, 53, 54, 55, 56, 57, 58, 59, 60, 61, 62, 63, 64, 65, 66, 67, 68, 69, 70, 71, 72, 73, 74, 75, 76, 77, 78, 79, 80, 81, 82, 83, 84, 85, 86, 87, 88, 89, 90, 91, 92, 93, 94, 95, 96, 97, 98, 99] (by decide +kernel) (by decide +kernel)
set_option maxRecDepth 20000 in
theorem gX8_leastDue_X8_reason : GoodIn wsX8_leastDue (wsV RX8 173 RX8 yX8_reason wsX8_reason) := goodIn_app (goodIn_of _ (by decide +kernel)) ggX8_leastDue_X8_reason
theorem dX8_leastDue_0 : decode cX8_leastDue 0 = .ok (.aload_n 0, 1) := by decide +kernel
theorem dX8_leastDue_1 : decode cX8_leastDue 1 = .ok (.aload_n 0, 1) := by decide +kernel
theorem dX8_leastDue_2 : decode cX8_leastDue 2 = .ok (.iload_n 1, 1) := by decide +kernel
theorem dX8_leastDue_3 : decode cX8_leastDue 3 = .ok (.invokevirtual 98, 3) := by decide +kernel
theorem dX8_leastDue_6 : decode cX8_leastDue 6 = .ok (.ifCond .eq 7, 3) := by decide +kernel
theorem dX8_leastDue_9 : decode cX8_leastDue 9 = .ok (.iconst 0, 1) := by decide +kernel
theorem dX8_leastDue_10 : decode cX8_leastDue 10 = .ok (.goto 4, 3) := by decide +kernel
theorem dX8_leastDue_13 : decode cX8_leastDue 13 = .ok (.iconst 1, 1) := by decide +kernel
theorem dX8_leastDue_14 : decode cX8_leastDue 14 = .ok (.putfield 75, 3) := by decide +kernel
theorem dX8_leastDue_17 : decode cX8_leastDue 17 = .ok (.aload_n 0, 1) := by decide +kernel
theorem dX8_leastDue_18 : decode cX8_leastDue 18 = .ok (.getfield 75, 3) := by decide +kernel
theorem dX8_leastDue_21 : decode cX8_leastDue 21 = .ok (.ifCond .le 5, 3) := by decide +kernel
theorem dX8_leastDue_24 : decode cX8_leastDue 24 = .ok (.iconst 0, 1) := by decide +kernel
theorem dX8_leastDue_25 : decode cX8_leastDue 25 = .ok (.ireturn, 1) := by decide +kernel
theorem dX8_leastDue_26 : decode cX8_leastDue 26 = .ok (.aload_n 0, 1) := by decide +kernel
theorem dX8_leastDue_27 : decode cX8_leastDue 27 = .ok (.getfield 20, 3) := by decide +kernel
theorem dX8_leastDue_30 : decode cX8_leastDue 30 = .ok (.iload_n 1, 1) := by decide +kernel
theorem dX8_leastDue_31 : decode cX8_leastDue 31 = .ok (.iaload, 1) := by decide +kernel
theorem dX8_leastDue_32 : decode cX8_leastDue 32 = .ok (.istore_n 2, 1) := by decide +kernel
theorem dX8_leastDue_33 : decode cX8_leastDue 33 = .ok (.iconst (-1), 1) := by decide +kernel
theorem dX8_leastDue_34 : decode cX8_leastDue 34 = .ok (.istore_n 3, 1) := by decide +kernel
