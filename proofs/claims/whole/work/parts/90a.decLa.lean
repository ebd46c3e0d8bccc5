/-! the law: decoded rows -/
set_option maxRecDepth 20000 in
theorem ggL_begin_X7_begin : GoodIn wsL_begin wsX7_begin := goodIn_ca (goodIn_r _ [6, 7, 8, 9, 10, 11, 12, 13, 5, 14, 15, 16, 17, 18, 19, 20, 21, 22, 23, 24, 25, 26, 27, 28, 29, 30, 31, 32, 33, 34, 35, 36, 37, 38, 39, 40, 41, 42, 43, 44, 45, 46, 47, 48, 49, 50, 51, 52, 53, 54, 55, 56, 57, 58, 59, 60, 61, 62, 63, 64, 65] (by decide +kernel) (by decide +kernel)) (goodIn_sub (fun _ h => List.mem_cons_of_mem _ (List.mem_append_right _ h)) (by decide +kernel))
set_option maxRecDepth 20000 in
theorem gL_begin_X7_begin : GoodIn wsL_begin (wsV RL 7 RX7 yX7_begin wsX7_begin) := goodIn_app (goodIn_of _ (by decide +kernel)) ggL_begin_X7_begin
theorem dL_begin_0 : decode cL_begin 0 = .ok (.aload_n 2, 1) := by decide +kernel
theorem dL_begin_1 : decode cL_begin 1 = .ok (.iconst 0, 1) := by decide +kernel
theorem dL_begin_2 : decode cL_begin 2 = .ok (.aload_n 0, 1) := by decide +kernel
theorem dL_begin_3 : decode cL_begin 3 = .ok (.iload_n 1, 1) := by decide +kernel
theorem dL_begin_4 : decode cL_begin 4 = .ok (.invokevirtual 7, 3) := by decide +kernel
theorem dL_begin_7 : decode cL_begin 7 = .ok (.i2l, 1) := by decide +kernel
theorem dL_begin_8 : decode cL_begin 8 = .ok (.lastore, 1) := by decide +kernel
theorem dL_begin_9 : decode cL_begin 9 = .ok (.goto 6, 3) := by decide +kernel
theorem dL_begin_12 : decode cL_begin 12 = .ok (.astore_n 3, 1) := by decide +kernel
theorem dL_begin_13 : decode cL_begin 13 = .ok (.iconst 1, 1) := by decide +kernel
theorem dL_begin_14 : decode cL_begin 14 = .ok (.ireturn, 1) := by decide +kernel
theorem dL_begin_15 : decode cL_begin 15 = .ok (.iconst 0, 1) := by decide +kernel
theorem dL_begin_16 : decode cL_begin 16 = .ok (.ireturn, 1) := by decide +kernel
set_option maxRecDepth 20000 in
theorem ggL_addTask_X7_addTask : GoodIn wsL_addTask wsX7_addTask := goodIn_ca (goodIn_ca (goodIn_ca (goodIn_r _ [8, 9, 10, 11, 12, 13, 14, 15, 16, 17, 18, 19, 20, 21, 22, 23, 7, 24, 25, 26, 27, 28, 29, 30, 31, 32, 33, 34, 35, 36, 37, 38, 39, 40, 41, 42, 43, 44, 45, 46, 47, 48, 49, 50, 51, 52, 53, 54, 55, 56, 57, 58, 59, 60, 61, 62, 63, 64, 65, 66, 67, 68, 69, 70, 71, 72, 73, 74, 75, 76, 77, 78, 79, 80, 81, 82] (by decide +kernel) (by decide +kernel)) (goodIn_sub (fun _ h => List.mem_cons_of_mem _ (List.mem_append_left _ (List.mem_append_left _ (List.mem_append_right _ h)))) (by decide +kernel))) (goodIn_sub (fun _ h => List.mem_cons_of_mem _ (List.mem_append_left _ (List.mem_append_right _ h))) (by decide +kernel))) (goodIn_sub (fun _ h => List.mem_cons_of_mem _ (List.mem_append_right _ h)) (by decide +kernel))
set_option maxRecDepth 20000 in
theorem gL_addTask_X7_addTask : GoodIn wsL_addTask (wsV RL 15 RX7 yX7_addTask wsX7_addTask) := goodIn_app (goodIn_of _ (by decide +kernel)) ggL_addTask_X7_addTask
theorem dL_addTask_0 : decode cL_addTask 0 = .ok (.aload 5, 2) := by decide +kernel
theorem dL_addTask_2 : decode cL_addTask 2 = .ok (.iconst 0, 1) := by decide +kernel
theorem dL_addTask_3 : decode cL_addTask 3 = .ok (.aload_n 0, 1) := by decide +kernel
theorem dL_addTask_4 : decode cL_addTask 4 = .ok (.iload_n 1, 1) := by decide +kernel
theorem dL_addTask_5 : decode cL_addTask 5 = .ok (.iload_n 2, 1) := by decide +kernel
theorem dL_addTask_6 : decode cL_addTask 6 = .ok (.iload_n 3, 1) := by decide +kernel
theorem dL_addTask_7 : decode cL_addTask 7 = .ok (.iload 4, 2) := by decide +kernel
theorem dL_addTask_9 : decode cL_addTask 9 = .ok (.invokevirtual 15, 3) := by decide +kernel
theorem dL_addTask_12 : decode cL_addTask 12 = .ok (.i2l, 1) := by decide +kernel
theorem dL_addTask_13 : decode cL_addTask 13 = .ok (.lastore, 1) := by decide +kernel
theorem dL_addTask_14 : decode cL_addTask 14 = .ok (.goto 15, 3) := by decide +kernel
theorem dL_addTask_17 : decode cL_addTask 17 = .ok (.astore 6, 2) := by decide +kernel
theorem dL_addTask_19 : decode cL_addTask 19 = .ok (.iconst 1, 1) := by decide +kernel
theorem dL_addTask_20 : decode cL_addTask 20 = .ok (.ireturn, 1) := by decide +kernel
theorem dL_addTask_21 : decode cL_addTask 21 = .ok (.astore 6, 2) := by decide +kernel
theorem dL_addTask_23 : decode cL_addTask 23 = .ok (.iconst 2, 1) := by decide +kernel
theorem dL_addTask_24 : decode cL_addTask 24 = .ok (.ireturn, 1) := by decide +kernel
theorem dL_addTask_25 : decode cL_addTask 25 = .ok (.astore 6, 2) := by decide +kernel
theorem dL_addTask_27 : decode cL_addTask 27 = .ok (.iconst 3, 1) := by decide +kernel
theorem dL_addTask_28 : decode cL_addTask 28 = .ok (.ireturn, 1) := by decide +kernel
theorem dL_addTask_29 : decode cL_addTask 29 = .ok (.iconst 0, 1) := by decide +kernel
theorem dL_addTask_30 : decode cL_addTask 30 = .ok (.ireturn, 1) := by decide +kernel
set_option maxRecDepth 20000 in
theorem ggL_setDates_X7_setDates : GoodIn wsL_setDates wsX7_setDates := goodIn_ca (goodIn_ca (goodIn_r _ [7, 8, 9, 10, 11, 12, 13, 14, 15, 6, 16, 17, 18, 19, 20, 21, 22, 23, 24, 25, 26, 27, 28, 29, 30, 31, 32, 33, 34, 35, 36, 37, 38, 39, 40, 41, 42, 43, 44, 45, 46, 47, 48, 49, 50, 51, 52, 53, 54, 55, 56, 57, 58, 59, 60, 61, 62, 63, 64, 65, 66, 67, 68, 69, 70, 71, 72, 73, 74, 75, 76, 77] (by decide +kernel) (by decide +kernel)) (goodIn_sub (fun _ h => List.mem_cons_of_mem _ (List.mem_append_left _ (List.mem_append_right _ h))) (by decide +kernel))) (goodIn_sub (fun _ h => List.mem_cons_of_mem _ (List.mem_append_right _ h)) (by decide +kernel))
set_option maxRecDepth 20000 in
theorem gL_setDates_X7_setDates : GoodIn wsL_setDates (wsV RL 23 RX7 yX7_setDates wsX7_setDates) := goodIn_app (goodIn_of _ (by decide +kernel)) ggL_setDates_X7_setDates
theorem dL_setDates_0 : decode cL_setDates 0 = .ok (.aload 4, 2) := by decide +kernel
theorem dL_setDates_2 : decode cL_setDates 2 = .ok (.iconst 0, 1) := by decide +kernel
theorem dL_setDates_3 : decode cL_setDates 3 = .ok (.aload_n 0, 1) := by decide +kernel
theorem dL_setDates_4 : decode cL_setDates 4 = .ok (.iload_n 1, 1) := by decide +kernel
theorem dL_setDates_5 : decode cL_setDates 5 = .ok (.iload_n 2, 1) := by decide +kernel
theorem dL_setDates_6 : decode cL_setDates 6 = .ok (.iload_n 3, 1) := by decide +kernel
theorem dL_setDates_7 : decode cL_setDates 7 = .ok (.invokevirtual 23, 3) := by decide +kernel
theorem dL_setDates_10 : decode cL_setDates 10 = .ok (.i2l, 1) := by decide +kernel
theorem dL_setDates_11 : decode cL_setDates 11 = .ok (.lastore, 1) := by decide +kernel
theorem dL_setDates_12 : decode cL_setDates 12 = .ok (.goto 11, 3) := by decide +kernel
theorem dL_setDates_15 : decode cL_setDates 15 = .ok (.astore 5, 2) := by decide +kernel
theorem dL_setDates_17 : decode cL_setDates 17 = .ok (.iconst 1, 1) := by decide +kernel
theorem dL_setDates_18 : decode cL_setDates 18 = .ok (.ireturn, 1) := by decide +kernel
theorem dL_setDates_19 : decode cL_setDates 19 = .ok (.astore 5, 2) := by decide +kernel
theorem dL_setDates_21 : decode cL_setDates 21 = .ok (.iconst 2, 1) := by decide +kernel
theorem dL_setDates_22 : decode cL_setDates 22 = .ok (.ireturn, 1) := by decide +kernel
theorem dL_setDates_23 : decode cL_setDates 23 = .ok (.iconst 0, 1) := by decide +kernel
theorem dL_setDates_24 : decode cL_setDates 24 = .ok (.ireturn, 1) := by decide +kernel
set_option maxRecDepth 20000 in
theorem ggL_give_X7_give : GoodIn wsL_give wsX7_give := goodIn_ca (goodIn_ca (goodIn_ca (goodIn_r _ [8, 9, 10, 11, 12, 13, 14, 15, 16, 17, 18, 19, 20, 21, 22, 23, 24, 25, 7, 26, 27, 28, 29, 30, 31, 32, 33, 34, 35, 36, 37, 38, 39, 40, 41, 42, 43, 44, 45, 46, 47, 48, 49, 50, 51, 52, 53, 54, 55, 56, 57, 58, 59, 60, 61, 62, 63, 64, 65, 66, 67, 68, 69, 70, 71, 72, 73, 74, 75, 76, 77, 78, 79, 80, 81, 82, 83, 84, 85, 86, 87, 88, 89, 90, 91, 92, 93, 94, 95, 96, 97, 98, 99, 100, 101, 102] (by decide +kernel) (by decide +kernel)) (goodIn_sub (fun _ h => List.mem_cons_of_mem _ (List.mem_append_left _ (List.mem_append_left _ (List.mem_append_right _ h)))) (by decide +kernel))) (goodIn_sub (fun _ h => List.mem_cons_of_mem _ (List.mem_append_left _ (List.mem_append_right _ h))) (by decide +kernel))) (goodIn_sub (fun _ h => List.mem_cons_of_mem _ (List.mem_append_right _ h)) (by decide +kernel))
set_option maxRecDepth 20000 in
theorem gL_give_X7_give : GoodIn wsL_give (wsV RL 27 RX7 yX7_give wsX7_give) := goodIn_app (goodIn_of _ (by decide +kernel)) ggL_give_X7_give
theorem dL_give_0 : decode cL_give 0 = .ok (.aload 4, 2) := by decide +kernel
theorem dL_give_2 : decode cL_give 2 = .ok (.iconst 0, 1) := by decide +kernel
theorem dL_give_3 : decode cL_give 3 = .ok (.aload_n 0, 1) := by decide +kernel
theorem dL_give_4 : decode cL_give 4 = .ok (.iload_n 1, 1) := by decide +kernel
theorem dL_give_5 : decode cL_give 5 = .ok (.iload_n 2, 1) := by decide +kernel
theorem dL_give_6 : decode cL_give 6 = .ok (.iload_n 3, 1) := by decide +kernel
theorem dL_give_7 : decode cL_give 7 = .ok (.invokevirtual 27, 3) := by decide +kernel
theorem dL_give_10 : decode cL_give 10 = .ok (.i2l, 1) := by decide +kernel
theorem dL_give_11 : decode cL_give 11 = .ok (.lastore, 1) := by decide +kernel
theorem dL_give_12 : decode cL_give 12 = .ok (.goto 15, 3) := by decide +kernel
theorem dL_give_15 : decode cL_give 15 = .ok (.astore 5, 2) := by decide +kernel
theorem dL_give_17 : decode cL_give 17 = .ok (.iconst 1, 1) := by decide +kernel
theorem dL_give_18 : decode cL_give 18 = .ok (.ireturn, 1) := by decide +kernel
theorem dL_give_19 : decode cL_give 19 = .ok (.astore 5, 2) := by decide +kernel
theorem dL_give_21 : decode cL_give 21 = .ok (.iconst 2, 1) := by decide +kernel
theorem dL_give_22 : decode cL_give 22 = .ok (.ireturn, 1) := by decide +kernel
theorem dL_give_23 : decode cL_give 23 = .ok (.astore 5, 2) := by decide +kernel
theorem dL_give_25 : decode cL_give 25 = .ok (.iconst 3, 1) := by decide +kernel
theorem dL_give_26 : decode cL_give 26 = .ok (.ireturn, 1) := by decide +kernel
theorem dL_give_27 : decode cL_give 27 = .ok (.iconst 0, 1) := by decide +kernel
theorem dL_give_28 : decode cL_give 28 = .ok (.ireturn, 1) := by decide +kernel
set_option maxRecDepth 20000 in
theorem ggL_task_X7_task : GoodIn wsL_task wsX7_task := goodIn_ca (goodIn_ca (goodIn_r _ [7, 8, 9, 10, 11, 12, 13, 6, 14, 15, 16, 17, 18, 19, 20, 21, 22, 23, 24, 25, 26, 27, 28, 29, 30, 31, 32, 33, 34, 35, 36, 37, 38, 39, 40, 41, 42, 43, 44, 45, 46, 47, 48, 49, 50] (by decide +kernel) (by decide +kernel)) (goodIn_sub (fun _ h => List.mem_cons_of_mem _ (List.mem_append_left _ (List.mem_append_right _ h))) (by decide +kernel))) (goodIn_sub (fun _ h => List.mem_cons_of_mem _ (List.mem_append_right _ h)) (by decide +kernel))
set_option maxRecDepth 20000 in
theorem gL_task_X7_task : GoodIn wsL_task (wsV RL 31 RX7 yX7_task wsX7_task) := goodIn_app (goodIn_of _ (by decide +kernel)) ggL_task_X7_task
theorem dL_task_0 : decode cL_task 0 = .ok (.aload_n 3, 1) := by decide +kernel
theorem dL_task_1 : decode cL_task 1 = .ok (.iconst 0, 1) := by decide +kernel
theorem dL_task_2 : decode cL_task 2 = .ok (.aload_n 0, 1) := by decide +kernel
theorem dL_task_3 : decode cL_task 3 = .ok (.iload_n 1, 1) := by decide +kernel
theorem dL_task_4 : decode cL_task 4 = .ok (.iload_n 2, 1) := by decide +kernel
theorem dL_task_5 : decode cL_task 5 = .ok (.invokevirtual 31, 3) := by decide +kernel
theorem dL_task_8 : decode cL_task 8 = .ok (.i2l, 1) := by decide +kernel
theorem dL_task_9 : decode cL_task 9 = .ok (.lastore, 1) := by decide +kernel
theorem dL_task_10 : decode cL_task 10 = .ok (.goto 11, 3) := by decide +kernel
theorem dL_task_13 : decode cL_task 13 = .ok (.astore 4, 2) := by decide +kernel
theorem dL_task_15 : decode cL_task 15 = .ok (.iconst 1, 1) := by decide +kernel
theorem dL_task_16 : decode cL_task 16 = .ok (.ireturn, 1) := by decide +kernel
theorem dL_task_17 : decode cL_task 17 = .ok (.astore 4, 2) := by decide +kernel
theorem dL_task_19 : decode cL_task 19 = .ok (.iconst 2, 1) := by decide +kernel
theorem dL_task_20 : decode cL_task 20 = .ok (.ireturn, 1) := by decide +kernel
theorem dL_task_21 : decode cL_task 21 = .ok (.iconst 0, 1) := by decide +kernel
theorem dL_task_22 : decode cL_task 22 = .ok (.ireturn, 1) := by decide +kernel
set_option maxRecDepth 20000 in
theorem ggL_value_X7_value : GoodIn wsL_value wsX7_value := goodIn_ca (goodIn_r _ [6, 7, 8, 9, 10, 11, 5, 12, 13, 14, 15, 16, 17, 18, 19, 20, 21, 22, 23, 24, 25, 26, 27, 28, 29, 30, 31, 32, 33, 34, 35, 36, 37, 38, 39, 40, 41, 42, 43, 44, 45, 46, 47, 48, 49, 50, 51, 52, 53, 54, 55, 56, 57, 58, 59, 60, 61, 62, 63, 64, 65, 66, 67, 68, 69, 70, 71, 72, 73, 74, 75, 76, 77, 78, 79, 80, 81, 82, 83, 84, 85, 86, 87, 88, 89, 90, 91, 92, 93, 94, 95, 96, 97, 98, 99, 100, 101, 102, 103, 104, 105, 106, 107, 108, 109, 110, 111, 112, 113, 114, 115, 116, 117, 118, 119, 120, 121, 122, 123, 124, 125, 126, 127, 128, 129, 130, 131, 132, 133, 134, 135, 136, 137, 138, 139, 140, 141, 142, 143, 144, 145, 146, 147, 148, 149, 150, 151, 152, 153, 154, 155, 156, 157, 158, 159, 160, 161, 162, 163, 164, 165, 166, 167] (by decide +kernel) (by decide +kernel)) (goodIn_sub (fun _ h => List.mem_cons_of_mem _ (List.mem_append_right _ h)) (by decide +kernel))
set_option maxRecDepth 20000 in
theorem gL_value_X7_value : GoodIn wsL_value (wsV RL 35 RX7 yX7_value wsX7_value) := goodIn_app (goodIn_of _ (by decide +kernel)) ggL_value_X7_value
theorem dL_value_0 : decode cL_value 0 = .ok (.aload_n 2, 1) := by decide +kernel
theorem dL_value_1 : decode cL_value 1 = .ok (.iconst 0, 1) := by decide +kernel
theorem dL_value_2 : decode cL_value 2 = .ok (.aload_n 0, 1) := by decide +kernel
theorem dL_value_3 : decode cL_value 3 = .ok (.iload_n 1, 1) := by decide +kernel
theorem dL_value_4 : decode cL_value 4 = .ok (.invokevirtual 35, 3) := by decide +kernel
theorem dL_value_7 : decode cL_value 7 = .ok (.i2l, 1) := by decide +kernel
theorem dL_value_8 : decode cL_value 8 = .ok (.lastore, 1) := by decide +kernel
theorem dL_value_9 : decode cL_value 9 = .ok (.goto 6, 3) := by decide +kernel
theorem dL_value_12 : decode cL_value 12 = .ok (.astore_n 3, 1) := by decide +kernel
theorem dL_value_13 : decode cL_value 13 = .ok (.iconst 1, 1) := by decide +kernel
theorem dL_value_14 : decode cL_value 14 = .ok (.ireturn, 1) := by decide +kernel
theorem dL_value_15 : decode cL_value 15 = .ok (.iconst 0, 1) := by decide +kernel
theorem dL_value_16 : decode cL_value 16 = .ok (.ireturn, 1) := by decide +kernel
set_option maxRecDepth 20000 in
theorem ggL_firstStart_X7_firstStart : GoodIn wsL_firstStart wsX7_firstStart := goodIn_ca (goodIn_ca (goodIn_r _ [7, 8, 9, 10, 11, 12, 6, 13, 14, 15, 16, 17, 18, 19, 20, 21, 22, 23, 24, 25, 26, 27, 28, 29, 30, 31, 32, 33, 34, 35, 36, 37, 38, 39, 40, 41, 42, 43, 44, 45, 46, 47, 48, 49, 50, 51, 52, 53, 54, 55, 56, 57, 58, 59, 60, 61, 62, 63, 64, 65, 66, 67, 68, 69, 70, 71, 72, 73, 74, 75, 76, 77, 78, 79, 80, 81, 82, 83, 84, 85, 86, 87, 88, 89, 90, 91, 92, 93, 94, 95, 96, 97, 98, 99, 100, 101, 102, 103, 104, 105, 106, 107, 108, 109, 110, 111, 112, 113, 114, 115, 116, 117, 118, 119, 120, 121, 122, 123, 124, 125, 126, 127, 128, 129, 130, 131, 132, 133, 134, 135, 136, 137, 138, 139, 140, 141, 142, 143, 144, 145, 146, 147, 148, 149, 150, 151, 152] (by decide +kernel) (by decide +kernel)) (goodIn_sub (fun _ h => List.mem_cons_of_mem _ (List.mem_append_left _ (List.mem_append_right _ h))) (by decide +kernel))) (goodIn_sub (fun _ h => List.mem_cons_of_mem _ (List.mem_append_right _ h)) (by decide +kernel))
set_option maxRecDepth 20000 in
theorem gL_firstStart_X7_firstStart : GoodIn wsL_firstStart (wsV RL 38 RX7 yX7_firstStart wsX7_firstStart) := goodIn_app (goodIn_of _ (by decide +kernel)) ggL_firstStart_X7_firstStart
theorem dL_firstStart_0 : decode cL_firstStart 0 = .ok (.aload_n 2, 1) := by decide +kernel
theorem dL_firstStart_1 : decode cL_firstStart 1 = .ok (.iconst 0, 1) := by decide +kernel
theorem dL_firstStart_2 : decode cL_firstStart 2 = .ok (.aload_n 0, 1) := by decide +kernel
theorem dL_firstStart_3 : decode cL_firstStart 3 = .ok (.iload_n 1, 1) := by decide +kernel
theorem dL_firstStart_4 : decode cL_firstStart 4 = .ok (.invokevirtual 38, 3) := by decide +kernel
theorem dL_firstStart_7 : decode cL_firstStart 7 = .ok (.i2l, 1) := by decide +kernel
theorem dL_firstStart_8 : decode cL_firstStart 8 = .ok (.lastore, 1) := by decide +kernel
theorem dL_firstStart_9 : decode cL_firstStart 9 = .ok (.goto 9, 3) := by decide +kernel
theorem dL_firstStart_12 : decode cL_firstStart 12 = .ok (.astore_n 3, 1) := by decide +kernel
theorem dL_firstStart_13 : decode cL_firstStart 13 = .ok (.iconst 1, 1) := by decide +kernel
theorem dL_firstStart_14 : decode cL_firstStart 14 = .ok (.ireturn, 1) := by decide +kernel
theorem dL_firstStart_15 : decode cL_firstStart 15 = .ok (.astore_n 3, 1) := by decide +kernel
theorem dL_firstStart_16 : decode cL_firstStart 16 = .ok (.iconst 2, 1) := by decide +kernel
theorem dL_firstStart_17 : decode cL_firstStart 17 = .ok (.ireturn, 1) := by decide +kernel
theorem dL_firstStart_18 : decode cL_firstStart 18 = .ok (.iconst 0, 1) := by decide +kernel
theorem dL_firstStart_19 : decode cL_firstStart 19 = .ok (.ireturn, 1) := by decide +kernel
set_option maxRecDepth 20000 in
theorem ggL_lastEnd_X7_lastEnd : GoodIn wsL_lastEnd wsX7_lastEnd := goodIn_ca (goodIn_ca (goodIn_r _ [7, 8, 9, 10, 11, 12, 6, 13, 14, 15, 16, 17, 18, 19, 20, 21, 22, 23, 24, 25, 26, 27, 28, 29, 30, 31, 32, 33, 34, 35, 36, 37, 38, 39, 40, 41, 42, 43, 44, 45, 46, 47, 48, 49, 50, 51, 52, 53, 54, 55, 56, 57, 58, 59, 60, 61, 62, 63, 64, 65, 66, 67, 68, 69, 70, 71, 72, 73, 74, 75, 76, 77, 78, 79, 80, 81, 82, 83, 84, 85, 86, 87, 88, 89, 90, 91, 92, 93, 94, 95, 96, 97, 98, 99, 100, 101, 102, 103, 104, 105, 106, 107, 108, 109, 110, 111, 112, 113, 114, 115, 116, 117, 118, 119, 120, 121, 122, 123, 124, 125, 126, 127, 128, 129, 130, 131, 132, 133, 134, 135, 136, 137, 138, 139, 140, 141, 142, 143, 144, 145, 146, 147, 148, 149, 150, 151, 152] (by decide +kernel) (by decide +kernel)) (goodIn_sub (fun _ h => List.mem_cons_of_mem _ (List.mem_append_left _ (List.mem_append_right _ h))) (by decide +kernel))) (goodIn_sub (fun _ h => List.mem_cons_of_mem _ (List.mem_append_right _ h)) (by decide +kernel))
set_option maxRecDepth 20000 in
theorem gL_lastEnd_X7_lastEnd : GoodIn wsL_lastEnd (wsV RL 41 RX7 yX7_lastEnd wsX7_lastEnd) := goodIn_app (goodIn_of _ (by decide +kernel)) ggL_lastEnd_X7_lastEnd
theorem dL_lastEnd_0 : decode cL_lastEnd 0 = .ok (.aload_n 2, 1) := by decide +kernel
theorem dL_lastEnd_1 : decode cL_lastEnd 1 = .ok (.iconst 0, 1) := by decide +kernel
theorem dL_lastEnd_2 : decode cL_lastEnd 2 = .ok (.aload_n 0, 1) := by decide +kernel
theorem dL_lastEnd_3 : decode cL_lastEnd 3 = .ok (.iload_n 1, 1) := by decide +kernel
theorem dL_lastEnd_4 : decode cL_lastEnd 4 = .ok (.invokevirtual 41, 3) := by decide +kernel
theorem dL_lastEnd_7 : decode cL_lastEnd 7 = .ok (.i2l, 1) := by decide +kernel
theorem dL_lastEnd_8 : decode cL_lastEnd 8 = .ok (.lastore, 1) := by decide +kernel
theorem dL_lastEnd_9 : decode cL_lastEnd 9 = .ok (.goto 9, 3) := by decide +kernel
theorem dL_lastEnd_12 : decode cL_lastEnd 12 = .ok (.astore_n 3, 1) := by decide +kernel
theorem dL_lastEnd_13 : decode cL_lastEnd 13 = .ok (.iconst 1, 1) := by decide +kernel
theorem dL_lastEnd_14 : decode cL_lastEnd 14 = .ok (.ireturn, 1) := by decide +kernel
theorem dL_lastEnd_15 : decode cL_lastEnd 15 = .ok (.astore_n 3, 1) := by decide +kernel
theorem dL_lastEnd_16 : decode cL_lastEnd 16 = .ok (.iconst 2, 1) := by decide +kernel
theorem dL_lastEnd_17 : decode cL_lastEnd 17 = .ok (.ireturn, 1) := by decide +kernel
theorem dL_lastEnd_18 : decode cL_lastEnd 18 = .ok (.iconst 0, 1) := by decide +kernel
theorem dL_lastEnd_19 : decode cL_lastEnd 19 = .ok (.ireturn, 1) := by decide +kernel
set_option maxRecDepth 20000 in
theorem ggL_precedes_X7_precedes : GoodIn wsL_precedes wsX7_precedes := goodIn_ca (goodIn_ca (goodIn_r _ [7, 8, 9, 10, 11, 6, 12, 13, 14, 15, 16, 17, 18, 19, 20, 21, 22, 23, 24, 25, 26, 27, 28, 29, 30, 31, 32, 33, 34, 35, 36, 37, 38, 39, 40, 41, 42, 43, 44, 45, 46, 47, 48, 49, 50, 51, 52, 53, 54, 55, 56, 57, 58, 59, 60, 61, 62, 63, 64, 65, 66, 67, 68, 69, 70, 71, 72, 73, 74, 75, 76, 77, 78, 79, 80, 81, 82, 83, 84, 85, 86, 87, 88, 89, 90, 91, 92, 93, 94, 95, 96, 97, 98, 99, 100, 101, 102, 103, 104, 105, 106, 107, 108, 109, 110, 111, 112, 113, 114, 115, 116, 117, 118, 119, 120, 121, 122, 123, 124, 125, 126, 127, 128, 129, 130, 131, 132, 133, 134, 135, 136, 137, 138, 139, 140, 141, 142, 143, 144, 145, 146, 147, 148, 149, 150, 151, 152, 153, 154, 155] (by decide +kernel) (by decide +kernel)) (goodIn_sub (fun _ h => List.mem_cons_of_mem _ (List.mem_append_left _ (List.mem_append_right _ h))) (by decide +kernel))) (goodIn_sub (fun _ h => List.mem_cons_of_mem _ (List.mem_append_right _ h)) (by decide +kernel))
set_option maxRecDepth 20000 in
theorem gL_precedes_X7_precedes : GoodIn wsL_precedes (wsV RL 44 RX7 yX7_precedes wsX7_precedes) := goodIn_app (goodIn_of _ (by decide +kernel)) ggL_precedes_X7_precedes
theorem dL_precedes_0 : decode cL_precedes 0 = .ok (.aload_n 3, 1) := by decide +kernel
theorem dL_precedes_1 : decode cL_precedes 1 = .ok (.iconst 0, 1) := by decide +kernel
theorem dL_precedes_2 : decode cL_precedes 2 = .ok (.aload_n 0, 1) := by decide +kernel
theorem dL_precedes_3 : decode cL_precedes 3 = .ok (.iload_n 1, 1) := by decide +kernel
theorem dL_precedes_4 : decode cL_precedes 4 = .ok (.iload_n 2, 1) := by decide +kernel
theorem dL_precedes_5 : decode cL_precedes 5 = .ok (.invokevirtual 44, 3) := by decide +kernel
theorem dL_precedes_8 : decode cL_precedes 8 = .ok (.ifCond .eq 7, 3) := by decide +kernel
theorem dL_precedes_11 : decode cL_precedes 11 = .ok (.lconst 1, 1) := by decide +kernel
theorem dL_precedes_12 : decode cL_precedes 12 = .ok (.goto 4, 3) := by decide +kernel
theorem dL_precedes_15 : decode cL_precedes 15 = .ok (.lconst 0, 1) := by decide +kernel
theorem dL_precedes_16 : decode cL_precedes 16 = .ok (.lastore, 1) := by decide +kernel
theorem dL_precedes_17 : decode cL_precedes 17 = .ok (.goto 11, 3) := by decide +kernel
theorem dL_precedes_20 : decode cL_precedes 20 = .ok (.astore 4, 2) := by decide +kernel
theorem dL_precedes_22 : decode cL_precedes 22 = .ok (.iconst 1, 1) := by decide +kernel
theorem dL_precedes_23 : decode cL_precedes 23 = .ok (.ireturn, 1) := by decide +kernel
theorem dL_precedes_24 : decode cL_precedes 24 = .ok (.astore 4, 2) := by decide +kernel
theorem dL_precedes_26 : decode cL_precedes 26 = .ok (.iconst 2, 1) := by decide +kernel
theorem dL_precedes_27 : decode cL_precedes 27 = .ok (.ireturn, 1) := by decide +kernel
theorem dL_precedes_28 : decode cL_precedes 28 = .ok (.iconst 0, 1) := by decide +kernel
theorem dL_precedes_29 : decode cL_precedes 29 = .ok (.ireturn, 1) := by decide +kernel
set_option maxRecDepth 20000 in
theorem ggL_why_X7_why : GoodIn wsL_why wsX7_why := goodIn_ca (goodIn_ca (goodIn_r _ [7, 8, 9, 10, 11, 6, 12, 13, 14, 15, 16, 17, 18, 19, 20, 21, 22, 23, 24, 25, 26, 27, 28, 29, 30, 31, 32, 33, 34, 35, 36, 37, 38, 39, 40, 41, 42, 43, 44, 45, 46, 47, 48, 49, 50, 51, 52, 53, 54, 55, 56, 57, 58, 59, 60, 61, 62, 63, 64, 65, 66, 67, 68, 69, 70, 71, 72, 73, 74, 75, 76, 77, 78, 79, 80, 81, 82, 83, 84, 85, 86, 87, 88, 89, 90, 91, 92, 93, 94, 95, 96, 97, 98, 99, 100, 101, 102, 103, 104, 105, 106, 107, 108, 109, 110, 111, 112, 113, 114, 115, 116, 117, 118, 119, 120, 121, 122, 123, 124, 125, 126, 127, 128, 129, 130, 131, 132, 133, 134, 135, 136, 137, 138, 139, 140, 141, 142, 143, 144, 145, 146, 147, 148, 149, 150, 151, 152, 153, 154, 155, 156, 157, 158, 159, 160, 161, 162, 163, 164, 165, 166, 167, 168] (by decide +kernel) (by decide +kernel)) (goodIn_sub (fun _ h => List.mem_cons_of_mem _ (List.mem_append_left _ (List.mem_append_right _ h))) (by decide +kernel))) (goodIn_sub (fun _ h => List.mem_cons_of_mem _ (List.mem_append_right _ h)) (by decide +kernel))
set_option maxRecDepth 20000 in
theorem gL_why_X7_why : GoodIn wsL_why (wsV RL 48 RX7 yX7_why wsX7_why) := goodIn_app (goodIn_of _ (by decide +kernel)) ggL_why_X7_why
theorem dL_why_0 : decode cL_why 0 = .ok (.aload_n 3, 1) := by decide +kernel
theorem dL_why_1 : decode cL_why 1 = .ok (.iconst 0, 1) := by decide +kernel
theorem dL_why_2 : decode cL_why 2 = .ok (.aload_n 0, 1) := by decide +kernel
theorem dL_why_3 : decode cL_why 3 = .ok (.iload_n 1, 1) := by decide +kernel
theorem dL_why_4 : decode cL_why 4 = .ok (.iload_n 2, 1) := by decide +kernel
theorem dL_why_5 : decode cL_why 5 = .ok (.invokevirtual 48, 3) := by decide +kernel
theorem dL_why_8 : decode cL_why 8 = .ok (.i2l, 1) := by decide +kernel
theorem dL_why_9 : decode cL_why 9 = .ok (.lastore, 1) := by decide +kernel
theorem dL_why_10 : decode cL_why 10 = .ok (.goto 11, 3) := by decide +kernel
theorem dL_why_13 : decode cL_why 13 = .ok (.astore 4, 2) := by decide +kernel
theorem dL_why_15 : decode cL_why 15 = .ok (.iconst 1, 1) := by decide +kernel
theorem dL_why_16 : decode cL_why 16 = .ok (.ireturn, 1) := by decide +kernel
theorem dL_why_17 : decode cL_why 17 = .ok (.astore 4, 2) := by decide +kernel
theorem dL_why_19 : decode cL_why 19 = .ok (.iconst 2, 1) := by decide +kernel
theorem dL_why_20 : decode cL_why 20 = .ok (.ireturn, 1) := by decide +kernel
theorem dL_why_21 : decode cL_why 21 = .ok (.iconst 0, 1) := by decide +kernel
theorem dL_why_22 : decode cL_why 22 = .ok (.ireturn, 1) := by decide +kernel
set_option maxRecDepth 20000 in
theorem ggL_because_X7_because : GoodIn wsL_because wsX7_because := goodIn_ca (goodIn_ca (goodIn_r _ [7, 8, 9, 10, 11, 6, 12, 13, 14, 15, 16, 17, 18, 19, 20, 21, 22, 23, 24, 25, 26, 27, 28, 29, 30, 31, 32, 33, 34, 35, 36, 37, 38, 39, 40, 41, 42, 43, 44, 45, 46, 47, 48, 49, 50, 51, 52, 53, 54, 55, 56, 57, 58, 59, 60, 61, 62, 63, 64, 65, 66, 67, 68, 69, 70, 71, 72, 73, 74, 75, 76, 77, 78, 79, 80, 81, 82, 83, 84, 85, 86, 87, 88, 89, 90, 91, 92, 93, 94, 95, 96, 97, 98, 99, 100, 101, 102, 103, 104, 105, 106, 107, 108, 109, 110, 111, 112, 113, 114, 115, 116, 117, 118, 119, 120, 121, 122, 123, 124, 125, 126, 127, 128, 129, 130, 131, 132, 133, 134, 135, 136, 137, 138, 139, 140, 141, 142, 143, 144, 145, 146, 147, 148, 149, 150, 151, 152, 153, 154, 155] (by decide +kernel) (by decide +kernel)) (goodIn_sub (fun _ h => List.mem_cons_of_mem _ (List.mem_append_left _ (List.mem_append_right _ h))) (by decide +kernel))) (goodIn_sub (fun _ h => List.mem_cons_of_mem _ (List.mem_append_right _ h)) (by decide +kernel))
set_option maxRecDepth 20000 in
theorem gL_because_X7_because : GoodIn wsL_because (wsV RL 51 RX7 yX7_because wsX7_because) := goodIn_app (goodIn_of _ (by decide +kernel)) ggL_because_X7_because
theorem dL_because_0 : decode cL_because 0 = .ok (.aload_n 3, 1) := by decide +kernel
theorem dL_because_1 : decode cL_because 1 = .ok (.iconst 0, 1) := by decide +kernel
theorem dL_because_2 : decode cL_because 2 = .ok (.aload_n 0, 1) := by decide +kernel
theorem dL_because_3 : decode cL_because 3 = .ok (.iload_n 1, 1) := by decide +kernel
theorem dL_because_4 : decode cL_because 4 = .ok (.iload_n 2, 1) := by decide +kernel
theorem dL_because_5 : decode cL_because 5 = .ok (.invokevirtual 51, 3) := by decide +kernel
theorem dL_because_8 : decode cL_because 8 = .ok (.i2l, 1) := by decide +kernel
theorem dL_because_9 : decode cL_because 9 = .ok (.lastore, 1) := by decide +kernel
theorem dL_because_10 : decode cL_because 10 = .ok (.goto 11, 3) := by decide +kernel
theorem dL_because_13 : decode cL_because 13 = .ok (.astore 4, 2) := by decide +kernel
theorem dL_because_15 : decode cL_because 15 = .ok (.iconst 1, 1) := by decide +kernel
theorem dL_because_16 : decode cL_because 16 = .ok (.ireturn, 1) := by decide +kernel
theorem dL_because_17 : decode cL_because 17 = .ok (.astore 4, 2) := by decide +kernel
theorem dL_because_19 : decode cL_because 19 = .ok (.iconst 2, 1) := by decide +kernel
theorem dL_because_20 : decode cL_because 20 = .ok (.ireturn, 1) := by decide +kernel
theorem dL_because_21 : decode cL_because 21 = .ok (.iconst 0, 1) := by decide +kernel
theorem dL_because_22 : decode cL_because 22 = .ok (.ireturn, 1) := by decide +kernel
set_option maxRecDepth 20000 in
theorem ggL_slack_X7_slack : GoodIn wsL_slack wsX7_slack := goodIn_ca (goodIn_ca (goodIn_r _ [7, 8, 9, 10, 11, 12, 13, 14, 15, 6, 16, 17, 18, 19, 20, 21, 22, 23, 24, 25, 26, 27, 28, 29, 30, 31, 32, 33, 34, 35, 36, 37, 38, 39, 40, 41, 42, 43, 44, 45, 46, 47, 48, 49, 50, 51, 52, 53, 54, 55, 56, 57, 58, 59, 60, 61, 62, 63, 64, 65, 66, 67, 68, 69, 70, 71, 72, 73, 74, 75, 76, 77, 78, 79, 80, 81, 82, 83, 84, 85, 86, 87, 88, 89, 90, 91, 92, 93, 94, 95, 96, 97, 98, 99, 100, 101, 102, 103, 104, 105, 106, 107, 108, 109, 110, 111, 112, 113, 114, 115, 116, 117, 118, 119, 120, 121, 122, 123, 124, 125, 126, 127, 128, 129, 130, 131, 132, 133, 134, 135, 136, 137, 138, 139, 140, 141, 142, 143, 144, 145, 146, 147, 148, 149, 150, 151, 152, 153, 154] (by decide +kernel) (by decide +kernel)) (goodIn_sub (fun _ h => List.mem_cons_of_mem _ (List.mem_append_left _ (List.mem_append_right _ h))) (by decide +kernel))) (goodIn_sub (fun _ h => List.mem_cons_of_mem _ (List.mem_append_right _ h)) (by decide +kernel))
set_option maxRecDepth 20000 in
theorem gL_slack_X7_slack : GoodIn wsL_slack (wsV RL 54 RX7 yX7_slack wsX7_slack) := goodIn_app (goodIn_of _ (by decide +kernel)) ggL_slack_X7_slack
theorem dL_slack_0 : decode cL_slack 0 = .ok (.aload_n 2, 1) := by decide +kernel
theorem dL_slack_1 : decode cL_slack 1 = .ok (.iconst 0, 1) := by decide +kernel
theorem dL_slack_2 : decode cL_slack 2 = .ok (.aload_n 0, 1) := by decide +kernel
theorem dL_slack_3 : decode cL_slack 3 = .ok (.iload_n 1, 1) := by decide +kernel
theorem dL_slack_4 : decode cL_slack 4 = .ok (.invokevirtual 54, 3) := by decide +kernel
theorem dL_slack_7 : decode cL_slack 7 = .ok (.i2l, 1) := by decide +kernel
theorem dL_slack_8 : decode cL_slack 8 = .ok (.lastore, 1) := by decide +kernel
theorem dL_slack_9 : decode cL_slack 9 = .ok (.goto 9, 3) := by decide +kernel
theorem dL_slack_12 : decode cL_slack 12 = .ok (.astore_n 3, 1) := by decide +kernel
theorem dL_slack_13 : decode cL_slack 13 = .ok (.iconst 1, 1) := by decide +kernel
theorem dL_slack_14 : decode cL_slack 14 = .ok (.ireturn, 1) := by decide +kernel
theorem dL_slack_15 : decode cL_slack 15 = .ok (.astore_n 3, 1) := by decide +kernel
theorem dL_slack_16 : decode cL_slack 16 = .ok (.iconst 2, 1) := by decide +kernel
theorem dL_slack_17 : decode cL_slack 17 = .ok (.ireturn, 1) := by decide +kernel
theorem dL_slack_18 : decode cL_slack 18 = .ok (.iconst 0, 1) := by decide +kernel
theorem dL_slack_19 : decode cL_slack 19 = .ok (.ireturn, 1) := by decide +kernel
set_option maxRecDepth 20000 in
theorem ggL_inBest_X7_inBest : GoodIn wsL_inBest wsX7_inBest := goodIn_ca (goodIn_ca (goodIn_r _ [7, 8, 9, 10, 11, 12, 13, 14, 15, 16, 6, 17, 18, 19, 20, 21, 22, 23, 24, 25, 26, 27, 28, 29, 30, 31, 32, 33, 34, 35, 36, 37, 38, 39, 40, 41, 42, 43, 44, 45, 46, 47, 48, 49, 50, 51, 52, 53, 54, 55, 56, 57, 58, 59, 60, 61, 62, 63, 64, 65, 66, 67, 68, 69, 70, 71, 72, 73, 74, 75, 76, 77, 78, 79, 80, 81, 82, 83, 84, 85, 86, 87, 88, 89, 90, 91, 92, 93, 94, 95, 96, 97, 98, 99, 100, 101, 102, 103, 104, 105, 106, 107, 108, 109, 110, 111, 112, 113, 114, 115, 116, 117, 118, 119, 120, 121, 122, 123, 124, 125, 126, 127, 128, 129, 130, 131, 132, 133, 134, 135, 136, 137, 138, 139, 140, 141, 142, 143, 144, 145, 146, 147, 148, 149, 150, 151, 152, 153, 154, 155, 156, 157, 158, 159, 160, 161, 162, 163, 164, 165, 166, 167, 168, 169, 170, 171, 172, 173, 174, 175, 176, 177, 178, 179, 180, 181, 182, 183, 184, 185, 186, 187, 188, 189, 190, 191, 192, 193, 194, 195, 196, 197, 198, 199, 200, 201, 202, 203, 204, 205, 206, 207, 208, 209, 210, 211, 212, 213, 214, 215, 216, 217, 218, 219, 220, 221, 222, 223, 224, 225, 226, 227, 228, 229, 230, 231] (by decide +kernel) (by decide +kernel)) (goodIn_sub (fun _ h => List.mem_cons_of_mem _ (List.mem_append_left _ (List.mem_append_right _ h))) (by decide +kernel))) (goodIn_sub (fun _ h => List.mem_cons_of_mem _ (List.mem_append_right _ h)) (by decide +kernel))
set_option maxRecDepth 20000 in
theorem gL_inBest_X7_inBest : GoodIn wsL_inBest (wsV RL 57 RX7 yX7_inBest wsX7_inBest) := goodIn_app (goodIn_of _ (by decide +kernel)) ggL_inBest_X7_inBest
theorem dL_inBest_0 : decode cL_inBest 0 = .ok (.aload_n 3, 1) := by decide +kernel
theorem dL_inBest_1 : decode cL_inBest 1 = .ok (.iconst 0, 1) := by decide +kernel
theorem dL_inBest_2 : decode cL_inBest 2 = .ok (.aload_n 0, 1) := by decide +kernel
theorem dL_inBest_3 : decode cL_inBest 3 = .ok (.iload_n 1, 1) := by decide +kernel
theorem dL_inBest_4 : decode cL_inBest 4 = .ok (.iload_n 2, 1) := by decide +kernel
theorem dL_inBest_5 : decode cL_inBest 5 = .ok (.invokevirtual 57, 3) := by decide +kernel
theorem dL_inBest_8 : decode cL_inBest 8 = .ok (.i2l, 1) := by decide +kernel
theorem dL_inBest_9 : decode cL_inBest 9 = .ok (.lastore, 1) := by decide +kernel
theorem dL_inBest_10 : decode cL_inBest 10 = .ok (.goto 11, 3) := by decide +kernel
theorem dL_inBest_13 : decode cL_inBest 13 = .ok (.astore 4, 2) := by decide +kernel
theorem dL_inBest_15 : decode cL_inBest 15 = .ok (.iconst 1, 1) := by decide +kernel
theorem dL_inBest_16 : decode cL_inBest 16 = .ok (.ireturn, 1) := by decide +kernel
theorem dL_inBest_17 : decode cL_inBest 17 = .ok (.astore 4, 2) := by decide +kernel
theorem dL_inBest_19 : decode cL_inBest 19 = .ok (.iconst 2, 1) := by decide +kernel
theorem dL_inBest_20 : decode cL_inBest 20 = .ok (.ireturn, 1) := by decide +kernel
theorem dL_inBest_21 : decode cL_inBest 21 = .ok (.iconst 0, 1) := by decide +kernel
theorem dL_inBest_22 : decode cL_inBest 22 = .ok (.ireturn, 1) := by decide +kernel
set_option maxRecDepth 20000 in
theorem ggL_drawn_X7_drawn : GoodIn wsL_drawn wsX7_drawn := goodIn_ca (goodIn_r _ [6, 7, 8, 9, 10, 11, 12, 13, 14, 15, 16, 17, 18, 19, 20, 21, 22, 23, 24, 25, 26, 27, 28, 29, 30, 31, 32, 33, 34, 35, 36, 37, 38, 39, 40, 5, 41, 42, 43, 44, 45, 46, 47, 48, 49, 50, 51, 52, 53, 54, 55, 56, 57, 58, 59, 60, 61, 62, 63, 64, 65, 66, 67, 68, 69, 70, 71, 72, 73, 74, 75, 76, 77, 78, 79, 80, 81, 82, 83, 84, 85, 86, 87, 88, 89, 90, 91, 92, 93, 94, 95] (by decide +kernel) (by decide +kernel)) (goodIn_sub (fun _ h => List.mem_cons_of_mem _ (List.mem_append_right _ h)) (by decide +kernel))
set_option maxRecDepth 20000 in
theorem gL_drawn_X7_drawn : GoodIn wsL_drawn (wsV RL 60 RX7 yX7_drawn wsX7_drawn) := goodIn_app (goodIn_of _ (by decide +kernel)) ggL_drawn_X7_drawn
theorem dL_drawn_0 : decode cL_drawn 0 = .ok (.aload_n 3, 1) := by decide +kernel
theorem dL_drawn_1 : decode cL_drawn 1 = .ok (.iconst 0, 1) := by decide +kernel
theorem dL_drawn_2 : decode cL_drawn 2 = .ok (.aload_n 0, 1) := by decide +kernel
theorem dL_drawn_3 : decode cL_drawn 3 = .ok (.iload_n 1, 1) := by decide +kernel
theorem dL_drawn_4 : decode cL_drawn 4 = .ok (.iload_n 2, 1) := by decide +kernel
theorem dL_drawn_5 : decode cL_drawn 5 = .ok (.invokevirtual 60, 3) := by decide +kernel
theorem dL_drawn_8 : decode cL_drawn 8 = .ok (.i2l, 1) := by decide +kernel
theorem dL_drawn_9 : decode cL_drawn 9 = .ok (.lastore, 1) := by decide +kernel
theorem dL_drawn_10 : decode cL_drawn 10 = .ok (.goto 7, 3) := by decide +kernel
theorem dL_drawn_13 : decode cL_drawn 13 = .ok (.astore 4, 2) := by decide +kernel
theorem dL_drawn_15 : decode cL_drawn 15 = .ok (.iconst 1, 1) := by decide +kernel
theorem dL_drawn_16 : decode cL_drawn 16 = .ok (.ireturn, 1) := by decide +kernel
theorem dL_drawn_17 : decode cL_drawn 17 = .ok (.iconst 0, 1) := by decide +kernel
theorem dL_drawn_18 : decode cL_drawn 18 = .ok (.ireturn, 1) := by decide +kernel
set_option maxRecDepth 20000 in
theorem ggL_dominates_X7_dominates : GoodIn wsL_dominates wsX7_dominates := goodIn_ca (goodIn_r _ [6, 7, 8, 9, 10, 5, 11, 12, 13, 14, 15, 16, 17, 18, 19, 20, 21, 22, 23, 24, 25, 26, 27, 28, 29, 30, 31, 32, 33, 34, 35, 36, 37, 38, 39, 40, 41, 42, 43, 44, 45, 46, 47, 48, 49, 50, 51, 52, 53] (by decide +kernel) (by decide +kernel)) (goodIn_sub (fun _ h => List.mem_cons_of_mem _ (List.mem_append_right _ h)) (by decide +kernel))
set_option maxRecDepth 20000 in
theorem gL_dominates_X7_dominates : GoodIn wsL_dominates (wsV RL 63 RX7 yX7_dominates wsX7_dominates) := goodIn_app (goodIn_of _ (by decide +kernel)) ggL_dominates_X7_dominates
theorem dL_dominates_0 : decode cL_dominates 0 = .ok (.aload_n 3, 1) := by decide +kernel
theorem dL_dominates_1 : decode cL_dominates 1 = .ok (.iconst 0, 1) := by decide +kernel
theorem dL_dominates_2 : decode cL_dominates 2 = .ok (.aload_n 0, 1) := by decide +kernel
theorem dL_dominates_3 : decode cL_dominates 3 = .ok (.iload_n 1, 1) := by decide +kernel
theorem dL_dominates_4 : decode cL_dominates 4 = .ok (.iload_n 2, 1) := by decide +kernel
theorem dL_dominates_5 : decode cL_dominates 5 = .ok (.invokevirtual 63, 3) := by decide +kernel
theorem dL_dominates_8 : decode cL_dominates 8 = .ok (.ifCond .eq 7, 3) := by decide +kernel
theorem dL_dominates_11 : decode cL_dominates 11 = .ok (.lconst 1, 1) := by decide +kernel
theorem dL_dominates_12 : decode cL_dominates 12 = .ok (.goto 4, 3) := by decide +kernel
theorem dL_dominates_15 : decode cL_dominates 15 = .ok (.lconst 0, 1) := by decide +kernel
theorem dL_dominates_16 : decode cL_dominates 16 = .ok (.lastore, 1) := by decide +kernel
theorem dL_dominates_17 : decode cL_dominates 17 = .ok (.goto 7, 3) := by decide +kernel
theorem dL_dominates_20 : decode cL_dominates 20 = .ok (.astore 4, 2) := by decide +kernel
theorem dL_dominates_22 : decode cL_dominates 22 = .ok (.iconst 1, 1) := by decide +kernel
theorem dL_dominates_23 : decode cL_dominates 23 = .ok (.ireturn, 1) := by decide +kernel
theorem dL_dominates_24 : decode cL_dominates 24 = .ok (.iconst 0, 1) := by decide +kernel
theorem dL_dominates_25 : decode cL_dominates 25 = .ok (.ireturn, 1) := by decide +kernel
set_option maxRecDepth 20000 in
theorem ggL_leastDue_X7_leastDue : GoodIn wsL_leastDue wsX7_leastDue := goodIn_ca (goodIn_r _ [6, 7, 8, 9, 5, 10, 11, 12, 13, 14, 15, 16, 17, 18, 19, 20, 21, 22, 23, 24, 25, 26, 27, 28, 29, 30, 31, 32, 33, 34, 35, 36, 37, 38, 39, 40, 41, 42, 43, 44, 45, 46, 47, 48, 49, 50, 51, 52, 53, 54, 55, 56, 57, 58, 59, 60, 61, 62, 63, 64, 65, 66, 67, 68, 69, 70, 71, 72, 73, 74, 75, 76, 77, 78, 79, 80, 81, 82, 83, 84, 85, 86, 87, 88, 89, 90, 91, 92, 93, 94, 95, 96, 97, 98, 99, 100, 101, 102, 103, 104, 105, 106, 107, 108, 109, 110, 111, 112, 113, 114, 115, 116, 117, 118, 119, 120, 121, 122, 123, 124, 125, 126, 127, 128, 129, 130, 131, 132, 133, 134, 135, 136, 137, 138, 139, 140, 141, 142, 143, 144, 145, 146, 147, 148, 149, 150, 151, 152, 153, 154, 155, 156] (by decide +kernel) (by decide +kernel)) (goodIn_sub (fun _ h => List.mem_cons_of_mem _ (List.mem_append_right _ h)) (by decide +kernel))
set_option maxRecDepth 20000 in
theorem gL_leastDue_X7_leastDue : GoodIn wsL_leastDue (wsV RL 66 RX7 yX7_leastDue wsX7_leastDue) := goodIn_app (goodIn_of _ (by decide +kernel)) ggL_leastDue_X7_leastDue
theorem dL_leastDue_0 : decode cL_leastDue 0 = .ok (.aload_n 2, 1) := by decide +kernel
theorem dL_leastDue_1 : decode cL_leastDue 1 = .ok (.iconst 0, 1) := by decide +kernel
theorem dL_leastDue_2 : decode cL_leastDue 2 = .ok (.aload_n 0, 1) := by decide +kernel
theorem dL_leastDue_3 : decode cL_leastDue 3 = .ok (.iload_n 1, 1) := by decide +kernel
theorem dL_leastDue_4 : decode cL_leastDue 4 = .ok (.invokevirtual 66, 3) := by decide +kernel
theorem dL_leastDue_7 : decode cL_leastDue 7 = .ok (.i2l, 1) := by decide +kernel
theorem dL_leastDue_8 : decode cL_leastDue 8 = .ok (.lastore, 1) := by decide +kernel
theorem dL_leastDue_9 : decode cL_leastDue 9 = .ok (.goto 6, 3) := by decide +kernel
theorem dL_leastDue_12 : decode cL_leastDue 12 = .ok (.astore_n 3, 1) := by decide +kernel
theorem dL_leastDue_13 : decode cL_leastDue 13 = .ok (.iconst 1, 1) := by decide +kernel
theorem dL_leastDue_14 : decode cL_leastDue 14 = .ok (.ireturn, 1) := by decide +kernel
theorem dL_leastDue_15 : decode cL_leastDue 15 = .ok (.iconst 0, 1) := by decide +kernel
theorem dL_leastDue_16 : decode cL_leastDue 16 = .ok (.ireturn, 1) := by decide +kernel
set_option maxRecDepth 20000 in
theorem ggL_refutes_X7_refutes : GoodIn wsL_refutes wsX7_refutes := goodIn_ca (goodIn_r _ [6, 7, 8, 9, 10, 11, 12, 13, 5, 14, 15, 16, 17, 18, 19, 20, 21, 22, 23, 24, 25, 26, 27, 28, 29, 30, 31, 32, 33, 34, 35, 36, 37, 38, 39, 40, 41, 42, 43, 44, 45, 46, 47, 48, 49, 50, 51, 52, 53, 54, 55, 56, 57, 58, 59, 60, 61, 62, 63, 64, 65, 66, 67, 68, 69, 70, 71, 72, 73, 74, 75, 76, 77, 78, 79, 80, 81, 82, 83, 84, 85, 86, 87, 88, 89, 90, 91, 92, 93, 94, 95, 96, 97, 98, 99, 100, 101, 102, 103, 104, 105, 106, 107, 108, 109, 110, 111, 112, 113, 114, 115, 116, 117, 118, 119, 120, 121, 122, 123, 124, 125, 126, 127, 128, 129, 130, 131, 132, 133, 134, 135, 136, 137, 138, 139, 140, 141, 142, 143, 144, 145, 146, 147, 148, 149, 150, 151, 152, 153, 154, 155] (by decide +kernel) (by decide +kernel)) (goodIn_sub (fun _ h => List.mem_cons_of_mem _ (List.mem_append_right _ h)) (by decide +kernel))
set_option maxRecDepth 20000 in
theorem gL_refutes_X7_refutes : GoodIn wsL_refutes (wsV RL 69 RX7 yX7_refutes wsX7_refutes) := goodIn_app (goodIn_of _ (by decide +kernel)) ggL_refutes_X7_refutes
theorem dL_refutes_0 : decode cL_refutes 0 = .ok (.aload_n 3, 1) := by decide +kernel
theorem dL_refutes_1 : decode cL_refutes 1 = .ok (.iconst 0, 1) := by decide +kernel
theorem dL_refutes_2 : decode cL_refutes 2 = .ok (.aload_n 0, 1) := by decide +kernel
theorem dL_refutes_3 : decode cL_refutes 3 = .ok (.iload_n 1, 1) := by decide +kernel
theorem dL_refutes_4 : decode cL_refutes 4 = .ok (.iload_n 2, 1) := by decide +kernel
theorem dL_refutes_5 : decode cL_refutes 5 = .ok (.invokevirtual 69, 3) := by decide +kernel
theorem dL_refutes_8 : decode cL_refutes 8 = .ok (.ifCond .eq 7, 3) := by decide +kernel
theorem dL_refutes_11 : decode cL_refutes 11 = .ok (.lconst 1, 1) := by decide +kernel
theorem dL_refutes_12 : decode cL_refutes 12 = .ok (.goto 4, 3) := by decide +kernel
theorem dL_refutes_15 : decode cL_refutes 15 = .ok (.lconst 0, 1) := by decide +kernel
theorem dL_refutes_16 : decode cL_refutes 16 = .ok (.lastore, 1) := by decide +kernel
theorem dL_refutes_17 : decode cL_refutes 17 = .ok (.goto 7, 3) := by decide +kernel
theorem dL_refutes_20 : decode cL_refutes 20 = .ok (.astore 4, 2) := by decide +kernel
theorem dL_refutes_22 : decode cL_refutes 22 = .ok (.iconst 1, 1) := by decide +kernel
theorem dL_refutes_23 : decode cL_refutes 23 = .ok (.ireturn, 1) := by decide +kernel
theorem dL_refutes_24 : decode cL_refutes 24 = .ok (.iconst 0, 1) := by decide +kernel
theorem dL_refutes_25 : decode cL_refutes 25 = .ok (.ireturn, 1) := by decide +kernel
set_option maxRecDepth 20000 in
theorem ggL_decided_X7_decided : GoodIn wsL_decided wsX7_decided := goodIn_ca (goodIn_r _ [6, 7, 8, 9, 10, 11, 5, 12, 13, 14, 15, 16, 17, 18, 19, 20, 21, 22, 23, 24, 25, 26, 27, 28, 29, 30, 31, 32, 33, 34, 35, 36, 37, 38, 39, 40, 41, 42, 43, 44, 45, 46, 47, 48, 49, 50, 51, 52, 53, 54, 55, 56, 57, 58, 59, 60, 61, 62, 63, 64, 65, 66, 67, 68, 69, 70, 71, 72, 73, 74, 75, 76, 77, 78, 79, 80, 81, 82, 83, 84, 85, 86, 87, 88, 89, 90, 91, 92, 93, 94, 95, 96, 97, 98, 99, 100, 101, 102, 103, 104, 105, 106, 107, 108, 109, 110, 111, 112, 113, 114, 115, 116, 117, 118, 119, 120, 121, 122, 123, 124, 125, 126, 127, 128, 129, 130, 131, 132, 133, 134, 135, 136, 137, 138, 139, 140, 141, 142, 143, 144, 145, 146, 147, 148, 149, 150, 151, 152, 153] (by decide +kernel) (by decide +kernel)) (goodIn_sub (fun _ h => List.mem_cons_of_mem _ (List.mem_append_right _ h)) (by decide +kernel))
set_option maxRecDepth 20000 in
theorem gL_decided_X7_decided : GoodIn wsL_decided (wsV RL 72 RX7 yX7_decided wsX7_decided) := goodIn_app (goodIn_of _ (by decide +kernel)) ggL_decided_X7_decided
theorem dL_decided_0 : decode cL_decided 0 = .ok (.aload_n 1, 1) := by decide +kernel
theorem dL_decided_1 : decode cL_decided 1 = .ok (.iconst 0, 1) := by decide +kernel
theorem dL_decided_2 : decode cL_decided 2 = .ok (.aload_n 0, 1) := by decide +kernel
theorem dL_decided_3 : decode cL_decided 3 = .ok (.invokevirtual 72, 3) := by decide +kernel
theorem dL_decided_6 : decode cL_decided 6 = .ok (.dastore, 1) := by decide +kernel
theorem dL_decided_7 : decode cL_decided 7 = .ok (.goto 6, 3) := by decide +kernel
theorem dL_decided_10 : decode cL_decided 10 = .ok (.astore_n 2, 1) := by decide +kernel
theorem dL_decided_11 : decode cL_decided 11 = .ok (.iconst 1, 1) := by decide +kernel
theorem dL_decided_12 : decode cL_decided 12 = .ok (.ireturn, 1) := by decide +kernel
theorem dL_decided_13 : decode cL_decided 13 = .ok (.iconst 0, 1) := by decide +kernel
theorem dL_decided_14 : decode cL_decided 14 = .ok (.ireturn, 1) := by decide +kernel
set_option maxRecDepth 20000 in
theorem ggL_append_X7_append : GoodIn wsL_append wsX7_append := goodIn_ca (goodIn_ca (goodIn_r _ [7, 8, 9, 10, 11, 12, 13, 14, 15, 16, 17, 18, 19, 20, 21, 22, 23, 24, 25, 26, 27, 28, 29, 30, 31, 32, 33, 34, 35, 36, 37, 38, 39, 40, 41] (by decide +kernel) (by decide +kernel)) (goodIn_sub (fun _ h => List.mem_cons_of_mem _ (List.mem_append_left _ (List.mem_append_right _ h))) (by decide +kernel))) (goodIn_sub (fun _ h => List.mem_cons_of_mem _ (List.mem_append_right _ h)) (by decide +kernel))
set_option maxRecDepth 20000 in
theorem gL_append_X7_append : GoodIn wsL_append (wsV RL 76 RX7 yX7_append wsX7_append) := goodIn_app (goodIn_of _ (by decide +kernel)) ggL_append_X7_append
theorem dL_append_0 : decode cL_append 0 = .ok (.aload_n 2, 1) := by decide +kernel
theorem dL_append_1 : decode cL_append 1 = .ok (.iconst 0, 1) := by decide +kernel
theorem dL_append_2 : decode cL_append 2 = .ok (.aload_n 0, 1) := by decide +kernel
theorem dL_append_3 : decode cL_append 3 = .ok (.iload_n 1, 1) := by decide +kernel
theorem dL_append_4 : decode cL_append 4 = .ok (.invokevirtual 76, 3) := by decide +kernel
theorem dL_append_7 : decode cL_append 7 = .ok (.i2l, 1) := by decide +kernel
theorem dL_append_8 : decode cL_append 8 = .ok (.lastore, 1) := by decide +kernel
theorem dL_append_9 : decode cL_append 9 = .ok (.goto 9, 3) := by decide +kernel
theorem dL_append_12 : decode cL_append 12 = .ok (.astore_n 3, 1) := by decide +kernel
theorem dL_append_13 : decode cL_append 13 = .ok (.iconst 1, 1) := by decide +kernel
theorem dL_append_14 : decode cL_append 14 = .ok (.ireturn, 1) := by decide +kernel
theorem dL_append_15 : decode cL_append 15 = .ok (.astore_n 3, 1) := by decide +kernel
theorem dL_append_16 : decode cL_append 16 = .ok (.iconst 2, 1) := by decide +kernel
theorem dL_append_17 : decode cL_append 17 = .ok (.ireturn, 1) := by decide +kernel
theorem dL_append_18 : decode cL_append 18 = .ok (.iconst 0, 1) := by decide +kernel
theorem dL_append_19 : decode cL_append 19 = .ok (.ireturn, 1) := by decide +kernel
set_option maxRecDepth 20000 in
theorem ggL_undo_X7_undo : GoodIn wsL_undo wsX7_undo := goodIn_ca (goodIn_r _ [6, 7, 8, 9, 10, 11, 12, 13, 14, 15, 16, 17, 18, 19, 20, 21, 22, 23, 24, 25, 26, 27, 28, 29, 30, 31, 32, 33, 34, 5, 35, 36, 37, 38, 39, 40, 41, 42, 43, 44, 45, 46, 47, 48, 49, 50, 51, 52, 53, 54, 55, 56, 57] (by decide +kernel) (by decide +kernel)) (goodIn_sub (fun _ h => List.mem_cons_of_mem _ (List.mem_append_right _ h)) (by decide +kernel))
set_option maxRecDepth 20000 in
theorem gL_undo_X7_undo : GoodIn wsL_undo (wsV RL 79 RX7 yX7_undo wsX7_undo) := goodIn_app (goodIn_of _ (by decide +kernel)) ggL_undo_X7_undo
theorem dL_undo_0 : decode cL_undo 0 = .ok (.aload_n 1, 1) := by decide +kernel
theorem dL_undo_1 : decode cL_undo 1 = .ok (.iconst 0, 1) := by decide +kernel
theorem dL_undo_2 : decode cL_undo 2 = .ok (.aload_n 0, 1) := by decide +kernel
theorem dL_undo_3 : decode cL_undo 3 = .ok (.invokevirtual 79, 3) := by decide +kernel
theorem dL_undo_6 : decode cL_undo 6 = .ok (.i2l, 1) := by decide +kernel
theorem dL_undo_7 : decode cL_undo 7 = .ok (.lastore, 1) := by decide +kernel
theorem dL_undo_8 : decode cL_undo 8 = .ok (.goto 6, 3) := by decide +kernel
theorem dL_undo_11 : decode cL_undo 11 = .ok (.astore_n 2, 1) := by decide +kernel
theorem dL_undo_12 : decode cL_undo 12 = .ok (.iconst 1, 1) := by decide +kernel
theorem dL_undo_13 : decode cL_undo 13 = .ok (.ireturn, 1) := by decide +kernel
theorem dL_undo_14 : decode cL_undo 14 = .ok (.iconst 0, 1) := by decide +kernel
theorem dL_undo_15 : decode cL_undo 15 = .ok (.ireturn, 1) := by decide +kernel
