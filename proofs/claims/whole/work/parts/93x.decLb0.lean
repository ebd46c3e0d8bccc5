/-! the law: decoded rows -/
set_option maxRecDepth 20000 in
theorem ggL_law_X7_init : GoodIn wsL_law wsX7_init := goodIn_r _ [10, 11, 12, 13, 14, 15, 16, 17, 18, 19, 20, 21, 22, 23, 24, 25, 26, 27, 28, 29, 30, 31, 32, 33, 34, 35, 36, 37, 38, 39, 40, 41, 42, 43, 44, 45, 46, 47, 48, 49, 50, 51, 52, 53, 54, 55, 56, 57, 58, 59, 60, 61, 62, 63, 64, 65, 66, 67, 68, 69, 70, 71, 72, 73, 74, 75, 76, 77, 78, 79, 80, 81, 82, 83, 84, 85, 86, 87, 88, 89, 90, 91, 92, 93, 94, 95, 96, 97, 98, 99, 100, 101, 102, 103, 104, 105, 106, 107, 108, 109, 110, 111, 112, 113, 114, 115, 116, 117, 118, 119, 120, 121, 1014, 1015, 1016, 1017, 1018, 1019, 1020, 1021, 974, 975, 976, 977, 978, 979, 980, 981, 982, 983, 1022, 1023, 1024, 1025, 1026, 1027, 1028, 1029, 1030, 1031, 1032, 1033, 1034, 1035, 1036, 1037, 1038, 1039, 1040, 1041, 1042, 1043, 1044, 1045, 1046, 1047, 1048, 1049, 1050, 1051, 1052, 1053, 1054, 1055, 1056, 1057, 1058, 1059] (by decide +kernel) (by decide +kernel)
set_option maxRecDepth 20000 in
theorem gL_law_X7_init : GoodIn wsL_law (wsX7_init) := ggL_law_X7_init
set_option maxRecDepth 20000 in
theorem ggL_law_X8_init : GoodIn wsL_law wsX8_init := goodIn_r _ [124, 125, 12, 13, 126, 47, 127, 128, 129, 130, 131, 132, 133, 134, 135, 136, 137, 138, 139, 140, 141, 142, 143, 144, 145, 146, 147, 984, 985, 986, 987, 988, 989, 990, 991, 992, 993, 994, 995, 996, 997, 998, 999, 1000, 1001, 1002, 1003, 1004, 1005, 1006, 1007, 1008, 1009, 1010, 1011, 1012, 1013] (by decide +kernel) (by decide +kernel)
set_option maxRecDepth 20000 in
theorem gL_law_X8_init : GoodIn wsL_law (wsX8_init) := ggL_law_X8_init
set_option maxRecDepth 20000 in
theorem ggL_law_L_begin : GoodIn wsL_law wsL_begin := goodIn_ca (goodIn_r _ [151, 152, 153, 154, 155, 2, 156, 157, 158, 17, 159, 160, 161, 162, 163, 35, 164, 165, 166, 34, 167, 104, 106, 168, 169, 170, 16, 171, 45, 46, 48, 49, 50, 51, 52, 53, 172, 173, 174, 175, 40, 41, 176, 177, 178, 179, 974, 975, 976, 977, 978, 979, 980, 981, 982, 983, 1014, 1015, 1016, 1017, 1018, 1019, 1020, 1021, 1044, 1045] (by decide +kernel) (by decide +kernel)) (goodIn_sub (fun _ h => List.mem_append_left _ (List.mem_append_left _ (List.mem_append_right _ h))) (by decide +kernel))
set_option maxRecDepth 20000 in
theorem gL_law_L_begin : GoodIn wsL_law (va_wsS RL 87 yL_begin wsL_begin) := goodIn_app (goodIn_of _ (by decide +kernel)) ggL_law_L_begin
set_option maxRecDepth 20000 in
theorem ggL_law_X8_begin : GoodIn wsL_law wsX8_begin := goodIn_r _ [183, 184, 185, 126, 127, 128, 129, 130, 131, 186, 187, 5, 188, 189, 190, 191, 192, 193, 132, 984, 985, 986, 987, 988, 989, 990, 991, 992, 993, 994, 995, 996, 997, 998, 999, 1000, 1001, 1002, 1003, 1004, 1005, 1006, 1007, 1008, 1009, 1010, 1011, 1012, 1013] (by decide +kernel) (by decide +kernel)
set_option maxRecDepth 20000 in
theorem gL_law_X8_begin : GoodIn wsL_law (wsV RL 92 RX8 yX8_begin wsX8_begin) := goodIn_app (goodIn_of _ (by decide +kernel)) ggL_law_X8_begin
set_option maxRecDepth 20000 in
theorem ggL_law_X8_thrown : GoodIn wsL_law wsX8_thrown := goodIn_r _ [197, 184, 984, 985, 986, 987, 988, 989, 990, 991, 992, 993, 994, 995, 996, 997, 998, 999, 1000, 1001, 1002, 1003, 1004, 1005, 1006, 1007, 1008, 1009, 1010, 1011, 1012, 1013] (by decide +kernel) (by decide +kernel)
set_option maxRecDepth 20000 in
theorem gL_law_X8_thrown : GoodIn wsL_law (wsV RL 93 RX8 yX8_thrown wsX8_thrown) := goodIn_app (goodIn_of _ (by decide +kernel)) ggL_law_X8_thrown
set_option maxRecDepth 20000 in
theorem ggL_law_L_addTask : GoodIn wsL_law wsL_addTask := goodIn_ca (goodIn_ca (goodIn_ca (goodIn_r _ [200, 201, 152, 202, 203, 204, 205, 2, 206, 17, 159, 207, 208, 209, 16, 210, 45, 46, 211, 212, 213, 214, 215, 216, 217, 218, 219, 157, 158, 220, 221, 160, 161, 162, 163, 35, 164, 165, 166, 34, 167, 104, 106, 168, 169, 170, 171, 48, 49, 50, 51, 52, 53, 172, 173, 174, 175, 40, 41, 222, 223, 224, 225, 974, 975, 976, 977, 978, 979, 980, 981, 982, 983, 1014, 1015, 1016, 1017, 1018, 1019, 1020, 1021, 1044, 1045] (by decide +kernel) (by decide +kernel)) (goodIn_sub (fun _ h => List.mem_append_left _ (List.mem_append_right _ h)) (by decide +kernel))) (goodIn_sub (fun _ h => List.mem_append_left _ (List.mem_append_left _ (List.mem_append_right _ h))) (by decide +kernel))) (goodIn_sub (fun _ h => List.mem_append_right _ h) (by decide +kernel))
set_option maxRecDepth 20000 in
theorem gL_law_L_addTask : GoodIn wsL_law (va_wsS RL 96 yL_addTask wsL_addTask) := goodIn_app (goodIn_of _ (by decide +kernel)) ggL_law_L_addTask
set_option maxRecDepth 20000 in
theorem ggL_law_X8_addTask : GoodIn wsL_law wsX8_addTask := goodIn_r _ [229, 184, 230, 231, 232, 5, 233, 126, 185, 186, 187, 188, 189, 190, 191, 192, 193, 132, 127, 128, 129, 130, 131, 234, 235, 236, 237, 984, 985, 986, 987, 988, 989, 990, 991, 992, 993, 994, 995, 996, 997, 998, 999, 1000, 1001, 1002, 1003, 1004, 1005, 1006, 1007, 1008, 1009, 1010, 1011, 1012, 1013] (by decide +kernel) (by decide +kernel)
set_option maxRecDepth 20000 in
theorem gL_law_X8_addTask : GoodIn wsL_law (wsV RL 99 RX8 yX8_addTask wsX8_addTask) := goodIn_app (goodIn_of _ (by decide +kernel)) ggL_law_X8_addTask
set_option maxRecDepth 20000 in
theorem ggL_law_L_setDates : GoodIn wsL_law wsL_setDates := goodIn_ca (goodIn_ca (goodIn_r _ [240, 201, 152, 241, 242, 243, 2, 244, 157, 158, 17, 245, 246, 247, 248, 249, 250, 218, 219, 251, 252, 253, 16, 254, 46, 255, 212, 213, 214, 160, 161, 162, 163, 35, 164, 165, 166, 34, 167, 104, 106, 168, 169, 170, 171, 45, 48, 49, 50, 51, 52, 53, 172, 173, 174, 175, 40, 41, 974, 975, 976, 977, 978, 979, 980, 981, 982, 983, 1014, 1015, 1016, 1017, 1018, 1019, 1020, 1021, 1044, 1045] (by decide +kernel) (by decide +kernel)) (goodIn_sub (fun _ h => List.mem_append_left _ (List.mem_append_left _ (List.mem_append_right _ h))) (by decide +kernel))) (goodIn_sub (fun _ h => List.mem_append_left _ (List.mem_append_right _ h)) (by decide +kernel))
set_option maxRecDepth 20000 in
theorem gL_law_L_setDates : GoodIn wsL_law (va_wsS RL 100 yL_setDates wsL_setDates) := goodIn_app (goodIn_of _ (by decide +kernel)) ggL_law_L_setDates
set_option maxRecDepth 20000 in
theorem ggL_law_X8_setDates : GoodIn wsL_law wsX8_setDates := goodIn_r _ [259, 184, 129, 128, 260, 261, 262, 5, 263, 185, 186, 187, 188, 189, 190, 191, 192, 193, 132, 126, 127, 130, 131, 984, 985, 986, 987, 988, 989, 990, 991, 992, 993, 994, 995, 996, 997, 998, 999, 1000, 1001, 1002, 1003, 1004, 1005, 1006, 1007, 1008, 1009, 1010, 1011, 1012, 1013] (by decide +kernel) (by decide +kernel)
set_option maxRecDepth 20000 in
theorem gL_law_X8_setDates : GoodIn wsL_law (wsV RL 103 RX8 yX8_setDates wsX8_setDates) := goodIn_app (goodIn_of _ (by decide +kernel)) ggL_law_X8_setDates
set_option maxRecDepth 20000 in
theorem ggL_law_L_give : GoodIn wsL_law wsL_give := goodIn_ca (goodIn_ca (goodIn_ca (goodIn_r _ [266, 201, 152, 202, 267, 268, 269, 2, 270, 17, 271, 272, 273, 16, 274, 275, 252, 253, 254, 46, 276, 277, 278, 279, 53, 280, 281, 282, 283, 284, 285, 215, 216, 217, 218, 219, 157, 158, 220, 221, 160, 161, 162, 163, 35, 164, 165, 166, 34, 167, 104, 106, 168, 169, 170, 171, 45, 48, 49, 50, 51, 52, 172, 173, 174, 175, 40, 41, 286, 287, 288, 289, 290, 291, 292, 293, 294, 295, 296, 297, 298, 299, 300, 974, 975, 976, 977, 978, 979, 980, 981, 982, 983, 1014, 1015, 1016, 1017, 1018, 1019, 1020, 1021, 1044, 1045] (by decide +kernel) (by decide +kernel)) (goodIn_sub (fun _ h => List.mem_append_left _ (List.mem_append_right _ h)) (by decide +kernel))) (goodIn_sub (fun _ h => List.mem_append_left _ (List.mem_append_left _ (List.mem_append_right _ h))) (by decide +kernel))) (goodIn_sub (fun _ h => List.mem_append_right _ h) (by decide +kernel))
set_option maxRecDepth 20000 in
theorem gL_law_L_give : GoodIn wsL_law (va_wsS RL 104 yL_give wsL_give) := goodIn_app (goodIn_of _ (by decide +kernel)) ggL_law_L_give
set_option maxRecDepth 20000 in
theorem ggL_law_X8_give : GoodIn wsL_law wsX8_give := goodIn_r _ [304, 184, 305, 306, 307, 5, 308, 131, 260, 261, 262, 263, 185, 309, 310, 311, 312, 313, 314, 315, 189, 190, 191, 192, 193, 132, 126, 127, 128, 129, 130, 316, 317, 318, 319, 320, 321, 322, 323, 324, 325, 326, 984, 985, 986, 987, 988, 989, 990, 991, 992, 993, 994, 995, 996, 997, 998, 999, 1000, 1001, 1002, 1003, 1004, 1005, 1006, 1007, 1008, 1009, 1010, 1011, 1012, 1013] (by decide +kernel) (by decide +kernel)
set_option maxRecDepth 20000 in
theorem gL_law_X8_give : GoodIn wsL_law (wsV RL 107 RX8 yX8_give wsX8_give) := goodIn_app (goodIn_of _ (by decide +kernel)) ggL_law_X8_give
set_option maxRecDepth 20000 in
theorem ggL_law_X7_giveDominance : GoodIn wsL_law wsX7_giveDominance := goodIn_r _ [330, 17, 159, 160, 161, 162, 2, 163, 35, 164, 165, 166, 34, 167, 104, 106, 168, 169, 170, 16, 171, 45, 46, 48, 49, 50, 51, 52, 53, 172, 173, 174, 175, 40, 41, 331, 332, 333, 334, 276, 277, 278, 279, 280, 281, 335, 336, 283, 284, 285, 286, 287, 288, 289, 974, 975, 976, 977, 978, 979, 980, 981, 982, 983, 1014, 1015, 1016, 1017, 1018, 1019, 1020, 1021, 1044, 1045] (by decide +kernel) (by decide +kernel)
set_option maxRecDepth 20000 in
theorem gL_law_X7_giveDominance : GoodIn wsL_law (wsV RL 108 RX7 yX7_giveDominance wsX7_giveDominance) := goodIn_app (goodIn_of _ (by decide +kernel)) ggL_law_X7_giveDominance
set_option maxRecDepth 20000 in
theorem ggL_law_X8_giveDominance : GoodIn wsL_law wsX8_giveDominance := goodIn_r _ [340, 184, 185, 131, 189, 190, 191, 5, 192, 193, 132, 126, 127, 128, 129, 130, 341, 342, 343, 344, 345, 346, 347, 348, 309, 310, 311, 312, 313, 314, 315, 316, 317, 318, 319, 984, 985, 986, 987, 988, 989, 990, 991, 992, 993, 994, 995, 996, 997, 998, 999, 1000, 1001, 1002, 1003, 1004, 1005, 1006, 1007, 1008, 1009, 1010, 1011, 1012, 1013] (by decide +kernel) (by decide +kernel)
set_option maxRecDepth 20000 in
theorem gL_law_X8_giveDominance : GoodIn wsL_law (wsV RL 111 RX8 yX8_giveDominance wsX8_giveDominance) := goodIn_app (goodIn_of _ (by decide +kernel)) ggL_law_X8_giveDominance
set_option maxRecDepth 20000 in
theorem ggL_law_L_task : GoodIn wsL_law wsL_task := goodIn_ca (goodIn_ca (goodIn_r _ [351, 201, 152, 352, 353, 354, 2, 355, 157, 158, 17, 247, 248, 249, 250, 218, 219, 251, 252, 253, 16, 254, 46, 356, 357, 358, 359, 48, 49, 50, 51, 52, 53, 974, 975, 976, 977, 978, 979, 980, 981, 982, 983, 1014, 1015, 1016, 1017, 1018, 1019, 1020, 1021] (by decide +kernel) (by decide +kernel)) (goodIn_sub (fun _ h => List.mem_append_left _ (List.mem_append_left _ (List.mem_append_right _ h))) (by decide +kernel))) (goodIn_sub (fun _ h => List.mem_append_left _ (List.mem_append_right _ h)) (by decide +kernel))
set_option maxRecDepth 20000 in
theorem gL_law_L_task : GoodIn wsL_law (va_wsS RL 112 yL_task wsL_task) := goodIn_app (goodIn_of _ (by decide +kernel)) ggL_law_L_task
