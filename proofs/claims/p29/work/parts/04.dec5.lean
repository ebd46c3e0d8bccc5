theorem dL_isPlan_107 : decode cL_isPlan 107 = .ok (.if_icmp .gt 7, 3) := by decide +kernel
theorem dL_isPlan_110 : decode cL_isPlan 110 = .ok (.iconst 1, 1) := by decide +kernel
theorem dL_isPlan_111 : decode cL_isPlan 111 = .ok (.goto 4, 3) := by decide +kernel
theorem dL_isPlan_114 : decode cL_isPlan 114 = .ok (.iconst 0, 1) := by decide +kernel
theorem dL_isPlan_115 : decode cL_isPlan 115 = .ok (.istore 7, 2) := by decide +kernel
theorem dL_isPlan_117 : decode cL_isPlan 117 = .ok (.aload_n 0, 1) := by decide +kernel
theorem dL_isPlan_118 : decode cL_isPlan 118 = .ok (.iload 4, 2) := by decide +kernel
theorem dL_isPlan_120 : decode cL_isPlan 120 = .ok (.iconst 0, 1) := by decide +kernel
theorem dL_isPlan_121 : decode cL_isPlan 121 = .ok (.invokevirtual 51, 3) := by decide +kernel
theorem dL_isPlan_124 : decode cL_isPlan 124 = .ok (.aload_n 0, 1) := by decide +kernel
theorem dL_isPlan_125 : decode cL_isPlan 125 = .ok (.iload 6, 2) := by decide +kernel
theorem dL_isPlan_127 : decode cL_isPlan 127 = .ok (.iconst 0, 1) := by decide +kernel
theorem dL_isPlan_128 : decode cL_isPlan 128 = .ok (.invokevirtual 51, 3) := by decide +kernel
theorem dL_isPlan_131 : decode cL_isPlan 131 = .ok (.if_icmp .ge 7, 3) := by decide +kernel
theorem dL_isPlan_134 : decode cL_isPlan 134 = .ok (.iconst 1, 1) := by decide +kernel
theorem dL_isPlan_135 : decode cL_isPlan 135 = .ok (.goto 4, 3) := by decide +kernel
theorem dL_isPlan_138 : decode cL_isPlan 138 = .ok (.iconst 0, 1) := by decide +kernel
theorem dL_isPlan_139 : decode cL_isPlan 139 = .ok (.istore 8, 2) := by decide +kernel
theorem dL_isPlan_141 : decode cL_isPlan 141 = .ok (.iload 4, 2) := by decide +kernel
theorem dL_isPlan_143 : decode cL_isPlan 143 = .ok (.iload 6, 2) := by decide +kernel
theorem dL_isPlan_145 : decode cL_isPlan 145 = .ok (.if_icmp .eq 27, 3) := by decide +kernel
theorem dL_isPlan_148 : decode cL_isPlan 148 = .ok (.aload_n 0, 1) := by decide +kernel
theorem dL_isPlan_149 : decode cL_isPlan 149 = .ok (.iload 4, 2) := by decide +kernel
theorem dL_isPlan_151 : decode cL_isPlan 151 = .ok (.iconst 0, 1) := by decide +kernel
theorem dL_isPlan_152 : decode cL_isPlan 152 = .ok (.invokevirtual 10, 3) := by decide +kernel
theorem dL_isPlan_155 : decode cL_isPlan 155 = .ok (.aload_n 0, 1) := by decide +kernel
theorem dL_isPlan_156 : decode cL_isPlan 156 = .ok (.iload 6, 2) := by decide +kernel
theorem dL_isPlan_158 : decode cL_isPlan 158 = .ok (.iconst 0, 1) := by decide +kernel
theorem dL_isPlan_159 : decode cL_isPlan 159 = .ok (.invokevirtual 10, 3) := by decide +kernel
theorem dL_isPlan_162 : decode cL_isPlan 162 = .ok (.if_icmp .ne 10, 3) := by decide +kernel
theorem dL_isPlan_165 : decode cL_isPlan 165 = .ok (.iload 7, 2) := by decide +kernel
theorem dL_isPlan_167 : decode cL_isPlan 167 = .ok (.iload 8, 2) := by decide +kernel
theorem dL_isPlan_169 : decode cL_isPlan 169 = .ok (.if_icmp .ne 29, 3) := by decide +kernel
theorem dL_isPlan_172 : decode cL_isPlan 172 = .ok (.aload_n 0, 1) := by decide +kernel
theorem dL_isPlan_173 : decode cL_isPlan 173 = .ok (.iload 4, 2) := by decide +kernel
theorem dL_isPlan_175 : decode cL_isPlan 175 = .ok (.iconst 5, 1) := by decide +kernel
theorem dL_isPlan_176 : decode cL_isPlan 176 = .ok (.invokevirtual 10, 3) := by decide +kernel
theorem dL_isPlan_179 : decode cL_isPlan 179 = .ok (.iload 6, 2) := by decide +kernel
theorem dL_isPlan_181 : decode cL_isPlan 181 = .ok (.ishr, 1) := by decide +kernel
theorem dL_isPlan_182 : decode cL_isPlan 182 = .ok (.iconst 1, 1) := by decide +kernel
theorem dL_isPlan_183 : decode cL_isPlan 183 = .ok (.iand, 1) := by decide +kernel
theorem dL_isPlan_184 : decode cL_isPlan 184 = .ok (.iconst 1, 1) := by decide +kernel
theorem dL_isPlan_185 : decode cL_isPlan 185 = .ok (.if_icmp .ne 15, 3) := by decide +kernel
theorem dL_isPlan_188 : decode cL_isPlan 188 = .ok (.iload 7, 2) := by decide +kernel
theorem dL_isPlan_190 : decode cL_isPlan 190 = .ok (.ifCond .eq 8, 3) := by decide +kernel
theorem dL_isPlan_193 : decode cL_isPlan 193 = .ok (.iload 8, 2) := by decide +kernel
theorem dL_isPlan_195 : decode cL_isPlan 195 = .ok (.ifCond .ne 5, 3) := by decide +kernel
theorem dL_isPlan_198 : decode cL_isPlan 198 = .ok (.iconst 0, 1) := by decide +kernel
theorem dL_isPlan_199 : decode cL_isPlan 199 = .ok (.ireturn, 1) := by decide +kernel
theorem dL_isPlan_200 : decode cL_isPlan 200 = .ok (.iinc 6 1, 3) := by decide +kernel
theorem dL_isPlan_203 : decode cL_isPlan 203 = .ok (.goto (-115), 3) := by decide +kernel
theorem dL_isPlan_206 : decode cL_isPlan 206 = .ok (.iinc 4 1, 3) := by decide +kernel
theorem dL_isPlan_209 : decode cL_isPlan 209 = .ok (.goto (-202), 3) := by decide +kernel
theorem dL_isPlan_212 : decode cL_isPlan 212 = .ok (.aload_n 0, 1) := by decide +kernel
theorem dL_isPlan_213 : decode cL_isPlan 213 = .ok (.invokevirtual 32, 3) := by decide +kernel
theorem dL_isPlan_216 : decode cL_isPlan 216 = .ok (.iload_n 2, 1) := by decide +kernel
theorem dL_isPlan_217 : decode cL_isPlan 217 = .ok (.if_icmp .ne 16, 3) := by decide +kernel
theorem dL_isPlan_220 : decode cL_isPlan 220 = .ok (.iload_n 3, 1) := by decide +kernel
theorem dL_isPlan_221 : decode cL_isPlan 221 = .ok (.iconst 1, 1) := by decide +kernel
theorem dL_isPlan_222 : decode cL_isPlan 222 = .ok (.iload_n 1, 1) := by decide +kernel
theorem dL_isPlan_223 : decode cL_isPlan 223 = .ok (.ishl, 1) := by decide +kernel
theorem dL_isPlan_224 : decode cL_isPlan 224 = .ok (.iconst 1, 1) := by decide +kernel
theorem dL_isPlan_225 : decode cL_isPlan 225 = .ok (.isub, 1) := by decide +kernel
theorem dL_isPlan_226 : decode cL_isPlan 226 = .ok (.if_icmp .ne 7, 3) := by decide +kernel
theorem dL_isPlan_229 : decode cL_isPlan 229 = .ok (.iconst 1, 1) := by decide +kernel
theorem dL_isPlan_230 : decode cL_isPlan 230 = .ok (.goto 4, 3) := by decide +kernel
theorem dL_isPlan_233 : decode cL_isPlan 233 = .ok (.iconst 0, 1) := by decide +kernel
theorem dL_isPlan_234 : decode cL_isPlan 234 = .ok (.ireturn, 1) := by decide +kernel
set_option maxRecDepth 20000 in
theorem ggL_holds_X7_inBest : GoodIn wsL_holds wsX7_inBest := goodIn_ca (goodIn_ca (goodIn_r _ [5, 6, 7, 8, 9, 10, 11, 12, 13, 14, 4, 15, 16, 17, 18, 19, 20, 21, 22, 23, 24, 25, 26, 27, 28, 29, 30, 31, 32, 33, 34, 35, 36, 37, 38, 39, 40, 41, 42, 43, 44, 45, 46, 47, 48, 49, 50, 51, 52, 53, 54, 55, 56, 57, 58, 59, 60, 61, 62, 63, 64, 65, 66, 67, 68, 69, 70, 71, 72, 73, 74, 75, 76, 77, 78, 79, 80, 81, 82, 83, 84, 85, 86, 87, 88, 89, 90, 91, 92, 93, 94, 95, 96, 97, 98, 99, 100, 101, 102, 103, 104, 105, 106, 107, 108, 109, 110, 111, 112, 113, 114, 115, 116, 117, 118, 119, 120, 121, 122, 123, 124, 125, 126, 127, 128, 129, 130, 131, 132, 133, 134, 135, 136, 137, 138, 139, 140, 141, 142, 143, 144, 145, 146, 147, 148, 149, 150, 151, 152, 153, 154, 155, 156, 157, 158, 159, 160, 161, 162, 163, 164, 165, 166, 167, 168, 169, 170, 171, 172, 173, 174, 175, 176, 177, 178, 179, 180, 181, 182, 183, 184, 185, 186, 187, 188, 189, 312, 313, 314, 315, 316, 317, 318, 319, 320, 321, 322, 323, 324, 325, 326, 327, 328, 329, 330, 331, 332, 333, 334, 335, 336, 337, 338, 339, 340, 341, 342, 343, 344, 345, 346, 347, 348, 349, 350, 351] (by decide +kernel) (by decide +kernel)) (goodIn_sub (fun _ h => List.mem_cons_of_mem _ (List.mem_append_left _ (List.mem_append_left _ (List.mem_append_right _ h)))) (by decide +kernel))) (goodIn_sub (fun _ h => List.mem_cons_of_mem _ (List.mem_append_left _ (List.mem_append_right _ h))) (by decide +kernel))
set_option maxRecDepth 20000 in
theorem gL_holds_X7_inBest : GoodIn wsL_holds (wsV RL 51 RX7 yX7_inBest wsX7_inBest) := goodIn_app (goodIn_of _ (by decide +kernel)) ggL_holds_X7_inBest
set_option maxRecDepth 20000 in
theorem ggL_holds_X7_firstStart : GoodIn wsL_holds wsX7_firstStart := goodIn_ca (goodIn_ca (goodIn_r _ [193, 35, 194, 12, 13, 14, 4, 15, 16, 17, 18, 19, 20, 21, 22, 23, 24, 195, 196, 197, 198, 199, 200, 201, 30, 31, 32, 33, 34, 36, 37, 38, 39, 40, 41, 42, 43, 44, 45, 46, 47, 48, 49, 50, 51, 52, 53, 54, 55, 56, 57, 58, 59, 60, 61, 62, 63, 64, 65, 66, 67, 68, 69, 70, 71, 72, 73, 74, 75, 76, 77, 78, 79, 80, 81, 82, 83, 84, 85, 86, 87, 88, 89, 90, 91, 92, 93, 94, 95, 96, 97, 98, 99, 100, 101, 102, 103, 104, 105, 106, 107, 108, 109, 110, 111, 112, 113, 114, 115, 116, 117, 118, 119, 120, 121, 122, 123, 124, 125, 126, 312, 313, 314, 315, 316, 317, 318, 319, 320, 321, 340, 341, 342, 343, 344, 345, 346, 347, 348, 332, 333, 334, 335, 336, 337, 338, 339] (by decide +kernel) (by decide +kernel)) (goodIn_sub (fun _ h => List.mem_cons_of_mem _ (List.mem_append_left _ (List.mem_append_right _ h))) (by decide +kernel))) (goodIn_sub (fun _ h => List.mem_cons_of_mem _ (List.mem_append_right _ h)) (by decide +kernel))
set_option maxRecDepth 20000 in
theorem gL_holds_X7_firstStart : GoodIn wsL_holds (wsV RL 58 RX7 yX7_firstStart wsX7_firstStart) := goodIn_app (goodIn_of _ (by decide +kernel)) ggL_holds_X7_firstStart
set_option maxRecDepth 20000 in
theorem ggL_holds_X7_lastEnd : GoodIn wsL_holds wsX7_lastEnd := goodIn_ca (goodIn_ca (goodIn_r _ [205, 35, 206, 12, 13, 14, 4, 15, 16, 17, 18, 19, 20, 21, 22, 23, 24, 195, 196, 197, 198, 199, 200, 201, 30, 31, 32, 33, 34, 36, 37, 38, 39, 40, 41, 42, 43, 44, 45, 46, 47, 48, 49, 50, 51, 52, 53, 54, 55, 56, 57, 58, 59, 60, 61, 62, 63, 64, 65, 66, 67, 68, 69, 70, 71, 72, 73, 74, 75, 76, 77, 78, 79, 80, 81, 82, 83, 84, 85, 86, 87, 88, 89, 90, 91, 92, 93, 94, 95, 96, 97, 98, 99, 100, 101, 102, 103, 104, 105, 106, 107, 108, 109, 110, 111, 112, 113, 114, 115, 116, 117, 118, 119, 120, 121, 122, 123, 124, 125, 126, 312, 313, 314, 315, 316, 317, 318, 319, 320, 321, 340, 341, 342, 343, 344, 345, 346, 347, 348, 332, 333, 334, 335, 336, 337, 338, 339] (by decide +kernel) (by decide +kernel)) (goodIn_sub (fun _ h => List.mem_cons_of_mem _ (List.mem_append_left _ (List.mem_append_right _ h))) (by decide +kernel))) (goodIn_sub (fun _ h => List.mem_cons_of_mem _ (List.mem_append_right _ h)) (by decide +kernel))
set_option maxRecDepth 20000 in
theorem gL_holds_X7_lastEnd : GoodIn wsL_holds (wsV RL 61 RX7 yX7_lastEnd wsX7_lastEnd) := goodIn_app (goodIn_of _ (by decide +kernel)) ggL_holds_X7_lastEnd
set_option maxRecDepth 20000 in
theorem ggL_holds_L_end : GoodIn wsL_holds wsL_end := goodIn_ca (goodIn_ca (goodIn_r _ [210, 1, 2, 3, 4, 5, 6, 7, 8, 9, 10, 11, 12, 13, 14, 15, 16, 17, 18, 19, 20, 21, 22, 23, 24, 25, 26, 27, 28, 29, 30, 31, 32, 33, 34, 35, 36, 37, 38, 39, 40, 41, 42, 43, 44, 45, 46, 47, 48, 49, 50, 51, 52, 53, 54, 55, 56, 57, 58, 59, 60, 61, 62, 63, 64, 65, 66, 67, 68, 69, 70, 71, 72, 73, 74, 75, 76, 77, 78, 79, 80, 81, 82, 83, 84, 85, 86, 87, 88, 89, 90, 91, 92, 93, 94, 95, 96, 97, 98, 99, 100, 101, 102, 103, 104, 105, 106, 107, 108, 109, 110, 111, 112, 113, 114, 115, 116, 117, 118, 119, 120, 121, 122, 123, 124, 125, 126, 127, 128, 129, 130, 131, 132, 133, 134, 135, 136, 137, 138, 139, 140, 141, 142, 143, 144, 145, 146, 147, 148, 149, 150, 151, 152, 153, 154, 155, 156, 157, 158, 159, 160, 161, 162, 163, 164, 165, 166, 167, 168, 169, 170, 171, 172, 173, 174, 175, 176, 177, 178, 179, 180, 181, 182, 183, 184, 185, 186, 187, 188, 189, 211, 212, 213, 214, 215, 216, 217, 218, 219, 220, 221, 222, 223, 224, 312, 313, 314, 315, 316, 317, 318, 319, 320, 321, 322, 323, 324, 325, 326, 327, 328, 329, 330, 331, 332, 333, 334, 335, 336, 337, 338, 339, 340, 341, 342, 343, 344, 345, 346, 347, 348, 349, 350, 351] (by decide +kernel) (by decide +kernel)) (goodIn_sub (fun _ h => List.mem_cons_of_mem _ (List.mem_append_left _ (List.mem_append_left _ (List.mem_append_right _ h)))) (by decide +kernel))) (goodIn_sub (fun _ h => List.mem_cons_of_mem _ (List.mem_append_left _ (List.mem_append_right _ h))) (by decide +kernel))
set_option maxRecDepth 20000 in
theorem gL_holds_L_end : GoodIn wsL_holds (va_wsS RL 54 yL_end wsL_end) := goodIn_app (goodIn_of _ (by decide +kernel)) ggL_holds_L_end
set_option maxRecDepth 20000 in
theorem ggL_holds_X7_slack : GoodIn wsL_holds wsX7_slack := goodIn_ca (goodIn_ca (goodIn_r _ [228, 35, 206, 194, 18, 229, 12, 13, 14, 4, 15, 16, 17, 19, 20, 21, 22, 23, 24, 195, 196, 197, 198, 199, 200, 201, 30, 31, 32, 33, 34, 36, 37, 38, 39, 40, 41, 42, 43, 44, 45, 46, 47, 48, 49, 50, 51, 52, 53, 54, 55, 56, 57, 58, 59, 60, 61, 62, 63, 64, 65, 66, 67, 68, 69, 70, 71, 72, 73, 74, 75, 76, 77, 78, 79, 80, 81, 82, 83, 84, 85, 86, 87, 88, 89, 90, 91, 92, 93, 94, 95, 96, 97, 98, 99, 100, 101, 102, 103, 104, 105, 106, 107, 108, 109, 110, 111, 112, 113, 114, 115, 116, 117, 118, 119, 120, 121, 122, 123, 124, 125, 126, 312, 313, 314, 315, 316, 317, 318, 319, 320, 321, 340, 341, 342, 343, 344, 345, 346, 347, 348, 332, 333, 334, 335, 336, 337, 338, 339] (by decide +kernel) (by decide +kernel)) (goodIn_sub (fun _ h => List.mem_cons_of_mem _ (List.mem_append_left _ (List.mem_append_right _ h))) (by decide +kernel))) (goodIn_sub (fun _ h => List.mem_cons_of_mem _ (List.mem_append_right _ h)) (by decide +kernel))
set_option maxRecDepth 20000 in
theorem gL_holds_X7_slack : GoodIn wsL_holds (wsV RL 64 RX7 yX7_slack wsX7_slack) := goodIn_app (goodIn_of _ (by decide +kernel)) ggL_holds_X7_slack
set_option maxRecDepth 20000 in
theorem ggL_holds_X7_task : GoodIn wsL_holds wsX7_task := goodIn_ca (goodIn_ca (goodIn_r _ [214, 6, 7, 18, 12, 13, 14, 4, 15, 16, 17, 19, 20, 21, 22, 23, 24, 215, 216, 217, 218, 219, 220, 221, 222, 223, 224, 312, 313, 314, 315, 316, 317, 318, 319, 320, 321, 332, 333, 334, 335, 336, 337, 338, 339] (by decide +kernel) (by decide +kernel)) (goodIn_sub (fun _ h => List.mem_cons_of_mem _ (List.mem_append_left _ (List.mem_append_left _ (List.mem_append_right _ h)))) (by decide +kernel))) (goodIn_sub (fun _ h => List.mem_cons_of_mem _ (List.mem_append_left _ (List.mem_append_right _ h))) (by decide +kernel))
set_option maxRecDepth 20000 in
theorem gL_holds_X7_task : GoodIn wsL_holds (wsV RL 10 RX7 yX7_task wsX7_task) := goodIn_app (goodIn_of _ (by decide +kernel)) ggL_holds_X7_task
set_option maxRecDepth 20000 in
theorem ggL_holds_X7_leastDue : GoodIn wsL_holds wsX7_leastDue := goodIn_ca (goodIn_r _ [233, 12, 13, 14, 4, 15, 16, 17, 18, 19, 20, 21, 22, 23, 24, 234, 235, 236, 237, 238, 239, 240, 201, 241, 242, 243, 244, 245, 219, 220, 221, 222, 223, 224, 36, 37, 38, 39, 40, 41, 42, 43, 44, 45, 46, 47, 48, 49, 50, 51, 52, 53, 54, 55, 56, 57, 58, 59, 60, 61, 62, 63, 64, 65, 66, 67, 68, 69, 70, 71, 72, 73, 74, 75, 76, 77, 78, 79, 80, 81, 82, 83, 84, 85, 86, 87, 88, 89, 90, 91, 92, 93, 94, 95, 96, 97, 98, 99, 100, 101, 102, 103, 104, 105, 106, 107, 108, 109, 110, 111, 112, 113, 114, 115, 116, 117, 118, 119, 120, 121, 122, 123, 124, 125, 126, 312, 313, 314, 315, 316, 317, 318, 319, 320, 321, 332, 333, 334, 335, 336, 337, 338, 339, 340, 341, 342, 343, 344, 345, 346, 347, 348] (by decide +kernel) (by decide +kernel)) (goodIn_sub (fun _ h => List.mem_cons_of_mem _ (List.mem_append_left _ (List.mem_append_right _ h))) (by decide +kernel))
set_option maxRecDepth 20000 in
theorem gL_holds_X7_leastDue : GoodIn wsL_holds (wsV RL 67 RX7 yX7_leastDue wsX7_leastDue) := goodIn_app (goodIn_of _ (by decide +kernel)) ggL_holds_X7_leastDue
set_option maxRecDepth 20000 in
theorem ggL_holds_X7_precedes : GoodIn wsL_holds wsX7_precedes := goodIn_ca (goodIn_ca (goodIn_r _ [249, 35, 12, 13, 14, 4, 15, 16, 17, 18, 19, 20, 21, 22, 23, 24, 195, 196, 197, 198, 199, 200, 201, 30, 31, 32, 33, 34, 36, 37, 38, 39, 40, 41, 42, 43, 44, 45, 46, 47, 48, 49, 50, 51, 52, 53, 54, 55, 56, 57, 58, 59, 60, 61, 62, 63, 64, 65, 66, 67, 68, 69, 70, 71, 72, 73, 74, 75, 76, 77, 78, 79, 80, 81, 82, 83, 84, 85, 86, 87, 88, 89, 90, 91, 92, 93, 94, 95, 96, 97, 98, 99, 100, 101, 102, 103, 104, 105, 106, 107, 108, 109, 110, 111, 112, 113, 114, 115, 116, 117, 118, 119, 120, 121, 122, 123, 124, 125, 126, 250, 251, 252, 253, 312, 313, 314, 315, 316, 317, 318, 319, 320, 321, 332, 333, 334, 335, 336, 337, 338, 339, 340, 341, 342, 343, 344, 345, 346, 347, 348] (by decide +kernel) (by decide +kernel)) (goodIn_sub (fun _ h => List.mem_cons_of_mem _ (List.mem_append_left _ (List.mem_append_right _ h))) (by decide +kernel))) (goodIn_sub (fun _ h => List.mem_cons_of_mem _ (List.mem_append_right _ h)) (by decide +kernel))
set_option maxRecDepth 20000 in
theorem gL_holds_X7_precedes : GoodIn wsL_holds (wsV RL 70 RX7 yX7_precedes wsX7_precedes) := goodIn_app (goodIn_of _ (by decide +kernel)) ggL_holds_X7_precedes
set_option maxRecDepth 20000 in
theorem ggL_holds_X7_refutes : GoodIn wsL_holds wsX7_refutes := goodIn_ca (goodIn_r _ [257, 238, 18, 240, 201, 12, 13, 14, 4, 15, 16, 17, 19, 20, 21, 22, 23, 24, 241, 242, 243, 244, 245, 219, 220, 221, 222, 223, 224, 258, 259, 260, 261, 36, 37, 38, 39, 40, 41, 42, 43, 44, 45, 46, 47, 48, 49, 50, 51, 52, 53, 54, 55, 56, 57, 58, 59, 60, 61, 62, 63, 64, 65, 66, 67, 68, 69, 70, 71, 72, 73, 74, 75, 76, 77, 78, 79, 80, 81, 82, 83, 84, 85, 86, 87, 88, 89, 90, 91, 92, 93, 94, 95, 96, 97, 98, 99, 100, 101, 102, 103, 104, 105, 106, 107, 108, 109, 110, 111, 112, 113, 114, 115, 116, 117, 118, 119, 120, 121, 122, 123, 124, 125, 126, 312, 313, 314, 315, 316, 317, 318, 319, 320, 321, 340, 341, 342, 343, 344, 345, 346, 347, 348, 332, 333, 334, 335, 336, 337, 338, 339] (by decide +kernel) (by decide +kernel)) (goodIn_sub (fun _ h => List.mem_cons_of_mem _ (List.mem_append_left _ (List.mem_append_right _ h))) (by decide +kernel))
set_option maxRecDepth 20000 in
theorem gL_holds_X7_refutes : GoodIn wsL_holds (wsV RL 74 RX7 yX7_refutes wsX7_refutes) := goodIn_app (goodIn_of _ (by decide +kernel)) ggL_holds_X7_refutes
set_option maxRecDepth 20000 in
theorem ggL_holds_X7_why : GoodIn wsL_holds wsX7_why := goodIn_ca (goodIn_ca (goodIn_r _ [265, 35, 12, 13, 14, 4, 15, 16, 17, 18, 19, 20, 21, 22, 23, 24, 195, 196, 197, 198, 199, 200, 201, 30, 31, 32, 33, 34, 36, 37, 38, 39, 40, 41, 42, 43, 44, 45, 46, 47, 48, 49, 50, 51, 52, 53, 54, 55, 56, 57, 58, 59, 60, 61, 62, 63, 64, 65, 66, 67, 68, 69, 70, 71, 72, 73, 74, 75, 76, 77, 78, 79, 80, 81, 82, 83, 84, 85, 86, 87, 88, 89, 90, 91, 92, 93, 94, 95, 96, 97, 98, 99, 100, 101, 102, 103, 104, 105, 106, 107, 108, 109, 110, 111, 112, 113, 114, 115, 116, 117, 118, 119, 120, 121, 122, 123, 124, 125, 126, 266, 267, 268, 269, 270, 251, 252, 253, 271, 272, 273, 274, 224, 275, 276, 277, 278, 312, 313, 314, 315, 316, 317, 318, 319, 320, 321, 332, 333, 334, 335, 336, 337, 338, 339, 340, 341, 342, 343, 344, 345, 346, 347, 348] (by decide +kernel) (by decide +kernel)) (goodIn_sub (fun _ h => List.mem_cons_of_mem _ (List.mem_append_left _ (List.mem_append_right _ h))) (by decide +kernel))) (goodIn_sub (fun _ h => List.mem_cons_of_mem _ (List.mem_append_right _ h)) (by decide +kernel))
set_option maxRecDepth 20000 in
theorem gL_holds_X7_why : GoodIn wsL_holds (wsV RL 77 RX7 yX7_why wsX7_why) := goodIn_app (goodIn_of _ (by decide +kernel)) ggL_holds_X7_why
set_option maxRecDepth 20000 in
theorem ggL_holds_X7_value : GoodIn wsL_holds wsX7_value := goodIn_ca (goodIn_r _ [282, 6, 7, 283, 284, 285, 4, 286, 18, 287, 288, 35, 201, 289, 290, 291, 22, 292, 24, 224, 293, 294, 295, 296, 297, 298, 299, 300, 301, 302, 303, 219, 30, 31, 32, 33, 34, 36, 37, 38, 39, 40, 41, 42, 43, 44, 45, 46, 47, 48, 49, 50, 51, 52, 53, 54, 55, 56, 57, 58, 59, 60, 61, 62, 63, 64, 65, 66, 67, 68, 69, 70, 71, 72, 73, 74, 75, 76, 77, 78, 79, 80, 81, 82, 83, 84, 85, 86, 87, 88, 89, 90, 91, 92, 93, 94, 95, 96, 97, 98, 99, 100, 101, 102, 103, 104, 105, 106, 107, 108, 109, 110, 111, 112, 113, 114, 115, 116, 117, 118, 119, 120, 121, 122, 123, 124, 125, 126, 304, 305, 306, 307, 270, 251, 252, 253, 312, 313, 314, 315, 316, 317, 318, 319, 320, 321, 332, 333, 334, 335, 336, 337, 338, 339, 340, 341, 342, 343, 344, 345, 346, 347, 348] (by decide +kernel) (by decide +kernel)) (goodIn_sub (fun _ h => List.mem_cons_of_mem _ (List.mem_append_left _ (List.mem_append_left _ (List.mem_append_right _ h)))) (by decide +kernel))
set_option maxRecDepth 20000 in
theorem gL_holds_X7_value : GoodIn wsL_holds (wsV RL 16 RX7 yX7_value wsX7_value) := goodIn_app (goodIn_of _ (by decide +kernel)) ggL_holds_X7_value
set_option maxRecDepth 20000 in
theorem ggL_holds_X7_decided : GoodIn wsL_holds wsX7_decided := goodIn_ca (goodIn_r _ [311, 18, 35, 195, 196, 197, 4, 198, 199, 200, 201, 30, 31, 32, 33, 34, 36, 37, 38, 39, 40, 41, 42, 43, 44, 45, 46, 47, 48, 49, 50, 51, 52, 53, 54, 55, 56, 57, 58, 59, 60, 61, 62, 63, 64, 65, 66, 67, 68, 69, 70, 71, 72, 73, 74, 75, 76, 77, 78, 79, 80, 81, 82, 83, 84, 85, 86, 87, 88, 89, 90, 91, 92, 93, 94, 95, 96, 97, 98, 99, 100, 101, 102, 103, 104, 105, 106, 107, 108, 109, 110, 111, 112, 113, 114, 115, 116, 117, 118, 119, 120, 121, 122, 123, 124, 125, 126, 300, 301, 302, 22, 303, 24, 219, 304, 305, 306, 307, 270, 251, 252, 253, 312, 313, 314, 315, 316, 317, 318, 319, 320, 321, 340, 341, 342, 343, 344, 345, 346, 347, 348, 332, 333, 334, 335, 336, 337, 338, 339] (by decide +kernel) (by decide +kernel)) (goodIn_sub (fun _ h => List.mem_cons_of_mem _ (List.mem_append_right _ h)) (by decide +kernel))
set_option maxRecDepth 20000 in
theorem gL_holds_X7_decided : GoodIn wsL_holds (wsV RL 80 RX7 yX7_decided wsX7_decided) := goodIn_app (goodIn_of _ (by decide +kernel)) ggL_holds_X7_decided
theorem dL_holds_0 : decode cL_holds 0 = .ok (.iconst 0, 1) := by decide +kernel
theorem dL_holds_1 : decode cL_holds 1 = .ok (.istore_n 2, 1) := by decide +kernel
theorem dL_holds_2 : decode cL_holds 2 = .ok (.iconst 0, 1) := by decide +kernel
theorem dL_holds_3 : decode cL_holds 3 = .ok (.istore_n 3, 1) := by decide +kernel
theorem dL_holds_4 : decode cL_holds 4 = .ok (.iconst 0, 1) := by decide +kernel
theorem dL_holds_5 : decode cL_holds 5 = .ok (.istore 4, 2) := by decide +kernel
theorem dL_holds_7 : decode cL_holds 7 = .ok (.iload 4, 2) := by decide +kernel
theorem dL_holds_9 : decode cL_holds 9 = .ok (.iload_n 1, 1) := by decide +kernel
theorem dL_holds_10 : decode cL_holds 10 = .ok (.if_icmp .ge 347, 3) := by decide +kernel
theorem dL_holds_13 : decode cL_holds 13 = .ok (.aload_n 0, 1) := by decide +kernel
theorem dL_holds_14 : decode cL_holds 14 = .ok (.iload 4, 2) := by decide +kernel
theorem dL_holds_16 : decode cL_holds 16 = .ok (.iconst 1, 1) := by decide +kernel
theorem dL_holds_17 : decode cL_holds 17 = .ok (.invokevirtual 51, 3) := by decide +kernel
theorem dL_holds_20 : decode cL_holds 20 = .ok (.istore 5, 2) := by decide +kernel
theorem dL_holds_22 : decode cL_holds 22 = .ok (.aload_n 0, 1) := by decide +kernel
theorem dL_holds_23 : decode cL_holds 23 = .ok (.iload 4, 2) := by decide +kernel
theorem dL_holds_25 : decode cL_holds 25 = .ok (.invokevirtual 58, 3) := by decide +kernel
theorem dL_holds_28 : decode cL_holds 28 = .ok (.iload 5, 2) := by decide +kernel
theorem dL_holds_30 : decode cL_holds 30 = .ok (.if_icmp .gt 57, 3) := by decide +kernel
theorem dL_holds_33 : decode cL_holds 33 = .ok (.aload_n 0, 1) := by decide +kernel
theorem dL_holds_34 : decode cL_holds 34 = .ok (.iload 4, 2) := by decide +kernel
theorem dL_holds_36 : decode cL_holds 36 = .ok (.invokevirtual 61, 3) := by decide +kernel
theorem dL_holds_39 : decode cL_holds 39 = .ok (.aload_n 0, 1) := by decide +kernel
theorem dL_holds_40 : decode cL_holds 40 = .ok (.iload 4, 2) := by decide +kernel
theorem dL_holds_42 : decode cL_holds 42 = .ok (.invokestatic 54, 3) := by decide +kernel
theorem dL_holds_45 : decode cL_holds 45 = .ok (.if_icmp .lt 42, 3) := by decide +kernel
theorem dL_holds_48 : decode cL_holds 48 = .ok (.aload_n 0, 1) := by decide +kernel
theorem dL_holds_49 : decode cL_holds 49 = .ok (.iload 4, 2) := by decide +kernel
theorem dL_holds_51 : decode cL_holds 51 = .ok (.invokevirtual 64, 3) := by decide +kernel
theorem dL_holds_54 : decode cL_holds 54 = .ok (.aload_n 0, 1) := by decide +kernel
theorem dL_holds_55 : decode cL_holds 55 = .ok (.iload 4, 2) := by decide +kernel
theorem dL_holds_57 : decode cL_holds 57 = .ok (.invokevirtual 61, 3) := by decide +kernel
theorem dL_holds_60 : decode cL_holds 60 = .ok (.aload_n 0, 1) := by decide +kernel
theorem dL_holds_61 : decode cL_holds 61 = .ok (.iload 4, 2) := by decide +kernel
theorem dL_holds_63 : decode cL_holds 63 = .ok (.invokevirtual 58, 3) := by decide +kernel
theorem dL_holds_66 : decode cL_holds 66 = .ok (.isub, 1) := by decide +kernel
theorem dL_holds_67 : decode cL_holds 67 = .ok (.aload_n 0, 1) := by decide +kernel
theorem dL_holds_68 : decode cL_holds 68 = .ok (.iload 4, 2) := by decide +kernel
theorem dL_holds_70 : decode cL_holds 70 = .ok (.iconst 3, 1) := by decide +kernel
theorem dL_holds_71 : decode cL_holds 71 = .ok (.invokevirtual 10, 3) := by decide +kernel
theorem dL_holds_74 : decode cL_holds 74 = .ok (.isub, 1) := by decide +kernel
theorem dL_holds_75 : decode cL_holds 75 = .ok (.if_icmp .ne 12, 3) := by decide +kernel
theorem dL_holds_78 : decode cL_holds 78 = .ok (.aload_n 0, 1) := by decide +kernel
theorem dL_holds_79 : decode cL_holds 79 = .ok (.iload 4, 2) := by decide +kernel
theorem dL_holds_81 : decode cL_holds 81 = .ok (.invokevirtual 64, 3) := by decide +kernel
theorem dL_holds_84 : decode cL_holds 84 = .ok (.ifCond .ge 5, 3) := by decide +kernel
theorem dL_holds_87 : decode cL_holds 87 = .ok (.iconst 0, 1) := by decide +kernel
theorem dL_holds_88 : decode cL_holds 88 = .ok (.ireturn, 1) := by decide +kernel
theorem dL_holds_89 : decode cL_holds 89 = .ok (.aload_n 0, 1) := by decide +kernel
theorem dL_holds_90 : decode cL_holds 90 = .ok (.iload 4, 2) := by decide +kernel
theorem dL_holds_92 : decode cL_holds 92 = .ok (.invokevirtual 67, 3) := by decide +kernel
theorem dL_holds_95 : decode cL_holds 95 = .ok (.istore 6, 2) := by decide +kernel
theorem dL_holds_97 : decode cL_holds 97 = .ok (.iload 6, 2) := by decide +kernel
theorem dL_holds_99 : decode cL_holds 99 = .ok (.iconst 1, 1) := by decide +kernel
theorem dL_holds_100 : decode cL_holds 100 = .ok (.if_icmp .lt 25, 3) := by decide +kernel
theorem dL_holds_103 : decode cL_holds 103 = .ok (.iload 6, 2) := by decide +kernel
theorem dL_holds_105 : decode cL_holds 105 = .ok (.aload_n 0, 1) := by decide +kernel
theorem dL_holds_106 : decode cL_holds 106 = .ok (.iload 4, 2) := by decide +kernel
theorem dL_holds_108 : decode cL_holds 108 = .ok (.invokestatic 54, 3) := by decide +kernel
theorem dL_holds_111 : decode cL_holds 111 = .ok (.if_icmp .gt 14, 3) := by decide +kernel
theorem dL_holds_114 : decode cL_holds 114 = .ok (.aload_n 0, 1) := by decide +kernel
theorem dL_holds_115 : decode cL_holds 115 = .ok (.iload 4, 2) := by decide +kernel
theorem dL_holds_117 : decode cL_holds 117 = .ok (.iload 4, 2) := by decide +kernel
theorem dL_holds_119 : decode cL_holds 119 = .ok (.invokevirtual 70, 3) := by decide +kernel
theorem dL_holds_122 : decode cL_holds 122 = .ok (.ifCond .eq 5, 3) := by decide +kernel
theorem dL_holds_125 : decode cL_holds 125 = .ok (.iconst 0, 1) := by decide +kernel
theorem dL_holds_126 : decode cL_holds 126 = .ok (.ireturn, 1) := by decide +kernel
theorem dL_holds_127 : decode cL_holds 127 = .ok (.iconst 0, 1) := by decide +kernel
theorem dL_holds_128 : decode cL_holds 128 = .ok (.istore 7, 2) := by decide +kernel
theorem dL_holds_130 : decode cL_holds 130 = .ok (.iload 7, 2) := by decide +kernel
theorem dL_holds_132 : decode cL_holds 132 = .ok (.iload_n 1, 1) := by decide +kernel
theorem dL_holds_133 : decode cL_holds 133 = .ok (.if_icmp .ge 218, 3) := by decide +kernel
theorem dL_holds_136 : decode cL_holds 136 = .ok (.aload_n 0, 1) := by decide +kernel
theorem dL_holds_137 : decode cL_holds 137 = .ok (.iload 4, 2) := by decide +kernel
theorem dL_holds_139 : decode cL_holds 139 = .ok (.invokestatic 54, 3) := by decide +kernel
theorem dL_holds_142 : decode cL_holds 142 = .ok (.aload_n 0, 1) := by decide +kernel
theorem dL_holds_143 : decode cL_holds 143 = .ok (.iload 7, 2) := by decide +kernel
theorem dL_holds_145 : decode cL_holds 145 = .ok (.iconst 1, 1) := by decide +kernel
theorem dL_holds_146 : decode cL_holds 146 = .ok (.invokevirtual 51, 3) := by decide +kernel
theorem dL_holds_149 : decode cL_holds 149 = .ok (.if_icmp .gt 7, 3) := by decide +kernel
theorem dL_holds_152 : decode cL_holds 152 = .ok (.iconst 1, 1) := by decide +kernel
theorem dL_holds_153 : decode cL_holds 153 = .ok (.goto 4, 3) := by decide +kernel
theorem dL_holds_156 : decode cL_holds 156 = .ok (.iconst 0, 1) := by decide +kernel
theorem dL_holds_157 : decode cL_holds 157 = .ok (.istore 8, 2) := by decide +kernel
theorem dL_holds_159 : decode cL_holds 159 = .ok (.iload 4, 2) := by decide +kernel
theorem dL_holds_161 : decode cL_holds 161 = .ok (.iload 7, 2) := by decide +kernel
theorem dL_holds_163 : decode cL_holds 163 = .ok (.if_icmp .eq 47, 3) := by decide +kernel
theorem dL_holds_166 : decode cL_holds 166 = .ok (.aload_n 0, 1) := by decide +kernel
theorem dL_holds_167 : decode cL_holds 167 = .ok (.iload 4, 2) := by decide +kernel
theorem dL_holds_169 : decode cL_holds 169 = .ok (.iload 7, 2) := by decide +kernel
theorem dL_holds_171 : decode cL_holds 171 = .ok (.invokevirtual 70, 3) := by decide +kernel
theorem dL_holds_174 : decode cL_holds 174 = .ok (.ifCond .ne 31, 3) := by decide +kernel
theorem dL_holds_177 : decode cL_holds 177 = .ok (.aload_n 0, 1) := by decide +kernel
theorem dL_holds_178 : decode cL_holds 178 = .ok (.iload 7, 2) := by decide +kernel
theorem dL_holds_180 : decode cL_holds 180 = .ok (.iload 4, 2) := by decide +kernel
theorem dL_holds_182 : decode cL_holds 182 = .ok (.invokevirtual 74, 3) := by decide +kernel
theorem dL_holds_185 : decode cL_holds 185 = .ok (.ifCond .eq 25, 3) := by decide +kernel
theorem dL_holds_188 : decode cL_holds 188 = .ok (.aload_n 0, 1) := by decide +kernel
theorem dL_holds_189 : decode cL_holds 189 = .ok (.iload 4, 2) := by decide +kernel
theorem dL_holds_191 : decode cL_holds 191 = .ok (.iconst 0, 1) := by decide +kernel
theorem dL_holds_192 : decode cL_holds 192 = .ok (.invokevirtual 10, 3) := by decide +kernel
theorem dL_holds_195 : decode cL_holds 195 = .ok (.aload_n 0, 1) := by decide +kernel
theorem dL_holds_196 : decode cL_holds 196 = .ok (.iload 7, 2) := by decide +kernel
theorem dL_holds_198 : decode cL_holds 198 = .ok (.iconst 0, 1) := by decide +kernel
theorem dL_holds_199 : decode cL_holds 199 = .ok (.invokevirtual 10, 3) := by decide +kernel
theorem dL_holds_202 : decode cL_holds 202 = .ok (.if_icmp .ne 8, 3) := by decide +kernel
theorem dL_holds_205 : decode cL_holds 205 = .ok (.iload 8, 2) := by decide +kernel
theorem dL_holds_207 : decode cL_holds 207 = .ok (.ifCond .eq 25, 3) := by decide +kernel
theorem dL_holds_210 : decode cL_holds 210 = .ok (.aload_n 0, 1) := by decide +kernel
theorem dL_holds_211 : decode cL_holds 211 = .ok (.iload 4, 2) := by decide +kernel
theorem dL_holds_213 : decode cL_holds 213 = .ok (.iload 7, 2) := by decide +kernel
theorem dL_holds_215 : decode cL_holds 215 = .ok (.invokevirtual 70, 3) := by decide +kernel
theorem dL_holds_218 : decode cL_holds 218 = .ok (.ifCond .eq 16, 3) := by decide +kernel
theorem dL_holds_221 : decode cL_holds 221 = .ok (.aload_n 0, 1) := by decide +kernel
theorem dL_holds_222 : decode cL_holds 222 = .ok (.iload 4, 2) := by decide +kernel
theorem dL_holds_224 : decode cL_holds 224 = .ok (.iload 7, 2) := by decide +kernel
theorem dL_holds_226 : decode cL_holds 226 = .ok (.invokevirtual 77, 3) := by decide +kernel
theorem dL_holds_229 : decode cL_holds 229 = .ok (.ifCond .ge 5, 3) := by decide +kernel
theorem dL_holds_232 : decode cL_holds 232 = .ok (.iconst 0, 1) := by decide +kernel
theorem dL_holds_233 : decode cL_holds 233 = .ok (.ireturn, 1) := by decide +kernel
theorem dL_holds_234 : decode cL_holds 234 = .ok (.iload 4, 2) := by decide +kernel
theorem dL_holds_236 : decode cL_holds 236 = .ok (.iload 7, 2) := by decide +kernel
theorem dL_holds_238 : decode cL_holds 238 = .ok (.if_icmp .eq 21, 3) := by decide +kernel
theorem dL_holds_241 : decode cL_holds 241 = .ok (.aload_n 0, 1) := by decide +kernel
theorem dL_holds_242 : decode cL_holds 242 = .ok (.iload 4, 2) := by decide +kernel
theorem dL_holds_244 : decode cL_holds 244 = .ok (.iload 7, 2) := by decide +kernel
theorem dL_holds_246 : decode cL_holds 246 = .ok (.invokevirtual 74, 3) := by decide +kernel
theorem dL_holds_249 : decode cL_holds 249 = .ok (.ifCond .eq 10, 3) := by decide +kernel
theorem dL_holds_252 : decode cL_holds 252 = .ok (.iload 8, 2) := by decide +kernel
theorem dL_holds_254 : decode cL_holds 254 = .ok (.ifCond .eq 5, 3) := by decide +kernel
theorem dL_holds_257 : decode cL_holds 257 = .ok (.iconst 0, 1) := by decide +kernel
theorem dL_holds_258 : decode cL_holds 258 = .ok (.ireturn, 1) := by decide +kernel
theorem dL_holds_259 : decode cL_holds 259 = .ok (.iload_n 3, 1) := by decide +kernel
theorem dL_holds_260 : decode cL_holds 260 = .ok (.iload 4, 2) := by decide +kernel
theorem dL_holds_262 : decode cL_holds 262 = .ok (.iload 7, 2) := by decide +kernel
theorem dL_holds_264 : decode cL_holds 264 = .ok (.if_icmp .ge 24, 3) := by decide +kernel
theorem dL_holds_267 : decode cL_holds 267 = .ok (.aload_n 0, 1) := by decide +kernel
theorem dL_holds_268 : decode cL_holds 268 = .ok (.iload 4, 2) := by decide +kernel
theorem dL_holds_270 : decode cL_holds 270 = .ok (.iconst 0, 1) := by decide +kernel
theorem dL_holds_271 : decode cL_holds 271 = .ok (.invokevirtual 10, 3) := by decide +kernel
theorem dL_holds_274 : decode cL_holds 274 = .ok (.aload_n 0, 1) := by decide +kernel
theorem dL_holds_275 : decode cL_holds 275 = .ok (.iload 7, 2) := by decide +kernel
theorem dL_holds_277 : decode cL_holds 277 = .ok (.iconst 0, 1) := by decide +kernel
theorem dL_holds_278 : decode cL_holds 278 = .ok (.invokevirtual 10, 3) := by decide +kernel
theorem dL_holds_281 : decode cL_holds 281 = .ok (.if_icmp .ne 7, 3) := by decide +kernel
theorem dL_holds_284 : decode cL_holds 284 = .ok (.iconst 1, 1) := by decide +kernel
theorem dL_holds_285 : decode cL_holds 285 = .ok (.goto 4, 3) := by decide +kernel
theorem dL_holds_288 : decode cL_holds 288 = .ok (.iconst 0, 1) := by decide +kernel
theorem dL_holds_289 : decode cL_holds 289 = .ok (.iadd, 1) := by decide +kernel
theorem dL_holds_290 : decode cL_holds 290 = .ok (.istore_n 3, 1) := by decide +kernel
theorem dL_holds_291 : decode cL_holds 291 = .ok (.iload_n 2, 1) := by decide +kernel
theorem dL_holds_292 : decode cL_holds 292 = .ok (.iload 4, 2) := by decide +kernel
theorem dL_holds_294 : decode cL_holds 294 = .ok (.iload 7, 2) := by decide +kernel
theorem dL_holds_296 : decode cL_holds 296 = .ok (.if_icmp .ge 46, 3) := by decide +kernel
theorem dL_holds_299 : decode cL_holds 299 = .ok (.aload_n 0, 1) := by decide +kernel
theorem dL_holds_300 : decode cL_holds 300 = .ok (.iload 4, 2) := by decide +kernel
theorem dL_holds_302 : decode cL_holds 302 = .ok (.iconst 0, 1) := by decide +kernel
theorem dL_holds_303 : decode cL_holds 303 = .ok (.invokevirtual 10, 3) := by decide +kernel
theorem dL_holds_306 : decode cL_holds 306 = .ok (.aload_n 0, 1) := by decide +kernel
theorem dL_holds_307 : decode cL_holds 307 = .ok (.iload 7, 2) := by decide +kernel
theorem dL_holds_309 : decode cL_holds 309 = .ok (.iconst 0, 1) := by decide +kernel
theorem dL_holds_310 : decode cL_holds 310 = .ok (.invokevirtual 10, 3) := by decide +kernel
theorem dL_holds_313 : decode cL_holds 313 = .ok (.if_icmp .ne 29, 3) := by decide +kernel
theorem dL_holds_316 : decode cL_holds 316 = .ok (.aload_n 0, 1) := by decide +kernel
theorem dL_holds_317 : decode cL_holds 317 = .ok (.iload 4, 2) := by decide +kernel
theorem dL_holds_319 : decode cL_holds 319 = .ok (.iload 7, 2) := by decide +kernel
theorem dL_holds_321 : decode cL_holds 321 = .ok (.invokevirtual 70, 3) := by decide +kernel
theorem dL_holds_324 : decode cL_holds 324 = .ok (.ifCond .ne 18, 3) := by decide +kernel
theorem dL_holds_327 : decode cL_holds 327 = .ok (.aload_n 0, 1) := by decide +kernel
theorem dL_holds_328 : decode cL_holds 328 = .ok (.iload 7, 2) := by decide +kernel
theorem dL_holds_330 : decode cL_holds 330 = .ok (.iload 4, 2) := by decide +kernel
theorem dL_holds_332 : decode cL_holds 332 = .ok (.invokevirtual 70, 3) := by decide +kernel
theorem dL_holds_335 : decode cL_holds 335 = .ok (.ifCond .ne 7, 3) := by decide +kernel
theorem dL_holds_338 : decode cL_holds 338 = .ok (.iconst 1, 1) := by decide +kernel
theorem dL_holds_339 : decode cL_holds 339 = .ok (.goto 4, 3) := by decide +kernel
theorem dL_holds_342 : decode cL_holds 342 = .ok (.iconst 0, 1) := by decide +kernel
theorem dL_holds_343 : decode cL_holds 343 = .ok (.iadd, 1) := by decide +kernel
theorem dL_holds_344 : decode cL_holds 344 = .ok (.istore_n 2, 1) := by decide +kernel
theorem dL_holds_345 : decode cL_holds 345 = .ok (.iinc 7 1, 3) := by decide +kernel
theorem dL_holds_348 : decode cL_holds 348 = .ok (.goto (-218), 3) := by decide +kernel
theorem dL_holds_351 : decode cL_holds 351 = .ok (.iinc 4 1, 3) := by decide +kernel
theorem dL_holds_354 : decode cL_holds 354 = .ok (.goto (-347), 3) := by decide +kernel
theorem dL_holds_357 : decode cL_holds 357 = .ok (.iload_n 3, 1) := by decide +kernel
theorem dL_holds_358 : decode cL_holds 358 = .ok (.ifCond .ne 7, 3) := by decide +kernel
theorem dL_holds_361 : decode cL_holds 361 = .ok (.dconst 1, 1) := by decide +kernel
theorem dL_holds_362 : decode cL_holds 362 = .ok (.goto 10, 3) := by decide +kernel
theorem dL_holds_365 : decode cL_holds 365 = .ok (.iload_n 3, 1) := by decide +kernel
theorem dL_holds_366 : decode cL_holds 366 = .ok (.iload_n 2, 1) := by decide +kernel
theorem dL_holds_367 : decode cL_holds 367 = .ok (.isub, 1) := by decide +kernel
theorem dL_holds_368 : decode cL_holds 368 = .ok (.i2d, 1) := by decide +kernel
theorem dL_holds_369 : decode cL_holds 369 = .ok (.iload_n 3, 1) := by decide +kernel
theorem dL_holds_370 : decode cL_holds 370 = .ok (.i2d, 1) := by decide +kernel
theorem dL_holds_371 : decode cL_holds 371 = .ok (.ddiv, 1) := by decide +kernel
theorem dL_holds_372 : decode cL_holds 372 = .ok (.dstore 4, 2) := by decide +kernel
theorem dL_holds_374 : decode cL_holds 374 = .ok (.aload_n 0, 1) := by decide +kernel
theorem dL_holds_375 : decode cL_holds 375 = .ok (.iconst 3, 1) := by decide +kernel
theorem dL_holds_376 : decode cL_holds 376 = .ok (.invokevirtual 16, 3) := by decide +kernel
theorem dL_holds_379 : decode cL_holds 379 = .ok (.iload_n 3, 1) := by decide +kernel
theorem dL_holds_380 : decode cL_holds 380 = .ok (.if_icmp .ne 26, 3) := by decide +kernel
theorem dL_holds_383 : decode cL_holds 383 = .ok (.aload_n 0, 1) := by decide +kernel
theorem dL_holds_384 : decode cL_holds 384 = .ok (.iconst 5, 1) := by decide +kernel
theorem dL_holds_385 : decode cL_holds 385 = .ok (.invokevirtual 16, 3) := by decide +kernel
theorem dL_holds_388 : decode cL_holds 388 = .ok (.iload_n 2, 1) := by decide +kernel
theorem dL_holds_389 : decode cL_holds 389 = .ok (.if_icmp .ne 17, 3) := by decide +kernel
theorem dL_holds_392 : decode cL_holds 392 = .ok (.aload_n 0, 1) := by decide +kernel
theorem dL_holds_393 : decode cL_holds 393 = .ok (.invokevirtual 80, 3) := by decide +kernel
theorem dL_holds_396 : decode cL_holds 396 = .ok (.dload 4, 2) := by decide +kernel
theorem dL_holds_398 : decode cL_holds 398 = .ok (.dcmp .l, 1) := by decide +kernel
theorem dL_holds_399 : decode cL_holds 399 = .ok (.ifCond .ne 7, 3) := by decide +kernel
theorem dL_holds_402 : decode cL_holds 402 = .ok (.iconst 1, 1) := by decide +kernel
theorem dL_holds_403 : decode cL_holds 403 = .ok (.goto 4, 3) := by decide +kernel
theorem dL_holds_406 : decode cL_holds 406 = .ok (.iconst 0, 1) := by decide +kernel
theorem dL_holds_407 : decode cL_holds 407 = .ok (.ireturn, 1) := by decide +kernel
set_option maxRecDepth 20000 in
theorem ggL_law_X7_init : GoodIn wsL_law wsX7_init := goodIn_r _ [6, 7, 8, 9, 10, 11, 12, 13, 14, 15, 16, 17, 18, 19, 20, 21, 22, 23, 24, 25, 26, 27, 28, 29, 30, 31, 32, 33, 34, 35, 36, 37, 38, 39, 40, 41, 42, 43, 44, 45, 46, 47, 48, 49, 50, 51, 52, 53, 54, 55, 56, 57, 58, 59, 60, 61, 62, 63, 64, 65, 66, 67, 68, 69, 70, 71, 72, 73, 74, 75, 76, 77, 78, 79, 80, 81, 82, 83, 84, 85, 86, 87, 88, 89, 90, 91, 92, 93, 94, 95, 96, 97, 98, 99, 100, 101, 102, 103, 104, 105, 106, 107, 108, 109, 110, 111, 112, 113, 114, 115, 116, 117, 533, 534, 535, 536, 537, 538, 539, 540, 523, 524, 525, 526, 527, 528, 529, 530, 531, 532, 541, 542, 543, 544, 545, 546, 547, 548, 549, 550, 551, 552, 553, 554, 555, 556, 557, 558, 559, 560, 561, 562, 563, 564, 565, 566, 567, 568, 569, 570, 571, 572, 573, 574, 575, 576, 577, 578] (by decide +kernel) (by decide +kernel)
set_option maxRecDepth 20000 in
theorem gL_law_X7_init : GoodIn wsL_law (wsX7_init) := ggL_law_X7_init
set_option maxRecDepth 20000 in
theorem ggL_law_L_cell : GoodIn wsL_law wsL_cell := goodIn_r _ [121, 122, 123] (by decide +kernel) (by decide +kernel)
set_option maxRecDepth 20000 in
theorem gL_law_L_cell : GoodIn wsL_law (va_wsS RL 20 yL_cell wsL_cell) := goodIn_app (goodIn_of _ (by decide +kernel)) ggL_law_L_cell
set_option maxRecDepth 20000 in
theorem ggL_law_L_low : GoodIn wsL_law wsL_low := goodIn_r _ [126, 127] (by decide +kernel) (by decide +kernel)
set_option maxRecDepth 20000 in
theorem gL_law_L_low : GoodIn wsL_law (va_wsS RL 26 yL_low wsL_low) := goodIn_app (goodIn_of _ (by decide +kernel)) ggL_law_L_low
set_option maxRecDepth 20000 in
theorem ggL_law_L_build : GoodIn wsL_law wsL_build := goodIn_ca (goodIn_ca (goodIn_ca (goodIn_r _ [130, 118, 119, 120, 121, 122, 123, 124, 125, 126, 127, 131, 132, 133, 2, 134, 135, 136, 13, 137, 138, 139, 140, 141, 31, 142, 143, 144, 30, 145, 100, 102, 146, 147, 148, 12, 149, 41, 42, 44, 45, 46, 47, 48, 49, 150, 151, 152, 153, 36, 37, 154, 155, 156, 157, 158, 159, 160, 161, 162, 163, 164, 165, 166, 17, 167, 168, 169, 170, 171, 172, 173, 174, 175, 176, 177, 178, 179, 180, 181, 182, 183, 184, 185, 186, 187, 188, 189, 16, 190, 54, 191, 192, 193, 194, 195, 58, 62, 196, 55, 197, 56, 198, 57, 199, 200, 201, 202, 203, 204, 205, 206, 207, 208, 209, 210, 211, 212, 213, 214, 215, 216, 217, 218, 219, 220, 221, 222, 223, 224, 225, 226, 227, 59, 60, 228, 61, 229, 230, 231, 232, 233, 234, 235, 236, 237, 238, 239, 240, 241, 242, 243, 244, 245, 246, 247, 248, 249, 250, 251, 252, 253, 254, 255, 256, 257, 258, 259, 260, 261, 262, 263, 264, 265, 266, 267, 268, 269, 270, 271, 272, 273, 274, 275, 276, 277, 278, 279, 21, 280, 281, 282, 283, 284, 285, 286, 287, 20, 288, 67, 73, 75, 289, 74, 290, 71, 79, 291, 292, 293, 78, 294, 85, 295, 296, 297, 298, 299, 70, 300, 301, 302, 303, 68, 69, 304, 305, 306, 307, 308, 309, 310, 311, 312, 313, 314, 72, 315, 316, 317, 318, 319, 86, 320, 321, 322, 323, 84, 324, 325, 326, 327, 328, 329, 330, 331, 332, 333, 334, 335, 336, 337, 338, 339, 340, 26, 341, 342, 27, 343, 344, 345, 346, 347, 348, 349, 350, 351, 352, 353, 354, 355, 356, 357, 358, 359, 360, 361, 362, 363, 364, 365, 366, 367, 368, 369, 370, 371, 372, 373, 374, 375, 376, 377, 378, 379, 380, 381, 382, 383, 384, 385, 386, 387, 388, 389, 390, 391, 392, 393, 394, 395, 396, 397, 398, 399, 400, 401, 402, 403, 404, 405, 406, 523, 524, 525, 526, 527, 528, 529, 530, 531, 532, 533, 534, 535, 536, 537, 538, 539, 540, 563, 564, 541, 542, 543, 544, 545, 546, 547, 548, 549, 550, 551, 552, 553, 554, 555, 556, 557, 558, 559, 576, 577, 578] (by decide +kernel) (by decide +kernel)) (goodIn_sub (fun _ h => List.mem_append_left _ (List.mem_append_left _ (List.mem_append_right _ h))) (by decide +kernel))) (goodIn_sub (fun _ h => List.mem_append_left _ (List.mem_append_right _ h)) (by decide +kernel))) (goodIn_sub (fun _ h => List.mem_append_right _ h) (by decide +kernel))
set_option maxRecDepth 20000 in
theorem gL_law_L_build : GoodIn wsL_law (va_wsS RL 85 yL_build wsL_build) := goodIn_app (goodIn_of _ (by decide +kernel)) ggL_law_L_build
set_option maxRecDepth 20000 in
theorem ggL_law_X7_makespan : GoodIn wsL_law wsX7_makespan := goodIn_r _ [279, 21, 280, 281, 282, 283, 2, 284, 37, 183, 184, 185, 186, 36, 17, 187, 188, 189, 16, 190, 54, 191, 192, 193, 194, 195, 58, 62, 196, 55, 197, 56, 198, 57, 199, 200, 201, 202, 203, 204, 205, 206, 207, 208, 209, 210, 211, 212, 213, 214, 215, 216, 217, 218, 219, 220, 221, 222, 223, 224, 225, 226, 227, 59, 60, 228, 61, 229, 230, 231, 232, 233, 234, 235, 236, 237, 238, 239, 240, 241, 242, 243, 244, 245, 246, 247, 248, 249, 250, 251, 252, 253, 254, 255, 256, 257, 258, 259, 260, 261, 262, 263, 264, 265, 266, 267, 285, 286, 287, 20, 288, 67, 73, 75, 289, 74, 290, 71, 79, 291, 292, 293, 78, 294, 85, 295, 296, 297, 298, 299, 70, 300, 301, 302, 303, 68, 69, 304, 305, 306, 307, 308, 309, 310, 311, 312, 313, 314, 72, 315, 316, 317, 318, 319, 86, 320, 321, 322, 323, 84, 324, 325, 326, 327, 328, 329, 330, 331, 332, 523, 524, 525, 526, 527, 528, 529, 530, 531, 532, 550, 551, 552, 553, 554, 555, 556, 557, 558, 559, 541, 542, 543, 544, 545, 546, 547, 548, 549, 533, 534, 535, 536, 537, 538, 539, 540, 576, 577, 578] (by decide +kernel) (by decide +kernel)
set_option maxRecDepth 20000 in
theorem gL_law_X7_makespan : GoodIn wsL_law (wsV RL 32 RX7 yX7_makespan wsX7_makespan) := goodIn_app (goodIn_of _ (by decide +kernel)) ggL_law_X7_makespan
set_option maxRecDepth 20000 in
theorem ggL_law_X7_lowerBound : GoodIn wsL_law wsX7_lowerBound := goodIn_r _ [336, 337, 338, 339, 2, 340, 26, 13, 137, 341, 342, 230, 231, 232, 27, 167, 343, 147, 148, 12, 149, 41, 42, 44, 45, 46, 47, 48, 49, 187, 188, 189, 16, 190, 54, 191, 192, 193, 194, 195, 58, 62, 196, 55, 197, 56, 198, 57, 199, 200, 201, 202, 203, 204, 205, 206, 207, 208, 209, 210, 211, 212, 213, 214, 215, 216, 217, 218, 219, 220, 221, 222, 223, 224, 225, 226, 227, 59, 60, 228, 61, 229, 233, 234, 235, 236, 237, 238, 239, 240, 241, 242, 243, 244, 245, 246, 247, 248, 249, 250, 251, 252, 253, 254, 255, 256, 257, 258, 259, 260, 261, 262, 263, 264, 265, 266, 267, 523, 524, 525, 526, 527, 528, 529, 530, 531, 532, 533, 534, 535, 536, 537, 538, 539, 540, 541, 542, 543, 544, 545, 546, 547, 548, 549] (by decide +kernel) (by decide +kernel)
set_option maxRecDepth 20000 in
theorem gL_law_X7_lowerBound : GoodIn wsL_law (wsV RL 36 RX7 yX7_lowerBound wsX7_lowerBound) := goodIn_app (goodIn_of _ (by decide +kernel)) ggL_law_X7_lowerBound
set_option maxRecDepth 20000 in
theorem ggL_law_X7_drawn : GoodIn wsL_law wsX7_drawn := goodIn_ca (goodIn_r _ [410, 135, 136, 411, 25, 412, 413, 414, 24, 415, 91, 416, 417, 418, 419, 94, 92, 420, 421, 422, 292, 293, 78, 294, 85, 423, 424, 425, 426, 427, 428, 429, 430, 431, 205, 2, 206, 432, 173, 174, 175, 176, 177, 178, 433, 317, 318, 319, 86, 320, 321, 310, 234, 231, 235, 322, 323, 84, 324, 434, 330, 331, 332, 435, 307, 308, 309, 523, 524, 525, 526, 527, 528, 529, 530, 531, 532, 560, 561, 562, 533, 534, 535, 536, 537, 538, 539, 540, 576, 577, 578] (by decide +kernel) (by decide +kernel)) (goodIn_sub (fun _ h => List.mem_append_left _ (List.mem_append_left _ (List.mem_append_right _ h))) (by decide +kernel))
set_option maxRecDepth 20000 in
theorem gL_law_X7_drawn : GoodIn wsL_law (wsV RL 90 RX7 yX7_drawn wsX7_drawn) := goodIn_app (goodIn_of _ (by decide +kernel)) ggL_law_X7_drawn
set_option maxRecDepth 20000 in
theorem ggL_law_X7_value : GoodIn wsL_law wsX7_value := goodIn_ca (goodIn_r _ [161, 135, 136, 162, 163, 164, 2, 165, 13, 166, 137, 17, 167, 168, 169, 170, 12, 171, 42, 49, 172, 173, 174, 175, 176, 177, 178, 179, 180, 181, 182, 44, 183, 184, 185, 186, 36, 187, 188, 189, 16, 190, 54, 191, 192, 193, 194, 195, 58, 62, 196, 55, 197, 56, 198, 57, 199, 200, 201, 202, 203, 204, 205, 206, 207, 208, 209, 210, 211, 212, 213, 214, 215, 216, 217, 218, 219, 220, 221, 222, 223, 224, 225, 226, 227, 59, 60, 228, 61, 229, 230, 231, 232, 233, 234, 235, 236, 237, 238, 239, 240, 241, 242, 243, 244, 245, 246, 247, 248, 249, 250, 251, 252, 253, 254, 255, 256, 257, 258, 259, 260, 261, 262, 263, 264, 265, 266, 267, 268, 269, 270, 271, 272, 273, 274, 275, 523, 524, 525, 526, 527, 528, 529, 530, 531, 532, 533, 534, 535, 536, 537, 538, 539, 540, 541, 542, 543, 544, 545, 546, 547, 548, 549] (by decide +kernel) (by decide +kernel)) (goodIn_sub (fun _ h => List.mem_append_left _ (List.mem_append_left _ (List.mem_append_right _ h))) (by decide +kernel))
set_option maxRecDepth 20000 in
theorem gL_law_X7_value : GoodIn wsL_law (wsV RL 16 RX7 yX7_value wsX7_value) := goodIn_app (goodIn_of _ (by decide +kernel)) ggL_law_X7_value
set_option maxRecDepth 20000 in
theorem ggL_law_X7_inBest : GoodIn wsL_law wsX7_inBest := goodIn_ca (goodIn_ca (goodIn_r _ [439, 135, 136, 21, 280, 440, 441, 371, 372, 373, 2, 374, 359, 360, 13, 375, 376, 377, 12, 378, 42, 281, 282, 283, 284, 37, 183, 184, 185, 186, 36, 17, 187, 188, 189, 16, 190, 54, 191, 192, 193, 194, 195, 58, 62, 196, 55, 197, 56, 198, 57, 199, 200, 201, 202, 203, 204, 205, 206, 207, 208, 209, 210, 211, 212, 213, 214, 215, 216, 217, 218, 219, 220, 221, 222, 223, 224, 225, 226, 227, 59, 60, 228, 61, 229, 230, 231, 232, 233, 234, 235, 236, 237, 238, 239, 240, 241, 242, 243, 244, 245, 246, 247, 248, 249, 250, 251, 252, 253, 254, 255, 256, 257, 258, 259, 260, 261, 262, 263, 264, 265, 266, 267, 285, 286, 287, 20, 288, 67, 73, 75, 289, 74, 290, 71, 79, 291, 292, 293, 78, 294, 85, 295, 296, 297, 298, 299, 70, 300, 301, 302, 303, 68, 69, 304, 305, 306, 307, 308, 309, 310, 311, 312, 313, 314, 72, 315, 316, 317, 318, 319, 86, 320, 321, 322, 323, 84, 324, 325, 326, 327, 328, 329, 330, 331, 332, 523, 524, 525, 526, 527, 528, 529, 530, 531, 532, 550, 551, 552, 553, 554, 555, 556, 557, 558, 559, 533, 534, 535, 536, 537, 538, 539, 540, 541, 542, 543, 544, 545, 546, 547, 548, 549, 576, 577, 578] (by decide +kernel) (by decide +kernel)) (goodIn_sub (fun _ h => List.mem_append_left _ (List.mem_append_left _ (List.mem_append_right _ h))) (by decide +kernel))) (goodIn_sub (fun _ h => List.mem_append_left _ (List.mem_append_right _ h)) (by decide +kernel))
set_option maxRecDepth 20000 in
theorem gL_law_X7_inBest : GoodIn wsL_law (wsV RL 51 RX7 yX7_inBest wsX7_inBest) := goodIn_app (goodIn_of _ (by decide +kernel)) ggL_law_X7_inBest
set_option maxRecDepth 20000 in
theorem ggL_law_X7_refutes : GoodIn wsL_law wsX7_refutes := goodIn_ca (goodIn_r _ [445, 26, 13, 27, 167, 371, 372, 373, 2, 374, 359, 360, 375, 376, 377, 12, 378, 42, 343, 147, 148, 149, 41, 44, 45, 46, 47, 48, 49, 403, 404, 405, 406, 187, 188, 189, 16, 190, 54, 191, 192, 193, 194, 195, 58, 62, 196, 55, 197, 56, 198, 57, 199, 200, 201, 202, 203, 204, 205, 206, 207, 208, 209, 210, 211, 212, 213, 214, 215, 216, 217, 218, 219, 220, 221, 222, 223, 224, 225, 226, 227, 59, 60, 228, 61, 229, 230, 231, 232, 233, 234, 235, 236, 237, 238, 239, 240, 241, 242, 243, 244, 245, 246, 247, 248, 249, 250, 251, 252, 253, 254, 255, 256, 257, 258, 259, 260, 261, 262, 263, 264, 265, 266, 267, 523, 524, 525, 526, 527, 528, 529, 530, 531, 532, 541, 542, 543, 544, 545, 546, 547, 548, 549, 533, 534, 535, 536, 537, 538, 539, 540] (by decide +kernel) (by decide +kernel)) (goodIn_sub (fun _ h => List.mem_append_left _ (List.mem_append_right _ h)) (by decide +kernel))
set_option maxRecDepth 20000 in
theorem gL_law_X7_refutes : GoodIn wsL_law (wsV RL 74 RX7 yX7_refutes wsX7_refutes) := goodIn_app (goodIn_of _ (by decide +kernel)) ggL_law_X7_refutes
set_option maxRecDepth 20000 in
theorem ggL_law_L_isPlan : GoodIn wsL_law wsL_isPlan := goodIn_ca (goodIn_ca (goodIn_r _ [448, 436, 437, 438, 2, 439, 135, 136, 21, 280, 440, 441, 371, 372, 373, 374, 359, 360, 13, 375, 376, 377, 12, 378, 42, 281, 282, 283, 284, 37, 183, 184, 185, 186, 36, 17, 187, 188, 189, 16, 190, 54, 191, 192, 193, 194, 195, 58, 62, 196, 55, 197, 56, 198, 57, 199, 200, 201, 202, 203, 204, 205, 206, 207, 208, 209, 210, 211, 212, 213, 214, 215, 216, 217, 218, 219, 220, 221, 222, 223, 224, 225, 226, 227, 59, 60, 228, 61, 229, 230, 231, 232, 233, 234, 235, 236, 237, 238, 239, 240, 241, 242, 243, 244, 245, 246, 247, 248, 249, 250, 251, 252, 253, 254, 255, 256, 257, 258, 259, 260, 261, 262, 263, 264, 265, 266, 267, 285, 286, 287, 20, 288, 67, 73, 75, 289, 74, 290, 71, 79, 291, 292, 293, 78, 294, 85, 295, 296, 297, 298, 299, 70, 300, 301, 302, 303, 68, 69, 304, 305, 306, 307, 308, 309, 310, 311, 312, 313, 314, 72, 315, 316, 317, 318, 319, 86, 320, 321, 322, 323, 84, 324, 325, 326, 327, 328, 329, 330, 331, 332, 367, 368, 369, 370, 379, 380, 381, 382, 44, 45, 46, 47, 48, 49, 449, 450, 120, 451, 276, 277, 278, 279, 523, 524, 525, 526, 527, 528, 529, 530, 531, 532, 550, 551, 552, 553, 554, 555, 556, 557, 558, 559, 533, 534, 535, 536, 537, 538, 539, 540, 541, 542, 543, 544, 545, 546, 547, 548, 549, 576, 577, 578] (by decide +kernel) (by decide +kernel)) (goodIn_sub (fun _ h => List.mem_append_left _ (List.mem_append_left _ (List.mem_append_right _ h))) (by decide +kernel))) (goodIn_sub (fun _ h => List.mem_append_left _ (List.mem_append_right _ h)) (by decide +kernel))
set_option maxRecDepth 20000 in
theorem gL_law_L_isPlan : GoodIn wsL_law (va_wsS RL 93 yL_isPlan wsL_isPlan) := goodIn_app (goodIn_of _ (by decide +kernel)) ggL_law_L_isPlan
set_option maxRecDepth 20000 in
theorem ggL_law_L_holds : GoodIn wsL_law wsL_holds := goodIn_ca (goodIn_ca (goodIn_ca (goodIn_r _ [454, 436, 437, 438, 2, 439, 135, 136, 21, 280, 440, 441, 371, 372, 373, 374, 359, 360, 13, 375, 376, 377, 12, 378, 42, 281, 282, 283, 284, 37, 183, 184, 185, 186, 36, 17, 187, 188, 189, 16, 190, 54, 191, 192, 193, 194, 195, 58, 62, 196, 55, 197, 56, 198, 57, 199, 200, 201, 202, 203, 204, 205, 206, 207, 208, 209, 210, 211, 212, 213, 214, 215, 216, 217, 218, 219, 220, 221, 222, 223, 224, 225, 226, 227, 59, 60, 228, 61, 229, 230, 231, 232, 233, 234, 235, 236, 237, 238, 239, 240, 241, 242, 243, 244, 245, 246, 247, 248, 249, 250, 251, 252, 253, 254, 255, 256, 257, 258, 259, 260, 261, 262, 263, 264, 265, 266, 267, 285, 286, 287, 20, 288, 67, 73, 75, 289, 74, 290, 71, 79, 291, 292, 293, 78, 294, 85, 295, 296, 297, 298, 299, 70, 300, 301, 302, 303, 68, 69, 304, 305, 306, 307, 308, 309, 310, 311, 312, 313, 314, 72, 315, 316, 317, 318, 319, 86, 320, 321, 322, 323, 84, 324, 325, 326, 327, 328, 329, 330, 331, 332, 455, 456, 457, 458, 459, 460, 461, 462, 463, 361, 362, 167, 464, 465, 466, 467, 468, 449, 450, 120, 451, 367, 368, 369, 370, 379, 380, 381, 382, 44, 45, 46, 47, 48, 49, 469, 470, 471, 472, 473, 474, 475, 476, 477, 478, 479, 480, 481, 26, 341, 27, 343, 147, 148, 149, 41, 482, 483, 484, 485, 486, 273, 274, 275, 442, 443, 444, 445, 403, 404, 405, 406, 487, 488, 489, 490, 491, 492, 493, 494, 272, 495, 396, 397, 398, 496, 497, 498, 499, 158, 159, 160, 161, 162, 163, 164, 165, 166, 137, 168, 169, 170, 171, 172, 173, 174, 175, 176, 177, 178, 179, 180, 181, 182, 268, 269, 270, 271, 500, 501, 502, 503, 523, 524, 525, 526, 527, 528, 529, 530, 531, 532, 550, 551, 552, 553, 554, 555, 556, 557, 558, 559, 533, 534, 535, 536, 537, 538, 539, 540, 541, 542, 543, 544, 545, 546, 547, 548, 549, 576, 577, 578] (by decide +kernel) (by decide +kernel)) (goodIn_sub (fun _ h => List.mem_append_left _ (List.mem_append_left _ (List.mem_append_right _ h))) (by decide +kernel))) (goodIn_sub (fun _ h => List.mem_append_left _ (List.mem_append_right _ h)) (by decide +kernel))) (goodIn_sub (fun _ h => List.mem_append_right _ h) (by decide +kernel))
set_option maxRecDepth 20000 in
theorem gL_law_L_holds : GoodIn wsL_law (va_wsS RL 97 yL_holds wsL_holds) := goodIn_app (goodIn_of _ (by decide +kernel)) ggL_law_L_holds
set_option maxRecDepth 20000 in
theorem ggL_law_X7_giveDominance : GoodIn wsL_law wsX7_giveDominance := goodIn_r _ [507, 13, 137, 138, 139, 140, 2, 141, 31, 142, 143, 144, 30, 145, 100, 102, 146, 147, 148, 12, 149, 41, 42, 44, 45, 46, 47, 48, 49, 150, 151, 152, 153, 36, 37, 508, 509, 510, 511, 395, 396, 397, 398, 205, 206, 512, 513, 400, 401, 402, 403, 404, 405, 406, 523, 524, 525, 526, 527, 528, 529, 530, 531, 532, 533, 534, 535, 536, 537, 538, 539, 540, 563, 564] (by decide +kernel) (by decide +kernel)
set_option maxRecDepth 20000 in
theorem gL_law_X7_giveDominance : GoodIn wsL_law (wsV RL 100 RX7 yX7_giveDominance wsX7_giveDominance) := goodIn_app (goodIn_of _ (by decide +kernel)) ggL_law_X7_giveDominance
set_option maxRecDepth 20000 in
theorem ggL_law_X7_undo : GoodIn wsL_law wsX7_undo := goodIn_ca (goodIn_r _ [517, 361, 362, 31, 518, 13, 519, 520, 521, 30, 522, 100, 102, 146, 147, 148, 12, 149, 41, 42, 44, 45, 46, 47, 48, 49, 150, 151, 152, 2, 153, 36, 37, 523, 524, 525, 526, 527, 528, 529, 530, 531, 532, 563, 564, 533, 534, 535, 536, 537, 538, 539, 540] (by decide +kernel) (by decide +kernel)) (goodIn_sub (fun _ h => List.mem_append_right _ h) (by decide +kernel))
set_option maxRecDepth 20000 in
theorem gL_law_X7_undo : GoodIn wsL_law (wsV RL 103 RX7 yX7_undo wsX7_undo) := goodIn_app (goodIn_of _ (by decide +kernel)) ggL_law_X7_undo
theorem dL_law_0 : decode cL_law 0 = .ok (.new 11, 3) := by decide +kernel
theorem dL_law_3 : decode cL_law 3 = .ok (.dup, 1) := by decide +kernel
theorem dL_law_4 : decode cL_law 4 = .ok (.invokespecial 84, 3) := by decide +kernel
theorem dL_law_7 : decode cL_law 7 = .ok (.astore_n 1, 1) := by decide +kernel
theorem dL_law_8 : decode cL_law 8 = .ok (.iconst 1, 1) := by decide +kernel
theorem dL_law_9 : decode cL_law 9 = .ok (.aload_n 0, 1) := by decide +kernel
theorem dL_law_10 : decode cL_law 10 = .ok (.iconst 0, 1) := by decide +kernel
theorem dL_law_11 : decode cL_law 11 = .ok (.invokestatic 20, 3) := by decide +kernel
theorem dL_law_14 : decode cL_law 14 = .ok (.bipush 6, 2) := by decide +kernel
theorem dL_law_16 : decode cL_law 16 = .ok (.invokestatic 26, 3) := by decide +kernel
theorem dL_law_19 : decode cL_law 19 = .ok (.iadd, 1) := by decide +kernel
theorem dL_law_20 : decode cL_law 20 = .ok (.istore_n 2, 1) := by decide +kernel
theorem dL_law_21 : decode cL_law 21 = .ok (.aload_n 1, 1) := by decide +kernel
theorem dL_law_22 : decode cL_law 22 = .ok (.aload_n 0, 1) := by decide +kernel
theorem dL_law_23 : decode cL_law 23 = .ok (.iload_n 2, 1) := by decide +kernel
theorem dL_law_24 : decode cL_law 24 = .ok (.invokestatic 85, 3) := by decide +kernel
theorem dL_law_27 : decode cL_law 27 = .ok (.ifCond .ne 5, 3) := by decide +kernel
theorem dL_law_30 : decode cL_law 30 = .ok (.iconst 0, 1) := by decide +kernel
theorem dL_law_31 : decode cL_law 31 = .ok (.ireturn, 1) := by decide +kernel
theorem dL_law_32 : decode cL_law 32 = .ok (.aload_n 1, 1) := by decide +kernel
theorem dL_law_33 : decode cL_law 33 = .ok (.invokevirtual 32, 3) := by decide +kernel
theorem dL_law_36 : decode cL_law 36 = .ok (.istore_n 3, 1) := by decide +kernel
theorem dL_law_37 : decode cL_law 37 = .ok (.aload_n 1, 1) := by decide +kernel
theorem dL_law_38 : decode cL_law 38 = .ok (.invokevirtual 36, 3) := by decide +kernel
theorem dL_law_41 : decode cL_law 41 = .ok (.istore 4, 2) := by decide +kernel
theorem dL_law_43 : decode cL_law 43 = .ok (.aload_n 1, 1) := by decide +kernel
theorem dL_law_44 : decode cL_law 44 = .ok (.aload_n 0, 1) := by decide +kernel
theorem dL_law_45 : decode cL_law 45 = .ok (.bipush 30, 2) := by decide +kernel
theorem dL_law_47 : decode cL_law 47 = .ok (.invokestatic 20, 3) := by decide +kernel
theorem dL_law_50 : decode cL_law 50 = .ok (.ldc 89, 2) := by decide +kernel
theorem dL_law_52 : decode cL_law 52 = .ok (.invokestatic 26, 3) := by decide +kernel
theorem dL_law_55 : decode cL_law 55 = .ok (.iconst 1, 1) := by decide +kernel
theorem dL_law_56 : decode cL_law 56 = .ok (.aload_n 0, 1) := by decide +kernel
theorem dL_law_57 : decode cL_law 57 = .ok (.bipush 31, 2) := by decide +kernel
theorem dL_law_59 : decode cL_law 59 = .ok (.invokestatic 20, 3) := by decide +kernel
theorem dL_law_62 : decode cL_law 62 = .ok (.bipush 20, 2) := by decide +kernel
theorem dL_law_64 : decode cL_law 64 = .ok (.invokestatic 26, 3) := by decide +kernel
theorem dL_law_67 : decode cL_law 67 = .ok (.iadd, 1) := by decide +kernel
theorem dL_law_68 : decode cL_law 68 = .ok (.invokevirtual 90, 3) := by decide +kernel
theorem dL_law_71 : decode cL_law 71 = .ok (.istore 5, 2) := by decide +kernel
theorem dL_law_73 : decode cL_law 73 = .ok (.aload_n 1, 1) := by decide +kernel
theorem dL_law_74 : decode cL_law 74 = .ok (.iconst 4, 1) := by decide +kernel
theorem dL_law_75 : decode cL_law 75 = .ok (.invokevirtual 16, 3) := by decide +kernel
theorem dL_law_78 : decode cL_law 78 = .ok (.iconst 1, 1) := by decide +kernel
theorem dL_law_79 : decode cL_law 79 = .ok (.if_icmp .ne 50, 3) := by decide +kernel
theorem dL_law_82 : decode cL_law 82 = .ok (.iload_n 3, 1) := by decide +kernel
theorem dL_law_83 : decode cL_law 83 = .ok (.iconst (-1), 1) := by decide +kernel
theorem dL_law_84 : decode cL_law 84 = .ok (.if_icmp .ne 43, 3) := by decide +kernel
theorem dL_law_87 : decode cL_law 87 = .ok (.iload 5, 2) := by decide +kernel
theorem dL_law_89 : decode cL_law 89 = .ok (.iconst (-1), 1) := by decide +kernel
theorem dL_law_90 : decode cL_law 90 = .ok (.if_icmp .ne 37, 3) := by decide +kernel
theorem dL_law_93 : decode cL_law 93 = .ok (.aload_n 1, 1) := by decide +kernel
theorem dL_law_94 : decode cL_law 94 = .ok (.iconst 5, 1) := by decide +kernel
theorem dL_law_95 : decode cL_law 95 = .ok (.invokevirtual 16, 3) := by decide +kernel
theorem dL_law_98 : decode cL_law 98 = .ok (.iconst (-1), 1) := by decide +kernel
theorem dL_law_99 : decode cL_law 99 = .ok (.if_icmp .ne 28, 3) := by decide +kernel
theorem dL_law_102 : decode cL_law 102 = .ok (.aload_n 1, 1) := by decide +kernel
theorem dL_law_103 : decode cL_law 103 = .ok (.iconst 0, 1) := by decide +kernel
theorem dL_law_104 : decode cL_law 104 = .ok (.iconst 1, 1) := by decide +kernel
theorem dL_law_105 : decode cL_law 105 = .ok (.invokevirtual 51, 3) := by decide +kernel
theorem dL_law_108 : decode cL_law 108 = .ok (.iconst (-1), 1) := by decide +kernel
theorem dL_law_109 : decode cL_law 109 = .ok (.if_icmp .ne 18, 3) := by decide +kernel
theorem dL_law_112 : decode cL_law 112 = .ok (.aload_n 1, 1) := by decide +kernel
theorem dL_law_113 : decode cL_law 113 = .ok (.iconst 0, 1) := by decide +kernel
theorem dL_law_114 : decode cL_law 114 = .ok (.iload_n 2, 1) := by decide +kernel
theorem dL_law_115 : decode cL_law 115 = .ok (.iconst 1, 1) := by decide +kernel
theorem dL_law_116 : decode cL_law 116 = .ok (.isub, 1) := by decide +kernel
theorem dL_law_117 : decode cL_law 117 = .ok (.invokevirtual 74, 3) := by decide +kernel
theorem dL_law_120 : decode cL_law 120 = .ok (.ifCond .eq 7, 3) := by decide +kernel
theorem dL_law_123 : decode cL_law 123 = .ok (.iconst 1, 1) := by decide +kernel
theorem dL_law_124 : decode cL_law 124 = .ok (.goto 4, 3) := by decide +kernel
theorem dL_law_127 : decode cL_law 127 = .ok (.iconst 0, 1) := by decide +kernel
theorem dL_law_128 : decode cL_law 128 = .ok (.ireturn, 1) := by decide +kernel
theorem dL_law_129 : decode cL_law 129 = .ok (.iload_n 3, 1) := by decide +kernel
theorem dL_law_130 : decode cL_law 130 = .ok (.iconst (-1), 1) := by decide +kernel
theorem dL_law_131 : decode cL_law 131 = .ok (.if_icmp .ne 30, 3) := by decide +kernel
theorem dL_law_134 : decode cL_law 134 = .ok (.iload 5, 2) := by decide +kernel
theorem dL_law_136 : decode cL_law 136 = .ok (.iconst (-1), 1) := by decide +kernel
theorem dL_law_137 : decode cL_law 137 = .ok (.if_icmp .ne 22, 3) := by decide +kernel
theorem dL_law_140 : decode cL_law 140 = .ok (.aload_n 1, 1) := by decide +kernel
theorem dL_law_141 : decode cL_law 141 = .ok (.iconst 0, 1) := by decide +kernel
theorem dL_law_142 : decode cL_law 142 = .ok (.iconst 0, 1) := by decide +kernel
theorem dL_law_143 : decode cL_law 143 = .ok (.invokevirtual 51, 3) := by decide +kernel
theorem dL_law_146 : decode cL_law 146 = .ok (.iconst (-1), 1) := by decide +kernel
theorem dL_law_147 : decode cL_law 147 = .ok (.if_icmp .ne 12, 3) := by decide +kernel
theorem dL_law_150 : decode cL_law 150 = .ok (.iload 4, 2) := by decide +kernel
theorem dL_law_152 : decode cL_law 152 = .ok (.ifCond .lt 7, 3) := by decide +kernel
theorem dL_law_155 : decode cL_law 155 = .ok (.iconst 1, 1) := by decide +kernel
theorem dL_law_156 : decode cL_law 156 = .ok (.goto 4, 3) := by decide +kernel
theorem dL_law_159 : decode cL_law 159 = .ok (.iconst 0, 1) := by decide +kernel
theorem dL_law_160 : decode cL_law 160 = .ok (.ireturn, 1) := by decide +kernel
theorem dL_law_161 : decode cL_law 161 = .ok (.aload_n 1, 1) := by decide +kernel
theorem dL_law_162 : decode cL_law 162 = .ok (.iload_n 2, 1) := by decide +kernel
theorem dL_law_163 : decode cL_law 163 = .ok (.invokestatic 93, 3) := by decide +kernel
theorem dL_law_166 : decode cL_law 166 = .ok (.ifCond .eq 34, 3) := by decide +kernel
theorem dL_law_169 : decode cL_law 169 = .ok (.aload_n 1, 1) := by decide +kernel
theorem dL_law_170 : decode cL_law 170 = .ok (.iload_n 2, 1) := by decide +kernel
theorem dL_law_171 : decode cL_law 171 = .ok (.invokestatic 97, 3) := by decide +kernel
theorem dL_law_174 : decode cL_law 174 = .ok (.ifCond .eq 26, 3) := by decide +kernel
theorem dL_law_177 : decode cL_law 177 = .ok (.iload 4, 2) := by decide +kernel
theorem dL_law_179 : decode cL_law 179 = .ok (.iload_n 3, 1) := by decide +kernel
theorem dL_law_180 : decode cL_law 180 = .ok (.if_icmp .gt 20, 3) := by decide +kernel
theorem dL_law_183 : decode cL_law 183 = .ok (.iload 4, 2) := by decide +kernel
theorem dL_law_185 : decode cL_law 185 = .ok (.ifCond .lt 15, 3) := by decide +kernel
theorem dL_law_188 : decode cL_law 188 = .ok (.iload 5, 2) := by decide +kernel
theorem dL_law_190 : decode cL_law 190 = .ok (.iconst (-1), 1) := by decide +kernel
theorem dL_law_191 : decode cL_law 191 = .ok (.if_icmp .eq 11, 3) := by decide +kernel
theorem dL_law_194 : decode cL_law 194 = .ok (.iload 5, 2) := by decide +kernel
theorem dL_law_196 : decode cL_law 196 = .ok (.iload_n 3, 1) := by decide +kernel
theorem dL_law_197 : decode cL_law 197 = .ok (.if_icmp .ge 5, 3) := by decide +kernel
theorem dL_law_200 : decode cL_law 200 = .ok (.iconst 0, 1) := by decide +kernel
theorem dL_law_201 : decode cL_law 201 = .ok (.ireturn, 1) := by decide +kernel
theorem dL_law_202 : decode cL_law 202 = .ok (.aload_n 1, 1) := by decide +kernel
theorem dL_law_203 : decode cL_law 203 = .ok (.iconst 2, 1) := by decide +kernel
theorem dL_law_204 : decode cL_law 204 = .ok (.invokevirtual 16, 3) := by decide +kernel
theorem dL_law_207 : decode cL_law 207 = .ok (.istore 6, 2) := by decide +kernel
theorem dL_law_209 : decode cL_law 209 = .ok (.aload_n 1, 1) := by decide +kernel
theorem dL_law_210 : decode cL_law 210 = .ok (.invokevirtual 100, 3) := by decide +kernel
theorem dL_law_213 : decode cL_law 213 = .ok (.istore 7, 2) := by decide +kernel
theorem dL_law_215 : decode cL_law 215 = .ok (.iload 7, 2) := by decide +kernel
theorem dL_law_217 : decode cL_law 217 = .ok (.ifCond .lt 40, 3) := by decide +kernel
theorem dL_law_220 : decode cL_law 220 = .ok (.aload_n 1, 1) := by decide +kernel
theorem dL_law_221 : decode cL_law 221 = .ok (.iconst 2, 1) := by decide +kernel
theorem dL_law_222 : decode cL_law 222 = .ok (.invokevirtual 16, 3) := by decide +kernel
theorem dL_law_225 : decode cL_law 225 = .ok (.iload 6, 2) := by decide +kernel
theorem dL_law_227 : decode cL_law 227 = .ok (.iload 7, 2) := by decide +kernel
theorem dL_law_229 : decode cL_law 229 = .ok (.iadd, 1) := by decide +kernel
theorem dL_law_230 : decode cL_law 230 = .ok (.if_icmp .ne 27, 3) := by decide +kernel
theorem dL_law_233 : decode cL_law 233 = .ok (.aload_n 1, 1) := by decide +kernel
theorem dL_law_234 : decode cL_law 234 = .ok (.invokevirtual 32, 3) := by decide +kernel
theorem dL_law_237 : decode cL_law 237 = .ok (.iload_n 3, 1) := by decide +kernel
theorem dL_law_238 : decode cL_law 238 = .ok (.if_icmp .ne 19, 3) := by decide +kernel
theorem dL_law_241 : decode cL_law 241 = .ok (.aload_n 1, 1) := by decide +kernel
theorem dL_law_242 : decode cL_law 242 = .ok (.iload_n 2, 1) := by decide +kernel
theorem dL_law_243 : decode cL_law 243 = .ok (.invokestatic 93, 3) := by decide +kernel
theorem dL_law_246 : decode cL_law 246 = .ok (.ifCond .eq 11, 3) := by decide +kernel
theorem dL_law_249 : decode cL_law 249 = .ok (.aload_n 1, 1) := by decide +kernel
theorem dL_law_250 : decode cL_law 250 = .ok (.iload_n 2, 1) := by decide +kernel
theorem dL_law_251 : decode cL_law 251 = .ok (.invokestatic 97, 3) := by decide +kernel
theorem dL_law_254 : decode cL_law 254 = .ok (.ifCond .ne 5, 3) := by decide +kernel
theorem dL_law_257 : decode cL_law 257 = .ok (.iconst 0, 1) := by decide +kernel
theorem dL_law_258 : decode cL_law 258 = .ok (.ireturn, 1) := by decide +kernel
theorem dL_law_259 : decode cL_law 259 = .ok (.aload_n 1, 1) := by decide +kernel
theorem dL_law_260 : decode cL_law 260 = .ok (.invokevirtual 103, 3) := by decide +kernel
theorem dL_law_263 : decode cL_law 263 = .ok (.ifCond .lt 25, 3) := by decide +kernel
theorem dL_law_266 : decode cL_law 266 = .ok (.aload_n 1, 1) := by decide +kernel
theorem dL_law_267 : decode cL_law 267 = .ok (.iconst 2, 1) := by decide +kernel
theorem dL_law_268 : decode cL_law 268 = .ok (.invokevirtual 16, 3) := by decide +kernel
theorem dL_law_271 : decode cL_law 271 = .ok (.iload 6, 2) := by decide +kernel
theorem dL_law_273 : decode cL_law 273 = .ok (.if_icmp .ne 15, 3) := by decide +kernel
theorem dL_law_276 : decode cL_law 276 = .ok (.aload_n 1, 1) := by decide +kernel
theorem dL_law_277 : decode cL_law 277 = .ok (.invokevirtual 32, 3) := by decide +kernel
theorem dL_law_280 : decode cL_law 280 = .ok (.iload_n 3, 1) := by decide +kernel
theorem dL_law_281 : decode cL_law 281 = .ok (.if_icmp .ne 7, 3) := by decide +kernel
theorem dL_law_284 : decode cL_law 284 = .ok (.iconst 1, 1) := by decide +kernel
theorem dL_law_285 : decode cL_law 285 = .ok (.goto 4, 3) := by decide +kernel
theorem dL_law_288 : decode cL_law 288 = .ok (.iconst 0, 1) := by decide +kernel
theorem dL_law_289 : decode cL_law 289 = .ok (.ireturn, 1) := by decide +kernel
