theorem goodIn_cons {big a : List Cond} {c : Cond} (hc : GoodIn big [c]) (ha : GoodIn big a) : GoodIn big (c :: a) := fun w h => (List.mem_cons.mp h).elim (fun e => hc w (List.mem_cons.mpr (Or.inl e))) (ha w)
theorem dL_isPlan_107 : decode cL_isPlan 107 = .ok (.if_icmp .gt 7, 3) := by decide +kernel
theorem dL_isPlan_110 : decode cL_isPlan 110 = .ok (.iconst 1, 1) := by decide +kernel
theorem dL_isPlan_111 : decode cL_isPlan 111 = .ok (.goto 4, 3) := by decide +kernel
theorem dL_isPlan_114 : decode cL_isPlan 114 = .ok (.iconst 0, 1) := by decide +kernel
theorem dL_isPlan_115 : decode cL_isPlan 115 = .ok (.istore 7, 2) := by decide +kernel
theorem dL_isPlan_117 : decode cL_isPlan 117 = .ok (.aload_n 0, 1) := by decide +kernel
theorem dL_isPlan_118 : decode cL_isPlan 118 = .ok (.iload 4, 2) := by decide +kernel
theorem dL_isPlan_120 : decode cL_isPlan 120 = .ok (.iconst 0, 1) := by decide +kernel
theorem dL_isPlan_121 : decode cL_isPlan 121 = .ok (.invokevirtual 51, 3) := by decide +kernel
theorem dL_isPlan_124 : decode cL_isPlan 124 = .ok (.aload_n 0, 1) := by decide +kernel
theorem dL_isPlan_125 : decode cL_isPlan 125 = .ok (.iload 6, 2) := by decide +kernel
theorem dL_isPlan_127 : decode cL_isPlan 127 = .ok (.iconst 0, 1) := by decide +kernel
theorem dL_isPlan_128 : decode cL_isPlan 128 = .ok (.invokevirtual 51, 3) := by decide +kernel
theorem dL_isPlan_131 : decode cL_isPlan 131 = .ok (.if_icmp .ge 7, 3) := by decide +kernel
theorem dL_isPlan_134 : decode cL_isPlan 134 = .ok (.iconst 1, 1) := by decide +kernel
theorem dL_isPlan_135 : decode cL_isPlan 135 = .ok (.goto 4, 3) := by decide +kernel
theorem dL_isPlan_138 : decode cL_isPlan 138 = .ok (.iconst 0, 1) := by decide +kernel
theorem dL_isPlan_139 : decode cL_isPlan 139 = .ok (.istore 8, 2) := by decide +kernel
theorem dL_isPlan_141 : decode cL_isPlan 141 = .ok (.iload 4, 2) := by decide +kernel
theorem dL_isPlan_143 : decode cL_isPlan 143 = .ok (.iload 6, 2) := by decide +kernel
theorem dL_isPlan_145 : decode cL_isPlan 145 = .ok (.if_icmp .eq 27, 3) := by decide +kernel
theorem dL_isPlan_148 : decode cL_isPlan 148 = .ok (.aload_n 0, 1) := by decide +kernel
theorem dL_isPlan_149 : decode cL_isPlan 149 = .ok (.iload 4, 2) := by decide +kernel
theorem dL_isPlan_151 : decode cL_isPlan 151 = .ok (.iconst 0, 1) := by decide +kernel
theorem dL_isPlan_152 : decode cL_isPlan 152 = .ok (.invokevirtual 10, 3) := by decide +kernel
theorem dL_isPlan_155 : decode cL_isPlan 155 = .ok (.aload_n 0, 1) := by decide +kernel
theorem dL_isPlan_156 : decode cL_isPlan 156 = .ok (.iload 6, 2) := by decide +kernel
theorem dL_isPlan_158 : decode cL_isPlan 158 = .ok (.iconst 0, 1) := by decide +kernel
theorem dL_isPlan_159 : decode cL_isPlan 159 = .ok (.invokevirtual 10, 3) := by decide +kernel
theorem dL_isPlan_162 : decode cL_isPlan 162 = .ok (.if_icmp .ne 10, 3) := by decide +kernel
theorem dL_isPlan_165 : decode cL_isPlan 165 = .ok (.iload 7, 2) := by decide +kernel
theorem dL_isPlan_167 : decode cL_isPlan 167 = .ok (.iload 8, 2) := by decide +kernel
theorem dL_isPlan_169 : decode cL_isPlan 169 = .ok (.if_icmp .ne 29, 3) := by decide +kernel
theorem dL_isPlan_172 : decode cL_isPlan 172 = .ok (.aload_n 0, 1) := by decide +kernel
theorem dL_isPlan_173 : decode cL_isPlan 173 = .ok (.iload 4, 2) := by decide +kernel
theorem dL_isPlan_175 : decode cL_isPlan 175 = .ok (.iconst 5, 1) := by decide +kernel
theorem dL_isPlan_176 : decode cL_isPlan 176 = .ok (.invokevirtual 10, 3) := by decide +kernel
theorem dL_isPlan_179 : decode cL_isPlan 179 = .ok (.iload 6, 2) := by decide +kernel
theorem dL_isPlan_181 : decode cL_isPlan 181 = .ok (.ishr, 1) := by decide +kernel
theorem dL_isPlan_182 : decode cL_isPlan 182 = .ok (.iconst 1, 1) := by decide +kernel
theorem dL_isPlan_183 : decode cL_isPlan 183 = .ok (.iand, 1) := by decide +kernel
theorem dL_isPlan_184 : decode cL_isPlan 184 = .ok (.iconst 1, 1) := by decide +kernel
theorem dL_isPlan_185 : decode cL_isPlan 185 = .ok (.if_icmp .ne 15, 3) := by decide +kernel
theorem dL_isPlan_188 : decode cL_isPlan 188 = .ok (.iload 7, 2) := by decide +kernel
theorem dL_isPlan_190 : decode cL_isPlan 190 = .ok (.ifCond .eq 8, 3) := by decide +kernel
theorem dL_isPlan_193 : decode cL_isPlan 193 = .ok (.iload 8, 2) := by decide +kernel
theorem dL_isPlan_195 : decode cL_isPlan 195 = .ok (.ifCond .ne 5, 3) := by decide +kernel
theorem dL_isPlan_198 : decode cL_isPlan 198 = .ok (.iconst 0, 1) := by decide +kernel
theorem dL_isPlan_199 : decode cL_isPlan 199 = .ok (.ireturn, 1) := by decide +kernel
theorem dL_isPlan_200 : decode cL_isPlan 200 = .ok (.iinc 6 1, 3) := by decide +kernel
theorem dL_isPlan_203 : decode cL_isPlan 203 = .ok (.goto (-115), 3) := by decide +kernel
theorem dL_isPlan_206 : decode cL_isPlan 206 = .ok (.iinc 4 1, 3) := by decide +kernel
theorem dL_isPlan_209 : decode cL_isPlan 209 = .ok (.goto (-202), 3) := by decide +kernel
theorem dL_isPlan_212 : decode cL_isPlan 212 = .ok (.aload_n 0, 1) := by decide +kernel
theorem dL_isPlan_213 : decode cL_isPlan 213 = .ok (.invokevirtual 32, 3) := by decide +kernel
theorem dL_isPlan_216 : decode cL_isPlan 216 = .ok (.iload_n 2, 1) := by decide +kernel
theorem dL_isPlan_217 : decode cL_isPlan 217 = .ok (.if_icmp .ne 16, 3) := by decide +kernel
theorem dL_isPlan_220 : decode cL_isPlan 220 = .ok (.iload_n 3, 1) := by decide +kernel
theorem dL_isPlan_221 : decode cL_isPlan 221 = .ok (.iconst 1, 1) := by decide +kernel
theorem dL_isPlan_222 : decode cL_isPlan 222 = .ok (.iload_n 1, 1) := by decide +kernel
theorem dL_isPlan_223 : decode cL_isPlan 223 = .ok (.ishl, 1) := by decide +kernel
theorem dL_isPlan_224 : decode cL_isPlan 224 = .ok (.iconst 1, 1) := by decide +kernel
theorem dL_isPlan_225 : decode cL_isPlan 225 = .ok (.isub, 1) := by decide +kernel
theorem dL_isPlan_226 : decode cL_isPlan 226 = .ok (.if_icmp .ne 7, 3) := by decide +kernel
theorem dL_isPlan_229 : decode cL_isPlan 229 = .ok (.iconst 1, 1) := by decide +kernel
theorem dL_isPlan_230 : decode cL_isPlan 230 = .ok (.goto 4, 3) := by decide +kernel
theorem dL_isPlan_233 : decode cL_isPlan 233 = .ok (.iconst 0, 1) := by decide +kernel
theorem dL_isPlan_234 : decode cL_isPlan 234 = .ok (.ireturn, 1) := by decide +kernel
set_option maxRecDepth 20000 in
theorem ggL_holds_X7_inBest : GoodIn wsL_holds wsX7_inBest := goodIn_ca (goodIn_ca (goodIn_r _ [5, 6, 7, 8, 9, 10, 11, 12, 13, 14, 4, 15, 16, 17, 18, 19, 20, 21, 22, 23, 24, 25, 26, 27, 28, 29, 30, 31, 32, 33, 34, 35, 36, 37, 38, 39, 40, 41, 42, 43, 44, 45, 46, 47, 48, 49, 50, 51, 52, 53, 54, 55, 56, 57, 58, 59, 60, 61, 62, 63, 64, 65, 66, 67, 68, 69, 70, 71, 72, 73, 74, 75, 76, 77, 78, 79, 80, 81, 82, 83, 84, 85, 86, 87, 88, 89, 90, 91, 92, 93, 94, 95, 96, 97, 98, 99, 100, 101, 102, 103, 104, 105, 106, 107, 108, 109, 110, 111, 112, 113, 114, 115, 116, 117, 118, 119, 120, 121, 122, 123, 124, 125, 126, 127, 128, 129, 130, 131, 132, 133, 134, 135, 136, 137, 138, 139, 140, 141, 142, 143, 144, 145, 146, 147, 148, 149, 150, 151, 152, 153, 154, 155, 156, 157, 158, 159, 160, 161, 162, 163, 164, 165, 166, 167, 168, 169, 170, 171, 172, 173, 174, 175, 176, 177, 178, 179, 180, 181, 182, 183, 184, 185, 186, 187, 188, 189, 312, 313, 314, 315, 316, 317, 318, 319, 320, 321, 322, 323, 324, 325, 326, 327, 328, 329, 330, 331, 332, 333, 334, 335, 336, 337, 338, 339, 340, 341, 342, 343, 344, 345, 346, 347, 348, 349, 350, 351] (by decide +kernel) (by decide +kernel)) (goodIn_sub (fun _ h => List.mem_cons_of_mem _ (List.mem_append_left _ (List.mem_append_left _ (List.mem_append_right _ h)))) (by decide +kernel))) (goodIn_sub (fun _ h => List.mem_cons_of_mem _ (List.mem_append_left _ (List.mem_append_right _ h))) (by decide +kernel))
set_option maxRecDepth 20000 in
theorem gL_holds_X7_inBest : GoodIn wsL_holds (wsV RL 51 RX7 yX7_inBest wsX7_inBest) := goodIn_app (goodIn_of _ (by decide +kernel)) ggL_holds_X7_inBest
set_option maxRecDepth 20000 in
theorem ggL_holds_X7_firstStart : GoodIn wsL_holds wsX7_firstStart := goodIn_ca (goodIn_ca (goodIn_r _ [193, 35, 194, 12, 13, 14, 4, 15, 16, 17, 18, 19, 20, 21, 22, 23, 24, 195, 196, 197, 198, 199, 200, 201, 30, 31, 32, 33, 34, 36, 37, 38, 39, 40, 41, 42, 43, 44, 45, 46, 47, 48, 49, 50, 51, 52, 53, 54, 55, 56, 57, 58, 59, 60, 61, 62, 63, 64, 65, 66, 67, 68, 69, 70, 71, 72, 73, 74, 75, 76, 77, 78, 79, 80, 81, 82, 83, 84, 85, 86, 87, 88, 89, 90, 91, 92, 93, 94, 95, 96, 97, 98, 99, 100, 101, 102, 103, 104, 105, 106, 107, 108, 109, 110, 111, 112, 113, 114, 115, 116, 117, 118, 119, 120, 121, 122, 123, 124, 125, 126, 312, 313, 314, 315, 316, 317, 318, 319, 320, 321, 340, 341, 342, 343, 344, 345, 346, 347, 348, 332, 333, 334, 335, 336, 337, 338, 339] (by decide +kernel) (by decide +kernel)) (goodIn_sub (fun _ h => List.mem_cons_of_mem _ (List.mem_append_left _ (List.mem_append_right _ h))) (by decide +kernel))) (goodIn_sub (fun _ h => List.mem_cons_of_mem _ (List.mem_append_right _ h)) (by decide +kernel))
set_option maxRecDepth 20000 in
theorem gL_holds_X7_firstStart : GoodIn wsL_holds (wsV RL 58 RX7 yX7_firstStart wsX7_firstStart) := goodIn_app (goodIn_of _ (by decide +kernel)) ggL_holds_X7_firstStart
set_option maxRecDepth 20000 in
theorem ggL_holds_X7_lastEnd : GoodIn wsL_holds wsX7_lastEnd := goodIn_ca (goodIn_ca (goodIn_r _ [205, 35, 206, 12, 13, 14, 4, 15, 16, 17, 18, 19, 20, 21, 22, 23, 24, 195, 196, 197, 198, 199, 200, 201, 30, 31, 32, 33, 34, 36, 37, 38, 39, 40, 41, 42, 43, 44, 45, 46, 47, 48, 49, 50, 51, 52, 53, 54, 55, 56, 57, 58, 59, 60, 61, 62, 63, 64, 65, 66, 67, 68, 69, 70, 71, 72, 73, 74, 75, 76, 77, 78, 79, 80, 81, 82, 83, 84, 85, 86, 87, 88, 89, 90, 91, 92, 93, 94, 95, 96, 97, 98, 99, 100, 101, 102, 103, 104, 105, 106, 107, 108, 109, 110, 111, 112, 113, 114, 115, 116, 117, 118, 119, 120, 121, 122, 123, 124, 125, 126, 312, 313, 314, 315, 316, 317, 318, 319, 320, 321, 340, 341, 342, 343, 344, 345, 346, 347, 348, 332, 333, 334, 335, 336, 337, 338, 339] (by decide +kernel) (by decide +kernel)) (goodIn_sub (fun _ h => List.mem_cons_of_mem _ (List.mem_append_left _ (List.mem_append_right _ h))) (by decide +kernel))) (goodIn_sub (fun _ h => List.mem_cons_of_mem _ (List.mem_append_right _ h)) (by decide +kernel))
set_option maxRecDepth 20000 in
theorem gL_holds_X7_lastEnd : GoodIn wsL_holds (wsV RL 61 RX7 yX7_lastEnd wsX7_lastEnd) := goodIn_app (goodIn_of _ (by decide +kernel)) ggL_holds_X7_lastEnd
set_option maxRecDepth 20000 in
theorem ggL_holds_L_end : GoodIn wsL_holds wsL_end := goodIn_ca (goodIn_ca (goodIn_r _ [210, 1, 2, 3, 4, 5, 6, 7, 8, 9, 10, 11, 12, 13, 14, 15, 16, 17, 18, 19, 20, 21, 22, 23, 24, 25, 26, 27, 28, 29, 30, 31, 32, 33, 34, 35, 36, 37, 38, 39, 40, 41, 42, 43, 44, 45, 46, 47, 48, 49, 50, 51, 52, 53, 54, 55, 56, 57, 58, 59, 60, 61, 62, 63, 64, 65, 66, 67, 68, 69, 70, 71, 72, 73, 74, 75, 76, 77, 78, 79, 80, 81, 82, 83, 84, 85, 86, 87, 88, 89, 90, 91, 92, 93, 94, 95, 96, 97, 98, 99, 100, 101, 102, 103, 104, 105, 106, 107, 108, 109, 110, 111, 112, 113, 114, 115, 116, 117, 118, 119, 120, 121, 122, 123, 124, 125, 126, 127, 128, 129, 130, 131, 132, 133, 134, 135, 136, 137, 138, 139, 140, 141, 142, 143, 144, 145, 146, 147, 148, 149, 150, 151, 152, 153, 154, 155, 156, 157, 158, 159, 160, 161, 162, 163, 164, 165, 166, 167, 168, 169, 170, 171, 172, 173, 174, 175, 176, 177, 178, 179, 180, 181, 182, 183, 184, 185, 186, 187, 188, 189, 211, 212, 213, 214, 215, 216, 217, 218, 219, 220, 221, 222, 223, 224, 312, 313, 314, 315, 316, 317, 318, 319, 320, 321, 322, 323, 324, 325, 326, 327, 328, 329, 330, 331, 332, 333, 334, 335, 336, 337, 338, 339, 340, 341, 342, 343, 344, 345, 346, 347, 348, 349, 350, 351] (by decide +kernel) (by decide +kernel)) (goodIn_sub (fun _ h => List.mem_cons_of_mem _ (List.mem_append_left _ (List.mem_append_left _ (List.mem_append_right _ h)))) (by decide +kernel))) (goodIn_sub (fun _ h => List.mem_cons_of_mem _ (List.mem_append_left _ (List.mem_append_right _ h))) (by decide +kernel))
set_option maxRecDepth 20000 in
theorem gL_holds_L_end : GoodIn wsL_holds (va_wsS RL 54 yL_end wsL_end) := goodIn_app (goodIn_of _ (by decide +kernel)) ggL_holds_L_end
set_option maxRecDepth 20000 in
theorem ggL_holds_X7_slack : GoodIn wsL_holds wsX7_slack := goodIn_ca (goodIn_ca (goodIn_r _ [228, 35, 206, 194, 18, 229, 12, 13, 14, 4, 15, 16, 17, 19, 20, 21, 22, 23, 24, 195, 196, 197, 198, 199, 200, 201, 30, 31, 32, 33, 34, 36, 37, 38, 39, 40, 41, 42, 43, 44, 45, 46, 47, 48, 49, 50, 51, 52, 53, 54, 55, 56, 57, 58, 59, 60, 61, 62, 63, 64, 65, 66, 67, 68, 69, 70, 71, 72, 73, 74, 75, 76, 77, 78, 79, 80, 81, 82, 83, 84, 85, 86, 87, 88, 89, 90, 91, 92, 93, 94, 95, 96, 97, 98, 99, 100, 101, 102, 103, 104, 105, 106, 107, 108, 109, 110, 111, 112, 113, 114, 115, 116, 117, 118, 119, 120, 121, 122, 123, 124, 125, 126, 312, 313, 314, 315, 316, 317, 318, 319, 320, 321, 340, 341, 342, 343, 344, 345, 346, 347, 348, 332, 333, 334, 335, 336, 337, 338, 339] (by decide +kernel) (by decide +kernel)) (goodIn_sub (fun _ h => List.mem_cons_of_mem _ (List.mem_append_left _ (List.mem_append_right _ h))) (by decide +kernel))) (goodIn_sub (fun _ h => List.mem_cons_of_mem _ (List.mem_append_right _ h)) (by decide +kernel))
set_option maxRecDepth 20000 in
theorem gL_holds_X7_slack : GoodIn wsL_holds (wsV RL 64 RX7 yX7_slack wsX7_slack) := goodIn_app (goodIn_of _ (by decide +kernel)) ggL_holds_X7_slack
set_option maxRecDepth 20000 in
theorem ggL_holds_X7_task : GoodIn wsL_holds wsX7_task := goodIn_ca (goodIn_ca (goodIn_r _ [214, 6, 7, 18, 12, 13, 14, 4, 15, 16, 17, 19, 20, 21, 22, 23, 24, 215, 216, 217, 218, 219, 220, 221, 222, 223, 224, 312, 313, 314, 315, 316, 317, 318, 319, 320, 321, 332, 333, 334, 335, 336, 337, 338, 339] (by decide +kernel) (by decide +kernel)) (goodIn_sub (fun _ h => List.mem_cons_of_mem _ (List.mem_append_left _ (List.mem_append_left _ (List.mem_append_right _ h)))) (by decide +kernel))) (goodIn_sub (fun _ h => List.mem_cons_of_mem _ (List.mem_append_left _ (List.mem_append_right _ h))) (by decide +kernel))
set_option maxRecDepth 20000 in
theorem gL_holds_X7_task : GoodIn wsL_holds (wsV RL 10 RX7 yX7_task wsX7_task) := goodIn_app (goodIn_of _ (by decide +kernel)) ggL_holds_X7_task
set_option maxRecDepth 20000 in
theorem ggL_holds_X7_leastDue : GoodIn wsL_holds wsX7_leastDue := goodIn_ca (goodIn_r _ [233, 12, 13, 14, 4, 15, 16, 17, 18, 19, 20, 21, 22, 23, 24, 234, 235, 236, 237, 238, 239, 240, 201, 241, 242, 243, 244, 245, 219, 220, 221, 222, 223, 224, 36, 37, 38, 39, 40, 41, 42, 43, 44, 45, 46, 47, 48, 49, 50, 51, 52, 53, 54, 55, 56, 57, 58, 59, 60, 61, 62, 63, 64, 65, 66, 67, 68, 69, 70, 71, 72, 73, 74, 75, 76, 77, 78, 79, 80, 81, 82, 83, 84, 85, 86, 87, 88, 89, 90, 91, 92, 93, 94, 95, 96, 97, 98, 99, 100, 101, 102, 103, 104, 105, 106, 107, 108, 109, 110, 111, 112, 113, 114, 115, 116, 117, 118, 119, 120, 121, 122, 123, 124, 125, 126, 312, 313, 314, 315, 316, 317, 318, 319, 320, 321, 332, 333, 334, 335, 336, 337, 338, 339, 340, 341, 342, 343, 344, 345, 346, 347, 348] (by decide +kernel) (by decide +kernel)) (goodIn_sub (fun _ h => List.mem_cons_of_mem _ (List.mem_append_left _ (List.mem_append_right _ h))) (by decide +kernel))
set_option maxRecDepth 20000 in
theorem gL_holds_X7_leastDue : GoodIn wsL_holds (wsV RL 67 RX7 yX7_leastDue wsX7_leastDue) := goodIn_app (goodIn_of _ (by decide +kernel)) ggL_holds_X7_leastDue
set_option maxRecDepth 20000 in
theorem ggL_holds_X7_precedes : GoodIn wsL_holds wsX7_precedes := goodIn_ca (goodIn_ca (goodIn_r _ [249, 35, 12, 13, 14, 4, 15, 16, 17, 18, 19, 20, 21, 22, 23, 24, 195, 196, 197, 198, 199, 200, 201, 30, 31, 32, 33, 34, 36, 37, 38, 39, 40, 41, 42, 43, 44, 45, 46, 47, 48, 49, 50, 51, 52, 53, 54, 55, 56, 57, 58, 59, 60, 61, 62, 63, 64, 65, 66, 67, 68, 69, 70, 71, 72, 73, 74, 75, 76, 77, 78, 79, 80, 81, 82, 83, 84, 85, 86, 87, 88, 89, 90, 91, 92, 93, 94, 95, 96, 97, 98, 99, 100, 101, 102, 103, 104, 105, 106, 107, 108, 109, 110, 111, 112, 113, 114, 115, 116, 117, 118, 119, 120, 121, 122, 123, 124, 125, 126, 250, 251, 252, 253, 312, 313, 314, 315, 316, 317, 318, 319, 320, 321, 332, 333, 334, 335, 336, 337, 338, 339, 340, 341, 342, 343, 344, 345, 346, 347, 348] (by decide +kernel) (by decide +kernel)) (goodIn_sub (fun _ h => List.mem_cons_of_mem _ (List.mem_append_left _ (List.mem_append_right _ h))) (by decide +kernel))) (goodIn_sub (fun _ h => List.mem_cons_of_mem _ (List.mem_append_right _ h)) (by decide +kernel))
set_option maxRecDepth 20000 in
theorem gL_holds_X7_precedes : GoodIn wsL_holds (wsV RL 70 RX7 yX7_precedes wsX7_precedes) := goodIn_app (goodIn_of _ (by decide +kernel)) ggL_holds_X7_precedes
set_option maxRecDepth 20000 in
theorem ggL_holds_X7_refutes : GoodIn wsL_holds wsX7_refutes := goodIn_ca (goodIn_r _ [257, 238, 18, 240, 201, 12, 13, 14, 4, 15, 16, 17, 19, 20, 21, 22, 23, 24, 241, 242, 243, 244, 245, 219, 220, 221, 222, 223, 224, 258, 259, 260, 261, 36, 37, 38, 39, 40, 41, 42, 43, 44, 45, 46, 47, 48, 49, 50, 51, 52, 53, 54, 55, 56, 57, 58, 59, 60, 61, 62, 63, 64, 65, 66, 67, 68, 69, 70, 71, 72, 73, 74, 75, 76, 77, 78, 79, 80, 81, 82, 83, 84, 85, 86, 87, 88, 89, 90, 91, 92, 93, 94, 95, 96, 97, 98, 99, 100, 101, 102, 103, 104, 105, 106, 107, 108, 109, 110, 111, 112, 113, 114, 115, 116, 117, 118, 119, 120, 121, 122, 123, 124, 125, 126, 312, 313, 314, 315, 316, 317, 318, 319, 320, 321, 340, 341, 342, 343, 344, 345, 346, 347, 348, 332, 333, 334, 335, 336, 337, 338, 339] (by decide +kernel) (by decide +kernel)) (goodIn_sub (fun _ h => List.mem_cons_of_mem _ (List.mem_append_left _ (List.mem_append_right _ h))) (by decide +kernel))
set_option maxRecDepth 20000 in
theorem gL_holds_X7_refutes : GoodIn wsL_holds (wsV RL 74 RX7 yX7_refutes wsX7_refutes) := goodIn_app (goodIn_of _ (by decide +kernel)) ggL_holds_X7_refutes
set_option maxRecDepth 20000 in
theorem ggL_holds_X7_why : GoodIn wsL_holds wsX7_why := goodIn_ca (goodIn_ca (goodIn_r _ [265, 35, 12, 13, 14, 4, 15, 16, 17, 18, 19, 20, 21, 22, 23, 24, 195, 196, 197, 198, 199, 200, 201, 30, 31, 32, 33, 34, 36, 37, 38, 39, 40, 41, 42, 43, 44, 45, 46, 47, 48, 49, 50, 51, 52, 53, 54, 55, 56, 57, 58, 59, 60, 61, 62, 63, 64, 65, 66, 67, 68, 69, 70, 71, 72, 73, 74, 75, 76, 77, 78, 79, 80, 81, 82, 83, 84, 85, 86, 87, 88, 89, 90, 91, 92, 93, 94, 95, 96, 97, 98, 99, 100, 101, 102, 103, 104, 105, 106, 107, 108, 109, 110, 111, 112, 113, 114, 115, 116, 117, 118, 119, 120, 121, 122, 123, 124, 125, 126, 266, 267, 268, 269, 270, 251, 252, 253, 271, 272, 273, 274, 224, 275, 276, 277, 278, 312, 313, 314, 315, 316, 317, 318, 319, 320, 321, 332, 333, 334, 335, 336, 337, 338, 339, 340, 341, 342, 343, 344, 345, 346, 347, 348] (by decide +kernel) (by decide +kernel)) (goodIn_sub (fun _ h => List.mem_cons_of_mem _ (List.mem_append_left _ (List.mem_append_right _ h))) (by decide +kernel))) (goodIn_sub (fun _ h => List.mem_cons_of_mem _ (List.mem_append_right _ h)) (by decide +kernel))
set_option maxRecDepth 20000 in
theorem gL_holds_X7_why : GoodIn wsL_holds (wsV RL 77 RX7 yX7_why wsX7_why) := goodIn_app (goodIn_of _ (by decide +kernel)) ggL_holds_X7_why
set_option maxRecDepth 20000 in
theorem ggL_holds_X7_value : GoodIn wsL_holds wsX7_value := goodIn_ca (goodIn_r _ [282, 6, 7, 283, 284, 285, 4, 286, 18, 287, 288, 35, 201, 289, 290, 291, 22, 292, 24, 224, 293, 294, 295, 296, 297, 298, 299, 300, 301, 302, 303, 219, 30, 31, 32, 33, 34, 36, 37, 38, 39, 40, 41, 42, 43, 44, 45, 46, 47, 48, 49, 50, 51, 52, 53, 54, 55, 56, 57, 58, 59, 60, 61, 62, 63, 64, 65, 66, 67, 68, 69, 70, 71, 72, 73, 74, 75, 76, 77, 78, 79, 80, 81, 82, 83, 84, 85, 86, 87, 88, 89, 90, 91, 92, 93, 94, 95, 96, 97, 98, 99, 100, 101, 102, 103, 104, 105, 106, 107, 108, 109, 110, 111, 112, 113, 114, 115, 116, 117, 118, 119, 120, 121, 122, 123, 124, 125, 126, 304, 305, 306, 307, 270, 251, 252, 253, 312, 313, 314, 315, 316, 317, 318, 319, 320, 321, 332, 333, 334, 335, 336, 337, 338, 339, 340, 341, 342, 343, 344, 345, 346, 347, 348] (by decide +kernel) (by decide +kernel)) (goodIn_sub (fun _ h => List.mem_cons_of_mem _ (List.mem_append_left _ (List.mem_append_left _ (List.mem_append_right _ h)))) (by decide +kernel))
set_option maxRecDepth 20000 in
theorem gL_holds_X7_value : GoodIn wsL_holds (wsV RL 16 RX7 yX7_value wsX7_value) := goodIn_app (goodIn_of _ (by decide +kernel)) ggL_holds_X7_value
set_option maxRecDepth 20000 in
theorem ggL_holds_X7_decided : GoodIn wsL_holds wsX7_decided := goodIn_ca (goodIn_r _ [311, 18, 35, 195, 196, 197, 4, 198, 199, 200, 201, 30, 31, 32, 33, 34, 36, 37, 38, 39, 40, 41, 42, 43, 44, 45, 46, 47, 48, 49, 50, 51, 52, 53, 54, 55, 56, 57, 58, 59, 60, 61, 62, 63, 64, 65, 66, 67, 68, 69, 70, 71, 72, 73, 74, 75, 76, 77, 78, 79, 80, 81, 82, 83, 84, 85, 86, 87, 88, 89, 90, 91, 92, 93, 94, 95, 96, 97, 98, 99, 100, 101, 102, 103, 104, 105, 106, 107, 108, 109, 110, 111, 112, 113, 114, 115, 116, 117, 118, 119, 120, 121, 122, 123, 124, 125, 126, 300, 301, 302, 22, 303, 24, 219, 304, 305, 306, 307, 270, 251, 252, 253, 312, 313, 314, 315, 316, 317, 318, 319, 320, 321, 340, 341, 342, 343, 344, 345, 346, 347, 348, 332, 333, 334, 335, 336, 337, 338, 339] (by decide +kernel) (by decide +kernel)) (goodIn_sub (fun _ h => List.mem_cons_of_mem _ (List.mem_append_right _ h)) (by decide +kernel))
set_option maxRecDepth 20000 in
theorem gL_holds_X7_decided : GoodIn wsL_holds (wsV RL 80 RX7 yX7_decided wsX7_decided) := goodIn_app (goodIn_of _ (by decide +kernel)) ggL_holds_X7_decided
theorem dL_holds_0 : decode cL_holds 0 = .ok (.iconst 0, 1) := by decide +kernel
theorem dL_holds_1 : decode cL_holds 1 = .ok (.istore_n 2, 1) := by decide +kernel
theorem dL_holds_2 : decode cL_holds 2 = .ok (.iconst 0, 1) := by decide +kernel
theorem dL_holds_3 : decode cL_holds 3 = .ok (.istore_n 3, 1) := by decide +kernel
theorem dL_holds_4 : decode cL_holds 4 = .ok (.iconst 0, 1) := by decide +kernel
theorem dL_holds_5 : decode cL_holds 5 = .ok (.istore 4, 2) := by decide +kernel
theorem dL_holds_7 : decode cL_holds 7 = .ok (.iload 4, 2) := by decide +kernel
theorem dL_holds_9 : decode cL_holds 9 = .ok (.iload_n 1, 1) := by decide +kernel
theorem dL_holds_10 : decode cL_holds 10 = .ok (.if_icmp .ge 347, 3) := by decide +kernel
theorem dL_holds_13 : decode cL_holds 13 = .ok (.aload_n 0, 1) := by decide +kernel
theorem dL_holds_14 : decode cL_holds 14 = .ok (.iload 4, 2) := by decide +kernel
theorem dL_holds_16 : decode cL_holds 16 = .ok (.iconst 1, 1) := by decide +kernel
theorem dL_holds_17 : decode cL_holds 17 = .ok (.invokevirtual 51, 3) := by decide +kernel
theorem dL_holds_20 : decode cL_holds 20 = .ok (.istore 5, 2) := by decide +kernel
theorem dL_holds_22 : decode cL_holds 22 = .ok (.aload_n 0, 1) := by decide +kernel
theorem dL_holds_23 : decode cL_holds 23 = .ok (.iload 4, 2) := by decide +kernel
theorem dL_holds_25 : decode cL_holds 25 = .ok (.invokevirtual 58, 3) := by decide +kernel
theorem dL_holds_28 : decode cL_holds 28 = .ok (.iload 5, 2) := by decide +kernel
theorem dL_holds_30 : decode cL_holds 30 = .ok (.if_icmp .gt 57, 3) := by decide +kernel
theorem dL_holds_33 : decode cL_holds 33 = .ok (.aload_n 0, 1) := by decide +kernel
theorem dL_holds_34 : decode cL_holds 34 = .ok (.iload 4, 2) := by decide +kernel
theorem dL_holds_36 : decode cL_holds 36 = .ok (.invokevirtual 61, 3) := by decide +kernel
theorem dL_holds_39 : decode cL_holds 39 = .ok (.aload_n 0, 1) := by decide +kernel
