theorem dX8_isDominating_140 : decode cX8_isDominating 140 = .ok (.aload_n 0, 1) := by decide +kernel
theorem dX8_isDominating_141 : decode cX8_isDominating 141 = .ok (.getfield 17, 3) := by decide +kernel
theorem dX8_isDominating_144 : decode cX8_isDominating 144 = .ok (.iload_n 2, 1) := by decide +kernel
theorem dX8_isDominating_145 : decode cX8_isDominating 145 = .ok (.iaload, 1) := by decide +kernel
theorem dX8_isDominating_146 : decode cX8_isDominating 146 = .ok (.if_icmp .gt 22, 3) := by decide +kernel
theorem dX8_isDominating_149 : decode cX8_isDominating 149 = .ok (.aload_n 0, 1) := by decide +kernel
theorem dX8_isDominating_150 : decode cX8_isDominating 150 = .ok (.getfield 20, 3) := by decide +kernel
theorem dX8_isDominating_153 : decode cX8_isDominating 153 = .ok (.iload_n 1, 1) := by decide +kernel
theorem dX8_isDominating_154 : decode cX8_isDominating 154 = .ok (.iaload, 1) := by decide +kernel
theorem dX8_isDominating_155 : decode cX8_isDominating 155 = .ok (.aload_n 0, 1) := by decide +kernel
theorem dX8_isDominating_156 : decode cX8_isDominating 156 = .ok (.getfield 20, 3) := by decide +kernel
theorem dX8_isDominating_159 : decode cX8_isDominating 159 = .ok (.iload_n 2, 1) := by decide +kernel
theorem dX8_isDominating_160 : decode cX8_isDominating 160 = .ok (.iaload, 1) := by decide +kernel
theorem dX8_isDominating_161 : decode cX8_isDominating 161 = .ok (.if_icmp .gt 7, 3) := by decide +kernel
theorem dX8_isDominating_164 : decode cX8_isDominating 164 = .ok (.iconst 1, 1) := by decide +kernel
theorem dX8_isDominating_165 : decode cX8_isDominating 165 = .ok (.goto 4, 3) := by decide +kernel
theorem dX8_isDominating_168 : decode cX8_isDominating 168 = .ok (.iconst 0, 1) := by decide +kernel
theorem dX8_isDominating_169 : decode cX8_isDominating 169 = .ok (.istore 9, 2) := by decide +kernel
theorem dX8_isDominating_171 : decode cX8_isDominating 171 = .ok (.iload 9, 2) := by decide +kernel
theorem dX8_isDominating_173 : decode cX8_isDominating 173 = .ok (.ifCond .eq 40, 3) := by decide +kernel
theorem dX8_isDominating_176 : decode cX8_isDominating 176 = .ok (.iload 4, 2) := by decide +kernel
theorem dX8_isDominating_178 : decode cX8_isDominating 178 = .ok (.iload 5, 2) := by decide +kernel
theorem dX8_isDominating_180 : decode cX8_isDominating 180 = .ok (.iconst (-1), 1) := by decide +kernel
theorem dX8_isDominating_181 : decode cX8_isDominating 181 = .ok (.ixor, 1) := by decide +kernel
theorem dX8_isDominating_182 : decode cX8_isDominating 182 = .ok (.iand, 1) := by decide +kernel
theorem dX8_isDominating_183 : decode cX8_isDominating 183 = .ok (.ifCond .ne 30, 3) := by decide +kernel
theorem dX8_isDominating_186 : decode cX8_isDominating 186 = .ok (.iload 7, 2) := by decide +kernel
theorem dX8_isDominating_188 : decode cX8_isDominating 188 = .ok (.iload 6, 2) := by decide +kernel
theorem dX8_isDominating_190 : decode cX8_isDominating 190 = .ok (.iconst (-1), 1) := by decide +kernel
theorem dX8_isDominating_191 : decode cX8_isDominating 191 = .ok (.ixor, 1) := by decide +kernel
theorem dX8_isDominating_192 : decode cX8_isDominating 192 = .ok (.iand, 1) := by decide +kernel
theorem dX8_isDominating_193 : decode cX8_isDominating 193 = .ok (.ifCond .ne 20, 3) := by decide +kernel
theorem dX8_isDominating_196 : decode cX8_isDominating 196 = .ok (.aload_n 0, 1) := by decide +kernel
theorem dX8_isDominating_197 : decode cX8_isDominating 197 = .ok (.getfield 26, 3) := by decide +kernel
theorem dX8_isDominating_200 : decode cX8_isDominating 200 = .ok (.iload_n 2, 1) := by decide +kernel
theorem dX8_isDominating_201 : decode cX8_isDominating 201 = .ok (.iaload, 1) := by decide +kernel
theorem dX8_isDominating_202 : decode cX8_isDominating 202 = .ok (.iload_n 1, 1) := by decide +kernel
theorem dX8_isDominating_203 : decode cX8_isDominating 203 = .ok (.invokestatic 102, 3) := by decide +kernel
theorem dX8_isDominating_206 : decode cX8_isDominating 206 = .ok (.ifCond .ne 7, 3) := by decide +kernel
theorem dX8_isDominating_209 : decode cX8_isDominating 209 = .ok (.iconst 1, 1) := by decide +kernel
theorem dX8_isDominating_210 : decode cX8_isDominating 210 = .ok (.goto 4, 3) := by decide +kernel
theorem dX8_isDominating_213 : decode cX8_isDominating 213 = .ok (.iconst 0, 1) := by decide +kernel
theorem dX8_isDominating_214 : decode cX8_isDominating 214 = .ok (.istore 9, 2) := by decide +kernel
theorem dX8_isDominating_216 : decode cX8_isDominating 216 = .ok (.iload 9, 2) := by decide +kernel
theorem dX8_isDominating_218 : decode cX8_isDominating 218 = .ok (.ifCond .eq 17, 3) := by decide +kernel
theorem dX8_isDominating_221 : decode cX8_isDominating 221 = .ok (.iload 8, 2) := by decide +kernel
theorem dX8_isDominating_223 : decode cX8_isDominating 223 = .ok (.ifCond .eq 8, 3) := by decide +kernel
theorem dX8_isDominating_226 : decode cX8_isDominating 226 = .ok (.iload_n 1, 1) := by decide +kernel
theorem dX8_isDominating_227 : decode cX8_isDominating 227 = .ok (.iload_n 2, 1) := by decide +kernel
theorem dX8_isDominating_228 : decode cX8_isDominating 228 = .ok (.if_icmp .ge 7, 3) := by decide +kernel
theorem dX8_isDominating_231 : decode cX8_isDominating 231 = .ok (.iconst 1, 1) := by decide +kernel
theorem dX8_isDominating_232 : decode cX8_isDominating 232 = .ok (.goto 4, 3) := by decide +kernel
theorem dX8_isDominating_235 : decode cX8_isDominating 235 = .ok (.iconst 0, 1) := by decide +kernel
theorem dX8_isDominating_236 : decode cX8_isDominating 236 = .ok (.ireturn, 1) := by decide +kernel
set_option maxRecDepth 20000 in
theorem ggX8_dominates_X8_isTask : GoodIn wsX8_dominates wsX8_isTask := goodIn_r _ [6, 7, 24, 25, 26, 27, 28, 29, 30, 31, 32, 33, 34, 35, 36, 37, 38, 39, 40, 41, 42, 43, 44, 45, 46, 47, 48, 49, 50, 51, 52, 53] (by decide +kernel) (by decide +kernel)
set_option maxRecDepth 20000 in
theorem gX8_dominates_X8_isTask : GoodIn wsX8_dominates (wsV RX8 98 RX8 yX8_isTask wsX8_isTask) := goodIn_app (goodIn_of _ (by decide +kernel)) ggX8_dominates_X8_isTask
set_option maxRecDepth 20000 in
theorem ggX8_dominates_X8_isDominating : GoodIn wsX8_dominates wsX8_isDominating := goodIn_r _ [11, 12, 13, 14, 15, 16, 17, 18, 19, 5, 20, 7, 21, 22, 23, 24, 25, 26, 27, 28, 29, 30, 31, 32, 33, 34, 35, 36, 37, 38, 39, 40, 41, 42, 43, 44, 45, 46, 47, 48, 49, 50, 51, 52, 53] (by decide +kernel) (by decide +kernel)
set_option maxRecDepth 20000 in
theorem gX8_dominates_X8_isDominating : GoodIn wsX8_dominates (wsV RX8 128 RX8 yX8_isDominating wsX8_isDominating) := goodIn_app (goodIn_of _ (by decide +kernel)) ggX8_dominates_X8_isDominating
theorem dX8_dominates_0 : decode cX8_dominates 0 = .ok (.aload_n 0, 1) := by decide +kernel
theorem dX8_dominates_1 : decode cX8_dominates 1 = .ok (.aload_n 0, 1) := by decide +kernel
theorem dX8_dominates_2 : decode cX8_dominates 2 = .ok (.iload_n 1, 1) := by decide +kernel
theorem dX8_dominates_3 : decode cX8_dominates 3 = .ok (.invokevirtual 98, 3) := by decide +kernel
theorem dX8_dominates_6 : decode cX8_dominates 6 = .ok (.ifCond .eq 15, 3) := by decide +kernel
theorem dX8_dominates_9 : decode cX8_dominates 9 = .ok (.aload_n 0, 1) := by decide +kernel
theorem dX8_dominates_10 : decode cX8_dominates 10 = .ok (.iload_n 2, 1) := by decide +kernel
theorem dX8_dominates_11 : decode cX8_dominates 11 = .ok (.invokevirtual 98, 3) := by decide +kernel
theorem dX8_dominates_14 : decode cX8_dominates 14 = .ok (.ifCond .eq 7, 3) := by decide +kernel
theorem dX8_dominates_17 : decode cX8_dominates 17 = .ok (.iconst 0, 1) := by decide +kernel
theorem dX8_dominates_18 : decode cX8_dominates 18 = .ok (.goto 4, 3) := by decide +kernel
theorem dX8_dominates_21 : decode cX8_dominates 21 = .ok (.iconst 1, 1) := by decide +kernel
theorem dX8_dominates_22 : decode cX8_dominates 22 = .ok (.putfield 75, 3) := by decide +kernel
theorem dX8_dominates_25 : decode cX8_dominates 25 = .ok (.aload_n 0, 1) := by decide +kernel
theorem dX8_dominates_26 : decode cX8_dominates 26 = .ok (.getfield 75, 3) := by decide +kernel
theorem dX8_dominates_29 : decode cX8_dominates 29 = .ok (.ifCond .ne 16, 3) := by decide +kernel
theorem dX8_dominates_32 : decode cX8_dominates 32 = .ok (.aload_n 0, 1) := by decide +kernel
theorem dX8_dominates_33 : decode cX8_dominates 33 = .ok (.iload_n 1, 1) := by decide +kernel
theorem dX8_dominates_34 : decode cX8_dominates 34 = .ok (.iload_n 2, 1) := by decide +kernel
theorem dX8_dominates_35 : decode cX8_dominates 35 = .ok (.invokevirtual 128, 3) := by decide +kernel
theorem dX8_dominates_38 : decode cX8_dominates 38 = .ok (.ifCond .eq 7, 3) := by decide +kernel
theorem dX8_dominates_41 : decode cX8_dominates 41 = .ok (.iconst 1, 1) := by decide +kernel
theorem dX8_dominates_42 : decode cX8_dominates 42 = .ok (.goto 4, 3) := by decide +kernel
theorem dX8_dominates_45 : decode cX8_dominates 45 = .ok (.iconst 0, 1) := by decide +kernel
theorem dX8_dominates_46 : decode cX8_dominates 46 = .ok (.ireturn, 1) := by decide +kernel
set_option maxRecDepth 20000 in
theorem ggX8_giveDominance_X8_save : GoodIn wsX8_giveDominance wsX8_save := goodIn_r _ [8, 9, 10, 11, 2, 12, 13, 14, 15, 3, 35, 36, 37, 38, 39, 40, 41, 42, 43, 44, 45, 46, 47, 48, 49, 50, 51, 52, 53, 54, 55, 56, 57, 58, 59, 60, 61, 62, 63, 64] (by decide +kernel) (by decide +kernel)
set_option maxRecDepth 20000 in
theorem gX8_giveDominance_X8_save : GoodIn wsX8_giveDominance (wsV RX8 88 RX8 yX8_save wsX8_save) := goodIn_app (goodIn_of _ (by decide +kernel)) ggX8_giveDominance_X8_save
set_option maxRecDepth 20000 in
theorem ggX8_giveDominance_X8_isDominating : GoodIn wsX8_giveDominance wsX8_isDominating := goodIn_r _ [19, 3, 13, 14, 12, 15, 20, 21, 22, 7, 23, 2, 24, 25, 26, 35, 36, 37, 38, 39, 40, 41, 42, 43, 44, 45, 46, 47, 48, 49, 50, 51, 52, 53, 54, 55, 56, 57, 58, 59, 60, 61, 62, 63, 64] (by decide +kernel) (by decide +kernel)
set_option maxRecDepth 20000 in
theorem gX8_giveDominance_X8_isDominating : GoodIn wsX8_giveDominance (wsV RX8 128 RX8 yX8_isDominating wsX8_isDominating) := goodIn_app (goodIn_of _ (by decide +kernel)) ggX8_giveDominance_X8_isDominating
set_option maxRecDepth 20000 in
theorem ggX8_giveDominance_X8_has : GoodIn wsX8_giveDominance wsX8_has := goodIn_r _ [26] (by decide +kernel) (by decide +kernel)
set_option maxRecDepth 20000 in
theorem gX8_giveDominance_X8_has : GoodIn wsX8_giveDominance (va_wsS RX8 102 yX8_has wsX8_has) := goodIn_app (goodIn_of _ (by decide +kernel)) ggX8_giveDominance_X8_has
set_option maxRecDepth 20000 in
theorem ggX8_giveDominance_X8_leads : GoodIn wsX8_giveDominance wsX8_leads := goodIn_r _ [30, 3, 2, 24, 25, 7, 26, 35, 36, 37, 38, 39, 40, 41, 42, 43, 44, 45, 46, 47, 48, 49, 50, 51, 52, 53, 54, 55, 56, 57, 58, 59, 60, 61, 62, 63, 64] (by decide +kernel) (by decide +kernel)
set_option maxRecDepth 20000 in
theorem gX8_giveDominance_X8_leads : GoodIn wsX8_giveDominance (wsV RX8 106 RX8 yX8_leads wsX8_leads) := goodIn_app (goodIn_of _ (by decide +kernel)) ggX8_giveDominance_X8_leads
set_option maxRecDepth 20000 in
theorem ggX8_giveDominance_X8_putGiven : GoodIn wsX8_giveDominance wsX8_putGiven := goodIn_r _ [34, 3, 35, 36, 37, 38, 39, 40, 41, 42, 43, 44, 45, 46, 47, 48, 49, 50, 51, 52, 53, 54, 55, 56, 57, 58, 59, 60, 61, 62, 63, 64] (by decide +kernel) (by decide +kernel)
set_option maxRecDepth 20000 in
theorem gX8_giveDominance_X8_putGiven : GoodIn wsX8_giveDominance (wsV RX8 117 RX8 yX8_putGiven wsX8_putGiven) := goodIn_app (goodIn_of _ (by decide +kernel)) ggX8_giveDominance_X8_putGiven
theorem dX8_giveDominance_0 : decode cX8_giveDominance 0 = .ok (.aload_n 0, 1) := by decide +kernel
theorem dX8_giveDominance_1 : decode cX8_giveDominance 1 = .ok (.iconst 0, 1) := by decide +kernel
theorem dX8_giveDominance_2 : decode cX8_giveDominance 2 = .ok (.putfield 75, 3) := by decide +kernel
theorem dX8_giveDominance_5 : decode cX8_giveDominance 5 = .ok (.aload_n 0, 1) := by decide +kernel
theorem dX8_giveDominance_6 : decode cX8_giveDominance 6 = .ok (.invokevirtual 88, 3) := by decide +kernel
theorem dX8_giveDominance_9 : decode cX8_giveDominance 9 = .ok (.iconst 0, 1) := by decide +kernel
theorem dX8_giveDominance_10 : decode cX8_giveDominance 10 = .ok (.istore_n 1, 1) := by decide +kernel
theorem dX8_giveDominance_11 : decode cX8_giveDominance 11 = .ok (.iconst 0, 1) := by decide +kernel
theorem dX8_giveDominance_12 : decode cX8_giveDominance 12 = .ok (.istore_n 2, 1) := by decide +kernel
theorem dX8_giveDominance_13 : decode cX8_giveDominance 13 = .ok (.iload_n 2, 1) := by decide +kernel
theorem dX8_giveDominance_14 : decode cX8_giveDominance 14 = .ok (.aload_n 0, 1) := by decide +kernel
theorem dX8_giveDominance_15 : decode cX8_giveDominance 15 = .ok (.getfield 78, 3) := by decide +kernel
theorem dX8_giveDominance_18 : decode cX8_giveDominance 18 = .ok (.if_icmp .ge 66, 3) := by decide +kernel
theorem dX8_giveDominance_21 : decode cX8_giveDominance 21 = .ok (.iconst 0, 1) := by decide +kernel
theorem dX8_giveDominance_22 : decode cX8_giveDominance 22 = .ok (.istore_n 3, 1) := by decide +kernel
theorem dX8_giveDominance_23 : decode cX8_giveDominance 23 = .ok (.iload_n 3, 1) := by decide +kernel
theorem dX8_giveDominance_24 : decode cX8_giveDominance 24 = .ok (.aload_n 0, 1) := by decide +kernel
theorem dX8_giveDominance_25 : decode cX8_giveDominance 25 = .ok (.getfield 78, 3) := by decide +kernel
theorem dX8_giveDominance_28 : decode cX8_giveDominance 28 = .ok (.if_icmp .ge 50, 3) := by decide +kernel
theorem dX8_giveDominance_31 : decode cX8_giveDominance 31 = .ok (.aload_n 0, 1) := by decide +kernel
theorem dX8_giveDominance_32 : decode cX8_giveDominance 32 = .ok (.iload_n 2, 1) := by decide +kernel
theorem dX8_giveDominance_33 : decode cX8_giveDominance 33 = .ok (.iload_n 3, 1) := by decide +kernel
theorem dX8_giveDominance_34 : decode cX8_giveDominance 34 = .ok (.invokevirtual 128, 3) := by decide +kernel
theorem dX8_giveDominance_37 : decode cX8_giveDominance 37 = .ok (.ifCond .eq 35, 3) := by decide +kernel
theorem dX8_giveDominance_40 : decode cX8_giveDominance 40 = .ok (.aload_n 0, 1) := by decide +kernel
theorem dX8_giveDominance_41 : decode cX8_giveDominance 41 = .ok (.getfield 26, 3) := by decide +kernel
theorem dX8_giveDominance_44 : decode cX8_giveDominance 44 = .ok (.iload_n 2, 1) := by decide +kernel
theorem dX8_giveDominance_45 : decode cX8_giveDominance 45 = .ok (.iaload, 1) := by decide +kernel
theorem dX8_giveDominance_46 : decode cX8_giveDominance 46 = .ok (.iload_n 3, 1) := by decide +kernel
theorem dX8_giveDominance_47 : decode cX8_giveDominance 47 = .ok (.invokestatic 102, 3) := by decide +kernel
theorem dX8_giveDominance_50 : decode cX8_giveDominance 50 = .ok (.ifCond .ne 22, 3) := by decide +kernel
theorem dX8_giveDominance_53 : decode cX8_giveDominance 53 = .ok (.aload_n 0, 1) := by decide +kernel
theorem dX8_giveDominance_54 : decode cX8_giveDominance 54 = .ok (.iload_n 3, 1) := by decide +kernel
theorem dX8_giveDominance_55 : decode cX8_giveDominance 55 = .ok (.iload_n 2, 1) := by decide +kernel
theorem dX8_giveDominance_56 : decode cX8_giveDominance 56 = .ok (.invokevirtual 106, 3) := by decide +kernel
theorem dX8_giveDominance_59 : decode cX8_giveDominance 59 = .ok (.ifCond .ne 13, 3) := by decide +kernel
theorem dX8_giveDominance_62 : decode cX8_giveDominance 62 = .ok (.aload_n 0, 1) := by decide +kernel
theorem dX8_giveDominance_63 : decode cX8_giveDominance 63 = .ok (.iload_n 2, 1) := by decide +kernel
theorem dX8_giveDominance_64 : decode cX8_giveDominance 64 = .ok (.iload_n 3, 1) := by decide +kernel
theorem dX8_giveDominance_65 : decode cX8_giveDominance 65 = .ok (.iconst 1, 1) := by decide +kernel
theorem dX8_giveDominance_66 : decode cX8_giveDominance 66 = .ok (.invokevirtual 117, 3) := by decide +kernel
theorem dX8_giveDominance_69 : decode cX8_giveDominance 69 = .ok (.iinc 1 1, 3) := by decide +kernel
theorem dX8_giveDominance_72 : decode cX8_giveDominance 72 = .ok (.iinc 3 1, 3) := by decide +kernel
theorem dX8_giveDominance_75 : decode cX8_giveDominance 75 = .ok (.goto (-52), 3) := by decide +kernel
theorem dX8_giveDominance_78 : decode cX8_giveDominance 78 = .ok (.iinc 2 1, 3) := by decide +kernel
theorem dX8_giveDominance_81 : decode cX8_giveDominance 81 = .ok (.goto (-68), 3) := by decide +kernel
theorem dX8_giveDominance_84 : decode cX8_giveDominance 84 = .ok (.iload_n 1, 1) := by decide +kernel
theorem dX8_giveDominance_85 : decode cX8_giveDominance 85 = .ok (.ireturn, 1) := by decide +kernel
set_option maxRecDepth 20000 in
theorem ggX8_task_X8_isTask : GoodIn wsX8_task wsX8_isTask := goodIn_r _ [11, 12, 23, 24, 25, 26, 27, 28, 29, 30, 31, 32, 33, 34, 35, 36, 37, 38, 39, 40, 41, 42, 43, 44, 45, 46, 47, 48, 49, 50, 51, 52] (by decide +kernel) (by decide +kernel)
set_option maxRecDepth 20000 in
theorem gX8_task_X8_isTask : GoodIn wsX8_task (wsV RX8 98 RX8 yX8_isTask wsX8_isTask) := goodIn_app (goodIn_of _ (by decide +kernel)) ggX8_task_X8_isTask
set_option maxRecDepth 20000 in
theorem ggX8_task_X8_in : GoodIn wsX8_task wsX8_in := goodIn_r _ [15] (by decide +kernel) (by decide +kernel)
set_option maxRecDepth 20000 in
theorem gX8_task_X8_in : GoodIn wsX8_task (va_wsS RX8 84 yX8_in wsX8_in) := goodIn_app (goodIn_of _ (by decide +kernel)) ggX8_task_X8_in
set_option maxRecDepth 20000 in
theorem ggX8_task_X8_givenTo : GoodIn wsX8_task wsX8_givenTo := goodIn_r _ [19, 12, 6, 20, 21, 10, 22, 23, 24, 25, 26, 27, 28, 29, 30, 31, 32, 33, 34, 35, 36, 37, 38, 39, 40, 41, 42, 43, 44, 45, 46, 47, 48, 49, 50, 51, 52] (by decide +kernel) (by decide +kernel)
set_option maxRecDepth 20000 in
theorem gX8_task_X8_givenTo : GoodIn wsX8_task (wsV RX8 125 RX8 yX8_givenTo wsX8_givenTo) := goodIn_app (goodIn_of _ (by decide +kernel)) ggX8_task_X8_givenTo
theorem dX8_task_0 : decode cX8_task 0 = .ok (.aload_n 0, 1) := by decide +kernel
theorem dX8_task_1 : decode cX8_task 1 = .ok (.aload_n 0, 1) := by decide +kernel
theorem dX8_task_2 : decode cX8_task 2 = .ok (.iload_n 1, 1) := by decide +kernel
theorem dX8_task_3 : decode cX8_task 3 = .ok (.invokevirtual 98, 3) := by decide +kernel
theorem dX8_task_6 : decode cX8_task 6 = .ok (.ifCond .ne 7, 3) := by decide +kernel
theorem dX8_task_9 : decode cX8_task 9 = .ok (.iconst 1, 1) := by decide +kernel
theorem dX8_task_10 : decode cX8_task 10 = .ok (.goto 17, 3) := by decide +kernel
theorem dX8_task_13 : decode cX8_task 13 = .ok (.iload_n 2, 1) := by decide +kernel
theorem dX8_task_14 : decode cX8_task 14 = .ok (.iconst 0, 1) := by decide +kernel
theorem dX8_task_15 : decode cX8_task 15 = .ok (.iconst 5, 1) := by decide +kernel
theorem dX8_task_16 : decode cX8_task 16 = .ok (.invokestatic 84, 3) := by decide +kernel
theorem dX8_task_19 : decode cX8_task 19 = .ok (.ifCond .eq 7, 3) := by decide +kernel
theorem dX8_task_22 : decode cX8_task 22 = .ok (.iconst 0, 1) := by decide +kernel
theorem dX8_task_23 : decode cX8_task 23 = .ok (.goto 4, 3) := by decide +kernel
theorem dX8_task_26 : decode cX8_task 26 = .ok (.iconst 2, 1) := by decide +kernel
theorem dX8_task_27 : decode cX8_task 27 = .ok (.putfield 75, 3) := by decide +kernel
theorem dX8_task_30 : decode cX8_task 30 = .ok (.aload_n 0, 1) := by decide +kernel
theorem dX8_task_31 : decode cX8_task 31 = .ok (.getfield 75, 3) := by decide +kernel
theorem dX8_task_34 : decode cX8_task 34 = .ok (.ifCond .le 5, 3) := by decide +kernel
theorem dX8_task_37 : decode cX8_task 37 = .ok (.iconst 0, 1) := by decide +kernel
theorem dX8_task_38 : decode cX8_task 38 = .ok (.ireturn, 1) := by decide +kernel
theorem dX8_task_39 : decode cX8_task 39 = .ok (.iload_n 2, 1) := by decide +kernel
theorem dX8_task_40 : decode cX8_task 40 = .ok (.tableswitch 70 0 4 #[36, 43, 50, 57, 64], 36) := by decide +kernel
theorem dX8_task_76 : decode cX8_task 76 = .ok (.aload_n 0, 1) := by decide +kernel
theorem dX8_task_77 : decode cX8_task 77 = .ok (.getfield 13, 3) := by decide +kernel
theorem dX8_task_80 : decode cX8_task 80 = .ok (.iload_n 1, 1) := by decide +kernel
theorem dX8_task_81 : decode cX8_task 81 = .ok (.iaload, 1) := by decide +kernel
theorem dX8_task_82 : decode cX8_task 82 = .ok (.ireturn, 1) := by decide +kernel
theorem dX8_task_83 : decode cX8_task 83 = .ok (.aload_n 0, 1) := by decide +kernel
theorem dX8_task_84 : decode cX8_task 84 = .ok (.getfield 17, 3) := by decide +kernel
theorem dX8_task_87 : decode cX8_task 87 = .ok (.iload_n 1, 1) := by decide +kernel
theorem dX8_task_88 : decode cX8_task 88 = .ok (.iaload, 1) := by decide +kernel
theorem dX8_task_89 : decode cX8_task 89 = .ok (.ireturn, 1) := by decide +kernel
theorem dX8_task_90 : decode cX8_task 90 = .ok (.aload_n 0, 1) := by decide +kernel
theorem dX8_task_91 : decode cX8_task 91 = .ok (.getfield 20, 3) := by decide +kernel
theorem dX8_task_94 : decode cX8_task 94 = .ok (.iload_n 1, 1) := by decide +kernel
theorem dX8_task_95 : decode cX8_task 95 = .ok (.iaload, 1) := by decide +kernel
theorem dX8_task_96 : decode cX8_task 96 = .ok (.ireturn, 1) := by decide +kernel
theorem dX8_task_97 : decode cX8_task 97 = .ok (.aload_n 0, 1) := by decide +kernel
theorem dX8_task_98 : decode cX8_task 98 = .ok (.getfield 23, 3) := by decide +kernel
theorem dX8_task_101 : decode cX8_task 101 = .ok (.iload_n 1, 1) := by decide +kernel
theorem dX8_task_102 : decode cX8_task 102 = .ok (.iaload, 1) := by decide +kernel
theorem dX8_task_103 : decode cX8_task 103 = .ok (.ireturn, 1) := by decide +kernel
theorem dX8_task_104 : decode cX8_task 104 = .ok (.aload_n 0, 1) := by decide +kernel
theorem dX8_task_105 : decode cX8_task 105 = .ok (.iload_n 1, 1) := by decide +kernel
theorem dX8_task_106 : decode cX8_task 106 = .ok (.invokevirtual 125, 3) := by decide +kernel
theorem dX8_task_109 : decode cX8_task 109 = .ok (.ireturn, 1) := by decide +kernel
theorem dX8_task_110 : decode cX8_task 110 = .ok (.aload_n 0, 1) := by decide +kernel
theorem dX8_task_111 : decode cX8_task 111 = .ok (.getfield 26, 3) := by decide +kernel
theorem dX8_task_114 : decode cX8_task 114 = .ok (.iload_n 1, 1) := by decide +kernel
theorem dX8_task_115 : decode cX8_task 115 = .ok (.iaload, 1) := by decide +kernel
theorem dX8_task_116 : decode cX8_task 116 = .ok (.ireturn, 1) := by decide +kernel
set_option maxRecDepth 20000 in
theorem ggX8_reckonSets_X8_has : GoodIn wsX8_reckonSets wsX8_has := goodIn_r _ [15] (by decide +kernel) (by decide +kernel)
set_option maxRecDepth 20000 in
theorem gX8_reckonSets_X8_has : GoodIn wsX8_reckonSets (va_wsS RX8 102 yX8_has wsX8_has) := goodIn_app (goodIn_of _ (by decide +kernel)) ggX8_reckonSets_X8_has
theorem dX8_reckonSets_0 : decode cX8_reckonSets 0 = .ok (.iconst 1, 1) := by decide +kernel
theorem dX8_reckonSets_1 : decode cX8_reckonSets 1 = .ok (.istore_n 1, 1) := by decide +kernel
theorem dX8_reckonSets_2 : decode cX8_reckonSets 2 = .ok (.iload_n 1, 1) := by decide +kernel
theorem dX8_reckonSets_3 : decode cX8_reckonSets 3 = .ok (.iconst 1, 1) := by decide +kernel
theorem dX8_reckonSets_4 : decode cX8_reckonSets 4 = .ok (.aload_n 0, 1) := by decide +kernel
theorem dX8_reckonSets_5 : decode cX8_reckonSets 5 = .ok (.getfield 78, 3) := by decide +kernel
theorem dX8_reckonSets_8 : decode cX8_reckonSets 8 = .ok (.ishl, 1) := by decide +kernel
theorem dX8_reckonSets_9 : decode cX8_reckonSets 9 = .ok (.if_icmp .ge 178, 3) := by decide +kernel
theorem dX8_reckonSets_12 : decode cX8_reckonSets 12 = .ok (.ldc 131, 2) := by decide +kernel
theorem dX8_reckonSets_14 : decode cX8_reckonSets 14 = .ok (.istore_n 2, 1) := by decide +kernel
theorem dX8_reckonSets_15 : decode cX8_reckonSets 15 = .ok (.ldc 132, 2) := by decide +kernel
theorem dX8_reckonSets_17 : decode cX8_reckonSets 17 = .ok (.istore_n 3, 1) := by decide +kernel
theorem dX8_reckonSets_18 : decode cX8_reckonSets 18 = .ok (.iconst 0, 1) := by decide +kernel
theorem dX8_reckonSets_19 : decode cX8_reckonSets 19 = .ok (.istore 4, 2) := by decide +kernel
theorem dX8_reckonSets_21 : decode cX8_reckonSets 21 = .ok (.iconst (-1), 1) := by decide +kernel
theorem dX8_reckonSets_22 : decode cX8_reckonSets 22 = .ok (.istore 5, 2) := by decide +kernel
theorem dX8_reckonSets_24 : decode cX8_reckonSets 24 = .ok (.iconst 1, 1) := by decide +kernel
theorem dX8_reckonSets_25 : decode cX8_reckonSets 25 = .ok (.istore 6, 2) := by decide +kernel
theorem dX8_reckonSets_27 : decode cX8_reckonSets 27 = .ok (.iconst 0, 1) := by decide +kernel
theorem dX8_reckonSets_28 : decode cX8_reckonSets 28 = .ok (.istore 7, 2) := by decide +kernel
theorem dX8_reckonSets_30 : decode cX8_reckonSets 30 = .ok (.iload 7, 2) := by decide +kernel
theorem dX8_reckonSets_32 : decode cX8_reckonSets 32 = .ok (.aload_n 0, 1) := by decide +kernel
theorem dX8_reckonSets_33 : decode cX8_reckonSets 33 = .ok (.getfield 78, 3) := by decide +kernel
theorem dX8_reckonSets_36 : decode cX8_reckonSets 36 = .ok (.if_icmp .ge 115, 3) := by decide +kernel
theorem dX8_reckonSets_39 : decode cX8_reckonSets 39 = .ok (.iload_n 1, 1) := by decide +kernel
theorem dX8_reckonSets_40 : decode cX8_reckonSets 40 = .ok (.iload 7, 2) := by decide +kernel
theorem dX8_reckonSets_42 : decode cX8_reckonSets 42 = .ok (.invokestatic 102, 3) := by decide +kernel
theorem dX8_reckonSets_45 : decode cX8_reckonSets 45 = .ok (.ifCond .eq 100, 3) := by decide +kernel
theorem dX8_reckonSets_48 : decode cX8_reckonSets 48 = .ok (.aload_n 0, 1) := by decide +kernel
theorem dX8_reckonSets_49 : decode cX8_reckonSets 49 = .ok (.getfield 35, 3) := by decide +kernel
theorem dX8_reckonSets_52 : decode cX8_reckonSets 52 = .ok (.iload 7, 2) := by decide +kernel
theorem dX8_reckonSets_54 : decode cX8_reckonSets 54 = .ok (.iaload, 1) := by decide +kernel
theorem dX8_reckonSets_55 : decode cX8_reckonSets 55 = .ok (.iload_n 2, 1) := by decide +kernel
theorem dX8_reckonSets_56 : decode cX8_reckonSets 56 = .ok (.if_icmp .ge 13, 3) := by decide +kernel
theorem dX8_reckonSets_59 : decode cX8_reckonSets 59 = .ok (.aload_n 0, 1) := by decide +kernel
theorem dX8_reckonSets_60 : decode cX8_reckonSets 60 = .ok (.getfield 35, 3) := by decide +kernel
theorem dX8_reckonSets_63 : decode cX8_reckonSets 63 = .ok (.iload 7, 2) := by decide +kernel
theorem dX8_reckonSets_65 : decode cX8_reckonSets 65 = .ok (.iaload, 1) := by decide +kernel
theorem dX8_reckonSets_66 : decode cX8_reckonSets 66 = .ok (.goto 4, 3) := by decide +kernel
theorem dX8_reckonSets_69 : decode cX8_reckonSets 69 = .ok (.iload_n 2, 1) := by decide +kernel
theorem dX8_reckonSets_70 : decode cX8_reckonSets 70 = .ok (.istore_n 2, 1) := by decide +kernel
theorem dX8_reckonSets_71 : decode cX8_reckonSets 71 = .ok (.aload_n 0, 1) := by decide +kernel
theorem dX8_reckonSets_72 : decode cX8_reckonSets 72 = .ok (.getfield 38, 3) := by decide +kernel
theorem dX8_reckonSets_75 : decode cX8_reckonSets 75 = .ok (.iload 7, 2) := by decide +kernel
theorem dX8_reckonSets_77 : decode cX8_reckonSets 77 = .ok (.iaload, 1) := by decide +kernel
theorem dX8_reckonSets_78 : decode cX8_reckonSets 78 = .ok (.iload_n 3, 1) := by decide +kernel
theorem dX8_reckonSets_79 : decode cX8_reckonSets 79 = .ok (.if_icmp .le 13, 3) := by decide +kernel
theorem dX8_reckonSets_82 : decode cX8_reckonSets 82 = .ok (.aload_n 0, 1) := by decide +kernel
theorem dX8_reckonSets_83 : decode cX8_reckonSets 83 = .ok (.getfield 38, 3) := by decide +kernel
theorem dX8_reckonSets_86 : decode cX8_reckonSets 86 = .ok (.iload 7, 2) := by decide +kernel
theorem dX8_reckonSets_88 : decode cX8_reckonSets 88 = .ok (.iaload, 1) := by decide +kernel
theorem dX8_reckonSets_89 : decode cX8_reckonSets 89 = .ok (.goto 4, 3) := by decide +kernel
theorem dX8_reckonSets_92 : decode cX8_reckonSets 92 = .ok (.iload_n 3, 1) := by decide +kernel
theorem dX8_reckonSets_93 : decode cX8_reckonSets 93 = .ok (.istore_n 3, 1) := by decide +kernel
theorem dX8_reckonSets_94 : decode cX8_reckonSets 94 = .ok (.iload 4, 2) := by decide +kernel
theorem dX8_reckonSets_96 : decode cX8_reckonSets 96 = .ok (.aload_n 0, 1) := by decide +kernel
theorem dX8_reckonSets_97 : decode cX8_reckonSets 97 = .ok (.getfield 23, 3) := by decide +kernel
theorem dX8_reckonSets_100 : decode cX8_reckonSets 100 = .ok (.iload 7, 2) := by decide +kernel
theorem dX8_reckonSets_102 : decode cX8_reckonSets 102 = .ok (.iaload, 1) := by decide +kernel
theorem dX8_reckonSets_103 : decode cX8_reckonSets 103 = .ok (.iadd, 1) := by decide +kernel
theorem dX8_reckonSets_104 : decode cX8_reckonSets 104 = .ok (.istore 4, 2) := by decide +kernel
theorem dX8_reckonSets_106 : decode cX8_reckonSets 106 = .ok (.iload 6, 2) := by decide +kernel
theorem dX8_reckonSets_108 : decode cX8_reckonSets 108 = .ok (.ifCond .eq 25, 3) := by decide +kernel
theorem dX8_reckonSets_111 : decode cX8_reckonSets 111 = .ok (.iload 5, 2) := by decide +kernel
theorem dX8_reckonSets_113 : decode cX8_reckonSets 113 = .ok (.iconst (-1), 1) := by decide +kernel
theorem dX8_reckonSets_114 : decode cX8_reckonSets 114 = .ok (.if_icmp .eq 15, 3) := by decide +kernel
theorem dX8_reckonSets_117 : decode cX8_reckonSets 117 = .ok (.iload 5, 2) := by decide +kernel
theorem dX8_reckonSets_119 : decode cX8_reckonSets 119 = .ok (.aload_n 0, 1) := by decide +kernel
theorem dX8_reckonSets_120 : decode cX8_reckonSets 120 = .ok (.getfield 13, 3) := by decide +kernel
theorem dX8_reckonSets_123 : decode cX8_reckonSets 123 = .ok (.iload 7, 2) := by decide +kernel
theorem dX8_reckonSets_125 : decode cX8_reckonSets 125 = .ok (.iaload, 1) := by decide +kernel
theorem dX8_reckonSets_126 : decode cX8_reckonSets 126 = .ok (.if_icmp .ne 7, 3) := by decide +kernel
theorem dX8_reckonSets_129 : decode cX8_reckonSets 129 = .ok (.iconst 1, 1) := by decide +kernel
theorem dX8_reckonSets_130 : decode cX8_reckonSets 130 = .ok (.goto 4, 3) := by decide +kernel
theorem dX8_reckonSets_133 : decode cX8_reckonSets 133 = .ok (.iconst 0, 1) := by decide +kernel
theorem dX8_reckonSets_134 : decode cX8_reckonSets 134 = .ok (.istore 6, 2) := by decide +kernel
theorem dX8_reckonSets_136 : decode cX8_reckonSets 136 = .ok (.aload_n 0, 1) := by decide +kernel
theorem dX8_reckonSets_137 : decode cX8_reckonSets 137 = .ok (.getfield 13, 3) := by decide +kernel
theorem dX8_reckonSets_140 : decode cX8_reckonSets 140 = .ok (.iload 7, 2) := by decide +kernel
theorem dX8_reckonSets_142 : decode cX8_reckonSets 142 = .ok (.iaload, 1) := by decide +kernel
theorem dX8_reckonSets_143 : decode cX8_reckonSets 143 = .ok (.istore 5, 2) := by decide +kernel
theorem dX8_reckonSets_145 : decode cX8_reckonSets 145 = .ok (.iinc 7 1, 3) := by decide +kernel
theorem dX8_reckonSets_148 : decode cX8_reckonSets 148 = .ok (.goto (-118), 3) := by decide +kernel
theorem dX8_reckonSets_151 : decode cX8_reckonSets 151 = .ok (.aload_n 0, 1) := by decide +kernel
theorem dX8_reckonSets_152 : decode cX8_reckonSets 152 = .ok (.getfield 44, 3) := by decide +kernel
theorem dX8_reckonSets_155 : decode cX8_reckonSets 155 = .ok (.iload_n 1, 1) := by decide +kernel
theorem dX8_reckonSets_156 : decode cX8_reckonSets 156 = .ok (.iload_n 2, 1) := by decide +kernel
theorem dX8_reckonSets_157 : decode cX8_reckonSets 157 = .ok (.iastore, 1) := by decide +kernel
theorem dX8_reckonSets_158 : decode cX8_reckonSets 158 = .ok (.aload_n 0, 1) := by decide +kernel
theorem dX8_reckonSets_159 : decode cX8_reckonSets 159 = .ok (.getfield 47, 3) := by decide +kernel
theorem dX8_reckonSets_162 : decode cX8_reckonSets 162 = .ok (.iload_n 1, 1) := by decide +kernel
theorem dX8_reckonSets_163 : decode cX8_reckonSets 163 = .ok (.iload_n 3, 1) := by decide +kernel
theorem dX8_reckonSets_164 : decode cX8_reckonSets 164 = .ok (.iastore, 1) := by decide +kernel
theorem dX8_reckonSets_165 : decode cX8_reckonSets 165 = .ok (.aload_n 0, 1) := by decide +kernel
theorem dX8_reckonSets_166 : decode cX8_reckonSets 166 = .ok (.getfield 50, 3) := by decide +kernel
theorem dX8_reckonSets_169 : decode cX8_reckonSets 169 = .ok (.iload_n 1, 1) := by decide +kernel
theorem dX8_reckonSets_170 : decode cX8_reckonSets 170 = .ok (.iload 4, 2) := by decide +kernel
theorem dX8_reckonSets_172 : decode cX8_reckonSets 172 = .ok (.iastore, 1) := by decide +kernel
theorem dX8_reckonSets_173 : decode cX8_reckonSets 173 = .ok (.aload_n 0, 1) := by decide +kernel
theorem dX8_reckonSets_174 : decode cX8_reckonSets 174 = .ok (.getfield 53, 3) := by decide +kernel
theorem dX8_reckonSets_177 : decode cX8_reckonSets 177 = .ok (.iload_n 1, 1) := by decide +kernel
theorem dX8_reckonSets_178 : decode cX8_reckonSets 178 = .ok (.iload 6, 2) := by decide +kernel
theorem dX8_reckonSets_180 : decode cX8_reckonSets 180 = .ok (.bastore, 1) := by decide +kernel
theorem dX8_reckonSets_181 : decode cX8_reckonSets 181 = .ok (.iinc 1 1, 3) := by decide +kernel
theorem dX8_reckonSets_184 : decode cX8_reckonSets 184 = .ok (.goto (-182), 3) := by decide +kernel
theorem dX8_reckonSets_187 : decode cX8_reckonSets 187 = .ok (.return_, 1) := by decide +kernel
set_option maxRecDepth 20000 in
theorem ggX8_isContradiction_X8_has : GoodIn wsX8_isContradiction wsX8_has := goodIn_r _ [13] (by decide +kernel) (by decide +kernel)
set_option maxRecDepth 20000 in
theorem gX8_isContradiction_X8_has : GoodIn wsX8_isContradiction (va_wsS RX8 102 yX8_has wsX8_has) := goodIn_app (goodIn_of _ (by decide +kernel)) ggX8_isContradiction_X8_has
theorem dX8_isContradiction_0 : decode cX8_isContradiction 0 = .ok (.iconst 0, 1) := by decide +kernel
theorem dX8_isContradiction_1 : decode cX8_isContradiction 1 = .ok (.istore_n 1, 1) := by decide +kernel
theorem dX8_isContradiction_2 : decode cX8_isContradiction 2 = .ok (.iconst 1, 1) := by decide +kernel
theorem dX8_isContradiction_3 : decode cX8_isContradiction 3 = .ok (.istore_n 2, 1) := by decide +kernel
theorem dX8_isContradiction_4 : decode cX8_isContradiction 4 = .ok (.iload_n 2, 1) := by decide +kernel
theorem dX8_isContradiction_5 : decode cX8_isContradiction 5 = .ok (.iconst 1, 1) := by decide +kernel
theorem dX8_isContradiction_6 : decode cX8_isContradiction 6 = .ok (.aload_n 0, 1) := by decide +kernel
theorem dX8_isContradiction_7 : decode cX8_isContradiction 7 = .ok (.getfield 78, 3) := by decide +kernel
theorem dX8_isContradiction_10 : decode cX8_isContradiction 10 = .ok (.ishl, 1) := by decide +kernel
theorem dX8_isContradiction_11 : decode cX8_isContradiction 11 = .ok (.if_icmp .ge 50, 3) := by decide +kernel
theorem dX8_isContradiction_14 : decode cX8_isContradiction 14 = .ok (.iload_n 1, 1) := by decide +kernel
theorem dX8_isContradiction_15 : decode cX8_isContradiction 15 = .ok (.ifCond .ne 34, 3) := by decide +kernel
theorem dX8_isContradiction_18 : decode cX8_isContradiction 18 = .ok (.aload_n 0, 1) := by decide +kernel
theorem dX8_isContradiction_19 : decode cX8_isContradiction 19 = .ok (.getfield 53, 3) := by decide +kernel
theorem dX8_isContradiction_22 : decode cX8_isContradiction 22 = .ok (.iload_n 2, 1) := by decide +kernel
theorem dX8_isContradiction_23 : decode cX8_isContradiction 23 = .ok (.baload, 1) := by decide +kernel
theorem dX8_isContradiction_24 : decode cX8_isContradiction 24 = .ok (.ifCond .eq 29, 3) := by decide +kernel
theorem dX8_isContradiction_27 : decode cX8_isContradiction 27 = .ok (.aload_n 0, 1) := by decide +kernel
theorem dX8_isContradiction_28 : decode cX8_isContradiction 28 = .ok (.getfield 44, 3) := by decide +kernel
theorem dX8_isContradiction_31 : decode cX8_isContradiction 31 = .ok (.iload_n 2, 1) := by decide +kernel
theorem dX8_isContradiction_32 : decode cX8_isContradiction 32 = .ok (.iaload, 1) := by decide +kernel
theorem dX8_isContradiction_33 : decode cX8_isContradiction 33 = .ok (.aload_n 0, 1) := by decide +kernel
theorem dX8_isContradiction_34 : decode cX8_isContradiction 34 = .ok (.getfield 50, 3) := by decide +kernel
theorem dX8_isContradiction_37 : decode cX8_isContradiction 37 = .ok (.iload_n 2, 1) := by decide +kernel
theorem dX8_isContradiction_38 : decode cX8_isContradiction 38 = .ok (.iaload, 1) := by decide +kernel
theorem dX8_isContradiction_39 : decode cX8_isContradiction 39 = .ok (.iadd, 1) := by decide +kernel
theorem dX8_isContradiction_40 : decode cX8_isContradiction 40 = .ok (.aload_n 0, 1) := by decide +kernel
theorem dX8_isContradiction_41 : decode cX8_isContradiction 41 = .ok (.getfield 47, 3) := by decide +kernel
theorem dX8_isContradiction_44 : decode cX8_isContradiction 44 = .ok (.iload_n 2, 1) := by decide +kernel
theorem dX8_isContradiction_45 : decode cX8_isContradiction 45 = .ok (.iaload, 1) := by decide +kernel
theorem dX8_isContradiction_46 : decode cX8_isContradiction 46 = .ok (.if_icmp .le 7, 3) := by decide +kernel
theorem dX8_isContradiction_49 : decode cX8_isContradiction 49 = .ok (.iconst 1, 1) := by decide +kernel
theorem dX8_isContradiction_50 : decode cX8_isContradiction 50 = .ok (.goto 4, 3) := by decide +kernel
theorem dX8_isContradiction_53 : decode cX8_isContradiction 53 = .ok (.iconst 0, 1) := by decide +kernel
theorem dX8_isContradiction_54 : decode cX8_isContradiction 54 = .ok (.istore_n 1, 1) := by decide +kernel
theorem dX8_isContradiction_55 : decode cX8_isContradiction 55 = .ok (.iinc 2 1, 3) := by decide +kernel
theorem dX8_isContradiction_58 : decode cX8_isContradiction 58 = .ok (.goto (-54), 3) := by decide +kernel
theorem dX8_isContradiction_61 : decode cX8_isContradiction 61 = .ok (.iconst 0, 1) := by decide +kernel
theorem dX8_isContradiction_62 : decode cX8_isContradiction 62 = .ok (.istore_n 2, 1) := by decide +kernel
theorem dX8_isContradiction_63 : decode cX8_isContradiction 63 = .ok (.iload_n 2, 1) := by decide +kernel
theorem dX8_isContradiction_64 : decode cX8_isContradiction 64 = .ok (.aload_n 0, 1) := by decide +kernel
theorem dX8_isContradiction_65 : decode cX8_isContradiction 65 = .ok (.getfield 78, 3) := by decide +kernel
theorem dX8_isContradiction_68 : decode cX8_isContradiction 68 = .ok (.if_icmp .ge 54, 3) := by decide +kernel
theorem dX8_isContradiction_71 : decode cX8_isContradiction 71 = .ok (.iload_n 1, 1) := by decide +kernel
theorem dX8_isContradiction_72 : decode cX8_isContradiction 72 = .ok (.ifCond .ne 38, 3) := by decide +kernel
theorem dX8_isContradiction_75 : decode cX8_isContradiction 75 = .ok (.aload_n 0, 1) := by decide +kernel
theorem dX8_isContradiction_76 : decode cX8_isContradiction 76 = .ok (.getfield 41, 3) := by decide +kernel
theorem dX8_isContradiction_79 : decode cX8_isContradiction 79 = .ok (.iload_n 2, 1) := by decide +kernel
theorem dX8_isContradiction_80 : decode cX8_isContradiction 80 = .ok (.iaload, 1) := by decide +kernel
theorem dX8_isContradiction_81 : decode cX8_isContradiction 81 = .ok (.iload_n 2, 1) := by decide +kernel
theorem dX8_isContradiction_82 : decode cX8_isContradiction 82 = .ok (.invokestatic 102, 3) := by decide +kernel
theorem dX8_isContradiction_85 : decode cX8_isContradiction 85 = .ok (.ifCond .ne 25, 3) := by decide +kernel
theorem dX8_isContradiction_88 : decode cX8_isContradiction 88 = .ok (.aload_n 0, 1) := by decide +kernel
theorem dX8_isContradiction_89 : decode cX8_isContradiction 89 = .ok (.getfield 35, 3) := by decide +kernel
theorem dX8_isContradiction_92 : decode cX8_isContradiction 92 = .ok (.iload_n 2, 1) := by decide +kernel
theorem dX8_isContradiction_93 : decode cX8_isContradiction 93 = .ok (.iaload, 1) := by decide +kernel
theorem dX8_isContradiction_94 : decode cX8_isContradiction 94 = .ok (.aload_n 0, 1) := by decide +kernel
theorem dX8_isContradiction_95 : decode cX8_isContradiction 95 = .ok (.getfield 23, 3) := by decide +kernel
theorem dX8_isContradiction_98 : decode cX8_isContradiction 98 = .ok (.iload_n 2, 1) := by decide +kernel
theorem dX8_isContradiction_99 : decode cX8_isContradiction 99 = .ok (.iaload, 1) := by decide +kernel
theorem dX8_isContradiction_100 : decode cX8_isContradiction 100 = .ok (.iadd, 1) := by decide +kernel
theorem dX8_isContradiction_101 : decode cX8_isContradiction 101 = .ok (.aload_n 0, 1) := by decide +kernel
theorem dX8_isContradiction_102 : decode cX8_isContradiction 102 = .ok (.getfield 38, 3) := by decide +kernel
theorem dX8_isContradiction_105 : decode cX8_isContradiction 105 = .ok (.iload_n 2, 1) := by decide +kernel
theorem dX8_isContradiction_106 : decode cX8_isContradiction 106 = .ok (.iaload, 1) := by decide +kernel
theorem dX8_isContradiction_107 : decode cX8_isContradiction 107 = .ok (.if_icmp .le 7, 3) := by decide +kernel
theorem dX8_isContradiction_110 : decode cX8_isContradiction 110 = .ok (.iconst 1, 1) := by decide +kernel
theorem dX8_isContradiction_111 : decode cX8_isContradiction 111 = .ok (.goto 4, 3) := by decide +kernel
theorem dX8_isContradiction_114 : decode cX8_isContradiction 114 = .ok (.iconst 0, 1) := by decide +kernel
theorem dX8_isContradiction_115 : decode cX8_isContradiction 115 = .ok (.istore_n 1, 1) := by decide +kernel
theorem dX8_isContradiction_116 : decode cX8_isContradiction 116 = .ok (.iinc 2 1, 3) := by decide +kernel
theorem dX8_isContradiction_119 : decode cX8_isContradiction 119 = .ok (.goto (-56), 3) := by decide +kernel
theorem dX8_isContradiction_122 : decode cX8_isContradiction 122 = .ok (.iload_n 1, 1) := by decide +kernel
theorem dX8_isContradiction_123 : decode cX8_isContradiction 123 = .ok (.ireturn, 1) := by decide +kernel
theorem dX8_comesAhead_0 : decode cX8_comesAhead 0 = .ok (.aload_n 0, 1) := by decide +kernel
theorem dX8_comesAhead_1 : decode cX8_comesAhead 1 = .ok (.aload_n 0, 1) := by decide +kernel
theorem dX8_comesAhead_2 : decode cX8_comesAhead 2 = .ok (.getfield 133, 3) := by decide +kernel
theorem dX8_comesAhead_5 : decode cX8_comesAhead 5 = .ok (.ifCond .ne 20, 3) := by decide +kernel
theorem dX8_comesAhead_8 : decode cX8_comesAhead 8 = .ok (.aload_n 0, 1) := by decide +kernel
theorem dX8_comesAhead_9 : decode cX8_comesAhead 9 = .ok (.getfield 41, 3) := by decide +kernel
theorem dX8_comesAhead_12 : decode cX8_comesAhead 12 = .ok (.iload_n 1, 1) := by decide +kernel
theorem dX8_comesAhead_13 : decode cX8_comesAhead 13 = .ok (.iaload, 1) := by decide +kernel
theorem dX8_comesAhead_14 : decode cX8_comesAhead 14 = .ok (.iload_n 2, 1) := by decide +kernel
theorem dX8_comesAhead_15 : decode cX8_comesAhead 15 = .ok (.ior, 1) := by decide +kernel
theorem dX8_comesAhead_16 : decode cX8_comesAhead 16 = .ok (.aload_n 0, 1) := by decide +kernel
theorem dX8_comesAhead_17 : decode cX8_comesAhead 17 = .ok (.getfield 41, 3) := by decide +kernel
theorem dX8_comesAhead_20 : decode cX8_comesAhead 20 = .ok (.iload_n 1, 1) := by decide +kernel
theorem dX8_comesAhead_21 : decode cX8_comesAhead 21 = .ok (.iaload, 1) := by decide +kernel
theorem dX8_comesAhead_22 : decode cX8_comesAhead 22 = .ok (.if_icmp .eq 7, 3) := by decide +kernel
theorem dX8_comesAhead_25 : decode cX8_comesAhead 25 = .ok (.iconst 1, 1) := by decide +kernel
theorem dX8_comesAhead_26 : decode cX8_comesAhead 26 = .ok (.goto 4, 3) := by decide +kernel
theorem dX8_comesAhead_29 : decode cX8_comesAhead 29 = .ok (.iconst 0, 1) := by decide +kernel
theorem dX8_comesAhead_30 : decode cX8_comesAhead 30 = .ok (.putfield 133, 3) := by decide +kernel
theorem dX8_comesAhead_33 : decode cX8_comesAhead 33 = .ok (.aload_n 0, 1) := by decide +kernel
theorem dX8_comesAhead_34 : decode cX8_comesAhead 34 = .ok (.getfield 41, 3) := by decide +kernel
theorem dX8_comesAhead_37 : decode cX8_comesAhead 37 = .ok (.iload_n 1, 1) := by decide +kernel
theorem dX8_comesAhead_38 : decode cX8_comesAhead 38 = .ok (.dup2, 1) := by decide +kernel
theorem dX8_comesAhead_39 : decode cX8_comesAhead 39 = .ok (.iaload, 1) := by decide +kernel
theorem dX8_comesAhead_40 : decode cX8_comesAhead 40 = .ok (.iload_n 2, 1) := by decide +kernel
theorem dX8_comesAhead_41 : decode cX8_comesAhead 41 = .ok (.ior, 1) := by decide +kernel
theorem dX8_comesAhead_42 : decode cX8_comesAhead 42 = .ok (.iastore, 1) := by decide +kernel
theorem dX8_comesAhead_43 : decode cX8_comesAhead 43 = .ok (.return_, 1) := by decide +kernel
set_option maxRecDepth 20000 in
theorem ggX8_rulesOneAndTwo_X8_has : GoodIn wsX8_rulesOneAndTwo wsX8_has := goodIn_r _ [6] (by decide +kernel) (by decide +kernel)
set_option maxRecDepth 20000 in
theorem gX8_rulesOneAndTwo_X8_has : GoodIn wsX8_rulesOneAndTwo (va_wsS RX8 102 yX8_has wsX8_has) := goodIn_app (goodIn_of _ (by decide +kernel)) ggX8_rulesOneAndTwo_X8_has
set_option maxRecDepth 20000 in
theorem ggX8_rulesOneAndTwo_X8_comesAhead : GoodIn wsX8_rulesOneAndTwo wsX8_comesAhead := goodIn_r _ [10, 11, 2, 20, 21, 22, 23, 24, 25, 26, 27, 28, 29, 30, 31, 32, 33, 34, 35, 36, 37, 38, 39, 40, 41, 42, 43, 44, 45, 46, 47, 48, 49] (by decide +kernel) (by decide +kernel)
set_option maxRecDepth 20000 in
theorem gX8_rulesOneAndTwo_X8_comesAhead : GoodIn wsX8_rulesOneAndTwo (wsV RX8 137 RX8 yX8_comesAhead wsX8_comesAhead) := goodIn_app (goodIn_of _ (by decide +kernel)) ggX8_rulesOneAndTwo_X8_comesAhead
set_option maxRecDepth 20000 in
theorem ggX8_rulesOneAndTwo_X8_tellsTwo : GoodIn wsX8_rulesOneAndTwo wsX8_tellsTwo := goodIn_r _ [15, 16, 17, 18, 19, 20, 21, 22, 23, 24, 25, 26, 27, 28, 29, 30, 31, 32, 33, 34, 35, 36, 37, 38, 39, 40, 41, 42, 43, 44, 45, 46, 47, 48, 49] (by decide +kernel) (by decide +kernel)
set_option maxRecDepth 20000 in
theorem gX8_rulesOneAndTwo_X8_tellsTwo : GoodIn wsX8_rulesOneAndTwo (wsV RX8 141 RX8 yX8_tellsTwo wsX8_tellsTwo) := goodIn_app (goodIn_of _ (by decide +kernel)) ggX8_rulesOneAndTwo_X8_tellsTwo
theorem dX8_rulesOneAndTwo_0 : decode cX8_rulesOneAndTwo 0 = .ok (.iconst 0, 1) := by decide +kernel
theorem dX8_rulesOneAndTwo_1 : decode cX8_rulesOneAndTwo 1 = .ok (.istore_n 1, 1) := by decide +kernel
theorem dX8_rulesOneAndTwo_2 : decode cX8_rulesOneAndTwo 2 = .ok (.iload_n 1, 1) := by decide +kernel
theorem dX8_rulesOneAndTwo_3 : decode cX8_rulesOneAndTwo 3 = .ok (.aload_n 0, 1) := by decide +kernel
theorem dX8_rulesOneAndTwo_4 : decode cX8_rulesOneAndTwo 4 = .ok (.getfield 78, 3) := by decide +kernel
theorem dX8_rulesOneAndTwo_7 : decode cX8_rulesOneAndTwo 7 = .ok (.if_icmp .ge 71, 3) := by decide +kernel
theorem dX8_rulesOneAndTwo_10 : decode cX8_rulesOneAndTwo 10 = .ok (.iconst 0, 1) := by decide +kernel
theorem dX8_rulesOneAndTwo_11 : decode cX8_rulesOneAndTwo 11 = .ok (.istore_n 2, 1) := by decide +kernel
theorem dX8_rulesOneAndTwo_12 : decode cX8_rulesOneAndTwo 12 = .ok (.iload_n 2, 1) := by decide +kernel
theorem dX8_rulesOneAndTwo_13 : decode cX8_rulesOneAndTwo 13 = .ok (.aload_n 0, 1) := by decide +kernel
theorem dX8_rulesOneAndTwo_14 : decode cX8_rulesOneAndTwo 14 = .ok (.getfield 78, 3) := by decide +kernel
theorem dX8_rulesOneAndTwo_17 : decode cX8_rulesOneAndTwo 17 = .ok (.if_icmp .ge 55, 3) := by decide +kernel
theorem dX8_rulesOneAndTwo_20 : decode cX8_rulesOneAndTwo 20 = .ok (.aload_n 0, 1) := by decide +kernel
theorem dX8_rulesOneAndTwo_21 : decode cX8_rulesOneAndTwo 21 = .ok (.getfield 41, 3) := by decide +kernel
theorem dX8_rulesOneAndTwo_24 : decode cX8_rulesOneAndTwo 24 = .ok (.iload_n 1, 1) := by decide +kernel
theorem dX8_rulesOneAndTwo_25 : decode cX8_rulesOneAndTwo 25 = .ok (.iaload, 1) := by decide +kernel
theorem dX8_rulesOneAndTwo_26 : decode cX8_rulesOneAndTwo 26 = .ok (.iload_n 2, 1) := by decide +kernel
theorem dX8_rulesOneAndTwo_27 : decode cX8_rulesOneAndTwo 27 = .ok (.invokestatic 102, 3) := by decide +kernel
theorem dX8_rulesOneAndTwo_30 : decode cX8_rulesOneAndTwo 30 = .ok (.ifCond .eq 14, 3) := by decide +kernel
theorem dX8_rulesOneAndTwo_33 : decode cX8_rulesOneAndTwo 33 = .ok (.aload_n 0, 1) := by decide +kernel
theorem dX8_rulesOneAndTwo_34 : decode cX8_rulesOneAndTwo 34 = .ok (.iload_n 1, 1) := by decide +kernel
theorem dX8_rulesOneAndTwo_35 : decode cX8_rulesOneAndTwo 35 = .ok (.aload_n 0, 1) := by decide +kernel
theorem dX8_rulesOneAndTwo_36 : decode cX8_rulesOneAndTwo 36 = .ok (.getfield 41, 3) := by decide +kernel
theorem dX8_rulesOneAndTwo_39 : decode cX8_rulesOneAndTwo 39 = .ok (.iload_n 2, 1) := by decide +kernel
theorem dX8_rulesOneAndTwo_40 : decode cX8_rulesOneAndTwo 40 = .ok (.iaload, 1) := by decide +kernel
theorem dX8_rulesOneAndTwo_41 : decode cX8_rulesOneAndTwo 41 = .ok (.invokevirtual 137, 3) := by decide +kernel
theorem dX8_rulesOneAndTwo_44 : decode cX8_rulesOneAndTwo 44 = .ok (.iload_n 1, 1) := by decide +kernel
theorem dX8_rulesOneAndTwo_45 : decode cX8_rulesOneAndTwo 45 = .ok (.iload_n 2, 1) := by decide +kernel
theorem dX8_rulesOneAndTwo_46 : decode cX8_rulesOneAndTwo 46 = .ok (.if_icmp .eq 20, 3) := by decide +kernel
theorem dX8_rulesOneAndTwo_49 : decode cX8_rulesOneAndTwo 49 = .ok (.aload_n 0, 1) := by decide +kernel
theorem dX8_rulesOneAndTwo_50 : decode cX8_rulesOneAndTwo 50 = .ok (.iload_n 2, 1) := by decide +kernel
theorem dX8_rulesOneAndTwo_51 : decode cX8_rulesOneAndTwo 51 = .ok (.iload_n 1, 1) := by decide +kernel
theorem dX8_rulesOneAndTwo_52 : decode cX8_rulesOneAndTwo 52 = .ok (.invokevirtual 141, 3) := by decide +kernel
theorem dX8_rulesOneAndTwo_55 : decode cX8_rulesOneAndTwo 55 = .ok (.ifCond .eq 11, 3) := by decide +kernel
theorem dX8_rulesOneAndTwo_58 : decode cX8_rulesOneAndTwo 58 = .ok (.aload_n 0, 1) := by decide +kernel
theorem dX8_rulesOneAndTwo_59 : decode cX8_rulesOneAndTwo 59 = .ok (.iload_n 2, 1) := by decide +kernel
theorem dX8_rulesOneAndTwo_60 : decode cX8_rulesOneAndTwo 60 = .ok (.iconst 1, 1) := by decide +kernel
theorem dX8_rulesOneAndTwo_61 : decode cX8_rulesOneAndTwo 61 = .ok (.iload_n 1, 1) := by decide +kernel
theorem dX8_rulesOneAndTwo_62 : decode cX8_rulesOneAndTwo 62 = .ok (.ishl, 1) := by decide +kernel
theorem dX8_rulesOneAndTwo_63 : decode cX8_rulesOneAndTwo 63 = .ok (.invokevirtual 137, 3) := by decide +kernel
theorem dX8_rulesOneAndTwo_66 : decode cX8_rulesOneAndTwo 66 = .ok (.iinc 2 1, 3) := by decide +kernel
theorem dX8_rulesOneAndTwo_69 : decode cX8_rulesOneAndTwo 69 = .ok (.goto (-57), 3) := by decide +kernel
theorem dX8_rulesOneAndTwo_72 : decode cX8_rulesOneAndTwo 72 = .ok (.iinc 1 1, 3) := by decide +kernel
theorem dX8_rulesOneAndTwo_75 : decode cX8_rulesOneAndTwo 75 = .ok (.goto (-73), 3) := by decide +kernel
theorem dX8_rulesOneAndTwo_78 : decode cX8_rulesOneAndTwo 78 = .ok (.return_, 1) := by decide +kernel
theorem dX8_tellsTwo_0 : decode cX8_tellsTwo 0 = .ok (.aload_n 0, 1) := by decide +kernel
theorem dX8_tellsTwo_1 : decode cX8_tellsTwo 1 = .ok (.getfield 13, 3) := by decide +kernel
theorem dX8_tellsTwo_4 : decode cX8_tellsTwo 4 = .ok (.iload_n 2, 1) := by decide +kernel
theorem dX8_tellsTwo_5 : decode cX8_tellsTwo 5 = .ok (.iaload, 1) := by decide +kernel
theorem dX8_tellsTwo_6 : decode cX8_tellsTwo 6 = .ok (.aload_n 0, 1) := by decide +kernel
theorem dX8_tellsTwo_7 : decode cX8_tellsTwo 7 = .ok (.getfield 13, 3) := by decide +kernel
theorem dX8_tellsTwo_10 : decode cX8_tellsTwo 10 = .ok (.iload_n 1, 1) := by decide +kernel
theorem dX8_tellsTwo_11 : decode cX8_tellsTwo 11 = .ok (.iaload, 1) := by decide +kernel
theorem dX8_tellsTwo_12 : decode cX8_tellsTwo 12 = .ok (.if_icmp .ne 36, 3) := by decide +kernel
theorem dX8_tellsTwo_15 : decode cX8_tellsTwo 15 = .ok (.aload_n 0, 1) := by decide +kernel
theorem dX8_tellsTwo_16 : decode cX8_tellsTwo 16 = .ok (.getfield 35, 3) := by decide +kernel
theorem dX8_tellsTwo_19 : decode cX8_tellsTwo 19 = .ok (.iload_n 2, 1) := by decide +kernel
theorem dX8_tellsTwo_20 : decode cX8_tellsTwo 20 = .ok (.iaload, 1) := by decide +kernel
theorem dX8_tellsTwo_21 : decode cX8_tellsTwo 21 = .ok (.aload_n 0, 1) := by decide +kernel
theorem dX8_tellsTwo_22 : decode cX8_tellsTwo 22 = .ok (.getfield 23, 3) := by decide +kernel
theorem dX8_tellsTwo_25 : decode cX8_tellsTwo 25 = .ok (.iload_n 2, 1) := by decide +kernel
theorem dX8_tellsTwo_26 : decode cX8_tellsTwo 26 = .ok (.iaload, 1) := by decide +kernel
theorem dX8_tellsTwo_27 : decode cX8_tellsTwo 27 = .ok (.iadd, 1) := by decide +kernel
theorem dX8_tellsTwo_28 : decode cX8_tellsTwo 28 = .ok (.aload_n 0, 1) := by decide +kernel
theorem dX8_tellsTwo_29 : decode cX8_tellsTwo 29 = .ok (.getfield 23, 3) := by decide +kernel
theorem dX8_tellsTwo_32 : decode cX8_tellsTwo 32 = .ok (.iload_n 1, 1) := by decide +kernel
theorem dX8_tellsTwo_33 : decode cX8_tellsTwo 33 = .ok (.iaload, 1) := by decide +kernel
theorem dX8_tellsTwo_34 : decode cX8_tellsTwo 34 = .ok (.iadd, 1) := by decide +kernel
theorem dX8_tellsTwo_35 : decode cX8_tellsTwo 35 = .ok (.aload_n 0, 1) := by decide +kernel
theorem dX8_tellsTwo_36 : decode cX8_tellsTwo 36 = .ok (.getfield 38, 3) := by decide +kernel
theorem dX8_tellsTwo_39 : decode cX8_tellsTwo 39 = .ok (.iload_n 1, 1) := by decide +kernel
theorem dX8_tellsTwo_40 : decode cX8_tellsTwo 40 = .ok (.iaload, 1) := by decide +kernel
theorem dX8_tellsTwo_41 : decode cX8_tellsTwo 41 = .ok (.if_icmp .le 7, 3) := by decide +kernel
theorem dX8_tellsTwo_44 : decode cX8_tellsTwo 44 = .ok (.iconst 1, 1) := by decide +kernel
theorem dX8_tellsTwo_45 : decode cX8_tellsTwo 45 = .ok (.goto 4, 3) := by decide +kernel
theorem dX8_tellsTwo_48 : decode cX8_tellsTwo 48 = .ok (.iconst 0, 1) := by decide +kernel
theorem dX8_tellsTwo_49 : decode cX8_tellsTwo 49 = .ok (.ireturn, 1) := by decide +kernel
theorem dX8_tellsBehind_0 : decode cX8_tellsBehind 0 = .ok (.iload_n 2, 1) := by decide +kernel
theorem dX8_tellsBehind_1 : decode cX8_tellsBehind 1 = .ok (.iconst 1, 1) := by decide +kernel
theorem dX8_tellsBehind_2 : decode cX8_tellsBehind 2 = .ok (.iload_n 1, 1) := by decide +kernel
theorem dX8_tellsBehind_3 : decode cX8_tellsBehind 3 = .ok (.ishl, 1) := by decide +kernel
theorem dX8_tellsBehind_4 : decode cX8_tellsBehind 4 = .ok (.ior, 1) := by decide +kernel
theorem dX8_tellsBehind_5 : decode cX8_tellsBehind 5 = .ok (.istore_n 3, 1) := by decide +kernel
theorem dX8_tellsBehind_6 : decode cX8_tellsBehind 6 = .ok (.aload_n 0, 1) := by decide +kernel
theorem dX8_tellsBehind_7 : decode cX8_tellsBehind 7 = .ok (.getfield 53, 3) := by decide +kernel
theorem dX8_tellsBehind_10 : decode cX8_tellsBehind 10 = .ok (.iload_n 3, 1) := by decide +kernel
theorem dX8_tellsBehind_11 : decode cX8_tellsBehind 11 = .ok (.baload, 1) := by decide +kernel
theorem dX8_tellsBehind_12 : decode cX8_tellsBehind 12 = .ok (.ifCond .eq 29, 3) := by decide +kernel
theorem dX8_tellsBehind_15 : decode cX8_tellsBehind 15 = .ok (.aload_n 0, 1) := by decide +kernel
theorem dX8_tellsBehind_16 : decode cX8_tellsBehind 16 = .ok (.getfield 44, 3) := by decide +kernel
theorem dX8_tellsBehind_19 : decode cX8_tellsBehind 19 = .ok (.iload_n 3, 1) := by decide +kernel
theorem dX8_tellsBehind_20 : decode cX8_tellsBehind 20 = .ok (.iaload, 1) := by decide +kernel
theorem dX8_tellsBehind_21 : decode cX8_tellsBehind 21 = .ok (.aload_n 0, 1) := by decide +kernel
theorem dX8_tellsBehind_22 : decode cX8_tellsBehind 22 = .ok (.getfield 50, 3) := by decide +kernel
theorem dX8_tellsBehind_25 : decode cX8_tellsBehind 25 = .ok (.iload_n 3, 1) := by decide +kernel
theorem dX8_tellsBehind_26 : decode cX8_tellsBehind 26 = .ok (.iaload, 1) := by decide +kernel
theorem dX8_tellsBehind_27 : decode cX8_tellsBehind 27 = .ok (.iadd, 1) := by decide +kernel
theorem dX8_tellsBehind_28 : decode cX8_tellsBehind 28 = .ok (.aload_n 0, 1) := by decide +kernel
theorem dX8_tellsBehind_29 : decode cX8_tellsBehind 29 = .ok (.getfield 47, 3) := by decide +kernel
theorem dX8_tellsBehind_32 : decode cX8_tellsBehind 32 = .ok (.iload_n 2, 1) := by decide +kernel
theorem dX8_tellsBehind_33 : decode cX8_tellsBehind 33 = .ok (.iaload, 1) := by decide +kernel
theorem dX8_tellsBehind_34 : decode cX8_tellsBehind 34 = .ok (.if_icmp .le 7, 3) := by decide +kernel
theorem dX8_tellsBehind_37 : decode cX8_tellsBehind 37 = .ok (.iconst 1, 1) := by decide +kernel
theorem dX8_tellsBehind_38 : decode cX8_tellsBehind 38 = .ok (.goto 4, 3) := by decide +kernel
theorem dX8_tellsBehind_41 : decode cX8_tellsBehind 41 = .ok (.iconst 0, 1) := by decide +kernel
theorem dX8_tellsBehind_42 : decode cX8_tellsBehind 42 = .ok (.ireturn, 1) := by decide +kernel
theorem dX8_tellsAhead_0 : decode cX8_tellsAhead 0 = .ok (.iload_n 2, 1) := by decide +kernel
theorem dX8_tellsAhead_1 : decode cX8_tellsAhead 1 = .ok (.iconst 1, 1) := by decide +kernel
theorem dX8_tellsAhead_2 : decode cX8_tellsAhead 2 = .ok (.iload_n 1, 1) := by decide +kernel
theorem dX8_tellsAhead_3 : decode cX8_tellsAhead 3 = .ok (.ishl, 1) := by decide +kernel
theorem dX8_tellsAhead_4 : decode cX8_tellsAhead 4 = .ok (.ior, 1) := by decide +kernel
theorem dX8_tellsAhead_5 : decode cX8_tellsAhead 5 = .ok (.istore_n 3, 1) := by decide +kernel
theorem dX8_tellsAhead_6 : decode cX8_tellsAhead 6 = .ok (.aload_n 0, 1) := by decide +kernel
theorem dX8_tellsAhead_7 : decode cX8_tellsAhead 7 = .ok (.getfield 53, 3) := by decide +kernel
theorem dX8_tellsAhead_10 : decode cX8_tellsAhead 10 = .ok (.iload_n 3, 1) := by decide +kernel
theorem dX8_tellsAhead_11 : decode cX8_tellsAhead 11 = .ok (.baload, 1) := by decide +kernel
theorem dX8_tellsAhead_12 : decode cX8_tellsAhead 12 = .ok (.ifCond .eq 29, 3) := by decide +kernel
theorem dX8_tellsAhead_15 : decode cX8_tellsAhead 15 = .ok (.aload_n 0, 1) := by decide +kernel
theorem dX8_tellsAhead_16 : decode cX8_tellsAhead 16 = .ok (.getfield 44, 3) := by decide +kernel
theorem dX8_tellsAhead_19 : decode cX8_tellsAhead 19 = .ok (.iload_n 2, 1) := by decide +kernel
theorem dX8_tellsAhead_20 : decode cX8_tellsAhead 20 = .ok (.iaload, 1) := by decide +kernel
theorem dX8_tellsAhead_21 : decode cX8_tellsAhead 21 = .ok (.aload_n 0, 1) := by decide +kernel
theorem dX8_tellsAhead_22 : decode cX8_tellsAhead 22 = .ok (.getfield 50, 3) := by decide +kernel
theorem dX8_tellsAhead_25 : decode cX8_tellsAhead 25 = .ok (.iload_n 3, 1) := by decide +kernel
theorem dX8_tellsAhead_26 : decode cX8_tellsAhead 26 = .ok (.iaload, 1) := by decide +kernel
theorem dX8_tellsAhead_27 : decode cX8_tellsAhead 27 = .ok (.iadd, 1) := by decide +kernel
theorem dX8_tellsAhead_28 : decode cX8_tellsAhead 28 = .ok (.aload_n 0, 1) := by decide +kernel
theorem dX8_tellsAhead_29 : decode cX8_tellsAhead 29 = .ok (.getfield 47, 3) := by decide +kernel
theorem dX8_tellsAhead_32 : decode cX8_tellsAhead 32 = .ok (.iload_n 3, 1) := by decide +kernel
theorem dX8_tellsAhead_33 : decode cX8_tellsAhead 33 = .ok (.iaload, 1) := by decide +kernel
theorem dX8_tellsAhead_34 : decode cX8_tellsAhead 34 = .ok (.if_icmp .le 7, 3) := by decide +kernel
theorem dX8_tellsAhead_37 : decode cX8_tellsAhead 37 = .ok (.iconst 1, 1) := by decide +kernel
theorem dX8_tellsAhead_38 : decode cX8_tellsAhead 38 = .ok (.goto 4, 3) := by decide +kernel
theorem dX8_tellsAhead_41 : decode cX8_tellsAhead 41 = .ok (.iconst 0, 1) := by decide +kernel
theorem dX8_tellsAhead_42 : decode cX8_tellsAhead 42 = .ok (.ireturn, 1) := by decide +kernel
set_option maxRecDepth 20000 in
theorem ggX8_ruleThree_X8_tellsBehind : GoodIn wsX8_ruleThree wsX8_tellsBehind := goodIn_r _ [6, 7, 8, 9, 10, 24, 25, 26, 27, 28, 29, 30, 31, 32, 33, 34, 35, 36, 37, 38, 39, 40, 41, 42, 43, 44, 45, 46, 47, 48, 49, 50, 51, 52, 53] (by decide +kernel) (by decide +kernel)
set_option maxRecDepth 20000 in
theorem gX8_ruleThree_X8_tellsBehind : GoodIn wsX8_ruleThree (wsV RX8 144 RX8 yX8_tellsBehind wsX8_tellsBehind) := goodIn_app (goodIn_of _ (by decide +kernel)) ggX8_ruleThree_X8_tellsBehind
set_option maxRecDepth 20000 in
theorem ggX8_ruleThree_X8_has : GoodIn wsX8_ruleThree wsX8_has := goodIn_r _ [13] (by decide +kernel) (by decide +kernel)
set_option maxRecDepth 20000 in
theorem gX8_ruleThree_X8_has : GoodIn wsX8_ruleThree (va_wsS RX8 102 yX8_has wsX8_has) := goodIn_app (goodIn_of _ (by decide +kernel)) ggX8_ruleThree_X8_has
set_option maxRecDepth 20000 in
theorem ggX8_ruleThree_X8_comesAhead : GoodIn wsX8_ruleThree wsX8_comesAhead := goodIn_r _ [17, 18, 19, 24, 25, 26, 27, 28, 29, 30, 31, 32, 33, 34, 35, 36, 37, 38, 39, 40, 41, 42, 43, 44, 45, 46, 47, 48, 49, 50, 51, 52, 53] (by decide +kernel) (by decide +kernel)
set_option maxRecDepth 20000 in
theorem gX8_ruleThree_X8_comesAhead : GoodIn wsX8_ruleThree (wsV RX8 137 RX8 yX8_comesAhead wsX8_comesAhead) := goodIn_app (goodIn_of _ (by decide +kernel)) ggX8_ruleThree_X8_comesAhead
set_option maxRecDepth 20000 in
theorem ggX8_ruleThree_X8_tellsAhead : GoodIn wsX8_ruleThree wsX8_tellsAhead := goodIn_r _ [23, 7, 8, 9, 10, 24, 25, 26, 27, 28, 29, 30, 31, 32, 33, 34, 35, 36, 37, 38, 39, 40, 41, 42, 43, 44, 45, 46, 47, 48, 49, 50, 51, 52, 53] (by decide +kernel) (by decide +kernel)
set_option maxRecDepth 20000 in
theorem gX8_ruleThree_X8_tellsAhead : GoodIn wsX8_ruleThree (wsV RX8 147 RX8 yX8_tellsAhead wsX8_tellsAhead) := goodIn_app (goodIn_of _ (by decide +kernel)) ggX8_ruleThree_X8_tellsAhead
theorem dX8_ruleThree_0 : decode cX8_ruleThree 0 = .ok (.aload_n 0, 1) := by decide +kernel
theorem dX8_ruleThree_1 : decode cX8_ruleThree 1 = .ok (.iload_n 1, 1) := by decide +kernel
theorem dX8_ruleThree_2 : decode cX8_ruleThree 2 = .ok (.iload_n 2, 1) := by decide +kernel
theorem dX8_ruleThree_3 : decode cX8_ruleThree 3 = .ok (.invokevirtual 144, 3) := by decide +kernel
theorem dX8_ruleThree_6 : decode cX8_ruleThree 6 = .ok (.ifCond .eq 35, 3) := by decide +kernel
theorem dX8_ruleThree_9 : decode cX8_ruleThree 9 = .ok (.iconst 0, 1) := by decide +kernel
theorem dX8_ruleThree_10 : decode cX8_ruleThree 10 = .ok (.istore_n 3, 1) := by decide +kernel
theorem dX8_ruleThree_11 : decode cX8_ruleThree 11 = .ok (.iload_n 3, 1) := by decide +kernel
theorem dX8_ruleThree_12 : decode cX8_ruleThree 12 = .ok (.aload_n 0, 1) := by decide +kernel
theorem dX8_ruleThree_13 : decode cX8_ruleThree 13 = .ok (.getfield 78, 3) := by decide +kernel
theorem dX8_ruleThree_16 : decode cX8_ruleThree 16 = .ok (.if_icmp .ge 25, 3) := by decide +kernel
theorem dX8_ruleThree_19 : decode cX8_ruleThree 19 = .ok (.iload_n 2, 1) := by decide +kernel
theorem dX8_ruleThree_20 : decode cX8_ruleThree 20 = .ok (.iload_n 3, 1) := by decide +kernel
theorem dX8_ruleThree_21 : decode cX8_ruleThree 21 = .ok (.invokestatic 102, 3) := by decide +kernel
theorem dX8_ruleThree_24 : decode cX8_ruleThree 24 = .ok (.ifCond .eq 11, 3) := by decide +kernel
theorem dX8_ruleThree_27 : decode cX8_ruleThree 27 = .ok (.aload_n 0, 1) := by decide +kernel
theorem dX8_ruleThree_28 : decode cX8_ruleThree 28 = .ok (.iload_n 3, 1) := by decide +kernel
theorem dX8_ruleThree_29 : decode cX8_ruleThree 29 = .ok (.iconst 1, 1) := by decide +kernel
theorem dX8_ruleThree_30 : decode cX8_ruleThree 30 = .ok (.iload_n 1, 1) := by decide +kernel
theorem dX8_ruleThree_31 : decode cX8_ruleThree 31 = .ok (.ishl, 1) := by decide +kernel
theorem dX8_ruleThree_32 : decode cX8_ruleThree 32 = .ok (.invokevirtual 137, 3) := by decide +kernel
theorem dX8_ruleThree_35 : decode cX8_ruleThree 35 = .ok (.iinc 3 1, 3) := by decide +kernel
theorem dX8_ruleThree_38 : decode cX8_ruleThree 38 = .ok (.goto (-27), 3) := by decide +kernel
theorem dX8_ruleThree_41 : decode cX8_ruleThree 41 = .ok (.aload_n 0, 1) := by decide +kernel
theorem dX8_ruleThree_42 : decode cX8_ruleThree 42 = .ok (.iload_n 1, 1) := by decide +kernel
theorem dX8_ruleThree_43 : decode cX8_ruleThree 43 = .ok (.iload_n 2, 1) := by decide +kernel
theorem dX8_ruleThree_44 : decode cX8_ruleThree 44 = .ok (.invokevirtual 147, 3) := by decide +kernel
theorem dX8_ruleThree_47 : decode cX8_ruleThree 47 = .ok (.ifCond .eq 9, 3) := by decide +kernel
theorem dX8_ruleThree_50 : decode cX8_ruleThree 50 = .ok (.aload_n 0, 1) := by decide +kernel
theorem dX8_ruleThree_51 : decode cX8_ruleThree 51 = .ok (.iload_n 1, 1) := by decide +kernel
theorem dX8_ruleThree_52 : decode cX8_ruleThree 52 = .ok (.iload_n 2, 1) := by decide +kernel
theorem dX8_ruleThree_53 : decode cX8_ruleThree 53 = .ok (.invokevirtual 137, 3) := by decide +kernel
theorem dX8_ruleThree_56 : decode cX8_ruleThree 56 = .ok (.return_, 1) := by decide +kernel
set_option maxRecDepth 20000 in
theorem ggX8_aheadOf_X8_has : GoodIn wsX8_aheadOf wsX8_has := goodIn_r _ [6] (by decide +kernel) (by decide +kernel)
set_option maxRecDepth 20000 in
theorem gX8_aheadOf_X8_has : GoodIn wsX8_aheadOf (va_wsS RX8 102 yX8_has wsX8_has) := goodIn_app (goodIn_of _ (by decide +kernel)) ggX8_aheadOf_X8_has
theorem dX8_aheadOf_0 : decode cX8_aheadOf 0 = .ok (.iconst 0, 1) := by decide +kernel
theorem dX8_aheadOf_1 : decode cX8_aheadOf 1 = .ok (.istore_n 2, 1) := by decide +kernel
theorem dX8_aheadOf_2 : decode cX8_aheadOf 2 = .ok (.iconst 0, 1) := by decide +kernel
theorem dX8_aheadOf_3 : decode cX8_aheadOf 3 = .ok (.istore_n 3, 1) := by decide +kernel
theorem dX8_aheadOf_4 : decode cX8_aheadOf 4 = .ok (.iload_n 3, 1) := by decide +kernel
theorem dX8_aheadOf_5 : decode cX8_aheadOf 5 = .ok (.aload_n 0, 1) := by decide +kernel
theorem dX8_aheadOf_6 : decode cX8_aheadOf 6 = .ok (.getfield 78, 3) := by decide +kernel
theorem dX8_aheadOf_9 : decode cX8_aheadOf 9 = .ok (.if_icmp .ge 32, 3) := by decide +kernel
theorem dX8_aheadOf_12 : decode cX8_aheadOf 12 = .ok (.iload_n 2, 1) := by decide +kernel
theorem dX8_aheadOf_13 : decode cX8_aheadOf 13 = .ok (.aload_n 0, 1) := by decide +kernel
theorem dX8_aheadOf_14 : decode cX8_aheadOf 14 = .ok (.getfield 41, 3) := by decide +kernel
theorem dX8_aheadOf_17 : decode cX8_aheadOf 17 = .ok (.iload_n 3, 1) := by decide +kernel
theorem dX8_aheadOf_18 : decode cX8_aheadOf 18 = .ok (.iaload, 1) := by decide +kernel
theorem dX8_aheadOf_19 : decode cX8_aheadOf 19 = .ok (.iload_n 1, 1) := by decide +kernel
theorem dX8_aheadOf_20 : decode cX8_aheadOf 20 = .ok (.invokestatic 102, 3) := by decide +kernel
theorem dX8_aheadOf_23 : decode cX8_aheadOf 23 = .ok (.ifCond .eq 9, 3) := by decide +kernel
theorem dX8_aheadOf_26 : decode cX8_aheadOf 26 = .ok (.iconst 1, 1) := by decide +kernel
theorem dX8_aheadOf_27 : decode cX8_aheadOf 27 = .ok (.iload_n 3, 1) := by decide +kernel
theorem dX8_aheadOf_28 : decode cX8_aheadOf 28 = .ok (.ishl, 1) := by decide +kernel
theorem dX8_aheadOf_29 : decode cX8_aheadOf 29 = .ok (.goto 4, 3) := by decide +kernel
theorem dX8_aheadOf_32 : decode cX8_aheadOf 32 = .ok (.iconst 0, 1) := by decide +kernel
theorem dX8_aheadOf_33 : decode cX8_aheadOf 33 = .ok (.ior, 1) := by decide +kernel
theorem dX8_aheadOf_34 : decode cX8_aheadOf 34 = .ok (.istore_n 2, 1) := by decide +kernel
theorem dX8_aheadOf_35 : decode cX8_aheadOf 35 = .ok (.iinc 3 1, 3) := by decide +kernel
theorem dX8_aheadOf_38 : decode cX8_aheadOf 38 = .ok (.goto (-34), 3) := by decide +kernel
theorem dX8_aheadOf_41 : decode cX8_aheadOf 41 = .ok (.iload_n 2, 1) := by decide +kernel
theorem dX8_aheadOf_42 : decode cX8_aheadOf 42 = .ok (.ireturn, 1) := by decide +kernel
theorem dX8_ruleFour_0 : decode cX8_ruleFour 0 = .ok (.aload_n 0, 1) := by decide +kernel
theorem dX8_ruleFour_1 : decode cX8_ruleFour 1 = .ok (.getfield 53, 3) := by decide +kernel
theorem dX8_ruleFour_4 : decode cX8_ruleFour 4 = .ok (.iload_n 2, 1) := by decide +kernel
theorem dX8_ruleFour_5 : decode cX8_ruleFour 5 = .ok (.baload, 1) := by decide +kernel
theorem dX8_ruleFour_6 : decode cX8_ruleFour 6 = .ok (.ifCond .ne 4, 3) := by decide +kernel
theorem dX8_ruleFour_9 : decode cX8_ruleFour 9 = .ok (.return_, 1) := by decide +kernel
theorem dX8_ruleFour_10 : decode cX8_ruleFour 10 = .ok (.aload_n 0, 1) := by decide +kernel
theorem dX8_ruleFour_11 : decode cX8_ruleFour 11 = .ok (.getfield 44, 3) := by decide +kernel
theorem dX8_ruleFour_14 : decode cX8_ruleFour 14 = .ok (.iload_n 2, 1) := by decide +kernel
theorem dX8_ruleFour_15 : decode cX8_ruleFour 15 = .ok (.iaload, 1) := by decide +kernel
theorem dX8_ruleFour_16 : decode cX8_ruleFour 16 = .ok (.aload_n 0, 1) := by decide +kernel
theorem dX8_ruleFour_17 : decode cX8_ruleFour 17 = .ok (.getfield 50, 3) := by decide +kernel
theorem dX8_ruleFour_20 : decode cX8_ruleFour 20 = .ok (.iload_n 2, 1) := by decide +kernel
theorem dX8_ruleFour_21 : decode cX8_ruleFour 21 = .ok (.iaload, 1) := by decide +kernel
theorem dX8_ruleFour_22 : decode cX8_ruleFour 22 = .ok (.iadd, 1) := by decide +kernel
theorem dX8_ruleFour_23 : decode cX8_ruleFour 23 = .ok (.istore 4, 2) := by decide +kernel
theorem dX8_ruleFour_25 : decode cX8_ruleFour 25 = .ok (.iload_n 2, 1) := by decide +kernel
theorem dX8_ruleFour_26 : decode cX8_ruleFour 26 = .ok (.iload_n 3, 1) := by decide +kernel
theorem dX8_ruleFour_27 : decode cX8_ruleFour 27 = .ok (.iconst (-1), 1) := by decide +kernel
theorem dX8_ruleFour_28 : decode cX8_ruleFour 28 = .ok (.ixor, 1) := by decide +kernel
theorem dX8_ruleFour_29 : decode cX8_ruleFour 29 = .ok (.iand, 1) := by decide +kernel
theorem dX8_ruleFour_30 : decode cX8_ruleFour 30 = .ok (.ifCond .ne 27, 3) := by decide +kernel
theorem dX8_ruleFour_33 : decode cX8_ruleFour 33 = .ok (.iload 4, 2) := by decide +kernel
theorem dX8_ruleFour_35 : decode cX8_ruleFour 35 = .ok (.aload_n 0, 1) := by decide +kernel
theorem dX8_ruleFour_36 : decode cX8_ruleFour 36 = .ok (.getfield 35, 3) := by decide +kernel
theorem dX8_ruleFour_39 : decode cX8_ruleFour 39 = .ok (.iload_n 1, 1) := by decide +kernel
theorem dX8_ruleFour_40 : decode cX8_ruleFour 40 = .ok (.iaload, 1) := by decide +kernel
theorem dX8_ruleFour_41 : decode cX8_ruleFour 41 = .ok (.if_icmp .le 16, 3) := by decide +kernel
theorem dX8_ruleFour_44 : decode cX8_ruleFour 44 = .ok (.aload_n 0, 1) := by decide +kernel
theorem dX8_ruleFour_45 : decode cX8_ruleFour 45 = .ok (.getfield 35, 3) := by decide +kernel
theorem dX8_ruleFour_48 : decode cX8_ruleFour 48 = .ok (.iload_n 1, 1) := by decide +kernel
theorem dX8_ruleFour_49 : decode cX8_ruleFour 49 = .ok (.iload 4, 2) := by decide +kernel
theorem dX8_ruleFour_51 : decode cX8_ruleFour 51 = .ok (.iastore, 1) := by decide +kernel
theorem dX8_ruleFour_52 : decode cX8_ruleFour 52 = .ok (.aload_n 0, 1) := by decide +kernel
theorem dX8_ruleFour_53 : decode cX8_ruleFour 53 = .ok (.iconst 1, 1) := by decide +kernel
theorem dX8_ruleFour_54 : decode cX8_ruleFour 54 = .ok (.putfield 133, 3) := by decide +kernel
theorem dX8_ruleFour_57 : decode cX8_ruleFour 57 = .ok (.aload_n 0, 1) := by decide +kernel
theorem dX8_ruleFour_58 : decode cX8_ruleFour 58 = .ok (.getfield 47, 3) := by decide +kernel
theorem dX8_ruleFour_61 : decode cX8_ruleFour 61 = .ok (.iload_n 2, 1) := by decide +kernel
theorem dX8_ruleFour_62 : decode cX8_ruleFour 62 = .ok (.iaload, 1) := by decide +kernel
theorem dX8_ruleFour_63 : decode cX8_ruleFour 63 = .ok (.aload_n 0, 1) := by decide +kernel
theorem dX8_ruleFour_64 : decode cX8_ruleFour 64 = .ok (.getfield 50, 3) := by decide +kernel
theorem dX8_ruleFour_67 : decode cX8_ruleFour 67 = .ok (.iload_n 2, 1) := by decide +kernel
theorem dX8_ruleFour_68 : decode cX8_ruleFour 68 = .ok (.iaload, 1) := by decide +kernel
theorem dX8_ruleFour_69 : decode cX8_ruleFour 69 = .ok (.isub, 1) := by decide +kernel
theorem dX8_ruleFour_70 : decode cX8_ruleFour 70 = .ok (.istore 5, 2) := by decide +kernel
theorem dX8_ruleFour_72 : decode cX8_ruleFour 72 = .ok (.iload_n 2, 1) := by decide +kernel
theorem dX8_ruleFour_73 : decode cX8_ruleFour 73 = .ok (.aload_n 0, 1) := by decide +kernel
theorem dX8_ruleFour_74 : decode cX8_ruleFour 74 = .ok (.getfield 41, 3) := by decide +kernel
theorem dX8_ruleFour_77 : decode cX8_ruleFour 77 = .ok (.iload_n 1, 1) := by decide +kernel
theorem dX8_ruleFour_78 : decode cX8_ruleFour 78 = .ok (.iaload, 1) := by decide +kernel
theorem dX8_ruleFour_79 : decode cX8_ruleFour 79 = .ok (.iconst (-1), 1) := by decide +kernel
theorem dX8_ruleFour_80 : decode cX8_ruleFour 80 = .ok (.ixor, 1) := by decide +kernel
theorem dX8_ruleFour_81 : decode cX8_ruleFour 81 = .ok (.iand, 1) := by decide +kernel
theorem dX8_ruleFour_82 : decode cX8_ruleFour 82 = .ok (.ifCond .ne 27, 3) := by decide +kernel
theorem dX8_ruleFour_85 : decode cX8_ruleFour 85 = .ok (.iload 5, 2) := by decide +kernel
theorem dX8_ruleFour_87 : decode cX8_ruleFour 87 = .ok (.aload_n 0, 1) := by decide +kernel
theorem dX8_ruleFour_88 : decode cX8_ruleFour 88 = .ok (.getfield 38, 3) := by decide +kernel
theorem dX8_ruleFour_91 : decode cX8_ruleFour 91 = .ok (.iload_n 1, 1) := by decide +kernel
theorem dX8_ruleFour_92 : decode cX8_ruleFour 92 = .ok (.iaload, 1) := by decide +kernel
theorem dX8_ruleFour_93 : decode cX8_ruleFour 93 = .ok (.if_icmp .ge 16, 3) := by decide +kernel
theorem dX8_ruleFour_96 : decode cX8_ruleFour 96 = .ok (.aload_n 0, 1) := by decide +kernel
theorem dX8_ruleFour_97 : decode cX8_ruleFour 97 = .ok (.getfield 38, 3) := by decide +kernel
theorem dX8_ruleFour_100 : decode cX8_ruleFour 100 = .ok (.iload_n 1, 1) := by decide +kernel
theorem dX8_ruleFour_101 : decode cX8_ruleFour 101 = .ok (.iload 5, 2) := by decide +kernel
theorem dX8_ruleFour_103 : decode cX8_ruleFour 103 = .ok (.iastore, 1) := by decide +kernel
theorem dX8_ruleFour_104 : decode cX8_ruleFour 104 = .ok (.aload_n 0, 1) := by decide +kernel
theorem dX8_ruleFour_105 : decode cX8_ruleFour 105 = .ok (.iconst 1, 1) := by decide +kernel
theorem dX8_ruleFour_106 : decode cX8_ruleFour 106 = .ok (.putfield 133, 3) := by decide +kernel
theorem dX8_ruleFour_109 : decode cX8_ruleFour 109 = .ok (.return_, 1) := by decide +kernel
set_option maxRecDepth 20000 in
theorem ggX8_reason_X8_reckonSets : GoodIn wsX8_reason wsX8_reckonSets := goodIn_r _ [13, 1, 14, 15, 2, 4, 16, 17, 18, 19, 20, 21, 22, 23, 12, 24, 61, 62, 63, 64, 65, 66, 67, 68, 69, 70, 71, 72, 73, 74, 75, 76, 77, 78, 79, 80, 81, 82, 83, 84, 85, 86, 87, 88, 89, 90] (by decide +kernel) (by decide +kernel)
set_option maxRecDepth 20000 in
theorem gX8_reason_X8_reckonSets : GoodIn wsX8_reason (wsV RX8 150 RX8 yX8_reckonSets wsX8_reckonSets) := goodIn_app (goodIn_of _ (by decide +kernel)) ggX8_reason_X8_reckonSets
set_option maxRecDepth 20000 in
theorem ggX8_reason_X8_isContradiction : GoodIn wsX8_reason wsX8_isContradiction := goodIn_r _ [28, 1, 21, 18, 20, 19, 6, 2, 16, 4, 22, 23, 12, 24, 61, 62, 63, 64, 65, 66, 67, 68, 69, 70, 71, 72, 73, 74, 75, 76, 77, 78, 79, 80, 81, 82, 83, 84, 85, 86, 87, 88, 89, 90] (by decide +kernel) (by decide +kernel)
set_option maxRecDepth 20000 in
theorem gX8_reason_X8_isContradiction : GoodIn wsX8_reason (wsV RX8 153 RX8 yX8_isContradiction wsX8_isContradiction) := goodIn_app (goodIn_of _ (by decide +kernel)) ggX8_reason_X8_isContradiction
set_option maxRecDepth 20000 in
theorem ggX8_reason_X8_rulesOneAndTwo : GoodIn wsX8_reason wsX8_rulesOneAndTwo := goodIn_r _ [32, 1, 6, 22, 23, 12, 24, 33, 34, 35, 36, 8, 37, 38, 39, 40, 17, 2, 16, 4, 61, 62, 63, 64, 65, 66, 67, 68, 69, 70, 71, 72, 73, 74, 75, 76, 77, 78, 79, 80, 81, 82, 83, 84, 85, 86, 87, 88, 89, 90] (by decide +kernel) (by decide +kernel)
set_option maxRecDepth 20000 in
theorem gX8_reason_X8_rulesOneAndTwo : GoodIn wsX8_reason (wsV RX8 157 RX8 yX8_rulesOneAndTwo wsX8_rulesOneAndTwo) := goodIn_app (goodIn_of _ (by decide +kernel)) ggX8_reason_X8_rulesOneAndTwo
set_option maxRecDepth 20000 in
theorem ggX8_reason_X8_aheadOf : GoodIn wsX8_reason wsX8_aheadOf := goodIn_r _ [44, 1, 6, 22, 23, 12, 24, 61, 62, 63, 64, 65, 66, 67, 68, 69, 70, 71, 72, 73, 74, 75, 76, 77, 78, 79, 80, 81, 82, 83, 84, 85, 86, 87, 88, 89, 90] (by decide +kernel) (by decide +kernel)
set_option maxRecDepth 20000 in
theorem gX8_reason_X8_aheadOf : GoodIn wsX8_reason (wsV RX8 160 RX8 yX8_aheadOf wsX8_aheadOf) := goodIn_app (goodIn_of _ (by decide +kernel)) ggX8_reason_X8_aheadOf
set_option maxRecDepth 20000 in
theorem ggX8_reason_X8_has : GoodIn wsX8_reason wsX8_has := goodIn_r _ [24] (by decide +kernel) (by decide +kernel)
set_option maxRecDepth 20000 in
theorem gX8_reason_X8_has : GoodIn wsX8_reason (va_wsS RX8 102 yX8_has wsX8_has) := goodIn_app (goodIn_of _ (by decide +kernel)) ggX8_reason_X8_has
set_option maxRecDepth 20000 in
theorem ggX8_reason_X8_ruleThree : GoodIn wsX8_reason wsX8_ruleThree := goodIn_r _ [48, 1, 49, 50, 51, 12, 52, 21, 18, 20, 19, 22, 23, 24, 33, 34, 35, 36, 8, 6, 53, 54, 55, 56, 61, 62, 63, 64, 65, 66, 67, 68, 69, 70, 71, 72, 73, 74, 75, 76, 77, 78, 79, 80, 81, 82, 83, 84, 85, 86, 87, 88, 89, 90] (by decide +kernel) (by decide +kernel)
set_option maxRecDepth 20000 in
theorem gX8_reason_X8_ruleThree : GoodIn wsX8_reason (wsV RX8 163 RX8 yX8_ruleThree wsX8_ruleThree) := goodIn_app (goodIn_of _ (by decide +kernel)) ggX8_reason_X8_ruleThree
set_option maxRecDepth 20000 in
theorem ggX8_reason_X8_ruleFour : GoodIn wsX8_reason wsX8_ruleFour := goodIn_r _ [60, 21, 18, 20, 2, 8, 19, 6, 4, 61, 62, 63, 64, 65, 66, 67, 68, 69, 70, 71, 72, 73, 74, 75, 76, 77, 78, 79, 80, 81, 82, 83, 84, 85, 86, 87, 88, 89, 90] (by decide +kernel) (by decide +kernel)
set_option maxRecDepth 20000 in
theorem gX8_reason_X8_ruleFour : GoodIn wsX8_reason (wsV RX8 166 RX8 yX8_ruleFour wsX8_ruleFour) := goodIn_app (goodIn_of _ (by decide +kernel)) ggX8_reason_X8_ruleFour
theorem dX8_reason_0 : decode cX8_reason 0 = .ok (.iconst 0, 1) := by decide +kernel
theorem dX8_reason_1 : decode cX8_reason 1 = .ok (.istore_n 1, 1) := by decide +kernel
theorem dX8_reason_2 : decode cX8_reason 2 = .ok (.iload_n 1, 1) := by decide +kernel
theorem dX8_reason_3 : decode cX8_reason 3 = .ok (.aload_n 0, 1) := by decide +kernel
theorem dX8_reason_4 : decode cX8_reason 4 = .ok (.getfield 78, 3) := by decide +kernel
theorem dX8_reason_7 : decode cX8_reason 7 = .ok (.if_icmp .ge 45, 3) := by decide +kernel
theorem dX8_reason_10 : decode cX8_reason 10 = .ok (.aload_n 0, 1) := by decide +kernel
theorem dX8_reason_11 : decode cX8_reason 11 = .ok (.getfield 35, 3) := by decide +kernel
theorem dX8_reason_14 : decode cX8_reason 14 = .ok (.iload_n 1, 1) := by decide +kernel
theorem dX8_reason_15 : decode cX8_reason 15 = .ok (.aload_n 0, 1) := by decide +kernel
theorem dX8_reason_16 : decode cX8_reason 16 = .ok (.getfield 17, 3) := by decide +kernel
theorem dX8_reason_19 : decode cX8_reason 19 = .ok (.iload_n 1, 1) := by decide +kernel
theorem dX8_reason_20 : decode cX8_reason 20 = .ok (.iaload, 1) := by decide +kernel
theorem dX8_reason_21 : decode cX8_reason 21 = .ok (.iastore, 1) := by decide +kernel
theorem dX8_reason_22 : decode cX8_reason 22 = .ok (.aload_n 0, 1) := by decide +kernel
theorem dX8_reason_23 : decode cX8_reason 23 = .ok (.getfield 38, 3) := by decide +kernel
theorem dX8_reason_26 : decode cX8_reason 26 = .ok (.iload_n 1, 1) := by decide +kernel
theorem dX8_reason_27 : decode cX8_reason 27 = .ok (.aload_n 0, 1) := by decide +kernel
theorem dX8_reason_28 : decode cX8_reason 28 = .ok (.getfield 20, 3) := by decide +kernel
theorem dX8_reason_31 : decode cX8_reason 31 = .ok (.iload_n 1, 1) := by decide +kernel
theorem dX8_reason_32 : decode cX8_reason 32 = .ok (.iaload, 1) := by decide +kernel
theorem dX8_reason_33 : decode cX8_reason 33 = .ok (.iastore, 1) := by decide +kernel
theorem dX8_reason_34 : decode cX8_reason 34 = .ok (.aload_n 0, 1) := by decide +kernel
theorem dX8_reason_35 : decode cX8_reason 35 = .ok (.getfield 41, 3) := by decide +kernel
theorem dX8_reason_38 : decode cX8_reason 38 = .ok (.iload_n 1, 1) := by decide +kernel
theorem dX8_reason_39 : decode cX8_reason 39 = .ok (.aload_n 0, 1) := by decide +kernel
theorem dX8_reason_40 : decode cX8_reason 40 = .ok (.getfield 26, 3) := by decide +kernel
theorem dX8_reason_43 : decode cX8_reason 43 = .ok (.iload_n 1, 1) := by decide +kernel
theorem dX8_reason_44 : decode cX8_reason 44 = .ok (.iaload, 1) := by decide +kernel
theorem dX8_reason_45 : decode cX8_reason 45 = .ok (.iastore, 1) := by decide +kernel
theorem dX8_reason_46 : decode cX8_reason 46 = .ok (.iinc 1 1, 3) := by decide +kernel
theorem dX8_reason_49 : decode cX8_reason 49 = .ok (.goto (-47), 3) := by decide +kernel
theorem dX8_reason_52 : decode cX8_reason 52 = .ok (.aload_n 0, 1) := by decide +kernel
theorem dX8_reason_53 : decode cX8_reason 53 = .ok (.iconst 1, 1) := by decide +kernel
theorem dX8_reason_54 : decode cX8_reason 54 = .ok (.putfield 133, 3) := by decide +kernel
theorem dX8_reason_57 : decode cX8_reason 57 = .ok (.aload_n 0, 1) := by decide +kernel
theorem dX8_reason_58 : decode cX8_reason 58 = .ok (.invokevirtual 150, 3) := by decide +kernel
theorem dX8_reason_61 : decode cX8_reason 61 = .ok (.aload_n 0, 1) := by decide +kernel
theorem dX8_reason_62 : decode cX8_reason 62 = .ok (.invokevirtual 153, 3) := by decide +kernel
theorem dX8_reason_65 : decode cX8_reason 65 = .ok (.ifCond .ne 7, 3) := by decide +kernel
theorem dX8_reason_68 : decode cX8_reason 68 = .ok (.iconst 1, 1) := by decide +kernel
theorem dX8_reason_69 : decode cX8_reason 69 = .ok (.goto 4, 3) := by decide +kernel
theorem dX8_reason_72 : decode cX8_reason 72 = .ok (.iconst 0, 1) := by decide +kernel
theorem dX8_reason_73 : decode cX8_reason 73 = .ok (.istore_n 1, 1) := by decide +kernel
theorem dX8_reason_74 : decode cX8_reason 74 = .ok (.aload_n 0, 1) := by decide +kernel
theorem dX8_reason_75 : decode cX8_reason 75 = .ok (.getfield 133, 3) := by decide +kernel
theorem dX8_reason_78 : decode cX8_reason 78 = .ok (.ifCond .eq 102, 3) := by decide +kernel
theorem dX8_reason_81 : decode cX8_reason 81 = .ok (.iload_n 1, 1) := by decide +kernel
theorem dX8_reason_82 : decode cX8_reason 82 = .ok (.ifCond .eq 98, 3) := by decide +kernel
theorem dX8_reason_85 : decode cX8_reason 85 = .ok (.aload_n 0, 1) := by decide +kernel
theorem dX8_reason_86 : decode cX8_reason 86 = .ok (.iconst 0, 1) := by decide +kernel
theorem dX8_reason_87 : decode cX8_reason 87 = .ok (.putfield 133, 3) := by decide +kernel
theorem dX8_reason_90 : decode cX8_reason 90 = .ok (.aload_n 0, 1) := by decide +kernel
theorem dX8_reason_91 : decode cX8_reason 91 = .ok (.invokevirtual 157, 3) := by decide +kernel
theorem dX8_reason_94 : decode cX8_reason 94 = .ok (.iconst 0, 1) := by decide +kernel
theorem dX8_reason_95 : decode cX8_reason 95 = .ok (.istore_n 2, 1) := by decide +kernel
theorem dX8_reason_96 : decode cX8_reason 96 = .ok (.iload_n 2, 1) := by decide +kernel
theorem dX8_reason_97 : decode cX8_reason 97 = .ok (.aload_n 0, 1) := by decide +kernel
theorem dX8_reason_98 : decode cX8_reason 98 = .ok (.getfield 78, 3) := by decide +kernel
theorem dX8_reason_101 : decode cX8_reason 101 = .ok (.if_icmp .ge 59, 3) := by decide +kernel
theorem dX8_reason_104 : decode cX8_reason 104 = .ok (.aload_n 0, 1) := by decide +kernel
theorem dX8_reason_105 : decode cX8_reason 105 = .ok (.iload_n 2, 1) := by decide +kernel
theorem dX8_reason_106 : decode cX8_reason 106 = .ok (.invokevirtual 160, 3) := by decide +kernel
theorem dX8_reason_109 : decode cX8_reason 109 = .ok (.istore_n 3, 1) := by decide +kernel
theorem dX8_reason_110 : decode cX8_reason 110 = .ok (.iconst 1, 1) := by decide +kernel
theorem dX8_reason_111 : decode cX8_reason 111 = .ok (.istore 4, 2) := by decide +kernel
theorem dX8_reason_113 : decode cX8_reason 113 = .ok (.iload 4, 2) := by decide +kernel
theorem dX8_reason_115 : decode cX8_reason 115 = .ok (.iconst 1, 1) := by decide +kernel
theorem dX8_reason_116 : decode cX8_reason 116 = .ok (.aload_n 0, 1) := by decide +kernel
theorem dX8_reason_117 : decode cX8_reason 117 = .ok (.getfield 78, 3) := by decide +kernel
theorem dX8_reason_120 : decode cX8_reason 120 = .ok (.ishl, 1) := by decide +kernel
theorem dX8_reason_121 : decode cX8_reason 121 = .ok (.if_icmp .ge 33, 3) := by decide +kernel
theorem dX8_reason_124 : decode cX8_reason 124 = .ok (.iload 4, 2) := by decide +kernel
theorem dX8_reason_126 : decode cX8_reason 126 = .ok (.iload_n 2, 1) := by decide +kernel
theorem dX8_reason_127 : decode cX8_reason 127 = .ok (.invokestatic 102, 3) := by decide +kernel
theorem dX8_reason_130 : decode cX8_reason 130 = .ok (.ifCond .ne 10, 3) := by decide +kernel
theorem dX8_reason_133 : decode cX8_reason 133 = .ok (.aload_n 0, 1) := by decide +kernel
theorem dX8_reason_134 : decode cX8_reason 134 = .ok (.iload_n 2, 1) := by decide +kernel
theorem dX8_reason_135 : decode cX8_reason 135 = .ok (.iload 4, 2) := by decide +kernel
theorem dX8_reason_137 : decode cX8_reason 137 = .ok (.invokevirtual 163, 3) := by decide +kernel
theorem dX8_reason_140 : decode cX8_reason 140 = .ok (.aload_n 0, 1) := by decide +kernel
theorem dX8_reason_141 : decode cX8_reason 141 = .ok (.iload_n 2, 1) := by decide +kernel
theorem dX8_reason_142 : decode cX8_reason 142 = .ok (.iload 4, 2) := by decide +kernel
theorem dX8_reason_144 : decode cX8_reason 144 = .ok (.iload_n 3, 1) := by decide +kernel
theorem dX8_reason_145 : decode cX8_reason 145 = .ok (.invokevirtual 166, 3) := by decide +kernel
theorem dX8_reason_148 : decode cX8_reason 148 = .ok (.iinc 4 1, 3) := by decide +kernel
theorem dX8_reason_151 : decode cX8_reason 151 = .ok (.goto (-38), 3) := by decide +kernel
theorem dX8_reason_154 : decode cX8_reason 154 = .ok (.iinc 2 1, 3) := by decide +kernel
theorem dX8_reason_157 : decode cX8_reason 157 = .ok (.goto (-61), 3) := by decide +kernel
theorem dX8_reason_160 : decode cX8_reason 160 = .ok (.aload_n 0, 1) := by decide +kernel
theorem dX8_reason_161 : decode cX8_reason 161 = .ok (.invokevirtual 150, 3) := by decide +kernel
theorem dX8_reason_164 : decode cX8_reason 164 = .ok (.aload_n 0, 1) := by decide +kernel
theorem dX8_reason_165 : decode cX8_reason 165 = .ok (.invokevirtual 153, 3) := by decide +kernel
theorem dX8_reason_168 : decode cX8_reason 168 = .ok (.ifCond .ne 7, 3) := by decide +kernel
theorem dX8_reason_171 : decode cX8_reason 171 = .ok (.iconst 1, 1) := by decide +kernel
theorem dX8_reason_172 : decode cX8_reason 172 = .ok (.goto 4, 3) := by decide +kernel
theorem dX8_reason_175 : decode cX8_reason 175 = .ok (.iconst 0, 1) := by decide +kernel
theorem dX8_reason_176 : decode cX8_reason 176 = .ok (.istore_n 1, 1) := by decide +kernel
theorem dX8_reason_177 : decode cX8_reason 177 = .ok (.goto (-103), 3) := by decide +kernel
theorem dX8_reason_180 : decode cX8_reason 180 = .ok (.iload_n 1, 1) := by decide +kernel
theorem dX8_reason_181 : decode cX8_reason 181 = .ok (.ireturn, 1) := by decide +kernel
theorem dX8_pairsOnOne_0 : decode cX8_pairsOnOne 0 = .ok (.iconst 0, 1) := by decide +kernel
theorem dX8_pairsOnOne_1 : decode cX8_pairsOnOne 1 = .ok (.istore_n 1, 1) := by decide +kernel
theorem dX8_pairsOnOne_2 : decode cX8_pairsOnOne 2 = .ok (.iconst 0, 1) := by decide +kernel
theorem dX8_pairsOnOne_3 : decode cX8_pairsOnOne 3 = .ok (.istore_n 2, 1) := by decide +kernel
theorem dX8_pairsOnOne_4 : decode cX8_pairsOnOne 4 = .ok (.iload_n 2, 1) := by decide +kernel
theorem dX8_pairsOnOne_5 : decode cX8_pairsOnOne 5 = .ok (.aload_n 0, 1) := by decide +kernel
theorem dX8_pairsOnOne_6 : decode cX8_pairsOnOne 6 = .ok (.getfield 78, 3) := by decide +kernel
theorem dX8_pairsOnOne_9 : decode cX8_pairsOnOne 9 = .ok (.if_icmp .ge 45, 3) := by decide +kernel
theorem dX8_pairsOnOne_12 : decode cX8_pairsOnOne 12 = .ok (.iconst 0, 1) := by decide +kernel
theorem dX8_pairsOnOne_13 : decode cX8_pairsOnOne 13 = .ok (.istore_n 3, 1) := by decide +kernel
theorem dX8_pairsOnOne_14 : decode cX8_pairsOnOne 14 = .ok (.iload_n 3, 1) := by decide +kernel
theorem dX8_pairsOnOne_15 : decode cX8_pairsOnOne 15 = .ok (.iload_n 2, 1) := by decide +kernel
theorem dX8_pairsOnOne_16 : decode cX8_pairsOnOne 16 = .ok (.if_icmp .ge 32, 3) := by decide +kernel
theorem dX8_pairsOnOne_19 : decode cX8_pairsOnOne 19 = .ok (.iload_n 1, 1) := by decide +kernel
theorem dX8_pairsOnOne_20 : decode cX8_pairsOnOne 20 = .ok (.aload_n 0, 1) := by decide +kernel
theorem dX8_pairsOnOne_21 : decode cX8_pairsOnOne 21 = .ok (.getfield 13, 3) := by decide +kernel
theorem dX8_pairsOnOne_24 : decode cX8_pairsOnOne 24 = .ok (.iload_n 2, 1) := by decide +kernel
theorem dX8_pairsOnOne_25 : decode cX8_pairsOnOne 25 = .ok (.iaload, 1) := by decide +kernel
theorem dX8_pairsOnOne_26 : decode cX8_pairsOnOne 26 = .ok (.aload_n 0, 1) := by decide +kernel
theorem dX8_pairsOnOne_27 : decode cX8_pairsOnOne 27 = .ok (.getfield 13, 3) := by decide +kernel
theorem dX8_pairsOnOne_30 : decode cX8_pairsOnOne 30 = .ok (.iload_n 3, 1) := by decide +kernel
theorem dX8_pairsOnOne_31 : decode cX8_pairsOnOne 31 = .ok (.iaload, 1) := by decide +kernel
theorem dX8_pairsOnOne_32 : decode cX8_pairsOnOne 32 = .ok (.if_icmp .ne 7, 3) := by decide +kernel
theorem dX8_pairsOnOne_35 : decode cX8_pairsOnOne 35 = .ok (.iconst 1, 1) := by decide +kernel
theorem dX8_pairsOnOne_36 : decode cX8_pairsOnOne 36 = .ok (.goto 4, 3) := by decide +kernel
theorem dX8_pairsOnOne_39 : decode cX8_pairsOnOne 39 = .ok (.iconst 0, 1) := by decide +kernel
theorem dX8_pairsOnOne_40 : decode cX8_pairsOnOne 40 = .ok (.iadd, 1) := by decide +kernel
theorem dX8_pairsOnOne_41 : decode cX8_pairsOnOne 41 = .ok (.istore_n 1, 1) := by decide +kernel
theorem dX8_pairsOnOne_42 : decode cX8_pairsOnOne 42 = .ok (.iinc 3 1, 3) := by decide +kernel
theorem dX8_pairsOnOne_45 : decode cX8_pairsOnOne 45 = .ok (.goto (-31), 3) := by decide +kernel
theorem dX8_pairsOnOne_48 : decode cX8_pairsOnOne 48 = .ok (.iinc 2 1, 3) := by decide +kernel
theorem dX8_pairsOnOne_51 : decode cX8_pairsOnOne 51 = .ok (.goto (-47), 3) := by decide +kernel
theorem dX8_pairsOnOne_54 : decode cX8_pairsOnOne 54 = .ok (.iload_n 1, 1) := by decide +kernel
theorem dX8_pairsOnOne_55 : decode cX8_pairsOnOne 55 = .ok (.ireturn, 1) := by decide +kernel
set_option maxRecDepth 20000 in
theorem ggX8_openPairs_X8_has : GoodIn wsX8_openPairs wsX8_has := goodIn_r _ [7] (by decide +kernel) (by decide +kernel)
set_option maxRecDepth 20000 in
theorem gX8_openPairs_X8_has : GoodIn wsX8_openPairs (va_wsS RX8 102 yX8_has wsX8_has) := goodIn_app (goodIn_of _ (by decide +kernel)) ggX8_openPairs_X8_has
theorem dX8_openPairs_0 : decode cX8_openPairs 0 = .ok (.iconst 0, 1) := by decide +kernel
theorem dX8_openPairs_1 : decode cX8_openPairs 1 = .ok (.istore_n 1, 1) := by decide +kernel
theorem dX8_openPairs_2 : decode cX8_openPairs 2 = .ok (.iconst 0, 1) := by decide +kernel
theorem dX8_openPairs_3 : decode cX8_openPairs 3 = .ok (.istore_n 2, 1) := by decide +kernel
theorem dX8_openPairs_4 : decode cX8_openPairs 4 = .ok (.iload_n 2, 1) := by decide +kernel
theorem dX8_openPairs_5 : decode cX8_openPairs 5 = .ok (.aload_n 0, 1) := by decide +kernel
theorem dX8_openPairs_6 : decode cX8_openPairs 6 = .ok (.getfield 78, 3) := by decide +kernel
theorem dX8_openPairs_9 : decode cX8_openPairs 9 = .ok (.if_icmp .ge 71, 3) := by decide +kernel
theorem dX8_openPairs_12 : decode cX8_openPairs 12 = .ok (.iconst 0, 1) := by decide +kernel
theorem dX8_openPairs_13 : decode cX8_openPairs 13 = .ok (.istore_n 3, 1) := by decide +kernel
theorem dX8_openPairs_14 : decode cX8_openPairs 14 = .ok (.iload_n 3, 1) := by decide +kernel
theorem dX8_openPairs_15 : decode cX8_openPairs 15 = .ok (.iload_n 2, 1) := by decide +kernel
theorem dX8_openPairs_16 : decode cX8_openPairs 16 = .ok (.if_icmp .ge 58, 3) := by decide +kernel
theorem dX8_openPairs_19 : decode cX8_openPairs 19 = .ok (.iload_n 1, 1) := by decide +kernel
theorem dX8_openPairs_20 : decode cX8_openPairs 20 = .ok (.aload_n 0, 1) := by decide +kernel
theorem dX8_openPairs_21 : decode cX8_openPairs 21 = .ok (.getfield 13, 3) := by decide +kernel
theorem dX8_openPairs_24 : decode cX8_openPairs 24 = .ok (.iload_n 2, 1) := by decide +kernel
theorem dX8_openPairs_25 : decode cX8_openPairs 25 = .ok (.iaload, 1) := by decide +kernel
theorem dX8_openPairs_26 : decode cX8_openPairs 26 = .ok (.aload_n 0, 1) := by decide +kernel
theorem dX8_openPairs_27 : decode cX8_openPairs 27 = .ok (.getfield 13, 3) := by decide +kernel
theorem dX8_openPairs_30 : decode cX8_openPairs 30 = .ok (.iload_n 3, 1) := by decide +kernel
theorem dX8_openPairs_31 : decode cX8_openPairs 31 = .ok (.iaload, 1) := by decide +kernel
theorem dX8_openPairs_32 : decode cX8_openPairs 32 = .ok (.if_icmp .ne 33, 3) := by decide +kernel
theorem dX8_openPairs_35 : decode cX8_openPairs 35 = .ok (.aload_n 0, 1) := by decide +kernel
theorem dX8_openPairs_36 : decode cX8_openPairs 36 = .ok (.getfield 41, 3) := by decide +kernel
theorem dX8_openPairs_39 : decode cX8_openPairs 39 = .ok (.iload_n 2, 1) := by decide +kernel
theorem dX8_openPairs_40 : decode cX8_openPairs 40 = .ok (.iaload, 1) := by decide +kernel
theorem dX8_openPairs_41 : decode cX8_openPairs 41 = .ok (.iload_n 3, 1) := by decide +kernel
theorem dX8_openPairs_42 : decode cX8_openPairs 42 = .ok (.invokestatic 102, 3) := by decide +kernel
theorem dX8_openPairs_45 : decode cX8_openPairs 45 = .ok (.ifCond .ne 20, 3) := by decide +kernel
theorem dX8_openPairs_48 : decode cX8_openPairs 48 = .ok (.aload_n 0, 1) := by decide +kernel
theorem dX8_openPairs_49 : decode cX8_openPairs 49 = .ok (.getfield 41, 3) := by decide +kernel
theorem dX8_openPairs_52 : decode cX8_openPairs 52 = .ok (.iload_n 3, 1) := by decide +kernel
theorem dX8_openPairs_53 : decode cX8_openPairs 53 = .ok (.iaload, 1) := by decide +kernel
theorem dX8_openPairs_54 : decode cX8_openPairs 54 = .ok (.iload_n 2, 1) := by decide +kernel
theorem dX8_openPairs_55 : decode cX8_openPairs 55 = .ok (.invokestatic 102, 3) := by decide +kernel
theorem dX8_openPairs_58 : decode cX8_openPairs 58 = .ok (.ifCond .ne 7, 3) := by decide +kernel
theorem dX8_openPairs_61 : decode cX8_openPairs 61 = .ok (.iconst 1, 1) := by decide +kernel
theorem dX8_openPairs_62 : decode cX8_openPairs 62 = .ok (.goto 4, 3) := by decide +kernel
theorem dX8_openPairs_65 : decode cX8_openPairs 65 = .ok (.iconst 0, 1) := by decide +kernel
theorem dX8_openPairs_66 : decode cX8_openPairs 66 = .ok (.iadd, 1) := by decide +kernel
theorem dX8_openPairs_67 : decode cX8_openPairs 67 = .ok (.istore_n 1, 1) := by decide +kernel
theorem dX8_openPairs_68 : decode cX8_openPairs 68 = .ok (.iinc 3 1, 3) := by decide +kernel
theorem dX8_openPairs_71 : decode cX8_openPairs 71 = .ok (.goto (-57), 3) := by decide +kernel
theorem dX8_openPairs_74 : decode cX8_openPairs 74 = .ok (.iinc 2 1, 3) := by decide +kernel
theorem dX8_openPairs_77 : decode cX8_openPairs 77 = .ok (.goto (-73), 3) := by decide +kernel
theorem dX8_openPairs_80 : decode cX8_openPairs 80 = .ok (.iload_n 1, 1) := by decide +kernel
theorem dX8_openPairs_81 : decode cX8_openPairs 81 = .ok (.ireturn, 1) := by decide +kernel
set_option maxRecDepth 20000 in
theorem ggX8_number_X8_givenMany : GoodIn wsX8_number wsX8_givenMany := goodIn_r _ [7, 2, 8, 9, 10, 6, 11, 81, 82, 83, 84, 85, 86, 87, 88, 89, 90, 91, 92, 93, 94, 95, 96, 97, 98, 99, 100, 101, 102, 103, 104, 105, 106, 107, 108, 109, 110] (by decide +kernel) (by decide +kernel)
set_option maxRecDepth 20000 in
theorem gX8_number_X8_givenMany : GoodIn wsX8_number (wsV RX8 121 RX8 yX8_givenMany wsX8_givenMany) := goodIn_app (goodIn_of _ (by decide +kernel)) ggX8_number_X8_givenMany
