theorem dX7_follow_96 : decode cX7_follow 96 = .ok (.bipush 112, 2) := by decide +kernel
theorem dX7_follow_98 : decode cX7_follow 98 = .ok (.if_icmp .ne 7, 3) := by decide +kernel
theorem dX7_follow_101 : decode cX7_follow 101 = .ok (.iconst 1, 1) := by decide +kernel
theorem dX7_follow_102 : decode cX7_follow 102 = .ok (.goto 4, 3) := by decide +kernel
theorem dX7_follow_105 : decode cX7_follow 105 = .ok (.iconst 0, 1) := by decide +kernel
theorem dX7_follow_106 : decode cX7_follow 106 = .ok (.istore_n 1, 1) := by decide +kernel
theorem dX7_follow_107 : decode cX7_follow 107 = .ok (.aload_n 0, 1) := by decide +kernel
theorem dX7_follow_108 : decode cX7_follow 108 = .ok (.getfield 12, 3) := by decide +kernel
theorem dX7_follow_111 : decode cX7_follow 111 = .ok (.aload_n 0, 1) := by decide +kernel
theorem dX7_follow_112 : decode cX7_follow 112 = .ok (.getfield 57, 3) := by decide +kernel
theorem dX7_follow_115 : decode cX7_follow 115 = .ok (.getfield 293, 3) := by decide +kernel
theorem dX7_follow_118 : decode cX7_follow 118 = .ok (.aload_n 0, 1) := by decide +kernel
theorem dX7_follow_119 : decode cX7_follow 119 = .ok (.getfield 57, 3) := by decide +kernel
theorem dX7_follow_122 : decode cX7_follow 122 = .ok (.getfield 296, 3) := by decide +kernel
theorem dX7_follow_125 : decode cX7_follow 125 = .ok (.iload_n 1, 1) := by decide +kernel
theorem dX7_follow_126 : decode cX7_follow 126 = .ok (.invokevirtual 113, 3) := by decide +kernel
theorem dX7_follow_129 : decode cX7_follow 129 = .ok (.ifCond .eq 5, 3) := by decide +kernel
theorem dX7_follow_132 : decode cX7_follow 132 = .ok (.iconst 0, 1) := by decide +kernel
theorem dX7_follow_133 : decode cX7_follow 133 = .ok (.ireturn, 1) := by decide +kernel
theorem dX7_follow_134 : decode cX7_follow 134 = .ok (.aload_n 0, 1) := by decide +kernel
theorem dX7_follow_135 : decode cX7_follow 135 = .ok (.getfield 12, 3) := by decide +kernel
theorem dX7_follow_138 : decode cX7_follow 138 = .ok (.aload_n 0, 1) := by decide +kernel
theorem dX7_follow_139 : decode cX7_follow 139 = .ok (.getfield 57, 3) := by decide +kernel
theorem dX7_follow_142 : decode cX7_follow 142 = .ok (.getfield 293, 3) := by decide +kernel
theorem dX7_follow_145 : decode cX7_follow 145 = .ok (.aload_n 0, 1) := by decide +kernel
theorem dX7_follow_146 : decode cX7_follow 146 = .ok (.getfield 57, 3) := by decide +kernel
theorem dX7_follow_149 : decode cX7_follow 149 = .ok (.getfield 296, 3) := by decide +kernel
theorem dX7_follow_152 : decode cX7_follow 152 = .ok (.iload_n 1, 1) := by decide +kernel
theorem dX7_follow_153 : decode cX7_follow 153 = .ok (.invokevirtual 117, 3) := by decide +kernel
theorem dX7_follow_156 : decode cX7_follow 156 = .ok (.iconst 1, 1) := by decide +kernel
theorem dX7_follow_157 : decode cX7_follow 157 = .ok (.ireturn, 1) := by decide +kernel
theorem dX7_contains_0 : decode cX7_contains 0 = .ok (.iload_n 0, 1) := by decide +kernel
theorem dX7_contains_1 : decode cX7_contains 1 = .ok (.iload_n 1, 1) := by decide +kernel
theorem dX7_contains_2 : decode cX7_contains 2 = .ok (.ishr, 1) := by decide +kernel
theorem dX7_contains_3 : decode cX7_contains 3 = .ok (.iconst 1, 1) := by decide +kernel
theorem dX7_contains_4 : decode cX7_contains 4 = .ok (.iand, 1) := by decide +kernel
theorem dX7_contains_5 : decode cX7_contains 5 = .ok (.ifCond .eq 7, 3) := by decide +kernel
theorem dX7_contains_8 : decode cX7_contains 8 = .ok (.iconst 1, 1) := by decide +kernel
theorem dX7_contains_9 : decode cX7_contains 9 = .ok (.goto 4, 3) := by decide +kernel
theorem dX7_contains_12 : decode cX7_contains 12 = .ok (.iconst 0, 1) := by decide +kernel
theorem dX7_contains_13 : decode cX7_contains 13 = .ok (.ireturn, 1) := by decide +kernel
theorem dX8_init_0 : decode cX8_init 0 = .ok (.aload_n 0, 1) := by decide +kernel
theorem dX8_init_1 : decode cX8_init 1 = .ok (.invokespecial 1, 3) := by decide +kernel
theorem dX8_init_4 : decode cX8_init 4 = .ok (.aload_n 0, 1) := by decide +kernel
theorem dX8_init_5 : decode cX8_init 5 = .ok (.iconst 1, 1) := by decide +kernel
theorem dX8_init_6 : decode cX8_init 6 = .ok (.putfield 7, 3) := by decide +kernel
theorem dX8_init_9 : decode cX8_init 9 = .ok (.aload_n 0, 1) := by decide +kernel
theorem dX8_init_10 : decode cX8_init 10 = .ok (.bipush 8, 2) := by decide +kernel
theorem dX8_init_12 : decode cX8_init 12 = .ok (.newarray .int, 2) := by decide +kernel
theorem dX8_init_14 : decode cX8_init 14 = .ok (.putfield 13, 3) := by decide +kernel
theorem dX8_init_17 : decode cX8_init 17 = .ok (.aload_n 0, 1) := by decide +kernel
theorem dX8_init_18 : decode cX8_init 18 = .ok (.bipush 8, 2) := by decide +kernel
theorem dX8_init_20 : decode cX8_init 20 = .ok (.newarray .int, 2) := by decide +kernel
theorem dX8_init_22 : decode cX8_init 22 = .ok (.putfield 17, 3) := by decide +kernel
theorem dX8_init_25 : decode cX8_init 25 = .ok (.aload_n 0, 1) := by decide +kernel
theorem dX8_init_26 : decode cX8_init 26 = .ok (.bipush 8, 2) := by decide +kernel
theorem dX8_init_28 : decode cX8_init 28 = .ok (.newarray .int, 2) := by decide +kernel
theorem dX8_init_30 : decode cX8_init 30 = .ok (.putfield 20, 3) := by decide +kernel
theorem dX8_init_33 : decode cX8_init 33 = .ok (.aload_n 0, 1) := by decide +kernel
theorem dX8_init_34 : decode cX8_init 34 = .ok (.bipush 8, 2) := by decide +kernel
theorem dX8_init_36 : decode cX8_init 36 = .ok (.newarray .int, 2) := by decide +kernel
theorem dX8_init_38 : decode cX8_init 38 = .ok (.putfield 23, 3) := by decide +kernel
theorem dX8_init_41 : decode cX8_init 41 = .ok (.aload_n 0, 1) := by decide +kernel
theorem dX8_init_42 : decode cX8_init 42 = .ok (.bipush 8, 2) := by decide +kernel
theorem dX8_init_44 : decode cX8_init 44 = .ok (.newarray .int, 2) := by decide +kernel
theorem dX8_init_46 : decode cX8_init 46 = .ok (.putfield 26, 3) := by decide +kernel
theorem dX8_init_49 : decode cX8_init 49 = .ok (.aload_n 0, 1) := by decide +kernel
theorem dX8_init_50 : decode cX8_init 50 = .ok (.sipush 168, 3) := by decide +kernel
theorem dX8_init_53 : decode cX8_init 53 = .ok (.newarray .int, 2) := by decide +kernel
theorem dX8_init_55 : decode cX8_init 55 = .ok (.putfield 29, 3) := by decide +kernel
theorem dX8_init_58 : decode cX8_init 58 = .ok (.aload_n 0, 1) := by decide +kernel
theorem dX8_init_59 : decode cX8_init 59 = .ok (.bipush 100, 2) := by decide +kernel
theorem dX8_init_61 : decode cX8_init 61 = .ok (.newarray .int, 2) := by decide +kernel
theorem dX8_init_63 : decode cX8_init 63 = .ok (.putfield 32, 3) := by decide +kernel
theorem dX8_init_66 : decode cX8_init 66 = .ok (.aload_n 0, 1) := by decide +kernel
theorem dX8_init_67 : decode cX8_init 67 = .ok (.bipush 8, 2) := by decide +kernel
theorem dX8_init_69 : decode cX8_init 69 = .ok (.newarray .int, 2) := by decide +kernel
theorem dX8_init_71 : decode cX8_init 71 = .ok (.putfield 35, 3) := by decide +kernel
theorem dX8_init_74 : decode cX8_init 74 = .ok (.aload_n 0, 1) := by decide +kernel
theorem dX8_init_75 : decode cX8_init 75 = .ok (.bipush 8, 2) := by decide +kernel
theorem dX8_init_77 : decode cX8_init 77 = .ok (.newarray .int, 2) := by decide +kernel
theorem dX8_init_79 : decode cX8_init 79 = .ok (.putfield 38, 3) := by decide +kernel
theorem dX8_init_82 : decode cX8_init 82 = .ok (.aload_n 0, 1) := by decide +kernel
theorem dX8_init_83 : decode cX8_init 83 = .ok (.bipush 8, 2) := by decide +kernel
theorem dX8_init_85 : decode cX8_init 85 = .ok (.newarray .int, 2) := by decide +kernel
theorem dX8_init_87 : decode cX8_init 87 = .ok (.putfield 41, 3) := by decide +kernel
theorem dX8_init_90 : decode cX8_init 90 = .ok (.aload_n 0, 1) := by decide +kernel
theorem dX8_init_91 : decode cX8_init 91 = .ok (.sipush 256, 3) := by decide +kernel
theorem dX8_init_94 : decode cX8_init 94 = .ok (.newarray .int, 2) := by decide +kernel
theorem dX8_init_96 : decode cX8_init 96 = .ok (.putfield 44, 3) := by decide +kernel
theorem dX8_init_99 : decode cX8_init 99 = .ok (.aload_n 0, 1) := by decide +kernel
theorem dX8_init_100 : decode cX8_init 100 = .ok (.sipush 256, 3) := by decide +kernel
theorem dX8_init_103 : decode cX8_init 103 = .ok (.newarray .int, 2) := by decide +kernel
theorem dX8_init_105 : decode cX8_init 105 = .ok (.putfield 47, 3) := by decide +kernel
theorem dX8_init_108 : decode cX8_init 108 = .ok (.aload_n 0, 1) := by decide +kernel
theorem dX8_init_109 : decode cX8_init 109 = .ok (.sipush 256, 3) := by decide +kernel
theorem dX8_init_112 : decode cX8_init 112 = .ok (.newarray .int, 2) := by decide +kernel
theorem dX8_init_114 : decode cX8_init 114 = .ok (.putfield 50, 3) := by decide +kernel
theorem dX8_init_117 : decode cX8_init 117 = .ok (.aload_n 0, 1) := by decide +kernel
theorem dX8_init_118 : decode cX8_init 118 = .ok (.sipush 256, 3) := by decide +kernel
theorem dX8_init_121 : decode cX8_init 121 = .ok (.newarray .boolean, 2) := by decide +kernel
theorem dX8_init_123 : decode cX8_init 123 = .ok (.putfield 53, 3) := by decide +kernel
theorem dX8_init_126 : decode cX8_init 126 = .ok (.aload_n 0, 1) := by decide +kernel
theorem dX8_init_127 : decode cX8_init 127 = .ok (.bipush 8, 2) := by decide +kernel
theorem dX8_init_129 : decode cX8_init 129 = .ok (.newarray .int, 2) := by decide +kernel
theorem dX8_init_131 : decode cX8_init 131 = .ok (.putfield 57, 3) := by decide +kernel
theorem dX8_init_134 : decode cX8_init 134 = .ok (.aload_n 0, 1) := by decide +kernel
theorem dX8_init_135 : decode cX8_init 135 = .ok (.bipush 8, 2) := by decide +kernel
theorem dX8_init_137 : decode cX8_init 137 = .ok (.newarray .int, 2) := by decide +kernel
theorem dX8_init_139 : decode cX8_init 139 = .ok (.putfield 60, 3) := by decide +kernel
theorem dX8_init_142 : decode cX8_init 142 = .ok (.aload_n 0, 1) := by decide +kernel
theorem dX8_init_143 : decode cX8_init 143 = .ok (.bipush 8, 2) := by decide +kernel
theorem dX8_init_145 : decode cX8_init 145 = .ok (.newarray .int, 2) := by decide +kernel
theorem dX8_init_147 : decode cX8_init 147 = .ok (.putfield 63, 3) := by decide +kernel
theorem dX8_init_150 : decode cX8_init 150 = .ok (.aload_n 0, 1) := by decide +kernel
theorem dX8_init_151 : decode cX8_init 151 = .ok (.bipush 8, 2) := by decide +kernel
theorem dX8_init_153 : decode cX8_init 153 = .ok (.newarray .int, 2) := by decide +kernel
theorem dX8_init_155 : decode cX8_init 155 = .ok (.putfield 66, 3) := by decide +kernel
theorem dX8_init_158 : decode cX8_init 158 = .ok (.aload_n 0, 1) := by decide +kernel
theorem dX8_init_159 : decode cX8_init 159 = .ok (.bipush 8, 2) := by decide +kernel
theorem dX8_init_161 : decode cX8_init 161 = .ok (.newarray .int, 2) := by decide +kernel
theorem dX8_init_163 : decode cX8_init 163 = .ok (.putfield 69, 3) := by decide +kernel
theorem dX8_init_166 : decode cX8_init 166 = .ok (.aload_n 0, 1) := by decide +kernel
theorem dX8_init_167 : decode cX8_init 167 = .ok (.sipush 250, 3) := by decide +kernel
theorem dX8_init_170 : decode cX8_init 170 = .ok (.newarray .int, 2) := by decide +kernel
theorem dX8_init_172 : decode cX8_init 172 = .ok (.putfield 72, 3) := by decide +kernel
theorem dX8_init_175 : decode cX8_init 175 = .ok (.return_, 1) := by decide +kernel
theorem dX8_thrown_0 : decode cX8_thrown 0 = .ok (.aload_n 0, 1) := by decide +kernel
theorem dX8_thrown_1 : decode cX8_thrown 1 = .ok (.getfield 75, 3) := by decide +kernel
theorem dX8_thrown_4 : decode cX8_thrown 4 = .ok (.ireturn, 1) := by decide +kernel
theorem dX8_in_0 : decode cX8_in 0 = .ok (.iload_n 0, 1) := by decide +kernel
theorem dX8_in_1 : decode cX8_in 1 = .ok (.iload_n 1, 1) := by decide +kernel
theorem dX8_in_2 : decode cX8_in 2 = .ok (.if_icmp .lt 12, 3) := by decide +kernel
theorem dX8_in_5 : decode cX8_in 5 = .ok (.iload_n 0, 1) := by decide +kernel
theorem dX8_in_6 : decode cX8_in 6 = .ok (.iload_n 2, 1) := by decide +kernel
theorem dX8_in_7 : decode cX8_in 7 = .ok (.if_icmp .gt 7, 3) := by decide +kernel
theorem dX8_in_10 : decode cX8_in 10 = .ok (.iconst 1, 1) := by decide +kernel
theorem dX8_in_11 : decode cX8_in 11 = .ok (.goto 4, 3) := by decide +kernel
theorem dX8_in_14 : decode cX8_in 14 = .ok (.iconst 0, 1) := by decide +kernel
theorem dX8_in_15 : decode cX8_in 15 = .ok (.ireturn, 1) := by decide +kernel
theorem dX8_has_0 : decode cX8_has 0 = .ok (.iload_n 0, 1) := by decide +kernel
theorem dX8_has_1 : decode cX8_has 1 = .ok (.iload_n 1, 1) := by decide +kernel
theorem dX8_has_2 : decode cX8_has 2 = .ok (.ishr, 1) := by decide +kernel
theorem dX8_has_3 : decode cX8_has 3 = .ok (.iconst 1, 1) := by decide +kernel
theorem dX8_has_4 : decode cX8_has 4 = .ok (.iand, 1) := by decide +kernel
theorem dX8_has_5 : decode cX8_has 5 = .ok (.iconst 1, 1) := by decide +kernel
theorem dX8_has_6 : decode cX8_has 6 = .ok (.if_icmp .ne 7, 3) := by decide +kernel
theorem dX8_has_9 : decode cX8_has 9 = .ok (.iconst 1, 1) := by decide +kernel
theorem dX8_has_10 : decode cX8_has 10 = .ok (.goto 4, 3) := by decide +kernel
theorem dX8_has_13 : decode cX8_has 13 = .ok (.iconst 0, 1) := by decide +kernel
theorem dX8_has_14 : decode cX8_has 14 = .ok (.ireturn, 1) := by decide +kernel
theorem dX8_isTask_0 : decode cX8_isTask 0 = .ok (.iload_n 1, 1) := by decide +kernel
theorem dX8_isTask_1 : decode cX8_isTask 1 = .ok (.ifCond .lt 15, 3) := by decide +kernel
theorem dX8_isTask_4 : decode cX8_isTask 4 = .ok (.iload_n 1, 1) := by decide +kernel
theorem dX8_isTask_5 : decode cX8_isTask 5 = .ok (.aload_n 0, 1) := by decide +kernel
theorem dX8_isTask_6 : decode cX8_isTask 6 = .ok (.getfield 78, 3) := by decide +kernel
theorem dX8_isTask_9 : decode cX8_isTask 9 = .ok (.if_icmp .ge 7, 3) := by decide +kernel
theorem dX8_isTask_12 : decode cX8_isTask 12 = .ok (.iconst 1, 1) := by decide +kernel
theorem dX8_isTask_13 : decode cX8_isTask 13 = .ok (.goto 4, 3) := by decide +kernel
theorem dX8_isTask_16 : decode cX8_isTask 16 = .ok (.iconst 0, 1) := by decide +kernel
theorem dX8_isTask_17 : decode cX8_isTask 17 = .ok (.ireturn, 1) := by decide +kernel
theorem dX8_save_0 : decode cX8_save 0 = .ok (.aload_n 0, 1) := by decide +kernel
theorem dX8_save_1 : decode cX8_save 1 = .ok (.getfield 81, 3) := by decide +kernel
theorem dX8_save_4 : decode cX8_save 4 = .ok (.iconst 4, 1) := by decide +kernel
theorem dX8_save_5 : decode cX8_save 5 = .ok (.if_icmp .ne 42, 3) := by decide +kernel
theorem dX8_save_8 : decode cX8_save 8 = .ok (.iconst 0, 1) := by decide +kernel
theorem dX8_save_9 : decode cX8_save 9 = .ok (.istore_n 1, 1) := by decide +kernel
theorem dX8_save_10 : decode cX8_save 10 = .ok (.iload_n 1, 1) := by decide +kernel
theorem dX8_save_11 : decode cX8_save 11 = .ok (.bipush 126, 2) := by decide +kernel
theorem dX8_save_13 : decode cX8_save 13 = .ok (.if_icmp .ge 24, 3) := by decide +kernel
theorem dX8_save_16 : decode cX8_save 16 = .ok (.aload_n 0, 1) := by decide +kernel
theorem dX8_save_17 : decode cX8_save 17 = .ok (.getfield 29, 3) := by decide +kernel
theorem dX8_save_20 : decode cX8_save 20 = .ok (.iload_n 1, 1) := by decide +kernel
theorem dX8_save_21 : decode cX8_save 21 = .ok (.aload_n 0, 1) := by decide +kernel
theorem dX8_save_22 : decode cX8_save 22 = .ok (.getfield 29, 3) := by decide +kernel
theorem dX8_save_25 : decode cX8_save 25 = .ok (.iload_n 1, 1) := by decide +kernel
theorem dX8_save_26 : decode cX8_save 26 = .ok (.bipush 42, 2) := by decide +kernel
theorem dX8_save_28 : decode cX8_save 28 = .ok (.iadd, 1) := by decide +kernel
theorem dX8_save_29 : decode cX8_save 29 = .ok (.iaload, 1) := by decide +kernel
theorem dX8_save_30 : decode cX8_save 30 = .ok (.iastore, 1) := by decide +kernel
theorem dX8_save_31 : decode cX8_save 31 = .ok (.iinc 1 1, 3) := by decide +kernel
theorem dX8_save_34 : decode cX8_save 34 = .ok (.goto (-24), 3) := by decide +kernel
theorem dX8_save_37 : decode cX8_save 37 = .ok (.aload_n 0, 1) := by decide +kernel
theorem dX8_save_38 : decode cX8_save 38 = .ok (.dup, 1) := by decide +kernel
theorem dX8_save_39 : decode cX8_save 39 = .ok (.getfield 81, 3) := by decide +kernel
theorem dX8_save_42 : decode cX8_save 42 = .ok (.iconst 1, 1) := by decide +kernel
theorem dX8_save_43 : decode cX8_save 43 = .ok (.isub, 1) := by decide +kernel
theorem dX8_save_44 : decode cX8_save 44 = .ok (.putfield 81, 3) := by decide +kernel
theorem dX8_save_47 : decode cX8_save 47 = .ok (.aload_n 0, 1) := by decide +kernel
theorem dX8_save_48 : decode cX8_save 48 = .ok (.getfield 81, 3) := by decide +kernel
theorem dX8_save_51 : decode cX8_save 51 = .ok (.bipush 42, 2) := by decide +kernel
theorem dX8_save_53 : decode cX8_save 53 = .ok (.imul, 1) := by decide +kernel
theorem dX8_save_54 : decode cX8_save 54 = .ok (.istore_n 1, 1) := by decide +kernel
theorem dX8_save_55 : decode cX8_save 55 = .ok (.aload_n 0, 1) := by decide +kernel
theorem dX8_save_56 : decode cX8_save 56 = .ok (.getfield 29, 3) := by decide +kernel
theorem dX8_save_59 : decode cX8_save 59 = .ok (.iload_n 1, 1) := by decide +kernel
theorem dX8_save_60 : decode cX8_save 60 = .ok (.aload_n 0, 1) := by decide +kernel
theorem dX8_save_61 : decode cX8_save 61 = .ok (.getfield 7, 3) := by decide +kernel
theorem dX8_save_64 : decode cX8_save 64 = .ok (.iastore, 1) := by decide +kernel
theorem dX8_save_65 : decode cX8_save 65 = .ok (.aload_n 0, 1) := by decide +kernel
theorem dX8_save_66 : decode cX8_save 66 = .ok (.getfield 29, 3) := by decide +kernel
theorem dX8_save_69 : decode cX8_save 69 = .ok (.iload_n 1, 1) := by decide +kernel
theorem dX8_save_70 : decode cX8_save 70 = .ok (.iconst 1, 1) := by decide +kernel
theorem dX8_save_71 : decode cX8_save 71 = .ok (.iadd, 1) := by decide +kernel
theorem dX8_save_72 : decode cX8_save 72 = .ok (.aload_n 0, 1) := by decide +kernel
theorem dX8_save_73 : decode cX8_save 73 = .ok (.getfield 78, 3) := by decide +kernel
theorem dX8_save_76 : decode cX8_save 76 = .ok (.iastore, 1) := by decide +kernel
theorem dX8_save_77 : decode cX8_save 77 = .ok (.iconst 0, 1) := by decide +kernel
theorem dX8_save_78 : decode cX8_save 78 = .ok (.istore_n 2, 1) := by decide +kernel
theorem dX8_save_79 : decode cX8_save 79 = .ok (.iload_n 2, 1) := by decide +kernel
theorem dX8_save_80 : decode cX8_save 80 = .ok (.bipush 8, 2) := by decide +kernel
theorem dX8_save_82 : decode cX8_save 82 = .ok (.if_icmp .ge 93, 3) := by decide +kernel
theorem dX8_save_85 : decode cX8_save 85 = .ok (.aload_n 0, 1) := by decide +kernel
theorem dX8_save_86 : decode cX8_save 86 = .ok (.getfield 29, 3) := by decide +kernel
theorem dX8_save_89 : decode cX8_save 89 = .ok (.iload_n 1, 1) := by decide +kernel
theorem dX8_save_90 : decode cX8_save 90 = .ok (.iconst 2, 1) := by decide +kernel
theorem dX8_save_91 : decode cX8_save 91 = .ok (.iadd, 1) := by decide +kernel
theorem dX8_save_92 : decode cX8_save 92 = .ok (.iload_n 2, 1) := by decide +kernel
theorem dX8_save_93 : decode cX8_save 93 = .ok (.iadd, 1) := by decide +kernel
theorem dX8_save_94 : decode cX8_save 94 = .ok (.aload_n 0, 1) := by decide +kernel
theorem dX8_save_95 : decode cX8_save 95 = .ok (.getfield 13, 3) := by decide +kernel
theorem dX8_save_98 : decode cX8_save 98 = .ok (.iload_n 2, 1) := by decide +kernel
theorem dX8_save_99 : decode cX8_save 99 = .ok (.iaload, 1) := by decide +kernel
theorem dX8_save_100 : decode cX8_save 100 = .ok (.iastore, 1) := by decide +kernel
theorem dX8_save_101 : decode cX8_save 101 = .ok (.aload_n 0, 1) := by decide +kernel
theorem dX8_save_102 : decode cX8_save 102 = .ok (.getfield 29, 3) := by decide +kernel
theorem dX8_save_105 : decode cX8_save 105 = .ok (.iload_n 1, 1) := by decide +kernel
theorem dX8_save_106 : decode cX8_save 106 = .ok (.bipush 10, 2) := by decide +kernel
theorem dX8_save_108 : decode cX8_save 108 = .ok (.iadd, 1) := by decide +kernel
theorem dX8_save_109 : decode cX8_save 109 = .ok (.iload_n 2, 1) := by decide +kernel
theorem dX8_save_110 : decode cX8_save 110 = .ok (.iadd, 1) := by decide +kernel
theorem dX8_save_111 : decode cX8_save 111 = .ok (.aload_n 0, 1) := by decide +kernel
theorem dX8_save_112 : decode cX8_save 112 = .ok (.getfield 17, 3) := by decide +kernel
theorem dX8_save_115 : decode cX8_save 115 = .ok (.iload_n 2, 1) := by decide +kernel
theorem dX8_save_116 : decode cX8_save 116 = .ok (.iaload, 1) := by decide +kernel
theorem dX8_save_117 : decode cX8_save 117 = .ok (.iastore, 1) := by decide +kernel
theorem dX8_save_118 : decode cX8_save 118 = .ok (.aload_n 0, 1) := by decide +kernel
theorem dX8_save_119 : decode cX8_save 119 = .ok (.getfield 29, 3) := by decide +kernel
theorem dX8_save_122 : decode cX8_save 122 = .ok (.iload_n 1, 1) := by decide +kernel
theorem dX8_save_123 : decode cX8_save 123 = .ok (.bipush 18, 2) := by decide +kernel
theorem dX8_save_125 : decode cX8_save 125 = .ok (.iadd, 1) := by decide +kernel
theorem dX8_save_126 : decode cX8_save 126 = .ok (.iload_n 2, 1) := by decide +kernel
theorem dX8_save_127 : decode cX8_save 127 = .ok (.iadd, 1) := by decide +kernel
theorem dX8_save_128 : decode cX8_save 128 = .ok (.aload_n 0, 1) := by decide +kernel
theorem dX8_save_129 : decode cX8_save 129 = .ok (.getfield 20, 3) := by decide +kernel
theorem dX8_save_132 : decode cX8_save 132 = .ok (.iload_n 2, 1) := by decide +kernel
theorem dX8_save_133 : decode cX8_save 133 = .ok (.iaload, 1) := by decide +kernel
theorem dX8_save_134 : decode cX8_save 134 = .ok (.iastore, 1) := by decide +kernel
theorem dX8_save_135 : decode cX8_save 135 = .ok (.aload_n 0, 1) := by decide +kernel
theorem dX8_save_136 : decode cX8_save 136 = .ok (.getfield 29, 3) := by decide +kernel
theorem dX8_save_139 : decode cX8_save 139 = .ok (.iload_n 1, 1) := by decide +kernel
theorem dX8_save_140 : decode cX8_save 140 = .ok (.bipush 26, 2) := by decide +kernel
theorem dX8_save_142 : decode cX8_save 142 = .ok (.iadd, 1) := by decide +kernel
theorem dX8_save_143 : decode cX8_save 143 = .ok (.iload_n 2, 1) := by decide +kernel
theorem dX8_save_144 : decode cX8_save 144 = .ok (.iadd, 1) := by decide +kernel
theorem dX8_save_145 : decode cX8_save 145 = .ok (.aload_n 0, 1) := by decide +kernel
theorem dX8_save_146 : decode cX8_save 146 = .ok (.getfield 23, 3) := by decide +kernel
theorem dX8_save_149 : decode cX8_save 149 = .ok (.iload_n 2, 1) := by decide +kernel
theorem dX8_save_150 : decode cX8_save 150 = .ok (.iaload, 1) := by decide +kernel
theorem dX8_save_151 : decode cX8_save 151 = .ok (.iastore, 1) := by decide +kernel
theorem dX8_save_152 : decode cX8_save 152 = .ok (.aload_n 0, 1) := by decide +kernel
theorem dX8_save_153 : decode cX8_save 153 = .ok (.getfield 29, 3) := by decide +kernel
theorem dX8_save_156 : decode cX8_save 156 = .ok (.iload_n 1, 1) := by decide +kernel
theorem dX8_save_157 : decode cX8_save 157 = .ok (.bipush 34, 2) := by decide +kernel
theorem dX8_save_159 : decode cX8_save 159 = .ok (.iadd, 1) := by decide +kernel
theorem dX8_save_160 : decode cX8_save 160 = .ok (.iload_n 2, 1) := by decide +kernel
theorem dX8_save_161 : decode cX8_save 161 = .ok (.iadd, 1) := by decide +kernel
theorem dX8_save_162 : decode cX8_save 162 = .ok (.aload_n 0, 1) := by decide +kernel
theorem dX8_save_163 : decode cX8_save 163 = .ok (.getfield 26, 3) := by decide +kernel
theorem dX8_save_166 : decode cX8_save 166 = .ok (.iload_n 2, 1) := by decide +kernel
theorem dX8_save_167 : decode cX8_save 167 = .ok (.iaload, 1) := by decide +kernel
theorem dX8_save_168 : decode cX8_save 168 = .ok (.iastore, 1) := by decide +kernel
theorem dX8_save_169 : decode cX8_save 169 = .ok (.iinc 2 1, 3) := by decide +kernel
theorem dX8_save_172 : decode cX8_save 172 = .ok (.goto (-93), 3) := by decide +kernel
theorem dX8_save_175 : decode cX8_save 175 = .ok (.aload_n 0, 1) := by decide +kernel
theorem dX8_save_176 : decode cX8_save 176 = .ok (.dup, 1) := by decide +kernel
theorem dX8_save_177 : decode cX8_save 177 = .ok (.getfield 81, 3) := by decide +kernel
theorem dX8_save_180 : decode cX8_save 180 = .ok (.iconst 1, 1) := by decide +kernel
theorem dX8_save_181 : decode cX8_save 181 = .ok (.iadd, 1) := by decide +kernel
theorem dX8_save_182 : decode cX8_save 182 = .ok (.putfield 81, 3) := by decide +kernel
theorem dX8_save_185 : decode cX8_save 185 = .ok (.return_, 1) := by decide +kernel
theorem dX8_undo_0 : decode cX8_undo 0 = .ok (.aload_n 0, 1) := by decide +kernel
theorem dX8_undo_1 : decode cX8_undo 1 = .ok (.aload_n 0, 1) := by decide +kernel
theorem dX8_undo_2 : decode cX8_undo 2 = .ok (.getfield 81, 3) := by decide +kernel
theorem dX8_undo_5 : decode cX8_undo 5 = .ok (.ifCond .ne 7, 3) := by decide +kernel
theorem dX8_undo_8 : decode cX8_undo 8 = .ok (.iconst 1, 1) := by decide +kernel
theorem dX8_undo_9 : decode cX8_undo 9 = .ok (.goto 4, 3) := by decide +kernel
theorem dX8_undo_12 : decode cX8_undo 12 = .ok (.iconst 0, 1) := by decide +kernel
theorem dX8_undo_13 : decode cX8_undo 13 = .ok (.putfield 75, 3) := by decide +kernel
theorem dX8_undo_16 : decode cX8_undo 16 = .ok (.aload_n 0, 1) := by decide +kernel
theorem dX8_undo_17 : decode cX8_undo 17 = .ok (.getfield 75, 3) := by decide +kernel
theorem dX8_undo_20 : decode cX8_undo 20 = .ok (.ifCond .le 5, 3) := by decide +kernel
theorem dX8_undo_23 : decode cX8_undo 23 = .ok (.iconst 0, 1) := by decide +kernel
theorem dX8_undo_24 : decode cX8_undo 24 = .ok (.ireturn, 1) := by decide +kernel
theorem dX8_undo_25 : decode cX8_undo 25 = .ok (.aload_n 0, 1) := by decide +kernel
theorem dX8_undo_26 : decode cX8_undo 26 = .ok (.dup, 1) := by decide +kernel
theorem dX8_undo_27 : decode cX8_undo 27 = .ok (.getfield 81, 3) := by decide +kernel
theorem dX8_undo_30 : decode cX8_undo 30 = .ok (.iconst 1, 1) := by decide +kernel
theorem dX8_undo_31 : decode cX8_undo 31 = .ok (.isub, 1) := by decide +kernel
theorem dX8_undo_32 : decode cX8_undo 32 = .ok (.putfield 81, 3) := by decide +kernel
theorem dX8_undo_35 : decode cX8_undo 35 = .ok (.aload_n 0, 1) := by decide +kernel
theorem dX8_undo_36 : decode cX8_undo 36 = .ok (.getfield 81, 3) := by decide +kernel
theorem dX8_undo_39 : decode cX8_undo 39 = .ok (.bipush 42, 2) := by decide +kernel
theorem dX8_undo_41 : decode cX8_undo 41 = .ok (.imul, 1) := by decide +kernel
theorem dX8_undo_42 : decode cX8_undo 42 = .ok (.istore_n 1, 1) := by decide +kernel
theorem dX8_undo_43 : decode cX8_undo 43 = .ok (.aload_n 0, 1) := by decide +kernel
theorem dX8_undo_44 : decode cX8_undo 44 = .ok (.aload_n 0, 1) := by decide +kernel
theorem dX8_undo_45 : decode cX8_undo 45 = .ok (.getfield 29, 3) := by decide +kernel
theorem dX8_undo_48 : decode cX8_undo 48 = .ok (.iload_n 1, 1) := by decide +kernel
theorem dX8_undo_49 : decode cX8_undo 49 = .ok (.iaload, 1) := by decide +kernel
theorem dX8_undo_50 : decode cX8_undo 50 = .ok (.putfield 7, 3) := by decide +kernel
theorem dX8_undo_53 : decode cX8_undo 53 = .ok (.aload_n 0, 1) := by decide +kernel
theorem dX8_undo_54 : decode cX8_undo 54 = .ok (.aload_n 0, 1) := by decide +kernel
theorem dX8_undo_55 : decode cX8_undo 55 = .ok (.getfield 29, 3) := by decide +kernel
theorem dX8_undo_58 : decode cX8_undo 58 = .ok (.iload_n 1, 1) := by decide +kernel
theorem dX8_undo_59 : decode cX8_undo 59 = .ok (.iconst 1, 1) := by decide +kernel
theorem dX8_undo_60 : decode cX8_undo 60 = .ok (.iadd, 1) := by decide +kernel
theorem dX8_undo_61 : decode cX8_undo 61 = .ok (.iaload, 1) := by decide +kernel
theorem dX8_undo_62 : decode cX8_undo 62 = .ok (.putfield 78, 3) := by decide +kernel
theorem dX8_undo_65 : decode cX8_undo 65 = .ok (.iconst 0, 1) := by decide +kernel
theorem dX8_undo_66 : decode cX8_undo 66 = .ok (.istore_n 2, 1) := by decide +kernel
theorem dX8_undo_67 : decode cX8_undo 67 = .ok (.iload_n 2, 1) := by decide +kernel
theorem dX8_undo_68 : decode cX8_undo 68 = .ok (.bipush 8, 2) := by decide +kernel
theorem dX8_undo_70 : decode cX8_undo 70 = .ok (.if_icmp .ge 93, 3) := by decide +kernel
theorem dX8_undo_73 : decode cX8_undo 73 = .ok (.aload_n 0, 1) := by decide +kernel
theorem dX8_undo_74 : decode cX8_undo 74 = .ok (.getfield 13, 3) := by decide +kernel
theorem dX8_undo_77 : decode cX8_undo 77 = .ok (.iload_n 2, 1) := by decide +kernel
theorem dX8_undo_78 : decode cX8_undo 78 = .ok (.aload_n 0, 1) := by decide +kernel
theorem dX8_undo_79 : decode cX8_undo 79 = .ok (.getfield 29, 3) := by decide +kernel
theorem dX8_undo_82 : decode cX8_undo 82 = .ok (.iload_n 1, 1) := by decide +kernel
theorem dX8_undo_83 : decode cX8_undo 83 = .ok (.iconst 2, 1) := by decide +kernel
theorem dX8_undo_84 : decode cX8_undo 84 = .ok (.iadd, 1) := by decide +kernel
theorem dX8_undo_85 : decode cX8_undo 85 = .ok (.iload_n 2, 1) := by decide +kernel
theorem dX8_undo_86 : decode cX8_undo 86 = .ok (.iadd, 1) := by decide +kernel
theorem dX8_undo_87 : decode cX8_undo 87 = .ok (.iaload, 1) := by decide +kernel
theorem dX8_undo_88 : decode cX8_undo 88 = .ok (.iastore, 1) := by decide +kernel
theorem dX8_undo_89 : decode cX8_undo 89 = .ok (.aload_n 0, 1) := by decide +kernel
theorem dX8_undo_90 : decode cX8_undo 90 = .ok (.getfield 17, 3) := by decide +kernel
theorem dX8_undo_93 : decode cX8_undo 93 = .ok (.iload_n 2, 1) := by decide +kernel
theorem dX8_undo_94 : decode cX8_undo 94 = .ok (.aload_n 0, 1) := by decide +kernel
theorem dX8_undo_95 : decode cX8_undo 95 = .ok (.getfield 29, 3) := by decide +kernel
theorem dX8_undo_98 : decode cX8_undo 98 = .ok (.iload_n 1, 1) := by decide +kernel
theorem dX8_undo_99 : decode cX8_undo 99 = .ok (.bipush 10, 2) := by decide +kernel
theorem dX8_undo_101 : decode cX8_undo 101 = .ok (.iadd, 1) := by decide +kernel
theorem dX8_undo_102 : decode cX8_undo 102 = .ok (.iload_n 2, 1) := by decide +kernel
theorem dX8_undo_103 : decode cX8_undo 103 = .ok (.iadd, 1) := by decide +kernel
theorem dX8_undo_104 : decode cX8_undo 104 = .ok (.iaload, 1) := by decide +kernel
theorem dX8_undo_105 : decode cX8_undo 105 = .ok (.iastore, 1) := by decide +kernel
theorem dX8_undo_106 : decode cX8_undo 106 = .ok (.aload_n 0, 1) := by decide +kernel
theorem dX8_undo_107 : decode cX8_undo 107 = .ok (.getfield 20, 3) := by decide +kernel
theorem dX8_undo_110 : decode cX8_undo 110 = .ok (.iload_n 2, 1) := by decide +kernel
theorem dX8_undo_111 : decode cX8_undo 111 = .ok (.aload_n 0, 1) := by decide +kernel
theorem dX8_undo_112 : decode cX8_undo 112 = .ok (.getfield 29, 3) := by decide +kernel
theorem dX8_undo_115 : decode cX8_undo 115 = .ok (.iload_n 1, 1) := by decide +kernel
theorem dX8_undo_116 : decode cX8_undo 116 = .ok (.bipush 18, 2) := by decide +kernel
theorem dX8_undo_118 : decode cX8_undo 118 = .ok (.iadd, 1) := by decide +kernel
theorem dX8_undo_119 : decode cX8_undo 119 = .ok (.iload_n 2, 1) := by decide +kernel
theorem dX8_undo_120 : decode cX8_undo 120 = .ok (.iadd, 1) := by decide +kernel
theorem dX8_undo_121 : decode cX8_undo 121 = .ok (.iaload, 1) := by decide +kernel
theorem dX8_undo_122 : decode cX8_undo 122 = .ok (.iastore, 1) := by decide +kernel
theorem dX8_undo_123 : decode cX8_undo 123 = .ok (.aload_n 0, 1) := by decide +kernel
theorem dX8_undo_124 : decode cX8_undo 124 = .ok (.getfield 23, 3) := by decide +kernel
theorem dX8_undo_127 : decode cX8_undo 127 = .ok (.iload_n 2, 1) := by decide +kernel
theorem dX8_undo_128 : decode cX8_undo 128 = .ok (.aload_n 0, 1) := by decide +kernel
theorem dX8_undo_129 : decode cX8_undo 129 = .ok (.getfield 29, 3) := by decide +kernel
theorem dX8_undo_132 : decode cX8_undo 132 = .ok (.iload_n 1, 1) := by decide +kernel
theorem dX8_undo_133 : decode cX8_undo 133 = .ok (.bipush 26, 2) := by decide +kernel
theorem dX8_undo_135 : decode cX8_undo 135 = .ok (.iadd, 1) := by decide +kernel
theorem dX8_undo_136 : decode cX8_undo 136 = .ok (.iload_n 2, 1) := by decide +kernel
theorem dX8_undo_137 : decode cX8_undo 137 = .ok (.iadd, 1) := by decide +kernel
theorem dX8_undo_138 : decode cX8_undo 138 = .ok (.iaload, 1) := by decide +kernel
theorem dX8_undo_139 : decode cX8_undo 139 = .ok (.iastore, 1) := by decide +kernel
theorem dX8_undo_140 : decode cX8_undo 140 = .ok (.aload_n 0, 1) := by decide +kernel
theorem dX8_undo_141 : decode cX8_undo 141 = .ok (.getfield 26, 3) := by decide +kernel
theorem dX8_undo_144 : decode cX8_undo 144 = .ok (.iload_n 2, 1) := by decide +kernel
theorem dX8_undo_145 : decode cX8_undo 145 = .ok (.aload_n 0, 1) := by decide +kernel
theorem dX8_undo_146 : decode cX8_undo 146 = .ok (.getfield 29, 3) := by decide +kernel
theorem dX8_undo_149 : decode cX8_undo 149 = .ok (.iload_n 1, 1) := by decide +kernel
theorem dX8_undo_150 : decode cX8_undo 150 = .ok (.bipush 34, 2) := by decide +kernel
theorem dX8_undo_152 : decode cX8_undo 152 = .ok (.iadd, 1) := by decide +kernel
theorem dX8_undo_153 : decode cX8_undo 153 = .ok (.iload_n 2, 1) := by decide +kernel
theorem dX8_undo_154 : decode cX8_undo 154 = .ok (.iadd, 1) := by decide +kernel
theorem dX8_undo_155 : decode cX8_undo 155 = .ok (.iaload, 1) := by decide +kernel
theorem dX8_undo_156 : decode cX8_undo 156 = .ok (.iastore, 1) := by decide +kernel
theorem dX8_undo_157 : decode cX8_undo 157 = .ok (.iinc 2 1, 3) := by decide +kernel
theorem dX8_undo_160 : decode cX8_undo 160 = .ok (.goto (-93), 3) := by decide +kernel
theorem dX8_undo_163 : decode cX8_undo 163 = .ok (.aload_n 0, 1) := by decide +kernel
theorem dX8_undo_164 : decode cX8_undo 164 = .ok (.getfield 81, 3) := by decide +kernel
theorem dX8_undo_167 : decode cX8_undo 167 = .ok (.ireturn, 1) := by decide +kernel
set_option maxRecDepth 20000 in
theorem ggX8_begin_X8_in : GoodIn wsX8_begin wsX8_in := goodIn_r _ [12] (by decide +kernel) (by decide +kernel)
set_option maxRecDepth 20000 in
theorem gX8_begin_X8_in : GoodIn wsX8_begin (va_wsS RX8 84 yX8_in wsX8_in) := goodIn_app (goodIn_of _ (by decide +kernel)) ggX8_begin_X8_in
set_option maxRecDepth 20000 in
theorem ggX8_begin_X8_save : GoodIn wsX8_begin wsX8_save := goodIn_r _ [16, 17, 18, 3, 2, 4, 5, 6, 7, 8, 19, 20, 21, 22, 23, 24, 25, 26, 27, 28, 29, 30, 31, 32, 33, 34, 35, 36, 37, 38, 39, 40, 41, 42, 43, 44, 45, 46, 47, 48] (by decide +kernel) (by decide +kernel)
set_option maxRecDepth 20000 in
theorem gX8_begin_X8_save : GoodIn wsX8_begin (wsV RX8 88 RX8 yX8_save wsX8_save) := goodIn_app (goodIn_of _ (by decide +kernel)) ggX8_begin_X8_save
theorem dX8_begin_0 : decode cX8_begin 0 = .ok (.aload_n 0, 1) := by decide +kernel
theorem dX8_begin_1 : decode cX8_begin 1 = .ok (.iload_n 1, 1) := by decide +kernel
theorem dX8_begin_2 : decode cX8_begin 2 = .ok (.iconst 1, 1) := by decide +kernel
theorem dX8_begin_3 : decode cX8_begin 3 = .ok (.iconst 3, 1) := by decide +kernel
theorem dX8_begin_4 : decode cX8_begin 4 = .ok (.invokestatic 84, 3) := by decide +kernel
theorem dX8_begin_7 : decode cX8_begin 7 = .ok (.ifCond .eq 7, 3) := by decide +kernel
theorem dX8_begin_10 : decode cX8_begin 10 = .ok (.iconst 0, 1) := by decide +kernel
theorem dX8_begin_11 : decode cX8_begin 11 = .ok (.goto 4, 3) := by decide +kernel
theorem dX8_begin_14 : decode cX8_begin 14 = .ok (.iconst 1, 1) := by decide +kernel
theorem dX8_begin_15 : decode cX8_begin 15 = .ok (.putfield 75, 3) := by decide +kernel
theorem dX8_begin_18 : decode cX8_begin 18 = .ok (.aload_n 0, 1) := by decide +kernel
theorem dX8_begin_19 : decode cX8_begin 19 = .ok (.getfield 75, 3) := by decide +kernel
theorem dX8_begin_22 : decode cX8_begin 22 = .ok (.ifCond .le 5, 3) := by decide +kernel
theorem dX8_begin_25 : decode cX8_begin 25 = .ok (.iconst 0, 1) := by decide +kernel
theorem dX8_begin_26 : decode cX8_begin 26 = .ok (.ireturn, 1) := by decide +kernel
theorem dX8_begin_27 : decode cX8_begin 27 = .ok (.aload_n 0, 1) := by decide +kernel
theorem dX8_begin_28 : decode cX8_begin 28 = .ok (.invokevirtual 88, 3) := by decide +kernel
theorem dX8_begin_31 : decode cX8_begin 31 = .ok (.aload_n 0, 1) := by decide +kernel
theorem dX8_begin_32 : decode cX8_begin 32 = .ok (.getfield 78, 3) := by decide +kernel
theorem dX8_begin_35 : decode cX8_begin 35 = .ok (.istore_n 2, 1) := by decide +kernel
theorem dX8_begin_36 : decode cX8_begin 36 = .ok (.aload_n 0, 1) := by decide +kernel
theorem dX8_begin_37 : decode cX8_begin 37 = .ok (.iload_n 1, 1) := by decide +kernel
theorem dX8_begin_38 : decode cX8_begin 38 = .ok (.putfield 7, 3) := by decide +kernel
theorem dX8_begin_41 : decode cX8_begin 41 = .ok (.aload_n 0, 1) := by decide +kernel
theorem dX8_begin_42 : decode cX8_begin 42 = .ok (.iconst 0, 1) := by decide +kernel
theorem dX8_begin_43 : decode cX8_begin 43 = .ok (.putfield 78, 3) := by decide +kernel
theorem dX8_begin_46 : decode cX8_begin 46 = .ok (.iconst 0, 1) := by decide +kernel
theorem dX8_begin_47 : decode cX8_begin 47 = .ok (.istore_n 3, 1) := by decide +kernel
theorem dX8_begin_48 : decode cX8_begin 48 = .ok (.iload_n 3, 1) := by decide +kernel
theorem dX8_begin_49 : decode cX8_begin 49 = .ok (.bipush 8, 2) := by decide +kernel
theorem dX8_begin_51 : decode cX8_begin 51 = .ok (.if_icmp .ge 44, 3) := by decide +kernel
theorem dX8_begin_54 : decode cX8_begin 54 = .ok (.aload_n 0, 1) := by decide +kernel
theorem dX8_begin_55 : decode cX8_begin 55 = .ok (.getfield 13, 3) := by decide +kernel
theorem dX8_begin_58 : decode cX8_begin 58 = .ok (.iload_n 3, 1) := by decide +kernel
theorem dX8_begin_59 : decode cX8_begin 59 = .ok (.iconst 0, 1) := by decide +kernel
theorem dX8_begin_60 : decode cX8_begin 60 = .ok (.iastore, 1) := by decide +kernel
theorem dX8_begin_61 : decode cX8_begin 61 = .ok (.aload_n 0, 1) := by decide +kernel
theorem dX8_begin_62 : decode cX8_begin 62 = .ok (.getfield 17, 3) := by decide +kernel
theorem dX8_begin_65 : decode cX8_begin 65 = .ok (.iload_n 3, 1) := by decide +kernel
theorem dX8_begin_66 : decode cX8_begin 66 = .ok (.iconst 0, 1) := by decide +kernel
theorem dX8_begin_67 : decode cX8_begin 67 = .ok (.iastore, 1) := by decide +kernel
theorem dX8_begin_68 : decode cX8_begin 68 = .ok (.aload_n 0, 1) := by decide +kernel
theorem dX8_begin_69 : decode cX8_begin 69 = .ok (.getfield 20, 3) := by decide +kernel
theorem dX8_begin_72 : decode cX8_begin 72 = .ok (.iload_n 3, 1) := by decide +kernel
theorem dX8_begin_73 : decode cX8_begin 73 = .ok (.iconst 0, 1) := by decide +kernel
theorem dX8_begin_74 : decode cX8_begin 74 = .ok (.iastore, 1) := by decide +kernel
theorem dX8_begin_75 : decode cX8_begin 75 = .ok (.aload_n 0, 1) := by decide +kernel
theorem dX8_begin_76 : decode cX8_begin 76 = .ok (.getfield 23, 3) := by decide +kernel
theorem dX8_begin_79 : decode cX8_begin 79 = .ok (.iload_n 3, 1) := by decide +kernel
theorem dX8_begin_80 : decode cX8_begin 80 = .ok (.iconst 0, 1) := by decide +kernel
theorem dX8_begin_81 : decode cX8_begin 81 = .ok (.iastore, 1) := by decide +kernel
theorem dX8_begin_82 : decode cX8_begin 82 = .ok (.aload_n 0, 1) := by decide +kernel
theorem dX8_begin_83 : decode cX8_begin 83 = .ok (.getfield 26, 3) := by decide +kernel
theorem dX8_begin_86 : decode cX8_begin 86 = .ok (.iload_n 3, 1) := by decide +kernel
theorem dX8_begin_87 : decode cX8_begin 87 = .ok (.iconst 0, 1) := by decide +kernel
theorem dX8_begin_88 : decode cX8_begin 88 = .ok (.iastore, 1) := by decide +kernel
theorem dX8_begin_89 : decode cX8_begin 89 = .ok (.iinc 3 1, 3) := by decide +kernel
theorem dX8_begin_92 : decode cX8_begin 92 = .ok (.goto (-44), 3) := by decide +kernel
theorem dX8_begin_95 : decode cX8_begin 95 = .ok (.iload_n 2, 1) := by decide +kernel
theorem dX8_begin_96 : decode cX8_begin 96 = .ok (.ireturn, 1) := by decide +kernel
set_option maxRecDepth 20000 in
theorem ggX8_whyNoTask_X8_in : GoodIn wsX8_whyNoTask wsX8_in := goodIn_r _ [6] (by decide +kernel) (by decide +kernel)
set_option maxRecDepth 20000 in
theorem gX8_whyNoTask_X8_in : GoodIn wsX8_whyNoTask (va_wsS RX8 84 yX8_in wsX8_in) := goodIn_app (goodIn_of _ (by decide +kernel)) ggX8_whyNoTask_X8_in
theorem dX8_whyNoTask_0 : decode cX8_whyNoTask 0 = .ok (.iload_n 1, 1) := by decide +kernel
theorem dX8_whyNoTask_1 : decode cX8_whyNoTask 1 = .ok (.iconst 0, 1) := by decide +kernel
theorem dX8_whyNoTask_2 : decode cX8_whyNoTask 2 = .ok (.aload_n 0, 1) := by decide +kernel
theorem dX8_whyNoTask_3 : decode cX8_whyNoTask 3 = .ok (.getfield 7, 3) := by decide +kernel
theorem dX8_whyNoTask_6 : decode cX8_whyNoTask 6 = .ok (.iconst 1, 1) := by decide +kernel
theorem dX8_whyNoTask_7 : decode cX8_whyNoTask 7 = .ok (.isub, 1) := by decide +kernel
theorem dX8_whyNoTask_8 : decode cX8_whyNoTask 8 = .ok (.invokestatic 84, 3) := by decide +kernel
theorem dX8_whyNoTask_11 : decode cX8_whyNoTask 11 = .ok (.ifCond .ne 5, 3) := by decide +kernel
theorem dX8_whyNoTask_14 : decode cX8_whyNoTask 14 = .ok (.iconst 1, 1) := by decide +kernel
theorem dX8_whyNoTask_15 : decode cX8_whyNoTask 15 = .ok (.ireturn, 1) := by decide +kernel
theorem dX8_whyNoTask_16 : decode cX8_whyNoTask 16 = .ok (.iload_n 2, 1) := by decide +kernel
theorem dX8_whyNoTask_17 : decode cX8_whyNoTask 17 = .ok (.iconst 0, 1) := by decide +kernel
theorem dX8_whyNoTask_18 : decode cX8_whyNoTask 18 = .ok (.sipush 200, 3) := by decide +kernel
theorem dX8_whyNoTask_21 : decode cX8_whyNoTask 21 = .ok (.invokestatic 84, 3) := by decide +kernel
theorem dX8_whyNoTask_24 : decode cX8_whyNoTask 24 = .ok (.ifCond .eq 25, 3) := by decide +kernel
theorem dX8_whyNoTask_27 : decode cX8_whyNoTask 27 = .ok (.iload_n 3, 1) := by decide +kernel
theorem dX8_whyNoTask_28 : decode cX8_whyNoTask 28 = .ok (.iconst 1, 1) := by decide +kernel
theorem dX8_whyNoTask_29 : decode cX8_whyNoTask 29 = .ok (.sipush 400, 3) := by decide +kernel
theorem dX8_whyNoTask_32 : decode cX8_whyNoTask 32 = .ok (.invokestatic 84, 3) := by decide +kernel
theorem dX8_whyNoTask_35 : decode cX8_whyNoTask 35 = .ok (.ifCond .eq 14, 3) := by decide +kernel
theorem dX8_whyNoTask_38 : decode cX8_whyNoTask 38 = .ok (.iload 4, 2) := by decide +kernel
theorem dX8_whyNoTask_40 : decode cX8_whyNoTask 40 = .ok (.iconst 1, 1) := by decide +kernel
theorem dX8_whyNoTask_41 : decode cX8_whyNoTask 41 = .ok (.bipush 50, 2) := by decide +kernel
theorem dX8_whyNoTask_43 : decode cX8_whyNoTask 43 = .ok (.invokestatic 84, 3) := by decide +kernel
theorem dX8_whyNoTask_46 : decode cX8_whyNoTask 46 = .ok (.ifCond .ne 5, 3) := by decide +kernel
theorem dX8_whyNoTask_49 : decode cX8_whyNoTask 49 = .ok (.iconst 2, 1) := by decide +kernel
theorem dX8_whyNoTask_50 : decode cX8_whyNoTask 50 = .ok (.ireturn, 1) := by decide +kernel
theorem dX8_whyNoTask_51 : decode cX8_whyNoTask 51 = .ok (.aload_n 0, 1) := by decide +kernel
theorem dX8_whyNoTask_52 : decode cX8_whyNoTask 52 = .ok (.getfield 78, 3) := by decide +kernel
theorem dX8_whyNoTask_55 : decode cX8_whyNoTask 55 = .ok (.bipush 8, 2) := by decide +kernel
theorem dX8_whyNoTask_57 : decode cX8_whyNoTask 57 = .ok (.if_icmp .ne 7, 3) := by decide +kernel
theorem dX8_whyNoTask_60 : decode cX8_whyNoTask 60 = .ok (.iconst 3, 1) := by decide +kernel
theorem dX8_whyNoTask_61 : decode cX8_whyNoTask 61 = .ok (.goto 4, 3) := by decide +kernel
theorem dX8_whyNoTask_64 : decode cX8_whyNoTask 64 = .ok (.iconst 0, 1) := by decide +kernel
theorem dX8_whyNoTask_65 : decode cX8_whyNoTask 65 = .ok (.ireturn, 1) := by decide +kernel
theorem dX8_putTask_0 : decode cX8_putTask 0 = .ok (.aload_n 0, 1) := by decide +kernel
theorem dX8_putTask_1 : decode cX8_putTask 1 = .ok (.getfield 78, 3) := by decide +kernel
theorem dX8_putTask_4 : decode cX8_putTask 4 = .ok (.istore 5, 2) := by decide +kernel
theorem dX8_putTask_6 : decode cX8_putTask 6 = .ok (.aload_n 0, 1) := by decide +kernel
theorem dX8_putTask_7 : decode cX8_putTask 7 = .ok (.dup, 1) := by decide +kernel
theorem dX8_putTask_8 : decode cX8_putTask 8 = .ok (.getfield 78, 3) := by decide +kernel
theorem dX8_putTask_11 : decode cX8_putTask 11 = .ok (.iconst 1, 1) := by decide +kernel
theorem dX8_putTask_12 : decode cX8_putTask 12 = .ok (.iadd, 1) := by decide +kernel
theorem dX8_putTask_13 : decode cX8_putTask 13 = .ok (.putfield 78, 3) := by decide +kernel
theorem dX8_putTask_16 : decode cX8_putTask 16 = .ok (.aload_n 0, 1) := by decide +kernel
theorem dX8_putTask_17 : decode cX8_putTask 17 = .ok (.getfield 13, 3) := by decide +kernel
theorem dX8_putTask_20 : decode cX8_putTask 20 = .ok (.iload 5, 2) := by decide +kernel
theorem dX8_putTask_22 : decode cX8_putTask 22 = .ok (.iload_n 1, 1) := by decide +kernel
theorem dX8_putTask_23 : decode cX8_putTask 23 = .ok (.iastore, 1) := by decide +kernel
theorem dX8_putTask_24 : decode cX8_putTask 24 = .ok (.aload_n 0, 1) := by decide +kernel
theorem dX8_putTask_25 : decode cX8_putTask 25 = .ok (.getfield 17, 3) := by decide +kernel
theorem dX8_putTask_28 : decode cX8_putTask 28 = .ok (.iload 5, 2) := by decide +kernel
theorem dX8_putTask_30 : decode cX8_putTask 30 = .ok (.iload_n 2, 1) := by decide +kernel
theorem dX8_putTask_31 : decode cX8_putTask 31 = .ok (.iastore, 1) := by decide +kernel
theorem dX8_putTask_32 : decode cX8_putTask 32 = .ok (.aload_n 0, 1) := by decide +kernel
theorem dX8_putTask_33 : decode cX8_putTask 33 = .ok (.getfield 20, 3) := by decide +kernel
theorem dX8_putTask_36 : decode cX8_putTask 36 = .ok (.iload 5, 2) := by decide +kernel
theorem dX8_putTask_38 : decode cX8_putTask 38 = .ok (.iload_n 3, 1) := by decide +kernel
theorem dX8_putTask_39 : decode cX8_putTask 39 = .ok (.iastore, 1) := by decide +kernel
theorem dX8_putTask_40 : decode cX8_putTask 40 = .ok (.aload_n 0, 1) := by decide +kernel
theorem dX8_putTask_41 : decode cX8_putTask 41 = .ok (.getfield 23, 3) := by decide +kernel
theorem dX8_putTask_44 : decode cX8_putTask 44 = .ok (.iload 5, 2) := by decide +kernel
theorem dX8_putTask_46 : decode cX8_putTask 46 = .ok (.iload 4, 2) := by decide +kernel
theorem dX8_putTask_48 : decode cX8_putTask 48 = .ok (.iastore, 1) := by decide +kernel
theorem dX8_putTask_49 : decode cX8_putTask 49 = .ok (.aload_n 0, 1) := by decide +kernel
theorem dX8_putTask_50 : decode cX8_putTask 50 = .ok (.getfield 26, 3) := by decide +kernel
theorem dX8_putTask_53 : decode cX8_putTask 53 = .ok (.iload 5, 2) := by decide +kernel
theorem dX8_putTask_55 : decode cX8_putTask 55 = .ok (.iconst 0, 1) := by decide +kernel
theorem dX8_putTask_56 : decode cX8_putTask 56 = .ok (.iastore, 1) := by decide +kernel
theorem dX8_putTask_57 : decode cX8_putTask 57 = .ok (.iload 5, 2) := by decide +kernel
theorem dX8_putTask_59 : decode cX8_putTask 59 = .ok (.ireturn, 1) := by decide +kernel
set_option maxRecDepth 20000 in
theorem ggX8_addTask_X8_whyNoTask : GoodIn wsX8_addTask wsX8_whyNoTask := goodIn_r _ [6, 7, 8, 9, 10, 5, 11, 27, 28, 29, 30, 31, 32, 33, 34, 35, 36, 37, 38, 39, 40, 41, 42, 43, 44, 45, 46, 47, 48, 49, 50, 51, 52, 53, 54, 55, 56] (by decide +kernel) (by decide +kernel)
set_option maxRecDepth 20000 in
theorem gX8_addTask_X8_whyNoTask : GoodIn wsX8_addTask (wsV RX8 91 RX8 yX8_whyNoTask wsX8_whyNoTask) := goodIn_app (goodIn_of _ (by decide +kernel)) ggX8_addTask_X8_whyNoTask
set_option maxRecDepth 20000 in
theorem ggX8_addTask_X8_save : GoodIn wsX8_addTask wsX8_save := goodIn_r _ [15, 16, 17, 7, 8, 18, 19, 20, 21, 22, 27, 28, 29, 30, 31, 32, 33, 34, 35, 36, 37, 38, 39, 40, 41, 42, 43, 44, 45, 46, 47, 48, 49, 50, 51, 52, 53, 54, 55, 56] (by decide +kernel) (by decide +kernel)
set_option maxRecDepth 20000 in
theorem gX8_addTask_X8_save : GoodIn wsX8_addTask (wsV RX8 88 RX8 yX8_save wsX8_save) := goodIn_app (goodIn_of _ (by decide +kernel)) ggX8_addTask_X8_save
set_option maxRecDepth 20000 in
theorem ggX8_addTask_X8_putTask : GoodIn wsX8_addTask wsX8_putTask := goodIn_r _ [26, 8, 18, 19, 20, 21, 22, 27, 28, 29, 30, 31, 32, 33, 34, 35, 36, 37, 38, 39, 40, 41, 42, 43, 44, 45, 46, 47, 48, 49, 50, 51, 52, 53, 54, 55, 56] (by decide +kernel) (by decide +kernel)
set_option maxRecDepth 20000 in
theorem gX8_addTask_X8_putTask : GoodIn wsX8_addTask (wsV RX8 95 RX8 yX8_putTask wsX8_putTask) := goodIn_app (goodIn_of _ (by decide +kernel)) ggX8_addTask_X8_putTask
theorem dX8_addTask_0 : decode cX8_addTask 0 = .ok (.aload_n 0, 1) := by decide +kernel
theorem dX8_addTask_1 : decode cX8_addTask 1 = .ok (.aload_n 0, 1) := by decide +kernel
theorem dX8_addTask_2 : decode cX8_addTask 2 = .ok (.iload_n 1, 1) := by decide +kernel
theorem dX8_addTask_3 : decode cX8_addTask 3 = .ok (.iload_n 2, 1) := by decide +kernel
theorem dX8_addTask_4 : decode cX8_addTask 4 = .ok (.iload_n 3, 1) := by decide +kernel
theorem dX8_addTask_5 : decode cX8_addTask 5 = .ok (.iload 4, 2) := by decide +kernel
theorem dX8_addTask_7 : decode cX8_addTask 7 = .ok (.invokevirtual 91, 3) := by decide +kernel
theorem dX8_addTask_10 : decode cX8_addTask 10 = .ok (.putfield 75, 3) := by decide +kernel
theorem dX8_addTask_13 : decode cX8_addTask 13 = .ok (.aload_n 0, 1) := by decide +kernel
theorem dX8_addTask_14 : decode cX8_addTask 14 = .ok (.getfield 75, 3) := by decide +kernel
theorem dX8_addTask_17 : decode cX8_addTask 17 = .ok (.ifCond .le 5, 3) := by decide +kernel
theorem dX8_addTask_20 : decode cX8_addTask 20 = .ok (.iconst 0, 1) := by decide +kernel
theorem dX8_addTask_21 : decode cX8_addTask 21 = .ok (.ireturn, 1) := by decide +kernel
theorem dX8_addTask_22 : decode cX8_addTask 22 = .ok (.aload_n 0, 1) := by decide +kernel
theorem dX8_addTask_23 : decode cX8_addTask 23 = .ok (.invokevirtual 88, 3) := by decide +kernel
theorem dX8_addTask_26 : decode cX8_addTask 26 = .ok (.aload_n 0, 1) := by decide +kernel
theorem dX8_addTask_27 : decode cX8_addTask 27 = .ok (.iload_n 1, 1) := by decide +kernel
theorem dX8_addTask_28 : decode cX8_addTask 28 = .ok (.iload_n 2, 1) := by decide +kernel
theorem dX8_addTask_29 : decode cX8_addTask 29 = .ok (.iload_n 3, 1) := by decide +kernel
theorem dX8_addTask_30 : decode cX8_addTask 30 = .ok (.iload 4, 2) := by decide +kernel
theorem dX8_addTask_32 : decode cX8_addTask 32 = .ok (.invokevirtual 95, 3) := by decide +kernel
theorem dX8_addTask_35 : decode cX8_addTask 35 = .ok (.ireturn, 1) := by decide +kernel
set_option maxRecDepth 20000 in
theorem ggX8_setDates_X8_isTask : GoodIn wsX8_setDates wsX8_isTask := goodIn_r _ [8, 9, 23, 24, 25, 26, 27, 28, 29, 30, 31, 32, 33, 34, 35, 36, 37, 38, 39, 40, 41, 42, 43, 44, 45, 46, 47, 48, 49, 50, 51, 52] (by decide +kernel) (by decide +kernel)
set_option maxRecDepth 20000 in
theorem gX8_setDates_X8_isTask : GoodIn wsX8_setDates (wsV RX8 98 RX8 yX8_isTask wsX8_isTask) := goodIn_app (goodIn_of _ (by decide +kernel)) ggX8_setDates_X8_isTask
set_option maxRecDepth 20000 in
theorem ggX8_setDates_X8_in : GoodIn wsX8_setDates wsX8_in := goodIn_r _ [12] (by decide +kernel) (by decide +kernel)
set_option maxRecDepth 20000 in
theorem gX8_setDates_X8_in : GoodIn wsX8_setDates (va_wsS RX8 84 yX8_in wsX8_in) := goodIn_app (goodIn_of _ (by decide +kernel)) ggX8_setDates_X8_in
set_option maxRecDepth 20000 in
theorem ggX8_setDates_X8_save : GoodIn wsX8_setDates wsX8_save := goodIn_r _ [16, 17, 18, 19, 9, 20, 3, 2, 21, 22, 23, 24, 25, 26, 27, 28, 29, 30, 31, 32, 33, 34, 35, 36, 37, 38, 39, 40, 41, 42, 43, 44, 45, 46, 47, 48, 49, 50, 51, 52] (by decide +kernel) (by decide +kernel)
set_option maxRecDepth 20000 in
theorem gX8_setDates_X8_save : GoodIn wsX8_setDates (wsV RX8 88 RX8 yX8_save wsX8_save) := goodIn_app (goodIn_of _ (by decide +kernel)) ggX8_setDates_X8_save
theorem dX8_setDates_0 : decode cX8_setDates 0 = .ok (.aload_n 0, 1) := by decide +kernel
theorem dX8_setDates_1 : decode cX8_setDates 1 = .ok (.aload_n 0, 1) := by decide +kernel
theorem dX8_setDates_2 : decode cX8_setDates 2 = .ok (.iload_n 1, 1) := by decide +kernel
theorem dX8_setDates_3 : decode cX8_setDates 3 = .ok (.invokevirtual 98, 3) := by decide +kernel
theorem dX8_setDates_6 : decode cX8_setDates 6 = .ok (.ifCond .ne 7, 3) := by decide +kernel
theorem dX8_setDates_9 : decode cX8_setDates 9 = .ok (.iconst 1, 1) := by decide +kernel
theorem dX8_setDates_10 : decode cX8_setDates 10 = .ok (.goto 30, 3) := by decide +kernel
theorem dX8_setDates_13 : decode cX8_setDates 13 = .ok (.iload_n 2, 1) := by decide +kernel
theorem dX8_setDates_14 : decode cX8_setDates 14 = .ok (.iconst 0, 1) := by decide +kernel
theorem dX8_setDates_15 : decode cX8_setDates 15 = .ok (.sipush 200, 3) := by decide +kernel
theorem dX8_setDates_18 : decode cX8_setDates 18 = .ok (.invokestatic 84, 3) := by decide +kernel
theorem dX8_setDates_21 : decode cX8_setDates 21 = .ok (.ifCond .eq 18, 3) := by decide +kernel
theorem dX8_setDates_24 : decode cX8_setDates 24 = .ok (.iload_n 3, 1) := by decide +kernel
theorem dX8_setDates_25 : decode cX8_setDates 25 = .ok (.iconst 1, 1) := by decide +kernel
theorem dX8_setDates_26 : decode cX8_setDates 26 = .ok (.sipush 400, 3) := by decide +kernel
theorem dX8_setDates_29 : decode cX8_setDates 29 = .ok (.invokestatic 84, 3) := by decide +kernel
theorem dX8_setDates_32 : decode cX8_setDates 32 = .ok (.ifCond .eq 7, 3) := by decide +kernel
theorem dX8_setDates_35 : decode cX8_setDates 35 = .ok (.iconst 0, 1) := by decide +kernel
theorem dX8_setDates_36 : decode cX8_setDates 36 = .ok (.goto 4, 3) := by decide +kernel
theorem dX8_setDates_39 : decode cX8_setDates 39 = .ok (.iconst 2, 1) := by decide +kernel
theorem dX8_setDates_40 : decode cX8_setDates 40 = .ok (.putfield 75, 3) := by decide +kernel
theorem dX8_setDates_43 : decode cX8_setDates 43 = .ok (.aload_n 0, 1) := by decide +kernel
theorem dX8_setDates_44 : decode cX8_setDates 44 = .ok (.getfield 75, 3) := by decide +kernel
theorem dX8_setDates_47 : decode cX8_setDates 47 = .ok (.ifCond .le 5, 3) := by decide +kernel
theorem dX8_setDates_50 : decode cX8_setDates 50 = .ok (.iconst 0, 1) := by decide +kernel
theorem dX8_setDates_51 : decode cX8_setDates 51 = .ok (.ireturn, 1) := by decide +kernel
theorem dX8_setDates_52 : decode cX8_setDates 52 = .ok (.aload_n 0, 1) := by decide +kernel
theorem dX8_setDates_53 : decode cX8_setDates 53 = .ok (.invokevirtual 88, 3) := by decide +kernel
theorem dX8_setDates_56 : decode cX8_setDates 56 = .ok (.aload_n 0, 1) := by decide +kernel
theorem dX8_setDates_57 : decode cX8_setDates 57 = .ok (.getfield 20, 3) := by decide +kernel
theorem dX8_setDates_60 : decode cX8_setDates 60 = .ok (.iload_n 1, 1) := by decide +kernel
theorem dX8_setDates_61 : decode cX8_setDates 61 = .ok (.iaload, 1) := by decide +kernel
theorem dX8_setDates_62 : decode cX8_setDates 62 = .ok (.aload_n 0, 1) := by decide +kernel
theorem dX8_setDates_63 : decode cX8_setDates 63 = .ok (.getfield 17, 3) := by decide +kernel
theorem dX8_setDates_66 : decode cX8_setDates 66 = .ok (.iload_n 1, 1) := by decide +kernel
theorem dX8_setDates_67 : decode cX8_setDates 67 = .ok (.iaload, 1) := by decide +kernel
theorem dX8_setDates_68 : decode cX8_setDates 68 = .ok (.isub, 1) := by decide +kernel
theorem dX8_setDates_69 : decode cX8_setDates 69 = .ok (.istore 4, 2) := by decide +kernel
theorem dX8_setDates_71 : decode cX8_setDates 71 = .ok (.aload_n 0, 1) := by decide +kernel
theorem dX8_setDates_72 : decode cX8_setDates 72 = .ok (.getfield 17, 3) := by decide +kernel
theorem dX8_setDates_75 : decode cX8_setDates 75 = .ok (.iload_n 1, 1) := by decide +kernel
theorem dX8_setDates_76 : decode cX8_setDates 76 = .ok (.iload_n 2, 1) := by decide +kernel
theorem dX8_setDates_77 : decode cX8_setDates 77 = .ok (.iastore, 1) := by decide +kernel
theorem dX8_setDates_78 : decode cX8_setDates 78 = .ok (.aload_n 0, 1) := by decide +kernel
theorem dX8_setDates_79 : decode cX8_setDates 79 = .ok (.getfield 20, 3) := by decide +kernel
theorem dX8_setDates_82 : decode cX8_setDates 82 = .ok (.iload_n 1, 1) := by decide +kernel
theorem dX8_setDates_83 : decode cX8_setDates 83 = .ok (.iload_n 3, 1) := by decide +kernel
theorem dX8_setDates_84 : decode cX8_setDates 84 = .ok (.iastore, 1) := by decide +kernel
theorem dX8_setDates_85 : decode cX8_setDates 85 = .ok (.iload 4, 2) := by decide +kernel
theorem dX8_setDates_87 : decode cX8_setDates 87 = .ok (.ireturn, 1) := by decide +kernel
set_option maxRecDepth 20000 in
theorem ggX8_leads_X8_has : GoodIn wsX8_leads wsX8_has := goodIn_r _ [6] (by decide +kernel) (by decide +kernel)
set_option maxRecDepth 20000 in
theorem gX8_leads_X8_has : GoodIn wsX8_leads (va_wsS RX8 102 yX8_has wsX8_has) := goodIn_app (goodIn_of _ (by decide +kernel)) ggX8_leads_X8_has
theorem dX8_leads_0 : decode cX8_leads 0 = .ok (.aload_n 0, 1) := by decide +kernel
theorem dX8_leads_1 : decode cX8_leads 1 = .ok (.getfield 26, 3) := by decide +kernel
theorem dX8_leads_4 : decode cX8_leads 4 = .ok (.iload_n 1, 1) := by decide +kernel
theorem dX8_leads_5 : decode cX8_leads 5 = .ok (.iaload, 1) := by decide +kernel
theorem dX8_leads_6 : decode cX8_leads 6 = .ok (.istore_n 3, 1) := by decide +kernel
theorem dX8_leads_7 : decode cX8_leads 7 = .ok (.iconst 0, 1) := by decide +kernel
theorem dX8_leads_8 : decode cX8_leads 8 = .ok (.istore 4, 2) := by decide +kernel
theorem dX8_leads_10 : decode cX8_leads 10 = .ok (.iload 4, 2) := by decide +kernel
theorem dX8_leads_12 : decode cX8_leads 12 = .ok (.aload_n 0, 1) := by decide +kernel
theorem dX8_leads_13 : decode cX8_leads 13 = .ok (.getfield 78, 3) := by decide +kernel
theorem dX8_leads_16 : decode cX8_leads 16 = .ok (.if_icmp .ge 50, 3) := by decide +kernel
theorem dX8_leads_19 : decode cX8_leads 19 = .ok (.iconst 0, 1) := by decide +kernel
theorem dX8_leads_20 : decode cX8_leads 20 = .ok (.istore 5, 2) := by decide +kernel
theorem dX8_leads_22 : decode cX8_leads 22 = .ok (.iload 5, 2) := by decide +kernel
theorem dX8_leads_24 : decode cX8_leads 24 = .ok (.aload_n 0, 1) := by decide +kernel
theorem dX8_leads_25 : decode cX8_leads 25 = .ok (.getfield 78, 3) := by decide +kernel
theorem dX8_leads_28 : decode cX8_leads 28 = .ok (.if_icmp .ge 32, 3) := by decide +kernel
theorem dX8_leads_31 : decode cX8_leads 31 = .ok (.iload_n 3, 1) := by decide +kernel
theorem dX8_leads_32 : decode cX8_leads 32 = .ok (.iload_n 3, 1) := by decide +kernel
theorem dX8_leads_33 : decode cX8_leads 33 = .ok (.iload 5, 2) := by decide +kernel
theorem dX8_leads_35 : decode cX8_leads 35 = .ok (.invokestatic 102, 3) := by decide +kernel
theorem dX8_leads_38 : decode cX8_leads 38 = .ok (.ifCond .eq 13, 3) := by decide +kernel
theorem dX8_leads_41 : decode cX8_leads 41 = .ok (.aload_n 0, 1) := by decide +kernel
theorem dX8_leads_42 : decode cX8_leads 42 = .ok (.getfield 26, 3) := by decide +kernel
theorem dX8_leads_45 : decode cX8_leads 45 = .ok (.iload 5, 2) := by decide +kernel
theorem dX8_leads_47 : decode cX8_leads 47 = .ok (.iaload, 1) := by decide +kernel
theorem dX8_leads_48 : decode cX8_leads 48 = .ok (.goto 4, 3) := by decide +kernel
theorem dX8_leads_51 : decode cX8_leads 51 = .ok (.iconst 0, 1) := by decide +kernel
theorem dX8_leads_52 : decode cX8_leads 52 = .ok (.ior, 1) := by decide +kernel
theorem dX8_leads_53 : decode cX8_leads 53 = .ok (.istore_n 3, 1) := by decide +kernel
theorem dX8_leads_54 : decode cX8_leads 54 = .ok (.iinc 5 1, 3) := by decide +kernel
theorem dX8_leads_57 : decode cX8_leads 57 = .ok (.goto (-35), 3) := by decide +kernel
theorem dX8_leads_60 : decode cX8_leads 60 = .ok (.iinc 4 1, 3) := by decide +kernel
theorem dX8_leads_63 : decode cX8_leads 63 = .ok (.goto (-53), 3) := by decide +kernel
theorem dX8_leads_66 : decode cX8_leads 66 = .ok (.iload_n 3, 1) := by decide +kernel
theorem dX8_leads_67 : decode cX8_leads 67 = .ok (.iload_n 2, 1) := by decide +kernel
theorem dX8_leads_68 : decode cX8_leads 68 = .ok (.invokestatic 102, 3) := by decide +kernel
theorem dX8_leads_71 : decode cX8_leads 71 = .ok (.ireturn, 1) := by decide +kernel
set_option maxRecDepth 20000 in
theorem ggX8_whyNotGive_X8_isTask : GoodIn wsX8_whyNotGive wsX8_isTask := goodIn_r _ [6, 7, 15, 16, 17, 18, 19, 20, 21, 22, 23, 24, 25, 26, 27, 28, 29, 30, 31, 32, 33, 34, 35, 36, 37, 38, 39, 40, 41, 42, 43, 44] (by decide +kernel) (by decide +kernel)
set_option maxRecDepth 20000 in
theorem gX8_whyNotGive_X8_isTask : GoodIn wsX8_whyNotGive (wsV RX8 98 RX8 yX8_isTask wsX8_isTask) := goodIn_app (goodIn_of _ (by decide +kernel)) ggX8_whyNotGive_X8_isTask
set_option maxRecDepth 20000 in
theorem ggX8_whyNotGive_X8_has : GoodIn wsX8_whyNotGive wsX8_has := goodIn_r _ [10] (by decide +kernel) (by decide +kernel)
set_option maxRecDepth 20000 in
theorem gX8_whyNotGive_X8_has : GoodIn wsX8_whyNotGive (va_wsS RX8 102 yX8_has wsX8_has) := goodIn_app (goodIn_of _ (by decide +kernel)) ggX8_whyNotGive_X8_has
set_option maxRecDepth 20000 in
theorem ggX8_whyNotGive_X8_leads : GoodIn wsX8_whyNotGive wsX8_leads := goodIn_r _ [14, 1, 7, 8, 9, 5, 10, 15, 16, 17, 18, 19, 20, 21, 22, 23, 24, 25, 26, 27, 28, 29, 30, 31, 32, 33, 34, 35, 36, 37, 38, 39, 40, 41, 42, 43, 44] (by decide +kernel) (by decide +kernel)
set_option maxRecDepth 20000 in
theorem gX8_whyNotGive_X8_leads : GoodIn wsX8_whyNotGive (wsV RX8 106 RX8 yX8_leads wsX8_leads) := goodIn_app (goodIn_of _ (by decide +kernel)) ggX8_whyNotGive_X8_leads
theorem dX8_whyNotGive_0 : decode cX8_whyNotGive 0 = .ok (.aload_n 0, 1) := by decide +kernel
theorem dX8_whyNotGive_1 : decode cX8_whyNotGive 1 = .ok (.iload_n 1, 1) := by decide +kernel
theorem dX8_whyNotGive_2 : decode cX8_whyNotGive 2 = .ok (.invokevirtual 98, 3) := by decide +kernel
theorem dX8_whyNotGive_5 : decode cX8_whyNotGive 5 = .ok (.ifCond .eq 11, 3) := by decide +kernel
theorem dX8_whyNotGive_8 : decode cX8_whyNotGive 8 = .ok (.aload_n 0, 1) := by decide +kernel
theorem dX8_whyNotGive_9 : decode cX8_whyNotGive 9 = .ok (.iload_n 2, 1) := by decide +kernel
theorem dX8_whyNotGive_10 : decode cX8_whyNotGive 10 = .ok (.invokevirtual 98, 3) := by decide +kernel
theorem dX8_whyNotGive_13 : decode cX8_whyNotGive 13 = .ok (.ifCond .ne 5, 3) := by decide +kernel
theorem dX8_whyNotGive_16 : decode cX8_whyNotGive 16 = .ok (.iconst 1, 1) := by decide +kernel
theorem dX8_whyNotGive_17 : decode cX8_whyNotGive 17 = .ok (.ireturn, 1) := by decide +kernel
theorem dX8_whyNotGive_18 : decode cX8_whyNotGive 18 = .ok (.iload_n 1, 1) := by decide +kernel
theorem dX8_whyNotGive_19 : decode cX8_whyNotGive 19 = .ok (.iload_n 2, 1) := by decide +kernel
theorem dX8_whyNotGive_20 : decode cX8_whyNotGive 20 = .ok (.if_icmp .ne 5, 3) := by decide +kernel
theorem dX8_whyNotGive_23 : decode cX8_whyNotGive 23 = .ok (.iconst 2, 1) := by decide +kernel
theorem dX8_whyNotGive_24 : decode cX8_whyNotGive 24 = .ok (.ireturn, 1) := by decide +kernel
theorem dX8_whyNotGive_25 : decode cX8_whyNotGive 25 = .ok (.aload_n 0, 1) := by decide +kernel
theorem dX8_whyNotGive_26 : decode cX8_whyNotGive 26 = .ok (.getfield 26, 3) := by decide +kernel
theorem dX8_whyNotGive_29 : decode cX8_whyNotGive 29 = .ok (.iload_n 1, 1) := by decide +kernel
theorem dX8_whyNotGive_30 : decode cX8_whyNotGive 30 = .ok (.iaload, 1) := by decide +kernel
theorem dX8_whyNotGive_31 : decode cX8_whyNotGive 31 = .ok (.iload_n 2, 1) := by decide +kernel
theorem dX8_whyNotGive_32 : decode cX8_whyNotGive 32 = .ok (.invokestatic 102, 3) := by decide +kernel
theorem dX8_whyNotGive_35 : decode cX8_whyNotGive 35 = .ok (.iload_n 3, 1) := by decide +kernel
theorem dX8_whyNotGive_36 : decode cX8_whyNotGive 36 = .ok (.if_icmp .eq 16, 3) := by decide +kernel
theorem dX8_whyNotGive_39 : decode cX8_whyNotGive 39 = .ok (.iload_n 3, 1) := by decide +kernel
theorem dX8_whyNotGive_40 : decode cX8_whyNotGive 40 = .ok (.ifCond .eq 16, 3) := by decide +kernel
theorem dX8_whyNotGive_43 : decode cX8_whyNotGive 43 = .ok (.aload_n 0, 1) := by decide +kernel
theorem dX8_whyNotGive_44 : decode cX8_whyNotGive 44 = .ok (.iload_n 2, 1) := by decide +kernel
theorem dX8_whyNotGive_45 : decode cX8_whyNotGive 45 = .ok (.iload_n 1, 1) := by decide +kernel
theorem dX8_whyNotGive_46 : decode cX8_whyNotGive 46 = .ok (.invokevirtual 106, 3) := by decide +kernel
theorem dX8_whyNotGive_49 : decode cX8_whyNotGive 49 = .ok (.ifCond .eq 7, 3) := by decide +kernel
theorem dX8_whyNotGive_52 : decode cX8_whyNotGive 52 = .ok (.iconst 3, 1) := by decide +kernel
theorem dX8_whyNotGive_53 : decode cX8_whyNotGive 53 = .ok (.goto 4, 3) := by decide +kernel
theorem dX8_whyNotGive_56 : decode cX8_whyNotGive 56 = .ok (.iconst 0, 1) := by decide +kernel
theorem dX8_whyNotGive_57 : decode cX8_whyNotGive 57 = .ok (.ireturn, 1) := by decide +kernel
theorem dX8_putGiven_0 : decode cX8_putGiven 0 = .ok (.aload_n 0, 1) := by decide +kernel
theorem dX8_putGiven_1 : decode cX8_putGiven 1 = .ok (.getfield 26, 3) := by decide +kernel
theorem dX8_putGiven_4 : decode cX8_putGiven 4 = .ok (.iload_n 1, 1) := by decide +kernel
theorem dX8_putGiven_5 : decode cX8_putGiven 5 = .ok (.iload_n 3, 1) := by decide +kernel
theorem dX8_putGiven_6 : decode cX8_putGiven 6 = .ok (.ifCond .eq 16, 3) := by decide +kernel
theorem dX8_putGiven_9 : decode cX8_putGiven 9 = .ok (.aload_n 0, 1) := by decide +kernel
theorem dX8_putGiven_10 : decode cX8_putGiven 10 = .ok (.getfield 26, 3) := by decide +kernel
theorem dX8_putGiven_13 : decode cX8_putGiven 13 = .ok (.iload_n 1, 1) := by decide +kernel
theorem dX8_putGiven_14 : decode cX8_putGiven 14 = .ok (.iaload, 1) := by decide +kernel
theorem dX8_putGiven_15 : decode cX8_putGiven 15 = .ok (.iconst 1, 1) := by decide +kernel
theorem dX8_putGiven_16 : decode cX8_putGiven 16 = .ok (.iload_n 2, 1) := by decide +kernel
theorem dX8_putGiven_17 : decode cX8_putGiven 17 = .ok (.ishl, 1) := by decide +kernel
theorem dX8_putGiven_18 : decode cX8_putGiven 18 = .ok (.ior, 1) := by decide +kernel
theorem dX8_putGiven_19 : decode cX8_putGiven 19 = .ok (.goto 15, 3) := by decide +kernel
theorem dX8_putGiven_22 : decode cX8_putGiven 22 = .ok (.aload_n 0, 1) := by decide +kernel
theorem dX8_putGiven_23 : decode cX8_putGiven 23 = .ok (.getfield 26, 3) := by decide +kernel
theorem dX8_putGiven_26 : decode cX8_putGiven 26 = .ok (.iload_n 1, 1) := by decide +kernel
theorem dX8_putGiven_27 : decode cX8_putGiven 27 = .ok (.iaload, 1) := by decide +kernel
theorem dX8_putGiven_28 : decode cX8_putGiven 28 = .ok (.iconst 1, 1) := by decide +kernel
theorem dX8_putGiven_29 : decode cX8_putGiven 29 = .ok (.iload_n 2, 1) := by decide +kernel
theorem dX8_putGiven_30 : decode cX8_putGiven 30 = .ok (.ishl, 1) := by decide +kernel
theorem dX8_putGiven_31 : decode cX8_putGiven 31 = .ok (.iconst (-1), 1) := by decide +kernel
theorem dX8_putGiven_32 : decode cX8_putGiven 32 = .ok (.ixor, 1) := by decide +kernel
theorem dX8_putGiven_33 : decode cX8_putGiven 33 = .ok (.iand, 1) := by decide +kernel
theorem dX8_putGiven_34 : decode cX8_putGiven 34 = .ok (.iastore, 1) := by decide +kernel
theorem dX8_putGiven_35 : decode cX8_putGiven 35 = .ok (.return_, 1) := by decide +kernel
theorem dX8_bits_0 : decode cX8_bits 0 = .ok (.iconst 0, 1) := by decide +kernel
theorem dX8_bits_1 : decode cX8_bits 1 = .ok (.istore_n 1, 1) := by decide +kernel
theorem dX8_bits_2 : decode cX8_bits 2 = .ok (.iconst 0, 1) := by decide +kernel
theorem dX8_bits_3 : decode cX8_bits 3 = .ok (.istore_n 2, 1) := by decide +kernel
theorem dX8_bits_4 : decode cX8_bits 4 = .ok (.iload_n 2, 1) := by decide +kernel
theorem dX8_bits_5 : decode cX8_bits 5 = .ok (.bipush 8, 2) := by decide +kernel
theorem dX8_bits_7 : decode cX8_bits 7 = .ok (.if_icmp .ge 17, 3) := by decide +kernel
theorem dX8_bits_10 : decode cX8_bits 10 = .ok (.iload_n 1, 1) := by decide +kernel
theorem dX8_bits_11 : decode cX8_bits 11 = .ok (.iload_n 0, 1) := by decide +kernel
theorem dX8_bits_12 : decode cX8_bits 12 = .ok (.iload_n 2, 1) := by decide +kernel
theorem dX8_bits_13 : decode cX8_bits 13 = .ok (.ishr, 1) := by decide +kernel
theorem dX8_bits_14 : decode cX8_bits 14 = .ok (.iconst 1, 1) := by decide +kernel
theorem dX8_bits_15 : decode cX8_bits 15 = .ok (.iand, 1) := by decide +kernel
theorem dX8_bits_16 : decode cX8_bits 16 = .ok (.iadd, 1) := by decide +kernel
theorem dX8_bits_17 : decode cX8_bits 17 = .ok (.istore_n 1, 1) := by decide +kernel
theorem dX8_bits_18 : decode cX8_bits 18 = .ok (.iinc 2 1, 3) := by decide +kernel
theorem dX8_bits_21 : decode cX8_bits 21 = .ok (.goto (-17), 3) := by decide +kernel
theorem dX8_bits_24 : decode cX8_bits 24 = .ok (.iload_n 1, 1) := by decide +kernel
theorem dX8_bits_25 : decode cX8_bits 25 = .ok (.ireturn, 1) := by decide +kernel
set_option maxRecDepth 20000 in
theorem ggX8_givenMany_X8_bits : GoodIn wsX8_givenMany wsX8_bits := goodIn_r _ [6] (by decide +kernel) (by decide +kernel)
set_option maxRecDepth 20000 in
theorem gX8_givenMany_X8_bits : GoodIn wsX8_givenMany (va_wsS RX8 109 yX8_bits wsX8_bits) := goodIn_app (goodIn_of _ (by decide +kernel)) ggX8_givenMany_X8_bits
theorem dX8_givenMany_0 : decode cX8_givenMany 0 = .ok (.iconst 0, 1) := by decide +kernel
theorem dX8_givenMany_1 : decode cX8_givenMany 1 = .ok (.istore_n 1, 1) := by decide +kernel
theorem dX8_givenMany_2 : decode cX8_givenMany 2 = .ok (.iconst 0, 1) := by decide +kernel
theorem dX8_givenMany_3 : decode cX8_givenMany 3 = .ok (.istore_n 2, 1) := by decide +kernel
theorem dX8_givenMany_4 : decode cX8_givenMany 4 = .ok (.iload_n 2, 1) := by decide +kernel
theorem dX8_givenMany_5 : decode cX8_givenMany 5 = .ok (.aload_n 0, 1) := by decide +kernel
theorem dX8_givenMany_6 : decode cX8_givenMany 6 = .ok (.getfield 78, 3) := by decide +kernel
theorem dX8_givenMany_9 : decode cX8_givenMany 9 = .ok (.if_icmp .ge 21, 3) := by decide +kernel
theorem dX8_givenMany_12 : decode cX8_givenMany 12 = .ok (.iload_n 1, 1) := by decide +kernel
theorem dX8_givenMany_13 : decode cX8_givenMany 13 = .ok (.aload_n 0, 1) := by decide +kernel
theorem dX8_givenMany_14 : decode cX8_givenMany 14 = .ok (.getfield 26, 3) := by decide +kernel
theorem dX8_givenMany_17 : decode cX8_givenMany 17 = .ok (.iload_n 2, 1) := by decide +kernel
theorem dX8_givenMany_18 : decode cX8_givenMany 18 = .ok (.iaload, 1) := by decide +kernel
theorem dX8_givenMany_19 : decode cX8_givenMany 19 = .ok (.invokestatic 109, 3) := by decide +kernel
theorem dX8_givenMany_22 : decode cX8_givenMany 22 = .ok (.iadd, 1) := by decide +kernel
theorem dX8_givenMany_23 : decode cX8_givenMany 23 = .ok (.istore_n 1, 1) := by decide +kernel
theorem dX8_givenMany_24 : decode cX8_givenMany 24 = .ok (.iinc 2 1, 3) := by decide +kernel
theorem dX8_givenMany_27 : decode cX8_givenMany 27 = .ok (.goto (-23), 3) := by decide +kernel
theorem dX8_givenMany_30 : decode cX8_givenMany 30 = .ok (.iload_n 1, 1) := by decide +kernel
theorem dX8_givenMany_31 : decode cX8_givenMany 31 = .ok (.ireturn, 1) := by decide +kernel
set_option maxRecDepth 20000 in
theorem ggX8_give_X8_whyNotGive : GoodIn wsX8_give wsX8_whyNotGive := goodIn_r _ [6, 7, 8, 9, 10, 5, 11, 12, 13, 14, 15, 16, 17, 18, 19, 42, 43, 44, 45, 46, 47, 48, 49, 50, 51, 52, 53, 54, 55, 56, 57, 58, 59, 60, 61, 62, 63, 64, 65, 66, 67, 68, 69, 70, 71] (by decide +kernel) (by decide +kernel)
set_option maxRecDepth 20000 in
theorem gX8_give_X8_whyNotGive : GoodIn wsX8_give (wsV RX8 113 RX8 yX8_whyNotGive wsX8_whyNotGive) := goodIn_app (goodIn_of _ (by decide +kernel)) ggX8_give_X8_whyNotGive
set_option maxRecDepth 20000 in
theorem ggX8_give_X8_save : GoodIn wsX8_give wsX8_save := goodIn_r _ [23, 24, 25, 26, 12, 27, 28, 29, 30, 7, 42, 43, 44, 45, 46, 47, 48, 49, 50, 51, 52, 53, 54, 55, 56, 57, 58, 59, 60, 61, 62, 63, 64, 65, 66, 67, 68, 69, 70, 71] (by decide +kernel) (by decide +kernel)
set_option maxRecDepth 20000 in
theorem gX8_give_X8_save : GoodIn wsX8_give (wsV RX8 88 RX8 yX8_save wsX8_save) := goodIn_app (goodIn_of _ (by decide +kernel)) ggX8_give_X8_save
set_option maxRecDepth 20000 in
theorem ggX8_give_X8_putGiven : GoodIn wsX8_give wsX8_putGiven := goodIn_r _ [34, 7, 42, 43, 44, 45, 46, 47, 48, 49, 50, 51, 52, 53, 54, 55, 56, 57, 58, 59, 60, 61, 62, 63, 64, 65, 66, 67, 68, 69, 70, 71] (by decide +kernel) (by decide +kernel)
set_option maxRecDepth 20000 in
theorem gX8_give_X8_putGiven : GoodIn wsX8_give (wsV RX8 117 RX8 yX8_putGiven wsX8_putGiven) := goodIn_app (goodIn_of _ (by decide +kernel)) ggX8_give_X8_putGiven
set_option maxRecDepth 20000 in
theorem ggX8_give_X8_givenMany : GoodIn wsX8_give wsX8_givenMany := goodIn_r _ [38, 12, 7, 39, 40, 5, 41, 42, 43, 44, 45, 46, 47, 48, 49, 50, 51, 52, 53, 54, 55, 56, 57, 58, 59, 60, 61, 62, 63, 64, 65, 66, 67, 68, 69, 70, 71] (by decide +kernel) (by decide +kernel)
set_option maxRecDepth 20000 in
theorem gX8_give_X8_givenMany : GoodIn wsX8_give (wsV RX8 121 RX8 yX8_givenMany wsX8_givenMany) := goodIn_app (goodIn_of _ (by decide +kernel)) ggX8_give_X8_givenMany
theorem dX8_give_0 : decode cX8_give 0 = .ok (.aload_n 0, 1) := by decide +kernel
theorem dX8_give_1 : decode cX8_give 1 = .ok (.aload_n 0, 1) := by decide +kernel
theorem dX8_give_2 : decode cX8_give 2 = .ok (.iload_n 1, 1) := by decide +kernel
theorem dX8_give_3 : decode cX8_give 3 = .ok (.iload_n 2, 1) := by decide +kernel
theorem dX8_give_4 : decode cX8_give 4 = .ok (.iload_n 3, 1) := by decide +kernel
theorem dX8_give_5 : decode cX8_give 5 = .ok (.invokevirtual 113, 3) := by decide +kernel
theorem dX8_give_8 : decode cX8_give 8 = .ok (.putfield 75, 3) := by decide +kernel
theorem dX8_give_11 : decode cX8_give 11 = .ok (.aload_n 0, 1) := by decide +kernel
theorem dX8_give_12 : decode cX8_give 12 = .ok (.getfield 75, 3) := by decide +kernel
theorem dX8_give_15 : decode cX8_give 15 = .ok (.ifCond .le 5, 3) := by decide +kernel
theorem dX8_give_18 : decode cX8_give 18 = .ok (.iconst 0, 1) := by decide +kernel
theorem dX8_give_19 : decode cX8_give 19 = .ok (.ireturn, 1) := by decide +kernel
theorem dX8_give_20 : decode cX8_give 20 = .ok (.aload_n 0, 1) := by decide +kernel
theorem dX8_give_21 : decode cX8_give 21 = .ok (.invokevirtual 88, 3) := by decide +kernel
theorem dX8_give_24 : decode cX8_give 24 = .ok (.aload_n 0, 1) := by decide +kernel
theorem dX8_give_25 : decode cX8_give 25 = .ok (.iload_n 1, 1) := by decide +kernel
theorem dX8_give_26 : decode cX8_give 26 = .ok (.iload_n 2, 1) := by decide +kernel
theorem dX8_give_27 : decode cX8_give 27 = .ok (.iload_n 3, 1) := by decide +kernel
theorem dX8_give_28 : decode cX8_give 28 = .ok (.invokevirtual 117, 3) := by decide +kernel
theorem dX8_give_31 : decode cX8_give 31 = .ok (.aload_n 0, 1) := by decide +kernel
theorem dX8_give_32 : decode cX8_give 32 = .ok (.invokevirtual 121, 3) := by decide +kernel
theorem dX8_give_35 : decode cX8_give 35 = .ok (.ireturn, 1) := by decide +kernel
set_option maxRecDepth 20000 in
theorem ggX8_givenTo_X8_has : GoodIn wsX8_givenTo wsX8_has := goodIn_r _ [6] (by decide +kernel) (by decide +kernel)
set_option maxRecDepth 20000 in
theorem gX8_givenTo_X8_has : GoodIn wsX8_givenTo (va_wsS RX8 102 yX8_has wsX8_has) := goodIn_app (goodIn_of _ (by decide +kernel)) ggX8_givenTo_X8_has
theorem dX8_givenTo_0 : decode cX8_givenTo 0 = .ok (.iconst 0, 1) := by decide +kernel
theorem dX8_givenTo_1 : decode cX8_givenTo 1 = .ok (.istore_n 2, 1) := by decide +kernel
theorem dX8_givenTo_2 : decode cX8_givenTo 2 = .ok (.iconst 0, 1) := by decide +kernel
theorem dX8_givenTo_3 : decode cX8_givenTo 3 = .ok (.istore_n 3, 1) := by decide +kernel
theorem dX8_givenTo_4 : decode cX8_givenTo 4 = .ok (.iload_n 3, 1) := by decide +kernel
theorem dX8_givenTo_5 : decode cX8_givenTo 5 = .ok (.aload_n 0, 1) := by decide +kernel
theorem dX8_givenTo_6 : decode cX8_givenTo 6 = .ok (.getfield 78, 3) := by decide +kernel
theorem dX8_givenTo_9 : decode cX8_givenTo 9 = .ok (.if_icmp .ge 32, 3) := by decide +kernel
theorem dX8_givenTo_12 : decode cX8_givenTo 12 = .ok (.iload_n 2, 1) := by decide +kernel
theorem dX8_givenTo_13 : decode cX8_givenTo 13 = .ok (.aload_n 0, 1) := by decide +kernel
theorem dX8_givenTo_14 : decode cX8_givenTo 14 = .ok (.getfield 26, 3) := by decide +kernel
theorem dX8_givenTo_17 : decode cX8_givenTo 17 = .ok (.iload_n 3, 1) := by decide +kernel
theorem dX8_givenTo_18 : decode cX8_givenTo 18 = .ok (.iaload, 1) := by decide +kernel
theorem dX8_givenTo_19 : decode cX8_givenTo 19 = .ok (.iload_n 1, 1) := by decide +kernel
theorem dX8_givenTo_20 : decode cX8_givenTo 20 = .ok (.invokestatic 102, 3) := by decide +kernel
theorem dX8_givenTo_23 : decode cX8_givenTo 23 = .ok (.ifCond .eq 9, 3) := by decide +kernel
theorem dX8_givenTo_26 : decode cX8_givenTo 26 = .ok (.iconst 1, 1) := by decide +kernel
theorem dX8_givenTo_27 : decode cX8_givenTo 27 = .ok (.iload_n 3, 1) := by decide +kernel
theorem dX8_givenTo_28 : decode cX8_givenTo 28 = .ok (.ishl, 1) := by decide +kernel
theorem dX8_givenTo_29 : decode cX8_givenTo 29 = .ok (.goto 4, 3) := by decide +kernel
theorem dX8_givenTo_32 : decode cX8_givenTo 32 = .ok (.iconst 0, 1) := by decide +kernel
theorem dX8_givenTo_33 : decode cX8_givenTo 33 = .ok (.ior, 1) := by decide +kernel
theorem dX8_givenTo_34 : decode cX8_givenTo 34 = .ok (.istore_n 2, 1) := by decide +kernel
theorem dX8_givenTo_35 : decode cX8_givenTo 35 = .ok (.iinc 3 1, 3) := by decide +kernel
theorem dX8_givenTo_38 : decode cX8_givenTo 38 = .ok (.goto (-34), 3) := by decide +kernel
theorem dX8_givenTo_41 : decode cX8_givenTo 41 = .ok (.iload_n 2, 1) := by decide +kernel
theorem dX8_givenTo_42 : decode cX8_givenTo 42 = .ok (.ireturn, 1) := by decide +kernel
set_option maxRecDepth 20000 in
theorem ggX8_isDominating_X8_givenTo : GoodIn wsX8_isDominating wsX8_givenTo := goodIn_r _ [10, 11, 1, 12, 13, 9, 14, 15, 16, 17, 18, 19, 20, 21, 22, 23, 24, 25, 26, 27, 28, 29, 30, 31, 32, 33, 34, 35, 36, 37, 38, 39, 40, 41, 42, 43, 44] (by decide +kernel) (by decide +kernel)
set_option maxRecDepth 20000 in
theorem gX8_isDominating_X8_givenTo : GoodIn wsX8_isDominating (wsV RX8 125 RX8 yX8_givenTo wsX8_givenTo) := goodIn_app (goodIn_of _ (by decide +kernel)) ggX8_isDominating_X8_givenTo
set_option maxRecDepth 20000 in
theorem ggX8_isDominating_X8_has : GoodIn wsX8_isDominating wsX8_has := goodIn_r _ [14] (by decide +kernel) (by decide +kernel)
set_option maxRecDepth 20000 in
theorem gX8_isDominating_X8_has : GoodIn wsX8_isDominating (va_wsS RX8 102 yX8_has wsX8_has) := goodIn_app (goodIn_of _ (by decide +kernel)) ggX8_isDominating_X8_has
theorem dX8_isDominating_0 : decode cX8_isDominating 0 = .ok (.iconst 1, 1) := by decide +kernel
theorem dX8_isDominating_1 : decode cX8_isDominating 1 = .ok (.iload_n 1, 1) := by decide +kernel
theorem dX8_isDominating_2 : decode cX8_isDominating 2 = .ok (.ishl, 1) := by decide +kernel
theorem dX8_isDominating_3 : decode cX8_isDominating 3 = .ok (.iconst 1, 1) := by decide +kernel
theorem dX8_isDominating_4 : decode cX8_isDominating 4 = .ok (.iload_n 2, 1) := by decide +kernel
theorem dX8_isDominating_5 : decode cX8_isDominating 5 = .ok (.ishl, 1) := by decide +kernel
theorem dX8_isDominating_6 : decode cX8_isDominating 6 = .ok (.ior, 1) := by decide +kernel
theorem dX8_isDominating_7 : decode cX8_isDominating 7 = .ok (.iconst (-1), 1) := by decide +kernel
theorem dX8_isDominating_8 : decode cX8_isDominating 8 = .ok (.ixor, 1) := by decide +kernel
theorem dX8_isDominating_9 : decode cX8_isDominating 9 = .ok (.istore_n 3, 1) := by decide +kernel
theorem dX8_isDominating_10 : decode cX8_isDominating 10 = .ok (.aload_n 0, 1) := by decide +kernel
theorem dX8_isDominating_11 : decode cX8_isDominating 11 = .ok (.iload_n 1, 1) := by decide +kernel
theorem dX8_isDominating_12 : decode cX8_isDominating 12 = .ok (.invokevirtual 125, 3) := by decide +kernel
theorem dX8_isDominating_15 : decode cX8_isDominating 15 = .ok (.iload_n 3, 1) := by decide +kernel
theorem dX8_isDominating_16 : decode cX8_isDominating 16 = .ok (.iand, 1) := by decide +kernel
theorem dX8_isDominating_17 : decode cX8_isDominating 17 = .ok (.istore 4, 2) := by decide +kernel
theorem dX8_isDominating_19 : decode cX8_isDominating 19 = .ok (.aload_n 0, 1) := by decide +kernel
theorem dX8_isDominating_20 : decode cX8_isDominating 20 = .ok (.iload_n 2, 1) := by decide +kernel
theorem dX8_isDominating_21 : decode cX8_isDominating 21 = .ok (.invokevirtual 125, 3) := by decide +kernel
theorem dX8_isDominating_24 : decode cX8_isDominating 24 = .ok (.iload_n 3, 1) := by decide +kernel
theorem dX8_isDominating_25 : decode cX8_isDominating 25 = .ok (.iand, 1) := by decide +kernel
theorem dX8_isDominating_26 : decode cX8_isDominating 26 = .ok (.istore 5, 2) := by decide +kernel
theorem dX8_isDominating_28 : decode cX8_isDominating 28 = .ok (.aload_n 0, 1) := by decide +kernel
theorem dX8_isDominating_29 : decode cX8_isDominating 29 = .ok (.getfield 26, 3) := by decide +kernel
theorem dX8_isDominating_32 : decode cX8_isDominating 32 = .ok (.iload_n 1, 1) := by decide +kernel
theorem dX8_isDominating_33 : decode cX8_isDominating 33 = .ok (.iaload, 1) := by decide +kernel
theorem dX8_isDominating_34 : decode cX8_isDominating 34 = .ok (.iload_n 3, 1) := by decide +kernel
theorem dX8_isDominating_35 : decode cX8_isDominating 35 = .ok (.iand, 1) := by decide +kernel
theorem dX8_isDominating_36 : decode cX8_isDominating 36 = .ok (.istore 6, 2) := by decide +kernel
theorem dX8_isDominating_38 : decode cX8_isDominating 38 = .ok (.aload_n 0, 1) := by decide +kernel
theorem dX8_isDominating_39 : decode cX8_isDominating 39 = .ok (.getfield 26, 3) := by decide +kernel
theorem dX8_isDominating_42 : decode cX8_isDominating 42 = .ok (.iload_n 2, 1) := by decide +kernel
theorem dX8_isDominating_43 : decode cX8_isDominating 43 = .ok (.iaload, 1) := by decide +kernel
theorem dX8_isDominating_44 : decode cX8_isDominating 44 = .ok (.iload_n 3, 1) := by decide +kernel
theorem dX8_isDominating_45 : decode cX8_isDominating 45 = .ok (.iand, 1) := by decide +kernel
theorem dX8_isDominating_46 : decode cX8_isDominating 46 = .ok (.istore 7, 2) := by decide +kernel
theorem dX8_isDominating_48 : decode cX8_isDominating 48 = .ok (.aload_n 0, 1) := by decide +kernel
theorem dX8_isDominating_49 : decode cX8_isDominating 49 = .ok (.getfield 17, 3) := by decide +kernel
theorem dX8_isDominating_52 : decode cX8_isDominating 52 = .ok (.iload_n 1, 1) := by decide +kernel
theorem dX8_isDominating_53 : decode cX8_isDominating 53 = .ok (.iaload, 1) := by decide +kernel
theorem dX8_isDominating_54 : decode cX8_isDominating 54 = .ok (.aload_n 0, 1) := by decide +kernel
theorem dX8_isDominating_55 : decode cX8_isDominating 55 = .ok (.getfield 17, 3) := by decide +kernel
theorem dX8_isDominating_58 : decode cX8_isDominating 58 = .ok (.iload_n 2, 1) := by decide +kernel
theorem dX8_isDominating_59 : decode cX8_isDominating 59 = .ok (.iaload, 1) := by decide +kernel
theorem dX8_isDominating_60 : decode cX8_isDominating 60 = .ok (.if_icmp .ne 36, 3) := by decide +kernel
theorem dX8_isDominating_63 : decode cX8_isDominating 63 = .ok (.aload_n 0, 1) := by decide +kernel
theorem dX8_isDominating_64 : decode cX8_isDominating 64 = .ok (.getfield 20, 3) := by decide +kernel
theorem dX8_isDominating_67 : decode cX8_isDominating 67 = .ok (.iload_n 1, 1) := by decide +kernel
theorem dX8_isDominating_68 : decode cX8_isDominating 68 = .ok (.iaload, 1) := by decide +kernel
theorem dX8_isDominating_69 : decode cX8_isDominating 69 = .ok (.aload_n 0, 1) := by decide +kernel
theorem dX8_isDominating_70 : decode cX8_isDominating 70 = .ok (.getfield 20, 3) := by decide +kernel
theorem dX8_isDominating_73 : decode cX8_isDominating 73 = .ok (.iload_n 2, 1) := by decide +kernel
theorem dX8_isDominating_74 : decode cX8_isDominating 74 = .ok (.iaload, 1) := by decide +kernel
theorem dX8_isDominating_75 : decode cX8_isDominating 75 = .ok (.if_icmp .ne 21, 3) := by decide +kernel
theorem dX8_isDominating_78 : decode cX8_isDominating 78 = .ok (.iload 4, 2) := by decide +kernel
theorem dX8_isDominating_80 : decode cX8_isDominating 80 = .ok (.iload 5, 2) := by decide +kernel
theorem dX8_isDominating_82 : decode cX8_isDominating 82 = .ok (.if_icmp .ne 14, 3) := by decide +kernel
theorem dX8_isDominating_85 : decode cX8_isDominating 85 = .ok (.iload 6, 2) := by decide +kernel
theorem dX8_isDominating_87 : decode cX8_isDominating 87 = .ok (.iload 7, 2) := by decide +kernel
theorem dX8_isDominating_89 : decode cX8_isDominating 89 = .ok (.if_icmp .ne 7, 3) := by decide +kernel
theorem dX8_isDominating_92 : decode cX8_isDominating 92 = .ok (.iconst 1, 1) := by decide +kernel
theorem dX8_isDominating_93 : decode cX8_isDominating 93 = .ok (.goto 4, 3) := by decide +kernel
theorem dX8_isDominating_96 : decode cX8_isDominating 96 = .ok (.iconst 0, 1) := by decide +kernel
theorem dX8_isDominating_97 : decode cX8_isDominating 97 = .ok (.istore 8, 2) := by decide +kernel
theorem dX8_isDominating_99 : decode cX8_isDominating 99 = .ok (.iload_n 1, 1) := by decide +kernel
theorem dX8_isDominating_100 : decode cX8_isDominating 100 = .ok (.iload_n 2, 1) := by decide +kernel
theorem dX8_isDominating_101 : decode cX8_isDominating 101 = .ok (.if_icmp .eq 67, 3) := by decide +kernel
theorem dX8_isDominating_104 : decode cX8_isDominating 104 = .ok (.aload_n 0, 1) := by decide +kernel
theorem dX8_isDominating_105 : decode cX8_isDominating 105 = .ok (.getfield 13, 3) := by decide +kernel
theorem dX8_isDominating_108 : decode cX8_isDominating 108 = .ok (.iload_n 1, 1) := by decide +kernel
theorem dX8_isDominating_109 : decode cX8_isDominating 109 = .ok (.iaload, 1) := by decide +kernel
theorem dX8_isDominating_110 : decode cX8_isDominating 110 = .ok (.aload_n 0, 1) := by decide +kernel
theorem dX8_isDominating_111 : decode cX8_isDominating 111 = .ok (.getfield 13, 3) := by decide +kernel
theorem dX8_isDominating_114 : decode cX8_isDominating 114 = .ok (.iload_n 2, 1) := by decide +kernel
theorem dX8_isDominating_115 : decode cX8_isDominating 115 = .ok (.iaload, 1) := by decide +kernel
theorem dX8_isDominating_116 : decode cX8_isDominating 116 = .ok (.if_icmp .ne 52, 3) := by decide +kernel
theorem dX8_isDominating_119 : decode cX8_isDominating 119 = .ok (.aload_n 0, 1) := by decide +kernel
theorem dX8_isDominating_120 : decode cX8_isDominating 120 = .ok (.getfield 23, 3) := by decide +kernel
theorem dX8_isDominating_123 : decode cX8_isDominating 123 = .ok (.iload_n 1, 1) := by decide +kernel
theorem dX8_isDominating_124 : decode cX8_isDominating 124 = .ok (.iaload, 1) := by decide +kernel
theorem dX8_isDominating_125 : decode cX8_isDominating 125 = .ok (.aload_n 0, 1) := by decide +kernel
theorem dX8_isDominating_126 : decode cX8_isDominating 126 = .ok (.getfield 23, 3) := by decide +kernel
theorem dX8_isDominating_129 : decode cX8_isDominating 129 = .ok (.iload_n 2, 1) := by decide +kernel
theorem dX8_isDominating_130 : decode cX8_isDominating 130 = .ok (.iaload, 1) := by decide +kernel
theorem dX8_isDominating_131 : decode cX8_isDominating 131 = .ok (.if_icmp .ne 37, 3) := by decide +kernel
theorem dX8_isDominating_134 : decode cX8_isDominating 134 = .ok (.aload_n 0, 1) := by decide +kernel
theorem dX8_isDominating_135 : decode cX8_isDominating 135 = .ok (.getfield 17, 3) := by decide +kernel
theorem dX8_isDominating_138 : decode cX8_isDominating 138 = .ok (.iload_n 1, 1) := by decide +kernel
theorem dX8_isDominating_139 : decode cX8_isDominating 139 = .ok (.iaload, 1) := by decide +kernel
theorem dX8_isDominating_140 : decode cX8_isDominating 140 = .ok (.aload_n 0, 1) := by decide +kernel
theorem dX8_isDominating_141 : decode cX8_isDominating 141 = .ok (.getfield 17, 3) := by decide +kernel
theorem dX8_isDominating_144 : decode cX8_isDominating 144 = .ok (.iload_n 2, 1) := by decide +kernel
theorem dX8_isDominating_145 : decode cX8_isDominating 145 = .ok (.iaload, 1) := by decide +kernel
theorem dX8_isDominating_146 : decode cX8_isDominating 146 = .ok (.if_icmp .gt 22, 3) := by decide +kernel
theorem dX8_isDominating_149 : decode cX8_isDominating 149 = .ok (.aload_n 0, 1) := by decide +kernel
theorem dX8_isDominating_150 : decode cX8_isDominating 150 = .ok (.getfield 20, 3) := by decide +kernel
theorem dX8_isDominating_153 : decode cX8_isDominating 153 = .ok (.iload_n 1, 1) := by decide +kernel
theorem dX8_isDominating_154 : decode cX8_isDominating 154 = .ok (.iaload, 1) := by decide +kernel
theorem dX8_isDominating_155 : decode cX8_isDominating 155 = .ok (.aload_n 0, 1) := by decide +kernel
theorem dX8_isDominating_156 : decode cX8_isDominating 156 = .ok (.getfield 20, 3) := by decide +kernel
theorem dX8_isDominating_159 : decode cX8_isDominating 159 = .ok (.iload_n 2, 1) := by decide +kernel
theorem dX8_isDominating_160 : decode cX8_isDominating 160 = .ok (.iaload, 1) := by decide +kernel
theorem dX8_isDominating_161 : decode cX8_isDominating 161 = .ok (.if_icmp .gt 7, 3) := by decide +kernel
theorem dX8_isDominating_164 : decode cX8_isDominating 164 = .ok (.iconst 1, 1) := by decide +kernel
theorem dX8_isDominating_165 : decode cX8_isDominating 165 = .ok (.goto 4, 3) := by decide +kernel
theorem dX8_isDominating_168 : decode cX8_isDominating 168 = .ok (.iconst 0, 1) := by decide +kernel
theorem dX8_isDominating_169 : decode cX8_isDominating 169 = .ok (.istore 9, 2) := by decide +kernel
theorem dX8_isDominating_171 : decode cX8_isDominating 171 = .ok (.iload 9, 2) := by decide +kernel
theorem dX8_isDominating_173 : decode cX8_isDominating 173 = .ok (.ifCond .eq 40, 3) := by decide +kernel
theorem dX8_isDominating_176 : decode cX8_isDominating 176 = .ok (.iload 4, 2) := by decide +kernel
theorem dX8_isDominating_178 : decode cX8_isDominating 178 = .ok (.iload 5, 2) := by decide +kernel
theorem dX8_isDominating_180 : decode cX8_isDominating 180 = .ok (.iconst (-1), 1) := by decide +kernel
theorem dX8_isDominating_181 : decode cX8_isDominating 181 = .ok (.ixor, 1) := by decide +kernel
theorem dX8_isDominating_182 : decode cX8_isDominating 182 = .ok (.iand, 1) := by decide +kernel
theorem dX8_isDominating_183 : decode cX8_isDominating 183 = .ok (.ifCond .ne 30, 3) := by decide +kernel
theorem dX8_isDominating_186 : decode cX8_isDominating 186 = .ok (.iload 7, 2) := by decide +kernel
theorem dX8_isDominating_188 : decode cX8_isDominating 188 = .ok (.iload 6, 2) := by decide +kernel
theorem dX8_isDominating_190 : decode cX8_isDominating 190 = .ok (.iconst (-1), 1) := by decide +kernel
theorem dX8_isDominating_191 : decode cX8_isDominating 191 = .ok (.ixor, 1) := by decide +kernel
theorem dX8_isDominating_192 : decode cX8_isDominating 192 = .ok (.iand, 1) := by decide +kernel
theorem dX8_isDominating_193 : decode cX8_isDominating 193 = .ok (.ifCond .ne 20, 3) := by decide +kernel
theorem dX8_isDominating_196 : decode cX8_isDominating 196 = .ok (.aload_n 0, 1) := by decide +kernel
theorem dX8_isDominating_197 : decode cX8_isDominating 197 = .ok (.getfield 26, 3) := by decide +kernel
theorem dX8_isDominating_200 : decode cX8_isDominating 200 = .ok (.iload_n 2, 1) := by decide +kernel
theorem dX8_isDominating_201 : decode cX8_isDominating 201 = .ok (.iaload, 1) := by decide +kernel
theorem dX8_isDominating_202 : decode cX8_isDominating 202 = .ok (.iload_n 1, 1) := by decide +kernel
theorem dX8_isDominating_203 : decode cX8_isDominating 203 = .ok (.invokestatic 102, 3) := by decide +kernel
theorem dX8_isDominating_206 : decode cX8_isDominating 206 = .ok (.ifCond .ne 7, 3) := by decide +kernel
theorem dX8_isDominating_209 : decode cX8_isDominating 209 = .ok (.iconst 1, 1) := by decide +kernel
theorem dX8_isDominating_210 : decode cX8_isDominating 210 = .ok (.goto 4, 3) := by decide +kernel
theorem dX8_isDominating_213 : decode cX8_isDominating 213 = .ok (.iconst 0, 1) := by decide +kernel
theorem dX8_isDominating_214 : decode cX8_isDominating 214 = .ok (.istore 9, 2) := by decide +kernel
theorem dX8_isDominating_216 : decode cX8_isDominating 216 = .ok (.iload 9, 2) := by decide +kernel
theorem dX8_isDominating_218 : decode cX8_isDominating 218 = .ok (.ifCond .eq 17, 3) := by decide +kernel
theorem dX8_isDominating_221 : decode cX8_isDominating 221 = .ok (.iload 8, 2) := by decide +kernel
theorem dX8_isDominating_223 : decode cX8_isDominating 223 = .ok (.ifCond .eq 8, 3) := by decide +kernel
theorem dX8_isDominating_226 : decode cX8_isDominating 226 = .ok (.iload_n 1, 1) := by decide +kernel
theorem dX8_isDominating_227 : decode cX8_isDominating 227 = .ok (.iload_n 2, 1) := by decide +kernel
theorem dX8_isDominating_228 : decode cX8_isDominating 228 = .ok (.if_icmp .ge 7, 3) := by decide +kernel
theorem dX8_isDominating_231 : decode cX8_isDominating 231 = .ok (.iconst 1, 1) := by decide +kernel
theorem dX8_isDominating_232 : decode cX8_isDominating 232 = .ok (.goto 4, 3) := by decide +kernel
theorem dX8_isDominating_235 : decode cX8_isDominating 235 = .ok (.iconst 0, 1) := by decide +kernel
theorem dX8_isDominating_236 : decode cX8_isDominating 236 = .ok (.ireturn, 1) := by decide +kernel
set_option maxRecDepth 20000 in
theorem ggX8_dominates_X8_isTask : GoodIn wsX8_dominates wsX8_isTask := goodIn_r _ [6, 7, 24, 25, 26, 27, 28, 29, 30, 31, 32, 33, 34, 35, 36, 37, 38, 39, 40, 41, 42, 43, 44, 45, 46, 47, 48, 49, 50, 51, 52, 53] (by decide +kernel) (by decide +kernel)
set_option maxRecDepth 20000 in
theorem gX8_dominates_X8_isTask : GoodIn wsX8_dominates (wsV RX8 98 RX8 yX8_isTask wsX8_isTask) := goodIn_app (goodIn_of _ (by decide +kernel)) ggX8_dominates_X8_isTask
set_option maxRecDepth 20000 in
theorem ggX8_dominates_X8_isDominating : GoodIn wsX8_dominates wsX8_isDominating := goodIn_r _ [11, 12, 13, 14, 15, 16, 17, 18, 19, 5, 20, 7, 21, 22, 23, 24, 25, 26, 27, 28, 29, 30, 31, 32, 33, 34, 35, 36, 37, 38, 39, 40, 41, 42, 43, 44, 45, 46, 47, 48, 49, 50, 51, 52, 53] (by decide +kernel) (by decide +kernel)
set_option maxRecDepth 20000 in
theorem gX8_dominates_X8_isDominating : GoodIn wsX8_dominates (wsV RX8 128 RX8 yX8_isDominating wsX8_isDominating) := goodIn_app (goodIn_of _ (by decide +kernel)) ggX8_dominates_X8_isDominating
theorem dX8_dominates_0 : decode cX8_dominates 0 = .ok (.aload_n 0, 1) := by decide +kernel
theorem dX8_dominates_1 : decode cX8_dominates 1 = .ok (.aload_n 0, 1) := by decide +kernel
theorem dX8_dominates_2 : decode cX8_dominates 2 = .ok (.iload_n 1, 1) := by decide +kernel
theorem dX8_dominates_3 : decode cX8_dominates 3 = .ok (.invokevirtual 98, 3) := by decide +kernel
theorem dX8_dominates_6 : decode cX8_dominates 6 = .ok (.ifCond .eq 15, 3) := by decide +kernel
theorem dX8_dominates_9 : decode cX8_dominates 9 = .ok (.aload_n 0, 1) := by decide +kernel
theorem dX8_dominates_10 : decode cX8_dominates 10 = .ok (.iload_n 2, 1) := by decide +kernel
theorem dX8_dominates_11 : decode cX8_dominates 11 = .ok (.invokevirtual 98, 3) := by decide +kernel
theorem dX8_dominates_14 : decode cX8_dominates 14 = .ok (.ifCond .eq 7, 3) := by decide +kernel
theorem dX8_dominates_17 : decode cX8_dominates 17 = .ok (.iconst 0, 1) := by decide +kernel
theorem dX8_dominates_18 : decode cX8_dominates 18 = .ok (.goto 4, 3) := by decide +kernel
theorem dX8_dominates_21 : decode cX8_dominates 21 = .ok (.iconst 1, 1) := by decide +kernel
theorem dX8_dominates_22 : decode cX8_dominates 22 = .ok (.putfield 75, 3) := by decide +kernel
theorem dX8_dominates_25 : decode cX8_dominates 25 = .ok (.aload_n 0, 1) := by decide +kernel
theorem dX8_dominates_26 : decode cX8_dominates 26 = .ok (.getfield 75, 3) := by decide +kernel
theorem dX8_dominates_29 : decode cX8_dominates 29 = .ok (.ifCond .ne 16, 3) := by decide +kernel
theorem dX8_dominates_32 : decode cX8_dominates 32 = .ok (.aload_n 0, 1) := by decide +kernel
theorem dX8_dominates_33 : decode cX8_dominates 33 = .ok (.iload_n 1, 1) := by decide +kernel
theorem dX8_dominates_34 : decode cX8_dominates 34 = .ok (.iload_n 2, 1) := by decide +kernel
theorem dX8_dominates_35 : decode cX8_dominates 35 = .ok (.invokevirtual 128, 3) := by decide +kernel
theorem dX8_dominates_38 : decode cX8_dominates 38 = .ok (.ifCond .eq 7, 3) := by decide +kernel
theorem dX8_dominates_41 : decode cX8_dominates 41 = .ok (.iconst 1, 1) := by decide +kernel
theorem dX8_dominates_42 : decode cX8_dominates 42 = .ok (.goto 4, 3) := by decide +kernel
theorem dX8_dominates_45 : decode cX8_dominates 45 = .ok (.iconst 0, 1) := by decide +kernel
theorem dX8_dominates_46 : decode cX8_dominates 46 = .ok (.ireturn, 1) := by decide +kernel
set_option maxRecDepth 20000 in
theorem ggX8_giveDominance_X8_save : GoodIn wsX8_giveDominance wsX8_save := goodIn_r _ [8, 9, 10, 11, 2, 12, 13, 14, 15, 3, 35, 36, 37, 38, 39, 40, 41, 42, 43, 44, 45, 46, 47, 48, 49, 50, 51, 52, 53, 54, 55, 56, 57, 58, 59, 60, 61, 62, 63, 64] (by decide +kernel) (by decide +kernel)
set_option maxRecDepth 20000 in
theorem gX8_giveDominance_X8_save : GoodIn wsX8_giveDominance (wsV RX8 88 RX8 yX8_save wsX8_save) := goodIn_app (goodIn_of _ (by decide +kernel)) ggX8_giveDominance_X8_save
set_option maxRecDepth 20000 in
theorem ggX8_giveDominance_X8_isDominating : GoodIn wsX8_giveDominance wsX8_isDominating := goodIn_r _ [19, 3, 13, 14, 12, 15, 20, 21, 22, 7, 23, 2, 24, 25, 26, 35, 36, 37, 38, 39, 40, 41, 42, 43, 44, 45, 46, 47, 48, 49, 50, 51, 52, 53, 54, 55, 56, 57, 58, 59, 60, 61, 62, 63, 64] (by decide +kernel) (by decide +kernel)
set_option maxRecDepth 20000 in
theorem gX8_giveDominance_X8_isDominating : GoodIn wsX8_giveDominance (wsV RX8 128 RX8 yX8_isDominating wsX8_isDominating) := goodIn_app (goodIn_of _ (by decide +kernel)) ggX8_giveDominance_X8_isDominating
set_option maxRecDepth 20000 in
theorem ggX8_giveDominance_X8_has : GoodIn wsX8_giveDominance wsX8_has := goodIn_r _ [26] (by decide +kernel) (by decide +kernel)
set_option maxRecDepth 20000 in
theorem gX8_giveDominance_X8_has : GoodIn wsX8_giveDominance (va_wsS RX8 102 yX8_has wsX8_has) := goodIn_app (goodIn_of _ (by decide +kernel)) ggX8_giveDominance_X8_has
set_option maxRecDepth 20000 in
theorem ggX8_giveDominance_X8_leads : GoodIn wsX8_giveDominance wsX8_leads := goodIn_r _ [30, 3, 2, 24, 25, 7, 26, 35, 36, 37, 38, 39, 40, 41, 42, 43, 44, 45, 46, 47, 48, 49, 50, 51, 52, 53, 54, 55, 56, 57, 58, 59, 60, 61, 62, 63, 64] (by decide +kernel) (by decide +kernel)
set_option maxRecDepth 20000 in
theorem gX8_giveDominance_X8_leads : GoodIn wsX8_giveDominance (wsV RX8 106 RX8 yX8_leads wsX8_leads) := goodIn_app (goodIn_of _ (by decide +kernel)) ggX8_giveDominance_X8_leads
set_option maxRecDepth 20000 in
theorem ggX8_giveDominance_X8_putGiven : GoodIn wsX8_giveDominance wsX8_putGiven := goodIn_r _ [34, 3, 35, 36, 37, 38, 39, 40, 41, 42, 43, 44, 45, 46, 47, 48, 49, 50, 51, 52, 53, 54, 55, 56, 57, 58, 59, 60, 61, 62, 63, 64] (by decide +kernel) (by decide +kernel)
set_option maxRecDepth 20000 in
theorem gX8_giveDominance_X8_putGiven : GoodIn wsX8_giveDominance (wsV RX8 117 RX8 yX8_putGiven wsX8_putGiven) := goodIn_app (goodIn_of _ (by decide +kernel)) ggX8_giveDominance_X8_putGiven
theorem dX8_giveDominance_0 : decode cX8_giveDominance 0 = .ok (.aload_n 0, 1) := by decide +kernel
theorem dX8_giveDominance_1 : decode cX8_giveDominance 1 = .ok (.iconst 0, 1) := by decide +kernel
theorem dX8_giveDominance_2 : decode cX8_giveDominance 2 = .ok (.putfield 75, 3) := by decide +kernel
theorem dX8_giveDominance_5 : decode cX8_giveDominance 5 = .ok (.aload_n 0, 1) := by decide +kernel
theorem dX8_giveDominance_6 : decode cX8_giveDominance 6 = .ok (.invokevirtual 88, 3) := by decide +kernel
theorem dX8_giveDominance_9 : decode cX8_giveDominance 9 = .ok (.iconst 0, 1) := by decide +kernel
theorem dX8_giveDominance_10 : decode cX8_giveDominance 10 = .ok (.istore_n 1, 1) := by decide +kernel
theorem dX8_giveDominance_11 : decode cX8_giveDominance 11 = .ok (.iconst 0, 1) := by decide +kernel
theorem dX8_giveDominance_12 : decode cX8_giveDominance 12 = .ok (.istore_n 2, 1) := by decide +kernel
theorem dX8_giveDominance_13 : decode cX8_giveDominance 13 = .ok (.iload_n 2, 1) := by decide +kernel
theorem dX8_giveDominance_14 : decode cX8_giveDominance 14 = .ok (.aload_n 0, 1) := by decide +kernel
theorem dX8_giveDominance_15 : decode cX8_giveDominance 15 = .ok (.getfield 78, 3) := by decide +kernel
theorem dX8_giveDominance_18 : decode cX8_giveDominance 18 = .ok (.if_icmp .ge 66, 3) := by decide +kernel
theorem dX8_giveDominance_21 : decode cX8_giveDominance 21 = .ok (.iconst 0, 1) := by decide +kernel
theorem dX8_giveDominance_22 : decode cX8_giveDominance 22 = .ok (.istore_n 3, 1) := by decide +kernel
theorem dX8_giveDominance_23 : decode cX8_giveDominance 23 = .ok (.iload_n 3, 1) := by decide +kernel
theorem dX8_giveDominance_24 : decode cX8_giveDominance 24 = .ok (.aload_n 0, 1) := by decide +kernel
theorem dX8_giveDominance_25 : decode cX8_giveDominance 25 = .ok (.getfield 78, 3) := by decide +kernel
theorem dX8_giveDominance_28 : decode cX8_giveDominance 28 = .ok (.if_icmp .ge 50, 3) := by decide +kernel
theorem dX8_giveDominance_31 : decode cX8_giveDominance 31 = .ok (.aload_n 0, 1) := by decide +kernel
theorem dX8_giveDominance_32 : decode cX8_giveDominance 32 = .ok (.iload_n 2, 1) := by decide +kernel
theorem dX8_giveDominance_33 : decode cX8_giveDominance 33 = .ok (.iload_n 3, 1) := by decide +kernel
theorem dX8_giveDominance_34 : decode cX8_giveDominance 34 = .ok (.invokevirtual 128, 3) := by decide +kernel
theorem dX8_giveDominance_37 : decode cX8_giveDominance 37 = .ok (.ifCond .eq 35, 3) := by decide +kernel
theorem dX8_giveDominance_40 : decode cX8_giveDominance 40 = .ok (.aload_n 0, 1) := by decide +kernel
theorem dX8_giveDominance_41 : decode cX8_giveDominance 41 = .ok (.getfield 26, 3) := by decide +kernel
theorem dX8_giveDominance_44 : decode cX8_giveDominance 44 = .ok (.iload_n 2, 1) := by decide +kernel
theorem dX8_giveDominance_45 : decode cX8_giveDominance 45 = .ok (.iaload, 1) := by decide +kernel
theorem dX8_giveDominance_46 : decode cX8_giveDominance 46 = .ok (.iload_n 3, 1) := by decide +kernel
theorem dX8_giveDominance_47 : decode cX8_giveDominance 47 = .ok (.invokestatic 102, 3) := by decide +kernel
theorem dX8_giveDominance_50 : decode cX8_giveDominance 50 = .ok (.ifCond .ne 22, 3) := by decide +kernel
theorem dX8_giveDominance_53 : decode cX8_giveDominance 53 = .ok (.aload_n 0, 1) := by decide +kernel
theorem dX8_giveDominance_54 : decode cX8_giveDominance 54 = .ok (.iload_n 3, 1) := by decide +kernel
theorem dX8_giveDominance_55 : decode cX8_giveDominance 55 = .ok (.iload_n 2, 1) := by decide +kernel
theorem dX8_giveDominance_56 : decode cX8_giveDominance 56 = .ok (.invokevirtual 106, 3) := by decide +kernel
theorem dX8_giveDominance_59 : decode cX8_giveDominance 59 = .ok (.ifCond .ne 13, 3) := by decide +kernel
theorem dX8_giveDominance_62 : decode cX8_giveDominance 62 = .ok (.aload_n 0, 1) := by decide +kernel
theorem dX8_giveDominance_63 : decode cX8_giveDominance 63 = .ok (.iload_n 2, 1) := by decide +kernel
theorem dX8_giveDominance_64 : decode cX8_giveDominance 64 = .ok (.iload_n 3, 1) := by decide +kernel
theorem dX8_giveDominance_65 : decode cX8_giveDominance 65 = .ok (.iconst 1, 1) := by decide +kernel
theorem dX8_giveDominance_66 : decode cX8_giveDominance 66 = .ok (.invokevirtual 117, 3) := by decide +kernel
theorem dX8_giveDominance_69 : decode cX8_giveDominance 69 = .ok (.iinc 1 1, 3) := by decide +kernel
theorem dX8_giveDominance_72 : decode cX8_giveDominance 72 = .ok (.iinc 3 1, 3) := by decide +kernel
theorem dX8_giveDominance_75 : decode cX8_giveDominance 75 = .ok (.goto (-52), 3) := by decide +kernel
theorem dX8_giveDominance_78 : decode cX8_giveDominance 78 = .ok (.iinc 2 1, 3) := by decide +kernel
theorem dX8_giveDominance_81 : decode cX8_giveDominance 81 = .ok (.goto (-68), 3) := by decide +kernel
theorem dX8_giveDominance_84 : decode cX8_giveDominance 84 = .ok (.iload_n 1, 1) := by decide +kernel
theorem dX8_giveDominance_85 : decode cX8_giveDominance 85 = .ok (.ireturn, 1) := by decide +kernel
set_option maxRecDepth 20000 in
theorem ggX8_task_X8_isTask : GoodIn wsX8_task wsX8_isTask := goodIn_r _ [11, 12, 23, 24, 25, 26, 27, 28, 29, 30, 31, 32, 33, 34, 35, 36, 37, 38, 39, 40, 41, 42, 43, 44, 45, 46, 47, 48, 49, 50, 51, 52] (by decide +kernel) (by decide +kernel)
set_option maxRecDepth 20000 in
theorem gX8_task_X8_isTask : GoodIn wsX8_task (wsV RX8 98 RX8 yX8_isTask wsX8_isTask) := goodIn_app (goodIn_of _ (by decide +kernel)) ggX8_task_X8_isTask
set_option maxRecDepth 20000 in
theorem ggX8_task_X8_in : GoodIn wsX8_task wsX8_in := goodIn_r _ [15] (by decide +kernel) (by decide +kernel)
set_option maxRecDepth 20000 in
theorem gX8_task_X8_in : GoodIn wsX8_task (va_wsS RX8 84 yX8_in wsX8_in) := goodIn_app (goodIn_of _ (by decide +kernel)) ggX8_task_X8_in
set_option maxRecDepth 20000 in
theorem ggX8_task_X8_givenTo : GoodIn wsX8_task wsX8_givenTo := goodIn_r _ [19, 12, 6, 20, 21, 10, 22, 23, 24, 25, 26, 27, 28, 29, 30, 31, 32, 33, 34, 35, 36, 37, 38, 39, 40, 41, 42, 43, 44, 45, 46, 47, 48, 49, 50, 51, 52] (by decide +kernel) (by decide +kernel)
set_option maxRecDepth 20000 in
theorem gX8_task_X8_givenTo : GoodIn wsX8_task (wsV RX8 125 RX8 yX8_givenTo wsX8_givenTo) := goodIn_app (goodIn_of _ (by decide +kernel)) ggX8_task_X8_givenTo
theorem dX8_task_0 : decode cX8_task 0 = .ok (.aload_n 0, 1) := by decide +kernel
theorem dX8_task_1 : decode cX8_task 1 = .ok (.aload_n 0, 1) := by decide +kernel
theorem dX8_task_2 : decode cX8_task 2 = .ok (.iload_n 1, 1) := by decide +kernel
theorem dX8_task_3 : decode cX8_task 3 = .ok (.invokevirtual 98, 3) := by decide +kernel
theorem dX8_task_6 : decode cX8_task 6 = .ok (.ifCond .ne 7, 3) := by decide +kernel
theorem dX8_task_9 : decode cX8_task 9 = .ok (.iconst 1, 1) := by decide +kernel
theorem dX8_task_10 : decode cX8_task 10 = .ok (.goto 17, 3) := by decide +kernel
theorem dX8_task_13 : decode cX8_task 13 = .ok (.iload_n 2, 1) := by decide +kernel
theorem dX8_task_14 : decode cX8_task 14 = .ok (.iconst 0, 1) := by decide +kernel
theorem dX8_task_15 : decode cX8_task 15 = .ok (.iconst 5, 1) := by decide +kernel
theorem dX8_task_16 : decode cX8_task 16 = .ok (.invokestatic 84, 3) := by decide +kernel
theorem dX8_task_19 : decode cX8_task 19 = .ok (.ifCond .eq 7, 3) := by decide +kernel
theorem dX8_task_22 : decode cX8_task 22 = .ok (.iconst 0, 1) := by decide +kernel
theorem dX8_task_23 : decode cX8_task 23 = .ok (.goto 4, 3) := by decide +kernel
theorem dX8_task_26 : decode cX8_task 26 = .ok (.iconst 2, 1) := by decide +kernel
theorem dX8_task_27 : decode cX8_task 27 = .ok (.putfield 75, 3) := by decide +kernel
theorem dX8_task_30 : decode cX8_task 30 = .ok (.aload_n 0, 1) := by decide +kernel
theorem dX8_task_31 : decode cX8_task 31 = .ok (.getfield 75, 3) := by decide +kernel
theorem dX8_task_34 : decode cX8_task 34 = .ok (.ifCond .le 5, 3) := by decide +kernel
theorem dX8_task_37 : decode cX8_task 37 = .ok (.iconst 0, 1) := by decide +kernel
theorem dX8_task_38 : decode cX8_task 38 = .ok (.ireturn, 1) := by decide +kernel
theorem dX8_task_39 : decode cX8_task 39 = .ok (.iload_n 2, 1) := by decide +kernel
theorem dX8_task_40 : decode cX8_task 40 = .ok (.tableswitch 70 0 4 #[36, 43, 50, 57, 64], 36) := by decide +kernel
theorem dX8_task_76 : decode cX8_task 76 = .ok (.aload_n 0, 1) := by decide +kernel
theorem dX8_task_77 : decode cX8_task 77 = .ok (.getfield 13, 3) := by decide +kernel
theorem dX8_task_80 : decode cX8_task 80 = .ok (.iload_n 1, 1) := by decide +kernel
theorem dX8_task_81 : decode cX8_task 81 = .ok (.iaload, 1) := by decide +kernel
theorem dX8_task_82 : decode cX8_task 82 = .ok (.ireturn, 1) := by decide +kernel
theorem dX8_task_83 : decode cX8_task 83 = .ok (.aload_n 0, 1) := by decide +kernel
theorem dX8_task_84 : decode cX8_task 84 = .ok (.getfield 17, 3) := by decide +kernel
theorem dX8_task_87 : decode cX8_task 87 = .ok (.iload_n 1, 1) := by decide +kernel
theorem dX8_task_88 : decode cX8_task 88 = .ok (.iaload, 1) := by decide +kernel
theorem dX8_task_89 : decode cX8_task 89 = .ok (.ireturn, 1) := by decide +kernel
theorem dX8_task_90 : decode cX8_task 90 = .ok (.aload_n 0, 1) := by decide +kernel
theorem dX8_task_91 : decode cX8_task 91 = .ok (.getfield 20, 3) := by decide +kernel
theorem dX8_task_94 : decode cX8_task 94 = .ok (.iload_n 1, 1) := by decide +kernel
theorem dX8_task_95 : decode cX8_task 95 = .ok (.iaload, 1) := by decide +kernel
theorem dX8_task_96 : decode cX8_task 96 = .ok (.ireturn, 1) := by decide +kernel
theorem dX8_task_97 : decode cX8_task 97 = .ok (.aload_n 0, 1) := by decide +kernel
theorem dX8_task_98 : decode cX8_task 98 = .ok (.getfield 23, 3) := by decide +kernel
theorem dX8_task_101 : decode cX8_task 101 = .ok (.iload_n 1, 1) := by decide +kernel
theorem dX8_task_102 : decode cX8_task 102 = .ok (.iaload, 1) := by decide +kernel
theorem dX8_task_103 : decode cX8_task 103 = .ok (.ireturn, 1) := by decide +kernel
theorem dX8_task_104 : decode cX8_task 104 = .ok (.aload_n 0, 1) := by decide +kernel
theorem dX8_task_105 : decode cX8_task 105 = .ok (.iload_n 1, 1) := by decide +kernel
theorem dX8_task_106 : decode cX8_task 106 = .ok (.invokevirtual 125, 3) := by decide +kernel
theorem dX8_task_109 : decode cX8_task 109 = .ok (.ireturn, 1) := by decide +kernel
theorem dX8_task_110 : decode cX8_task 110 = .ok (.aload_n 0, 1) := by decide +kernel
theorem dX8_task_111 : decode cX8_task 111 = .ok (.getfield 26, 3) := by decide +kernel
theorem dX8_task_114 : decode cX8_task 114 = .ok (.iload_n 1, 1) := by decide +kernel
theorem dX8_task_115 : decode cX8_task 115 = .ok (.iaload, 1) := by decide +kernel
theorem dX8_task_116 : decode cX8_task 116 = .ok (.ireturn, 1) := by decide +kernel
set_option maxRecDepth 20000 in
theorem ggX8_reckonSets_X8_has : GoodIn wsX8_reckonSets wsX8_has := goodIn_r _ [15] (by decide +kernel) (by decide +kernel)
set_option maxRecDepth 20000 in
theorem gX8_reckonSets_X8_has : GoodIn wsX8_reckonSets (va_wsS RX8 102 yX8_has wsX8_has) := goodIn_app (goodIn_of _ (by decide +kernel)) ggX8_reckonSets_X8_has
theorem dX8_reckonSets_0 : decode cX8_reckonSets 0 = .ok (.iconst 1, 1) := by decide +kernel
theorem dX8_reckonSets_1 : decode cX8_reckonSets 1 = .ok (.istore_n 1, 1) := by decide +kernel
theorem dX8_reckonSets_2 : decode cX8_reckonSets 2 = .ok (.iload_n 1, 1) := by decide +kernel
theorem dX8_reckonSets_3 : decode cX8_reckonSets 3 = .ok (.iconst 1, 1) := by decide +kernel
theorem dX8_reckonSets_4 : decode cX8_reckonSets 4 = .ok (.aload_n 0, 1) := by decide +kernel
theorem dX8_reckonSets_5 : decode cX8_reckonSets 5 = .ok (.getfield 78, 3) := by decide +kernel
theorem dX8_reckonSets_8 : decode cX8_reckonSets 8 = .ok (.ishl, 1) := by decide +kernel
theorem dX8_reckonSets_9 : decode cX8_reckonSets 9 = .ok (.if_icmp .ge 178, 3) := by decide +kernel
theorem dX8_reckonSets_12 : decode cX8_reckonSets 12 = .ok (.ldc 131, 2) := by decide +kernel
theorem dX8_reckonSets_14 : decode cX8_reckonSets 14 = .ok (.istore_n 2, 1) := by decide +kernel
theorem dX8_reckonSets_15 : decode cX8_reckonSets 15 = .ok (.ldc 132, 2) := by decide +kernel
theorem dX8_reckonSets_17 : decode cX8_reckonSets 17 = .ok (.istore_n 3, 1) := by decide +kernel
theorem dX8_reckonSets_18 : decode cX8_reckonSets 18 = .ok (.iconst 0, 1) := by decide +kernel
theorem dX8_reckonSets_19 : decode cX8_reckonSets 19 = .ok (.istore 4, 2) := by decide +kernel
theorem dX8_reckonSets_21 : decode cX8_reckonSets 21 = .ok (.iconst (-1), 1) := by decide +kernel
theorem dX8_reckonSets_22 : decode cX8_reckonSets 22 = .ok (.istore 5, 2) := by decide +kernel
theorem dX8_reckonSets_24 : decode cX8_reckonSets 24 = .ok (.iconst 1, 1) := by decide +kernel
theorem dX8_reckonSets_25 : decode cX8_reckonSets 25 = .ok (.istore 6, 2) := by decide +kernel
theorem dX8_reckonSets_27 : decode cX8_reckonSets 27 = .ok (.iconst 0, 1) := by decide +kernel
theorem dX8_reckonSets_28 : decode cX8_reckonSets 28 = .ok (.istore 7, 2) := by decide +kernel
theorem dX8_reckonSets_30 : decode cX8_reckonSets 30 = .ok (.iload 7, 2) := by decide +kernel
theorem dX8_reckonSets_32 : decode cX8_reckonSets 32 = .ok (.aload_n 0, 1) := by decide +kernel
theorem dX8_reckonSets_33 : decode cX8_reckonSets 33 = .ok (.getfield 78, 3) := by decide +kernel
theorem dX8_reckonSets_36 : decode cX8_reckonSets 36 = .ok (.if_icmp .ge 115, 3) := by decide +kernel
theorem dX8_reckonSets_39 : decode cX8_reckonSets 39 = .ok (.iload_n 1, 1) := by decide +kernel
theorem dX8_reckonSets_40 : decode cX8_reckonSets 40 = .ok (.iload 7, 2) := by decide +kernel
theorem dX8_reckonSets_42 : decode cX8_reckonSets 42 = .ok (.invokestatic 102, 3) := by decide +kernel
theorem dX8_reckonSets_45 : decode cX8_reckonSets 45 = .ok (.ifCond .eq 100, 3) := by decide +kernel
theorem dX8_reckonSets_48 : decode cX8_reckonSets 48 = .ok (.aload_n 0, 1) := by decide +kernel
theorem dX8_reckonSets_49 : decode cX8_reckonSets 49 = .ok (.getfield 35, 3) := by decide +kernel
theorem dX8_reckonSets_52 : decode cX8_reckonSets 52 = .ok (.iload 7, 2) := by decide +kernel
theorem dX8_reckonSets_54 : decode cX8_reckonSets 54 = .ok (.iaload, 1) := by decide +kernel
theorem dX8_reckonSets_55 : decode cX8_reckonSets 55 = .ok (.iload_n 2, 1) := by decide +kernel
theorem dX8_reckonSets_56 : decode cX8_reckonSets 56 = .ok (.if_icmp .ge 13, 3) := by decide +kernel
theorem dX8_reckonSets_59 : decode cX8_reckonSets 59 = .ok (.aload_n 0, 1) := by decide +kernel
theorem dX8_reckonSets_60 : decode cX8_reckonSets 60 = .ok (.getfield 35, 3) := by decide +kernel
theorem dX8_reckonSets_63 : decode cX8_reckonSets 63 = .ok (.iload 7, 2) := by decide +kernel
theorem dX8_reckonSets_65 : decode cX8_reckonSets 65 = .ok (.iaload, 1) := by decide +kernel
theorem dX8_reckonSets_66 : decode cX8_reckonSets 66 = .ok (.goto 4, 3) := by decide +kernel
theorem dX8_reckonSets_69 : decode cX8_reckonSets 69 = .ok (.iload_n 2, 1) := by decide +kernel
theorem dX8_reckonSets_70 : decode cX8_reckonSets 70 = .ok (.istore_n 2, 1) := by decide +kernel
theorem dX8_reckonSets_71 : decode cX8_reckonSets 71 = .ok (.aload_n 0, 1) := by decide +kernel
theorem dX8_reckonSets_72 : decode cX8_reckonSets 72 = .ok (.getfield 38, 3) := by decide +kernel
theorem dX8_reckonSets_75 : decode cX8_reckonSets 75 = .ok (.iload 7, 2) := by decide +kernel
theorem dX8_reckonSets_77 : decode cX8_reckonSets 77 = .ok (.iaload, 1) := by decide +kernel
theorem dX8_reckonSets_78 : decode cX8_reckonSets 78 = .ok (.iload_n 3, 1) := by decide +kernel
theorem dX8_reckonSets_79 : decode cX8_reckonSets 79 = .ok (.if_icmp .le 13, 3) := by decide +kernel
theorem dX8_reckonSets_82 : decode cX8_reckonSets 82 = .ok (.aload_n 0, 1) := by decide +kernel
theorem dX8_reckonSets_83 : decode cX8_reckonSets 83 = .ok (.getfield 38, 3) := by decide +kernel
theorem dX8_reckonSets_86 : decode cX8_reckonSets 86 = .ok (.iload 7, 2) := by decide +kernel
theorem dX8_reckonSets_88 : decode cX8_reckonSets 88 = .ok (.iaload, 1) := by decide +kernel
theorem dX8_reckonSets_89 : decode cX8_reckonSets 89 = .ok (.goto 4, 3) := by decide +kernel
theorem dX8_reckonSets_92 : decode cX8_reckonSets 92 = .ok (.iload_n 3, 1) := by decide +kernel
theorem dX8_reckonSets_93 : decode cX8_reckonSets 93 = .ok (.istore_n 3, 1) := by decide +kernel
theorem dX8_reckonSets_94 : decode cX8_reckonSets 94 = .ok (.iload 4, 2) := by decide +kernel
theorem dX8_reckonSets_96 : decode cX8_reckonSets 96 = .ok (.aload_n 0, 1) := by decide +kernel
theorem dX8_reckonSets_97 : decode cX8_reckonSets 97 = .ok (.getfield 23, 3) := by decide +kernel
theorem dX8_reckonSets_100 : decode cX8_reckonSets 100 = .ok (.iload 7, 2) := by decide +kernel
theorem dX8_reckonSets_102 : decode cX8_reckonSets 102 = .ok (.iaload, 1) := by decide +kernel
theorem dX8_reckonSets_103 : decode cX8_reckonSets 103 = .ok (.iadd, 1) := by decide +kernel
theorem dX8_reckonSets_104 : decode cX8_reckonSets 104 = .ok (.istore 4, 2) := by decide +kernel
theorem dX8_reckonSets_106 : decode cX8_reckonSets 106 = .ok (.iload 6, 2) := by decide +kernel
theorem dX8_reckonSets_108 : decode cX8_reckonSets 108 = .ok (.ifCond .eq 25, 3) := by decide +kernel
theorem dX8_reckonSets_111 : decode cX8_reckonSets 111 = .ok (.iload 5, 2) := by decide +kernel
theorem dX8_reckonSets_113 : decode cX8_reckonSets 113 = .ok (.iconst (-1), 1) := by decide +kernel
theorem dX8_reckonSets_114 : decode cX8_reckonSets 114 = .ok (.if_icmp .eq 15, 3) := by decide +kernel
theorem dX8_reckonSets_117 : decode cX8_reckonSets 117 = .ok (.iload 5, 2) := by decide +kernel
theorem dX8_reckonSets_119 : decode cX8_reckonSets 119 = .ok (.aload_n 0, 1) := by decide +kernel
theorem dX8_reckonSets_120 : decode cX8_reckonSets 120 = .ok (.getfield 13, 3) := by decide +kernel
theorem dX8_reckonSets_123 : decode cX8_reckonSets 123 = .ok (.iload 7, 2) := by decide +kernel
theorem dX8_reckonSets_125 : decode cX8_reckonSets 125 = .ok (.iaload, 1) := by decide +kernel
theorem dX8_reckonSets_126 : decode cX8_reckonSets 126 = .ok (.if_icmp .ne 7, 3) := by decide +kernel
theorem dX8_reckonSets_129 : decode cX8_reckonSets 129 = .ok (.iconst 1, 1) := by decide +kernel
theorem dX8_reckonSets_130 : decode cX8_reckonSets 130 = .ok (.goto 4, 3) := by decide +kernel
theorem dX8_reckonSets_133 : decode cX8_reckonSets 133 = .ok (.iconst 0, 1) := by decide +kernel
theorem dX8_reckonSets_134 : decode cX8_reckonSets 134 = .ok (.istore 6, 2) := by decide +kernel
theorem dX8_reckonSets_136 : decode cX8_reckonSets 136 = .ok (.aload_n 0, 1) := by decide +kernel
theorem dX8_reckonSets_137 : decode cX8_reckonSets 137 = .ok (.getfield 13, 3) := by decide +kernel
theorem dX8_reckonSets_140 : decode cX8_reckonSets 140 = .ok (.iload 7, 2) := by decide +kernel
theorem dX8_reckonSets_142 : decode cX8_reckonSets 142 = .ok (.iaload, 1) := by decide +kernel
theorem dX8_reckonSets_143 : decode cX8_reckonSets 143 = .ok (.istore 5, 2) := by decide +kernel
theorem dX8_reckonSets_145 : decode cX8_reckonSets 145 = .ok (.iinc 7 1, 3) := by decide +kernel
theorem dX8_reckonSets_148 : decode cX8_reckonSets 148 = .ok (.goto (-118), 3) := by decide +kernel
theorem dX8_reckonSets_151 : decode cX8_reckonSets 151 = .ok (.aload_n 0, 1) := by decide +kernel
theorem dX8_reckonSets_152 : decode cX8_reckonSets 152 = .ok (.getfield 44, 3) := by decide +kernel
theorem dX8_reckonSets_155 : decode cX8_reckonSets 155 = .ok (.iload_n 1, 1) := by decide +kernel
theorem dX8_reckonSets_156 : decode cX8_reckonSets 156 = .ok (.iload_n 2, 1) := by decide +kernel
theorem dX8_reckonSets_157 : decode cX8_reckonSets 157 = .ok (.iastore, 1) := by decide +kernel
theorem dX8_reckonSets_158 : decode cX8_reckonSets 158 = .ok (.aload_n 0, 1) := by decide +kernel
theorem dX8_reckonSets_159 : decode cX8_reckonSets 159 = .ok (.getfield 47, 3) := by decide +kernel
theorem dX8_reckonSets_162 : decode cX8_reckonSets 162 = .ok (.iload_n 1, 1) := by decide +kernel
theorem dX8_reckonSets_163 : decode cX8_reckonSets 163 = .ok (.iload_n 3, 1) := by decide +kernel
theorem dX8_reckonSets_164 : decode cX8_reckonSets 164 = .ok (.iastore, 1) := by decide +kernel
theorem dX8_reckonSets_165 : decode cX8_reckonSets 165 = .ok (.aload_n 0, 1) := by decide +kernel
theorem dX8_reckonSets_166 : decode cX8_reckonSets 166 = .ok (.getfield 50, 3) := by decide +kernel
theorem dX8_reckonSets_169 : decode cX8_reckonSets 169 = .ok (.iload_n 1, 1) := by decide +kernel
theorem dX8_reckonSets_170 : decode cX8_reckonSets 170 = .ok (.iload 4, 2) := by decide +kernel
theorem dX8_reckonSets_172 : decode cX8_reckonSets 172 = .ok (.iastore, 1) := by decide +kernel
theorem dX8_reckonSets_173 : decode cX8_reckonSets 173 = .ok (.aload_n 0, 1) := by decide +kernel
theorem dX8_reckonSets_174 : decode cX8_reckonSets 174 = .ok (.getfield 53, 3) := by decide +kernel
theorem dX8_reckonSets_177 : decode cX8_reckonSets 177 = .ok (.iload_n 1, 1) := by decide +kernel
theorem dX8_reckonSets_178 : decode cX8_reckonSets 178 = .ok (.iload 6, 2) := by decide +kernel
theorem dX8_reckonSets_180 : decode cX8_reckonSets 180 = .ok (.bastore, 1) := by decide +kernel
theorem dX8_reckonSets_181 : decode cX8_reckonSets 181 = .ok (.iinc 1 1, 3) := by decide +kernel
theorem dX8_reckonSets_184 : decode cX8_reckonSets 184 = .ok (.goto (-182), 3) := by decide +kernel
theorem dX8_reckonSets_187 : decode cX8_reckonSets 187 = .ok (.return_, 1) := by decide +kernel
set_option maxRecDepth 20000 in
theorem ggX8_isContradiction_X8_has : GoodIn wsX8_isContradiction wsX8_has := goodIn_r _ [13] (by decide +kernel) (by decide +kernel)
set_option maxRecDepth 20000 in
theorem gX8_isContradiction_X8_has : GoodIn wsX8_isContradiction (va_wsS RX8 102 yX8_has wsX8_has) := goodIn_app (goodIn_of _ (by decide +kernel)) ggX8_isContradiction_X8_has
theorem dX8_isContradiction_0 : decode cX8_isContradiction 0 = .ok (.iconst 0, 1) := by decide +kernel
theorem dX8_isContradiction_1 : decode cX8_isContradiction 1 = .ok (.istore_n 1, 1) := by decide +kernel
theorem dX8_isContradiction_2 : decode cX8_isContradiction 2 = .ok (.iconst 1, 1) := by decide +kernel
theorem dX8_isContradiction_3 : decode cX8_isContradiction 3 = .ok (.istore_n 2, 1) := by decide +kernel
theorem dX8_isContradiction_4 : decode cX8_isContradiction 4 = .ok (.iload_n 2, 1) := by decide +kernel
theorem dX8_isContradiction_5 : decode cX8_isContradiction 5 = .ok (.iconst 1, 1) := by decide +kernel
theorem dX8_isContradiction_6 : decode cX8_isContradiction 6 = .ok (.aload_n 0, 1) := by decide +kernel
theorem dX8_isContradiction_7 : decode cX8_isContradiction 7 = .ok (.getfield 78, 3) := by decide +kernel
theorem dX8_isContradiction_10 : decode cX8_isContradiction 10 = .ok (.ishl, 1) := by decide +kernel
theorem dX8_isContradiction_11 : decode cX8_isContradiction 11 = .ok (.if_icmp .ge 50, 3) := by decide +kernel
theorem dX8_isContradiction_14 : decode cX8_isContradiction 14 = .ok (.iload_n 1, 1) := by decide +kernel
theorem dX8_isContradiction_15 : decode cX8_isContradiction 15 = .ok (.ifCond .ne 34, 3) := by decide +kernel
theorem dX8_isContradiction_18 : decode cX8_isContradiction 18 = .ok (.aload_n 0, 1) := by decide +kernel
theorem dX8_isContradiction_19 : decode cX8_isContradiction 19 = .ok (.getfield 53, 3) := by decide +kernel
theorem dX8_isContradiction_22 : decode cX8_isContradiction 22 = .ok (.iload_n 2, 1) := by decide +kernel
theorem dX8_isContradiction_23 : decode cX8_isContradiction 23 = .ok (.baload, 1) := by decide +kernel
theorem dX8_isContradiction_24 : decode cX8_isContradiction 24 = .ok (.ifCond .eq 29, 3) := by decide +kernel
theorem dX8_isContradiction_27 : decode cX8_isContradiction 27 = .ok (.aload_n 0, 1) := by decide +kernel
theorem dX8_isContradiction_28 : decode cX8_isContradiction 28 = .ok (.getfield 44, 3) := by decide +kernel
theorem dX8_isContradiction_31 : decode cX8_isContradiction 31 = .ok (.iload_n 2, 1) := by decide +kernel
theorem dX8_isContradiction_32 : decode cX8_isContradiction 32 = .ok (.iaload, 1) := by decide +kernel
theorem dX8_isContradiction_33 : decode cX8_isContradiction 33 = .ok (.aload_n 0, 1) := by decide +kernel
theorem dX8_isContradiction_34 : decode cX8_isContradiction 34 = .ok (.getfield 50, 3) := by decide +kernel
theorem dX8_isContradiction_37 : decode cX8_isContradiction 37 = .ok (.iload_n 2, 1) := by decide +kernel
theorem dX8_isContradiction_38 : decode cX8_isContradiction 38 = .ok (.iaload, 1) := by decide +kernel
theorem dX8_isContradiction_39 : decode cX8_isContradiction 39 = .ok (.iadd, 1) := by decide +kernel
theorem dX8_isContradiction_40 : decode cX8_isContradiction 40 = .ok (.aload_n 0, 1) := by decide +kernel
theorem dX8_isContradiction_41 : decode cX8_isContradiction 41 = .ok (.getfield 47, 3) := by decide +kernel
theorem dX8_isContradiction_44 : decode cX8_isContradiction 44 = .ok (.iload_n 2, 1) := by decide +kernel
theorem dX8_isContradiction_45 : decode cX8_isContradiction 45 = .ok (.iaload, 1) := by decide +kernel
theorem dX8_isContradiction_46 : decode cX8_isContradiction 46 = .ok (.if_icmp .le 7, 3) := by decide +kernel
theorem dX8_isContradiction_49 : decode cX8_isContradiction 49 = .ok (.iconst 1, 1) := by decide +kernel
theorem dX8_isContradiction_50 : decode cX8_isContradiction 50 = .ok (.goto 4, 3) := by decide +kernel
theorem dX8_isContradiction_53 : decode cX8_isContradiction 53 = .ok (.iconst 0, 1) := by decide +kernel
theorem dX8_isContradiction_54 : decode cX8_isContradiction 54 = .ok (.istore_n 1, 1) := by decide +kernel
theorem dX8_isContradiction_55 : decode cX8_isContradiction 55 = .ok (.iinc 2 1, 3) := by decide +kernel
theorem dX8_isContradiction_58 : decode cX8_isContradiction 58 = .ok (.goto (-54), 3) := by decide +kernel
theorem dX8_isContradiction_61 : decode cX8_isContradiction 61 = .ok (.iconst 0, 1) := by decide +kernel
theorem dX8_isContradiction_62 : decode cX8_isContradiction 62 = .ok (.istore_n 2, 1) := by decide +kernel
theorem dX8_isContradiction_63 : decode cX8_isContradiction 63 = .ok (.iload_n 2, 1) := by decide +kernel
theorem dX8_isContradiction_64 : decode cX8_isContradiction 64 = .ok (.aload_n 0, 1) := by decide +kernel
theorem dX8_isContradiction_65 : decode cX8_isContradiction 65 = .ok (.getfield 78, 3) := by decide +kernel
theorem dX8_isContradiction_68 : decode cX8_isContradiction 68 = .ok (.if_icmp .ge 54, 3) := by decide +kernel
theorem dX8_isContradiction_71 : decode cX8_isContradiction 71 = .ok (.iload_n 1, 1) := by decide +kernel
theorem dX8_isContradiction_72 : decode cX8_isContradiction 72 = .ok (.ifCond .ne 38, 3) := by decide +kernel
theorem dX8_isContradiction_75 : decode cX8_isContradiction 75 = .ok (.aload_n 0, 1) := by decide +kernel
theorem dX8_isContradiction_76 : decode cX8_isContradiction 76 = .ok (.getfield 41, 3) := by decide +kernel
theorem dX8_isContradiction_79 : decode cX8_isContradiction 79 = .ok (.iload_n 2, 1) := by decide +kernel
theorem dX8_isContradiction_80 : decode cX8_isContradiction 80 = .ok (.iaload, 1) := by decide +kernel
theorem dX8_isContradiction_81 : decode cX8_isContradiction 81 = .ok (.iload_n 2, 1) := by decide +kernel
theorem dX8_isContradiction_82 : decode cX8_isContradiction 82 = .ok (.invokestatic 102, 3) := by decide +kernel
theorem dX8_isContradiction_85 : decode cX8_isContradiction 85 = .ok (.ifCond .ne 25, 3) := by decide +kernel
theorem dX8_isContradiction_88 : decode cX8_isContradiction 88 = .ok (.aload_n 0, 1) := by decide +kernel
theorem dX8_isContradiction_89 : decode cX8_isContradiction 89 = .ok (.getfield 35, 3) := by decide +kernel
theorem dX8_isContradiction_92 : decode cX8_isContradiction 92 = .ok (.iload_n 2, 1) := by decide +kernel
theorem dX8_isContradiction_93 : decode cX8_isContradiction 93 = .ok (.iaload, 1) := by decide +kernel
theorem dX8_isContradiction_94 : decode cX8_isContradiction 94 = .ok (.aload_n 0, 1) := by decide +kernel
theorem dX8_isContradiction_95 : decode cX8_isContradiction 95 = .ok (.getfield 23, 3) := by decide +kernel
theorem dX8_isContradiction_98 : decode cX8_isContradiction 98 = .ok (.iload_n 2, 1) := by decide +kernel
theorem dX8_isContradiction_99 : decode cX8_isContradiction 99 = .ok (.iaload, 1) := by decide +kernel
theorem dX8_isContradiction_100 : decode cX8_isContradiction 100 = .ok (.iadd, 1) := by decide +kernel
theorem dX8_isContradiction_101 : decode cX8_isContradiction 101 = .ok (.aload_n 0, 1) := by decide +kernel
theorem dX8_isContradiction_102 : decode cX8_isContradiction 102 = .ok (.getfield 38, 3) := by decide +kernel
theorem dX8_isContradiction_105 : decode cX8_isContradiction 105 = .ok (.iload_n 2, 1) := by decide +kernel
theorem dX8_isContradiction_106 : decode cX8_isContradiction 106 = .ok (.iaload, 1) := by decide +kernel
theorem dX8_isContradiction_107 : decode cX8_isContradiction 107 = .ok (.if_icmp .le 7, 3) := by decide +kernel
theorem dX8_isContradiction_110 : decode cX8_isContradiction 110 = .ok (.iconst 1, 1) := by decide +kernel
theorem dX8_isContradiction_111 : decode cX8_isContradiction 111 = .ok (.goto 4, 3) := by decide +kernel
theorem dX8_isContradiction_114 : decode cX8_isContradiction 114 = .ok (.iconst 0, 1) := by decide +kernel
theorem dX8_isContradiction_115 : decode cX8_isContradiction 115 = .ok (.istore_n 1, 1) := by decide +kernel
theorem dX8_isContradiction_116 : decode cX8_isContradiction 116 = .ok (.iinc 2 1, 3) := by decide +kernel
theorem dX8_isContradiction_119 : decode cX8_isContradiction 119 = .ok (.goto (-56), 3) := by decide +kernel
theorem dX8_isContradiction_122 : decode cX8_isContradiction 122 = .ok (.iload_n 1, 1) := by decide +kernel
theorem dX8_isContradiction_123 : decode cX8_isContradiction 123 = .ok (.ireturn, 1) := by decide +kernel
theorem dX8_comesAhead_0 : decode cX8_comesAhead 0 = .ok (.aload_n 0, 1) := by decide +kernel
theorem dX8_comesAhead_1 : decode cX8_comesAhead 1 = .ok (.aload_n 0, 1) := by decide +kernel
theorem dX8_comesAhead_2 : decode cX8_comesAhead 2 = .ok (.getfield 133, 3) := by decide +kernel
theorem dX8_comesAhead_5 : decode cX8_comesAhead 5 = .ok (.ifCond .ne 20, 3) := by decide +kernel
theorem dX8_comesAhead_8 : decode cX8_comesAhead 8 = .ok (.aload_n 0, 1) := by decide +kernel
theorem dX8_comesAhead_9 : decode cX8_comesAhead 9 = .ok (.getfield 41, 3) := by decide +kernel
theorem dX8_comesAhead_12 : decode cX8_comesAhead 12 = .ok (.iload_n 1, 1) := by decide +kernel
theorem dX8_comesAhead_13 : decode cX8_comesAhead 13 = .ok (.iaload, 1) := by decide +kernel
theorem dX8_comesAhead_14 : decode cX8_comesAhead 14 = .ok (.iload_n 2, 1) := by decide +kernel
theorem dX8_comesAhead_15 : decode cX8_comesAhead 15 = .ok (.ior, 1) := by decide +kernel
theorem dX8_comesAhead_16 : decode cX8_comesAhead 16 = .ok (.aload_n 0, 1) := by decide +kernel
theorem dX8_comesAhead_17 : decode cX8_comesAhead 17 = .ok (.getfield 41, 3) := by decide +kernel
theorem dX8_comesAhead_20 : decode cX8_comesAhead 20 = .ok (.iload_n 1, 1) := by decide +kernel
theorem dX8_comesAhead_21 : decode cX8_comesAhead 21 = .ok (.iaload, 1) := by decide +kernel
theorem dX8_comesAhead_22 : decode cX8_comesAhead 22 = .ok (.if_icmp .eq 7, 3) := by decide +kernel
theorem dX8_comesAhead_25 : decode cX8_comesAhead 25 = .ok (.iconst 1, 1) := by decide +kernel
theorem dX8_comesAhead_26 : decode cX8_comesAhead 26 = .ok (.goto 4, 3) := by decide +kernel
theorem dX8_comesAhead_29 : decode cX8_comesAhead 29 = .ok (.iconst 0, 1) := by decide +kernel
theorem dX8_comesAhead_30 : decode cX8_comesAhead 30 = .ok (.putfield 133, 3) := by decide +kernel
theorem dX8_comesAhead_33 : decode cX8_comesAhead 33 = .ok (.aload_n 0, 1) := by decide +kernel
theorem dX8_comesAhead_34 : decode cX8_comesAhead 34 = .ok (.getfield 41, 3) := by decide +kernel
theorem dX8_comesAhead_37 : decode cX8_comesAhead 37 = .ok (.iload_n 1, 1) := by decide +kernel
theorem dX8_comesAhead_38 : decode cX8_comesAhead 38 = .ok (.dup2, 1) := by decide +kernel
theorem dX8_comesAhead_39 : decode cX8_comesAhead 39 = .ok (.iaload, 1) := by decide +kernel
theorem dX8_comesAhead_40 : decode cX8_comesAhead 40 = .ok (.iload_n 2, 1) := by decide +kernel
theorem dX8_comesAhead_41 : decode cX8_comesAhead 41 = .ok (.ior, 1) := by decide +kernel
theorem dX8_comesAhead_42 : decode cX8_comesAhead 42 = .ok (.iastore, 1) := by decide +kernel
theorem dX8_comesAhead_43 : decode cX8_comesAhead 43 = .ok (.return_, 1) := by decide +kernel
set_option maxRecDepth 20000 in
theorem ggX8_rulesOneAndTwo_X8_has : GoodIn wsX8_rulesOneAndTwo wsX8_has := goodIn_r _ [6] (by decide +kernel) (by decide +kernel)
set_option maxRecDepth 20000 in
theorem gX8_rulesOneAndTwo_X8_has : GoodIn wsX8_rulesOneAndTwo (va_wsS RX8 102 yX8_has wsX8_has) := goodIn_app (goodIn_of _ (by decide +kernel)) ggX8_rulesOneAndTwo_X8_has
set_option maxRecDepth 20000 in
theorem ggX8_rulesOneAndTwo_X8_comesAhead : GoodIn wsX8_rulesOneAndTwo wsX8_comesAhead := goodIn_r _ [10, 11, 2, 20, 21, 22, 23, 24, 25, 26, 27, 28, 29, 30, 31, 32, 33, 34, 35, 36, 37, 38, 39, 40, 41, 42, 43, 44, 45, 46, 47, 48, 49] (by decide +kernel) (by decide +kernel)
set_option maxRecDepth 20000 in
theorem gX8_rulesOneAndTwo_X8_comesAhead : GoodIn wsX8_rulesOneAndTwo (wsV RX8 137 RX8 yX8_comesAhead wsX8_comesAhead) := goodIn_app (goodIn_of _ (by decide +kernel)) ggX8_rulesOneAndTwo_X8_comesAhead
set_option maxRecDepth 20000 in
theorem ggX8_rulesOneAndTwo_X8_tellsTwo : GoodIn wsX8_rulesOneAndTwo wsX8_tellsTwo := goodIn_r _ [15, 16, 17, 18, 19, 20, 21, 22, 23, 24, 25, 26, 27, 28, 29, 30, 31, 32, 33, 34, 35, 36, 37, 38, 39, 40, 41, 42, 43, 44, 45, 46, 47, 48, 49] (by decide +kernel) (by decide +kernel)
set_option maxRecDepth 20000 in
theorem gX8_rulesOneAndTwo_X8_tellsTwo : GoodIn wsX8_rulesOneAndTwo (wsV RX8 141 RX8 yX8_tellsTwo wsX8_tellsTwo) := goodIn_app (goodIn_of _ (by decide +kernel)) ggX8_rulesOneAndTwo_X8_tellsTwo
theorem dX8_rulesOneAndTwo_0 : decode cX8_rulesOneAndTwo 0 = .ok (.iconst 0, 1) := by decide +kernel
theorem dX8_rulesOneAndTwo_1 : decode cX8_rulesOneAndTwo 1 = .ok (.istore_n 1, 1) := by decide +kernel
theorem dX8_rulesOneAndTwo_2 : decode cX8_rulesOneAndTwo 2 = .ok (.iload_n 1, 1) := by decide +kernel
theorem dX8_rulesOneAndTwo_3 : decode cX8_rulesOneAndTwo 3 = .ok (.aload_n 0, 1) := by decide +kernel
theorem dX8_rulesOneAndTwo_4 : decode cX8_rulesOneAndTwo 4 = .ok (.getfield 78, 3) := by decide +kernel
theorem dX8_rulesOneAndTwo_7 : decode cX8_rulesOneAndTwo 7 = .ok (.if_icmp .ge 71, 3) := by decide +kernel
theorem dX8_rulesOneAndTwo_10 : decode cX8_rulesOneAndTwo 10 = .ok (.iconst 0, 1) := by decide +kernel
theorem dX8_rulesOneAndTwo_11 : decode cX8_rulesOneAndTwo 11 = .ok (.istore_n 2, 1) := by decide +kernel
theorem dX8_rulesOneAndTwo_12 : decode cX8_rulesOneAndTwo 12 = .ok (.iload_n 2, 1) := by decide +kernel
theorem dX8_rulesOneAndTwo_13 : decode cX8_rulesOneAndTwo 13 = .ok (.aload_n 0, 1) := by decide +kernel
theorem dX8_rulesOneAndTwo_14 : decode cX8_rulesOneAndTwo 14 = .ok (.getfield 78, 3) := by decide +kernel
theorem dX8_rulesOneAndTwo_17 : decode cX8_rulesOneAndTwo 17 = .ok (.if_icmp .ge 55, 3) := by decide +kernel
theorem dX8_rulesOneAndTwo_20 : decode cX8_rulesOneAndTwo 20 = .ok (.aload_n 0, 1) := by decide +kernel
theorem dX8_rulesOneAndTwo_21 : decode cX8_rulesOneAndTwo 21 = .ok (.getfield 41, 3) := by decide +kernel
theorem dX8_rulesOneAndTwo_24 : decode cX8_rulesOneAndTwo 24 = .ok (.iload_n 1, 1) := by decide +kernel
theorem dX8_rulesOneAndTwo_25 : decode cX8_rulesOneAndTwo 25 = .ok (.iaload, 1) := by decide +kernel
theorem dX8_rulesOneAndTwo_26 : decode cX8_rulesOneAndTwo 26 = .ok (.iload_n 2, 1) := by decide +kernel
theorem dX8_rulesOneAndTwo_27 : decode cX8_rulesOneAndTwo 27 = .ok (.invokestatic 102, 3) := by decide +kernel
theorem dX8_rulesOneAndTwo_30 : decode cX8_rulesOneAndTwo 30 = .ok (.ifCond .eq 14, 3) := by decide +kernel
theorem dX8_rulesOneAndTwo_33 : decode cX8_rulesOneAndTwo 33 = .ok (.aload_n 0, 1) := by decide +kernel
theorem dX8_rulesOneAndTwo_34 : decode cX8_rulesOneAndTwo 34 = .ok (.iload_n 1, 1) := by decide +kernel
theorem dX8_rulesOneAndTwo_35 : decode cX8_rulesOneAndTwo 35 = .ok (.aload_n 0, 1) := by decide +kernel
theorem dX8_rulesOneAndTwo_36 : decode cX8_rulesOneAndTwo 36 = .ok (.getfield 41, 3) := by decide +kernel
theorem dX8_rulesOneAndTwo_39 : decode cX8_rulesOneAndTwo 39 = .ok (.iload_n 2, 1) := by decide +kernel
theorem dX8_rulesOneAndTwo_40 : decode cX8_rulesOneAndTwo 40 = .ok (.iaload, 1) := by decide +kernel
theorem dX8_rulesOneAndTwo_41 : decode cX8_rulesOneAndTwo 41 = .ok (.invokevirtual 137, 3) := by decide +kernel
theorem dX8_rulesOneAndTwo_44 : decode cX8_rulesOneAndTwo 44 = .ok (.iload_n 1, 1) := by decide +kernel
theorem dX8_rulesOneAndTwo_45 : decode cX8_rulesOneAndTwo 45 = .ok (.iload_n 2, 1) := by decide +kernel
theorem dX8_rulesOneAndTwo_46 : decode cX8_rulesOneAndTwo 46 = .ok (.if_icmp .eq 20, 3) := by decide +kernel
theorem dX8_rulesOneAndTwo_49 : decode cX8_rulesOneAndTwo 49 = .ok (.aload_n 0, 1) := by decide +kernel
theorem dX8_rulesOneAndTwo_50 : decode cX8_rulesOneAndTwo 50 = .ok (.iload_n 2, 1) := by decide +kernel
theorem dX8_rulesOneAndTwo_51 : decode cX8_rulesOneAndTwo 51 = .ok (.iload_n 1, 1) := by decide +kernel
theorem dX8_rulesOneAndTwo_52 : decode cX8_rulesOneAndTwo 52 = .ok (.invokevirtual 141, 3) := by decide +kernel
theorem dX8_rulesOneAndTwo_55 : decode cX8_rulesOneAndTwo 55 = .ok (.ifCond .eq 11, 3) := by decide +kernel
theorem dX8_rulesOneAndTwo_58 : decode cX8_rulesOneAndTwo 58 = .ok (.aload_n 0, 1) := by decide +kernel
theorem dX8_rulesOneAndTwo_59 : decode cX8_rulesOneAndTwo 59 = .ok (.iload_n 2, 1) := by decide +kernel
theorem dX8_rulesOneAndTwo_60 : decode cX8_rulesOneAndTwo 60 = .ok (.iconst 1, 1) := by decide +kernel
theorem dX8_rulesOneAndTwo_61 : decode cX8_rulesOneAndTwo 61 = .ok (.iload_n 1, 1) := by decide +kernel
theorem dX8_rulesOneAndTwo_62 : decode cX8_rulesOneAndTwo 62 = .ok (.ishl, 1) := by decide +kernel
theorem dX8_rulesOneAndTwo_63 : decode cX8_rulesOneAndTwo 63 = .ok (.invokevirtual 137, 3) := by decide +kernel
theorem dX8_rulesOneAndTwo_66 : decode cX8_rulesOneAndTwo 66 = .ok (.iinc 2 1, 3) := by decide +kernel
theorem dX8_rulesOneAndTwo_69 : decode cX8_rulesOneAndTwo 69 = .ok (.goto (-57), 3) := by decide +kernel
theorem dX8_rulesOneAndTwo_72 : decode cX8_rulesOneAndTwo 72 = .ok (.iinc 1 1, 3) := by decide +kernel
theorem dX8_rulesOneAndTwo_75 : decode cX8_rulesOneAndTwo 75 = .ok (.goto (-73), 3) := by decide +kernel
theorem dX8_rulesOneAndTwo_78 : decode cX8_rulesOneAndTwo 78 = .ok (.return_, 1) := by decide +kernel
theorem dX8_tellsTwo_0 : decode cX8_tellsTwo 0 = .ok (.aload_n 0, 1) := by decide +kernel
theorem dX8_tellsTwo_1 : decode cX8_tellsTwo 1 = .ok (.getfield 13, 3) := by decide +kernel
theorem dX8_tellsTwo_4 : decode cX8_tellsTwo 4 = .ok (.iload_n 2, 1) := by decide +kernel
theorem dX8_tellsTwo_5 : decode cX8_tellsTwo 5 = .ok (.iaload, 1) := by decide +kernel
theorem dX8_tellsTwo_6 : decode cX8_tellsTwo 6 = .ok (.aload_n 0, 1) := by decide +kernel
theorem dX8_tellsTwo_7 : decode cX8_tellsTwo 7 = .ok (.getfield 13, 3) := by decide +kernel
theorem dX8_tellsTwo_10 : decode cX8_tellsTwo 10 = .ok (.iload_n 1, 1) := by decide +kernel
theorem dX8_tellsTwo_11 : decode cX8_tellsTwo 11 = .ok (.iaload, 1) := by decide +kernel
theorem dX8_tellsTwo_12 : decode cX8_tellsTwo 12 = .ok (.if_icmp .ne 36, 3) := by decide +kernel
theorem dX8_tellsTwo_15 : decode cX8_tellsTwo 15 = .ok (.aload_n 0, 1) := by decide +kernel
theorem dX8_tellsTwo_16 : decode cX8_tellsTwo 16 = .ok (.getfield 35, 3) := by decide +kernel
theorem dX8_tellsTwo_19 : decode cX8_tellsTwo 19 = .ok (.iload_n 2, 1) := by decide +kernel
theorem dX8_tellsTwo_20 : decode cX8_tellsTwo 20 = .ok (.iaload, 1) := by decide +kernel
theorem dX8_tellsTwo_21 : decode cX8_tellsTwo 21 = .ok (.aload_n 0, 1) := by decide +kernel
theorem dX8_tellsTwo_22 : decode cX8_tellsTwo 22 = .ok (.getfield 23, 3) := by decide +kernel
theorem dX8_tellsTwo_25 : decode cX8_tellsTwo 25 = .ok (.iload_n 2, 1) := by decide +kernel
theorem dX8_tellsTwo_26 : decode cX8_tellsTwo 26 = .ok (.iaload, 1) := by decide +kernel
theorem dX8_tellsTwo_27 : decode cX8_tellsTwo 27 = .ok (.iadd, 1) := by decide +kernel
theorem dX8_tellsTwo_28 : decode cX8_tellsTwo 28 = .ok (.aload_n 0, 1) := by decide +kernel
theorem dX8_tellsTwo_29 : decode cX8_tellsTwo 29 = .ok (.getfield 23, 3) := by decide +kernel
theorem dX8_tellsTwo_32 : decode cX8_tellsTwo 32 = .ok (.iload_n 1, 1) := by decide +kernel
theorem dX8_tellsTwo_33 : decode cX8_tellsTwo 33 = .ok (.iaload, 1) := by decide +kernel
theorem dX8_tellsTwo_34 : decode cX8_tellsTwo 34 = .ok (.iadd, 1) := by decide +kernel
theorem dX8_tellsTwo_35 : decode cX8_tellsTwo 35 = .ok (.aload_n 0, 1) := by decide +kernel
theorem dX8_tellsTwo_36 : decode cX8_tellsTwo 36 = .ok (.getfield 38, 3) := by decide +kernel
theorem dX8_tellsTwo_39 : decode cX8_tellsTwo 39 = .ok (.iload_n 1, 1) := by decide +kernel
theorem dX8_tellsTwo_40 : decode cX8_tellsTwo 40 = .ok (.iaload, 1) := by decide +kernel
theorem dX8_tellsTwo_41 : decode cX8_tellsTwo 41 = .ok (.if_icmp .le 7, 3) := by decide +kernel
theorem dX8_tellsTwo_44 : decode cX8_tellsTwo 44 = .ok (.iconst 1, 1) := by decide +kernel
theorem dX8_tellsTwo_45 : decode cX8_tellsTwo 45 = .ok (.goto 4, 3) := by decide +kernel
theorem dX8_tellsTwo_48 : decode cX8_tellsTwo 48 = .ok (.iconst 0, 1) := by decide +kernel
theorem dX8_tellsTwo_49 : decode cX8_tellsTwo 49 = .ok (.ireturn, 1) := by decide +kernel
theorem dX8_tellsBehind_0 : decode cX8_tellsBehind 0 = .ok (.iload_n 2, 1) := by decide +kernel
theorem dX8_tellsBehind_1 : decode cX8_tellsBehind 1 = .ok (.iconst 1, 1) := by decide +kernel
theorem dX8_tellsBehind_2 : decode cX8_tellsBehind 2 = .ok (.iload_n 1, 1) := by decide +kernel
theorem dX8_tellsBehind_3 : decode cX8_tellsBehind 3 = .ok (.ishl, 1) := by decide +kernel
theorem dX8_tellsBehind_4 : decode cX8_tellsBehind 4 = .ok (.ior, 1) := by decide +kernel
theorem dX8_tellsBehind_5 : decode cX8_tellsBehind 5 = .ok (.istore_n 3, 1) := by decide +kernel
theorem dX8_tellsBehind_6 : decode cX8_tellsBehind 6 = .ok (.aload_n 0, 1) := by decide +kernel
theorem dX8_tellsBehind_7 : decode cX8_tellsBehind 7 = .ok (.getfield 53, 3) := by decide +kernel
theorem dX8_tellsBehind_10 : decode cX8_tellsBehind 10 = .ok (.iload_n 3, 1) := by decide +kernel
theorem dX8_tellsBehind_11 : decode cX8_tellsBehind 11 = .ok (.baload, 1) := by decide +kernel
theorem dX8_tellsBehind_12 : decode cX8_tellsBehind 12 = .ok (.ifCond .eq 29, 3) := by decide +kernel
theorem dX8_tellsBehind_15 : decode cX8_tellsBehind 15 = .ok (.aload_n 0, 1) := by decide +kernel
theorem dX8_tellsBehind_16 : decode cX8_tellsBehind 16 = .ok (.getfield 44, 3) := by decide +kernel
theorem dX8_tellsBehind_19 : decode cX8_tellsBehind 19 = .ok (.iload_n 3, 1) := by decide +kernel
theorem dX8_tellsBehind_20 : decode cX8_tellsBehind 20 = .ok (.iaload, 1) := by decide +kernel
theorem dX8_tellsBehind_21 : decode cX8_tellsBehind 21 = .ok (.aload_n 0, 1) := by decide +kernel
theorem dX8_tellsBehind_22 : decode cX8_tellsBehind 22 = .ok (.getfield 50, 3) := by decide +kernel
theorem dX8_tellsBehind_25 : decode cX8_tellsBehind 25 = .ok (.iload_n 3, 1) := by decide +kernel
theorem dX8_tellsBehind_26 : decode cX8_tellsBehind 26 = .ok (.iaload, 1) := by decide +kernel
theorem dX8_tellsBehind_27 : decode cX8_tellsBehind 27 = .ok (.iadd, 1) := by decide +kernel
theorem dX8_tellsBehind_28 : decode cX8_tellsBehind 28 = .ok (.aload_n 0, 1) := by decide +kernel
theorem dX8_tellsBehind_29 : decode cX8_tellsBehind 29 = .ok (.getfield 47, 3) := by decide +kernel
theorem dX8_tellsBehind_32 : decode cX8_tellsBehind 32 = .ok (.iload_n 2, 1) := by decide +kernel
theorem dX8_tellsBehind_33 : decode cX8_tellsBehind 33 = .ok (.iaload, 1) := by decide +kernel
theorem dX8_tellsBehind_34 : decode cX8_tellsBehind 34 = .ok (.if_icmp .le 7, 3) := by decide +kernel
theorem dX8_tellsBehind_37 : decode cX8_tellsBehind 37 = .ok (.iconst 1, 1) := by decide +kernel
theorem dX8_tellsBehind_38 : decode cX8_tellsBehind 38 = .ok (.goto 4, 3) := by decide +kernel
theorem dX8_tellsBehind_41 : decode cX8_tellsBehind 41 = .ok (.iconst 0, 1) := by decide +kernel
theorem dX8_tellsBehind_42 : decode cX8_tellsBehind 42 = .ok (.ireturn, 1) := by decide +kernel
theorem dX8_tellsAhead_0 : decode cX8_tellsAhead 0 = .ok (.iload_n 2, 1) := by decide +kernel
theorem dX8_tellsAhead_1 : decode cX8_tellsAhead 1 = .ok (.iconst 1, 1) := by decide +kernel
theorem dX8_tellsAhead_2 : decode cX8_tellsAhead 2 = .ok (.iload_n 1, 1) := by decide +kernel
theorem dX8_tellsAhead_3 : decode cX8_tellsAhead 3 = .ok (.ishl, 1) := by decide +kernel
theorem dX8_tellsAhead_4 : decode cX8_tellsAhead 4 = .ok (.ior, 1) := by decide +kernel
theorem dX8_tellsAhead_5 : decode cX8_tellsAhead 5 = .ok (.istore_n 3, 1) := by decide +kernel
theorem dX8_tellsAhead_6 : decode cX8_tellsAhead 6 = .ok (.aload_n 0, 1) := by decide +kernel
theorem dX8_tellsAhead_7 : decode cX8_tellsAhead 7 = .ok (.getfield 53, 3) := by decide +kernel
theorem dX8_tellsAhead_10 : decode cX8_tellsAhead 10 = .ok (.iload_n 3, 1) := by decide +kernel
theorem dX8_tellsAhead_11 : decode cX8_tellsAhead 11 = .ok (.baload, 1) := by decide +kernel
theorem dX8_tellsAhead_12 : decode cX8_tellsAhead 12 = .ok (.ifCond .eq 29, 3) := by decide +kernel
theorem dX8_tellsAhead_15 : decode cX8_tellsAhead 15 = .ok (.aload_n 0, 1) := by decide +kernel
theorem dX8_tellsAhead_16 : decode cX8_tellsAhead 16 = .ok (.getfield 44, 3) := by decide +kernel
theorem dX8_tellsAhead_19 : decode cX8_tellsAhead 19 = .ok (.iload_n 2, 1) := by decide +kernel
theorem dX8_tellsAhead_20 : decode cX8_tellsAhead 20 = .ok (.iaload, 1) := by decide +kernel
theorem dX8_tellsAhead_21 : decode cX8_tellsAhead 21 = .ok (.aload_n 0, 1) := by decide +kernel
theorem dX8_tellsAhead_22 : decode cX8_tellsAhead 22 = .ok (.getfield 50, 3) := by decide +kernel
theorem dX8_tellsAhead_25 : decode cX8_tellsAhead 25 = .ok (.iload_n 3, 1) := by decide +kernel
theorem dX8_tellsAhead_26 : decode cX8_tellsAhead 26 = .ok (.iaload, 1) := by decide +kernel
theorem dX8_tellsAhead_27 : decode cX8_tellsAhead 27 = .ok (.iadd, 1) := by decide +kernel
theorem dX8_tellsAhead_28 : decode cX8_tellsAhead 28 = .ok (.aload_n 0, 1) := by decide +kernel
theorem dX8_tellsAhead_29 : decode cX8_tellsAhead 29 = .ok (.getfield 47, 3) := by decide +kernel
theorem dX8_tellsAhead_32 : decode cX8_tellsAhead 32 = .ok (.iload_n 3, 1) := by decide +kernel
theorem dX8_tellsAhead_33 : decode cX8_tellsAhead 33 = .ok (.iaload, 1) := by decide +kernel
theorem dX8_tellsAhead_34 : decode cX8_tellsAhead 34 = .ok (.if_icmp .le 7, 3) := by decide +kernel
theorem dX8_tellsAhead_37 : decode cX8_tellsAhead 37 = .ok (.iconst 1, 1) := by decide +kernel
theorem dX8_tellsAhead_38 : decode cX8_tellsAhead 38 = .ok (.goto 4, 3) := by decide +kernel
theorem dX8_tellsAhead_41 : decode cX8_tellsAhead 41 = .ok (.iconst 0, 1) := by decide +kernel
theorem dX8_tellsAhead_42 : decode cX8_tellsAhead 42 = .ok (.ireturn, 1) := by decide +kernel
set_option maxRecDepth 20000 in
theorem ggX8_ruleThree_X8_tellsBehind : GoodIn wsX8_ruleThree wsX8_tellsBehind := goodIn_r _ [6, 7, 8, 9, 10, 24, 25, 26, 27, 28, 29, 30, 31, 32, 33, 34, 35, 36, 37, 38, 39, 40, 41, 42, 43, 44, 45, 46, 47, 48, 49, 50, 51, 52, 53] (by decide +kernel) (by decide +kernel)
set_option maxRecDepth 20000 in
theorem gX8_ruleThree_X8_tellsBehind : GoodIn wsX8_ruleThree (wsV RX8 144 RX8 yX8_tellsBehind wsX8_tellsBehind) := goodIn_app (goodIn_of _ (by decide +kernel)) ggX8_ruleThree_X8_tellsBehind
set_option maxRecDepth 20000 in
theorem ggX8_ruleThree_X8_has : GoodIn wsX8_ruleThree wsX8_has := goodIn_r _ [13] (by decide +kernel) (by decide +kernel)
set_option maxRecDepth 20000 in
theorem gX8_ruleThree_X8_has : GoodIn wsX8_ruleThree (va_wsS RX8 102 yX8_has wsX8_has) := goodIn_app (goodIn_of _ (by decide +kernel)) ggX8_ruleThree_X8_has
set_option maxRecDepth 20000 in
theorem ggX8_ruleThree_X8_comesAhead : GoodIn wsX8_ruleThree wsX8_comesAhead := goodIn_r _ [17, 18, 19, 24, 25, 26, 27, 28, 29, 30, 31, 32, 33, 34, 35, 36, 37, 38, 39, 40, 41, 42, 43, 44, 45, 46, 47, 48, 49, 50, 51, 52, 53] (by decide +kernel) (by decide +kernel)
set_option maxRecDepth 20000 in
theorem gX8_ruleThree_X8_comesAhead : GoodIn wsX8_ruleThree (wsV RX8 137 RX8 yX8_comesAhead wsX8_comesAhead) := goodIn_app (goodIn_of _ (by decide +kernel)) ggX8_ruleThree_X8_comesAhead
set_option maxRecDepth 20000 in
theorem ggX8_ruleThree_X8_tellsAhead : GoodIn wsX8_ruleThree wsX8_tellsAhead := goodIn_r _ [23, 7, 8, 9, 10, 24, 25, 26, 27, 28, 29, 30, 31, 32, 33, 34, 35, 36, 37, 38, 39, 40, 41, 42, 43, 44, 45, 46, 47, 48, 49, 50, 51, 52, 53] (by decide +kernel) (by decide +kernel)
set_option maxRecDepth 20000 in
theorem gX8_ruleThree_X8_tellsAhead : GoodIn wsX8_ruleThree (wsV RX8 147 RX8 yX8_tellsAhead wsX8_tellsAhead) := goodIn_app (goodIn_of _ (by decide +kernel)) ggX8_ruleThree_X8_tellsAhead
theorem dX8_ruleThree_0 : decode cX8_ruleThree 0 = .ok (.aload_n 0, 1) := by decide +kernel
theorem dX8_ruleThree_1 : decode cX8_ruleThree 1 = .ok (.iload_n 1, 1) := by decide +kernel
theorem dX8_ruleThree_2 : decode cX8_ruleThree 2 = .ok (.iload_n 2, 1) := by decide +kernel
theorem dX8_ruleThree_3 : decode cX8_ruleThree 3 = .ok (.invokevirtual 144, 3) := by decide +kernel
theorem dX8_ruleThree_6 : decode cX8_ruleThree 6 = .ok (.ifCond .eq 35, 3) := by decide +kernel
theorem dX8_ruleThree_9 : decode cX8_ruleThree 9 = .ok (.iconst 0, 1) := by decide +kernel
theorem dX8_ruleThree_10 : decode cX8_ruleThree 10 = .ok (.istore_n 3, 1) := by decide +kernel
theorem dX8_ruleThree_11 : decode cX8_ruleThree 11 = .ok (.iload_n 3, 1) := by decide +kernel
theorem dX8_ruleThree_12 : decode cX8_ruleThree 12 = .ok (.aload_n 0, 1) := by decide +kernel
theorem dX8_ruleThree_13 : decode cX8_ruleThree 13 = .ok (.getfield 78, 3) := by decide +kernel
theorem dX8_ruleThree_16 : decode cX8_ruleThree 16 = .ok (.if_icmp .ge 25, 3) := by decide +kernel
theorem dX8_ruleThree_19 : decode cX8_ruleThree 19 = .ok (.iload_n 2, 1) := by decide +kernel
theorem dX8_ruleThree_20 : decode cX8_ruleThree 20 = .ok (.iload_n 3, 1) := by decide +kernel
theorem dX8_ruleThree_21 : decode cX8_ruleThree 21 = .ok (.invokestatic 102, 3) := by decide +kernel
theorem dX8_ruleThree_24 : decode cX8_ruleThree 24 = .ok (.ifCond .eq 11, 3) := by decide +kernel
theorem dX8_ruleThree_27 : decode cX8_ruleThree 27 = .ok (.aload_n 0, 1) := by decide +kernel
theorem dX8_ruleThree_28 : decode cX8_ruleThree 28 = .ok (.iload_n 3, 1) := by decide +kernel
theorem dX8_ruleThree_29 : decode cX8_ruleThree 29 = .ok (.iconst 1, 1) := by decide +kernel
theorem dX8_ruleThree_30 : decode cX8_ruleThree 30 = .ok (.iload_n 1, 1) := by decide +kernel
theorem dX8_ruleThree_31 : decode cX8_ruleThree 31 = .ok (.ishl, 1) := by decide +kernel
theorem dX8_ruleThree_32 : decode cX8_ruleThree 32 = .ok (.invokevirtual 137, 3) := by decide +kernel
theorem dX8_ruleThree_35 : decode cX8_ruleThree 35 = .ok (.iinc 3 1, 3) := by decide +kernel
theorem dX8_ruleThree_38 : decode cX8_ruleThree 38 = .ok (.goto (-27), 3) := by decide +kernel
theorem dX8_ruleThree_41 : decode cX8_ruleThree 41 = .ok (.aload_n 0, 1) := by decide +kernel
theorem dX8_ruleThree_42 : decode cX8_ruleThree 42 = .ok (.iload_n 1, 1) := by decide +kernel
theorem dX8_ruleThree_43 : decode cX8_ruleThree 43 = .ok (.iload_n 2, 1) := by decide +kernel
theorem dX8_ruleThree_44 : decode cX8_ruleThree 44 = .ok (.invokevirtual 147, 3) := by decide +kernel
theorem dX8_ruleThree_47 : decode cX8_ruleThree 47 = .ok (.ifCond .eq 9, 3) := by decide +kernel
theorem dX8_ruleThree_50 : decode cX8_ruleThree 50 = .ok (.aload_n 0, 1) := by decide +kernel
theorem dX8_ruleThree_51 : decode cX8_ruleThree 51 = .ok (.iload_n 1, 1) := by decide +kernel
theorem dX8_ruleThree_52 : decode cX8_ruleThree 52 = .ok (.iload_n 2, 1) := by decide +kernel
theorem dX8_ruleThree_53 : decode cX8_ruleThree 53 = .ok (.invokevirtual 137, 3) := by decide +kernel
theorem dX8_ruleThree_56 : decode cX8_ruleThree 56 = .ok (.return_, 1) := by decide +kernel
set_option maxRecDepth 20000 in
theorem ggX8_aheadOf_X8_has : GoodIn wsX8_aheadOf wsX8_has := goodIn_r _ [6] (by decide +kernel) (by decide +kernel)
set_option maxRecDepth 20000 in
theorem gX8_aheadOf_X8_has : GoodIn wsX8_aheadOf (va_wsS RX8 102 yX8_has wsX8_has) := goodIn_app (goodIn_of _ (by decide +kernel)) ggX8_aheadOf_X8_has
theorem dX8_aheadOf_0 : decode cX8_aheadOf 0 = .ok (.iconst 0, 1) := by decide +kernel
theorem dX8_aheadOf_1 : decode cX8_aheadOf 1 = .ok (.istore_n 2, 1) := by decide +kernel
theorem dX8_aheadOf_2 : decode cX8_aheadOf 2 = .ok (.iconst 0, 1) := by decide +kernel
theorem dX8_aheadOf_3 : decode cX8_aheadOf 3 = .ok (.istore_n 3, 1) := by decide +kernel
theorem dX8_aheadOf_4 : decode cX8_aheadOf 4 = .ok (.iload_n 3, 1) := by decide +kernel
theorem dX8_aheadOf_5 : decode cX8_aheadOf 5 = .ok (.aload_n 0, 1) := by decide +kernel
theorem dX8_aheadOf_6 : decode cX8_aheadOf 6 = .ok (.getfield 78, 3) := by decide +kernel
theorem dX8_aheadOf_9 : decode cX8_aheadOf 9 = .ok (.if_icmp .ge 32, 3) := by decide +kernel
theorem dX8_aheadOf_12 : decode cX8_aheadOf 12 = .ok (.iload_n 2, 1) := by decide +kernel
theorem dX8_aheadOf_13 : decode cX8_aheadOf 13 = .ok (.aload_n 0, 1) := by decide +kernel
theorem dX8_aheadOf_14 : decode cX8_aheadOf 14 = .ok (.getfield 41, 3) := by decide +kernel
theorem dX8_aheadOf_17 : decode cX8_aheadOf 17 = .ok (.iload_n 3, 1) := by decide +kernel
theorem dX8_aheadOf_18 : decode cX8_aheadOf 18 = .ok (.iaload, 1) := by decide +kernel
theorem dX8_aheadOf_19 : decode cX8_aheadOf 19 = .ok (.iload_n 1, 1) := by decide +kernel
theorem dX8_aheadOf_20 : decode cX8_aheadOf 20 = .ok (.invokestatic 102, 3) := by decide +kernel
theorem dX8_aheadOf_23 : decode cX8_aheadOf 23 = .ok (.ifCond .eq 9, 3) := by decide +kernel
theorem dX8_aheadOf_26 : decode cX8_aheadOf 26 = .ok (.iconst 1, 1) := by decide +kernel
theorem dX8_aheadOf_27 : decode cX8_aheadOf 27 = .ok (.iload_n 3, 1) := by decide +kernel
theorem dX8_aheadOf_28 : decode cX8_aheadOf 28 = .ok (.ishl, 1) := by decide +kernel
theorem dX8_aheadOf_29 : decode cX8_aheadOf 29 = .ok (.goto 4, 3) := by decide +kernel
theorem dX8_aheadOf_32 : decode cX8_aheadOf 32 = .ok (.iconst 0, 1) := by decide +kernel
theorem dX8_aheadOf_33 : decode cX8_aheadOf 33 = .ok (.ior, 1) := by decide +kernel
theorem dX8_aheadOf_34 : decode cX8_aheadOf 34 = .ok (.istore_n 2, 1) := by decide +kernel
theorem dX8_aheadOf_35 : decode cX8_aheadOf 35 = .ok (.iinc 3 1, 3) := by decide +kernel
theorem dX8_aheadOf_38 : decode cX8_aheadOf 38 = .ok (.goto (-34), 3) := by decide +kernel
theorem dX8_aheadOf_41 : decode cX8_aheadOf 41 = .ok (.iload_n 2, 1) := by decide +kernel
theorem dX8_aheadOf_42 : decode cX8_aheadOf 42 = .ok (.ireturn, 1) := by decide +kernel
theorem dX8_ruleFour_0 : decode cX8_ruleFour 0 = .ok (.aload_n 0, 1) := by decide +kernel
theorem dX8_ruleFour_1 : decode cX8_ruleFour 1 = .ok (.getfield 53, 3) := by decide +kernel
theorem dX8_ruleFour_4 : decode cX8_ruleFour 4 = .ok (.iload_n 2, 1) := by decide +kernel
theorem dX8_ruleFour_5 : decode cX8_ruleFour 5 = .ok (.baload, 1) := by decide +kernel
theorem dX8_ruleFour_6 : decode cX8_ruleFour 6 = .ok (.ifCond .ne 4, 3) := by decide +kernel
theorem dX8_ruleFour_9 : decode cX8_ruleFour 9 = .ok (.return_, 1) := by decide +kernel
theorem dX8_ruleFour_10 : decode cX8_ruleFour 10 = .ok (.aload_n 0, 1) := by decide +kernel
theorem dX8_ruleFour_11 : decode cX8_ruleFour 11 = .ok (.getfield 44, 3) := by decide +kernel
theorem dX8_ruleFour_14 : decode cX8_ruleFour 14 = .ok (.iload_n 2, 1) := by decide +kernel
theorem dX8_ruleFour_15 : decode cX8_ruleFour 15 = .ok (.iaload, 1) := by decide +kernel
theorem dX8_ruleFour_16 : decode cX8_ruleFour 16 = .ok (.aload_n 0, 1) := by decide +kernel
theorem dX8_ruleFour_17 : decode cX8_ruleFour 17 = .ok (.getfield 50, 3) := by decide +kernel
theorem dX8_ruleFour_20 : decode cX8_ruleFour 20 = .ok (.iload_n 2, 1) := by decide +kernel
theorem dX8_ruleFour_21 : decode cX8_ruleFour 21 = .ok (.iaload, 1) := by decide +kernel
theorem dX8_ruleFour_22 : decode cX8_ruleFour 22 = .ok (.iadd, 1) := by decide +kernel
theorem dX8_ruleFour_23 : decode cX8_ruleFour 23 = .ok (.istore 4, 2) := by decide +kernel
theorem dX8_ruleFour_25 : decode cX8_ruleFour 25 = .ok (.iload_n 2, 1) := by decide +kernel
theorem dX8_ruleFour_26 : decode cX8_ruleFour 26 = .ok (.iload_n 3, 1) := by decide +kernel
theorem dX8_ruleFour_27 : decode cX8_ruleFour 27 = .ok (.iconst (-1), 1) := by decide +kernel
theorem dX8_ruleFour_28 : decode cX8_ruleFour 28 = .ok (.ixor, 1) := by decide +kernel
theorem dX8_ruleFour_29 : decode cX8_ruleFour 29 = .ok (.iand, 1) := by decide +kernel
theorem dX8_ruleFour_30 : decode cX8_ruleFour 30 = .ok (.ifCond .ne 27, 3) := by decide +kernel
theorem dX8_ruleFour_33 : decode cX8_ruleFour 33 = .ok (.iload 4, 2) := by decide +kernel
theorem dX8_ruleFour_35 : decode cX8_ruleFour 35 = .ok (.aload_n 0, 1) := by decide +kernel
theorem dX8_ruleFour_36 : decode cX8_ruleFour 36 = .ok (.getfield 35, 3) := by decide +kernel
theorem dX8_ruleFour_39 : decode cX8_ruleFour 39 = .ok (.iload_n 1, 1) := by decide +kernel
theorem dX8_ruleFour_40 : decode cX8_ruleFour 40 = .ok (.iaload, 1) := by decide +kernel
theorem dX8_ruleFour_41 : decode cX8_ruleFour 41 = .ok (.if_icmp .le 16, 3) := by decide +kernel
theorem dX8_ruleFour_44 : decode cX8_ruleFour 44 = .ok (.aload_n 0, 1) := by decide +kernel
theorem dX8_ruleFour_45 : decode cX8_ruleFour 45 = .ok (.getfield 35, 3) := by decide +kernel
theorem dX8_ruleFour_48 : decode cX8_ruleFour 48 = .ok (.iload_n 1, 1) := by decide +kernel
theorem dX8_ruleFour_49 : decode cX8_ruleFour 49 = .ok (.iload 4, 2) := by decide +kernel
theorem dX8_ruleFour_51 : decode cX8_ruleFour 51 = .ok (.iastore, 1) := by decide +kernel
theorem dX8_ruleFour_52 : decode cX8_ruleFour 52 = .ok (.aload_n 0, 1) := by decide +kernel
theorem dX8_ruleFour_53 : decode cX8_ruleFour 53 = .ok (.iconst 1, 1) := by decide +kernel
theorem dX8_ruleFour_54 : decode cX8_ruleFour 54 = .ok (.putfield 133, 3) := by decide +kernel
theorem dX8_ruleFour_57 : decode cX8_ruleFour 57 = .ok (.aload_n 0, 1) := by decide +kernel
theorem dX8_ruleFour_58 : decode cX8_ruleFour 58 = .ok (.getfield 47, 3) := by decide +kernel
theorem dX8_ruleFour_61 : decode cX8_ruleFour 61 = .ok (.iload_n 2, 1) := by decide +kernel
theorem dX8_ruleFour_62 : decode cX8_ruleFour 62 = .ok (.iaload, 1) := by decide +kernel
theorem dX8_ruleFour_63 : decode cX8_ruleFour 63 = .ok (.aload_n 0, 1) := by decide +kernel
theorem dX8_ruleFour_64 : decode cX8_ruleFour 64 = .ok (.getfield 50, 3) := by decide +kernel
theorem dX8_ruleFour_67 : decode cX8_ruleFour 67 = .ok (.iload_n 2, 1) := by decide +kernel
theorem dX8_ruleFour_68 : decode cX8_ruleFour 68 = .ok (.iaload, 1) := by decide +kernel
theorem dX8_ruleFour_69 : decode cX8_ruleFour 69 = .ok (.isub, 1) := by decide +kernel
theorem dX8_ruleFour_70 : decode cX8_ruleFour 70 = .ok (.istore 5, 2) := by decide +kernel
theorem dX8_ruleFour_72 : decode cX8_ruleFour 72 = .ok (.iload_n 2, 1) := by decide +kernel
theorem dX8_ruleFour_73 : decode cX8_ruleFour 73 = .ok (.aload_n 0, 1) := by decide +kernel
theorem dX8_ruleFour_74 : decode cX8_ruleFour 74 = .ok (.getfield 41, 3) := by decide +kernel
theorem dX8_ruleFour_77 : decode cX8_ruleFour 77 = .ok (.iload_n 1, 1) := by decide +kernel
theorem dX8_ruleFour_78 : decode cX8_ruleFour 78 = .ok (.iaload, 1) := by decide +kernel
theorem dX8_ruleFour_79 : decode cX8_ruleFour 79 = .ok (.iconst (-1), 1) := by decide +kernel
theorem dX8_ruleFour_80 : decode cX8_ruleFour 80 = .ok (.ixor, 1) := by decide +kernel
theorem dX8_ruleFour_81 : decode cX8_ruleFour 81 = .ok (.iand, 1) := by decide +kernel
theorem dX8_ruleFour_82 : decode cX8_ruleFour 82 = .ok (.ifCond .ne 27, 3) := by decide +kernel
theorem dX8_ruleFour_85 : decode cX8_ruleFour 85 = .ok (.iload 5, 2) := by decide +kernel
theorem dX8_ruleFour_87 : decode cX8_ruleFour 87 = .ok (.aload_n 0, 1) := by decide +kernel
theorem dX8_ruleFour_88 : decode cX8_ruleFour 88 = .ok (.getfield 38, 3) := by decide +kernel
theorem dX8_ruleFour_91 : decode cX8_ruleFour 91 = .ok (.iload_n 1, 1) := by decide +kernel
theorem dX8_ruleFour_92 : decode cX8_ruleFour 92 = .ok (.iaload, 1) := by decide +kernel
theorem dX8_ruleFour_93 : decode cX8_ruleFour 93 = .ok (.if_icmp .ge 16, 3) := by decide +kernel
theorem dX8_ruleFour_96 : decode cX8_ruleFour 96 = .ok (.aload_n 0, 1) := by decide +kernel
theorem dX8_ruleFour_97 : decode cX8_ruleFour 97 = .ok (.getfield 38, 3) := by decide +kernel
theorem dX8_ruleFour_100 : decode cX8_ruleFour 100 = .ok (.iload_n 1, 1) := by decide +kernel
theorem dX8_ruleFour_101 : decode cX8_ruleFour 101 = .ok (.iload 5, 2) := by decide +kernel
theorem dX8_ruleFour_103 : decode cX8_ruleFour 103 = .ok (.iastore, 1) := by decide +kernel
theorem dX8_ruleFour_104 : decode cX8_ruleFour 104 = .ok (.aload_n 0, 1) := by decide +kernel
theorem dX8_ruleFour_105 : decode cX8_ruleFour 105 = .ok (.iconst 1, 1) := by decide +kernel
theorem dX8_ruleFour_106 : decode cX8_ruleFour 106 = .ok (.putfield 133, 3) := by decide +kernel
theorem dX8_ruleFour_109 : decode cX8_ruleFour 109 = .ok (.return_, 1) := by decide +kernel
set_option maxRecDepth 20000 in
theorem ggX8_reason_X8_reckonSets : GoodIn wsX8_reason wsX8_reckonSets := goodIn_r _ [13, 1, 14, 15, 2, 4, 16, 17, 18, 19, 20, 21, 22, 23, 12, 24, 61, 62, 63, 64, 65, 66, 67, 68, 69, 70, 71, 72, 73, 74, 75, 76, 77, 78, 79, 80, 81, 82, 83, 84, 85, 86, 87, 88, 89, 90] (by decide +kernel) (by decide +kernel)
set_option maxRecDepth 20000 in
theorem gX8_reason_X8_reckonSets : GoodIn wsX8_reason (wsV RX8 150 RX8 yX8_reckonSets wsX8_reckonSets) := goodIn_app (goodIn_of _ (by decide +kernel)) ggX8_reason_X8_reckonSets
set_option maxRecDepth 20000 in
theorem ggX8_reason_X8_isContradiction : GoodIn wsX8_reason wsX8_isContradiction := goodIn_r _ [28, 1, 21, 18, 20, 19, 6, 2, 16, 4, 22, 23, 12, 24, 61, 62, 63, 64, 65, 66, 67, 68, 69, 70, 71, 72, 73, 74, 75, 76, 77, 78, 79, 80, 81, 82, 83, 84, 85, 86, 87, 88, 89, 90] (by decide +kernel) (by decide +kernel)
set_option maxRecDepth 20000 in
theorem gX8_reason_X8_isContradiction : GoodIn wsX8_reason (wsV RX8 153 RX8 yX8_isContradiction wsX8_isContradiction) := goodIn_app (goodIn_of _ (by decide +kernel)) ggX8_reason_X8_isContradiction
set_option maxRecDepth 20000 in
theorem ggX8_reason_X8_rulesOneAndTwo : GoodIn wsX8_reason wsX8_rulesOneAndTwo := goodIn_r _ [32, 1, 6, 22, 23, 12, 24, 33, 34, 35, 36, 8, 37, 38, 39, 40, 17, 2, 16, 4, 61, 62, 63, 64, 65, 66, 67, 68, 69, 70, 71, 72, 73, 74, 75, 76, 77, 78, 79, 80, 81, 82, 83, 84, 85, 86, 87, 88, 89, 90] (by decide +kernel) (by decide +kernel)
set_option maxRecDepth 20000 in
theorem gX8_reason_X8_rulesOneAndTwo : GoodIn wsX8_reason (wsV RX8 157 RX8 yX8_rulesOneAndTwo wsX8_rulesOneAndTwo) := goodIn_app (goodIn_of _ (by decide +kernel)) ggX8_reason_X8_rulesOneAndTwo
set_option maxRecDepth 20000 in
theorem ggX8_reason_X8_aheadOf : GoodIn wsX8_reason wsX8_aheadOf := goodIn_r _ [44, 1, 6, 22, 23, 12, 24, 61, 62, 63, 64, 65, 66, 67, 68, 69, 70, 71, 72, 73, 74, 75, 76, 77, 78, 79, 80, 81, 82, 83, 84, 85, 86, 87, 88, 89, 90] (by decide +kernel) (by decide +kernel)
set_option maxRecDepth 20000 in
theorem gX8_reason_X8_aheadOf : GoodIn wsX8_reason (wsV RX8 160 RX8 yX8_aheadOf wsX8_aheadOf) := goodIn_app (goodIn_of _ (by decide +kernel)) ggX8_reason_X8_aheadOf
set_option maxRecDepth 20000 in
theorem ggX8_reason_X8_has : GoodIn wsX8_reason wsX8_has := goodIn_r _ [24] (by decide +kernel) (by decide +kernel)
set_option maxRecDepth 20000 in
theorem gX8_reason_X8_has : GoodIn wsX8_reason (va_wsS RX8 102 yX8_has wsX8_has) := goodIn_app (goodIn_of _ (by decide +kernel)) ggX8_reason_X8_has
set_option maxRecDepth 20000 in
theorem ggX8_reason_X8_ruleThree : GoodIn wsX8_reason wsX8_ruleThree := goodIn_r _ [48, 1, 49, 50, 51, 12, 52, 21, 18, 20, 19, 22, 23, 24, 33, 34, 35, 36, 8, 6, 53, 54, 55, 56, 61, 62, 63, 64, 65, 66, 67, 68, 69, 70, 71, 72, 73, 74, 75, 76, 77, 78, 79, 80, 81, 82, 83, 84, 85, 86, 87, 88, 89, 90] (by decide +kernel) (by decide +kernel)
set_option maxRecDepth 20000 in
theorem gX8_reason_X8_ruleThree : GoodIn wsX8_reason (wsV RX8 163 RX8 yX8_ruleThree wsX8_ruleThree) := goodIn_app (goodIn_of _ (by decide +kernel)) ggX8_reason_X8_ruleThree
set_option maxRecDepth 20000 in
theorem ggX8_reason_X8_ruleFour : GoodIn wsX8_reason wsX8_ruleFour := goodIn_r _ [60, 21, 18, 20, 2, 8, 19, 6, 4, 61, 62, 63, 64, 65, 66, 67, 68, 69, 70, 71, 72, 73, 74, 75, 76, 77, 78, 79, 80, 81, 82, 83, 84, 85, 86, 87, 88, 89, 90] (by decide +kernel) (by decide +kernel)
set_option maxRecDepth 20000 in
theorem gX8_reason_X8_ruleFour : GoodIn wsX8_reason (wsV RX8 166 RX8 yX8_ruleFour wsX8_ruleFour) := goodIn_app (goodIn_of _ (by decide +kernel)) ggX8_reason_X8_ruleFour
theorem dX8_reason_0 : decode cX8_reason 0 = .ok (.iconst 0, 1) := by decide +kernel
theorem dX8_reason_1 : decode cX8_reason 1 = .ok (.istore_n 1, 1) := by decide +kernel
theorem dX8_reason_2 : decode cX8_reason 2 = .ok (.iload_n 1, 1) := by decide +kernel
theorem dX8_reason_3 : decode cX8_reason 3 = .ok (.aload_n 0, 1) := by decide +kernel
theorem dX8_reason_4 : decode cX8_reason 4 = .ok (.getfield 78, 3) := by decide +kernel
theorem dX8_reason_7 : decode cX8_reason 7 = .ok (.if_icmp .ge 45, 3) := by decide +kernel
theorem dX8_reason_10 : decode cX8_reason 10 = .ok (.aload_n 0, 1) := by decide +kernel
theorem dX8_reason_11 : decode cX8_reason 11 = .ok (.getfield 35, 3) := by decide +kernel
theorem dX8_reason_14 : decode cX8_reason 14 = .ok (.iload_n 1, 1) := by decide +kernel
theorem dX8_reason_15 : decode cX8_reason 15 = .ok (.aload_n 0, 1) := by decide +kernel
theorem dX8_reason_16 : decode cX8_reason 16 = .ok (.getfield 17, 3) := by decide +kernel
theorem dX8_reason_19 : decode cX8_reason 19 = .ok (.iload_n 1, 1) := by decide +kernel
theorem dX8_reason_20 : decode cX8_reason 20 = .ok (.iaload, 1) := by decide +kernel
theorem dX8_reason_21 : decode cX8_reason 21 = .ok (.iastore, 1) := by decide +kernel
theorem dX8_reason_22 : decode cX8_reason 22 = .ok (.aload_n 0, 1) := by decide +kernel
theorem dX8_reason_23 : decode cX8_reason 23 = .ok (.getfield 38, 3) := by decide +kernel
theorem dX8_reason_26 : decode cX8_reason 26 = .ok (.iload_n 1, 1) := by decide +kernel
theorem dX8_reason_27 : decode cX8_reason 27 = .ok (.aload_n 0, 1) := by decide +kernel
theorem dX8_reason_28 : decode cX8_reason 28 = .ok (.getfield 20, 3) := by decide +kernel
theorem dX8_reason_31 : decode cX8_reason 31 = .ok (.iload_n 1, 1) := by decide +kernel
theorem dX8_reason_32 : decode cX8_reason 32 = .ok (.iaload, 1) := by decide +kernel
theorem dX8_reason_33 : decode cX8_reason 33 = .ok (.iastore, 1) := by decide +kernel
theorem dX8_reason_34 : decode cX8_reason 34 = .ok (.aload_n 0, 1) := by decide +kernel
theorem dX8_reason_35 : decode cX8_reason 35 = .ok (.getfield 41, 3) := by decide +kernel
theorem dX8_reason_38 : decode cX8_reason 38 = .ok (.iload_n 1, 1) := by decide +kernel
theorem dX8_reason_39 : decode cX8_reason 39 = .ok (.aload_n 0, 1) := by decide +kernel
theorem dX8_reason_40 : decode cX8_reason 40 = .ok (.getfield 26, 3) := by decide +kernel
theorem dX8_reason_43 : decode cX8_reason 43 = .ok (.iload_n 1, 1) := by decide +kernel
theorem dX8_reason_44 : decode cX8_reason 44 = .ok (.iaload, 1) := by decide +kernel
theorem dX8_reason_45 : decode cX8_reason 45 = .ok (.iastore, 1) := by decide +kernel
theorem dX8_reason_46 : decode cX8_reason 46 = .ok (.iinc 1 1, 3) := by decide +kernel
theorem dX8_reason_49 : decode cX8_reason 49 = .ok (.goto (-47), 3) := by decide +kernel
theorem dX8_reason_52 : decode cX8_reason 52 = .ok (.aload_n 0, 1) := by decide +kernel
theorem dX8_reason_53 : decode cX8_reason 53 = .ok (.iconst 1, 1) := by decide +kernel
theorem dX8_reason_54 : decode cX8_reason 54 = .ok (.putfield 133, 3) := by decide +kernel
theorem dX8_reason_57 : decode cX8_reason 57 = .ok (.aload_n 0, 1) := by decide +kernel
theorem dX8_reason_58 : decode cX8_reason 58 = .ok (.invokevirtual 150, 3) := by decide +kernel
theorem dX8_reason_61 : decode cX8_reason 61 = .ok (.aload_n 0, 1) := by decide +kernel
theorem dX8_reason_62 : decode cX8_reason 62 = .ok (.invokevirtual 153, 3) := by decide +kernel
theorem dX8_reason_65 : decode cX8_reason 65 = .ok (.ifCond .ne 7, 3) := by decide +kernel
theorem dX8_reason_68 : decode cX8_reason 68 = .ok (.iconst 1, 1) := by decide +kernel
theorem dX8_reason_69 : decode cX8_reason 69 = .ok (.goto 4, 3) := by decide +kernel
theorem dX8_reason_72 : decode cX8_reason 72 = .ok (.iconst 0, 1) := by decide +kernel
theorem dX8_reason_73 : decode cX8_reason 73 = .ok (.istore_n 1, 1) := by decide +kernel
theorem dX8_reason_74 : decode cX8_reason 74 = .ok (.aload_n 0, 1) := by decide +kernel
theorem dX8_reason_75 : decode cX8_reason 75 = .ok (.getfield 133, 3) := by decide +kernel
theorem dX8_reason_78 : decode cX8_reason 78 = .ok (.ifCond .eq 102, 3) := by decide +kernel
theorem dX8_reason_81 : decode cX8_reason 81 = .ok (.iload_n 1, 1) := by decide +kernel
theorem dX8_reason_82 : decode cX8_reason 82 = .ok (.ifCond .eq 98, 3) := by decide +kernel
theorem dX8_reason_85 : decode cX8_reason 85 = .ok (.aload_n 0, 1) := by decide +kernel
theorem dX8_reason_86 : decode cX8_reason 86 = .ok (.iconst 0, 1) := by decide +kernel
theorem dX8_reason_87 : decode cX8_reason 87 = .ok (.putfield 133, 3) := by decide +kernel
theorem dX8_reason_90 : decode cX8_reason 90 = .ok (.aload_n 0, 1) := by decide +kernel
theorem dX8_reason_91 : decode cX8_reason 91 = .ok (.invokevirtual 157, 3) := by decide +kernel
theorem dX8_reason_94 : decode cX8_reason 94 = .ok (.iconst 0, 1) := by decide +kernel
theorem dX8_reason_95 : decode cX8_reason 95 = .ok (.istore_n 2, 1) := by decide +kernel
theorem dX8_reason_96 : decode cX8_reason 96 = .ok (.iload_n 2, 1) := by decide +kernel
theorem dX8_reason_97 : decode cX8_reason 97 = .ok (.aload_n 0, 1) := by decide +kernel
theorem dX8_reason_98 : decode cX8_reason 98 = .ok (.getfield 78, 3) := by decide +kernel
theorem dX8_reason_101 : decode cX8_reason 101 = .ok (.if_icmp .ge 59, 3) := by decide +kernel
theorem dX8_reason_104 : decode cX8_reason 104 = .ok (.aload_n 0, 1) := by decide +kernel
theorem dX8_reason_105 : decode cX8_reason 105 = .ok (.iload_n 2, 1) := by decide +kernel
theorem dX8_reason_106 : decode cX8_reason 106 = .ok (.invokevirtual 160, 3) := by decide +kernel
theorem dX8_reason_109 : decode cX8_reason 109 = .ok (.istore_n 3, 1) := by decide +kernel
theorem dX8_reason_110 : decode cX8_reason 110 = .ok (.iconst 1, 1) := by decide +kernel
theorem dX8_reason_111 : decode cX8_reason 111 = .ok (.istore 4, 2) := by decide +kernel
theorem dX8_reason_113 : decode cX8_reason 113 = .ok (.iload 4, 2) := by decide +kernel
theorem dX8_reason_115 : decode cX8_reason 115 = .ok (.iconst 1, 1) := by decide +kernel
theorem dX8_reason_116 : decode cX8_reason 116 = .ok (.aload_n 0, 1) := by decide +kernel
theorem dX8_reason_117 : decode cX8_reason 117 = .ok (.getfield 78, 3) := by decide +kernel
theorem dX8_reason_120 : decode cX8_reason 120 = .ok (.ishl, 1) := by decide +kernel
theorem dX8_reason_121 : decode cX8_reason 121 = .ok (.if_icmp .ge 33, 3) := by decide +kernel
theorem dX8_reason_124 : decode cX8_reason 124 = .ok (.iload 4, 2) := by decide +kernel
theorem dX8_reason_126 : decode cX8_reason 126 = .ok (.iload_n 2, 1) := by decide +kernel
theorem dX8_reason_127 : decode cX8_reason 127 = .ok (.invokestatic 102, 3) := by decide +kernel
theorem dX8_reason_130 : decode cX8_reason 130 = .ok (.ifCond .ne 10, 3) := by decide +kernel
theorem dX8_reason_133 : decode cX8_reason 133 = .ok (.aload_n 0, 1) := by decide +kernel
theorem dX8_reason_134 : decode cX8_reason 134 = .ok (.iload_n 2, 1) := by decide +kernel
theorem dX8_reason_135 : decode cX8_reason 135 = .ok (.iload 4, 2) := by decide +kernel
theorem dX8_reason_137 : decode cX8_reason 137 = .ok (.invokevirtual 163, 3) := by decide +kernel
theorem dX8_reason_140 : decode cX8_reason 140 = .ok (.aload_n 0, 1) := by decide +kernel
theorem dX8_reason_141 : decode cX8_reason 141 = .ok (.iload_n 2, 1) := by decide +kernel
theorem dX8_reason_142 : decode cX8_reason 142 = .ok (.iload 4, 2) := by decide +kernel
theorem dX8_reason_144 : decode cX8_reason 144 = .ok (.iload_n 3, 1) := by decide +kernel
theorem dX8_reason_145 : decode cX8_reason 145 = .ok (.invokevirtual 166, 3) := by decide +kernel
theorem dX8_reason_148 : decode cX8_reason 148 = .ok (.iinc 4 1, 3) := by decide +kernel
theorem dX8_reason_151 : decode cX8_reason 151 = .ok (.goto (-38), 3) := by decide +kernel
theorem dX8_reason_154 : decode cX8_reason 154 = .ok (.iinc 2 1, 3) := by decide +kernel
theorem dX8_reason_157 : decode cX8_reason 157 = .ok (.goto (-61), 3) := by decide +kernel
theorem dX8_reason_160 : decode cX8_reason 160 = .ok (.aload_n 0, 1) := by decide +kernel
theorem dX8_reason_161 : decode cX8_reason 161 = .ok (.invokevirtual 150, 3) := by decide +kernel
theorem dX8_reason_164 : decode cX8_reason 164 = .ok (.aload_n 0, 1) := by decide +kernel
theorem dX8_reason_165 : decode cX8_reason 165 = .ok (.invokevirtual 153, 3) := by decide +kernel
theorem dX8_reason_168 : decode cX8_reason 168 = .ok (.ifCond .ne 7, 3) := by decide +kernel
theorem dX8_reason_171 : decode cX8_reason 171 = .ok (.iconst 1, 1) := by decide +kernel
theorem dX8_reason_172 : decode cX8_reason 172 = .ok (.goto 4, 3) := by decide +kernel
theorem dX8_reason_175 : decode cX8_reason 175 = .ok (.iconst 0, 1) := by decide +kernel
theorem dX8_reason_176 : decode cX8_reason 176 = .ok (.istore_n 1, 1) := by decide +kernel
theorem dX8_reason_177 : decode cX8_reason 177 = .ok (.goto (-103), 3) := by decide +kernel
theorem dX8_reason_180 : decode cX8_reason 180 = .ok (.iload_n 1, 1) := by decide +kernel
theorem dX8_reason_181 : decode cX8_reason 181 = .ok (.ireturn, 1) := by decide +kernel
theorem dX8_pairsOnOne_0 : decode cX8_pairsOnOne 0 = .ok (.iconst 0, 1) := by decide +kernel
theorem dX8_pairsOnOne_1 : decode cX8_pairsOnOne 1 = .ok (.istore_n 1, 1) := by decide +kernel
theorem dX8_pairsOnOne_2 : decode cX8_pairsOnOne 2 = .ok (.iconst 0, 1) := by decide +kernel
theorem dX8_pairsOnOne_3 : decode cX8_pairsOnOne 3 = .ok (.istore_n 2, 1) := by decide +kernel
theorem dX8_pairsOnOne_4 : decode cX8_pairsOnOne 4 = .ok (.iload_n 2, 1) := by decide +kernel
theorem dX8_pairsOnOne_5 : decode cX8_pairsOnOne 5 = .ok (.aload_n 0, 1) := by decide +kernel
theorem dX8_pairsOnOne_6 : decode cX8_pairsOnOne 6 = .ok (.getfield 78, 3) := by decide +kernel
theorem dX8_pairsOnOne_9 : decode cX8_pairsOnOne 9 = .ok (.if_icmp .ge 45, 3) := by decide +kernel
theorem dX8_pairsOnOne_12 : decode cX8_pairsOnOne 12 = .ok (.iconst 0, 1) := by decide +kernel
theorem dX8_pairsOnOne_13 : decode cX8_pairsOnOne 13 = .ok (.istore_n 3, 1) := by decide +kernel
theorem dX8_pairsOnOne_14 : decode cX8_pairsOnOne 14 = .ok (.iload_n 3, 1) := by decide +kernel
theorem dX8_pairsOnOne_15 : decode cX8_pairsOnOne 15 = .ok (.iload_n 2, 1) := by decide +kernel
theorem dX8_pairsOnOne_16 : decode cX8_pairsOnOne 16 = .ok (.if_icmp .ge 32, 3) := by decide +kernel
theorem dX8_pairsOnOne_19 : decode cX8_pairsOnOne 19 = .ok (.iload_n 1, 1) := by decide +kernel
theorem dX8_pairsOnOne_20 : decode cX8_pairsOnOne 20 = .ok (.aload_n 0, 1) := by decide +kernel
theorem dX8_pairsOnOne_21 : decode cX8_pairsOnOne 21 = .ok (.getfield 13, 3) := by decide +kernel
theorem dX8_pairsOnOne_24 : decode cX8_pairsOnOne 24 = .ok (.iload_n 2, 1) := by decide +kernel
theorem dX8_pairsOnOne_25 : decode cX8_pairsOnOne 25 = .ok (.iaload, 1) := by decide +kernel
theorem dX8_pairsOnOne_26 : decode cX8_pairsOnOne 26 = .ok (.aload_n 0, 1) := by decide +kernel
theorem dX8_pairsOnOne_27 : decode cX8_pairsOnOne 27 = .ok (.getfield 13, 3) := by decide +kernel
theorem dX8_pairsOnOne_30 : decode cX8_pairsOnOne 30 = .ok (.iload_n 3, 1) := by decide +kernel
theorem dX8_pairsOnOne_31 : decode cX8_pairsOnOne 31 = .ok (.iaload, 1) := by decide +kernel
theorem dX8_pairsOnOne_32 : decode cX8_pairsOnOne 32 = .ok (.if_icmp .ne 7, 3) := by decide +kernel
theorem dX8_pairsOnOne_35 : decode cX8_pairsOnOne 35 = .ok (.iconst 1, 1) := by decide +kernel
theorem dX8_pairsOnOne_36 : decode cX8_pairsOnOne 36 = .ok (.goto 4, 3) := by decide +kernel
theorem dX8_pairsOnOne_39 : decode cX8_pairsOnOne 39 = .ok (.iconst 0, 1) := by decide +kernel
theorem dX8_pairsOnOne_40 : decode cX8_pairsOnOne 40 = .ok (.iadd, 1) := by decide +kernel
theorem dX8_pairsOnOne_41 : decode cX8_pairsOnOne 41 = .ok (.istore_n 1, 1) := by decide +kernel
theorem dX8_pairsOnOne_42 : decode cX8_pairsOnOne 42 = .ok (.iinc 3 1, 3) := by decide +kernel
theorem dX8_pairsOnOne_45 : decode cX8_pairsOnOne 45 = .ok (.goto (-31), 3) := by decide +kernel
theorem dX8_pairsOnOne_48 : decode cX8_pairsOnOne 48 = .ok (.iinc 2 1, 3) := by decide +kernel
theorem dX8_pairsOnOne_51 : decode cX8_pairsOnOne 51 = .ok (.goto (-47), 3) := by decide +kernel
theorem dX8_pairsOnOne_54 : decode cX8_pairsOnOne 54 = .ok (.iload_n 1, 1) := by decide +kernel
theorem dX8_pairsOnOne_55 : decode cX8_pairsOnOne 55 = .ok (.ireturn, 1) := by decide +kernel
set_option maxRecDepth 20000 in
theorem ggX8_openPairs_X8_has : GoodIn wsX8_openPairs wsX8_has := goodIn_r _ [7] (by decide +kernel) (by decide +kernel)
set_option maxRecDepth 20000 in
theorem gX8_openPairs_X8_has : GoodIn wsX8_openPairs (va_wsS RX8 102 yX8_has wsX8_has) := goodIn_app (goodIn_of _ (by decide +kernel)) ggX8_openPairs_X8_has
theorem dX8_openPairs_0 : decode cX8_openPairs 0 = .ok (.iconst 0, 1) := by decide +kernel
theorem dX8_openPairs_1 : decode cX8_openPairs 1 = .ok (.istore_n 1, 1) := by decide +kernel
theorem dX8_openPairs_2 : decode cX8_openPairs 2 = .ok (.iconst 0, 1) := by decide +kernel
theorem dX8_openPairs_3 : decode cX8_openPairs 3 = .ok (.istore_n 2, 1) := by decide +kernel
theorem dX8_openPairs_4 : decode cX8_openPairs 4 = .ok (.iload_n 2, 1) := by decide +kernel
theorem dX8_openPairs_5 : decode cX8_openPairs 5 = .ok (.aload_n 0, 1) := by decide +kernel
theorem dX8_openPairs_6 : decode cX8_openPairs 6 = .ok (.getfield 78, 3) := by decide +kernel
theorem dX8_openPairs_9 : decode cX8_openPairs 9 = .ok (.if_icmp .ge 71, 3) := by decide +kernel
theorem dX8_openPairs_12 : decode cX8_openPairs 12 = .ok (.iconst 0, 1) := by decide +kernel
theorem dX8_openPairs_13 : decode cX8_openPairs 13 = .ok (.istore_n 3, 1) := by decide +kernel
theorem dX8_openPairs_14 : decode cX8_openPairs 14 = .ok (.iload_n 3, 1) := by decide +kernel
theorem dX8_openPairs_15 : decode cX8_openPairs 15 = .ok (.iload_n 2, 1) := by decide +kernel
theorem dX8_openPairs_16 : decode cX8_openPairs 16 = .ok (.if_icmp .ge 58, 3) := by decide +kernel
theorem dX8_openPairs_19 : decode cX8_openPairs 19 = .ok (.iload_n 1, 1) := by decide +kernel
theorem dX8_openPairs_20 : decode cX8_openPairs 20 = .ok (.aload_n 0, 1) := by decide +kernel
theorem dX8_openPairs_21 : decode cX8_openPairs 21 = .ok (.getfield 13, 3) := by decide +kernel
theorem dX8_openPairs_24 : decode cX8_openPairs 24 = .ok (.iload_n 2, 1) := by decide +kernel
theorem dX8_openPairs_25 : decode cX8_openPairs 25 = .ok (.iaload, 1) := by decide +kernel
theorem dX8_openPairs_26 : decode cX8_openPairs 26 = .ok (.aload_n 0, 1) := by decide +kernel
theorem dX8_openPairs_27 : decode cX8_openPairs 27 = .ok (.getfield 13, 3) := by decide +kernel
theorem dX8_openPairs_30 : decode cX8_openPairs 30 = .ok (.iload_n 3, 1) := by decide +kernel
theorem dX8_openPairs_31 : decode cX8_openPairs 31 = .ok (.iaload, 1) := by decide +kernel
theorem dX8_openPairs_32 : decode cX8_openPairs 32 = .ok (.if_icmp .ne 33, 3) := by decide +kernel
theorem dX8_openPairs_35 : decode cX8_openPairs 35 = .ok (.aload_n 0, 1) := by decide +kernel
theorem dX8_openPairs_36 : decode cX8_openPairs 36 = .ok (.getfield 41, 3) := by decide +kernel
theorem dX8_openPairs_39 : decode cX8_openPairs 39 = .ok (.iload_n 2, 1) := by decide +kernel
theorem dX8_openPairs_40 : decode cX8_openPairs 40 = .ok (.iaload, 1) := by decide +kernel
theorem dX8_openPairs_41 : decode cX8_openPairs 41 = .ok (.iload_n 3, 1) := by decide +kernel
theorem dX8_openPairs_42 : decode cX8_openPairs 42 = .ok (.invokestatic 102, 3) := by decide +kernel
theorem dX8_openPairs_45 : decode cX8_openPairs 45 = .ok (.ifCond .ne 20, 3) := by decide +kernel
theorem dX8_openPairs_48 : decode cX8_openPairs 48 = .ok (.aload_n 0, 1) := by decide +kernel
theorem dX8_openPairs_49 : decode cX8_openPairs 49 = .ok (.getfield 41, 3) := by decide +kernel
theorem dX8_openPairs_52 : decode cX8_openPairs 52 = .ok (.iload_n 3, 1) := by decide +kernel
theorem dX8_openPairs_53 : decode cX8_openPairs 53 = .ok (.iaload, 1) := by decide +kernel
theorem dX8_openPairs_54 : decode cX8_openPairs 54 = .ok (.iload_n 2, 1) := by decide +kernel
theorem dX8_openPairs_55 : decode cX8_openPairs 55 = .ok (.invokestatic 102, 3) := by decide +kernel
theorem dX8_openPairs_58 : decode cX8_openPairs 58 = .ok (.ifCond .ne 7, 3) := by decide +kernel
theorem dX8_openPairs_61 : decode cX8_openPairs 61 = .ok (.iconst 1, 1) := by decide +kernel
theorem dX8_openPairs_62 : decode cX8_openPairs 62 = .ok (.goto 4, 3) := by decide +kernel
theorem dX8_openPairs_65 : decode cX8_openPairs 65 = .ok (.iconst 0, 1) := by decide +kernel
theorem dX8_openPairs_66 : decode cX8_openPairs 66 = .ok (.iadd, 1) := by decide +kernel
theorem dX8_openPairs_67 : decode cX8_openPairs 67 = .ok (.istore_n 1, 1) := by decide +kernel
theorem dX8_openPairs_68 : decode cX8_openPairs 68 = .ok (.iinc 3 1, 3) := by decide +kernel
theorem dX8_openPairs_71 : decode cX8_openPairs 71 = .ok (.goto (-57), 3) := by decide +kernel
theorem dX8_openPairs_74 : decode cX8_openPairs 74 = .ok (.iinc 2 1, 3) := by decide +kernel
theorem dX8_openPairs_77 : decode cX8_openPairs 77 = .ok (.goto (-73), 3) := by decide +kernel
theorem dX8_openPairs_80 : decode cX8_openPairs 80 = .ok (.iload_n 1, 1) := by decide +kernel
theorem dX8_openPairs_81 : decode cX8_openPairs 81 = .ok (.ireturn, 1) := by decide +kernel
set_option maxRecDepth 20000 in
theorem ggX8_number_X8_givenMany : GoodIn wsX8_number wsX8_givenMany := goodIn_r _ [7, 2, 8, 9, 10, 6, 11, 81, 82, 83, 84, 85, 86, 87, 88, 89, 90, 91, 92, 93, 94, 95, 96, 97, 98, 99, 100, 101, 102, 103, 104, 105, 106, 107, 108, 109, 110] (by decide +kernel) (by decide +kernel)
set_option maxRecDepth 20000 in
theorem gX8_number_X8_givenMany : GoodIn wsX8_number (wsV RX8 121 RX8 yX8_givenMany wsX8_givenMany) := goodIn_app (goodIn_of _ (by decide +kernel)) ggX8_number_X8_givenMany
set_option maxRecDepth 20000 in
theorem ggX8_number_X8_pairsOnOne : GoodIn wsX8_number wsX8_pairsOnOne := goodIn_r _ [15, 2, 16, 81, 82, 83, 84, 85, 86, 87, 88, 89, 90, 91, 92, 93, 94, 95, 96, 97, 98, 99, 100, 101, 102, 103, 104, 105, 106, 107, 108, 109, 110] (by decide +kernel) (by decide +kernel)
set_option maxRecDepth 20000 in
theorem gX8_number_X8_pairsOnOne : GoodIn wsX8_number (wsV RX8 170 RX8 yX8_pairsOnOne wsX8_pairsOnOne) := goodIn_app (goodIn_of _ (by decide +kernel)) ggX8_number_X8_pairsOnOne
set_option maxRecDepth 20000 in
theorem ggX8_number_X8_reason : GoodIn wsX8_number wsX8_reason := goodIn_r _ [20, 2, 21, 22, 23, 24, 25, 8, 26, 27, 28, 29, 6, 30, 31, 32, 33, 16, 34, 35, 36, 37, 38, 39, 40, 41, 42, 43, 44, 45, 46, 47, 48, 49, 50, 51, 52, 53, 54, 55, 56, 57, 58, 59, 60, 61, 62, 63, 64, 65, 66, 67, 68, 69, 70, 71, 72, 73, 74, 75, 76, 81, 82, 83, 84, 85, 86, 87, 88, 89, 90, 91, 92, 93, 94, 95, 96, 97, 98, 99, 100, 101, 102, 103, 104, 105, 106, 107, 108, 109, 110] (by decide +kernel) (by decide +kernel)
set_option maxRecDepth 20000 in
theorem gX8_number_X8_reason : GoodIn wsX8_number (wsV RX8 173 RX8 yX8_reason wsX8_reason) := goodIn_app (goodIn_of _ (by decide +kernel)) ggX8_number_X8_reason
set_option maxRecDepth 20000 in
theorem ggX8_number_X8_openPairs : GoodIn wsX8_number wsX8_openPairs := goodIn_r _ [80, 2, 16, 25, 38, 39, 6, 40, 81, 82, 83, 84, 85, 86, 87, 88, 89, 90, 91, 92, 93, 94, 95, 96, 97, 98, 99, 100, 101, 102, 103, 104, 105, 106, 107, 108, 109, 110] (by decide +kernel) (by decide +kernel)
set_option maxRecDepth 20000 in
theorem gX8_number_X8_openPairs : GoodIn wsX8_number (wsV RX8 176 RX8 yX8_openPairs wsX8_openPairs) := goodIn_app (goodIn_of _ (by decide +kernel)) ggX8_number_X8_openPairs
theorem dX8_number_0 : decode cX8_number 0 = .ok (.iload_n 1, 1) := by decide +kernel
theorem dX8_number_1 : decode cX8_number 1 = .ok (.tableswitch 68 0 4 #[35, 40, 45, 50, 55], 35) := by decide +kernel
theorem dX8_number_36 : decode cX8_number 36 = .ok (.aload_n 0, 1) := by decide +kernel
theorem dX8_number_37 : decode cX8_number 37 = .ok (.getfield 7, 3) := by decide +kernel
theorem dX8_number_40 : decode cX8_number 40 = .ok (.ireturn, 1) := by decide +kernel
theorem dX8_number_41 : decode cX8_number 41 = .ok (.aload_n 0, 1) := by decide +kernel
theorem dX8_number_42 : decode cX8_number 42 = .ok (.getfield 78, 3) := by decide +kernel
theorem dX8_number_45 : decode cX8_number 45 = .ok (.ireturn, 1) := by decide +kernel
theorem dX8_number_46 : decode cX8_number 46 = .ok (.aload_n 0, 1) := by decide +kernel
theorem dX8_number_47 : decode cX8_number 47 = .ok (.invokevirtual 121, 3) := by decide +kernel
theorem dX8_number_50 : decode cX8_number 50 = .ok (.ireturn, 1) := by decide +kernel
theorem dX8_number_51 : decode cX8_number 51 = .ok (.aload_n 0, 1) := by decide +kernel
theorem dX8_number_52 : decode cX8_number 52 = .ok (.invokevirtual 170, 3) := by decide +kernel
theorem dX8_number_55 : decode cX8_number 55 = .ok (.ireturn, 1) := by decide +kernel
theorem dX8_number_56 : decode cX8_number 56 = .ok (.aload_n 0, 1) := by decide +kernel
theorem dX8_number_57 : decode cX8_number 57 = .ok (.invokevirtual 173, 3) := by decide +kernel
theorem dX8_number_60 : decode cX8_number 60 = .ok (.ifCond .eq 7, 3) := by decide +kernel
theorem dX8_number_63 : decode cX8_number 63 = .ok (.iconst 0, 1) := by decide +kernel
theorem dX8_number_64 : decode cX8_number 64 = .ok (.goto 4, 3) := by decide +kernel
theorem dX8_number_67 : decode cX8_number 67 = .ok (.iconst 1, 1) := by decide +kernel
theorem dX8_number_68 : decode cX8_number 68 = .ok (.ireturn, 1) := by decide +kernel
theorem dX8_number_69 : decode cX8_number 69 = .ok (.aload_n 0, 1) := by decide +kernel
theorem dX8_number_70 : decode cX8_number 70 = .ok (.invokevirtual 173, 3) := by decide +kernel
theorem dX8_number_73 : decode cX8_number 73 = .ok (.ifCond .eq 10, 3) := by decide +kernel
theorem dX8_number_76 : decode cX8_number 76 = .ok (.aload_n 0, 1) := by decide +kernel
theorem dX8_number_77 : decode cX8_number 77 = .ok (.invokevirtual 176, 3) := by decide +kernel
theorem dX8_number_80 : decode cX8_number 80 = .ok (.goto 4, 3) := by decide +kernel
theorem dX8_number_83 : decode cX8_number 83 = .ok (.iconst (-1), 1) := by decide +kernel
theorem dX8_number_84 : decode cX8_number 84 = .ok (.ireturn, 1) := by decide +kernel
set_option maxRecDepth 20000 in
theorem ggX8_value_X8_in : GoodIn wsX8_value wsX8_in := goodIn_r _ [5] (by decide +kernel) (by decide +kernel)
set_option maxRecDepth 20000 in
theorem gX8_value_X8_in : GoodIn wsX8_value (va_wsS RX8 84 yX8_in wsX8_in) := goodIn_app (goodIn_of _ (by decide +kernel)) ggX8_value_X8_in
set_option maxRecDepth 20000 in
theorem ggX8_value_X8_number : GoodIn wsX8_value wsX8_number := goodIn_r _ [9, 10, 11, 12, 13, 14, 4, 15, 16, 17, 18, 19, 20, 21, 22, 23, 24, 25, 26, 27, 28, 29, 30, 31, 32, 33, 34, 35, 36, 37, 38, 39, 40, 41, 42, 43, 44, 45, 46, 47, 48, 49, 50, 51, 52, 53, 54, 55, 56, 57, 58, 59, 60, 61, 62, 63, 64, 65, 66, 67, 68, 69, 70, 71, 72, 73, 74, 75, 76, 77, 78, 79, 80, 81, 82, 83, 84, 85, 86, 87, 88, 89, 90, 91, 92, 93, 94, 95, 96, 97, 98, 99, 100, 101, 102, 103, 104, 105, 106, 107, 108, 109, 110, 111, 112, 113, 114, 115, 116, 117, 118] (by decide +kernel) (by decide +kernel)
set_option maxRecDepth 20000 in
theorem gX8_value_X8_number : GoodIn wsX8_value (wsV RX8 179 RX8 yX8_number wsX8_number) := goodIn_app (goodIn_of _ (by decide +kernel)) ggX8_value_X8_number
theorem dX8_value_0 : decode cX8_value 0 = .ok (.aload_n 0, 1) := by decide +kernel
theorem dX8_value_1 : decode cX8_value 1 = .ok (.iload_n 1, 1) := by decide +kernel
theorem dX8_value_2 : decode cX8_value 2 = .ok (.iconst 0, 1) := by decide +kernel
theorem dX8_value_3 : decode cX8_value 3 = .ok (.iconst 5, 1) := by decide +kernel
theorem dX8_value_4 : decode cX8_value 4 = .ok (.invokestatic 84, 3) := by decide +kernel
theorem dX8_value_7 : decode cX8_value 7 = .ok (.ifCond .eq 7, 3) := by decide +kernel
theorem dX8_value_10 : decode cX8_value 10 = .ok (.iconst 0, 1) := by decide +kernel
theorem dX8_value_11 : decode cX8_value 11 = .ok (.goto 4, 3) := by decide +kernel
theorem dX8_value_14 : decode cX8_value 14 = .ok (.iconst 1, 1) := by decide +kernel
theorem dX8_value_15 : decode cX8_value 15 = .ok (.putfield 75, 3) := by decide +kernel
theorem dX8_value_18 : decode cX8_value 18 = .ok (.aload_n 0, 1) := by decide +kernel
theorem dX8_value_19 : decode cX8_value 19 = .ok (.getfield 75, 3) := by decide +kernel
theorem dX8_value_22 : decode cX8_value 22 = .ok (.ifCond .le 7, 3) := by decide +kernel
theorem dX8_value_25 : decode cX8_value 25 = .ok (.iconst 0, 1) := by decide +kernel
theorem dX8_value_26 : decode cX8_value 26 = .ok (.goto 8, 3) := by decide +kernel
theorem dX8_value_29 : decode cX8_value 29 = .ok (.aload_n 0, 1) := by decide +kernel
theorem dX8_value_30 : decode cX8_value 30 = .ok (.iload_n 1, 1) := by decide +kernel
theorem dX8_value_31 : decode cX8_value 31 = .ok (.invokevirtual 179, 3) := by decide +kernel
theorem dX8_value_34 : decode cX8_value 34 = .ok (.ireturn, 1) := by decide +kernel
set_option maxRecDepth 20000 in
theorem ggX8_whyNotOne_X8_isTask : GoodIn wsX8_whyNotOne wsX8_isTask := goodIn_r _ [5, 6, 69, 70, 71, 72, 73, 74, 75, 76, 77, 78, 79, 80, 81, 82, 83, 84, 85, 86, 87, 88, 89, 90, 91, 92, 93, 94, 95, 96, 97, 98] (by decide +kernel) (by decide +kernel)
set_option maxRecDepth 20000 in
theorem gX8_whyNotOne_X8_isTask : GoodIn wsX8_whyNotOne (wsV RX8 98 RX8 yX8_isTask wsX8_isTask) := goodIn_app (goodIn_of _ (by decide +kernel)) ggX8_whyNotOne_X8_isTask
set_option maxRecDepth 20000 in
theorem ggX8_whyNotOne_X8_reason : GoodIn wsX8_whyNotOne wsX8_reason := goodIn_r _ [10, 6, 11, 12, 13, 14, 15, 16, 17, 18, 19, 20, 4, 21, 22, 23, 24, 25, 26, 27, 28, 29, 30, 31, 32, 33, 34, 35, 36, 37, 38, 39, 40, 41, 42, 43, 44, 45, 46, 47, 48, 49, 50, 51, 52, 53, 54, 55, 56, 57, 58, 59, 60, 61, 62, 63, 64, 65, 66, 67, 68, 69, 70, 71, 72, 73, 74, 75, 76, 77, 78, 79, 80, 81, 82, 83, 84, 85, 86, 87, 88, 89, 90, 91, 92, 93, 94, 95, 96, 97, 98] (by decide +kernel) (by decide +kernel)
set_option maxRecDepth 20000 in
theorem gX8_whyNotOne_X8_reason : GoodIn wsX8_whyNotOne (wsV RX8 173 RX8 yX8_reason wsX8_reason) := goodIn_app (goodIn_of _ (by decide +kernel)) ggX8_whyNotOne_X8_reason
theorem dX8_whyNotOne_0 : decode cX8_whyNotOne 0 = .ok (.aload_n 0, 1) := by decide +kernel
theorem dX8_whyNotOne_1 : decode cX8_whyNotOne 1 = .ok (.iload_n 1, 1) := by decide +kernel
theorem dX8_whyNotOne_2 : decode cX8_whyNotOne 2 = .ok (.invokevirtual 98, 3) := by decide +kernel
theorem dX8_whyNotOne_5 : decode cX8_whyNotOne 5 = .ok (.ifCond .ne 7, 3) := by decide +kernel
theorem dX8_whyNotOne_8 : decode cX8_whyNotOne 8 = .ok (.iconst 1, 1) := by decide +kernel
theorem dX8_whyNotOne_9 : decode cX8_whyNotOne 9 = .ok (.goto 15, 3) := by decide +kernel
theorem dX8_whyNotOne_12 : decode cX8_whyNotOne 12 = .ok (.aload_n 0, 1) := by decide +kernel
theorem dX8_whyNotOne_13 : decode cX8_whyNotOne 13 = .ok (.invokevirtual 173, 3) := by decide +kernel
theorem dX8_whyNotOne_16 : decode cX8_whyNotOne 16 = .ok (.ifCond .eq 7, 3) := by decide +kernel
theorem dX8_whyNotOne_19 : decode cX8_whyNotOne 19 = .ok (.iconst 0, 1) := by decide +kernel
theorem dX8_whyNotOne_20 : decode cX8_whyNotOne 20 = .ok (.goto 4, 3) := by decide +kernel
theorem dX8_whyNotOne_23 : decode cX8_whyNotOne 23 = .ok (.iconst 2, 1) := by decide +kernel
theorem dX8_whyNotOne_24 : decode cX8_whyNotOne 24 = .ok (.ireturn, 1) := by decide +kernel
set_option maxRecDepth 20000 in
theorem ggX8_whyNotTwo_X8_isTask : GoodIn wsX8_whyNotTwo wsX8_isTask := goodIn_r _ [5, 6, 69, 70, 71, 72, 73, 74, 75, 76, 77, 78, 79, 80, 81, 82, 83, 84, 85, 86, 87, 88, 89, 90, 91, 92, 93, 94, 95, 96, 97, 98] (by decide +kernel) (by decide +kernel)
set_option maxRecDepth 20000 in
theorem gX8_whyNotTwo_X8_isTask : GoodIn wsX8_whyNotTwo (wsV RX8 98 RX8 yX8_isTask wsX8_isTask) := goodIn_app (goodIn_of _ (by decide +kernel)) ggX8_whyNotTwo_X8_isTask
set_option maxRecDepth 20000 in
theorem ggX8_whyNotTwo_X8_reason : GoodIn wsX8_whyNotTwo wsX8_reason := goodIn_r _ [10, 6, 11, 12, 13, 14, 15, 16, 17, 18, 19, 20, 4, 21, 22, 23, 24, 25, 26, 27, 28, 29, 30, 31, 32, 33, 34, 35, 36, 37, 38, 39, 40, 41, 42, 43, 44, 45, 46, 47, 48, 49, 50, 51, 52, 53, 54, 55, 56, 57, 58, 59, 60, 61, 62, 63, 64, 65, 66, 67, 68, 69, 70, 71, 72, 73, 74, 75, 76, 77, 78, 79, 80, 81, 82, 83, 84, 85, 86, 87, 88, 89, 90, 91, 92, 93, 94, 95, 96, 97, 98] (by decide +kernel) (by decide +kernel)
set_option maxRecDepth 20000 in
theorem gX8_whyNotTwo_X8_reason : GoodIn wsX8_whyNotTwo (wsV RX8 173 RX8 yX8_reason wsX8_reason) := goodIn_app (goodIn_of _ (by decide +kernel)) ggX8_whyNotTwo_X8_reason
theorem dX8_whyNotTwo_0 : decode cX8_whyNotTwo 0 = .ok (.aload_n 0, 1) := by decide +kernel
theorem dX8_whyNotTwo_1 : decode cX8_whyNotTwo 1 = .ok (.iload_n 1, 1) := by decide +kernel
theorem dX8_whyNotTwo_2 : decode cX8_whyNotTwo 2 = .ok (.invokevirtual 98, 3) := by decide +kernel
theorem dX8_whyNotTwo_5 : decode cX8_whyNotTwo 5 = .ok (.ifCond .eq 11, 3) := by decide +kernel
theorem dX8_whyNotTwo_8 : decode cX8_whyNotTwo 8 = .ok (.aload_n 0, 1) := by decide +kernel
theorem dX8_whyNotTwo_9 : decode cX8_whyNotTwo 9 = .ok (.iload_n 2, 1) := by decide +kernel
theorem dX8_whyNotTwo_10 : decode cX8_whyNotTwo 10 = .ok (.invokevirtual 98, 3) := by decide +kernel
theorem dX8_whyNotTwo_13 : decode cX8_whyNotTwo 13 = .ok (.ifCond .ne 7, 3) := by decide +kernel
theorem dX8_whyNotTwo_16 : decode cX8_whyNotTwo 16 = .ok (.iconst 1, 1) := by decide +kernel
theorem dX8_whyNotTwo_17 : decode cX8_whyNotTwo 17 = .ok (.goto 15, 3) := by decide +kernel
theorem dX8_whyNotTwo_20 : decode cX8_whyNotTwo 20 = .ok (.aload_n 0, 1) := by decide +kernel
theorem dX8_whyNotTwo_21 : decode cX8_whyNotTwo 21 = .ok (.invokevirtual 173, 3) := by decide +kernel
theorem dX8_whyNotTwo_24 : decode cX8_whyNotTwo 24 = .ok (.ifCond .eq 7, 3) := by decide +kernel
theorem dX8_whyNotTwo_27 : decode cX8_whyNotTwo 27 = .ok (.iconst 0, 1) := by decide +kernel
theorem dX8_whyNotTwo_28 : decode cX8_whyNotTwo 28 = .ok (.goto 4, 3) := by decide +kernel
theorem dX8_whyNotTwo_31 : decode cX8_whyNotTwo 31 = .ok (.iconst 2, 1) := by decide +kernel
theorem dX8_whyNotTwo_32 : decode cX8_whyNotTwo 32 = .ok (.ireturn, 1) := by decide +kernel
set_option maxRecDepth 20000 in
theorem ggX8_firstStart_X8_whyNotOne : GoodIn wsX8_firstStart wsX8_whyNotOne := goodIn_r _ [7, 8, 9, 10, 6, 11, 12, 13, 14, 15, 16, 2, 17, 18, 19, 20, 21, 22, 23, 24, 25, 26, 27, 28, 29, 30, 31, 32, 33, 34, 35, 36, 37, 38, 39, 40, 41, 42, 43, 44, 45, 46, 47, 48, 49, 50, 51, 52, 53, 54, 55, 56, 57, 58, 59, 60, 61, 62, 63, 64, 65, 66, 67, 68, 69, 70, 71, 72, 73, 74, 75, 76, 77, 78, 79, 80, 81, 82, 83, 84, 85, 86, 87, 88, 89, 90, 91, 92, 93, 94, 95, 96, 97, 98, 99, 100, 101, 102, 103] (by decide +kernel) (by decide +kernel)
set_option maxRecDepth 20000 in
theorem gX8_firstStart_X8_whyNotOne : GoodIn wsX8_firstStart (wsV RX8 182 RX8 yX8_whyNotOne wsX8_whyNotOne) := goodIn_app (goodIn_of _ (by decide +kernel)) ggX8_firstStart_X8_whyNotOne
theorem dX8_firstStart_0 : decode cX8_firstStart 0 = .ok (.aload_n 0, 1) := by decide +kernel
theorem dX8_firstStart_1 : decode cX8_firstStart 1 = .ok (.aload_n 0, 1) := by decide +kernel
theorem dX8_firstStart_2 : decode cX8_firstStart 2 = .ok (.iload_n 1, 1) := by decide +kernel
theorem dX8_firstStart_3 : decode cX8_firstStart 3 = .ok (.invokevirtual 182, 3) := by decide +kernel
theorem dX8_firstStart_6 : decode cX8_firstStart 6 = .ok (.putfield 75, 3) := by decide +kernel
theorem dX8_firstStart_9 : decode cX8_firstStart 9 = .ok (.aload_n 0, 1) := by decide +kernel
theorem dX8_firstStart_10 : decode cX8_firstStart 10 = .ok (.getfield 75, 3) := by decide +kernel
theorem dX8_firstStart_13 : decode cX8_firstStart 13 = .ok (.ifCond .le 7, 3) := by decide +kernel
theorem dX8_firstStart_16 : decode cX8_firstStart 16 = .ok (.iconst 0, 1) := by decide +kernel
theorem dX8_firstStart_17 : decode cX8_firstStart 17 = .ok (.goto 9, 3) := by decide +kernel
theorem dX8_firstStart_20 : decode cX8_firstStart 20 = .ok (.aload_n 0, 1) := by decide +kernel
theorem dX8_firstStart_21 : decode cX8_firstStart 21 = .ok (.getfield 35, 3) := by decide +kernel
theorem dX8_firstStart_24 : decode cX8_firstStart 24 = .ok (.iload_n 1, 1) := by decide +kernel
theorem dX8_firstStart_25 : decode cX8_firstStart 25 = .ok (.iaload, 1) := by decide +kernel
theorem dX8_firstStart_26 : decode cX8_firstStart 26 = .ok (.ireturn, 1) := by decide +kernel
set_option maxRecDepth 20000 in
theorem ggX8_lastEnd_X8_whyNotOne : GoodIn wsX8_lastEnd wsX8_whyNotOne := goodIn_r _ [7, 8, 9, 10, 6, 11, 12, 13, 14, 15, 16, 17, 18, 2, 19, 20, 21, 22, 23, 24, 25, 26, 27, 28, 29, 30, 31, 32, 33, 34, 35, 36, 37, 38, 39, 40, 41, 42, 43, 44, 45, 46, 47, 48, 49, 50, 51, 52, 53, 54, 55, 56, 57, 58, 59, 60, 61, 62, 63, 64, 65, 66, 67, 68, 69, 70, 71, 72, 73, 74, 75, 76, 77, 78, 79, 80, 81, 82, 83, 84, 85, 86, 87, 88, 89, 90, 91, 92, 93, 94, 95, 96, 97, 98, 99, 100, 101, 102, 103] (by decide +kernel) (by decide +kernel)
set_option maxRecDepth 20000 in
theorem gX8_lastEnd_X8_whyNotOne : GoodIn wsX8_lastEnd (wsV RX8 182 RX8 yX8_whyNotOne wsX8_whyNotOne) := goodIn_app (goodIn_of _ (by decide +kernel)) ggX8_lastEnd_X8_whyNotOne
theorem dX8_lastEnd_0 : decode cX8_lastEnd 0 = .ok (.aload_n 0, 1) := by decide +kernel
theorem dX8_lastEnd_1 : decode cX8_lastEnd 1 = .ok (.aload_n 0, 1) := by decide +kernel
theorem dX8_lastEnd_2 : decode cX8_lastEnd 2 = .ok (.iload_n 1, 1) := by decide +kernel
theorem dX8_lastEnd_3 : decode cX8_lastEnd 3 = .ok (.invokevirtual 182, 3) := by decide +kernel
theorem dX8_lastEnd_6 : decode cX8_lastEnd 6 = .ok (.putfield 75, 3) := by decide +kernel
theorem dX8_lastEnd_9 : decode cX8_lastEnd 9 = .ok (.aload_n 0, 1) := by decide +kernel
theorem dX8_lastEnd_10 : decode cX8_lastEnd 10 = .ok (.getfield 75, 3) := by decide +kernel
theorem dX8_lastEnd_13 : decode cX8_lastEnd 13 = .ok (.ifCond .le 7, 3) := by decide +kernel
theorem dX8_lastEnd_16 : decode cX8_lastEnd 16 = .ok (.iconst 0, 1) := by decide +kernel
theorem dX8_lastEnd_17 : decode cX8_lastEnd 17 = .ok (.goto 9, 3) := by decide +kernel
theorem dX8_lastEnd_20 : decode cX8_lastEnd 20 = .ok (.aload_n 0, 1) := by decide +kernel
theorem dX8_lastEnd_21 : decode cX8_lastEnd 21 = .ok (.getfield 38, 3) := by decide +kernel
theorem dX8_lastEnd_24 : decode cX8_lastEnd 24 = .ok (.iload_n 1, 1) := by decide +kernel
theorem dX8_lastEnd_25 : decode cX8_lastEnd 25 = .ok (.iaload, 1) := by decide +kernel
theorem dX8_lastEnd_26 : decode cX8_lastEnd 26 = .ok (.ireturn, 1) := by decide +kernel
set_option maxRecDepth 20000 in
theorem ggX8_slack_X8_whyNotOne : GoodIn wsX8_slack wsX8_whyNotOne := goodIn_r _ [9, 10, 11, 12, 8, 13, 14, 15, 16, 17, 18, 3, 19, 2, 20, 21, 22, 23, 24, 25, 26, 27, 28, 29, 4, 30, 31, 32, 33, 34, 35, 36, 37, 38, 39, 40, 41, 42, 43, 44, 45, 46, 47, 48, 49, 50, 51, 52, 53, 54, 55, 56, 57, 58, 59, 60, 61, 62, 63, 64, 65, 66, 67, 68, 69, 70, 71, 72, 73, 74, 75, 76, 77, 78, 79, 80, 81, 82, 83, 84, 85, 86, 87, 88, 89, 90, 91, 92, 93, 94, 95, 96, 97, 98, 99, 100, 101, 102, 103] (by decide +kernel) (by decide +kernel)
set_option maxRecDepth 20000 in
theorem gX8_slack_X8_whyNotOne : GoodIn wsX8_slack (wsV RX8 182 RX8 yX8_whyNotOne wsX8_whyNotOne) := goodIn_app (goodIn_of _ (by decide +kernel)) ggX8_slack_X8_whyNotOne
theorem dX8_slack_0 : decode cX8_slack 0 = .ok (.aload_n 0, 1) := by decide +kernel
theorem dX8_slack_1 : decode cX8_slack 1 = .ok (.aload_n 0, 1) := by decide +kernel
theorem dX8_slack_2 : decode cX8_slack 2 = .ok (.iload_n 1, 1) := by decide +kernel
theorem dX8_slack_3 : decode cX8_slack 3 = .ok (.invokevirtual 182, 3) := by decide +kernel
theorem dX8_slack_6 : decode cX8_slack 6 = .ok (.putfield 75, 3) := by decide +kernel
theorem dX8_slack_9 : decode cX8_slack 9 = .ok (.aload_n 0, 1) := by decide +kernel
theorem dX8_slack_10 : decode cX8_slack 10 = .ok (.getfield 75, 3) := by decide +kernel
theorem dX8_slack_13 : decode cX8_slack 13 = .ok (.ifCond .le 7, 3) := by decide +kernel
theorem dX8_slack_16 : decode cX8_slack 16 = .ok (.iconst 0, 1) := by decide +kernel
theorem dX8_slack_17 : decode cX8_slack 17 = .ok (.goto 23, 3) := by decide +kernel
theorem dX8_slack_20 : decode cX8_slack 20 = .ok (.aload_n 0, 1) := by decide +kernel
theorem dX8_slack_21 : decode cX8_slack 21 = .ok (.getfield 38, 3) := by decide +kernel
theorem dX8_slack_24 : decode cX8_slack 24 = .ok (.iload_n 1, 1) := by decide +kernel
theorem dX8_slack_25 : decode cX8_slack 25 = .ok (.iaload, 1) := by decide +kernel
theorem dX8_slack_26 : decode cX8_slack 26 = .ok (.aload_n 0, 1) := by decide +kernel
theorem dX8_slack_27 : decode cX8_slack 27 = .ok (.getfield 35, 3) := by decide +kernel
theorem dX8_slack_30 : decode cX8_slack 30 = .ok (.iload_n 1, 1) := by decide +kernel
theorem dX8_slack_31 : decode cX8_slack 31 = .ok (.iaload, 1) := by decide +kernel
theorem dX8_slack_32 : decode cX8_slack 32 = .ok (.isub, 1) := by decide +kernel
theorem dX8_slack_33 : decode cX8_slack 33 = .ok (.aload_n 0, 1) := by decide +kernel
theorem dX8_slack_34 : decode cX8_slack 34 = .ok (.getfield 23, 3) := by decide +kernel
theorem dX8_slack_37 : decode cX8_slack 37 = .ok (.iload_n 1, 1) := by decide +kernel
theorem dX8_slack_38 : decode cX8_slack 38 = .ok (.iaload, 1) := by decide +kernel
theorem dX8_slack_39 : decode cX8_slack 39 = .ok (.isub, 1) := by decide +kernel
theorem dX8_slack_40 : decode cX8_slack 40 = .ok (.ireturn, 1) := by decide +kernel
set_option maxRecDepth 20000 in
theorem ggX8_precedes_X8_whyNotTwo : GoodIn wsX8_precedes wsX8_whyNotTwo := goodIn_r _ [7, 8, 9, 10, 6, 11, 12, 13, 14, 15, 16, 17, 18, 19, 20, 2, 21, 22, 23, 24, 25, 26, 27, 28, 29, 30, 31, 32, 33, 34, 35, 36, 37, 38, 39, 40, 41, 42, 43, 44, 45, 46, 47, 48, 49, 50, 51, 52, 53, 54, 55, 56, 57, 58, 59, 60, 61, 62, 63, 64, 65, 66, 67, 68, 69, 70, 71, 72, 73, 74, 75, 76, 77, 78, 79, 80, 81, 82, 83, 84, 85, 86, 87, 88, 89, 90, 91, 92, 93, 94, 95, 96, 97, 98, 99, 100, 101, 102, 103] (by decide +kernel) (by decide +kernel)
set_option maxRecDepth 20000 in
theorem gX8_precedes_X8_whyNotTwo : GoodIn wsX8_precedes (wsV RX8 185 RX8 yX8_whyNotTwo wsX8_whyNotTwo) := goodIn_app (goodIn_of _ (by decide +kernel)) ggX8_precedes_X8_whyNotTwo
set_option maxRecDepth 20000 in
theorem ggX8_precedes_X8_has : GoodIn wsX8_precedes wsX8_has := goodIn_r _ [37] (by decide +kernel) (by decide +kernel)
set_option maxRecDepth 20000 in
theorem gX8_precedes_X8_has : GoodIn wsX8_precedes (va_wsS RX8 102 yX8_has wsX8_has) := goodIn_app (goodIn_of _ (by decide +kernel)) ggX8_precedes_X8_has
theorem dX8_precedes_0 : decode cX8_precedes 0 = .ok (.aload_n 0, 1) := by decide +kernel
theorem dX8_precedes_1 : decode cX8_precedes 1 = .ok (.aload_n 0, 1) := by decide +kernel
theorem dX8_precedes_2 : decode cX8_precedes 2 = .ok (.iload_n 1, 1) := by decide +kernel
theorem dX8_precedes_3 : decode cX8_precedes 3 = .ok (.iload_n 2, 1) := by decide +kernel
theorem dX8_precedes_4 : decode cX8_precedes 4 = .ok (.invokevirtual 185, 3) := by decide +kernel
theorem dX8_precedes_7 : decode cX8_precedes 7 = .ok (.putfield 75, 3) := by decide +kernel
theorem dX8_precedes_10 : decode cX8_precedes 10 = .ok (.aload_n 0, 1) := by decide +kernel
theorem dX8_precedes_11 : decode cX8_precedes 11 = .ok (.getfield 75, 3) := by decide +kernel
theorem dX8_precedes_14 : decode cX8_precedes 14 = .ok (.ifCond .ne 25, 3) := by decide +kernel
theorem dX8_precedes_17 : decode cX8_precedes 17 = .ok (.iload_n 1, 1) := by decide +kernel
theorem dX8_precedes_18 : decode cX8_precedes 18 = .ok (.iload_n 2, 1) := by decide +kernel
theorem dX8_precedes_19 : decode cX8_precedes 19 = .ok (.if_icmp .eq 20, 3) := by decide +kernel
theorem dX8_precedes_22 : decode cX8_precedes 22 = .ok (.aload_n 0, 1) := by decide +kernel
theorem dX8_precedes_23 : decode cX8_precedes 23 = .ok (.getfield 41, 3) := by decide +kernel
theorem dX8_precedes_26 : decode cX8_precedes 26 = .ok (.iload_n 1, 1) := by decide +kernel
theorem dX8_precedes_27 : decode cX8_precedes 27 = .ok (.iaload, 1) := by decide +kernel
theorem dX8_precedes_28 : decode cX8_precedes 28 = .ok (.iload_n 2, 1) := by decide +kernel
theorem dX8_precedes_29 : decode cX8_precedes 29 = .ok (.invokestatic 102, 3) := by decide +kernel
theorem dX8_precedes_32 : decode cX8_precedes 32 = .ok (.ifCond .eq 7, 3) := by decide +kernel
theorem dX8_precedes_35 : decode cX8_precedes 35 = .ok (.iconst 1, 1) := by decide +kernel
theorem dX8_precedes_36 : decode cX8_precedes 36 = .ok (.goto 4, 3) := by decide +kernel
theorem dX8_precedes_39 : decode cX8_precedes 39 = .ok (.iconst 0, 1) := by decide +kernel
theorem dX8_precedes_40 : decode cX8_precedes 40 = .ok (.ireturn, 1) := by decide +kernel
set_option maxRecDepth 20000 in
theorem ggX8_leastSet_X8_has : GoodIn wsX8_leastSet wsX8_has := goodIn_r _ [5] (by decide +kernel) (by decide +kernel)
set_option maxRecDepth 20000 in
theorem gX8_leastSet_X8_has : GoodIn wsX8_leastSet (va_wsS RX8 102 yX8_has wsX8_has) := goodIn_app (goodIn_of _ (by decide +kernel)) ggX8_leastSet_X8_has
set_option maxRecDepth 20000 in
theorem ggX8_leastSet_X8_tellsBehind : GoodIn wsX8_leastSet wsX8_tellsBehind := goodIn_r _ [9, 10, 11, 12, 13, 18, 19, 20, 21, 22, 23, 24, 25, 26, 27, 28, 29, 30, 31, 32, 33, 34, 35, 36, 37, 38, 39, 40, 41, 42, 43, 44, 45, 46, 47] (by decide +kernel) (by decide +kernel)
set_option maxRecDepth 20000 in
theorem gX8_leastSet_X8_tellsBehind : GoodIn wsX8_leastSet (wsV RX8 144 RX8 yX8_tellsBehind wsX8_tellsBehind) := goodIn_app (goodIn_of _ (by decide +kernel)) ggX8_leastSet_X8_tellsBehind
set_option maxRecDepth 20000 in
theorem ggX8_leastSet_X8_tellsAhead : GoodIn wsX8_leastSet wsX8_tellsAhead := goodIn_r _ [17, 10, 11, 12, 13, 18, 19, 20, 21, 22, 23, 24, 25, 26, 27, 28, 29, 30, 31, 32, 33, 34, 35, 36, 37, 38, 39, 40, 41, 42, 43, 44, 45, 46, 47] (by decide +kernel) (by decide +kernel)
set_option maxRecDepth 20000 in
theorem gX8_leastSet_X8_tellsAhead : GoodIn wsX8_leastSet (wsV RX8 147 RX8 yX8_tellsAhead wsX8_tellsAhead) := goodIn_app (goodIn_of _ (by decide +kernel)) ggX8_leastSet_X8_tellsAhead
theorem dX8_leastSet_0 : decode cX8_leastSet 0 = .ok (.iconst 1, 1) := by decide +kernel
theorem dX8_leastSet_1 : decode cX8_leastSet 1 = .ok (.istore_n 3, 1) := by decide +kernel
theorem dX8_leastSet_2 : decode cX8_leastSet 2 = .ok (.iload_n 3, 1) := by decide +kernel
theorem dX8_leastSet_3 : decode cX8_leastSet 3 = .ok (.iconst 1, 1) := by decide +kernel
theorem dX8_leastSet_4 : decode cX8_leastSet 4 = .ok (.aload_n 0, 1) := by decide +kernel
theorem dX8_leastSet_5 : decode cX8_leastSet 5 = .ok (.getfield 78, 3) := by decide +kernel
theorem dX8_leastSet_8 : decode cX8_leastSet 8 = .ok (.ishl, 1) := by decide +kernel
theorem dX8_leastSet_9 : decode cX8_leastSet 9 = .ok (.if_icmp .ge 90, 3) := by decide +kernel
theorem dX8_leastSet_12 : decode cX8_leastSet 12 = .ok (.iload_n 1, 1) := by decide +kernel
theorem dX8_leastSet_13 : decode cX8_leastSet 13 = .ok (.iload_n 2, 1) := by decide +kernel
theorem dX8_leastSet_14 : decode cX8_leastSet 14 = .ok (.if_icmp .eq 85, 3) := by decide +kernel
theorem dX8_leastSet_17 : decode cX8_leastSet 17 = .ok (.iload_n 3, 1) := by decide +kernel
theorem dX8_leastSet_18 : decode cX8_leastSet 18 = .ok (.iload_n 1, 1) := by decide +kernel
theorem dX8_leastSet_19 : decode cX8_leastSet 19 = .ok (.invokestatic 102, 3) := by decide +kernel
theorem dX8_leastSet_22 : decode cX8_leastSet 22 = .ok (.ifCond .eq 24, 3) := by decide +kernel
theorem dX8_leastSet_25 : decode cX8_leastSet 25 = .ok (.iload_n 3, 1) := by decide +kernel
theorem dX8_leastSet_26 : decode cX8_leastSet 26 = .ok (.iload_n 2, 1) := by decide +kernel
theorem dX8_leastSet_27 : decode cX8_leastSet 27 = .ok (.invokestatic 102, 3) := by decide +kernel
theorem dX8_leastSet_30 : decode cX8_leastSet 30 = .ok (.ifCond .ne 16, 3) := by decide +kernel
theorem dX8_leastSet_33 : decode cX8_leastSet 33 = .ok (.aload_n 0, 1) := by decide +kernel
theorem dX8_leastSet_34 : decode cX8_leastSet 34 = .ok (.iload_n 2, 1) := by decide +kernel
theorem dX8_leastSet_35 : decode cX8_leastSet 35 = .ok (.iload_n 3, 1) := by decide +kernel
theorem dX8_leastSet_36 : decode cX8_leastSet 36 = .ok (.invokevirtual 144, 3) := by decide +kernel
theorem dX8_leastSet_39 : decode cX8_leastSet 39 = .ok (.ifCond .eq 7, 3) := by decide +kernel
theorem dX8_leastSet_42 : decode cX8_leastSet 42 = .ok (.iconst 1, 1) := by decide +kernel
theorem dX8_leastSet_43 : decode cX8_leastSet 43 = .ok (.goto 4, 3) := by decide +kernel
theorem dX8_leastSet_46 : decode cX8_leastSet 46 = .ok (.iconst 0, 1) := by decide +kernel
theorem dX8_leastSet_47 : decode cX8_leastSet 47 = .ok (.istore 4, 2) := by decide +kernel
theorem dX8_leastSet_49 : decode cX8_leastSet 49 = .ok (.iload_n 3, 1) := by decide +kernel
theorem dX8_leastSet_50 : decode cX8_leastSet 50 = .ok (.iload_n 2, 1) := by decide +kernel
theorem dX8_leastSet_51 : decode cX8_leastSet 51 = .ok (.invokestatic 102, 3) := by decide +kernel
theorem dX8_leastSet_54 : decode cX8_leastSet 54 = .ok (.ifCond .eq 24, 3) := by decide +kernel
theorem dX8_leastSet_57 : decode cX8_leastSet 57 = .ok (.iload_n 3, 1) := by decide +kernel
theorem dX8_leastSet_58 : decode cX8_leastSet 58 = .ok (.iload_n 1, 1) := by decide +kernel
theorem dX8_leastSet_59 : decode cX8_leastSet 59 = .ok (.invokestatic 102, 3) := by decide +kernel
theorem dX8_leastSet_62 : decode cX8_leastSet 62 = .ok (.ifCond .ne 16, 3) := by decide +kernel
theorem dX8_leastSet_65 : decode cX8_leastSet 65 = .ok (.aload_n 0, 1) := by decide +kernel
theorem dX8_leastSet_66 : decode cX8_leastSet 66 = .ok (.iload_n 1, 1) := by decide +kernel
theorem dX8_leastSet_67 : decode cX8_leastSet 67 = .ok (.iload_n 3, 1) := by decide +kernel
theorem dX8_leastSet_68 : decode cX8_leastSet 68 = .ok (.invokevirtual 147, 3) := by decide +kernel
theorem dX8_leastSet_71 : decode cX8_leastSet 71 = .ok (.ifCond .eq 7, 3) := by decide +kernel
theorem dX8_leastSet_74 : decode cX8_leastSet 74 = .ok (.iconst 1, 1) := by decide +kernel
theorem dX8_leastSet_75 : decode cX8_leastSet 75 = .ok (.goto 4, 3) := by decide +kernel
theorem dX8_leastSet_78 : decode cX8_leastSet 78 = .ok (.iconst 0, 1) := by decide +kernel
theorem dX8_leastSet_79 : decode cX8_leastSet 79 = .ok (.istore 5, 2) := by decide +kernel
theorem dX8_leastSet_81 : decode cX8_leastSet 81 = .ok (.iload 4, 2) := by decide +kernel
theorem dX8_leastSet_83 : decode cX8_leastSet 83 = .ok (.ifCond .ne 8, 3) := by decide +kernel
theorem dX8_leastSet_86 : decode cX8_leastSet 86 = .ok (.iload 5, 2) := by decide +kernel
theorem dX8_leastSet_88 : decode cX8_leastSet 88 = .ok (.ifCond .eq 5, 3) := by decide +kernel
theorem dX8_leastSet_91 : decode cX8_leastSet 91 = .ok (.iload_n 3, 1) := by decide +kernel
theorem dX8_leastSet_92 : decode cX8_leastSet 92 = .ok (.ireturn, 1) := by decide +kernel
theorem dX8_leastSet_93 : decode cX8_leastSet 93 = .ok (.iinc 3 1, 3) := by decide +kernel
theorem dX8_leastSet_96 : decode cX8_leastSet 96 = .ok (.goto (-94), 3) := by decide +kernel
theorem dX8_leastSet_99 : decode cX8_leastSet 99 = .ok (.iconst (-1), 1) := by decide +kernel
theorem dX8_leastSet_100 : decode cX8_leastSet 100 = .ok (.ireturn, 1) := by decide +kernel
set_option maxRecDepth 20000 in
theorem ggX8_because_X8_whyNotTwo : GoodIn wsX8_because wsX8_whyNotTwo := goodIn_r _ [6, 7, 8, 9, 5, 10, 11, 12, 13, 14, 15, 16, 17, 18, 19, 20, 21, 22, 23, 24, 25, 26, 27, 28, 29, 30, 31, 32, 33, 34, 35, 36, 37, 38, 39, 40, 41, 42, 43, 44, 45, 46, 47, 48, 49, 50, 51, 52, 53, 54, 55, 56, 57, 58, 59, 60, 61, 62, 63, 64, 65, 66, 67, 68, 69, 70, 71, 72, 73, 78, 79, 80, 81, 82, 83, 84, 85, 86, 87, 88, 89, 90, 91, 92, 93, 94, 95, 96, 97, 98, 99, 100, 101, 102, 103, 104, 105, 106, 107] (by decide +kernel) (by decide +kernel)
set_option maxRecDepth 20000 in
theorem gX8_because_X8_whyNotTwo : GoodIn wsX8_because (wsV RX8 185 RX8 yX8_whyNotTwo wsX8_whyNotTwo) := goodIn_app (goodIn_of _ (by decide +kernel)) ggX8_because_X8_whyNotTwo
set_option maxRecDepth 20000 in
theorem ggX8_because_X8_leastSet : GoodIn wsX8_because wsX8_leastSet := goodIn_r _ [77, 11, 35, 36, 5, 37, 62, 63, 64, 65, 34, 31, 33, 32, 66, 67, 68, 69, 78, 79, 80, 81, 82, 83, 84, 85, 86, 87, 88, 89, 90, 91, 92, 93, 94, 95, 96, 97, 98, 99, 100, 101, 102, 103, 104, 105, 106, 107] (by decide +kernel) (by decide +kernel)
set_option maxRecDepth 20000 in
theorem gX8_because_X8_leastSet : GoodIn wsX8_because (wsV RX8 189 RX8 yX8_leastSet wsX8_leastSet) := goodIn_app (goodIn_of _ (by decide +kernel)) ggX8_because_X8_leastSet
theorem dX8_because_0 : decode cX8_because 0 = .ok (.aload_n 0, 1) := by decide +kernel
theorem dX8_because_1 : decode cX8_because 1 = .ok (.aload_n 0, 1) := by decide +kernel
theorem dX8_because_2 : decode cX8_because 2 = .ok (.iload_n 1, 1) := by decide +kernel
theorem dX8_because_3 : decode cX8_because 3 = .ok (.iload_n 2, 1) := by decide +kernel
theorem dX8_because_4 : decode cX8_because 4 = .ok (.invokevirtual 185, 3) := by decide +kernel
theorem dX8_because_7 : decode cX8_because 7 = .ok (.putfield 75, 3) := by decide +kernel
theorem dX8_because_10 : decode cX8_because 10 = .ok (.aload_n 0, 1) := by decide +kernel
theorem dX8_because_11 : decode cX8_because 11 = .ok (.getfield 75, 3) := by decide +kernel
theorem dX8_because_14 : decode cX8_because 14 = .ok (.ifCond .le 7, 3) := by decide +kernel
theorem dX8_because_17 : decode cX8_because 17 = .ok (.iconst 0, 1) := by decide +kernel
theorem dX8_because_18 : decode cX8_because 18 = .ok (.goto 9, 3) := by decide +kernel
theorem dX8_because_21 : decode cX8_because 21 = .ok (.aload_n 0, 1) := by decide +kernel
theorem dX8_because_22 : decode cX8_because 22 = .ok (.iload_n 1, 1) := by decide +kernel
theorem dX8_because_23 : decode cX8_because 23 = .ok (.iload_n 2, 1) := by decide +kernel
theorem dX8_because_24 : decode cX8_because 24 = .ok (.invokevirtual 189, 3) := by decide +kernel
theorem dX8_because_27 : decode cX8_because 27 = .ok (.ireturn, 1) := by decide +kernel
set_option maxRecDepth 20000 in
theorem ggX8_why_X8_whyNotTwo : GoodIn wsX8_why wsX8_whyNotTwo := goodIn_r _ [8, 9, 10, 11, 7, 12, 13, 14, 15, 16, 17, 18, 19, 20, 21, 2, 3, 22, 23, 24, 25, 26, 27, 28, 29, 30, 31, 32, 33, 34, 35, 36, 37, 38, 39, 40, 41, 42, 43, 44, 45, 46, 47, 48, 49, 50, 51, 52, 53, 54, 55, 56, 57, 58, 59, 60, 61, 62, 63, 64, 65, 66, 67, 68, 69, 70, 71, 72, 73, 78, 79, 80, 81, 82, 83, 84, 85, 86, 87, 88, 89, 90, 91, 92, 93, 94, 95, 96, 97, 98, 99, 100, 101, 102, 103, 104, 105, 106, 107] (by decide +kernel) (by decide +kernel)
set_option maxRecDepth 20000 in
theorem gX8_why_X8_whyNotTwo : GoodIn wsX8_why (wsV RX8 185 RX8 yX8_whyNotTwo wsX8_whyNotTwo) := goodIn_app (goodIn_of _ (by decide +kernel)) ggX8_why_X8_whyNotTwo
set_option maxRecDepth 20000 in
theorem ggX8_why_X8_has : GoodIn wsX8_why wsX8_has := goodIn_r _ [37] (by decide +kernel) (by decide +kernel)
set_option maxRecDepth 20000 in
theorem gX8_why_X8_has : GoodIn wsX8_why (va_wsS RX8 102 yX8_has wsX8_has) := goodIn_app (goodIn_of _ (by decide +kernel)) ggX8_why_X8_has
set_option maxRecDepth 20000 in
theorem ggX8_why_X8_tellsTwo : GoodIn wsX8_why wsX8_tellsTwo := goodIn_r _ [53, 30, 18, 29, 20, 78, 79, 80, 81, 82, 83, 84, 85, 86, 87, 88, 89, 90, 91, 92, 93, 94, 95, 96, 97, 98, 99, 100, 101, 102, 103, 104, 105, 106, 107] (by decide +kernel) (by decide +kernel)
set_option maxRecDepth 20000 in
theorem gX8_why_X8_tellsTwo : GoodIn wsX8_why (wsV RX8 141 RX8 yX8_tellsTwo wsX8_tellsTwo) := goodIn_app (goodIn_of _ (by decide +kernel)) ggX8_why_X8_tellsTwo
set_option maxRecDepth 20000 in
theorem ggX8_why_X8_leastSet : GoodIn wsX8_why wsX8_leastSet := goodIn_r _ [77, 13, 35, 36, 7, 37, 62, 63, 64, 65, 34, 31, 33, 32, 66, 67, 68, 69, 78, 79, 80, 81, 82, 83, 84, 85, 86, 87, 88, 89, 90, 91, 92, 93, 94, 95, 96, 97, 98, 99, 100, 101, 102, 103, 104, 105, 106, 107] (by decide +kernel) (by decide +kernel)
set_option maxRecDepth 20000 in
theorem gX8_why_X8_leastSet : GoodIn wsX8_why (wsV RX8 189 RX8 yX8_leastSet wsX8_leastSet) := goodIn_app (goodIn_of _ (by decide +kernel)) ggX8_why_X8_leastSet
theorem dX8_why_0 : decode cX8_why 0 = .ok (.aload_n 0, 1) := by decide +kernel
theorem dX8_why_1 : decode cX8_why 1 = .ok (.aload_n 0, 1) := by decide +kernel
theorem dX8_why_2 : decode cX8_why 2 = .ok (.iload_n 1, 1) := by decide +kernel
theorem dX8_why_3 : decode cX8_why 3 = .ok (.iload_n 2, 1) := by decide +kernel
theorem dX8_why_4 : decode cX8_why 4 = .ok (.invokevirtual 185, 3) := by decide +kernel
theorem dX8_why_7 : decode cX8_why 7 = .ok (.putfield 75, 3) := by decide +kernel
theorem dX8_why_10 : decode cX8_why 10 = .ok (.aload_n 0, 1) := by decide +kernel
theorem dX8_why_11 : decode cX8_why 11 = .ok (.getfield 75, 3) := by decide +kernel
theorem dX8_why_14 : decode cX8_why 14 = .ok (.ifCond .le 5, 3) := by decide +kernel
theorem dX8_why_17 : decode cX8_why 17 = .ok (.iconst 0, 1) := by decide +kernel
theorem dX8_why_18 : decode cX8_why 18 = .ok (.ireturn, 1) := by decide +kernel
theorem dX8_why_19 : decode cX8_why 19 = .ok (.iload_n 1, 1) := by decide +kernel
theorem dX8_why_20 : decode cX8_why 20 = .ok (.iload_n 2, 1) := by decide +kernel
theorem dX8_why_21 : decode cX8_why 21 = .ok (.if_icmp .eq 16, 3) := by decide +kernel
theorem dX8_why_24 : decode cX8_why 24 = .ok (.aload_n 0, 1) := by decide +kernel
theorem dX8_why_25 : decode cX8_why 25 = .ok (.getfield 41, 3) := by decide +kernel
theorem dX8_why_28 : decode cX8_why 28 = .ok (.iload_n 1, 1) := by decide +kernel
theorem dX8_why_29 : decode cX8_why 29 = .ok (.iaload, 1) := by decide +kernel
theorem dX8_why_30 : decode cX8_why 30 = .ok (.iload_n 2, 1) := by decide +kernel
theorem dX8_why_31 : decode cX8_why 31 = .ok (.invokestatic 102, 3) := by decide +kernel
theorem dX8_why_34 : decode cX8_why 34 = .ok (.ifCond .ne 5, 3) := by decide +kernel
theorem dX8_why_37 : decode cX8_why 37 = .ok (.iconst (-1), 1) := by decide +kernel
theorem dX8_why_38 : decode cX8_why 38 = .ok (.ireturn, 1) := by decide +kernel
theorem dX8_why_39 : decode cX8_why 39 = .ok (.aload_n 0, 1) := by decide +kernel
theorem dX8_why_40 : decode cX8_why 40 = .ok (.getfield 26, 3) := by decide +kernel
theorem dX8_why_43 : decode cX8_why 43 = .ok (.iload_n 1, 1) := by decide +kernel
theorem dX8_why_44 : decode cX8_why 44 = .ok (.iaload, 1) := by decide +kernel
theorem dX8_why_45 : decode cX8_why 45 = .ok (.iload_n 2, 1) := by decide +kernel
theorem dX8_why_46 : decode cX8_why 46 = .ok (.invokestatic 102, 3) := by decide +kernel
theorem dX8_why_49 : decode cX8_why 49 = .ok (.ifCond .eq 5, 3) := by decide +kernel
theorem dX8_why_52 : decode cX8_why 52 = .ok (.iconst 0, 1) := by decide +kernel
theorem dX8_why_53 : decode cX8_why 53 = .ok (.ireturn, 1) := by decide +kernel
theorem dX8_why_54 : decode cX8_why 54 = .ok (.aload_n 0, 1) := by decide +kernel
theorem dX8_why_55 : decode cX8_why 55 = .ok (.iload_n 1, 1) := by decide +kernel
theorem dX8_why_56 : decode cX8_why 56 = .ok (.iload_n 2, 1) := by decide +kernel
theorem dX8_why_57 : decode cX8_why 57 = .ok (.invokevirtual 141, 3) := by decide +kernel
theorem dX8_why_60 : decode cX8_why 60 = .ok (.ifCond .eq 5, 3) := by decide +kernel
theorem dX8_why_63 : decode cX8_why 63 = .ok (.iconst 1, 1) := by decide +kernel
theorem dX8_why_64 : decode cX8_why 64 = .ok (.ireturn, 1) := by decide +kernel
theorem dX8_why_65 : decode cX8_why 65 = .ok (.aload_n 0, 1) := by decide +kernel
theorem dX8_why_66 : decode cX8_why 66 = .ok (.iload_n 1, 1) := by decide +kernel
theorem dX8_why_67 : decode cX8_why 67 = .ok (.iload_n 2, 1) := by decide +kernel
theorem dX8_why_68 : decode cX8_why 68 = .ok (.invokevirtual 189, 3) := by decide +kernel
theorem dX8_why_71 : decode cX8_why 71 = .ok (.iconst (-1), 1) := by decide +kernel
theorem dX8_why_72 : decode cX8_why 72 = .ok (.if_icmp .ne 7, 3) := by decide +kernel
theorem dX8_why_75 : decode cX8_why 75 = .ok (.iconst 3, 1) := by decide +kernel
theorem dX8_why_76 : decode cX8_why 76 = .ok (.goto 4, 3) := by decide +kernel
theorem dX8_why_79 : decode cX8_why 79 = .ok (.iconst 2, 1) := by decide +kernel
theorem dX8_why_80 : decode cX8_why 80 = .ok (.ireturn, 1) := by decide +kernel
set_option maxRecDepth 20000 in
theorem ggX8_decided_X8_reason : GoodIn wsX8_decided wsX8_reason := goodIn_r _ [6, 7, 8, 9, 10, 11, 12, 13, 14, 15, 16, 17, 5, 18, 19, 20, 21, 22, 23, 24, 25, 26, 27, 28, 29, 30, 31, 32, 33, 34, 35, 36, 37, 38, 39, 40, 41, 42, 43, 44, 45, 46, 47, 48, 49, 50, 51, 52, 53, 54, 55, 56, 57, 58, 59, 60, 61, 62, 63, 64, 65, 74, 75, 76, 77, 78, 79, 80, 81, 82, 83, 84, 85, 86, 87, 88, 89, 90, 91, 92, 93, 94, 95, 96, 97, 98, 99, 100, 101, 102, 103] (by decide +kernel) (by decide +kernel)
set_option maxRecDepth 20000 in
theorem gX8_decided_X8_reason : GoodIn wsX8_decided (wsV RX8 173 RX8 yX8_reason wsX8_reason) := goodIn_app (goodIn_of _ (by decide +kernel)) ggX8_decided_X8_reason
set_option maxRecDepth 20000 in
theorem ggX8_decided_X8_pairsOnOne : GoodIn wsX8_decided wsX8_pairsOnOne := goodIn_r _ [69, 7, 22, 74, 75, 76, 77, 78, 79, 80, 81, 82, 83, 84, 85, 86, 87, 88, 89, 90, 91, 92, 93, 94, 95, 96, 97, 98, 99, 100, 101, 102, 103] (by decide +kernel) (by decide +kernel)
set_option maxRecDepth 20000 in
theorem gX8_decided_X8_pairsOnOne : GoodIn wsX8_decided (wsV RX8 170 RX8 yX8_pairsOnOne wsX8_pairsOnOne) := goodIn_app (goodIn_of _ (by decide +kernel)) ggX8_decided_X8_pairsOnOne
set_option maxRecDepth 20000 in
theorem ggX8_decided_X8_openPairs : GoodIn wsX8_decided wsX8_openPairs := goodIn_r _ [73, 7, 22, 12, 27, 28, 5, 29, 74, 75, 76, 77, 78, 79, 80, 81, 82, 83, 84, 85, 86, 87, 88, 89, 90, 91, 92, 93, 94, 95, 96, 97, 98, 99, 100, 101, 102, 103] (by decide +kernel) (by decide +kernel)
set_option maxRecDepth 20000 in
theorem gX8_decided_X8_openPairs : GoodIn wsX8_decided (wsV RX8 176 RX8 yX8_openPairs wsX8_openPairs) := goodIn_app (goodIn_of _ (by decide +kernel)) ggX8_decided_X8_openPairs
theorem dX8_decided_0 : decode cX8_decided 0 = .ok (.aload_n 0, 1) := by decide +kernel
theorem dX8_decided_1 : decode cX8_decided 1 = .ok (.aload_n 0, 1) := by decide +kernel
theorem dX8_decided_2 : decode cX8_decided 2 = .ok (.invokevirtual 173, 3) := by decide +kernel
theorem dX8_decided_5 : decode cX8_decided 5 = .ok (.ifCond .eq 7, 3) := by decide +kernel
theorem dX8_decided_8 : decode cX8_decided 8 = .ok (.iconst 0, 1) := by decide +kernel
theorem dX8_decided_9 : decode cX8_decided 9 = .ok (.goto 4, 3) := by decide +kernel
theorem dX8_decided_12 : decode cX8_decided 12 = .ok (.iconst 1, 1) := by decide +kernel
theorem dX8_decided_13 : decode cX8_decided 13 = .ok (.putfield 75, 3) := by decide +kernel
theorem dX8_decided_16 : decode cX8_decided 16 = .ok (.aload_n 0, 1) := by decide +kernel
theorem dX8_decided_17 : decode cX8_decided 17 = .ok (.getfield 75, 3) := by decide +kernel
theorem dX8_decided_20 : decode cX8_decided 20 = .ok (.ifCond .le 5, 3) := by decide +kernel
theorem dX8_decided_23 : decode cX8_decided 23 = .ok (.dconst 0, 1) := by decide +kernel
theorem dX8_decided_24 : decode cX8_decided 24 = .ok (.dreturn, 1) := by decide +kernel
theorem dX8_decided_25 : decode cX8_decided 25 = .ok (.aload_n 0, 1) := by decide +kernel
theorem dX8_decided_26 : decode cX8_decided 26 = .ok (.invokevirtual 170, 3) := by decide +kernel
theorem dX8_decided_29 : decode cX8_decided 29 = .ok (.istore_n 1, 1) := by decide +kernel
theorem dX8_decided_30 : decode cX8_decided 30 = .ok (.iload_n 1, 1) := by decide +kernel
theorem dX8_decided_31 : decode cX8_decided 31 = .ok (.ifCond .ne 7, 3) := by decide +kernel
theorem dX8_decided_34 : decode cX8_decided 34 = .ok (.dconst 1, 1) := by decide +kernel
theorem dX8_decided_35 : decode cX8_decided 35 = .ok (.goto 13, 3) := by decide +kernel
theorem dX8_decided_38 : decode cX8_decided 38 = .ok (.iload_n 1, 1) := by decide +kernel
theorem dX8_decided_39 : decode cX8_decided 39 = .ok (.aload_n 0, 1) := by decide +kernel
theorem dX8_decided_40 : decode cX8_decided 40 = .ok (.invokevirtual 176, 3) := by decide +kernel
theorem dX8_decided_43 : decode cX8_decided 43 = .ok (.isub, 1) := by decide +kernel
theorem dX8_decided_44 : decode cX8_decided 44 = .ok (.i2d, 1) := by decide +kernel
theorem dX8_decided_45 : decode cX8_decided 45 = .ok (.iload_n 1, 1) := by decide +kernel
theorem dX8_decided_46 : decode cX8_decided 46 = .ok (.i2d, 1) := by decide +kernel
theorem dX8_decided_47 : decode cX8_decided 47 = .ok (.ddiv, 1) := by decide +kernel
theorem dX8_decided_48 : decode cX8_decided 48 = .ok (.dreturn, 1) := by decide +kernel
set_option maxRecDepth 20000 in
theorem ggX8_planOf_X8_has : GoodIn wsX8_planOf wsX8_has := goodIn_r _ [12] (by decide +kernel) (by decide +kernel)
set_option maxRecDepth 20000 in
theorem gX8_planOf_X8_has : GoodIn wsX8_planOf (va_wsS RX8 102 yX8_has wsX8_has) := goodIn_app (goodIn_of _ (by decide +kernel)) ggX8_planOf_X8_has
theorem dX8_planOf_0 : decode cX8_planOf 0 = .ok (.iconst 0, 1) := by decide +kernel
theorem dX8_planOf_1 : decode cX8_planOf 1 = .ok (.istore_n 1, 1) := by decide +kernel
theorem dX8_planOf_2 : decode cX8_planOf 2 = .ok (.iconst 1, 1) := by decide +kernel
theorem dX8_planOf_3 : decode cX8_planOf 3 = .ok (.istore_n 2, 1) := by decide +kernel
theorem dX8_planOf_4 : decode cX8_planOf 4 = .ok (.iconst 0, 1) := by decide +kernel
theorem dX8_planOf_5 : decode cX8_planOf 5 = .ok (.istore_n 3, 1) := by decide +kernel
theorem dX8_planOf_6 : decode cX8_planOf 6 = .ok (.iload_n 3, 1) := by decide +kernel
theorem dX8_planOf_7 : decode cX8_planOf 7 = .ok (.aload_n 0, 1) := by decide +kernel
theorem dX8_planOf_8 : decode cX8_planOf 8 = .ok (.getfield 78, 3) := by decide +kernel
theorem dX8_planOf_11 : decode cX8_planOf 11 = .ok (.if_icmp .ge 195, 3) := by decide +kernel
theorem dX8_planOf_14 : decode cX8_planOf 14 = .ok (.aload_n 0, 1) := by decide +kernel
theorem dX8_planOf_15 : decode cX8_planOf 15 = .ok (.getfield 57, 3) := by decide +kernel
theorem dX8_planOf_18 : decode cX8_planOf 18 = .ok (.iload_n 3, 1) := by decide +kernel
theorem dX8_planOf_19 : decode cX8_planOf 19 = .ok (.iaload, 1) := by decide +kernel
theorem dX8_planOf_20 : decode cX8_planOf 20 = .ok (.istore 4, 2) := by decide +kernel
theorem dX8_planOf_22 : decode cX8_planOf 22 = .ok (.aload_n 0, 1) := by decide +kernel
theorem dX8_planOf_23 : decode cX8_planOf 23 = .ok (.getfield 17, 3) := by decide +kernel
theorem dX8_planOf_26 : decode cX8_planOf 26 = .ok (.iload 4, 2) := by decide +kernel
theorem dX8_planOf_28 : decode cX8_planOf 28 = .ok (.iaload, 1) := by decide +kernel
theorem dX8_planOf_29 : decode cX8_planOf 29 = .ok (.istore 5, 2) := by decide +kernel
theorem dX8_planOf_31 : decode cX8_planOf 31 = .ok (.iconst 0, 1) := by decide +kernel
theorem dX8_planOf_32 : decode cX8_planOf 32 = .ok (.istore 6, 2) := by decide +kernel
theorem dX8_planOf_34 : decode cX8_planOf 34 = .ok (.iload 6, 2) := by decide +kernel
theorem dX8_planOf_36 : decode cX8_planOf 36 = .ok (.iload_n 3, 1) := by decide +kernel
theorem dX8_planOf_37 : decode cX8_planOf 37 = .ok (.if_icmp .ge 95, 3) := by decide +kernel
theorem dX8_planOf_40 : decode cX8_planOf 40 = .ok (.aload_n 0, 1) := by decide +kernel
theorem dX8_planOf_41 : decode cX8_planOf 41 = .ok (.getfield 57, 3) := by decide +kernel
theorem dX8_planOf_44 : decode cX8_planOf 44 = .ok (.iload 6, 2) := by decide +kernel
theorem dX8_planOf_46 : decode cX8_planOf 46 = .ok (.iaload, 1) := by decide +kernel
theorem dX8_planOf_47 : decode cX8_planOf 47 = .ok (.istore 7, 2) := by decide +kernel
theorem dX8_planOf_49 : decode cX8_planOf 49 = .ok (.aload_n 0, 1) := by decide +kernel
theorem dX8_planOf_50 : decode cX8_planOf 50 = .ok (.getfield 63, 3) := by decide +kernel
theorem dX8_planOf_53 : decode cX8_planOf 53 = .ok (.iload 7, 2) := by decide +kernel
theorem dX8_planOf_55 : decode cX8_planOf 55 = .ok (.iaload, 1) := by decide +kernel
theorem dX8_planOf_56 : decode cX8_planOf 56 = .ok (.aload_n 0, 1) := by decide +kernel
theorem dX8_planOf_57 : decode cX8_planOf 57 = .ok (.getfield 23, 3) := by decide +kernel
theorem dX8_planOf_60 : decode cX8_planOf 60 = .ok (.iload 7, 2) := by decide +kernel
theorem dX8_planOf_62 : decode cX8_planOf 62 = .ok (.iaload, 1) := by decide +kernel
theorem dX8_planOf_63 : decode cX8_planOf 63 = .ok (.iadd, 1) := by decide +kernel
theorem dX8_planOf_64 : decode cX8_planOf 64 = .ok (.istore 8, 2) := by decide +kernel
theorem dX8_planOf_66 : decode cX8_planOf 66 = .ok (.aload_n 0, 1) := by decide +kernel
theorem dX8_planOf_67 : decode cX8_planOf 67 = .ok (.getfield 13, 3) := by decide +kernel
theorem dX8_planOf_70 : decode cX8_planOf 70 = .ok (.iload 7, 2) := by decide +kernel
theorem dX8_planOf_72 : decode cX8_planOf 72 = .ok (.iaload, 1) := by decide +kernel
theorem dX8_planOf_73 : decode cX8_planOf 73 = .ok (.aload_n 0, 1) := by decide +kernel
theorem dX8_planOf_74 : decode cX8_planOf 74 = .ok (.getfield 13, 3) := by decide +kernel
theorem dX8_planOf_77 : decode cX8_planOf 77 = .ok (.iload 4, 2) := by decide +kernel
theorem dX8_planOf_79 : decode cX8_planOf 79 = .ok (.iaload, 1) := by decide +kernel
theorem dX8_planOf_80 : decode cX8_planOf 80 = .ok (.if_icmp .eq 18, 3) := by decide +kernel
theorem dX8_planOf_83 : decode cX8_planOf 83 = .ok (.aload_n 0, 1) := by decide +kernel
theorem dX8_planOf_84 : decode cX8_planOf 84 = .ok (.getfield 26, 3) := by decide +kernel
theorem dX8_planOf_87 : decode cX8_planOf 87 = .ok (.iload 7, 2) := by decide +kernel
theorem dX8_planOf_89 : decode cX8_planOf 89 = .ok (.iaload, 1) := by decide +kernel
theorem dX8_planOf_90 : decode cX8_planOf 90 = .ok (.iload 4, 2) := by decide +kernel
theorem dX8_planOf_92 : decode cX8_planOf 92 = .ok (.invokestatic 102, 3) := by decide +kernel
theorem dX8_planOf_95 : decode cX8_planOf 95 = .ok (.ifCond .eq 7, 3) := by decide +kernel
theorem dX8_planOf_98 : decode cX8_planOf 98 = .ok (.iconst 1, 1) := by decide +kernel
theorem dX8_planOf_99 : decode cX8_planOf 99 = .ok (.goto 4, 3) := by decide +kernel
theorem dX8_planOf_102 : decode cX8_planOf 102 = .ok (.iconst 0, 1) := by decide +kernel
theorem dX8_planOf_103 : decode cX8_planOf 103 = .ok (.istore 9, 2) := by decide +kernel
theorem dX8_planOf_105 : decode cX8_planOf 105 = .ok (.iload 9, 2) := by decide +kernel
theorem dX8_planOf_107 : decode cX8_planOf 107 = .ok (.ifCond .eq 15, 3) := by decide +kernel
theorem dX8_planOf_110 : decode cX8_planOf 110 = .ok (.iload 8, 2) := by decide +kernel
theorem dX8_planOf_112 : decode cX8_planOf 112 = .ok (.iload 5, 2) := by decide +kernel
theorem dX8_planOf_114 : decode cX8_planOf 114 = .ok (.if_icmp .le 8, 3) := by decide +kernel
theorem dX8_planOf_117 : decode cX8_planOf 117 = .ok (.iload 8, 2) := by decide +kernel
theorem dX8_planOf_119 : decode cX8_planOf 119 = .ok (.goto 5, 3) := by decide +kernel
theorem dX8_planOf_122 : decode cX8_planOf 122 = .ok (.iload 5, 2) := by decide +kernel
theorem dX8_planOf_124 : decode cX8_planOf 124 = .ok (.istore 5, 2) := by decide +kernel
theorem dX8_planOf_126 : decode cX8_planOf 126 = .ok (.iinc 6 1, 3) := by decide +kernel
theorem dX8_planOf_129 : decode cX8_planOf 129 = .ok (.goto (-95), 3) := by decide +kernel
theorem dX8_planOf_132 : decode cX8_planOf 132 = .ok (.aload_n 0, 1) := by decide +kernel
theorem dX8_planOf_133 : decode cX8_planOf 133 = .ok (.getfield 63, 3) := by decide +kernel
theorem dX8_planOf_136 : decode cX8_planOf 136 = .ok (.iload 4, 2) := by decide +kernel
theorem dX8_planOf_138 : decode cX8_planOf 138 = .ok (.iload 5, 2) := by decide +kernel
theorem dX8_planOf_140 : decode cX8_planOf 140 = .ok (.iastore, 1) := by decide +kernel
theorem dX8_planOf_141 : decode cX8_planOf 141 = .ok (.iload_n 2, 1) := by decide +kernel
theorem dX8_planOf_142 : decode cX8_planOf 142 = .ok (.ifCond .eq 27, 3) := by decide +kernel
theorem dX8_planOf_145 : decode cX8_planOf 145 = .ok (.iload 5, 2) := by decide +kernel
theorem dX8_planOf_147 : decode cX8_planOf 147 = .ok (.aload_n 0, 1) := by decide +kernel
theorem dX8_planOf_148 : decode cX8_planOf 148 = .ok (.getfield 23, 3) := by decide +kernel
theorem dX8_planOf_151 : decode cX8_planOf 151 = .ok (.iload 4, 2) := by decide +kernel
theorem dX8_planOf_153 : decode cX8_planOf 153 = .ok (.iaload, 1) := by decide +kernel
theorem dX8_planOf_154 : decode cX8_planOf 154 = .ok (.iadd, 1) := by decide +kernel
theorem dX8_planOf_155 : decode cX8_planOf 155 = .ok (.aload_n 0, 1) := by decide +kernel
theorem dX8_planOf_156 : decode cX8_planOf 156 = .ok (.getfield 20, 3) := by decide +kernel
theorem dX8_planOf_159 : decode cX8_planOf 159 = .ok (.iload 4, 2) := by decide +kernel
theorem dX8_planOf_161 : decode cX8_planOf 161 = .ok (.iaload, 1) := by decide +kernel
theorem dX8_planOf_162 : decode cX8_planOf 162 = .ok (.if_icmp .gt 7, 3) := by decide +kernel
theorem dX8_planOf_165 : decode cX8_planOf 165 = .ok (.iconst 1, 1) := by decide +kernel
theorem dX8_planOf_166 : decode cX8_planOf 166 = .ok (.goto 4, 3) := by decide +kernel
theorem dX8_planOf_169 : decode cX8_planOf 169 = .ok (.iconst 0, 1) := by decide +kernel
theorem dX8_planOf_170 : decode cX8_planOf 170 = .ok (.istore_n 2, 1) := by decide +kernel
theorem dX8_planOf_171 : decode cX8_planOf 171 = .ok (.iload 5, 2) := by decide +kernel
theorem dX8_planOf_173 : decode cX8_planOf 173 = .ok (.aload_n 0, 1) := by decide +kernel
theorem dX8_planOf_174 : decode cX8_planOf 174 = .ok (.getfield 23, 3) := by decide +kernel
theorem dX8_planOf_177 : decode cX8_planOf 177 = .ok (.iload 4, 2) := by decide +kernel
theorem dX8_planOf_179 : decode cX8_planOf 179 = .ok (.iaload, 1) := by decide +kernel
theorem dX8_planOf_180 : decode cX8_planOf 180 = .ok (.iadd, 1) := by decide +kernel
theorem dX8_planOf_181 : decode cX8_planOf 181 = .ok (.iload_n 1, 1) := by decide +kernel
theorem dX8_planOf_182 : decode cX8_planOf 182 = .ok (.if_icmp .le 16, 3) := by decide +kernel
theorem dX8_planOf_185 : decode cX8_planOf 185 = .ok (.iload 5, 2) := by decide +kernel
theorem dX8_planOf_187 : decode cX8_planOf 187 = .ok (.aload_n 0, 1) := by decide +kernel
theorem dX8_planOf_188 : decode cX8_planOf 188 = .ok (.getfield 23, 3) := by decide +kernel
theorem dX8_planOf_191 : decode cX8_planOf 191 = .ok (.iload 4, 2) := by decide +kernel
theorem dX8_planOf_193 : decode cX8_planOf 193 = .ok (.iaload, 1) := by decide +kernel
theorem dX8_planOf_194 : decode cX8_planOf 194 = .ok (.iadd, 1) := by decide +kernel
theorem dX8_planOf_195 : decode cX8_planOf 195 = .ok (.goto 4, 3) := by decide +kernel
theorem dX8_planOf_198 : decode cX8_planOf 198 = .ok (.iload_n 1, 1) := by decide +kernel
theorem dX8_planOf_199 : decode cX8_planOf 199 = .ok (.istore_n 1, 1) := by decide +kernel
theorem dX8_planOf_200 : decode cX8_planOf 200 = .ok (.iinc 3 1, 3) := by decide +kernel
theorem dX8_planOf_203 : decode cX8_planOf 203 = .ok (.goto (-197), 3) := by decide +kernel
theorem dX8_planOf_206 : decode cX8_planOf 206 = .ok (.iload_n 2, 1) := by decide +kernel
theorem dX8_planOf_207 : decode cX8_planOf 207 = .ok (.ifCond .eq 7, 3) := by decide +kernel
theorem dX8_planOf_210 : decode cX8_planOf 210 = .ok (.iload_n 1, 1) := by decide +kernel
theorem dX8_planOf_211 : decode cX8_planOf 211 = .ok (.goto 4, 3) := by decide +kernel
theorem dX8_planOf_214 : decode cX8_planOf 214 = .ok (.iconst (-1), 1) := by decide +kernel
theorem dX8_planOf_215 : decode cX8_planOf 215 = .ok (.ireturn, 1) := by decide +kernel
set_option maxRecDepth 20000 in
theorem ggX8_canStand_X8_has : GoodIn wsX8_canStand wsX8_has := goodIn_r _ [5] (by decide +kernel) (by decide +kernel)
set_option maxRecDepth 20000 in
theorem gX8_canStand_X8_has : GoodIn wsX8_canStand (va_wsS RX8 102 yX8_has wsX8_has) := goodIn_app (goodIn_of _ (by decide +kernel)) ggX8_canStand_X8_has
set_option maxRecDepth 20000 in
theorem ggX8_canStand_X8_givenTo : GoodIn wsX8_canStand wsX8_givenTo := goodIn_r _ [9, 10, 11, 2, 3, 4, 5, 12, 13, 14, 15, 16, 17, 18, 19, 20, 21, 22, 23, 24, 25, 26, 27, 28, 29, 30, 31, 32, 33, 34, 35, 36, 37, 38, 39, 40, 41] (by decide +kernel) (by decide +kernel)
set_option maxRecDepth 20000 in
theorem gX8_canStand_X8_givenTo : GoodIn wsX8_canStand (wsV RX8 125 RX8 yX8_givenTo wsX8_givenTo) := goodIn_app (goodIn_of _ (by decide +kernel)) ggX8_canStand_X8_givenTo
theorem dX8_canStand_0 : decode cX8_canStand 0 = .ok (.iconst 0, 1) := by decide +kernel
theorem dX8_canStand_1 : decode cX8_canStand 1 = .ok (.istore_n 3, 1) := by decide +kernel
theorem dX8_canStand_2 : decode cX8_canStand 2 = .ok (.iconst 0, 1) := by decide +kernel
theorem dX8_canStand_3 : decode cX8_canStand 3 = .ok (.istore 4, 2) := by decide +kernel
theorem dX8_canStand_5 : decode cX8_canStand 5 = .ok (.iload 4, 2) := by decide +kernel
theorem dX8_canStand_7 : decode cX8_canStand 7 = .ok (.iload_n 1, 1) := by decide +kernel
theorem dX8_canStand_8 : decode cX8_canStand 8 = .ok (.if_icmp .ge 21, 3) := by decide +kernel
theorem dX8_canStand_11 : decode cX8_canStand 11 = .ok (.iload_n 3, 1) := by decide +kernel
theorem dX8_canStand_12 : decode cX8_canStand 12 = .ok (.iconst 1, 1) := by decide +kernel
theorem dX8_canStand_13 : decode cX8_canStand 13 = .ok (.aload_n 0, 1) := by decide +kernel
theorem dX8_canStand_14 : decode cX8_canStand 14 = .ok (.getfield 57, 3) := by decide +kernel
theorem dX8_canStand_17 : decode cX8_canStand 17 = .ok (.iload 4, 2) := by decide +kernel
theorem dX8_canStand_19 : decode cX8_canStand 19 = .ok (.iaload, 1) := by decide +kernel
theorem dX8_canStand_20 : decode cX8_canStand 20 = .ok (.ishl, 1) := by decide +kernel
theorem dX8_canStand_21 : decode cX8_canStand 21 = .ok (.ior, 1) := by decide +kernel
theorem dX8_canStand_22 : decode cX8_canStand 22 = .ok (.istore_n 3, 1) := by decide +kernel
theorem dX8_canStand_23 : decode cX8_canStand 23 = .ok (.iinc 4 1, 3) := by decide +kernel
theorem dX8_canStand_26 : decode cX8_canStand 26 = .ok (.goto (-21), 3) := by decide +kernel
theorem dX8_canStand_29 : decode cX8_canStand 29 = .ok (.iload_n 3, 1) := by decide +kernel
theorem dX8_canStand_30 : decode cX8_canStand 30 = .ok (.iload_n 2, 1) := by decide +kernel
theorem dX8_canStand_31 : decode cX8_canStand 31 = .ok (.invokestatic 102, 3) := by decide +kernel
theorem dX8_canStand_34 : decode cX8_canStand 34 = .ok (.ifCond .ne 19, 3) := by decide +kernel
theorem dX8_canStand_37 : decode cX8_canStand 37 = .ok (.aload_n 0, 1) := by decide +kernel
theorem dX8_canStand_38 : decode cX8_canStand 38 = .ok (.iload_n 2, 1) := by decide +kernel
theorem dX8_canStand_39 : decode cX8_canStand 39 = .ok (.invokevirtual 125, 3) := by decide +kernel
theorem dX8_canStand_42 : decode cX8_canStand 42 = .ok (.iload_n 3, 1) := by decide +kernel
theorem dX8_canStand_43 : decode cX8_canStand 43 = .ok (.iconst (-1), 1) := by decide +kernel
theorem dX8_canStand_44 : decode cX8_canStand 44 = .ok (.ixor, 1) := by decide +kernel
theorem dX8_canStand_45 : decode cX8_canStand 45 = .ok (.iand, 1) := by decide +kernel
theorem dX8_canStand_46 : decode cX8_canStand 46 = .ok (.ifCond .ne 7, 3) := by decide +kernel
theorem dX8_canStand_49 : decode cX8_canStand 49 = .ok (.iconst 1, 1) := by decide +kernel
theorem dX8_canStand_50 : decode cX8_canStand 50 = .ok (.goto 4, 3) := by decide +kernel
theorem dX8_canStand_53 : decode cX8_canStand 53 = .ok (.iconst 0, 1) := by decide +kernel
theorem dX8_canStand_54 : decode cX8_canStand 54 = .ok (.ireturn, 1) := by decide +kernel
set_option maxRecDepth 20000 in
theorem ggX8_best_X8_canStand : GoodIn wsX8_best wsX8_canStand := goodIn_r _ [7, 1, 8, 9, 6, 10, 11, 12, 13, 14, 2, 15, 31, 32, 33, 34, 35, 36, 37, 38, 39, 40, 41, 42, 43, 44, 45, 46, 47, 48, 49, 50, 51, 52, 53, 54, 55, 56, 57, 58, 59, 60] (by decide +kernel) (by decide +kernel)
set_option maxRecDepth 20000 in
theorem gX8_best_X8_canStand : GoodIn wsX8_best (wsV RX8 192 RX8 yX8_canStand wsX8_canStand) := goodIn_app (goodIn_of _ (by decide +kernel)) ggX8_best_X8_canStand
set_option maxRecDepth 20000 in
theorem ggX8_best_X8_planOf : GoodIn wsX8_best wsX8_planOf := goodIn_r _ [19, 2, 1, 20, 21, 22, 23, 15, 24, 8, 9, 6, 10, 31, 32, 33, 34, 35, 36, 37, 38, 39, 40, 41, 42, 43, 44, 45, 46, 47, 48, 49, 50, 51, 52, 53, 54, 55, 56, 57, 58, 59, 60] (by decide +kernel) (by decide +kernel)
set_option maxRecDepth 20000 in
theorem gX8_best_X8_planOf : GoodIn wsX8_best (wsV RX8 195 RX8 yX8_planOf wsX8_planOf) := goodIn_app (goodIn_of _ (by decide +kernel)) ggX8_best_X8_planOf
set_option maxRecDepth 20000 in
theorem ggX8_best_X8_keepRow : GoodIn wsX8_best wsX8_keepRow := goodIn_r _ [28, 2, 29, 1, 30, 21, 31, 32, 33, 34, 35, 36, 37, 38, 39, 40, 41, 42, 43, 44, 45, 46, 47, 48, 49, 50, 51, 52, 53, 54, 55, 56, 57, 58, 59, 60] (by decide +kernel) (by decide +kernel)
set_option maxRecDepth 20000 in
theorem gX8_best_X8_keepRow : GoodIn wsX8_best (wsV RX8 198 RX8 yX8_keepRow wsX8_keepRow) := goodIn_app (goodIn_of _ (by decide +kernel)) ggX8_best_X8_keepRow
theorem dX8_best_0 : decode cX8_best 0 = .ok (.iconst (-1), 1) := by decide +kernel
theorem dX8_best_1 : decode cX8_best 1 = .ok (.istore_n 1, 1) := by decide +kernel
theorem dX8_best_2 : decode cX8_best 2 = .ok (.iconst 0, 1) := by decide +kernel
theorem dX8_best_3 : decode cX8_best 3 = .ok (.istore_n 2, 1) := by decide +kernel
theorem dX8_best_4 : decode cX8_best 4 = .ok (.aload_n 0, 1) := by decide +kernel
theorem dX8_best_5 : decode cX8_best 5 = .ok (.getfield 57, 3) := by decide +kernel
theorem dX8_best_8 : decode cX8_best 8 = .ok (.iconst 0, 1) := by decide +kernel
theorem dX8_best_9 : decode cX8_best 9 = .ok (.iconst (-1), 1) := by decide +kernel
theorem dX8_best_10 : decode cX8_best 10 = .ok (.iastore, 1) := by decide +kernel
theorem dX8_best_11 : decode cX8_best 11 = .ok (.aload_n 0, 1) := by decide +kernel
theorem dX8_best_12 : decode cX8_best 12 = .ok (.getfield 78, 3) := by decide +kernel
theorem dX8_best_15 : decode cX8_best 15 = .ok (.ifCond .ne 5, 3) := by decide +kernel
theorem dX8_best_18 : decode cX8_best 18 = .ok (.iconst 0, 1) := by decide +kernel
theorem dX8_best_19 : decode cX8_best 19 = .ok (.ireturn, 1) := by decide +kernel
theorem dX8_best_20 : decode cX8_best 20 = .ok (.iload_n 2, 1) := by decide +kernel
theorem dX8_best_21 : decode cX8_best 21 = .ok (.ifCond .lt 124, 3) := by decide +kernel
theorem dX8_best_24 : decode cX8_best 24 = .ok (.aload_n 0, 1) := by decide +kernel
theorem dX8_best_25 : decode cX8_best 25 = .ok (.getfield 57, 3) := by decide +kernel
theorem dX8_best_28 : decode cX8_best 28 = .ok (.iload_n 2, 1) := by decide +kernel
theorem dX8_best_29 : decode cX8_best 29 = .ok (.dup2, 1) := by decide +kernel
theorem dX8_best_30 : decode cX8_best 30 = .ok (.iaload, 1) := by decide +kernel
theorem dX8_best_31 : decode cX8_best 31 = .ok (.iconst 1, 1) := by decide +kernel
theorem dX8_best_32 : decode cX8_best 32 = .ok (.iadd, 1) := by decide +kernel
theorem dX8_best_33 : decode cX8_best 33 = .ok (.iastore, 1) := by decide +kernel
theorem dX8_best_34 : decode cX8_best 34 = .ok (.aload_n 0, 1) := by decide +kernel
theorem dX8_best_35 : decode cX8_best 35 = .ok (.getfield 57, 3) := by decide +kernel
theorem dX8_best_38 : decode cX8_best 38 = .ok (.iload_n 2, 1) := by decide +kernel
theorem dX8_best_39 : decode cX8_best 39 = .ok (.iaload, 1) := by decide +kernel
theorem dX8_best_40 : decode cX8_best 40 = .ok (.aload_n 0, 1) := by decide +kernel
theorem dX8_best_41 : decode cX8_best 41 = .ok (.getfield 78, 3) := by decide +kernel
theorem dX8_best_44 : decode cX8_best 44 = .ok (.if_icmp .ge 30, 3) := by decide +kernel
theorem dX8_best_47 : decode cX8_best 47 = .ok (.aload_n 0, 1) := by decide +kernel
theorem dX8_best_48 : decode cX8_best 48 = .ok (.iload_n 2, 1) := by decide +kernel
theorem dX8_best_49 : decode cX8_best 49 = .ok (.aload_n 0, 1) := by decide +kernel
theorem dX8_best_50 : decode cX8_best 50 = .ok (.getfield 57, 3) := by decide +kernel
theorem dX8_best_53 : decode cX8_best 53 = .ok (.iload_n 2, 1) := by decide +kernel
theorem dX8_best_54 : decode cX8_best 54 = .ok (.iaload, 1) := by decide +kernel
theorem dX8_best_55 : decode cX8_best 55 = .ok (.invokevirtual 192, 3) := by decide +kernel
theorem dX8_best_58 : decode cX8_best 58 = .ok (.ifCond .ne 16, 3) := by decide +kernel
theorem dX8_best_61 : decode cX8_best 61 = .ok (.aload_n 0, 1) := by decide +kernel
theorem dX8_best_62 : decode cX8_best 62 = .ok (.getfield 57, 3) := by decide +kernel
theorem dX8_best_65 : decode cX8_best 65 = .ok (.iload_n 2, 1) := by decide +kernel
theorem dX8_best_66 : decode cX8_best 66 = .ok (.dup2, 1) := by decide +kernel
theorem dX8_best_67 : decode cX8_best 67 = .ok (.iaload, 1) := by decide +kernel
theorem dX8_best_68 : decode cX8_best 68 = .ok (.iconst 1, 1) := by decide +kernel
theorem dX8_best_69 : decode cX8_best 69 = .ok (.iadd, 1) := by decide +kernel
theorem dX8_best_70 : decode cX8_best 70 = .ok (.iastore, 1) := by decide +kernel
theorem dX8_best_71 : decode cX8_best 71 = .ok (.goto (-37), 3) := by decide +kernel
theorem dX8_best_74 : decode cX8_best 74 = .ok (.aload_n 0, 1) := by decide +kernel
theorem dX8_best_75 : decode cX8_best 75 = .ok (.getfield 57, 3) := by decide +kernel
theorem dX8_best_78 : decode cX8_best 78 = .ok (.iload_n 2, 1) := by decide +kernel
theorem dX8_best_79 : decode cX8_best 79 = .ok (.iaload, 1) := by decide +kernel
theorem dX8_best_80 : decode cX8_best 80 = .ok (.aload_n 0, 1) := by decide +kernel
theorem dX8_best_81 : decode cX8_best 81 = .ok (.getfield 78, 3) := by decide +kernel
theorem dX8_best_84 : decode cX8_best 84 = .ok (.if_icmp .ne 9, 3) := by decide +kernel
theorem dX8_best_87 : decode cX8_best 87 = .ok (.iinc 2 (-1), 3) := by decide +kernel
theorem dX8_best_90 : decode cX8_best 90 = .ok (.goto (-70), 3) := by decide +kernel
theorem dX8_best_93 : decode cX8_best 93 = .ok (.iload_n 2, 1) := by decide +kernel
theorem dX8_best_94 : decode cX8_best 94 = .ok (.iconst 1, 1) := by decide +kernel
theorem dX8_best_95 : decode cX8_best 95 = .ok (.iadd, 1) := by decide +kernel
theorem dX8_best_96 : decode cX8_best 96 = .ok (.aload_n 0, 1) := by decide +kernel
theorem dX8_best_97 : decode cX8_best 97 = .ok (.getfield 78, 3) := by decide +kernel
theorem dX8_best_100 : decode cX8_best 100 = .ok (.if_icmp .ge 16, 3) := by decide +kernel
theorem dX8_best_103 : decode cX8_best 103 = .ok (.iinc 2 1, 3) := by decide +kernel
theorem dX8_best_106 : decode cX8_best 106 = .ok (.aload_n 0, 1) := by decide +kernel
theorem dX8_best_107 : decode cX8_best 107 = .ok (.getfield 57, 3) := by decide +kernel
theorem dX8_best_110 : decode cX8_best 110 = .ok (.iload_n 2, 1) := by decide +kernel
theorem dX8_best_111 : decode cX8_best 111 = .ok (.iconst (-1), 1) := by decide +kernel
theorem dX8_best_112 : decode cX8_best 112 = .ok (.iastore, 1) := by decide +kernel
theorem dX8_best_113 : decode cX8_best 113 = .ok (.goto (-93), 3) := by decide +kernel
theorem dX8_best_116 : decode cX8_best 116 = .ok (.aload_n 0, 1) := by decide +kernel
theorem dX8_best_117 : decode cX8_best 117 = .ok (.invokevirtual 195, 3) := by decide +kernel
theorem dX8_best_120 : decode cX8_best 120 = .ok (.istore_n 3, 1) := by decide +kernel
theorem dX8_best_121 : decode cX8_best 121 = .ok (.iload_n 3, 1) := by decide +kernel
theorem dX8_best_122 : decode cX8_best 122 = .ok (.iconst (-1), 1) := by decide +kernel
theorem dX8_best_123 : decode cX8_best 123 = .ok (.if_icmp .eq 19, 3) := by decide +kernel
theorem dX8_best_126 : decode cX8_best 126 = .ok (.iload_n 1, 1) := by decide +kernel
theorem dX8_best_127 : decode cX8_best 127 = .ok (.iconst (-1), 1) := by decide +kernel
theorem dX8_best_128 : decode cX8_best 128 = .ok (.if_icmp .eq 8, 3) := by decide +kernel
theorem dX8_best_131 : decode cX8_best 131 = .ok (.iload_n 3, 1) := by decide +kernel
theorem dX8_best_132 : decode cX8_best 132 = .ok (.iload_n 1, 1) := by decide +kernel
theorem dX8_best_133 : decode cX8_best 133 = .ok (.if_icmp .ge 9, 3) := by decide +kernel
theorem dX8_best_136 : decode cX8_best 136 = .ok (.iload_n 3, 1) := by decide +kernel
theorem dX8_best_137 : decode cX8_best 137 = .ok (.istore_n 1, 1) := by decide +kernel
theorem dX8_best_138 : decode cX8_best 138 = .ok (.aload_n 0, 1) := by decide +kernel
theorem dX8_best_139 : decode cX8_best 139 = .ok (.invokevirtual 198, 3) := by decide +kernel
theorem dX8_best_142 : decode cX8_best 142 = .ok (.goto (-122), 3) := by decide +kernel
theorem dX8_best_145 : decode cX8_best 145 = .ok (.iload_n 1, 1) := by decide +kernel
theorem dX8_best_146 : decode cX8_best 146 = .ok (.ireturn, 1) := by decide +kernel
theorem dX8_keepRow_0 : decode cX8_keepRow 0 = .ok (.iconst 0, 1) := by decide +kernel
theorem dX8_keepRow_1 : decode cX8_keepRow 1 = .ok (.istore_n 1, 1) := by decide +kernel
theorem dX8_keepRow_2 : decode cX8_keepRow 2 = .ok (.iload_n 1, 1) := by decide +kernel
theorem dX8_keepRow_3 : decode cX8_keepRow 3 = .ok (.aload_n 0, 1) := by decide +kernel
theorem dX8_keepRow_4 : decode cX8_keepRow 4 = .ok (.getfield 78, 3) := by decide +kernel
theorem dX8_keepRow_7 : decode cX8_keepRow 7 = .ok (.if_icmp .ge 33, 3) := by decide +kernel
theorem dX8_keepRow_10 : decode cX8_keepRow 10 = .ok (.aload_n 0, 1) := by decide +kernel
theorem dX8_keepRow_11 : decode cX8_keepRow 11 = .ok (.getfield 60, 3) := by decide +kernel
theorem dX8_keepRow_14 : decode cX8_keepRow 14 = .ok (.iload_n 1, 1) := by decide +kernel
theorem dX8_keepRow_15 : decode cX8_keepRow 15 = .ok (.aload_n 0, 1) := by decide +kernel
theorem dX8_keepRow_16 : decode cX8_keepRow 16 = .ok (.getfield 57, 3) := by decide +kernel
theorem dX8_keepRow_19 : decode cX8_keepRow 19 = .ok (.iload_n 1, 1) := by decide +kernel
theorem dX8_keepRow_20 : decode cX8_keepRow 20 = .ok (.iaload, 1) := by decide +kernel
theorem dX8_keepRow_21 : decode cX8_keepRow 21 = .ok (.iastore, 1) := by decide +kernel
theorem dX8_keepRow_22 : decode cX8_keepRow 22 = .ok (.aload_n 0, 1) := by decide +kernel
theorem dX8_keepRow_23 : decode cX8_keepRow 23 = .ok (.getfield 66, 3) := by decide +kernel
theorem dX8_keepRow_26 : decode cX8_keepRow 26 = .ok (.iload_n 1, 1) := by decide +kernel
theorem dX8_keepRow_27 : decode cX8_keepRow 27 = .ok (.aload_n 0, 1) := by decide +kernel
theorem dX8_keepRow_28 : decode cX8_keepRow 28 = .ok (.getfield 63, 3) := by decide +kernel
theorem dX8_keepRow_31 : decode cX8_keepRow 31 = .ok (.iload_n 1, 1) := by decide +kernel
theorem dX8_keepRow_32 : decode cX8_keepRow 32 = .ok (.iaload, 1) := by decide +kernel
theorem dX8_keepRow_33 : decode cX8_keepRow 33 = .ok (.iastore, 1) := by decide +kernel
theorem dX8_keepRow_34 : decode cX8_keepRow 34 = .ok (.iinc 1 1, 3) := by decide +kernel
theorem dX8_keepRow_37 : decode cX8_keepRow 37 = .ok (.goto (-35), 3) := by decide +kernel
theorem dX8_keepRow_40 : decode cX8_keepRow 40 = .ok (.return_, 1) := by decide +kernel
set_option maxRecDepth 20000 in
theorem ggX8_makespan_X8_best : GoodIn wsX8_makespan wsX8_best := goodIn_r _ [6, 7, 8, 9, 10, 11, 5, 12, 13, 14, 15, 16, 17, 18, 19, 20, 21, 22, 23, 24, 25, 26, 27, 28, 29, 30, 31, 32, 33, 34, 35, 36, 37, 38, 39, 40, 41, 42, 43, 44, 45, 46, 47, 48, 49, 50, 51, 52, 53, 54, 55, 56, 57, 58, 59, 60, 61, 62, 63, 64, 65] (by decide +kernel) (by decide +kernel)
set_option maxRecDepth 20000 in
theorem gX8_makespan_X8_best : GoodIn wsX8_makespan (wsV RX8 201 RX8 yX8_best wsX8_best) := goodIn_app (goodIn_of _ (by decide +kernel)) ggX8_makespan_X8_best
theorem dX8_makespan_0 : decode cX8_makespan 0 = .ok (.aload_n 0, 1) := by decide +kernel
theorem dX8_makespan_1 : decode cX8_makespan 1 = .ok (.iconst 0, 1) := by decide +kernel
theorem dX8_makespan_2 : decode cX8_makespan 2 = .ok (.putfield 75, 3) := by decide +kernel
theorem dX8_makespan_5 : decode cX8_makespan 5 = .ok (.aload_n 0, 1) := by decide +kernel
theorem dX8_makespan_6 : decode cX8_makespan 6 = .ok (.invokevirtual 201, 3) := by decide +kernel
theorem dX8_makespan_9 : decode cX8_makespan 9 = .ok (.ireturn, 1) := by decide +kernel
set_option maxRecDepth 20000 in
theorem ggX8_inBest_X8_isTask : GoodIn wsX8_inBest wsX8_isTask := goodIn_r _ [9, 2, 43, 44, 45, 46, 47, 48, 49, 50, 51, 52, 53, 54, 55, 56, 57, 58, 59, 60, 61, 62, 63, 64, 65, 66, 67, 68, 69, 70, 71, 72] (by decide +kernel) (by decide +kernel)
set_option maxRecDepth 20000 in
theorem gX8_inBest_X8_isTask : GoodIn wsX8_inBest (wsV RX8 98 RX8 yX8_isTask wsX8_isTask) := goodIn_app (goodIn_of _ (by decide +kernel)) ggX8_inBest_X8_isTask
set_option maxRecDepth 20000 in
theorem ggX8_inBest_X8_in : GoodIn wsX8_inBest wsX8_in := goodIn_r _ [12] (by decide +kernel) (by decide +kernel)
set_option maxRecDepth 20000 in
theorem gX8_inBest_X8_in : GoodIn wsX8_inBest (va_wsS RX8 84 yX8_in wsX8_in) := goodIn_app (goodIn_of _ (by decide +kernel)) ggX8_inBest_X8_in
set_option maxRecDepth 20000 in
theorem ggX8_inBest_X8_best : GoodIn wsX8_inBest wsX8_best := goodIn_r _ [16, 17, 2, 18, 19, 20, 8, 21, 22, 23, 24, 25, 26, 27, 28, 29, 30, 31, 32, 33, 34, 35, 36, 37, 38, 39, 40, 41, 42, 3, 4, 43, 44, 45, 46, 47, 48, 49, 50, 51, 52, 53, 54, 55, 56, 57, 58, 59, 60, 61, 62, 63, 64, 65, 66, 67, 68, 69, 70, 71, 72] (by decide +kernel) (by decide +kernel)
set_option maxRecDepth 20000 in
theorem gX8_inBest_X8_best : GoodIn wsX8_inBest (wsV RX8 201 RX8 yX8_best wsX8_best) := goodIn_app (goodIn_of _ (by decide +kernel)) ggX8_inBest_X8_best
theorem dX8_inBest_0 : decode cX8_inBest 0 = .ok (.aload_n 0, 1) := by decide +kernel
theorem dX8_inBest_1 : decode cX8_inBest 1 = .ok (.aload_n 0, 1) := by decide +kernel
theorem dX8_inBest_2 : decode cX8_inBest 2 = .ok (.iload_n 1, 1) := by decide +kernel
theorem dX8_inBest_3 : decode cX8_inBest 3 = .ok (.invokevirtual 98, 3) := by decide +kernel
theorem dX8_inBest_6 : decode cX8_inBest 6 = .ok (.ifCond .ne 7, 3) := by decide +kernel
theorem dX8_inBest_9 : decode cX8_inBest 9 = .ok (.iconst 1, 1) := by decide +kernel
theorem dX8_inBest_10 : decode cX8_inBest 10 = .ok (.goto 17, 3) := by decide +kernel
theorem dX8_inBest_13 : decode cX8_inBest 13 = .ok (.iload_n 2, 1) := by decide +kernel
theorem dX8_inBest_14 : decode cX8_inBest 14 = .ok (.iconst 0, 1) := by decide +kernel
theorem dX8_inBest_15 : decode cX8_inBest 15 = .ok (.iconst 1, 1) := by decide +kernel
theorem dX8_inBest_16 : decode cX8_inBest 16 = .ok (.invokestatic 84, 3) := by decide +kernel
theorem dX8_inBest_19 : decode cX8_inBest 19 = .ok (.ifCond .eq 7, 3) := by decide +kernel
theorem dX8_inBest_22 : decode cX8_inBest 22 = .ok (.iconst 0, 1) := by decide +kernel
theorem dX8_inBest_23 : decode cX8_inBest 23 = .ok (.goto 4, 3) := by decide +kernel
theorem dX8_inBest_26 : decode cX8_inBest 26 = .ok (.iconst 2, 1) := by decide +kernel
theorem dX8_inBest_27 : decode cX8_inBest 27 = .ok (.putfield 75, 3) := by decide +kernel
theorem dX8_inBest_30 : decode cX8_inBest 30 = .ok (.aload_n 0, 1) := by decide +kernel
theorem dX8_inBest_31 : decode cX8_inBest 31 = .ok (.getfield 75, 3) := by decide +kernel
theorem dX8_inBest_34 : decode cX8_inBest 34 = .ok (.ifCond .le 5, 3) := by decide +kernel
theorem dX8_inBest_37 : decode cX8_inBest 37 = .ok (.iconst 0, 1) := by decide +kernel
theorem dX8_inBest_38 : decode cX8_inBest 38 = .ok (.ireturn, 1) := by decide +kernel
theorem dX8_inBest_39 : decode cX8_inBest 39 = .ok (.aload_n 0, 1) := by decide +kernel
theorem dX8_inBest_40 : decode cX8_inBest 40 = .ok (.invokevirtual 201, 3) := by decide +kernel
theorem dX8_inBest_43 : decode cX8_inBest 43 = .ok (.iconst (-1), 1) := by decide +kernel
theorem dX8_inBest_44 : decode cX8_inBest 44 = .ok (.if_icmp .ne 5, 3) := by decide +kernel
theorem dX8_inBest_47 : decode cX8_inBest 47 = .ok (.iconst (-1), 1) := by decide +kernel
theorem dX8_inBest_48 : decode cX8_inBest 48 = .ok (.ireturn, 1) := by decide +kernel
theorem dX8_inBest_49 : decode cX8_inBest 49 = .ok (.iconst 0, 1) := by decide +kernel
theorem dX8_inBest_50 : decode cX8_inBest 50 = .ok (.istore_n 3, 1) := by decide +kernel
theorem dX8_inBest_51 : decode cX8_inBest 51 = .ok (.iconst 0, 1) := by decide +kernel
theorem dX8_inBest_52 : decode cX8_inBest 52 = .ok (.istore 4, 2) := by decide +kernel
theorem dX8_inBest_54 : decode cX8_inBest 54 = .ok (.iload 4, 2) := by decide +kernel
theorem dX8_inBest_56 : decode cX8_inBest 56 = .ok (.aload_n 0, 1) := by decide +kernel
theorem dX8_inBest_57 : decode cX8_inBest 57 = .ok (.getfield 78, 3) := by decide +kernel
theorem dX8_inBest_60 : decode cX8_inBest 60 = .ok (.if_icmp .ge 27, 3) := by decide +kernel
theorem dX8_inBest_63 : decode cX8_inBest 63 = .ok (.aload_n 0, 1) := by decide +kernel
theorem dX8_inBest_64 : decode cX8_inBest 64 = .ok (.getfield 60, 3) := by decide +kernel
theorem dX8_inBest_67 : decode cX8_inBest 67 = .ok (.iload 4, 2) := by decide +kernel
theorem dX8_inBest_69 : decode cX8_inBest 69 = .ok (.iaload, 1) := by decide +kernel
theorem dX8_inBest_70 : decode cX8_inBest 70 = .ok (.iload_n 1, 1) := by decide +kernel
theorem dX8_inBest_71 : decode cX8_inBest 71 = .ok (.if_icmp .ne 8, 3) := by decide +kernel
theorem dX8_inBest_74 : decode cX8_inBest 74 = .ok (.iload 4, 2) := by decide +kernel
theorem dX8_inBest_76 : decode cX8_inBest 76 = .ok (.goto 4, 3) := by decide +kernel
theorem dX8_inBest_79 : decode cX8_inBest 79 = .ok (.iload_n 3, 1) := by decide +kernel
theorem dX8_inBest_80 : decode cX8_inBest 80 = .ok (.istore_n 3, 1) := by decide +kernel
theorem dX8_inBest_81 : decode cX8_inBest 81 = .ok (.iinc 4 1, 3) := by decide +kernel
theorem dX8_inBest_84 : decode cX8_inBest 84 = .ok (.goto (-30), 3) := by decide +kernel
theorem dX8_inBest_87 : decode cX8_inBest 87 = .ok (.iload_n 2, 1) := by decide +kernel
theorem dX8_inBest_88 : decode cX8_inBest 88 = .ok (.ifCond .ne 7, 3) := by decide +kernel
theorem dX8_inBest_91 : decode cX8_inBest 91 = .ok (.iload_n 3, 1) := by decide +kernel
theorem dX8_inBest_92 : decode cX8_inBest 92 = .ok (.goto 9, 3) := by decide +kernel
theorem dX8_inBest_95 : decode cX8_inBest 95 = .ok (.aload_n 0, 1) := by decide +kernel
theorem dX8_inBest_96 : decode cX8_inBest 96 = .ok (.getfield 66, 3) := by decide +kernel
theorem dX8_inBest_99 : decode cX8_inBest 99 = .ok (.iload_n 1, 1) := by decide +kernel
theorem dX8_inBest_100 : decode cX8_inBest 100 = .ok (.iaload, 1) := by decide +kernel
theorem dX8_inBest_101 : decode cX8_inBest 101 = .ok (.ireturn, 1) := by decide +kernel
set_option maxRecDepth 20000 in
theorem ggX8_drawRow_X8_canStand : GoodIn wsX8_drawRow wsX8_canStand := goodIn_r _ [12, 7, 13, 14, 11, 15, 16, 17, 18, 19, 1, 20, 21, 22, 23, 24, 25, 26, 27, 28, 29, 30, 31, 32, 33, 34, 35, 36, 37, 38, 39, 40, 41, 42, 43, 44, 45, 46, 47, 48, 49, 50] (by decide +kernel) (by decide +kernel)
set_option maxRecDepth 20000 in
theorem gX8_drawRow_X8_canStand : GoodIn wsX8_drawRow (wsV RX8 192 RX8 yX8_canStand wsX8_canStand) := goodIn_app (goodIn_of _ (by decide +kernel)) ggX8_drawRow_X8_canStand
theorem dX8_drawRow_0 : decode cX8_drawRow 0 = .ok (.iconst 0, 1) := by decide +kernel
theorem dX8_drawRow_1 : decode cX8_drawRow 1 = .ok (.istore_n 1, 1) := by decide +kernel
theorem dX8_drawRow_2 : decode cX8_drawRow 2 = .ok (.iload_n 1, 1) := by decide +kernel
theorem dX8_drawRow_3 : decode cX8_drawRow 3 = .ok (.aload_n 0, 1) := by decide +kernel
theorem dX8_drawRow_4 : decode cX8_drawRow 4 = .ok (.getfield 78, 3) := by decide +kernel
theorem dX8_drawRow_7 : decode cX8_drawRow 7 = .ok (.if_icmp .ge 132, 3) := by decide +kernel
theorem dX8_drawRow_10 : decode cX8_drawRow 10 = .ok (.iconst 0, 1) := by decide +kernel
theorem dX8_drawRow_11 : decode cX8_drawRow 11 = .ok (.istore_n 2, 1) := by decide +kernel
theorem dX8_drawRow_12 : decode cX8_drawRow 12 = .ok (.iconst 0, 1) := by decide +kernel
theorem dX8_drawRow_13 : decode cX8_drawRow 13 = .ok (.istore_n 3, 1) := by decide +kernel
theorem dX8_drawRow_14 : decode cX8_drawRow 14 = .ok (.iload_n 3, 1) := by decide +kernel
theorem dX8_drawRow_15 : decode cX8_drawRow 15 = .ok (.aload_n 0, 1) := by decide +kernel
theorem dX8_drawRow_16 : decode cX8_drawRow 16 = .ok (.getfield 78, 3) := by decide +kernel
theorem dX8_drawRow_19 : decode cX8_drawRow 19 = .ok (.if_icmp .ge 26, 3) := by decide +kernel
theorem dX8_drawRow_22 : decode cX8_drawRow 22 = .ok (.iload_n 2, 1) := by decide +kernel
theorem dX8_drawRow_23 : decode cX8_drawRow 23 = .ok (.aload_n 0, 1) := by decide +kernel
theorem dX8_drawRow_24 : decode cX8_drawRow 24 = .ok (.iload_n 1, 1) := by decide +kernel
theorem dX8_drawRow_25 : decode cX8_drawRow 25 = .ok (.iload_n 3, 1) := by decide +kernel
theorem dX8_drawRow_26 : decode cX8_drawRow 26 = .ok (.invokevirtual 192, 3) := by decide +kernel
theorem dX8_drawRow_29 : decode cX8_drawRow 29 = .ok (.ifCond .eq 7, 3) := by decide +kernel
theorem dX8_drawRow_32 : decode cX8_drawRow 32 = .ok (.iconst 1, 1) := by decide +kernel
theorem dX8_drawRow_33 : decode cX8_drawRow 33 = .ok (.goto 4, 3) := by decide +kernel
theorem dX8_drawRow_36 : decode cX8_drawRow 36 = .ok (.iconst 0, 1) := by decide +kernel
theorem dX8_drawRow_37 : decode cX8_drawRow 37 = .ok (.iadd, 1) := by decide +kernel
theorem dX8_drawRow_38 : decode cX8_drawRow 38 = .ok (.istore_n 2, 1) := by decide +kernel
theorem dX8_drawRow_39 : decode cX8_drawRow 39 = .ok (.iinc 3 1, 3) := by decide +kernel
theorem dX8_drawRow_42 : decode cX8_drawRow 42 = .ok (.goto (-28), 3) := by decide +kernel
theorem dX8_drawRow_45 : decode cX8_drawRow 45 = .ok (.aload_n 0, 1) := by decide +kernel
theorem dX8_drawRow_46 : decode cX8_drawRow 46 = .ok (.aload_n 0, 1) := by decide +kernel
theorem dX8_drawRow_47 : decode cX8_drawRow 47 = .ok (.getfield 204, 3) := by decide +kernel
theorem dX8_drawRow_50 : decode cX8_drawRow 50 = .ok (.ldc2_w 208, 3) := by decide +kernel
theorem dX8_drawRow_53 : decode cX8_drawRow 53 = .ok (.lmul, 1) := by decide +kernel
theorem dX8_drawRow_54 : decode cX8_drawRow 54 = .ok (.ldc2_w 210, 3) := by decide +kernel
theorem dX8_drawRow_57 : decode cX8_drawRow 57 = .ok (.ladd, 1) := by decide +kernel
theorem dX8_drawRow_58 : decode cX8_drawRow 58 = .ok (.ldc2_w 212, 3) := by decide +kernel
theorem dX8_drawRow_61 : decode cX8_drawRow 61 = .ok (.lrem, 1) := by decide +kernel
theorem dX8_drawRow_62 : decode cX8_drawRow 62 = .ok (.putfield 204, 3) := by decide +kernel
theorem dX8_drawRow_65 : decode cX8_drawRow 65 = .ok (.aload_n 0, 1) := by decide +kernel
theorem dX8_drawRow_66 : decode cX8_drawRow 66 = .ok (.getfield 204, 3) := by decide +kernel
theorem dX8_drawRow_69 : decode cX8_drawRow 69 = .ok (.ldc2_w 214, 3) := by decide +kernel
theorem dX8_drawRow_72 : decode cX8_drawRow 72 = .ok (.ldiv, 1) := by decide +kernel
theorem dX8_drawRow_73 : decode cX8_drawRow 73 = .ok (.iload_n 2, 1) := by decide +kernel
theorem dX8_drawRow_74 : decode cX8_drawRow 74 = .ok (.i2l, 1) := by decide +kernel
theorem dX8_drawRow_75 : decode cX8_drawRow 75 = .ok (.lrem, 1) := by decide +kernel
theorem dX8_drawRow_76 : decode cX8_drawRow 76 = .ok (.l2i, 1) := by decide +kernel
theorem dX8_drawRow_77 : decode cX8_drawRow 77 = .ok (.istore_n 3, 1) := by decide +kernel
theorem dX8_drawRow_78 : decode cX8_drawRow 78 = .ok (.iconst (-1), 1) := by decide +kernel
theorem dX8_drawRow_79 : decode cX8_drawRow 79 = .ok (.istore 4, 2) := by decide +kernel
theorem dX8_drawRow_81 : decode cX8_drawRow 81 = .ok (.iconst 0, 1) := by decide +kernel
theorem dX8_drawRow_82 : decode cX8_drawRow 82 = .ok (.istore 5, 2) := by decide +kernel
theorem dX8_drawRow_84 : decode cX8_drawRow 84 = .ok (.iload 5, 2) := by decide +kernel
theorem dX8_drawRow_86 : decode cX8_drawRow 86 = .ok (.aload_n 0, 1) := by decide +kernel
theorem dX8_drawRow_87 : decode cX8_drawRow 87 = .ok (.getfield 78, 3) := by decide +kernel
theorem dX8_drawRow_90 : decode cX8_drawRow 90 = .ok (.if_icmp .ge 35, 3) := by decide +kernel
theorem dX8_drawRow_93 : decode cX8_drawRow 93 = .ok (.aload_n 0, 1) := by decide +kernel
theorem dX8_drawRow_94 : decode cX8_drawRow 94 = .ok (.iload_n 1, 1) := by decide +kernel
theorem dX8_drawRow_95 : decode cX8_drawRow 95 = .ok (.iload 5, 2) := by decide +kernel
theorem dX8_drawRow_97 : decode cX8_drawRow 97 = .ok (.invokevirtual 192, 3) := by decide +kernel
theorem dX8_drawRow_100 : decode cX8_drawRow 100 = .ok (.ifCond .eq 19, 3) := by decide +kernel
theorem dX8_drawRow_103 : decode cX8_drawRow 103 = .ok (.iload_n 3, 1) := by decide +kernel
theorem dX8_drawRow_104 : decode cX8_drawRow 104 = .ok (.ifCond .ne 8, 3) := by decide +kernel
theorem dX8_drawRow_107 : decode cX8_drawRow 107 = .ok (.iload 5, 2) := by decide +kernel
theorem dX8_drawRow_109 : decode cX8_drawRow 109 = .ok (.goto 5, 3) := by decide +kernel
theorem dX8_drawRow_112 : decode cX8_drawRow 112 = .ok (.iload 4, 2) := by decide +kernel
theorem dX8_drawRow_114 : decode cX8_drawRow 114 = .ok (.istore 4, 2) := by decide +kernel
theorem dX8_drawRow_116 : decode cX8_drawRow 116 = .ok (.iinc 3 (-1), 3) := by decide +kernel
theorem dX8_drawRow_119 : decode cX8_drawRow 119 = .ok (.iinc 5 1, 3) := by decide +kernel
theorem dX8_drawRow_122 : decode cX8_drawRow 122 = .ok (.goto (-38), 3) := by decide +kernel
theorem dX8_drawRow_125 : decode cX8_drawRow 125 = .ok (.aload_n 0, 1) := by decide +kernel
theorem dX8_drawRow_126 : decode cX8_drawRow 126 = .ok (.getfield 57, 3) := by decide +kernel
theorem dX8_drawRow_129 : decode cX8_drawRow 129 = .ok (.iload_n 1, 1) := by decide +kernel
theorem dX8_drawRow_130 : decode cX8_drawRow 130 = .ok (.iload 4, 2) := by decide +kernel
theorem dX8_drawRow_132 : decode cX8_drawRow 132 = .ok (.iastore, 1) := by decide +kernel
theorem dX8_drawRow_133 : decode cX8_drawRow 133 = .ok (.iinc 1 1, 3) := by decide +kernel
theorem dX8_drawRow_136 : decode cX8_drawRow 136 = .ok (.goto (-134), 3) := by decide +kernel
theorem dX8_drawRow_139 : decode cX8_drawRow 139 = .ok (.return_, 1) := by decide +kernel
set_option maxRecDepth 20000 in
theorem ggX8_drawn_X8_in : GoodIn wsX8_drawn wsX8_in := goodIn_r _ [7] (by decide +kernel) (by decide +kernel)
set_option maxRecDepth 20000 in
theorem gX8_drawn_X8_in : GoodIn wsX8_drawn (va_wsS RX8 84 yX8_in wsX8_in) := goodIn_app (goodIn_of _ (by decide +kernel)) ggX8_drawn_X8_in
set_option maxRecDepth 20000 in
theorem ggX8_drawn_X8_drawRow : GoodIn wsX8_drawn wsX8_drawRow := goodIn_r _ [11, 12, 3, 13, 14, 15, 16, 17, 18, 19, 20, 6, 21, 22, 23, 24, 25, 26, 27, 28, 29, 39, 40, 41, 42, 43, 44, 45, 46, 47, 48, 49, 50, 51, 52, 53, 54, 55, 56, 57, 58, 59, 60, 61, 62, 63, 64, 65, 66, 67, 68] (by decide +kernel) (by decide +kernel)
set_option maxRecDepth 20000 in
theorem gX8_drawn_X8_drawRow : GoodIn wsX8_drawn (wsV RX8 217 RX8 yX8_drawRow wsX8_drawRow) := goodIn_app (goodIn_of _ (by decide +kernel)) ggX8_drawn_X8_drawRow
set_option maxRecDepth 20000 in
theorem ggX8_drawn_X8_planOf : GoodIn wsX8_drawn wsX8_planOf := goodIn_r _ [33, 12, 17, 34, 35, 36, 37, 29, 38, 22, 23, 6, 24, 39, 40, 41, 42, 43, 44, 45, 46, 47, 48, 49, 50, 51, 52, 53, 54, 55, 56, 57, 58, 59, 60, 61, 62, 63, 64, 65, 66, 67, 68] (by decide +kernel) (by decide +kernel)
set_option maxRecDepth 20000 in
theorem gX8_drawn_X8_planOf : GoodIn wsX8_drawn (wsV RX8 195 RX8 yX8_planOf wsX8_planOf) := goodIn_app (goodIn_of _ (by decide +kernel)) ggX8_drawn_X8_planOf
theorem dX8_drawn_0 : decode cX8_drawn 0 = .ok (.aload_n 0, 1) := by decide +kernel
theorem dX8_drawn_1 : decode cX8_drawn 1 = .ok (.iload_n 1, 1) := by decide +kernel
theorem dX8_drawn_2 : decode cX8_drawn 2 = .ok (.iconst 0, 1) := by decide +kernel
theorem dX8_drawn_3 : decode cX8_drawn 3 = .ok (.ldc 216, 2) := by decide +kernel
theorem dX8_drawn_5 : decode cX8_drawn 5 = .ok (.invokestatic 84, 3) := by decide +kernel
theorem dX8_drawn_8 : decode cX8_drawn 8 = .ok (.ifCond .eq 17, 3) := by decide +kernel
theorem dX8_drawn_11 : decode cX8_drawn 11 = .ok (.iload_n 2, 1) := by decide +kernel
theorem dX8_drawn_12 : decode cX8_drawn 12 = .ok (.iconst 1, 1) := by decide +kernel
theorem dX8_drawn_13 : decode cX8_drawn 13 = .ok (.bipush 50, 2) := by decide +kernel
theorem dX8_drawn_15 : decode cX8_drawn 15 = .ok (.invokestatic 84, 3) := by decide +kernel
theorem dX8_drawn_18 : decode cX8_drawn 18 = .ok (.ifCond .eq 7, 3) := by decide +kernel
theorem dX8_drawn_21 : decode cX8_drawn 21 = .ok (.iconst 0, 1) := by decide +kernel
theorem dX8_drawn_22 : decode cX8_drawn 22 = .ok (.goto 4, 3) := by decide +kernel
theorem dX8_drawn_25 : decode cX8_drawn 25 = .ok (.iconst 1, 1) := by decide +kernel
theorem dX8_drawn_26 : decode cX8_drawn 26 = .ok (.putfield 75, 3) := by decide +kernel
theorem dX8_drawn_29 : decode cX8_drawn 29 = .ok (.aload_n 0, 1) := by decide +kernel
theorem dX8_drawn_30 : decode cX8_drawn 30 = .ok (.getfield 75, 3) := by decide +kernel
theorem dX8_drawn_33 : decode cX8_drawn 33 = .ok (.ifCond .le 5, 3) := by decide +kernel
theorem dX8_drawn_36 : decode cX8_drawn 36 = .ok (.iconst 0, 1) := by decide +kernel
theorem dX8_drawn_37 : decode cX8_drawn 37 = .ok (.ireturn, 1) := by decide +kernel
theorem dX8_drawn_38 : decode cX8_drawn 38 = .ok (.aload_n 0, 1) := by decide +kernel
theorem dX8_drawn_39 : decode cX8_drawn 39 = .ok (.iload_n 1, 1) := by decide +kernel
theorem dX8_drawn_40 : decode cX8_drawn 40 = .ok (.i2l, 1) := by decide +kernel
theorem dX8_drawn_41 : decode cX8_drawn 41 = .ok (.putfield 204, 3) := by decide +kernel
theorem dX8_drawn_44 : decode cX8_drawn 44 = .ok (.iconst (-1), 1) := by decide +kernel
theorem dX8_drawn_45 : decode cX8_drawn 45 = .ok (.istore_n 3, 1) := by decide +kernel
theorem dX8_drawn_46 : decode cX8_drawn 46 = .ok (.iconst 0, 1) := by decide +kernel
theorem dX8_drawn_47 : decode cX8_drawn 47 = .ok (.istore 4, 2) := by decide +kernel
theorem dX8_drawn_49 : decode cX8_drawn 49 = .ok (.iload 4, 2) := by decide +kernel
theorem dX8_drawn_51 : decode cX8_drawn 51 = .ok (.iload_n 2, 1) := by decide +kernel
theorem dX8_drawn_52 : decode cX8_drawn 52 = .ok (.if_icmp .ge 43, 3) := by decide +kernel
theorem dX8_drawn_55 : decode cX8_drawn 55 = .ok (.aload_n 0, 1) := by decide +kernel
theorem dX8_drawn_56 : decode cX8_drawn 56 = .ok (.invokevirtual 217, 3) := by decide +kernel
theorem dX8_drawn_59 : decode cX8_drawn 59 = .ok (.aload_n 0, 1) := by decide +kernel
theorem dX8_drawn_60 : decode cX8_drawn 60 = .ok (.invokevirtual 195, 3) := by decide +kernel
theorem dX8_drawn_63 : decode cX8_drawn 63 = .ok (.istore 5, 2) := by decide +kernel
theorem dX8_drawn_65 : decode cX8_drawn 65 = .ok (.iload 5, 2) := by decide +kernel
theorem dX8_drawn_67 : decode cX8_drawn 67 = .ok (.iconst (-1), 1) := by decide +kernel
theorem dX8_drawn_68 : decode cX8_drawn 68 = .ok (.if_icmp .eq 19, 3) := by decide +kernel
theorem dX8_drawn_71 : decode cX8_drawn 71 = .ok (.iload_n 3, 1) := by decide +kernel
theorem dX8_drawn_72 : decode cX8_drawn 72 = .ok (.iconst (-1), 1) := by decide +kernel
theorem dX8_drawn_73 : decode cX8_drawn 73 = .ok (.if_icmp .eq 9, 3) := by decide +kernel
theorem dX8_drawn_76 : decode cX8_drawn 76 = .ok (.iload 5, 2) := by decide +kernel
theorem dX8_drawn_78 : decode cX8_drawn 78 = .ok (.iload_n 3, 1) := by decide +kernel
theorem dX8_drawn_79 : decode cX8_drawn 79 = .ok (.if_icmp .ge 8, 3) := by decide +kernel
theorem dX8_drawn_82 : decode cX8_drawn 82 = .ok (.iload 5, 2) := by decide +kernel
theorem dX8_drawn_84 : decode cX8_drawn 84 = .ok (.goto 4, 3) := by decide +kernel
theorem dX8_drawn_87 : decode cX8_drawn 87 = .ok (.iload_n 3, 1) := by decide +kernel
theorem dX8_drawn_88 : decode cX8_drawn 88 = .ok (.istore_n 3, 1) := by decide +kernel
theorem dX8_drawn_89 : decode cX8_drawn 89 = .ok (.iinc 4 1, 3) := by decide +kernel
theorem dX8_drawn_92 : decode cX8_drawn 92 = .ok (.goto (-43), 3) := by decide +kernel
theorem dX8_drawn_95 : decode cX8_drawn 95 = .ok (.iload_n 3, 1) := by decide +kernel
theorem dX8_drawn_96 : decode cX8_drawn 96 = .ok (.ireturn, 1) := by decide +kernel
set_option maxRecDepth 20000 in
theorem ggX8_leastDue_X8_isTask : GoodIn wsX8_leastDue wsX8_isTask := goodIn_r _ [7, 8, 70, 71, 72, 73, 74, 75, 76, 77, 78, 79, 80, 81, 82, 83, 84, 85, 86, 87, 88, 89, 90, 91, 92, 93, 94, 95, 96, 97, 98, 99] (by decide +kernel) (by decide +kernel)
set_option maxRecDepth 20000 in
theorem gX8_leastDue_X8_isTask : GoodIn wsX8_leastDue (wsV RX8 98 RX8 yX8_isTask wsX8_isTask) := goodIn_app (goodIn_of _ (by decide +kernel)) ggX8_leastDue_X8_isTask
set_option maxRecDepth 20000 in
theorem ggX8_leastDue_X8_reason : GoodIn wsX8_leastDue wsX8_reason := goodIn_r _ [12, 8, 13, 14, 15, 2, 16, 17, 18, 19, 20, 21, 6, 22, 23, 24, 25, 26, 27, 28, 29, 30, 31, 32, 33, 34, 35, 36, 37, 38, 39, 40, 41, 42, 43, 44, 45, 46, 47, 48, 49, 50, 51, 52, 53, 54, 55, 56, 57, 58, 59, 60, 61, 62, 63, 64, 65, 66, 67, 68, 69, 70, 71, 72, 73, 74, 75, 76, 77, 78, 79, 80, 81, 82, 83, 84, 85, 86, 87, 88, 89, 90, 91, 92, 93, 94, 95, 96, 97, 98, 99] (by decide +kernel) (by decide +kernel)
set_option maxRecDepth 20000 in
theorem gX8_leastDue_X8_reason : GoodIn wsX8_leastDue (wsV RX8 173 RX8 yX8_reason wsX8_reason) := goodIn_app (goodIn_of _ (by decide +kernel)) ggX8_leastDue_X8_reason
theorem dX8_leastDue_0 : decode cX8_leastDue 0 = .ok (.aload_n 0, 1) := by decide +kernel
theorem dX8_leastDue_1 : decode cX8_leastDue 1 = .ok (.aload_n 0, 1) := by decide +kernel
theorem dX8_leastDue_2 : decode cX8_leastDue 2 = .ok (.iload_n 1, 1) := by decide +kernel
theorem dX8_leastDue_3 : decode cX8_leastDue 3 = .ok (.invokevirtual 98, 3) := by decide +kernel
theorem dX8_leastDue_6 : decode cX8_leastDue 6 = .ok (.ifCond .eq 7, 3) := by decide +kernel
theorem dX8_leastDue_9 : decode cX8_leastDue 9 = .ok (.iconst 0, 1) := by decide +kernel
theorem dX8_leastDue_10 : decode cX8_leastDue 10 = .ok (.goto 4, 3) := by decide +kernel
theorem dX8_leastDue_13 : decode cX8_leastDue 13 = .ok (.iconst 1, 1) := by decide +kernel
theorem dX8_leastDue_14 : decode cX8_leastDue 14 = .ok (.putfield 75, 3) := by decide +kernel
theorem dX8_leastDue_17 : decode cX8_leastDue 17 = .ok (.aload_n 0, 1) := by decide +kernel
theorem dX8_leastDue_18 : decode cX8_leastDue 18 = .ok (.getfield 75, 3) := by decide +kernel
theorem dX8_leastDue_21 : decode cX8_leastDue 21 = .ok (.ifCond .le 5, 3) := by decide +kernel
theorem dX8_leastDue_24 : decode cX8_leastDue 24 = .ok (.iconst 0, 1) := by decide +kernel
theorem dX8_leastDue_25 : decode cX8_leastDue 25 = .ok (.ireturn, 1) := by decide +kernel
theorem dX8_leastDue_26 : decode cX8_leastDue 26 = .ok (.aload_n 0, 1) := by decide +kernel
theorem dX8_leastDue_27 : decode cX8_leastDue 27 = .ok (.getfield 20, 3) := by decide +kernel
theorem dX8_leastDue_30 : decode cX8_leastDue 30 = .ok (.iload_n 1, 1) := by decide +kernel
theorem dX8_leastDue_31 : decode cX8_leastDue 31 = .ok (.iaload, 1) := by decide +kernel
theorem dX8_leastDue_32 : decode cX8_leastDue 32 = .ok (.istore_n 2, 1) := by decide +kernel
theorem dX8_leastDue_33 : decode cX8_leastDue 33 = .ok (.iconst (-1), 1) := by decide +kernel
theorem dX8_leastDue_34 : decode cX8_leastDue 34 = .ok (.istore_n 3, 1) := by decide +kernel
theorem dX8_leastDue_35 : decode cX8_leastDue 35 = .ok (.iconst 1, 1) := by decide +kernel
theorem dX8_leastDue_36 : decode cX8_leastDue 36 = .ok (.istore 4, 2) := by decide +kernel
theorem dX8_leastDue_38 : decode cX8_leastDue 38 = .ok (.iload 4, 2) := by decide +kernel
theorem dX8_leastDue_40 : decode cX8_leastDue 40 = .ok (.sipush 400, 3) := by decide +kernel
theorem dX8_leastDue_43 : decode cX8_leastDue 43 = .ok (.if_icmp .gt 36, 3) := by decide +kernel
theorem dX8_leastDue_46 : decode cX8_leastDue 46 = .ok (.iload_n 3, 1) := by decide +kernel
theorem dX8_leastDue_47 : decode cX8_leastDue 47 = .ok (.iconst (-1), 1) := by decide +kernel
theorem dX8_leastDue_48 : decode cX8_leastDue 48 = .ok (.if_icmp .ne 31, 3) := by decide +kernel
theorem dX8_leastDue_51 : decode cX8_leastDue 51 = .ok (.aload_n 0, 1) := by decide +kernel
theorem dX8_leastDue_52 : decode cX8_leastDue 52 = .ok (.getfield 20, 3) := by decide +kernel
theorem dX8_leastDue_55 : decode cX8_leastDue 55 = .ok (.iload_n 1, 1) := by decide +kernel
theorem dX8_leastDue_56 : decode cX8_leastDue 56 = .ok (.iload 4, 2) := by decide +kernel
theorem dX8_leastDue_58 : decode cX8_leastDue 58 = .ok (.iastore, 1) := by decide +kernel
theorem dX8_leastDue_59 : decode cX8_leastDue 59 = .ok (.aload_n 0, 1) := by decide +kernel
theorem dX8_leastDue_60 : decode cX8_leastDue 60 = .ok (.invokevirtual 173, 3) := by decide +kernel
theorem dX8_leastDue_63 : decode cX8_leastDue 63 = .ok (.ifCond .eq 8, 3) := by decide +kernel
theorem dX8_leastDue_66 : decode cX8_leastDue 66 = .ok (.iload 4, 2) := by decide +kernel
theorem dX8_leastDue_68 : decode cX8_leastDue 68 = .ok (.goto 4, 3) := by decide +kernel
theorem dX8_leastDue_71 : decode cX8_leastDue 71 = .ok (.iconst (-1), 1) := by decide +kernel
theorem dX8_leastDue_72 : decode cX8_leastDue 72 = .ok (.istore_n 3, 1) := by decide +kernel
theorem dX8_leastDue_73 : decode cX8_leastDue 73 = .ok (.iinc 4 1, 3) := by decide +kernel
theorem dX8_leastDue_76 : decode cX8_leastDue 76 = .ok (.goto (-38), 3) := by decide +kernel
theorem dX8_leastDue_79 : decode cX8_leastDue 79 = .ok (.aload_n 0, 1) := by decide +kernel
theorem dX8_leastDue_80 : decode cX8_leastDue 80 = .ok (.getfield 20, 3) := by decide +kernel
theorem dX8_leastDue_83 : decode cX8_leastDue 83 = .ok (.iload_n 1, 1) := by decide +kernel
theorem dX8_leastDue_84 : decode cX8_leastDue 84 = .ok (.iload_n 2, 1) := by decide +kernel
theorem dX8_leastDue_85 : decode cX8_leastDue 85 = .ok (.iastore, 1) := by decide +kernel
theorem dX8_leastDue_86 : decode cX8_leastDue 86 = .ok (.iload_n 3, 1) := by decide +kernel
theorem dX8_leastDue_87 : decode cX8_leastDue 87 = .ok (.ireturn, 1) := by decide +kernel
set_option maxRecDepth 20000 in
theorem ggX8_lowerBound_X8_reason : GoodIn wsX8_lowerBound wsX8_reason := goodIn_r _ [9, 2, 10, 11, 12, 4, 13, 14, 15, 16, 17, 18, 8, 19, 20, 21, 22, 23, 24, 25, 26, 27, 28, 29, 30, 31, 32, 33, 34, 35, 36, 37, 38, 39, 40, 41, 42, 43, 44, 45, 46, 47, 48, 49, 50, 51, 52, 53, 54, 55, 56, 57, 58, 59, 60, 61, 62, 63, 64, 65, 66, 67, 68, 69, 70, 71, 72, 73, 74, 75, 76, 77, 78, 79, 80, 81, 82, 83, 84, 85, 86, 87, 88, 89, 90, 91, 92, 93, 94, 95, 96] (by decide +kernel) (by decide +kernel)
set_option maxRecDepth 20000 in
theorem gX8_lowerBound_X8_reason : GoodIn wsX8_lowerBound (wsV RX8 173 RX8 yX8_reason wsX8_reason) := goodIn_app (goodIn_of _ (by decide +kernel)) ggX8_lowerBound_X8_reason
theorem dX8_lowerBound_0 : decode cX8_lowerBound 0 = .ok (.aload_n 0, 1) := by decide +kernel
theorem dX8_lowerBound_1 : decode cX8_lowerBound 1 = .ok (.iconst 0, 1) := by decide +kernel
theorem dX8_lowerBound_2 : decode cX8_lowerBound 2 = .ok (.putfield 75, 3) := by decide +kernel
theorem dX8_lowerBound_5 : decode cX8_lowerBound 5 = .ok (.iconst 0, 1) := by decide +kernel
theorem dX8_lowerBound_6 : decode cX8_lowerBound 6 = .ok (.istore_n 1, 1) := by decide +kernel
theorem dX8_lowerBound_7 : decode cX8_lowerBound 7 = .ok (.iload_n 1, 1) := by decide +kernel
theorem dX8_lowerBound_8 : decode cX8_lowerBound 8 = .ok (.aload_n 0, 1) := by decide +kernel
theorem dX8_lowerBound_9 : decode cX8_lowerBound 9 = .ok (.getfield 78, 3) := by decide +kernel
theorem dX8_lowerBound_12 : decode cX8_lowerBound 12 = .ok (.if_icmp .ge 21, 3) := by decide +kernel
theorem dX8_lowerBound_15 : decode cX8_lowerBound 15 = .ok (.aload_n 0, 1) := by decide +kernel
theorem dX8_lowerBound_16 : decode cX8_lowerBound 16 = .ok (.getfield 69, 3) := by decide +kernel
theorem dX8_lowerBound_19 : decode cX8_lowerBound 19 = .ok (.iload_n 1, 1) := by decide +kernel
theorem dX8_lowerBound_20 : decode cX8_lowerBound 20 = .ok (.aload_n 0, 1) := by decide +kernel
theorem dX8_lowerBound_21 : decode cX8_lowerBound 21 = .ok (.getfield 20, 3) := by decide +kernel
theorem dX8_lowerBound_24 : decode cX8_lowerBound 24 = .ok (.iload_n 1, 1) := by decide +kernel
theorem dX8_lowerBound_25 : decode cX8_lowerBound 25 = .ok (.iaload, 1) := by decide +kernel
theorem dX8_lowerBound_26 : decode cX8_lowerBound 26 = .ok (.iastore, 1) := by decide +kernel
theorem dX8_lowerBound_27 : decode cX8_lowerBound 27 = .ok (.iinc 1 1, 3) := by decide +kernel
theorem dX8_lowerBound_30 : decode cX8_lowerBound 30 = .ok (.goto (-23), 3) := by decide +kernel
theorem dX8_lowerBound_33 : decode cX8_lowerBound 33 = .ok (.iconst (-1), 1) := by decide +kernel
theorem dX8_lowerBound_34 : decode cX8_lowerBound 34 = .ok (.istore_n 1, 1) := by decide +kernel
theorem dX8_lowerBound_35 : decode cX8_lowerBound 35 = .ok (.iconst 0, 1) := by decide +kernel
theorem dX8_lowerBound_36 : decode cX8_lowerBound 36 = .ok (.istore_n 2, 1) := by decide +kernel
theorem dX8_lowerBound_37 : decode cX8_lowerBound 37 = .ok (.iload_n 2, 1) := by decide +kernel
theorem dX8_lowerBound_38 : decode cX8_lowerBound 38 = .ok (.sipush 400, 3) := by decide +kernel
theorem dX8_lowerBound_41 : decode cX8_lowerBound 41 = .ok (.if_icmp .gt 69, 3) := by decide +kernel
theorem dX8_lowerBound_44 : decode cX8_lowerBound 44 = .ok (.iload_n 1, 1) := by decide +kernel
theorem dX8_lowerBound_45 : decode cX8_lowerBound 45 = .ok (.iconst (-1), 1) := by decide +kernel
theorem dX8_lowerBound_46 : decode cX8_lowerBound 46 = .ok (.if_icmp .ne 64, 3) := by decide +kernel
theorem dX8_lowerBound_49 : decode cX8_lowerBound 49 = .ok (.iconst 0, 1) := by decide +kernel
theorem dX8_lowerBound_50 : decode cX8_lowerBound 50 = .ok (.istore_n 3, 1) := by decide +kernel
theorem dX8_lowerBound_51 : decode cX8_lowerBound 51 = .ok (.iload_n 3, 1) := by decide +kernel
theorem dX8_lowerBound_52 : decode cX8_lowerBound 52 = .ok (.aload_n 0, 1) := by decide +kernel
theorem dX8_lowerBound_53 : decode cX8_lowerBound 53 = .ok (.getfield 78, 3) := by decide +kernel
theorem dX8_lowerBound_56 : decode cX8_lowerBound 56 = .ok (.if_icmp .ge 35, 3) := by decide +kernel
theorem dX8_lowerBound_59 : decode cX8_lowerBound 59 = .ok (.aload_n 0, 1) := by decide +kernel
theorem dX8_lowerBound_60 : decode cX8_lowerBound 60 = .ok (.getfield 20, 3) := by decide +kernel
theorem dX8_lowerBound_63 : decode cX8_lowerBound 63 = .ok (.iload_n 3, 1) := by decide +kernel
theorem dX8_lowerBound_64 : decode cX8_lowerBound 64 = .ok (.aload_n 0, 1) := by decide +kernel
theorem dX8_lowerBound_65 : decode cX8_lowerBound 65 = .ok (.getfield 69, 3) := by decide +kernel
theorem dX8_lowerBound_68 : decode cX8_lowerBound 68 = .ok (.iload_n 3, 1) := by decide +kernel
theorem dX8_lowerBound_69 : decode cX8_lowerBound 69 = .ok (.iaload, 1) := by decide +kernel
theorem dX8_lowerBound_70 : decode cX8_lowerBound 70 = .ok (.iload_n 2, 1) := by decide +kernel
theorem dX8_lowerBound_71 : decode cX8_lowerBound 71 = .ok (.if_icmp .le 7, 3) := by decide +kernel
theorem dX8_lowerBound_74 : decode cX8_lowerBound 74 = .ok (.iload_n 2, 1) := by decide +kernel
theorem dX8_lowerBound_75 : decode cX8_lowerBound 75 = .ok (.goto 9, 3) := by decide +kernel
theorem dX8_lowerBound_78 : decode cX8_lowerBound 78 = .ok (.aload_n 0, 1) := by decide +kernel
theorem dX8_lowerBound_79 : decode cX8_lowerBound 79 = .ok (.getfield 69, 3) := by decide +kernel
theorem dX8_lowerBound_82 : decode cX8_lowerBound 82 = .ok (.iload_n 3, 1) := by decide +kernel
theorem dX8_lowerBound_83 : decode cX8_lowerBound 83 = .ok (.iaload, 1) := by decide +kernel
theorem dX8_lowerBound_84 : decode cX8_lowerBound 84 = .ok (.iastore, 1) := by decide +kernel
theorem dX8_lowerBound_85 : decode cX8_lowerBound 85 = .ok (.iinc 3 1, 3) := by decide +kernel
theorem dX8_lowerBound_88 : decode cX8_lowerBound 88 = .ok (.goto (-37), 3) := by decide +kernel
theorem dX8_lowerBound_91 : decode cX8_lowerBound 91 = .ok (.aload_n 0, 1) := by decide +kernel
theorem dX8_lowerBound_92 : decode cX8_lowerBound 92 = .ok (.invokevirtual 173, 3) := by decide +kernel
theorem dX8_lowerBound_95 : decode cX8_lowerBound 95 = .ok (.ifCond .eq 7, 3) := by decide +kernel
theorem dX8_lowerBound_98 : decode cX8_lowerBound 98 = .ok (.iload_n 2, 1) := by decide +kernel
theorem dX8_lowerBound_99 : decode cX8_lowerBound 99 = .ok (.goto 4, 3) := by decide +kernel
theorem dX8_lowerBound_102 : decode cX8_lowerBound 102 = .ok (.iconst (-1), 1) := by decide +kernel
theorem dX8_lowerBound_103 : decode cX8_lowerBound 103 = .ok (.istore_n 1, 1) := by decide +kernel
theorem dX8_lowerBound_104 : decode cX8_lowerBound 104 = .ok (.iinc 2 1, 3) := by decide +kernel
theorem dX8_lowerBound_107 : decode cX8_lowerBound 107 = .ok (.goto (-70), 3) := by decide +kernel
theorem dX8_lowerBound_110 : decode cX8_lowerBound 110 = .ok (.iconst 0, 1) := by decide +kernel
theorem dX8_lowerBound_111 : decode cX8_lowerBound 111 = .ok (.istore_n 2, 1) := by decide +kernel
theorem dX8_lowerBound_112 : decode cX8_lowerBound 112 = .ok (.iload_n 2, 1) := by decide +kernel
theorem dX8_lowerBound_113 : decode cX8_lowerBound 113 = .ok (.aload_n 0, 1) := by decide +kernel
theorem dX8_lowerBound_114 : decode cX8_lowerBound 114 = .ok (.getfield 78, 3) := by decide +kernel
theorem dX8_lowerBound_117 : decode cX8_lowerBound 117 = .ok (.if_icmp .ge 21, 3) := by decide +kernel
theorem dX8_lowerBound_120 : decode cX8_lowerBound 120 = .ok (.aload_n 0, 1) := by decide +kernel
theorem dX8_lowerBound_121 : decode cX8_lowerBound 121 = .ok (.getfield 20, 3) := by decide +kernel
theorem dX8_lowerBound_124 : decode cX8_lowerBound 124 = .ok (.iload_n 2, 1) := by decide +kernel
theorem dX8_lowerBound_125 : decode cX8_lowerBound 125 = .ok (.aload_n 0, 1) := by decide +kernel
theorem dX8_lowerBound_126 : decode cX8_lowerBound 126 = .ok (.getfield 69, 3) := by decide +kernel
theorem dX8_lowerBound_129 : decode cX8_lowerBound 129 = .ok (.iload_n 2, 1) := by decide +kernel
theorem dX8_lowerBound_130 : decode cX8_lowerBound 130 = .ok (.iaload, 1) := by decide +kernel
theorem dX8_lowerBound_131 : decode cX8_lowerBound 131 = .ok (.iastore, 1) := by decide +kernel
theorem dX8_lowerBound_132 : decode cX8_lowerBound 132 = .ok (.iinc 2 1, 3) := by decide +kernel
theorem dX8_lowerBound_135 : decode cX8_lowerBound 135 = .ok (.goto (-23), 3) := by decide +kernel
theorem dX8_lowerBound_138 : decode cX8_lowerBound 138 = .ok (.iload_n 1, 1) := by decide +kernel
theorem dX8_lowerBound_139 : decode cX8_lowerBound 139 = .ok (.ireturn, 1) := by decide +kernel
set_option maxRecDepth 20000 in
theorem ggX8_refutes_X8_isTask : GoodIn wsX8_refutes wsX8_isTask := goodIn_r _ [7, 8, 70, 71, 72, 73, 74, 75, 76, 77, 78, 79, 80, 81, 82, 83, 84, 85, 86, 87, 88, 89, 90, 91, 92, 93, 94, 95, 96, 97, 98, 99] (by decide +kernel) (by decide +kernel)
set_option maxRecDepth 20000 in
theorem gX8_refutes_X8_isTask : GoodIn wsX8_refutes (wsV RX8 98 RX8 yX8_isTask wsX8_isTask) := goodIn_app (goodIn_of _ (by decide +kernel)) ggX8_refutes_X8_isTask
set_option maxRecDepth 20000 in
theorem ggX8_refutes_X8_reason : GoodIn wsX8_refutes wsX8_reason := goodIn_r _ [12, 8, 13, 14, 15, 16, 17, 2, 18, 19, 20, 21, 6, 22, 23, 24, 25, 26, 27, 28, 29, 30, 31, 32, 33, 34, 35, 36, 37, 38, 39, 40, 41, 42, 43, 44, 45, 46, 47, 48, 49, 50, 51, 52, 53, 54, 55, 56, 57, 58, 59, 60, 61, 62, 63, 64, 65, 66, 67, 68, 69, 70, 71, 72, 73, 74, 75, 76, 77, 78, 79, 80, 81, 82, 83, 84, 85, 86, 87, 88, 89, 90, 91, 92, 93, 94, 95, 96, 97, 98, 99] (by decide +kernel) (by decide +kernel)
set_option maxRecDepth 20000 in
theorem gX8_refutes_X8_reason : GoodIn wsX8_refutes (wsV RX8 173 RX8 yX8_reason wsX8_reason) := goodIn_app (goodIn_of _ (by decide +kernel)) ggX8_refutes_X8_reason
theorem dX8_refutes_0 : decode cX8_refutes 0 = .ok (.aload_n 0, 1) := by decide +kernel
theorem dX8_refutes_1 : decode cX8_refutes 1 = .ok (.aload_n 0, 1) := by decide +kernel
theorem dX8_refutes_2 : decode cX8_refutes 2 = .ok (.iload_n 1, 1) := by decide +kernel
theorem dX8_refutes_3 : decode cX8_refutes 3 = .ok (.invokevirtual 98, 3) := by decide +kernel
theorem dX8_refutes_6 : decode cX8_refutes 6 = .ok (.ifCond .eq 15, 3) := by decide +kernel
theorem dX8_refutes_9 : decode cX8_refutes 9 = .ok (.aload_n 0, 1) := by decide +kernel
theorem dX8_refutes_10 : decode cX8_refutes 10 = .ok (.iload_n 2, 1) := by decide +kernel
theorem dX8_refutes_11 : decode cX8_refutes 11 = .ok (.invokevirtual 98, 3) := by decide +kernel
theorem dX8_refutes_14 : decode cX8_refutes 14 = .ok (.ifCond .eq 7, 3) := by decide +kernel
theorem dX8_refutes_17 : decode cX8_refutes 17 = .ok (.iconst 0, 1) := by decide +kernel
theorem dX8_refutes_18 : decode cX8_refutes 18 = .ok (.goto 4, 3) := by decide +kernel
theorem dX8_refutes_21 : decode cX8_refutes 21 = .ok (.iconst 1, 1) := by decide +kernel
theorem dX8_refutes_22 : decode cX8_refutes 22 = .ok (.putfield 75, 3) := by decide +kernel
theorem dX8_refutes_25 : decode cX8_refutes 25 = .ok (.aload_n 0, 1) := by decide +kernel
theorem dX8_refutes_26 : decode cX8_refutes 26 = .ok (.getfield 75, 3) := by decide +kernel
theorem dX8_refutes_29 : decode cX8_refutes 29 = .ok (.ifCond .le 5, 3) := by decide +kernel
theorem dX8_refutes_32 : decode cX8_refutes 32 = .ok (.iconst 0, 1) := by decide +kernel
theorem dX8_refutes_33 : decode cX8_refutes 33 = .ok (.ireturn, 1) := by decide +kernel
theorem dX8_refutes_34 : decode cX8_refutes 34 = .ok (.iload_n 1, 1) := by decide +kernel
theorem dX8_refutes_35 : decode cX8_refutes 35 = .ok (.iload_n 2, 1) := by decide +kernel
theorem dX8_refutes_36 : decode cX8_refutes 36 = .ok (.if_icmp .ne 5, 3) := by decide +kernel
theorem dX8_refutes_39 : decode cX8_refutes 39 = .ok (.iconst 1, 1) := by decide +kernel
theorem dX8_refutes_40 : decode cX8_refutes 40 = .ok (.ireturn, 1) := by decide +kernel
theorem dX8_refutes_41 : decode cX8_refutes 41 = .ok (.aload_n 0, 1) := by decide +kernel
theorem dX8_refutes_42 : decode cX8_refutes 42 = .ok (.getfield 26, 3) := by decide +kernel
theorem dX8_refutes_45 : decode cX8_refutes 45 = .ok (.iload_n 1, 1) := by decide +kernel
theorem dX8_refutes_46 : decode cX8_refutes 46 = .ok (.iaload, 1) := by decide +kernel
theorem dX8_refutes_47 : decode cX8_refutes 47 = .ok (.istore_n 3, 1) := by decide +kernel
theorem dX8_refutes_48 : decode cX8_refutes 48 = .ok (.aload_n 0, 1) := by decide +kernel
theorem dX8_refutes_49 : decode cX8_refutes 49 = .ok (.getfield 26, 3) := by decide +kernel
theorem dX8_refutes_52 : decode cX8_refutes 52 = .ok (.iload_n 1, 1) := by decide +kernel
theorem dX8_refutes_53 : decode cX8_refutes 53 = .ok (.dup2, 1) := by decide +kernel
theorem dX8_refutes_54 : decode cX8_refutes 54 = .ok (.iaload, 1) := by decide +kernel
theorem dX8_refutes_55 : decode cX8_refutes 55 = .ok (.iconst 1, 1) := by decide +kernel
theorem dX8_refutes_56 : decode cX8_refutes 56 = .ok (.iload_n 2, 1) := by decide +kernel
theorem dX8_refutes_57 : decode cX8_refutes 57 = .ok (.ishl, 1) := by decide +kernel
theorem dX8_refutes_58 : decode cX8_refutes 58 = .ok (.ior, 1) := by decide +kernel
theorem dX8_refutes_59 : decode cX8_refutes 59 = .ok (.iastore, 1) := by decide +kernel
theorem dX8_refutes_60 : decode cX8_refutes 60 = .ok (.aload_n 0, 1) := by decide +kernel
theorem dX8_refutes_61 : decode cX8_refutes 61 = .ok (.invokevirtual 173, 3) := by decide +kernel
theorem dX8_refutes_64 : decode cX8_refutes 64 = .ok (.ifCond .ne 7, 3) := by decide +kernel
theorem dX8_refutes_67 : decode cX8_refutes 67 = .ok (.iconst 1, 1) := by decide +kernel
theorem dX8_refutes_68 : decode cX8_refutes 68 = .ok (.goto 4, 3) := by decide +kernel
theorem dX8_refutes_71 : decode cX8_refutes 71 = .ok (.iconst 0, 1) := by decide +kernel
theorem dX8_refutes_72 : decode cX8_refutes 72 = .ok (.istore 4, 2) := by decide +kernel
theorem dX8_refutes_74 : decode cX8_refutes 74 = .ok (.aload_n 0, 1) := by decide +kernel
theorem dX8_refutes_75 : decode cX8_refutes 75 = .ok (.getfield 26, 3) := by decide +kernel
theorem dX8_refutes_78 : decode cX8_refutes 78 = .ok (.iload_n 1, 1) := by decide +kernel
theorem dX8_refutes_79 : decode cX8_refutes 79 = .ok (.iload_n 3, 1) := by decide +kernel
theorem dX8_refutes_80 : decode cX8_refutes 80 = .ok (.iastore, 1) := by decide +kernel
theorem dX8_refutes_81 : decode cX8_refutes 81 = .ok (.iload 4, 2) := by decide +kernel
theorem dX8_refutes_83 : decode cX8_refutes 83 = .ok (.ireturn, 1) := by decide +kernel
set_option maxRecDepth 20000 in
theorem ggX8_append_X8_in : GoodIn wsX8_append wsX8_in := goodIn_r _ [7] (by decide +kernel) (by decide +kernel)
set_option maxRecDepth 20000 in
theorem gX8_append_X8_in : GoodIn wsX8_append (va_wsS RX8 84 yX8_in wsX8_in) := goodIn_app (goodIn_of _ (by decide +kernel)) ggX8_append_X8_in
theorem dX8_append_0 : decode cX8_append 0 = .ok (.aload_n 0, 1) := by decide +kernel
theorem dX8_append_1 : decode cX8_append 1 = .ok (.iload_n 1, 1) := by decide +kernel
theorem dX8_append_2 : decode cX8_append 2 = .ok (.iconst 0, 1) := by decide +kernel
theorem dX8_append_3 : decode cX8_append 3 = .ok (.bipush 127, 2) := by decide +kernel
theorem dX8_append_5 : decode cX8_append 5 = .ok (.invokestatic 84, 3) := by decide +kernel
theorem dX8_append_8 : decode cX8_append 8 = .ok (.ifCond .ne 7, 3) := by decide +kernel
theorem dX8_append_11 : decode cX8_append 11 = .ok (.iconst 1, 1) := by decide +kernel
theorem dX8_append_12 : decode cX8_append 12 = .ok (.goto 17, 3) := by decide +kernel
theorem dX8_append_15 : decode cX8_append 15 = .ok (.aload_n 0, 1) := by decide +kernel
theorem dX8_append_16 : decode cX8_append 16 = .ok (.getfield 220, 3) := by decide +kernel
theorem dX8_append_19 : decode cX8_append 19 = .ok (.bipush 100, 2) := by decide +kernel
theorem dX8_append_21 : decode cX8_append 21 = .ok (.if_icmp .ne 7, 3) := by decide +kernel
theorem dX8_append_24 : decode cX8_append 24 = .ok (.iconst 2, 1) := by decide +kernel
theorem dX8_append_25 : decode cX8_append 25 = .ok (.goto 4, 3) := by decide +kernel
theorem dX8_append_28 : decode cX8_append 28 = .ok (.iconst 0, 1) := by decide +kernel
theorem dX8_append_29 : decode cX8_append 29 = .ok (.putfield 75, 3) := by decide +kernel
theorem dX8_append_32 : decode cX8_append 32 = .ok (.aload_n 0, 1) := by decide +kernel
theorem dX8_append_33 : decode cX8_append 33 = .ok (.getfield 75, 3) := by decide +kernel
theorem dX8_append_36 : decode cX8_append 36 = .ok (.ifCond .le 5, 3) := by decide +kernel
theorem dX8_append_39 : decode cX8_append 39 = .ok (.iconst 0, 1) := by decide +kernel
theorem dX8_append_40 : decode cX8_append 40 = .ok (.ireturn, 1) := by decide +kernel
theorem dX8_append_41 : decode cX8_append 41 = .ok (.aload_n 0, 1) := by decide +kernel
theorem dX8_append_42 : decode cX8_append 42 = .ok (.getfield 32, 3) := by decide +kernel
theorem dX8_append_45 : decode cX8_append 45 = .ok (.aload_n 0, 1) := by decide +kernel
theorem dX8_append_46 : decode cX8_append 46 = .ok (.getfield 220, 3) := by decide +kernel
theorem dX8_append_49 : decode cX8_append 49 = .ok (.iload_n 1, 1) := by decide +kernel
theorem dX8_append_50 : decode cX8_append 50 = .ok (.iastore, 1) := by decide +kernel
theorem dX8_append_51 : decode cX8_append 51 = .ok (.aload_n 0, 1) := by decide +kernel
theorem dX8_append_52 : decode cX8_append 52 = .ok (.dup, 1) := by decide +kernel
theorem dX8_append_53 : decode cX8_append 53 = .ok (.getfield 220, 3) := by decide +kernel
theorem dX8_append_56 : decode cX8_append 56 = .ok (.iconst 1, 1) := by decide +kernel
theorem dX8_append_57 : decode cX8_append 57 = .ok (.iadd, 1) := by decide +kernel
theorem dX8_append_58 : decode cX8_append 58 = .ok (.putfield 220, 3) := by decide +kernel
theorem dX8_append_61 : decode cX8_append 61 = .ok (.aload_n 0, 1) := by decide +kernel
theorem dX8_append_62 : decode cX8_append 62 = .ok (.getfield 220, 3) := by decide +kernel
theorem dX8_append_65 : decode cX8_append 65 = .ok (.ireturn, 1) := by decide +kernel
theorem dX8_clearText_0 : decode cX8_clearText 0 = .ok (.aload_n 0, 1) := by decide +kernel
theorem dX8_clearText_1 : decode cX8_clearText 1 = .ok (.iconst 0, 1) := by decide +kernel
theorem dX8_clearText_2 : decode cX8_clearText 2 = .ok (.putfield 75, 3) := by decide +kernel
theorem dX8_clearText_5 : decode cX8_clearText 5 = .ok (.aload_n 0, 1) := by decide +kernel
theorem dX8_clearText_6 : decode cX8_clearText 6 = .ok (.getfield 220, 3) := by decide +kernel
theorem dX8_clearText_9 : decode cX8_clearText 9 = .ok (.istore_n 1, 1) := by decide +kernel
theorem dX8_clearText_10 : decode cX8_clearText 10 = .ok (.aload_n 0, 1) := by decide +kernel
theorem dX8_clearText_11 : decode cX8_clearText 11 = .ok (.iconst 0, 1) := by decide +kernel
theorem dX8_clearText_12 : decode cX8_clearText 12 = .ok (.putfield 220, 3) := by decide +kernel
theorem dX8_clearText_15 : decode cX8_clearText 15 = .ok (.iload_n 1, 1) := by decide +kernel
theorem dX8_clearText_16 : decode cX8_clearText 16 = .ok (.ireturn, 1) := by decide +kernel
theorem dX8_byteAt_0 : decode cX8_byteAt 0 = .ok (.iload_n 1, 1) := by decide +kernel
theorem dX8_byteAt_1 : decode cX8_byteAt 1 = .ok (.aload_n 0, 1) := by decide +kernel
theorem dX8_byteAt_2 : decode cX8_byteAt 2 = .ok (.getfield 220, 3) := by decide +kernel
theorem dX8_byteAt_5 : decode cX8_byteAt 5 = .ok (.if_icmp .ge 12, 3) := by decide +kernel
theorem dX8_byteAt_8 : decode cX8_byteAt 8 = .ok (.aload_n 0, 1) := by decide +kernel
theorem dX8_byteAt_9 : decode cX8_byteAt 9 = .ok (.getfield 32, 3) := by decide +kernel
theorem dX8_byteAt_12 : decode cX8_byteAt 12 = .ok (.iload_n 1, 1) := by decide +kernel
theorem dX8_byteAt_13 : decode cX8_byteAt 13 = .ok (.iaload, 1) := by decide +kernel
theorem dX8_byteAt_14 : decode cX8_byteAt 14 = .ok (.goto 4, 3) := by decide +kernel
theorem dX8_byteAt_17 : decode cX8_byteAt 17 = .ok (.iconst (-1), 1) := by decide +kernel
theorem dX8_byteAt_18 : decode cX8_byteAt 18 = .ok (.ireturn, 1) := by decide +kernel
theorem dX8_fail_0 : decode cX8_fail 0 = .ok (.aload_n 0, 1) := by decide +kernel
theorem dX8_fail_1 : decode cX8_fail 1 = .ok (.aload_n 0, 1) := by decide +kernel
theorem dX8_fail_2 : decode cX8_fail 2 = .ok (.getfield 223, 3) := by decide +kernel
theorem dX8_fail_5 : decode cX8_fail 5 = .ok (.iconst (-1), 1) := by decide +kernel
theorem dX8_fail_6 : decode cX8_fail 6 = .ok (.if_icmp .ne 7, 3) := by decide +kernel
theorem dX8_fail_9 : decode cX8_fail 9 = .ok (.iload_n 1, 1) := by decide +kernel
theorem dX8_fail_10 : decode cX8_fail 10 = .ok (.goto 7, 3) := by decide +kernel
theorem dX8_fail_13 : decode cX8_fail 13 = .ok (.aload_n 0, 1) := by decide +kernel
theorem dX8_fail_14 : decode cX8_fail 14 = .ok (.getfield 223, 3) := by decide +kernel
theorem dX8_fail_17 : decode cX8_fail 17 = .ok (.putfield 223, 3) := by decide +kernel
theorem dX8_fail_20 : decode cX8_fail 20 = .ok (.return_, 1) := by decide +kernel
set_option maxRecDepth 20000 in
theorem ggX8_takeByte_X8_byteAt : GoodIn wsX8_takeByte wsX8_byteAt := goodIn_r _ [7, 8, 9, 14, 15, 16, 17, 18, 19, 20, 21, 22, 23, 24, 25, 26, 27, 28, 29, 30, 31, 32, 33, 34, 35, 36, 37, 38, 39, 40, 41, 42, 43] (by decide +kernel) (by decide +kernel)
set_option maxRecDepth 20000 in
theorem gX8_takeByte_X8_byteAt : GoodIn wsX8_takeByte (wsV RX8 229 RX8 yX8_byteAt wsX8_byteAt) := goodIn_app (goodIn_of _ (by decide +kernel)) ggX8_takeByte_X8_byteAt
set_option maxRecDepth 20000 in
theorem ggX8_takeByte_X8_fail : GoodIn wsX8_takeByte wsX8_fail := goodIn_r _ [13, 1, 14, 15, 16, 17, 18, 19, 20, 21, 22, 23, 24, 25, 26, 27, 28, 29, 30, 31, 32, 33, 34, 35, 36, 37, 38, 39, 40, 41, 42, 43] (by decide +kernel) (by decide +kernel)
set_option maxRecDepth 20000 in
theorem gX8_takeByte_X8_fail : GoodIn wsX8_takeByte (wsV RX8 232 RX8 yX8_fail wsX8_fail) := goodIn_app (goodIn_of _ (by decide +kernel)) ggX8_takeByte_X8_fail
theorem dX8_takeByte_0 : decode cX8_takeByte 0 = .ok (.aload_n 0, 1) := by decide +kernel
theorem dX8_takeByte_1 : decode cX8_takeByte 1 = .ok (.getfield 223, 3) := by decide +kernel
theorem dX8_takeByte_4 : decode cX8_takeByte 4 = .ok (.iconst (-1), 1) := by decide +kernel
theorem dX8_takeByte_5 : decode cX8_takeByte 5 = .ok (.if_icmp .ne 23, 3) := by decide +kernel
theorem dX8_takeByte_8 : decode cX8_takeByte 8 = .ok (.aload_n 0, 1) := by decide +kernel
theorem dX8_takeByte_9 : decode cX8_takeByte 9 = .ok (.aload_n 0, 1) := by decide +kernel
theorem dX8_takeByte_10 : decode cX8_takeByte 10 = .ok (.getfield 226, 3) := by decide +kernel
theorem dX8_takeByte_13 : decode cX8_takeByte 13 = .ok (.invokevirtual 229, 3) := by decide +kernel
theorem dX8_takeByte_16 : decode cX8_takeByte 16 = .ok (.iload_n 1, 1) := by decide +kernel
theorem dX8_takeByte_17 : decode cX8_takeByte 17 = .ok (.if_icmp .eq 11, 3) := by decide +kernel
theorem dX8_takeByte_20 : decode cX8_takeByte 20 = .ok (.aload_n 0, 1) := by decide +kernel
theorem dX8_takeByte_21 : decode cX8_takeByte 21 = .ok (.aload_n 0, 1) := by decide +kernel
theorem dX8_takeByte_22 : decode cX8_takeByte 22 = .ok (.getfield 226, 3) := by decide +kernel
theorem dX8_takeByte_25 : decode cX8_takeByte 25 = .ok (.invokevirtual 232, 3) := by decide +kernel
theorem dX8_takeByte_28 : decode cX8_takeByte 28 = .ok (.aload_n 0, 1) := by decide +kernel
theorem dX8_takeByte_29 : decode cX8_takeByte 29 = .ok (.dup, 1) := by decide +kernel
theorem dX8_takeByte_30 : decode cX8_takeByte 30 = .ok (.getfield 226, 3) := by decide +kernel
theorem dX8_takeByte_33 : decode cX8_takeByte 33 = .ok (.iconst 1, 1) := by decide +kernel
theorem dX8_takeByte_34 : decode cX8_takeByte 34 = .ok (.iadd, 1) := by decide +kernel
theorem dX8_takeByte_35 : decode cX8_takeByte 35 = .ok (.putfield 226, 3) := by decide +kernel
theorem dX8_takeByte_38 : decode cX8_takeByte 38 = .ok (.return_, 1) := by decide +kernel
set_option maxRecDepth 20000 in
theorem ggX8_takeDigit_X8_byteAt : GoodIn wsX8_takeDigit wsX8_byteAt := goodIn_r _ [7, 8, 9, 17, 18, 19, 20, 21, 22, 23, 24, 25, 26, 27, 28, 29, 30, 31, 32, 33, 34, 35, 36, 37, 38, 39, 40, 41, 42, 43, 44, 45, 46] (by decide +kernel) (by decide +kernel)
set_option maxRecDepth 20000 in
theorem gX8_takeDigit_X8_byteAt : GoodIn wsX8_takeDigit (wsV RX8 229 RX8 yX8_byteAt wsX8_byteAt) := goodIn_app (goodIn_of _ (by decide +kernel)) ggX8_takeDigit_X8_byteAt
set_option maxRecDepth 20000 in
theorem ggX8_takeDigit_X8_in : GoodIn wsX8_takeDigit wsX8_in := goodIn_r _ [12] (by decide +kernel) (by decide +kernel)
set_option maxRecDepth 20000 in
theorem gX8_takeDigit_X8_in : GoodIn wsX8_takeDigit (va_wsS RX8 84 yX8_in wsX8_in) := goodIn_app (goodIn_of _ (by decide +kernel)) ggX8_takeDigit_X8_in
set_option maxRecDepth 20000 in
theorem ggX8_takeDigit_X8_fail : GoodIn wsX8_takeDigit wsX8_fail := goodIn_r _ [16, 2, 17, 18, 19, 20, 21, 22, 23, 24, 25, 26, 27, 28, 29, 30, 31, 32, 33, 34, 35, 36, 37, 38, 39, 40, 41, 42, 43, 44, 45, 46] (by decide +kernel) (by decide +kernel)
set_option maxRecDepth 20000 in
theorem gX8_takeDigit_X8_fail : GoodIn wsX8_takeDigit (wsV RX8 232 RX8 yX8_fail wsX8_fail) := goodIn_app (goodIn_of _ (by decide +kernel)) ggX8_takeDigit_X8_fail
theorem dX8_takeDigit_0 : decode cX8_takeDigit 0 = .ok (.aload_n 0, 1) := by decide +kernel
theorem dX8_takeDigit_1 : decode cX8_takeDigit 1 = .ok (.aload_n 0, 1) := by decide +kernel
theorem dX8_takeDigit_2 : decode cX8_takeDigit 2 = .ok (.getfield 226, 3) := by decide +kernel
theorem dX8_takeDigit_5 : decode cX8_takeDigit 5 = .ok (.invokevirtual 229, 3) := by decide +kernel
theorem dX8_takeDigit_8 : decode cX8_takeDigit 8 = .ok (.istore_n 2, 1) := by decide +kernel
theorem dX8_takeDigit_9 : decode cX8_takeDigit 9 = .ok (.aload_n 0, 1) := by decide +kernel
theorem dX8_takeDigit_10 : decode cX8_takeDigit 10 = .ok (.getfield 223, 3) := by decide +kernel
theorem dX8_takeDigit_13 : decode cX8_takeDigit 13 = .ok (.iconst (-1), 1) := by decide +kernel
theorem dX8_takeDigit_14 : decode cX8_takeDigit 14 = .ok (.if_icmp .ne 24, 3) := by decide +kernel
theorem dX8_takeDigit_17 : decode cX8_takeDigit 17 = .ok (.iload_n 2, 1) := by decide +kernel
theorem dX8_takeDigit_18 : decode cX8_takeDigit 18 = .ok (.bipush 48, 2) := by decide +kernel
theorem dX8_takeDigit_20 : decode cX8_takeDigit 20 = .ok (.bipush 48, 2) := by decide +kernel
theorem dX8_takeDigit_22 : decode cX8_takeDigit 22 = .ok (.iload_n 1, 1) := by decide +kernel
theorem dX8_takeDigit_23 : decode cX8_takeDigit 23 = .ok (.iadd, 1) := by decide +kernel
theorem dX8_takeDigit_24 : decode cX8_takeDigit 24 = .ok (.invokestatic 84, 3) := by decide +kernel
theorem dX8_takeDigit_27 : decode cX8_takeDigit 27 = .ok (.ifCond .ne 11, 3) := by decide +kernel
theorem dX8_takeDigit_30 : decode cX8_takeDigit 30 = .ok (.aload_n 0, 1) := by decide +kernel
theorem dX8_takeDigit_31 : decode cX8_takeDigit 31 = .ok (.aload_n 0, 1) := by decide +kernel
theorem dX8_takeDigit_32 : decode cX8_takeDigit 32 = .ok (.getfield 226, 3) := by decide +kernel
theorem dX8_takeDigit_35 : decode cX8_takeDigit 35 = .ok (.invokevirtual 232, 3) := by decide +kernel
theorem dX8_takeDigit_38 : decode cX8_takeDigit 38 = .ok (.aload_n 0, 1) := by decide +kernel
theorem dX8_takeDigit_39 : decode cX8_takeDigit 39 = .ok (.dup, 1) := by decide +kernel
theorem dX8_takeDigit_40 : decode cX8_takeDigit 40 = .ok (.getfield 226, 3) := by decide +kernel
theorem dX8_takeDigit_43 : decode cX8_takeDigit 43 = .ok (.iconst 1, 1) := by decide +kernel
theorem dX8_takeDigit_44 : decode cX8_takeDigit 44 = .ok (.iadd, 1) := by decide +kernel
theorem dX8_takeDigit_45 : decode cX8_takeDigit 45 = .ok (.putfield 226, 3) := by decide +kernel
theorem dX8_takeDigit_48 : decode cX8_takeDigit 48 = .ok (.iload_n 2, 1) := by decide +kernel
theorem dX8_takeDigit_49 : decode cX8_takeDigit 49 = .ok (.bipush 48, 2) := by decide +kernel
theorem dX8_takeDigit_51 : decode cX8_takeDigit 51 = .ok (.isub, 1) := by decide +kernel
theorem dX8_takeDigit_52 : decode cX8_takeDigit 52 = .ok (.ireturn, 1) := by decide +kernel
set_option maxRecDepth 20000 in
theorem ggX8_takeNumber_X8_takeDigit : GoodIn wsX8_takeNumber wsX8_takeDigit := goodIn_r _ [7, 1, 2, 8, 9, 10, 6, 11, 12, 13, 14, 15, 16, 17, 18, 19, 20, 21, 22, 23, 24, 25, 26, 27, 28, 29, 30, 31, 32, 33, 34, 35, 36, 37, 38, 39, 40, 41, 42, 43, 44, 45, 46, 47, 48, 49, 50] (by decide +kernel) (by decide +kernel)
set_option maxRecDepth 20000 in
theorem gX8_takeNumber_X8_takeDigit : GoodIn wsX8_takeNumber (wsV RX8 236 RX8 yX8_takeDigit wsX8_takeDigit) := goodIn_app (goodIn_of _ (by decide +kernel)) ggX8_takeNumber_X8_takeDigit
set_option maxRecDepth 20000 in
theorem ggX8_takeNumber_X8_byteAt : GoodIn wsX8_takeNumber wsX8_byteAt := goodIn_r _ [11, 12, 13, 21, 22, 23, 24, 25, 26, 27, 28, 29, 30, 31, 32, 33, 34, 35, 36, 37, 38, 39, 40, 41, 42, 43, 44, 45, 46, 47, 48, 49, 50] (by decide +kernel) (by decide +kernel)
set_option maxRecDepth 20000 in
theorem gX8_takeNumber_X8_byteAt : GoodIn wsX8_takeNumber (wsV RX8 229 RX8 yX8_byteAt wsX8_byteAt) := goodIn_app (goodIn_of _ (by decide +kernel)) ggX8_takeNumber_X8_byteAt
set_option maxRecDepth 20000 in
theorem ggX8_takeNumber_X8_in : GoodIn wsX8_takeNumber wsX8_in := goodIn_r _ [16] (by decide +kernel) (by decide +kernel)
set_option maxRecDepth 20000 in
theorem gX8_takeNumber_X8_in : GoodIn wsX8_takeNumber (va_wsS RX8 84 yX8_in wsX8_in) := goodIn_app (goodIn_of _ (by decide +kernel)) ggX8_takeNumber_X8_in
set_option maxRecDepth 20000 in
theorem ggX8_takeNumber_X8_fail : GoodIn wsX8_takeNumber wsX8_fail := goodIn_r _ [20, 2, 21, 22, 23, 24, 25, 26, 27, 28, 29, 30, 31, 32, 33, 34, 35, 36, 37, 38, 39, 40, 41, 42, 43, 44, 45, 46, 47, 48, 49, 50] (by decide +kernel) (by decide +kernel)
set_option maxRecDepth 20000 in
theorem gX8_takeNumber_X8_fail : GoodIn wsX8_takeNumber (wsV RX8 232 RX8 yX8_fail wsX8_fail) := goodIn_app (goodIn_of _ (by decide +kernel)) ggX8_takeNumber_X8_fail
theorem dX8_takeNumber_0 : decode cX8_takeNumber 0 = .ok (.aload_n 0, 1) := by decide +kernel
theorem dX8_takeNumber_1 : decode cX8_takeNumber 1 = .ok (.getfield 226, 3) := by decide +kernel
theorem dX8_takeNumber_4 : decode cX8_takeNumber 4 = .ok (.istore 4, 2) := by decide +kernel
theorem dX8_takeNumber_6 : decode cX8_takeNumber 6 = .ok (.aload_n 0, 1) := by decide +kernel
theorem dX8_takeNumber_7 : decode cX8_takeNumber 7 = .ok (.bipush 9, 2) := by decide +kernel
theorem dX8_takeNumber_9 : decode cX8_takeNumber 9 = .ok (.invokevirtual 236, 3) := by decide +kernel
theorem dX8_takeNumber_12 : decode cX8_takeNumber 12 = .ok (.istore 5, 2) := by decide +kernel
theorem dX8_takeNumber_14 : decode cX8_takeNumber 14 = .ok (.iconst 1, 1) := by decide +kernel
theorem dX8_takeNumber_15 : decode cX8_takeNumber 15 = .ok (.istore 6, 2) := by decide +kernel
theorem dX8_takeNumber_17 : decode cX8_takeNumber 17 = .ok (.iload 6, 2) := by decide +kernel
theorem dX8_takeNumber_19 : decode cX8_takeNumber 19 = .ok (.iload_n 1, 1) := by decide +kernel
theorem dX8_takeNumber_20 : decode cX8_takeNumber 20 = .ok (.if_icmp .ge 56, 3) := by decide +kernel
theorem dX8_takeNumber_23 : decode cX8_takeNumber 23 = .ok (.aload_n 0, 1) := by decide +kernel
theorem dX8_takeNumber_24 : decode cX8_takeNumber 24 = .ok (.aload_n 0, 1) := by decide +kernel
theorem dX8_takeNumber_25 : decode cX8_takeNumber 25 = .ok (.getfield 226, 3) := by decide +kernel
theorem dX8_takeNumber_28 : decode cX8_takeNumber 28 = .ok (.invokevirtual 229, 3) := by decide +kernel
theorem dX8_takeNumber_31 : decode cX8_takeNumber 31 = .ok (.bipush 48, 2) := by decide +kernel
theorem dX8_takeNumber_33 : decode cX8_takeNumber 33 = .ok (.bipush 57, 2) := by decide +kernel
theorem dX8_takeNumber_35 : decode cX8_takeNumber 35 = .ok (.invokestatic 84, 3) := by decide +kernel
theorem dX8_takeNumber_38 : decode cX8_takeNumber 38 = .ok (.ifCond .eq 38, 3) := by decide +kernel
theorem dX8_takeNumber_41 : decode cX8_takeNumber 41 = .ok (.bipush 10, 2) := by decide +kernel
theorem dX8_takeNumber_43 : decode cX8_takeNumber 43 = .ok (.iload 5, 2) := by decide +kernel
theorem dX8_takeNumber_45 : decode cX8_takeNumber 45 = .ok (.imul, 1) := by decide +kernel
theorem dX8_takeNumber_46 : decode cX8_takeNumber 46 = .ok (.aload_n 0, 1) := by decide +kernel
theorem dX8_takeNumber_47 : decode cX8_takeNumber 47 = .ok (.aload_n 0, 1) := by decide +kernel
theorem dX8_takeNumber_48 : decode cX8_takeNumber 48 = .ok (.getfield 226, 3) := by decide +kernel
theorem dX8_takeNumber_51 : decode cX8_takeNumber 51 = .ok (.invokevirtual 229, 3) := by decide +kernel
theorem dX8_takeNumber_54 : decode cX8_takeNumber 54 = .ok (.iadd, 1) := by decide +kernel
theorem dX8_takeNumber_55 : decode cX8_takeNumber 55 = .ok (.bipush 48, 2) := by decide +kernel
theorem dX8_takeNumber_57 : decode cX8_takeNumber 57 = .ok (.isub, 1) := by decide +kernel
theorem dX8_takeNumber_58 : decode cX8_takeNumber 58 = .ok (.istore 5, 2) := by decide +kernel
theorem dX8_takeNumber_60 : decode cX8_takeNumber 60 = .ok (.aload_n 0, 1) := by decide +kernel
theorem dX8_takeNumber_61 : decode cX8_takeNumber 61 = .ok (.dup, 1) := by decide +kernel
theorem dX8_takeNumber_62 : decode cX8_takeNumber 62 = .ok (.getfield 226, 3) := by decide +kernel
theorem dX8_takeNumber_65 : decode cX8_takeNumber 65 = .ok (.iconst 1, 1) := by decide +kernel
theorem dX8_takeNumber_66 : decode cX8_takeNumber 66 = .ok (.iadd, 1) := by decide +kernel
theorem dX8_takeNumber_67 : decode cX8_takeNumber 67 = .ok (.putfield 226, 3) := by decide +kernel
theorem dX8_takeNumber_70 : decode cX8_takeNumber 70 = .ok (.iinc 6 1, 3) := by decide +kernel
theorem dX8_takeNumber_73 : decode cX8_takeNumber 73 = .ok (.goto (-56), 3) := by decide +kernel
theorem dX8_takeNumber_76 : decode cX8_takeNumber 76 = .ok (.aload_n 0, 1) := by decide +kernel
theorem dX8_takeNumber_77 : decode cX8_takeNumber 77 = .ok (.getfield 223, 3) := by decide +kernel
theorem dX8_takeNumber_80 : decode cX8_takeNumber 80 = .ok (.iconst (-1), 1) := by decide +kernel
theorem dX8_takeNumber_81 : decode cX8_takeNumber 81 = .ok (.if_icmp .ne 37, 3) := by decide +kernel
theorem dX8_takeNumber_84 : decode cX8_takeNumber 84 = .ok (.aload_n 0, 1) := by decide +kernel
theorem dX8_takeNumber_85 : decode cX8_takeNumber 85 = .ok (.aload_n 0, 1) := by decide +kernel
theorem dX8_takeNumber_86 : decode cX8_takeNumber 86 = .ok (.getfield 226, 3) := by decide +kernel
theorem dX8_takeNumber_89 : decode cX8_takeNumber 89 = .ok (.invokevirtual 229, 3) := by decide +kernel
theorem dX8_takeNumber_92 : decode cX8_takeNumber 92 = .ok (.bipush 48, 2) := by decide +kernel
theorem dX8_takeNumber_94 : decode cX8_takeNumber 94 = .ok (.bipush 57, 2) := by decide +kernel
theorem dX8_takeNumber_96 : decode cX8_takeNumber 96 = .ok (.invokestatic 84, 3) := by decide +kernel
theorem dX8_takeNumber_99 : decode cX8_takeNumber 99 = .ok (.ifCond .ne 19, 3) := by decide +kernel
theorem dX8_takeNumber_102 : decode cX8_takeNumber 102 = .ok (.iload 5, 2) := by decide +kernel
theorem dX8_takeNumber_104 : decode cX8_takeNumber 104 = .ok (.iload_n 2, 1) := by decide +kernel
theorem dX8_takeNumber_105 : decode cX8_takeNumber 105 = .ok (.iload_n 3, 1) := by decide +kernel
theorem dX8_takeNumber_106 : decode cX8_takeNumber 106 = .ok (.invokestatic 84, 3) := by decide +kernel
theorem dX8_takeNumber_109 : decode cX8_takeNumber 109 = .ok (.ifCond .ne 9, 3) := by decide +kernel
theorem dX8_takeNumber_112 : decode cX8_takeNumber 112 = .ok (.aload_n 0, 1) := by decide +kernel
theorem dX8_takeNumber_113 : decode cX8_takeNumber 113 = .ok (.iload 4, 2) := by decide +kernel
theorem dX8_takeNumber_115 : decode cX8_takeNumber 115 = .ok (.invokevirtual 232, 3) := by decide +kernel
theorem dX8_takeNumber_118 : decode cX8_takeNumber 118 = .ok (.iload 5, 2) := by decide +kernel
theorem dX8_takeNumber_120 : decode cX8_takeNumber 120 = .ok (.ireturn, 1) := by decide +kernel
set_option maxRecDepth 20000 in
theorem ggX8_readTask_X8_takeDigit : GoodIn wsX8_readTask wsX8_takeDigit := goodIn_r _ [6, 7, 8, 9, 10, 11, 5, 12, 13, 14, 15, 16, 17, 18, 19, 20, 21, 30, 31, 32, 33, 34, 35, 36, 37, 38, 39, 40, 41, 42, 43, 44, 45, 46, 47, 48, 49, 50, 51, 52, 53, 54, 55, 56, 57, 58, 59] (by decide +kernel) (by decide +kernel)
set_option maxRecDepth 20000 in
theorem gX8_readTask_X8_takeDigit : GoodIn wsX8_readTask (wsV RX8 236 RX8 yX8_takeDigit wsX8_takeDigit) := goodIn_app (goodIn_of _ (by decide +kernel)) ggX8_readTask_X8_takeDigit
set_option maxRecDepth 20000 in
theorem ggX8_readTask_X8_takeByte : GoodIn wsX8_readTask wsX8_takeByte := goodIn_r _ [25, 8, 7, 9, 10, 11, 5, 12, 13, 14, 18, 19, 20, 21, 30, 31, 32, 33, 34, 35, 36, 37, 38, 39, 40, 41, 42, 43, 44, 45, 46, 47, 48, 49, 50, 51, 52, 53, 54, 55, 56, 57, 58, 59] (by decide +kernel) (by decide +kernel)
set_option maxRecDepth 20000 in
theorem gX8_readTask_X8_takeByte : GoodIn wsX8_readTask (wsV RX8 239 RX8 yX8_takeByte wsX8_takeByte) := goodIn_app (goodIn_of _ (by decide +kernel)) ggX8_readTask_X8_takeByte
set_option maxRecDepth 20000 in
theorem ggX8_readTask_X8_takeNumber : GoodIn wsX8_readTask wsX8_takeNumber := goodIn_r _ [29, 7, 8, 2, 3, 4, 5, 6, 9, 10, 11, 12, 13, 14, 15, 16, 17, 18, 19, 20, 21, 30, 31, 32, 33, 34, 35, 36, 37, 38, 39, 40, 41, 42, 43, 44, 45, 46, 47, 48, 49, 50, 51, 52, 53, 54, 55, 56, 57, 58, 59] (by decide +kernel) (by decide +kernel)
set_option maxRecDepth 20000 in
theorem gX8_readTask_X8_takeNumber : GoodIn wsX8_readTask (wsV RX8 242 RX8 yX8_takeNumber wsX8_takeNumber) := goodIn_app (goodIn_of _ (by decide +kernel)) ggX8_readTask_X8_takeNumber
theorem dX8_readTask_0 : decode cX8_readTask 0 = .ok (.aload_n 0, 1) := by decide +kernel
theorem dX8_readTask_1 : decode cX8_readTask 1 = .ok (.getfield 72, 3) := by decide +kernel
theorem dX8_readTask_4 : decode cX8_readTask 4 = .ok (.iload_n 1, 1) := by decide +kernel
theorem dX8_readTask_5 : decode cX8_readTask 5 = .ok (.iconst 0, 1) := by decide +kernel
theorem dX8_readTask_6 : decode cX8_readTask 6 = .ok (.iastore, 1) := by decide +kernel
theorem dX8_readTask_7 : decode cX8_readTask 7 = .ok (.aload_n 0, 1) := by decide +kernel
theorem dX8_readTask_8 : decode cX8_readTask 8 = .ok (.getfield 72, 3) := by decide +kernel
theorem dX8_readTask_11 : decode cX8_readTask 11 = .ok (.iload_n 1, 1) := by decide +kernel
theorem dX8_readTask_12 : decode cX8_readTask 12 = .ok (.iconst 1, 1) := by decide +kernel
theorem dX8_readTask_13 : decode cX8_readTask 13 = .ok (.iadd, 1) := by decide +kernel
theorem dX8_readTask_14 : decode cX8_readTask 14 = .ok (.aload_n 0, 1) := by decide +kernel
theorem dX8_readTask_15 : decode cX8_readTask 15 = .ok (.iconst 2, 1) := by decide +kernel
theorem dX8_readTask_16 : decode cX8_readTask 16 = .ok (.invokevirtual 236, 3) := by decide +kernel
theorem dX8_readTask_19 : decode cX8_readTask 19 = .ok (.iastore, 1) := by decide +kernel
theorem dX8_readTask_20 : decode cX8_readTask 20 = .ok (.aload_n 0, 1) := by decide +kernel
theorem dX8_readTask_21 : decode cX8_readTask 21 = .ok (.bipush 58, 2) := by decide +kernel
theorem dX8_readTask_23 : decode cX8_readTask 23 = .ok (.invokevirtual 239, 3) := by decide +kernel
theorem dX8_readTask_26 : decode cX8_readTask 26 = .ok (.aload_n 0, 1) := by decide +kernel
theorem dX8_readTask_27 : decode cX8_readTask 27 = .ok (.getfield 72, 3) := by decide +kernel
theorem dX8_readTask_30 : decode cX8_readTask 30 = .ok (.iload_n 1, 1) := by decide +kernel
theorem dX8_readTask_31 : decode cX8_readTask 31 = .ok (.iconst 2, 1) := by decide +kernel
theorem dX8_readTask_32 : decode cX8_readTask 32 = .ok (.iadd, 1) := by decide +kernel
theorem dX8_readTask_33 : decode cX8_readTask 33 = .ok (.aload_n 0, 1) := by decide +kernel
theorem dX8_readTask_34 : decode cX8_readTask 34 = .ok (.iconst 3, 1) := by decide +kernel
theorem dX8_readTask_35 : decode cX8_readTask 35 = .ok (.iconst 0, 1) := by decide +kernel
theorem dX8_readTask_36 : decode cX8_readTask 36 = .ok (.sipush 200, 3) := by decide +kernel
theorem dX8_readTask_39 : decode cX8_readTask 39 = .ok (.invokevirtual 242, 3) := by decide +kernel
theorem dX8_readTask_42 : decode cX8_readTask 42 = .ok (.iastore, 1) := by decide +kernel
theorem dX8_readTask_43 : decode cX8_readTask 43 = .ok (.aload_n 0, 1) := by decide +kernel
theorem dX8_readTask_44 : decode cX8_readTask 44 = .ok (.bipush 45, 2) := by decide +kernel
theorem dX8_readTask_46 : decode cX8_readTask 46 = .ok (.invokevirtual 239, 3) := by decide +kernel
theorem dX8_readTask_49 : decode cX8_readTask 49 = .ok (.aload_n 0, 1) := by decide +kernel
theorem dX8_readTask_50 : decode cX8_readTask 50 = .ok (.getfield 72, 3) := by decide +kernel
theorem dX8_readTask_53 : decode cX8_readTask 53 = .ok (.iload_n 1, 1) := by decide +kernel
theorem dX8_readTask_54 : decode cX8_readTask 54 = .ok (.iconst 3, 1) := by decide +kernel
theorem dX8_readTask_55 : decode cX8_readTask 55 = .ok (.iadd, 1) := by decide +kernel
theorem dX8_readTask_56 : decode cX8_readTask 56 = .ok (.aload_n 0, 1) := by decide +kernel
theorem dX8_readTask_57 : decode cX8_readTask 57 = .ok (.iconst 3, 1) := by decide +kernel
theorem dX8_readTask_58 : decode cX8_readTask 58 = .ok (.iconst 1, 1) := by decide +kernel
theorem dX8_readTask_59 : decode cX8_readTask 59 = .ok (.sipush 400, 3) := by decide +kernel
theorem dX8_readTask_62 : decode cX8_readTask 62 = .ok (.invokevirtual 242, 3) := by decide +kernel
theorem dX8_readTask_65 : decode cX8_readTask 65 = .ok (.iastore, 1) := by decide +kernel
theorem dX8_readTask_66 : decode cX8_readTask 66 = .ok (.aload_n 0, 1) := by decide +kernel
theorem dX8_readTask_67 : decode cX8_readTask 67 = .ok (.bipush 42, 2) := by decide +kernel
theorem dX8_readTask_69 : decode cX8_readTask 69 = .ok (.invokevirtual 239, 3) := by decide +kernel
theorem dX8_readTask_72 : decode cX8_readTask 72 = .ok (.aload_n 0, 1) := by decide +kernel
theorem dX8_readTask_73 : decode cX8_readTask 73 = .ok (.getfield 72, 3) := by decide +kernel
theorem dX8_readTask_76 : decode cX8_readTask 76 = .ok (.iload_n 1, 1) := by decide +kernel
theorem dX8_readTask_77 : decode cX8_readTask 77 = .ok (.iconst 4, 1) := by decide +kernel
theorem dX8_readTask_78 : decode cX8_readTask 78 = .ok (.iadd, 1) := by decide +kernel
theorem dX8_readTask_79 : decode cX8_readTask 79 = .ok (.aload_n 0, 1) := by decide +kernel
theorem dX8_readTask_80 : decode cX8_readTask 80 = .ok (.iconst 2, 1) := by decide +kernel
theorem dX8_readTask_81 : decode cX8_readTask 81 = .ok (.iconst 1, 1) := by decide +kernel
theorem dX8_readTask_82 : decode cX8_readTask 82 = .ok (.bipush 50, 2) := by decide +kernel
theorem dX8_readTask_84 : decode cX8_readTask 84 = .ok (.invokevirtual 242, 3) := by decide +kernel
theorem dX8_readTask_87 : decode cX8_readTask 87 = .ok (.iastore, 1) := by decide +kernel
theorem dX8_readTask_88 : decode cX8_readTask 88 = .ok (.return_, 1) := by decide +kernel
set_option maxRecDepth 20000 in
theorem ggX8_readText_X8_byteAt : GoodIn wsX8_readText wsX8_byteAt := goodIn_r _ [10, 4, 11, 35, 36, 37, 38, 39, 40, 41, 42, 43, 44, 45, 46, 47, 48, 49, 50, 51, 52, 53, 54, 55, 56, 57, 58, 59, 60, 61, 62, 63, 64] (by decide +kernel) (by decide +kernel)
set_option maxRecDepth 20000 in
theorem gX8_readText_X8_byteAt : GoodIn wsX8_readText (wsV RX8 229 RX8 yX8_byteAt wsX8_byteAt) := goodIn_app (goodIn_of _ (by decide +kernel)) ggX8_readText_X8_byteAt
set_option maxRecDepth 20000 in
theorem ggX8_readText_X8_readTask : GoodIn wsX8_readText wsX8_readTask := goodIn_r _ [15, 5, 16, 17, 18, 9, 19, 1, 2, 6, 7, 8, 10, 4, 11, 20, 21, 22, 23, 24, 25, 26, 27, 28, 29, 30, 31, 32, 33, 34, 35, 36, 37, 38, 39, 40, 41, 42, 43, 44, 45, 46, 47, 48, 49, 50, 51, 52, 53, 54, 55, 56, 57, 58, 59, 60, 61, 62, 63, 64] (by decide +kernel) (by decide +kernel)
set_option maxRecDepth 20000 in
theorem gX8_readText_X8_readTask : GoodIn wsX8_readText (wsV RX8 249 RX8 yX8_readTask wsX8_readTask) := goodIn_app (goodIn_of _ (by decide +kernel)) ggX8_readText_X8_readTask
set_option maxRecDepth 20000 in
theorem ggX8_readText_X8_takeDigit : GoodIn wsX8_readText wsX8_takeDigit := goodIn_r _ [19, 1, 2, 6, 7, 8, 9, 10, 4, 11, 20, 21, 22, 23, 24, 25, 26, 35, 36, 37, 38, 39, 40, 41, 42, 43, 44, 45, 46, 47, 48, 49, 50, 51, 52, 53, 54, 55, 56, 57, 58, 59, 60, 61, 62, 63, 64] (by decide +kernel) (by decide +kernel)
set_option maxRecDepth 20000 in
theorem gX8_readText_X8_takeDigit : GoodIn wsX8_readText (wsV RX8 236 RX8 yX8_takeDigit wsX8_takeDigit) := goodIn_app (goodIn_of _ (by decide +kernel)) ggX8_readText_X8_takeDigit
set_option maxRecDepth 20000 in
theorem ggX8_readText_X8_fail : GoodIn wsX8_readText wsX8_fail := goodIn_r _ [26, 2, 35, 36, 37, 38, 39, 40, 41, 42, 43, 44, 45, 46, 47, 48, 49, 50, 51, 52, 53, 54, 55, 56, 57, 58, 59, 60, 61, 62, 63, 64] (by decide +kernel) (by decide +kernel)
set_option maxRecDepth 20000 in
theorem gX8_readText_X8_fail : GoodIn wsX8_readText (wsV RX8 232 RX8 yX8_fail wsX8_fail) := goodIn_app (goodIn_of _ (by decide +kernel)) ggX8_readText_X8_fail
set_option maxRecDepth 20000 in
theorem ggX8_readText_X8_takeByte : GoodIn wsX8_readText wsX8_takeByte := goodIn_r _ [30, 2, 1, 6, 7, 8, 9, 10, 4, 11, 23, 24, 25, 26, 35, 36, 37, 38, 39, 40, 41, 42, 43, 44, 45, 46, 47, 48, 49, 50, 51, 52, 53, 54, 55, 56, 57, 58, 59, 60, 61, 62, 63, 64] (by decide +kernel) (by decide +kernel)
set_option maxRecDepth 20000 in
theorem gX8_readText_X8_takeByte : GoodIn wsX8_readText (wsV RX8 239 RX8 yX8_takeByte wsX8_takeByte) := goodIn_app (goodIn_of _ (by decide +kernel)) ggX8_readText_X8_takeByte
theorem dX8_readText_0 : decode cX8_readText 0 = .ok (.aload_n 0, 1) := by decide +kernel
theorem dX8_readText_1 : decode cX8_readText 1 = .ok (.iconst 0, 1) := by decide +kernel
theorem dX8_readText_2 : decode cX8_readText 2 = .ok (.putfield 226, 3) := by decide +kernel
theorem dX8_readText_5 : decode cX8_readText 5 = .ok (.aload_n 0, 1) := by decide +kernel
theorem dX8_readText_6 : decode cX8_readText 6 = .ok (.iconst (-1), 1) := by decide +kernel
theorem dX8_readText_7 : decode cX8_readText 7 = .ok (.putfield 223, 3) := by decide +kernel
theorem dX8_readText_10 : decode cX8_readText 10 = .ok (.aload_n 0, 1) := by decide +kernel
theorem dX8_readText_11 : decode cX8_readText 11 = .ok (.iconst 0, 1) := by decide +kernel
theorem dX8_readText_12 : decode cX8_readText 12 = .ok (.putfield 246, 3) := by decide +kernel
theorem dX8_readText_15 : decode cX8_readText 15 = .ok (.aload_n 0, 1) := by decide +kernel
theorem dX8_readText_16 : decode cX8_readText 16 = .ok (.getfield 226, 3) := by decide +kernel
theorem dX8_readText_19 : decode cX8_readText 19 = .ok (.aload_n 0, 1) := by decide +kernel
theorem dX8_readText_20 : decode cX8_readText 20 = .ok (.getfield 220, 3) := by decide +kernel
theorem dX8_readText_23 : decode cX8_readText 23 = .ok (.if_icmp .ge 148, 3) := by decide +kernel
theorem dX8_readText_26 : decode cX8_readText 26 = .ok (.aload_n 0, 1) := by decide +kernel
theorem dX8_readText_27 : decode cX8_readText 27 = .ok (.getfield 223, 3) := by decide +kernel
theorem dX8_readText_30 : decode cX8_readText 30 = .ok (.iconst (-1), 1) := by decide +kernel
theorem dX8_readText_31 : decode cX8_readText 31 = .ok (.if_icmp .ne 140, 3) := by decide +kernel
theorem dX8_readText_34 : decode cX8_readText 34 = .ok (.iconst 5, 1) := by decide +kernel
theorem dX8_readText_35 : decode cX8_readText 35 = .ok (.aload_n 0, 1) := by decide +kernel
theorem dX8_readText_36 : decode cX8_readText 36 = .ok (.getfield 246, 3) := by decide +kernel
theorem dX8_readText_39 : decode cX8_readText 39 = .ok (.imul, 1) := by decide +kernel
theorem dX8_readText_40 : decode cX8_readText 40 = .ok (.istore_n 1, 1) := by decide +kernel
theorem dX8_readText_41 : decode cX8_readText 41 = .ok (.aload_n 0, 1) := by decide +kernel
theorem dX8_readText_42 : decode cX8_readText 42 = .ok (.aload_n 0, 1) := by decide +kernel
theorem dX8_readText_43 : decode cX8_readText 43 = .ok (.getfield 226, 3) := by decide +kernel
theorem dX8_readText_46 : decode cX8_readText 46 = .ok (.invokevirtual 229, 3) := by decide +kernel
theorem dX8_readText_49 : decode cX8_readText 49 = .ok (.istore_n 2, 1) := by decide +kernel
theorem dX8_readText_50 : decode cX8_readText 50 = .ok (.iload_n 2, 1) := by decide +kernel
theorem dX8_readText_51 : decode cX8_readText 51 = .ok (.bipush 116, 2) := by decide +kernel
theorem dX8_readText_53 : decode cX8_readText 53 = .ok (.if_icmp .ne 21, 3) := by decide +kernel
theorem dX8_readText_56 : decode cX8_readText 56 = .ok (.aload_n 0, 1) := by decide +kernel
theorem dX8_readText_57 : decode cX8_readText 57 = .ok (.dup, 1) := by decide +kernel
theorem dX8_readText_58 : decode cX8_readText 58 = .ok (.getfield 226, 3) := by decide +kernel
theorem dX8_readText_61 : decode cX8_readText 61 = .ok (.iconst 1, 1) := by decide +kernel
theorem dX8_readText_62 : decode cX8_readText 62 = .ok (.iadd, 1) := by decide +kernel
theorem dX8_readText_63 : decode cX8_readText 63 = .ok (.putfield 226, 3) := by decide +kernel
theorem dX8_readText_66 : decode cX8_readText 66 = .ok (.aload_n 0, 1) := by decide +kernel
theorem dX8_readText_67 : decode cX8_readText 67 = .ok (.iload_n 1, 1) := by decide +kernel
theorem dX8_readText_68 : decode cX8_readText 68 = .ok (.invokevirtual 249, 3) := by decide +kernel
theorem dX8_readText_71 : decode cX8_readText 71 = .ok (.goto 81, 3) := by decide +kernel
theorem dX8_readText_74 : decode cX8_readText 74 = .ok (.iload_n 2, 1) := by decide +kernel
theorem dX8_readText_75 : decode cX8_readText 75 = .ok (.bipush 112, 2) := by decide +kernel
theorem dX8_readText_77 : decode cX8_readText 77 = .ok (.if_icmp .eq 9, 3) := by decide +kernel
theorem dX8_readText_80 : decode cX8_readText 80 = .ok (.iload_n 2, 1) := by decide +kernel
theorem dX8_readText_81 : decode cX8_readText 81 = .ok (.bipush 113, 2) := by decide +kernel
theorem dX8_readText_83 : decode cX8_readText 83 = .ok (.if_icmp .ne 61, 3) := by decide +kernel
theorem dX8_readText_86 : decode cX8_readText 86 = .ok (.aload_n 0, 1) := by decide +kernel
theorem dX8_readText_87 : decode cX8_readText 87 = .ok (.dup, 1) := by decide +kernel
theorem dX8_readText_88 : decode cX8_readText 88 = .ok (.getfield 226, 3) := by decide +kernel
theorem dX8_readText_91 : decode cX8_readText 91 = .ok (.iconst 1, 1) := by decide +kernel
theorem dX8_readText_92 : decode cX8_readText 92 = .ok (.iadd, 1) := by decide +kernel
theorem dX8_readText_93 : decode cX8_readText 93 = .ok (.putfield 226, 3) := by decide +kernel
theorem dX8_readText_96 : decode cX8_readText 96 = .ok (.aload_n 0, 1) := by decide +kernel
theorem dX8_readText_97 : decode cX8_readText 97 = .ok (.getfield 72, 3) := by decide +kernel
theorem dX8_readText_100 : decode cX8_readText 100 = .ok (.iload_n 1, 1) := by decide +kernel
theorem dX8_readText_101 : decode cX8_readText 101 = .ok (.iload_n 2, 1) := by decide +kernel
theorem dX8_readText_102 : decode cX8_readText 102 = .ok (.bipush 112, 2) := by decide +kernel
theorem dX8_readText_104 : decode cX8_readText 104 = .ok (.if_icmp .ne 7, 3) := by decide +kernel
theorem dX8_readText_107 : decode cX8_readText 107 = .ok (.iconst 1, 1) := by decide +kernel
theorem dX8_readText_108 : decode cX8_readText 108 = .ok (.goto 4, 3) := by decide +kernel
theorem dX8_readText_111 : decode cX8_readText 111 = .ok (.iconst 2, 1) := by decide +kernel
theorem dX8_readText_112 : decode cX8_readText 112 = .ok (.iastore, 1) := by decide +kernel
theorem dX8_readText_113 : decode cX8_readText 113 = .ok (.aload_n 0, 1) := by decide +kernel
theorem dX8_readText_114 : decode cX8_readText 114 = .ok (.getfield 72, 3) := by decide +kernel
theorem dX8_readText_117 : decode cX8_readText 117 = .ok (.iload_n 1, 1) := by decide +kernel
theorem dX8_readText_118 : decode cX8_readText 118 = .ok (.iconst 1, 1) := by decide +kernel
theorem dX8_readText_119 : decode cX8_readText 119 = .ok (.iadd, 1) := by decide +kernel
theorem dX8_readText_120 : decode cX8_readText 120 = .ok (.aload_n 0, 1) := by decide +kernel
theorem dX8_readText_121 : decode cX8_readText 121 = .ok (.bipush 7, 2) := by decide +kernel
theorem dX8_readText_123 : decode cX8_readText 123 = .ok (.invokevirtual 236, 3) := by decide +kernel
theorem dX8_readText_126 : decode cX8_readText 126 = .ok (.iastore, 1) := by decide +kernel
theorem dX8_readText_127 : decode cX8_readText 127 = .ok (.aload_n 0, 1) := by decide +kernel
theorem dX8_readText_128 : decode cX8_readText 128 = .ok (.getfield 72, 3) := by decide +kernel
theorem dX8_readText_131 : decode cX8_readText 131 = .ok (.iload_n 1, 1) := by decide +kernel
theorem dX8_readText_132 : decode cX8_readText 132 = .ok (.iconst 2, 1) := by decide +kernel
theorem dX8_readText_133 : decode cX8_readText 133 = .ok (.iadd, 1) := by decide +kernel
theorem dX8_readText_134 : decode cX8_readText 134 = .ok (.aload_n 0, 1) := by decide +kernel
theorem dX8_readText_135 : decode cX8_readText 135 = .ok (.bipush 7, 2) := by decide +kernel
theorem dX8_readText_137 : decode cX8_readText 137 = .ok (.invokevirtual 236, 3) := by decide +kernel
theorem dX8_readText_140 : decode cX8_readText 140 = .ok (.iastore, 1) := by decide +kernel
theorem dX8_readText_141 : decode cX8_readText 141 = .ok (.goto 11, 3) := by decide +kernel
theorem dX8_readText_144 : decode cX8_readText 144 = .ok (.aload_n 0, 1) := by decide +kernel
theorem dX8_readText_145 : decode cX8_readText 145 = .ok (.aload_n 0, 1) := by decide +kernel
theorem dX8_readText_146 : decode cX8_readText 146 = .ok (.getfield 226, 3) := by decide +kernel
theorem dX8_readText_149 : decode cX8_readText 149 = .ok (.invokevirtual 232, 3) := by decide +kernel
theorem dX8_readText_152 : decode cX8_readText 152 = .ok (.aload_n 0, 1) := by decide +kernel
theorem dX8_readText_153 : decode cX8_readText 153 = .ok (.bipush 59, 2) := by decide +kernel
theorem dX8_readText_155 : decode cX8_readText 155 = .ok (.invokevirtual 239, 3) := by decide +kernel
theorem dX8_readText_158 : decode cX8_readText 158 = .ok (.aload_n 0, 1) := by decide +kernel
theorem dX8_readText_159 : decode cX8_readText 159 = .ok (.dup, 1) := by decide +kernel
theorem dX8_readText_160 : decode cX8_readText 160 = .ok (.getfield 246, 3) := by decide +kernel
theorem dX8_readText_163 : decode cX8_readText 163 = .ok (.iconst 1, 1) := by decide +kernel
theorem dX8_readText_164 : decode cX8_readText 164 = .ok (.iadd, 1) := by decide +kernel
theorem dX8_readText_165 : decode cX8_readText 165 = .ok (.putfield 246, 3) := by decide +kernel
theorem dX8_readText_168 : decode cX8_readText 168 = .ok (.goto (-153), 3) := by decide +kernel
theorem dX8_readText_171 : decode cX8_readText 171 = .ok (.return_, 1) := by decide +kernel
set_option maxRecDepth 20000 in
theorem ggX8_does_X8_whyNoTask : GoodIn wsX8_does wsX8_whyNoTask := goodIn_r _ [6, 7, 8, 9, 10, 5, 11, 40, 41, 42, 43, 44, 45, 46, 47, 48, 49, 50, 51, 52, 53, 54, 55, 56, 57, 58, 59, 60, 61, 62, 63, 64, 65, 66, 67, 68, 69] (by decide +kernel) (by decide +kernel)
set_option maxRecDepth 20000 in
theorem gX8_does_X8_whyNoTask : GoodIn wsX8_does (wsV RX8 91 RX8 yX8_whyNoTask wsX8_whyNoTask) := goodIn_app (goodIn_of _ (by decide +kernel)) ggX8_does_X8_whyNoTask
set_option maxRecDepth 20000 in
theorem ggX8_does_X8_putTask : GoodIn wsX8_does wsX8_putTask := goodIn_r _ [15, 8, 16, 17, 18, 19, 20, 40, 41, 42, 43, 44, 45, 46, 47, 48, 49, 50, 51, 52, 53, 54, 55, 56, 57, 58, 59, 60, 61, 62, 63, 64, 65, 66, 67, 68, 69] (by decide +kernel) (by decide +kernel)
set_option maxRecDepth 20000 in
theorem gX8_does_X8_putTask : GoodIn wsX8_does (wsV RX8 95 RX8 yX8_putTask wsX8_putTask) := goodIn_app (goodIn_of _ (by decide +kernel)) ggX8_does_X8_putTask
set_option maxRecDepth 20000 in
theorem ggX8_does_X8_whyNotGive : GoodIn wsX8_does wsX8_whyNotGive := goodIn_r _ [24, 20, 25, 26, 27, 5, 28, 8, 29, 30, 31, 32, 33, 34, 35, 40, 41, 42, 43, 44, 45, 46, 47, 48, 49, 50, 51, 52, 53, 54, 55, 56, 57, 58, 59, 60, 61, 62, 63, 64, 65, 66, 67, 68, 69] (by decide +kernel) (by decide +kernel)
set_option maxRecDepth 20000 in
theorem gX8_does_X8_whyNotGive : GoodIn wsX8_does (wsV RX8 113 RX8 yX8_whyNotGive wsX8_whyNotGive) := goodIn_app (goodIn_of _ (by decide +kernel)) ggX8_does_X8_whyNotGive
set_option maxRecDepth 20000 in
theorem ggX8_does_X8_putGiven : GoodIn wsX8_does wsX8_putGiven := goodIn_r _ [39, 20, 40, 41, 42, 43, 44, 45, 46, 47, 48, 49, 50, 51, 52, 53, 54, 55, 56, 57, 58, 59, 60, 61, 62, 63, 64, 65, 66, 67, 68, 69] (by decide +kernel) (by decide +kernel)
set_option maxRecDepth 20000 in
theorem gX8_does_X8_putGiven : GoodIn wsX8_does (wsV RX8 117 RX8 yX8_putGiven wsX8_putGiven) := goodIn_app (goodIn_of _ (by decide +kernel)) ggX8_does_X8_putGiven
theorem dX8_does_0 : decode cX8_does 0 = .ok (.aload_n 0, 1) := by decide +kernel
theorem dX8_does_1 : decode cX8_does 1 = .ok (.getfield 72, 3) := by decide +kernel
theorem dX8_does_4 : decode cX8_does 4 = .ok (.iload_n 1, 1) := by decide +kernel
theorem dX8_does_5 : decode cX8_does 5 = .ok (.iaload, 1) := by decide +kernel
theorem dX8_does_6 : decode cX8_does 6 = .ok (.ifCond .ne 83, 3) := by decide +kernel
theorem dX8_does_9 : decode cX8_does 9 = .ok (.aload_n 0, 1) := by decide +kernel
theorem dX8_does_10 : decode cX8_does 10 = .ok (.aload_n 0, 1) := by decide +kernel
theorem dX8_does_11 : decode cX8_does 11 = .ok (.getfield 72, 3) := by decide +kernel
theorem dX8_does_14 : decode cX8_does 14 = .ok (.iload_n 1, 1) := by decide +kernel
theorem dX8_does_15 : decode cX8_does 15 = .ok (.iconst 1, 1) := by decide +kernel
theorem dX8_does_16 : decode cX8_does 16 = .ok (.iadd, 1) := by decide +kernel
theorem dX8_does_17 : decode cX8_does 17 = .ok (.iaload, 1) := by decide +kernel
theorem dX8_does_18 : decode cX8_does 18 = .ok (.aload_n 0, 1) := by decide +kernel
theorem dX8_does_19 : decode cX8_does 19 = .ok (.getfield 72, 3) := by decide +kernel
theorem dX8_does_22 : decode cX8_does 22 = .ok (.iload_n 1, 1) := by decide +kernel
theorem dX8_does_23 : decode cX8_does 23 = .ok (.iconst 2, 1) := by decide +kernel
theorem dX8_does_24 : decode cX8_does 24 = .ok (.iadd, 1) := by decide +kernel
theorem dX8_does_25 : decode cX8_does 25 = .ok (.iaload, 1) := by decide +kernel
theorem dX8_does_26 : decode cX8_does 26 = .ok (.aload_n 0, 1) := by decide +kernel
theorem dX8_does_27 : decode cX8_does 27 = .ok (.getfield 72, 3) := by decide +kernel
theorem dX8_does_30 : decode cX8_does 30 = .ok (.iload_n 1, 1) := by decide +kernel
theorem dX8_does_31 : decode cX8_does 31 = .ok (.iconst 3, 1) := by decide +kernel
theorem dX8_does_32 : decode cX8_does 32 = .ok (.iadd, 1) := by decide +kernel
theorem dX8_does_33 : decode cX8_does 33 = .ok (.iaload, 1) := by decide +kernel
theorem dX8_does_34 : decode cX8_does 34 = .ok (.aload_n 0, 1) := by decide +kernel
theorem dX8_does_35 : decode cX8_does 35 = .ok (.getfield 72, 3) := by decide +kernel
theorem dX8_does_38 : decode cX8_does 38 = .ok (.iload_n 1, 1) := by decide +kernel
theorem dX8_does_39 : decode cX8_does 39 = .ok (.iconst 4, 1) := by decide +kernel
theorem dX8_does_40 : decode cX8_does 40 = .ok (.iadd, 1) := by decide +kernel
theorem dX8_does_41 : decode cX8_does 41 = .ok (.iaload, 1) := by decide +kernel
theorem dX8_does_42 : decode cX8_does 42 = .ok (.invokevirtual 91, 3) := by decide +kernel
theorem dX8_does_45 : decode cX8_does 45 = .ok (.ifCond .le 5, 3) := by decide +kernel
theorem dX8_does_48 : decode cX8_does 48 = .ok (.iconst 0, 1) := by decide +kernel
theorem dX8_does_49 : decode cX8_does 49 = .ok (.ireturn, 1) := by decide +kernel
theorem dX8_does_50 : decode cX8_does 50 = .ok (.aload_n 0, 1) := by decide +kernel
theorem dX8_does_51 : decode cX8_does 51 = .ok (.aload_n 0, 1) := by decide +kernel
theorem dX8_does_52 : decode cX8_does 52 = .ok (.getfield 72, 3) := by decide +kernel
theorem dX8_does_55 : decode cX8_does 55 = .ok (.iload_n 1, 1) := by decide +kernel
theorem dX8_does_56 : decode cX8_does 56 = .ok (.iconst 1, 1) := by decide +kernel
theorem dX8_does_57 : decode cX8_does 57 = .ok (.iadd, 1) := by decide +kernel
theorem dX8_does_58 : decode cX8_does 58 = .ok (.iaload, 1) := by decide +kernel
theorem dX8_does_59 : decode cX8_does 59 = .ok (.aload_n 0, 1) := by decide +kernel
theorem dX8_does_60 : decode cX8_does 60 = .ok (.getfield 72, 3) := by decide +kernel
theorem dX8_does_63 : decode cX8_does 63 = .ok (.iload_n 1, 1) := by decide +kernel
theorem dX8_does_64 : decode cX8_does 64 = .ok (.iconst 2, 1) := by decide +kernel
theorem dX8_does_65 : decode cX8_does 65 = .ok (.iadd, 1) := by decide +kernel
theorem dX8_does_66 : decode cX8_does 66 = .ok (.iaload, 1) := by decide +kernel
theorem dX8_does_67 : decode cX8_does 67 = .ok (.aload_n 0, 1) := by decide +kernel
theorem dX8_does_68 : decode cX8_does 68 = .ok (.getfield 72, 3) := by decide +kernel
theorem dX8_does_71 : decode cX8_does 71 = .ok (.iload_n 1, 1) := by decide +kernel
theorem dX8_does_72 : decode cX8_does 72 = .ok (.iconst 3, 1) := by decide +kernel
theorem dX8_does_73 : decode cX8_does 73 = .ok (.iadd, 1) := by decide +kernel
theorem dX8_does_74 : decode cX8_does 74 = .ok (.iaload, 1) := by decide +kernel
theorem dX8_does_75 : decode cX8_does 75 = .ok (.aload_n 0, 1) := by decide +kernel
theorem dX8_does_76 : decode cX8_does 76 = .ok (.getfield 72, 3) := by decide +kernel
theorem dX8_does_79 : decode cX8_does 79 = .ok (.iload_n 1, 1) := by decide +kernel
theorem dX8_does_80 : decode cX8_does 80 = .ok (.iconst 4, 1) := by decide +kernel
theorem dX8_does_81 : decode cX8_does 81 = .ok (.iadd, 1) := by decide +kernel
theorem dX8_does_82 : decode cX8_does 82 = .ok (.iaload, 1) := by decide +kernel
theorem dX8_does_83 : decode cX8_does 83 = .ok (.invokevirtual 95, 3) := by decide +kernel
theorem dX8_does_86 : decode cX8_does 86 = .ok (.pop, 1) := by decide +kernel
theorem dX8_does_87 : decode cX8_does 87 = .ok (.iconst 1, 1) := by decide +kernel
theorem dX8_does_88 : decode cX8_does 88 = .ok (.ireturn, 1) := by decide +kernel
theorem dX8_does_89 : decode cX8_does 89 = .ok (.aload_n 0, 1) := by decide +kernel
theorem dX8_does_90 : decode cX8_does 90 = .ok (.getfield 72, 3) := by decide +kernel
theorem dX8_does_93 : decode cX8_does 93 = .ok (.iload_n 1, 1) := by decide +kernel
theorem dX8_does_94 : decode cX8_does 94 = .ok (.iaload, 1) := by decide +kernel
theorem dX8_does_95 : decode cX8_does 95 = .ok (.iconst 1, 1) := by decide +kernel
theorem dX8_does_96 : decode cX8_does 96 = .ok (.if_icmp .ne 7, 3) := by decide +kernel
theorem dX8_does_99 : decode cX8_does 99 = .ok (.iconst 1, 1) := by decide +kernel
theorem dX8_does_100 : decode cX8_does 100 = .ok (.goto 4, 3) := by decide +kernel
theorem dX8_does_103 : decode cX8_does 103 = .ok (.iconst 0, 1) := by decide +kernel
theorem dX8_does_104 : decode cX8_does 104 = .ok (.istore_n 2, 1) := by decide +kernel
theorem dX8_does_105 : decode cX8_does 105 = .ok (.aload_n 0, 1) := by decide +kernel
theorem dX8_does_106 : decode cX8_does 106 = .ok (.aload_n 0, 1) := by decide +kernel
theorem dX8_does_107 : decode cX8_does 107 = .ok (.getfield 72, 3) := by decide +kernel
theorem dX8_does_110 : decode cX8_does 110 = .ok (.iload_n 1, 1) := by decide +kernel
theorem dX8_does_111 : decode cX8_does 111 = .ok (.iconst 1, 1) := by decide +kernel
theorem dX8_does_112 : decode cX8_does 112 = .ok (.iadd, 1) := by decide +kernel
theorem dX8_does_113 : decode cX8_does 113 = .ok (.iaload, 1) := by decide +kernel
theorem dX8_does_114 : decode cX8_does 114 = .ok (.aload_n 0, 1) := by decide +kernel
theorem dX8_does_115 : decode cX8_does 115 = .ok (.getfield 72, 3) := by decide +kernel
theorem dX8_does_118 : decode cX8_does 118 = .ok (.iload_n 1, 1) := by decide +kernel
theorem dX8_does_119 : decode cX8_does 119 = .ok (.iconst 2, 1) := by decide +kernel
theorem dX8_does_120 : decode cX8_does 120 = .ok (.iadd, 1) := by decide +kernel
theorem dX8_does_121 : decode cX8_does 121 = .ok (.iaload, 1) := by decide +kernel
theorem dX8_does_122 : decode cX8_does 122 = .ok (.iload_n 2, 1) := by decide +kernel
theorem dX8_does_123 : decode cX8_does 123 = .ok (.invokevirtual 113, 3) := by decide +kernel
theorem dX8_does_126 : decode cX8_does 126 = .ok (.ifCond .le 5, 3) := by decide +kernel
theorem dX8_does_129 : decode cX8_does 129 = .ok (.iconst 0, 1) := by decide +kernel
theorem dX8_does_130 : decode cX8_does 130 = .ok (.ireturn, 1) := by decide +kernel
theorem dX8_does_131 : decode cX8_does 131 = .ok (.aload_n 0, 1) := by decide +kernel
theorem dX8_does_132 : decode cX8_does 132 = .ok (.aload_n 0, 1) := by decide +kernel
theorem dX8_does_133 : decode cX8_does 133 = .ok (.getfield 72, 3) := by decide +kernel
theorem dX8_does_136 : decode cX8_does 136 = .ok (.iload_n 1, 1) := by decide +kernel
theorem dX8_does_137 : decode cX8_does 137 = .ok (.iconst 1, 1) := by decide +kernel
theorem dX8_does_138 : decode cX8_does 138 = .ok (.iadd, 1) := by decide +kernel
theorem dX8_does_139 : decode cX8_does 139 = .ok (.iaload, 1) := by decide +kernel
theorem dX8_does_140 : decode cX8_does 140 = .ok (.aload_n 0, 1) := by decide +kernel
theorem dX8_does_141 : decode cX8_does 141 = .ok (.getfield 72, 3) := by decide +kernel
theorem dX8_does_144 : decode cX8_does 144 = .ok (.iload_n 1, 1) := by decide +kernel
theorem dX8_does_145 : decode cX8_does 145 = .ok (.iconst 2, 1) := by decide +kernel
theorem dX8_does_146 : decode cX8_does 146 = .ok (.iadd, 1) := by decide +kernel
theorem dX8_does_147 : decode cX8_does 147 = .ok (.iaload, 1) := by decide +kernel
theorem dX8_does_148 : decode cX8_does 148 = .ok (.iload_n 2, 1) := by decide +kernel
theorem dX8_does_149 : decode cX8_does 149 = .ok (.invokevirtual 117, 3) := by decide +kernel
theorem dX8_does_152 : decode cX8_does 152 = .ok (.iconst 1, 1) := by decide +kernel
theorem dX8_does_153 : decode cX8_does 153 = .ok (.ireturn, 1) := by decide +kernel
set_option maxRecDepth 20000 in
theorem ggX8_carryOut_X8_readText : GoodIn wsX8_carryOut wsX8_readText := goodIn_r _ [8, 9, 2, 3, 10, 11, 12, 13, 14, 7, 15, 16, 17, 18, 19, 20, 21, 22, 23, 24, 25, 26, 27, 28, 29, 30, 31, 32, 33, 34, 35, 36, 37, 38, 39, 84, 85, 86, 87, 88, 89, 90, 91, 92, 93, 94, 95, 96, 97, 98, 99, 100, 101, 102, 103, 104, 105, 106, 107, 108, 109, 110, 111, 112, 113] (by decide +kernel) (by decide +kernel)
set_option maxRecDepth 20000 in
theorem gX8_carryOut_X8_readText : GoodIn wsX8_carryOut (wsV RX8 252 RX8 yX8_readText wsX8_readText) := goodIn_app (goodIn_of _ (by decide +kernel)) ggX8_carryOut_X8_readText
set_option maxRecDepth 20000 in
theorem ggX8_carryOut_X8_save : GoodIn wsX8_carryOut wsX8_save := goodIn_r _ [43, 44, 45, 46, 47, 48, 49, 50, 51, 52, 84, 85, 86, 87, 88, 89, 90, 91, 92, 93, 94, 95, 96, 97, 98, 99, 100, 101, 102, 103, 104, 105, 106, 107, 108, 109, 110, 111, 112, 113] (by decide +kernel) (by decide +kernel)
set_option maxRecDepth 20000 in
theorem gX8_carryOut_X8_save : GoodIn wsX8_carryOut (wsV RX8 88 RX8 yX8_save wsX8_save) := goodIn_app (goodIn_of _ (by decide +kernel)) ggX8_carryOut_X8_save
set_option maxRecDepth 20000 in
theorem ggX8_carryOut_X8_does : GoodIn wsX8_carryOut wsX8_does := goodIn_r _ [56, 11, 57, 58, 59, 7, 60, 46, 47, 25, 26, 27, 61, 62, 63, 64, 48, 49, 50, 51, 52, 65, 66, 67, 68, 69, 70, 71, 72, 73, 74, 75, 76, 77, 78, 79, 80, 81, 82, 83, 84, 85, 86, 87, 88, 89, 90, 91, 92, 93, 94, 95, 96, 97, 98, 99, 100, 101, 102, 103, 104, 105, 106, 107, 108, 109, 110, 111, 112, 113] (by decide +kernel) (by decide +kernel)
set_option maxRecDepth 20000 in
theorem gX8_carryOut_X8_does : GoodIn wsX8_carryOut (wsV RX8 255 RX8 yX8_does wsX8_does) := goodIn_app (goodIn_of _ (by decide +kernel)) ggX8_carryOut_X8_does
theorem dX8_carryOut_0 : decode cX8_carryOut 0 = .ok (.aload_n 0, 1) := by decide +kernel
theorem dX8_carryOut_1 : decode cX8_carryOut 1 = .ok (.iconst 0, 1) := by decide +kernel
theorem dX8_carryOut_2 : decode cX8_carryOut 2 = .ok (.putfield 75, 3) := by decide +kernel
theorem dX8_carryOut_5 : decode cX8_carryOut 5 = .ok (.aload_n 0, 1) := by decide +kernel
theorem dX8_carryOut_6 : decode cX8_carryOut 6 = .ok (.invokevirtual 252, 3) := by decide +kernel
theorem dX8_carryOut_9 : decode cX8_carryOut 9 = .ok (.aload_n 0, 1) := by decide +kernel
theorem dX8_carryOut_10 : decode cX8_carryOut 10 = .ok (.getfield 223, 3) := by decide +kernel
theorem dX8_carryOut_13 : decode cX8_carryOut 13 = .ok (.iconst (-1), 1) := by decide +kernel
theorem dX8_carryOut_14 : decode cX8_carryOut 14 = .ok (.if_icmp .eq 11, 3) := by decide +kernel
theorem dX8_carryOut_17 : decode cX8_carryOut 17 = .ok (.bipush (-10), 2) := by decide +kernel
theorem dX8_carryOut_19 : decode cX8_carryOut 19 = .ok (.aload_n 0, 1) := by decide +kernel
theorem dX8_carryOut_20 : decode cX8_carryOut 20 = .ok (.getfield 223, 3) := by decide +kernel
theorem dX8_carryOut_23 : decode cX8_carryOut 23 = .ok (.isub, 1) := by decide +kernel
theorem dX8_carryOut_24 : decode cX8_carryOut 24 = .ok (.ireturn, 1) := by decide +kernel
theorem dX8_carryOut_25 : decode cX8_carryOut 25 = .ok (.aload_n 0, 1) := by decide +kernel
theorem dX8_carryOut_26 : decode cX8_carryOut 26 = .ok (.invokevirtual 88, 3) := by decide +kernel
theorem dX8_carryOut_29 : decode cX8_carryOut 29 = .ok (.iconst 0, 1) := by decide +kernel
theorem dX8_carryOut_30 : decode cX8_carryOut 30 = .ok (.istore_n 1, 1) := by decide +kernel
theorem dX8_carryOut_31 : decode cX8_carryOut 31 = .ok (.iload_n 1, 1) := by decide +kernel
theorem dX8_carryOut_32 : decode cX8_carryOut 32 = .ok (.aload_n 0, 1) := by decide +kernel
theorem dX8_carryOut_33 : decode cX8_carryOut 33 = .ok (.getfield 246, 3) := by decide +kernel
theorem dX8_carryOut_36 : decode cX8_carryOut 36 = .ok (.if_icmp .ge 19, 3) := by decide +kernel
theorem dX8_carryOut_39 : decode cX8_carryOut 39 = .ok (.aload_n 0, 1) := by decide +kernel
theorem dX8_carryOut_40 : decode cX8_carryOut 40 = .ok (.iconst 5, 1) := by decide +kernel
theorem dX8_carryOut_41 : decode cX8_carryOut 41 = .ok (.iload_n 1, 1) := by decide +kernel
theorem dX8_carryOut_42 : decode cX8_carryOut 42 = .ok (.imul, 1) := by decide +kernel
theorem dX8_carryOut_43 : decode cX8_carryOut 43 = .ok (.invokevirtual 255, 3) := by decide +kernel
theorem dX8_carryOut_46 : decode cX8_carryOut 46 = .ok (.ifCond .eq 9, 3) := by decide +kernel
theorem dX8_carryOut_49 : decode cX8_carryOut 49 = .ok (.iinc 1 1, 3) := by decide +kernel
theorem dX8_carryOut_52 : decode cX8_carryOut 52 = .ok (.goto (-21), 3) := by decide +kernel
theorem dX8_carryOut_55 : decode cX8_carryOut 55 = .ok (.iload_n 1, 1) := by decide +kernel
theorem dX8_carryOut_56 : decode cX8_carryOut 56 = .ok (.ireturn, 1) := by decide +kernel
set_option maxRecDepth 20000 in
theorem ggX8_digest_X8_number : GoodIn wsX8_digest wsX8_number := goodIn_r _ [19, 20, 5, 21, 22, 23, 18, 24, 10, 25, 26, 27, 28, 29, 30, 31, 6, 32, 33, 34, 35, 11, 7, 12, 8, 13, 36, 37, 38, 39, 40, 41, 42, 9, 43, 44, 45, 46, 47, 48, 49, 50, 51, 52, 53, 54, 55, 56, 57, 58, 59, 60, 61, 62, 63, 64, 65, 66, 67, 68, 69, 70, 71, 72, 73, 74, 75, 76, 77, 78, 79, 80, 81, 82, 83, 84, 85, 86, 87, 88, 89, 94, 95, 96, 97, 98, 99, 100, 101, 102, 103, 104, 105, 106, 107, 108, 109, 110, 111, 112, 113, 114, 115, 116, 117, 118, 119, 120, 121, 122, 123] (by decide +kernel) (by decide +kernel)
set_option maxRecDepth 20000 in
theorem gX8_digest_X8_number : GoodIn wsX8_digest (wsV RX8 179 RX8 yX8_number wsX8_number) := goodIn_app (goodIn_of _ (by decide +kernel)) ggX8_digest_X8_number
set_option maxRecDepth 20000 in
theorem ggX8_digest_X8_reason : GoodIn wsX8_digest wsX8_reason := goodIn_r _ [35, 5, 11, 7, 12, 8, 13, 10, 36, 37, 38, 39, 18, 40, 41, 42, 9, 6, 43, 44, 45, 46, 47, 48, 49, 50, 51, 52, 53, 54, 55, 56, 57, 58, 59, 60, 61, 62, 63, 64, 65, 66, 67, 68, 69, 70, 71, 72, 73, 74, 75, 76, 77, 78, 79, 80, 81, 82, 83, 84, 85, 94, 95, 96, 97, 98, 99, 100, 101, 102, 103, 104, 105, 106, 107, 108, 109, 110, 111, 112, 113, 114, 115, 116, 117, 118, 119, 120, 121, 122, 123] (by decide +kernel) (by decide +kernel)
set_option maxRecDepth 20000 in
theorem gX8_digest_X8_reason : GoodIn wsX8_digest (wsV RX8 173 RX8 yX8_reason wsX8_reason) := goodIn_app (goodIn_of _ (by decide +kernel)) ggX8_digest_X8_reason
set_option maxRecDepth 20000 in
theorem ggX8_digest_X8_givenTo : GoodIn wsX8_digest wsX8_givenTo := goodIn_r _ [93, 5, 10, 47, 48, 18, 49, 94, 95, 96, 97, 98, 99, 100, 101, 102, 103, 104, 105, 106, 107, 108, 109, 110, 111, 112, 113, 114, 115, 116, 117, 118, 119, 120, 121, 122, 123] (by decide +kernel) (by decide +kernel)
set_option maxRecDepth 20000 in
theorem gX8_digest_X8_givenTo : GoodIn wsX8_digest (wsV RX8 125 RX8 yX8_givenTo wsX8_givenTo) := goodIn_app (goodIn_of _ (by decide +kernel)) ggX8_digest_X8_givenTo
theorem dX8_digest_0 : decode cX8_digest 0 = .ok (.aload_n 0, 1) := by decide +kernel
theorem dX8_digest_1 : decode cX8_digest 1 = .ok (.iconst 0, 1) := by decide +kernel
theorem dX8_digest_2 : decode cX8_digest 2 = .ok (.putfield 75, 3) := by decide +kernel
theorem dX8_digest_5 : decode cX8_digest 5 = .ok (.ldc2_w 258, 3) := by decide +kernel
theorem dX8_digest_8 : decode cX8_digest 8 = .ok (.aload_n 0, 1) := by decide +kernel
theorem dX8_digest_9 : decode cX8_digest 9 = .ok (.getfield 220, 3) := by decide +kernel
theorem dX8_digest_12 : decode cX8_digest 12 = .ok (.i2l, 1) := by decide +kernel
theorem dX8_digest_13 : decode cX8_digest 13 = .ok (.ladd, 1) := by decide +kernel
theorem dX8_digest_14 : decode cX8_digest 14 = .ok (.lstore_n 1, 1) := by decide +kernel
theorem dX8_digest_15 : decode cX8_digest 15 = .ok (.iconst 0, 1) := by decide +kernel
theorem dX8_digest_16 : decode cX8_digest 16 = .ok (.istore_n 3, 1) := by decide +kernel
theorem dX8_digest_17 : decode cX8_digest 17 = .ok (.iload_n 3, 1) := by decide +kernel
theorem dX8_digest_18 : decode cX8_digest 18 = .ok (.bipush 6, 2) := by decide +kernel
theorem dX8_digest_20 : decode cX8_digest 20 = .ok (.if_icmp .ge 22, 3) := by decide +kernel
theorem dX8_digest_23 : decode cX8_digest 23 = .ok (.ldc2_w 260, 3) := by decide +kernel
theorem dX8_digest_26 : decode cX8_digest 26 = .ok (.lload_n 1, 1) := by decide +kernel
theorem dX8_digest_27 : decode cX8_digest 27 = .ok (.lmul, 1) := by decide +kernel
theorem dX8_digest_28 : decode cX8_digest 28 = .ok (.aload_n 0, 1) := by decide +kernel
theorem dX8_digest_29 : decode cX8_digest 29 = .ok (.iload_n 3, 1) := by decide +kernel
theorem dX8_digest_30 : decode cX8_digest 30 = .ok (.invokevirtual 179, 3) := by decide +kernel
theorem dX8_digest_33 : decode cX8_digest 33 = .ok (.i2l, 1) := by decide +kernel
theorem dX8_digest_34 : decode cX8_digest 34 = .ok (.ladd, 1) := by decide +kernel
theorem dX8_digest_35 : decode cX8_digest 35 = .ok (.lstore_n 1, 1) := by decide +kernel
theorem dX8_digest_36 : decode cX8_digest 36 = .ok (.iinc 3 1, 3) := by decide +kernel
theorem dX8_digest_39 : decode cX8_digest 39 = .ok (.goto (-22), 3) := by decide +kernel
theorem dX8_digest_42 : decode cX8_digest 42 = .ok (.aload_n 0, 1) := by decide +kernel
theorem dX8_digest_43 : decode cX8_digest 43 = .ok (.invokevirtual 173, 3) := by decide +kernel
theorem dX8_digest_46 : decode cX8_digest 46 = .ok (.istore_n 3, 1) := by decide +kernel
theorem dX8_digest_47 : decode cX8_digest 47 = .ok (.iconst 0, 1) := by decide +kernel
theorem dX8_digest_48 : decode cX8_digest 48 = .ok (.istore 4, 2) := by decide +kernel
theorem dX8_digest_50 : decode cX8_digest 50 = .ok (.iload 4, 2) := by decide +kernel
theorem dX8_digest_52 : decode cX8_digest 52 = .ok (.aload_n 0, 1) := by decide +kernel
theorem dX8_digest_53 : decode cX8_digest 53 = .ok (.getfield 78, 3) := by decide +kernel
theorem dX8_digest_56 : decode cX8_digest 56 = .ok (.if_icmp .ge 147, 3) := by decide +kernel
theorem dX8_digest_59 : decode cX8_digest 59 = .ok (.ldc2_w 260, 3) := by decide +kernel
theorem dX8_digest_62 : decode cX8_digest 62 = .ok (.lload_n 1, 1) := by decide +kernel
theorem dX8_digest_63 : decode cX8_digest 63 = .ok (.lmul, 1) := by decide +kernel
theorem dX8_digest_64 : decode cX8_digest 64 = .ok (.aload_n 0, 1) := by decide +kernel
theorem dX8_digest_65 : decode cX8_digest 65 = .ok (.getfield 13, 3) := by decide +kernel
theorem dX8_digest_68 : decode cX8_digest 68 = .ok (.iload 4, 2) := by decide +kernel
theorem dX8_digest_70 : decode cX8_digest 70 = .ok (.iaload, 1) := by decide +kernel
theorem dX8_digest_71 : decode cX8_digest 71 = .ok (.i2l, 1) := by decide +kernel
theorem dX8_digest_72 : decode cX8_digest 72 = .ok (.ladd, 1) := by decide +kernel
theorem dX8_digest_73 : decode cX8_digest 73 = .ok (.lstore_n 1, 1) := by decide +kernel
theorem dX8_digest_74 : decode cX8_digest 74 = .ok (.ldc2_w 260, 3) := by decide +kernel
theorem dX8_digest_77 : decode cX8_digest 77 = .ok (.lload_n 1, 1) := by decide +kernel
theorem dX8_digest_78 : decode cX8_digest 78 = .ok (.lmul, 1) := by decide +kernel
theorem dX8_digest_79 : decode cX8_digest 79 = .ok (.aload_n 0, 1) := by decide +kernel
theorem dX8_digest_80 : decode cX8_digest 80 = .ok (.getfield 17, 3) := by decide +kernel
theorem dX8_digest_83 : decode cX8_digest 83 = .ok (.iload 4, 2) := by decide +kernel
theorem dX8_digest_85 : decode cX8_digest 85 = .ok (.iaload, 1) := by decide +kernel
theorem dX8_digest_86 : decode cX8_digest 86 = .ok (.i2l, 1) := by decide +kernel
theorem dX8_digest_87 : decode cX8_digest 87 = .ok (.ladd, 1) := by decide +kernel
theorem dX8_digest_88 : decode cX8_digest 88 = .ok (.lstore_n 1, 1) := by decide +kernel
theorem dX8_digest_89 : decode cX8_digest 89 = .ok (.ldc2_w 260, 3) := by decide +kernel
theorem dX8_digest_92 : decode cX8_digest 92 = .ok (.lload_n 1, 1) := by decide +kernel
theorem dX8_digest_93 : decode cX8_digest 93 = .ok (.lmul, 1) := by decide +kernel
theorem dX8_digest_94 : decode cX8_digest 94 = .ok (.aload_n 0, 1) := by decide +kernel
theorem dX8_digest_95 : decode cX8_digest 95 = .ok (.getfield 20, 3) := by decide +kernel
theorem dX8_digest_98 : decode cX8_digest 98 = .ok (.iload 4, 2) := by decide +kernel
theorem dX8_digest_100 : decode cX8_digest 100 = .ok (.iaload, 1) := by decide +kernel
theorem dX8_digest_101 : decode cX8_digest 101 = .ok (.i2l, 1) := by decide +kernel
theorem dX8_digest_102 : decode cX8_digest 102 = .ok (.ladd, 1) := by decide +kernel
theorem dX8_digest_103 : decode cX8_digest 103 = .ok (.lstore_n 1, 1) := by decide +kernel
theorem dX8_digest_104 : decode cX8_digest 104 = .ok (.ldc2_w 260, 3) := by decide +kernel
theorem dX8_digest_107 : decode cX8_digest 107 = .ok (.lload_n 1, 1) := by decide +kernel
theorem dX8_digest_108 : decode cX8_digest 108 = .ok (.lmul, 1) := by decide +kernel
theorem dX8_digest_109 : decode cX8_digest 109 = .ok (.aload_n 0, 1) := by decide +kernel
theorem dX8_digest_110 : decode cX8_digest 110 = .ok (.getfield 23, 3) := by decide +kernel
theorem dX8_digest_113 : decode cX8_digest 113 = .ok (.iload 4, 2) := by decide +kernel
theorem dX8_digest_115 : decode cX8_digest 115 = .ok (.iaload, 1) := by decide +kernel
theorem dX8_digest_116 : decode cX8_digest 116 = .ok (.i2l, 1) := by decide +kernel
theorem dX8_digest_117 : decode cX8_digest 117 = .ok (.ladd, 1) := by decide +kernel
theorem dX8_digest_118 : decode cX8_digest 118 = .ok (.lstore_n 1, 1) := by decide +kernel
theorem dX8_digest_119 : decode cX8_digest 119 = .ok (.ldc2_w 260, 3) := by decide +kernel
theorem dX8_digest_122 : decode cX8_digest 122 = .ok (.lload_n 1, 1) := by decide +kernel
theorem dX8_digest_123 : decode cX8_digest 123 = .ok (.lmul, 1) := by decide +kernel
theorem dX8_digest_124 : decode cX8_digest 124 = .ok (.aload_n 0, 1) := by decide +kernel
theorem dX8_digest_125 : decode cX8_digest 125 = .ok (.iload 4, 2) := by decide +kernel
theorem dX8_digest_127 : decode cX8_digest 127 = .ok (.invokevirtual 125, 3) := by decide +kernel
theorem dX8_digest_130 : decode cX8_digest 130 = .ok (.i2l, 1) := by decide +kernel
theorem dX8_digest_131 : decode cX8_digest 131 = .ok (.ladd, 1) := by decide +kernel
theorem dX8_digest_132 : decode cX8_digest 132 = .ok (.lstore_n 1, 1) := by decide +kernel
theorem dX8_digest_133 : decode cX8_digest 133 = .ok (.ldc2_w 260, 3) := by decide +kernel
theorem dX8_digest_136 : decode cX8_digest 136 = .ok (.lload_n 1, 1) := by decide +kernel
theorem dX8_digest_137 : decode cX8_digest 137 = .ok (.lmul, 1) := by decide +kernel
theorem dX8_digest_138 : decode cX8_digest 138 = .ok (.aload_n 0, 1) := by decide +kernel
theorem dX8_digest_139 : decode cX8_digest 139 = .ok (.getfield 26, 3) := by decide +kernel
theorem dX8_digest_142 : decode cX8_digest 142 = .ok (.iload 4, 2) := by decide +kernel
theorem dX8_digest_144 : decode cX8_digest 144 = .ok (.iaload, 1) := by decide +kernel
theorem dX8_digest_145 : decode cX8_digest 145 = .ok (.i2l, 1) := by decide +kernel
theorem dX8_digest_146 : decode cX8_digest 146 = .ok (.ladd, 1) := by decide +kernel
theorem dX8_digest_147 : decode cX8_digest 147 = .ok (.lstore_n 1, 1) := by decide +kernel
theorem dX8_digest_148 : decode cX8_digest 148 = .ok (.iload_n 3, 1) := by decide +kernel
theorem dX8_digest_149 : decode cX8_digest 149 = .ok (.ifCond .eq 48, 3) := by decide +kernel
theorem dX8_digest_152 : decode cX8_digest 152 = .ok (.ldc2_w 260, 3) := by decide +kernel
theorem dX8_digest_155 : decode cX8_digest 155 = .ok (.lload_n 1, 1) := by decide +kernel
theorem dX8_digest_156 : decode cX8_digest 156 = .ok (.lmul, 1) := by decide +kernel
theorem dX8_digest_157 : decode cX8_digest 157 = .ok (.aload_n 0, 1) := by decide +kernel
theorem dX8_digest_158 : decode cX8_digest 158 = .ok (.getfield 35, 3) := by decide +kernel
theorem dX8_digest_161 : decode cX8_digest 161 = .ok (.iload 4, 2) := by decide +kernel
theorem dX8_digest_163 : decode cX8_digest 163 = .ok (.iaload, 1) := by decide +kernel
theorem dX8_digest_164 : decode cX8_digest 164 = .ok (.i2l, 1) := by decide +kernel
theorem dX8_digest_165 : decode cX8_digest 165 = .ok (.ladd, 1) := by decide +kernel
theorem dX8_digest_166 : decode cX8_digest 166 = .ok (.lstore_n 1, 1) := by decide +kernel
theorem dX8_digest_167 : decode cX8_digest 167 = .ok (.ldc2_w 260, 3) := by decide +kernel
theorem dX8_digest_170 : decode cX8_digest 170 = .ok (.lload_n 1, 1) := by decide +kernel
theorem dX8_digest_171 : decode cX8_digest 171 = .ok (.lmul, 1) := by decide +kernel
theorem dX8_digest_172 : decode cX8_digest 172 = .ok (.aload_n 0, 1) := by decide +kernel
theorem dX8_digest_173 : decode cX8_digest 173 = .ok (.getfield 38, 3) := by decide +kernel
theorem dX8_digest_176 : decode cX8_digest 176 = .ok (.iload 4, 2) := by decide +kernel
theorem dX8_digest_178 : decode cX8_digest 178 = .ok (.iaload, 1) := by decide +kernel
theorem dX8_digest_179 : decode cX8_digest 179 = .ok (.i2l, 1) := by decide +kernel
theorem dX8_digest_180 : decode cX8_digest 180 = .ok (.ladd, 1) := by decide +kernel
theorem dX8_digest_181 : decode cX8_digest 181 = .ok (.lstore_n 1, 1) := by decide +kernel
theorem dX8_digest_182 : decode cX8_digest 182 = .ok (.ldc2_w 260, 3) := by decide +kernel
theorem dX8_digest_185 : decode cX8_digest 185 = .ok (.lload_n 1, 1) := by decide +kernel
theorem dX8_digest_186 : decode cX8_digest 186 = .ok (.lmul, 1) := by decide +kernel
theorem dX8_digest_187 : decode cX8_digest 187 = .ok (.aload_n 0, 1) := by decide +kernel
theorem dX8_digest_188 : decode cX8_digest 188 = .ok (.getfield 41, 3) := by decide +kernel
theorem dX8_digest_191 : decode cX8_digest 191 = .ok (.iload 4, 2) := by decide +kernel
theorem dX8_digest_193 : decode cX8_digest 193 = .ok (.iaload, 1) := by decide +kernel
theorem dX8_digest_194 : decode cX8_digest 194 = .ok (.i2l, 1) := by decide +kernel
theorem dX8_digest_195 : decode cX8_digest 195 = .ok (.ladd, 1) := by decide +kernel
theorem dX8_digest_196 : decode cX8_digest 196 = .ok (.lstore_n 1, 1) := by decide +kernel
theorem dX8_digest_197 : decode cX8_digest 197 = .ok (.iinc 4 1, 3) := by decide +kernel
theorem dX8_digest_200 : decode cX8_digest 200 = .ok (.goto (-150), 3) := by decide +kernel
theorem dX8_digest_203 : decode cX8_digest 203 = .ok (.ldc2_w 260, 3) := by decide +kernel
theorem dX8_digest_206 : decode cX8_digest 206 = .ok (.lload_n 1, 1) := by decide +kernel
theorem dX8_digest_207 : decode cX8_digest 207 = .ok (.lmul, 1) := by decide +kernel
theorem dX8_digest_208 : decode cX8_digest 208 = .ok (.aload_n 0, 1) := by decide +kernel
theorem dX8_digest_209 : decode cX8_digest 209 = .ok (.getfield 81, 3) := by decide +kernel
theorem dX8_digest_212 : decode cX8_digest 212 = .ok (.i2l, 1) := by decide +kernel
theorem dX8_digest_213 : decode cX8_digest 213 = .ok (.ladd, 1) := by decide +kernel
theorem dX8_digest_214 : decode cX8_digest 214 = .ok (.lreturn, 1) := by decide +kernel
theorem dJ6_bitCount_0f7a4_0 : decode cJ6_bitCount_0f7a4 0 = .ok (.iload_n 0, 1) := by decide +kernel
theorem dJ6_bitCount_0f7a4_1 : decode cJ6_bitCount_0f7a4 1 = .ok (.iload_n 0, 1) := by decide +kernel
theorem dJ6_bitCount_0f7a4_2 : decode cJ6_bitCount_0f7a4 2 = .ok (.iconst 1, 1) := by decide +kernel
theorem dJ6_bitCount_0f7a4_3 : decode cJ6_bitCount_0f7a4 3 = .ok (.iushr, 1) := by decide +kernel
theorem dJ6_bitCount_0f7a4_4 : decode cJ6_bitCount_0f7a4 4 = .ok (.ldc_w 265, 3) := by decide +kernel
theorem dJ6_bitCount_0f7a4_7 : decode cJ6_bitCount_0f7a4 7 = .ok (.iand, 1) := by decide +kernel
theorem dJ6_bitCount_0f7a4_8 : decode cJ6_bitCount_0f7a4 8 = .ok (.isub, 1) := by decide +kernel
theorem dJ6_bitCount_0f7a4_9 : decode cJ6_bitCount_0f7a4 9 = .ok (.istore_n 0, 1) := by decide +kernel
theorem dJ6_bitCount_0f7a4_10 : decode cJ6_bitCount_0f7a4 10 = .ok (.iload_n 0, 1) := by decide +kernel
theorem dJ6_bitCount_0f7a4_11 : decode cJ6_bitCount_0f7a4 11 = .ok (.ldc_w 266, 3) := by decide +kernel
theorem dJ6_bitCount_0f7a4_14 : decode cJ6_bitCount_0f7a4 14 = .ok (.iand, 1) := by decide +kernel
theorem dJ6_bitCount_0f7a4_15 : decode cJ6_bitCount_0f7a4 15 = .ok (.iload_n 0, 1) := by decide +kernel
theorem dJ6_bitCount_0f7a4_16 : decode cJ6_bitCount_0f7a4 16 = .ok (.iconst 2, 1) := by decide +kernel
theorem dJ6_bitCount_0f7a4_17 : decode cJ6_bitCount_0f7a4 17 = .ok (.iushr, 1) := by decide +kernel
theorem dJ6_bitCount_0f7a4_18 : decode cJ6_bitCount_0f7a4 18 = .ok (.ldc_w 266, 3) := by decide +kernel
theorem dJ6_bitCount_0f7a4_21 : decode cJ6_bitCount_0f7a4 21 = .ok (.iand, 1) := by decide +kernel
theorem dJ6_bitCount_0f7a4_22 : decode cJ6_bitCount_0f7a4 22 = .ok (.iadd, 1) := by decide +kernel
theorem dJ6_bitCount_0f7a4_23 : decode cJ6_bitCount_0f7a4 23 = .ok (.istore_n 0, 1) := by decide +kernel
theorem dJ6_bitCount_0f7a4_24 : decode cJ6_bitCount_0f7a4 24 = .ok (.iload_n 0, 1) := by decide +kernel
theorem dJ6_bitCount_0f7a4_25 : decode cJ6_bitCount_0f7a4 25 = .ok (.iload_n 0, 1) := by decide +kernel
theorem dJ6_bitCount_0f7a4_26 : decode cJ6_bitCount_0f7a4 26 = .ok (.iconst 4, 1) := by decide +kernel
theorem dJ6_bitCount_0f7a4_27 : decode cJ6_bitCount_0f7a4 27 = .ok (.iushr, 1) := by decide +kernel
theorem dJ6_bitCount_0f7a4_28 : decode cJ6_bitCount_0f7a4 28 = .ok (.iadd, 1) := by decide +kernel
theorem dJ6_bitCount_0f7a4_29 : decode cJ6_bitCount_0f7a4 29 = .ok (.ldc_w 267, 3) := by decide +kernel
theorem dJ6_bitCount_0f7a4_32 : decode cJ6_bitCount_0f7a4 32 = .ok (.iand, 1) := by decide +kernel
theorem dJ6_bitCount_0f7a4_33 : decode cJ6_bitCount_0f7a4 33 = .ok (.istore_n 0, 1) := by decide +kernel
theorem dJ6_bitCount_0f7a4_34 : decode cJ6_bitCount_0f7a4 34 = .ok (.iload_n 0, 1) := by decide +kernel
theorem dJ6_bitCount_0f7a4_35 : decode cJ6_bitCount_0f7a4 35 = .ok (.iload_n 0, 1) := by decide +kernel
theorem dJ6_bitCount_0f7a4_36 : decode cJ6_bitCount_0f7a4 36 = .ok (.bipush 8, 2) := by decide +kernel
theorem dJ6_bitCount_0f7a4_38 : decode cJ6_bitCount_0f7a4 38 = .ok (.iushr, 1) := by decide +kernel
theorem dJ6_bitCount_0f7a4_39 : decode cJ6_bitCount_0f7a4 39 = .ok (.iadd, 1) := by decide +kernel
theorem dJ6_bitCount_0f7a4_40 : decode cJ6_bitCount_0f7a4 40 = .ok (.istore_n 0, 1) := by decide +kernel
theorem dJ6_bitCount_0f7a4_41 : decode cJ6_bitCount_0f7a4 41 = .ok (.iload_n 0, 1) := by decide +kernel
theorem dJ6_bitCount_0f7a4_42 : decode cJ6_bitCount_0f7a4 42 = .ok (.iload_n 0, 1) := by decide +kernel
theorem dJ6_bitCount_0f7a4_43 : decode cJ6_bitCount_0f7a4 43 = .ok (.bipush 16, 2) := by decide +kernel
theorem dJ6_bitCount_0f7a4_45 : decode cJ6_bitCount_0f7a4 45 = .ok (.iushr, 1) := by decide +kernel
theorem dJ6_bitCount_0f7a4_46 : decode cJ6_bitCount_0f7a4 46 = .ok (.iadd, 1) := by decide +kernel
theorem dJ6_bitCount_0f7a4_47 : decode cJ6_bitCount_0f7a4 47 = .ok (.istore_n 0, 1) := by decide +kernel
theorem dJ6_bitCount_0f7a4_48 : decode cJ6_bitCount_0f7a4 48 = .ok (.iload_n 0, 1) := by decide +kernel
theorem dJ6_bitCount_0f7a4_49 : decode cJ6_bitCount_0f7a4 49 = .ok (.bipush 63, 2) := by decide +kernel
theorem dJ6_bitCount_0f7a4_51 : decode cJ6_bitCount_0f7a4 51 = .ok (.iand, 1) := by decide +kernel
theorem dJ6_bitCount_0f7a4_52 : decode cJ6_bitCount_0f7a4 52 = .ok (.ireturn, 1) := by decide +kernel
theorem dJ9_max_7cf53_0 : decode cJ9_max_7cf53 0 = .ok (.iload_n 0, 1) := by decide +kernel
theorem dJ9_max_7cf53_1 : decode cJ9_max_7cf53 1 = .ok (.iload_n 1, 1) := by decide +kernel
theorem dJ9_max_7cf53_2 : decode cJ9_max_7cf53 2 = .ok (.if_icmp .lt 7, 3) := by decide +kernel
theorem dJ9_max_7cf53_5 : decode cJ9_max_7cf53 5 = .ok (.iload_n 0, 1) := by decide +kernel
theorem dJ9_max_7cf53_6 : decode cJ9_max_7cf53 6 = .ok (.goto 4, 3) := by decide +kernel
theorem dJ9_max_7cf53_9 : decode cJ9_max_7cf53 9 = .ok (.iload_n 1, 1) := by decide +kernel
theorem dJ9_max_7cf53_10 : decode cJ9_max_7cf53 10 = .ok (.ireturn, 1) := by decide +kernel
theorem dJ9_min_7cf53_0 : decode cJ9_min_7cf53 0 = .ok (.iload_n 0, 1) := by decide +kernel
theorem dJ9_min_7cf53_1 : decode cJ9_min_7cf53 1 = .ok (.iload_n 1, 1) := by decide +kernel
theorem dJ9_min_7cf53_2 : decode cJ9_min_7cf53 2 = .ok (.if_icmp .gt 7, 3) := by decide +kernel
theorem dJ9_min_7cf53_5 : decode cJ9_min_7cf53 5 = .ok (.iload_n 0, 1) := by decide +kernel
theorem dJ9_min_7cf53_6 : decode cJ9_min_7cf53 6 = .ok (.goto 4, 3) := by decide +kernel
theorem dJ9_min_7cf53_9 : decode cJ9_min_7cf53 9 = .ok (.iload_n 1, 1) := by decide +kernel
theorem dJ9_min_7cf53_10 : decode cJ9_min_7cf53 10 = .ok (.ireturn, 1) := by decide +kernel
set_option maxRecDepth 20000 in
theorem ggL_begin_X7_begin : GoodIn wsL_begin wsX7_begin := goodIn_ca (goodIn_r _ [6, 7, 8, 9, 10, 11, 12, 13, 5, 14, 15, 16, 17, 18, 19, 20, 21, 22, 23, 24, 25, 26, 27, 28, 29, 30, 31, 32, 33, 34, 35, 36, 37, 38, 39, 40, 41, 42, 43, 44, 45, 46, 47, 48, 49, 50, 51, 52, 53, 54, 55, 56, 57, 58, 59, 60, 61, 62, 63, 64, 65] (by decide +kernel) (by decide +kernel)) (goodIn_sub (fun _ h => List.mem_cons_of_mem _ (List.mem_append_right _ h)) (by decide +kernel))
set_option maxRecDepth 20000 in
theorem gL_begin_X7_begin : GoodIn wsL_begin (wsV RL 7 RX7 yX7_begin wsX7_begin) := goodIn_app (goodIn_of _ (by decide +kernel)) ggL_begin_X7_begin
theorem dL_begin_0 : decode cL_begin 0 = .ok (.aload_n 2, 1) := by decide +kernel
theorem dL_begin_1 : decode cL_begin 1 = .ok (.iconst 0, 1) := by decide +kernel
theorem dL_begin_2 : decode cL_begin 2 = .ok (.aload_n 0, 1) := by decide +kernel
theorem dL_begin_3 : decode cL_begin 3 = .ok (.iload_n 1, 1) := by decide +kernel
theorem dL_begin_4 : decode cL_begin 4 = .ok (.invokevirtual 7, 3) := by decide +kernel
theorem dL_begin_7 : decode cL_begin 7 = .ok (.i2l, 1) := by decide +kernel
theorem dL_begin_8 : decode cL_begin 8 = .ok (.lastore, 1) := by decide +kernel
theorem dL_begin_9 : decode cL_begin 9 = .ok (.goto 6, 3) := by decide +kernel
theorem dL_begin_12 : decode cL_begin 12 = .ok (.astore_n 3, 1) := by decide +kernel
theorem dL_begin_13 : decode cL_begin 13 = .ok (.iconst 1, 1) := by decide +kernel
theorem dL_begin_14 : decode cL_begin 14 = .ok (.ireturn, 1) := by decide +kernel
theorem dL_begin_15 : decode cL_begin 15 = .ok (.iconst 0, 1) := by decide +kernel
theorem dL_begin_16 : decode cL_begin 16 = .ok (.ireturn, 1) := by decide +kernel
set_option maxRecDepth 20000 in
theorem ggL_addTask_X7_addTask : GoodIn wsL_addTask wsX7_addTask := goodIn_ca (goodIn_ca (goodIn_ca (goodIn_r _ [8, 9, 10, 11, 12, 13, 14, 15, 16, 17, 18, 19, 20, 21, 22, 23, 7, 24, 25, 26, 27, 28, 29, 30, 31, 32, 33, 34, 35, 36, 37, 38, 39, 40, 41, 42, 43, 44, 45, 46, 47, 48, 49, 50, 51, 52, 53, 54, 55, 56, 57, 58, 59, 60, 61, 62, 63, 64, 65, 66, 67, 68, 69, 70, 71, 72, 73, 74, 75, 76, 77, 78, 79, 80, 81, 82] (by decide +kernel) (by decide +kernel)) (goodIn_sub (fun _ h => List.mem_cons_of_mem _ (List.mem_append_left _ (List.mem_append_left _ (List.mem_append_right _ h)))) (by decide +kernel))) (goodIn_sub (fun _ h => List.mem_cons_of_mem _ (List.mem_append_left _ (List.mem_append_right _ h))) (by decide +kernel))) (goodIn_sub (fun _ h => List.mem_cons_of_mem _ (List.mem_append_right _ h)) (by decide +kernel))
set_option maxRecDepth 20000 in
theorem gL_addTask_X7_addTask : GoodIn wsL_addTask (wsV RL 15 RX7 yX7_addTask wsX7_addTask) := goodIn_app (goodIn_of _ (by decide +kernel)) ggL_addTask_X7_addTask
theorem dL_addTask_0 : decode cL_addTask 0 = .ok (.aload 5, 2) := by decide +kernel
theorem dL_addTask_2 : decode cL_addTask 2 = .ok (.iconst 0, 1) := by decide +kernel
theorem dL_addTask_3 : decode cL_addTask 3 = .ok (.aload_n 0, 1) := by decide +kernel
theorem dL_addTask_4 : decode cL_addTask 4 = .ok (.iload_n 1, 1) := by decide +kernel
theorem dL_addTask_5 : decode cL_addTask 5 = .ok (.iload_n 2, 1) := by decide +kernel
theorem dL_addTask_6 : decode cL_addTask 6 = .ok (.iload_n 3, 1) := by decide +kernel
theorem dL_addTask_7 : decode cL_addTask 7 = .ok (.iload 4, 2) := by decide +kernel
theorem dL_addTask_9 : decode cL_addTask 9 = .ok (.invokevirtual 15, 3) := by decide +kernel
theorem dL_addTask_12 : decode cL_addTask 12 = .ok (.i2l, 1) := by decide +kernel
theorem dL_addTask_13 : decode cL_addTask 13 = .ok (.lastore, 1) := by decide +kernel
theorem dL_addTask_14 : decode cL_addTask 14 = .ok (.goto 15, 3) := by decide +kernel
theorem dL_addTask_17 : decode cL_addTask 17 = .ok (.astore 6, 2) := by decide +kernel
theorem dL_addTask_19 : decode cL_addTask 19 = .ok (.iconst 1, 1) := by decide +kernel
theorem dL_addTask_20 : decode cL_addTask 20 = .ok (.ireturn, 1) := by decide +kernel
theorem dL_addTask_21 : decode cL_addTask 21 = .ok (.astore 6, 2) := by decide +kernel
theorem dL_addTask_23 : decode cL_addTask 23 = .ok (.iconst 2, 1) := by decide +kernel
theorem dL_addTask_24 : decode cL_addTask 24 = .ok (.ireturn, 1) := by decide +kernel
theorem dL_addTask_25 : decode cL_addTask 25 = .ok (.astore 6, 2) := by decide +kernel
theorem dL_addTask_27 : decode cL_addTask 27 = .ok (.iconst 3, 1) := by decide +kernel
theorem dL_addTask_28 : decode cL_addTask 28 = .ok (.ireturn, 1) := by decide +kernel
theorem dL_addTask_29 : decode cL_addTask 29 = .ok (.iconst 0, 1) := by decide +kernel
theorem dL_addTask_30 : decode cL_addTask 30 = .ok (.ireturn, 1) := by decide +kernel
set_option maxRecDepth 20000 in
theorem ggL_setDates_X7_setDates : GoodIn wsL_setDates wsX7_setDates := goodIn_ca (goodIn_ca (goodIn_r _ [7, 8, 9, 10, 11, 12, 13, 14, 15, 6, 16, 17, 18, 19, 20, 21, 22, 23, 24, 25, 26, 27, 28, 29, 30, 31, 32, 33, 34, 35, 36, 37, 38, 39, 40, 41, 42, 43, 44, 45, 46, 47, 48, 49, 50, 51, 52, 53, 54, 55, 56, 57, 58, 59, 60, 61, 62, 63, 64, 65, 66, 67, 68, 69, 70, 71, 72, 73, 74, 75, 76, 77] (by decide +kernel) (by decide +kernel)) (goodIn_sub (fun _ h => List.mem_cons_of_mem _ (List.mem_append_left _ (List.mem_append_right _ h))) (by decide +kernel))) (goodIn_sub (fun _ h => List.mem_cons_of_mem _ (List.mem_append_right _ h)) (by decide +kernel))
set_option maxRecDepth 20000 in
theorem gL_setDates_X7_setDates : GoodIn wsL_setDates (wsV RL 23 RX7 yX7_setDates wsX7_setDates) := goodIn_app (goodIn_of _ (by decide +kernel)) ggL_setDates_X7_setDates
theorem dL_setDates_0 : decode cL_setDates 0 = .ok (.aload 4, 2) := by decide +kernel
theorem dL_setDates_2 : decode cL_setDates 2 = .ok (.iconst 0, 1) := by decide +kernel
theorem dL_setDates_3 : decode cL_setDates 3 = .ok (.aload_n 0, 1) := by decide +kernel
theorem dL_setDates_4 : decode cL_setDates 4 = .ok (.iload_n 1, 1) := by decide +kernel
theorem dL_setDates_5 : decode cL_setDates 5 = .ok (.iload_n 2, 1) := by decide +kernel
theorem dL_setDates_6 : decode cL_setDates 6 = .ok (.iload_n 3, 1) := by decide +kernel
theorem dL_setDates_7 : decode cL_setDates 7 = .ok (.invokevirtual 23, 3) := by decide +kernel
theorem dL_setDates_10 : decode cL_setDates 10 = .ok (.i2l, 1) := by decide +kernel
theorem dL_setDates_11 : decode cL_setDates 11 = .ok (.lastore, 1) := by decide +kernel
theorem dL_setDates_12 : decode cL_setDates 12 = .ok (.goto 11, 3) := by decide +kernel
theorem dL_setDates_15 : decode cL_setDates 15 = .ok (.astore 5, 2) := by decide +kernel
theorem dL_setDates_17 : decode cL_setDates 17 = .ok (.iconst 1, 1) := by decide +kernel
theorem dL_setDates_18 : decode cL_setDates 18 = .ok (.ireturn, 1) := by decide +kernel
theorem dL_setDates_19 : decode cL_setDates 19 = .ok (.astore 5, 2) := by decide +kernel
theorem dL_setDates_21 : decode cL_setDates 21 = .ok (.iconst 2, 1) := by decide +kernel
theorem dL_setDates_22 : decode cL_setDates 22 = .ok (.ireturn, 1) := by decide +kernel
theorem dL_setDates_23 : decode cL_setDates 23 = .ok (.iconst 0, 1) := by decide +kernel
theorem dL_setDates_24 : decode cL_setDates 24 = .ok (.ireturn, 1) := by decide +kernel
set_option maxRecDepth 20000 in
theorem ggL_give_X7_give : GoodIn wsL_give wsX7_give := goodIn_ca (goodIn_ca (goodIn_ca (goodIn_r _ [8, 9, 10, 11, 12, 13, 14, 15, 16, 17, 18, 19, 20, 21, 22, 23, 24, 25, 7, 26, 27, 28, 29, 30, 31, 32, 33, 34, 35, 36, 37, 38, 39, 40, 41, 42, 43, 44, 45, 46, 47, 48, 49, 50, 51, 52, 53, 54, 55, 56, 57, 58, 59, 60, 61, 62, 63, 64, 65, 66, 67, 68, 69, 70, 71, 72, 73, 74, 75, 76, 77, 78, 79, 80, 81, 82, 83, 84, 85, 86, 87, 88, 89, 90, 91, 92, 93, 94, 95, 96, 97, 98, 99, 100, 101, 102] (by decide +kernel) (by decide +kernel)) (goodIn_sub (fun _ h => List.mem_cons_of_mem _ (List.mem_append_left _ (List.mem_append_left _ (List.mem_append_right _ h)))) (by decide +kernel))) (goodIn_sub (fun _ h => List.mem_cons_of_mem _ (List.mem_append_left _ (List.mem_append_right _ h))) (by decide +kernel))) (goodIn_sub (fun _ h => List.mem_cons_of_mem _ (List.mem_append_right _ h)) (by decide +kernel))
set_option maxRecDepth 20000 in
theorem gL_give_X7_give : GoodIn wsL_give (wsV RL 27 RX7 yX7_give wsX7_give) := goodIn_app (goodIn_of _ (by decide +kernel)) ggL_give_X7_give
theorem dL_give_0 : decode cL_give 0 = .ok (.aload 4, 2) := by decide +kernel
theorem dL_give_2 : decode cL_give 2 = .ok (.iconst 0, 1) := by decide +kernel
theorem dL_give_3 : decode cL_give 3 = .ok (.aload_n 0, 1) := by decide +kernel
theorem dL_give_4 : decode cL_give 4 = .ok (.iload_n 1, 1) := by decide +kernel
theorem dL_give_5 : decode cL_give 5 = .ok (.iload_n 2, 1) := by decide +kernel
theorem dL_give_6 : decode cL_give 6 = .ok (.iload_n 3, 1) := by decide +kernel
theorem dL_give_7 : decode cL_give 7 = .ok (.invokevirtual 27, 3) := by decide +kernel
theorem dL_give_10 : decode cL_give 10 = .ok (.i2l, 1) := by decide +kernel
theorem dL_give_11 : decode cL_give 11 = .ok (.lastore, 1) := by decide +kernel
theorem dL_give_12 : decode cL_give 12 = .ok (.goto 15, 3) := by decide +kernel
theorem dL_give_15 : decode cL_give 15 = .ok (.astore 5, 2) := by decide +kernel
theorem dL_give_17 : decode cL_give 17 = .ok (.iconst 1, 1) := by decide +kernel
theorem dL_give_18 : decode cL_give 18 = .ok (.ireturn, 1) := by decide +kernel
theorem dL_give_19 : decode cL_give 19 = .ok (.astore 5, 2) := by decide +kernel
theorem dL_give_21 : decode cL_give 21 = .ok (.iconst 2, 1) := by decide +kernel
theorem dL_give_22 : decode cL_give 22 = .ok (.ireturn, 1) := by decide +kernel
theorem dL_give_23 : decode cL_give 23 = .ok (.astore 5, 2) := by decide +kernel
theorem dL_give_25 : decode cL_give 25 = .ok (.iconst 3, 1) := by decide +kernel
theorem dL_give_26 : decode cL_give 26 = .ok (.ireturn, 1) := by decide +kernel
theorem dL_give_27 : decode cL_give 27 = .ok (.iconst 0, 1) := by decide +kernel
theorem dL_give_28 : decode cL_give 28 = .ok (.ireturn, 1) := by decide +kernel
set_option maxRecDepth 20000 in
theorem ggL_task_X7_task : GoodIn wsL_task wsX7_task := goodIn_ca (goodIn_ca (goodIn_r _ [7, 8, 9, 10, 11, 12, 13, 6, 14, 15, 16, 17, 18, 19, 20, 21, 22, 23, 24, 25, 26, 27, 28, 29, 30, 31, 32, 33, 34, 35, 36, 37, 38, 39, 40, 41, 42, 43, 44, 45, 46, 47, 48, 49, 50] (by decide +kernel) (by decide +kernel)) (goodIn_sub (fun _ h => List.mem_cons_of_mem _ (List.mem_append_left _ (List.mem_append_right _ h))) (by decide +kernel))) (goodIn_sub (fun _ h => List.mem_cons_of_mem _ (List.mem_append_right _ h)) (by decide +kernel))
set_option maxRecDepth 20000 in
theorem gL_task_X7_task : GoodIn wsL_task (wsV RL 31 RX7 yX7_task wsX7_task) := goodIn_app (goodIn_of _ (by decide +kernel)) ggL_task_X7_task
theorem dL_task_0 : decode cL_task 0 = .ok (.aload_n 3, 1) := by decide +kernel
theorem dL_task_1 : decode cL_task 1 = .ok (.iconst 0, 1) := by decide +kernel
theorem dL_task_2 : decode cL_task 2 = .ok (.aload_n 0, 1) := by decide +kernel
theorem dL_task_3 : decode cL_task 3 = .ok (.iload_n 1, 1) := by decide +kernel
theorem dL_task_4 : decode cL_task 4 = .ok (.iload_n 2, 1) := by decide +kernel
theorem dL_task_5 : decode cL_task 5 = .ok (.invokevirtual 31, 3) := by decide +kernel
theorem dL_task_8 : decode cL_task 8 = .ok (.i2l, 1) := by decide +kernel
theorem dL_task_9 : decode cL_task 9 = .ok (.lastore, 1) := by decide +kernel
theorem dL_task_10 : decode cL_task 10 = .ok (.goto 11, 3) := by decide +kernel
theorem dL_task_13 : decode cL_task 13 = .ok (.astore 4, 2) := by decide +kernel
theorem dL_task_15 : decode cL_task 15 = .ok (.iconst 1, 1) := by decide +kernel
theorem dL_task_16 : decode cL_task 16 = .ok (.ireturn, 1) := by decide +kernel
theorem dL_task_17 : decode cL_task 17 = .ok (.astore 4, 2) := by decide +kernel
theorem dL_task_19 : decode cL_task 19 = .ok (.iconst 2, 1) := by decide +kernel
theorem dL_task_20 : decode cL_task 20 = .ok (.ireturn, 1) := by decide +kernel
theorem dL_task_21 : decode cL_task 21 = .ok (.iconst 0, 1) := by decide +kernel
theorem dL_task_22 : decode cL_task 22 = .ok (.ireturn, 1) := by decide +kernel
set_option maxRecDepth 20000 in
theorem ggL_value_X7_value : GoodIn wsL_value wsX7_value := goodIn_ca (goodIn_r _ [6, 7, 8, 9, 10, 11, 5, 12, 13, 14, 15, 16, 17, 18, 19, 20, 21, 22, 23, 24, 25, 26, 27, 28, 29, 30, 31, 32, 33, 34, 35, 36, 37, 38, 39, 40, 41, 42, 43, 44, 45, 46, 47, 48, 49, 50, 51, 52, 53, 54, 55, 56, 57, 58, 59, 60, 61, 62, 63, 64, 65, 66, 67, 68, 69, 70, 71, 72, 73, 74, 75, 76, 77, 78, 79, 80, 81, 82, 83, 84, 85, 86, 87, 88, 89, 90, 91, 92, 93, 94, 95, 96, 97, 98, 99, 100, 101, 102, 103, 104, 105, 106, 107, 108, 109, 110, 111, 112, 113, 114, 115, 116, 117, 118, 119, 120, 121, 122, 123, 124, 125, 126, 127, 128, 129, 130, 131, 132, 133, 134, 135, 136, 137, 138, 139, 140, 141, 142, 143, 144, 145, 146, 147, 148, 149, 150, 151, 152, 153, 154, 155, 156, 157, 158, 159, 160, 161, 162, 163, 164, 165, 166, 167] (by decide +kernel) (by decide +kernel)) (goodIn_sub (fun _ h => List.mem_cons_of_mem _ (List.mem_append_right _ h)) (by decide +kernel))
set_option maxRecDepth 20000 in
theorem gL_value_X7_value : GoodIn wsL_value (wsV RL 35 RX7 yX7_value wsX7_value) := goodIn_app (goodIn_of _ (by decide +kernel)) ggL_value_X7_value
theorem dL_value_0 : decode cL_value 0 = .ok (.aload_n 2, 1) := by decide +kernel
theorem dL_value_1 : decode cL_value 1 = .ok (.iconst 0, 1) := by decide +kernel
theorem dL_value_2 : decode cL_value 2 = .ok (.aload_n 0, 1) := by decide +kernel
theorem dL_value_3 : decode cL_value 3 = .ok (.iload_n 1, 1) := by decide +kernel
theorem dL_value_4 : decode cL_value 4 = .ok (.invokevirtual 35, 3) := by decide +kernel
theorem dL_value_7 : decode cL_value 7 = .ok (.i2l, 1) := by decide +kernel
theorem dL_value_8 : decode cL_value 8 = .ok (.lastore, 1) := by decide +kernel
theorem dL_value_9 : decode cL_value 9 = .ok (.goto 6, 3) := by decide +kernel
theorem dL_value_12 : decode cL_value 12 = .ok (.astore_n 3, 1) := by decide +kernel
theorem dL_value_13 : decode cL_value 13 = .ok (.iconst 1, 1) := by decide +kernel
theorem dL_value_14 : decode cL_value 14 = .ok (.ireturn, 1) := by decide +kernel
theorem dL_value_15 : decode cL_value 15 = .ok (.iconst 0, 1) := by decide +kernel
theorem dL_value_16 : decode cL_value 16 = .ok (.ireturn, 1) := by decide +kernel
set_option maxRecDepth 20000 in
theorem ggL_firstStart_X7_firstStart : GoodIn wsL_firstStart wsX7_firstStart := goodIn_ca (goodIn_ca (goodIn_r _ [7, 8, 9, 10, 11, 12, 6, 13, 14, 15, 16, 17, 18, 19, 20, 21, 22, 23, 24, 25, 26, 27, 28, 29, 30, 31, 32, 33, 34, 35, 36, 37, 38, 39, 40, 41, 42, 43, 44, 45, 46, 47, 48, 49, 50, 51, 52, 53, 54, 55, 56, 57, 58, 59, 60, 61, 62, 63, 64, 65, 66, 67, 68, 69, 70, 71, 72, 73, 74, 75, 76, 77, 78, 79, 80, 81, 82, 83, 84, 85, 86, 87, 88, 89, 90, 91, 92, 93, 94, 95, 96, 97, 98, 99, 100, 101, 102, 103, 104, 105, 106, 107, 108, 109, 110, 111, 112, 113, 114, 115, 116, 117, 118, 119, 120, 121, 122, 123, 124, 125, 126, 127, 128, 129, 130, 131, 132, 133, 134, 135, 136, 137, 138, 139, 140, 141, 142, 143, 144, 145, 146, 147, 148, 149, 150, 151, 152] (by decide +kernel) (by decide +kernel)) (goodIn_sub (fun _ h => List.mem_cons_of_mem _ (List.mem_append_left _ (List.mem_append_right _ h))) (by decide +kernel))) (goodIn_sub (fun _ h => List.mem_cons_of_mem _ (List.mem_append_right _ h)) (by decide +kernel))
set_option maxRecDepth 20000 in
theorem gL_firstStart_X7_firstStart : GoodIn wsL_firstStart (wsV RL 38 RX7 yX7_firstStart wsX7_firstStart) := goodIn_app (goodIn_of _ (by decide +kernel)) ggL_firstStart_X7_firstStart
theorem dL_firstStart_0 : decode cL_firstStart 0 = .ok (.aload_n 2, 1) := by decide +kernel
theorem dL_firstStart_1 : decode cL_firstStart 1 = .ok (.iconst 0, 1) := by decide +kernel
theorem dL_firstStart_2 : decode cL_firstStart 2 = .ok (.aload_n 0, 1) := by decide +kernel
theorem dL_firstStart_3 : decode cL_firstStart 3 = .ok (.iload_n 1, 1) := by decide +kernel
theorem dL_firstStart_4 : decode cL_firstStart 4 = .ok (.invokevirtual 38, 3) := by decide +kernel
theorem dL_firstStart_7 : decode cL_firstStart 7 = .ok (.i2l, 1) := by decide +kernel
theorem dL_firstStart_8 : decode cL_firstStart 8 = .ok (.lastore, 1) := by decide +kernel
theorem dL_firstStart_9 : decode cL_firstStart 9 = .ok (.goto 9, 3) := by decide +kernel
theorem dL_firstStart_12 : decode cL_firstStart 12 = .ok (.astore_n 3, 1) := by decide +kernel
theorem dL_firstStart_13 : decode cL_firstStart 13 = .ok (.iconst 1, 1) := by decide +kernel
theorem dL_firstStart_14 : decode cL_firstStart 14 = .ok (.ireturn, 1) := by decide +kernel
theorem dL_firstStart_15 : decode cL_firstStart 15 = .ok (.astore_n 3, 1) := by decide +kernel
theorem dL_firstStart_16 : decode cL_firstStart 16 = .ok (.iconst 2, 1) := by decide +kernel
theorem dL_firstStart_17 : decode cL_firstStart 17 = .ok (.ireturn, 1) := by decide +kernel
theorem dL_firstStart_18 : decode cL_firstStart 18 = .ok (.iconst 0, 1) := by decide +kernel
theorem dL_firstStart_19 : decode cL_firstStart 19 = .ok (.ireturn, 1) := by decide +kernel
set_option maxRecDepth 20000 in
theorem ggL_lastEnd_X7_lastEnd : GoodIn wsL_lastEnd wsX7_lastEnd := goodIn_ca (goodIn_ca (goodIn_r _ [7, 8, 9, 10, 11, 12, 6, 13, 14, 15, 16, 17, 18, 19, 20, 21, 22, 23, 24, 25, 26, 27, 28, 29, 30, 31, 32, 33, 34, 35, 36, 37, 38, 39, 40, 41, 42, 43, 44, 45, 46, 47, 48, 49, 50, 51, 52, 53, 54, 55, 56, 57, 58, 59, 60, 61, 62, 63, 64, 65, 66, 67, 68, 69, 70, 71, 72, 73, 74, 75, 76, 77, 78, 79, 80, 81, 82, 83, 84, 85, 86, 87, 88, 89, 90, 91, 92, 93, 94, 95, 96, 97, 98, 99, 100, 101, 102, 103, 104, 105, 106, 107, 108, 109, 110, 111, 112, 113, 114, 115, 116, 117, 118, 119, 120, 121, 122, 123, 124, 125, 126, 127, 128, 129, 130, 131, 132, 133, 134, 135, 136, 137, 138, 139, 140, 141, 142, 143, 144, 145, 146, 147, 148, 149, 150, 151, 152] (by decide +kernel) (by decide +kernel)) (goodIn_sub (fun _ h => List.mem_cons_of_mem _ (List.mem_append_left _ (List.mem_append_right _ h))) (by decide +kernel))) (goodIn_sub (fun _ h => List.mem_cons_of_mem _ (List.mem_append_right _ h)) (by decide +kernel))
set_option maxRecDepth 20000 in
theorem gL_lastEnd_X7_lastEnd : GoodIn wsL_lastEnd (wsV RL 41 RX7 yX7_lastEnd wsX7_lastEnd) := goodIn_app (goodIn_of _ (by decide +kernel)) ggL_lastEnd_X7_lastEnd
theorem dL_lastEnd_0 : decode cL_lastEnd 0 = .ok (.aload_n 2, 1) := by decide +kernel
theorem dL_lastEnd_1 : decode cL_lastEnd 1 = .ok (.iconst 0, 1) := by decide +kernel
theorem dL_lastEnd_2 : decode cL_lastEnd 2 = .ok (.aload_n 0, 1) := by decide +kernel
theorem dL_lastEnd_3 : decode cL_lastEnd 3 = .ok (.iload_n 1, 1) := by decide +kernel
theorem dL_lastEnd_4 : decode cL_lastEnd 4 = .ok (.invokevirtual 41, 3) := by decide +kernel
theorem dL_lastEnd_7 : decode cL_lastEnd 7 = .ok (.i2l, 1) := by decide +kernel
theorem dL_lastEnd_8 : decode cL_lastEnd 8 = .ok (.lastore, 1) := by decide +kernel
theorem dL_lastEnd_9 : decode cL_lastEnd 9 = .ok (.goto 9, 3) := by decide +kernel
theorem dL_lastEnd_12 : decode cL_lastEnd 12 = .ok (.astore_n 3, 1) := by decide +kernel
theorem dL_lastEnd_13 : decode cL_lastEnd 13 = .ok (.iconst 1, 1) := by decide +kernel
theorem dL_lastEnd_14 : decode cL_lastEnd 14 = .ok (.ireturn, 1) := by decide +kernel
theorem dL_lastEnd_15 : decode cL_lastEnd 15 = .ok (.astore_n 3, 1) := by decide +kernel
theorem dL_lastEnd_16 : decode cL_lastEnd 16 = .ok (.iconst 2, 1) := by decide +kernel
theorem dL_lastEnd_17 : decode cL_lastEnd 17 = .ok (.ireturn, 1) := by decide +kernel
theorem dL_lastEnd_18 : decode cL_lastEnd 18 = .ok (.iconst 0, 1) := by decide +kernel
theorem dL_lastEnd_19 : decode cL_lastEnd 19 = .ok (.ireturn, 1) := by decide +kernel
set_option maxRecDepth 20000 in
theorem ggL_precedes_X7_precedes : GoodIn wsL_precedes wsX7_precedes := goodIn_ca (goodIn_ca (goodIn_r _ [7, 8, 9, 10, 11, 6, 12, 13, 14, 15, 16, 17, 18, 19, 20, 21, 22, 23, 24, 25, 26, 27, 28, 29, 30, 31, 32, 33, 34, 35, 36, 37, 38, 39, 40, 41, 42, 43, 44, 45, 46, 47, 48, 49, 50, 51, 52, 53, 54, 55, 56, 57, 58, 59, 60, 61, 62, 63, 64, 65, 66, 67, 68, 69, 70, 71, 72, 73, 74, 75, 76, 77, 78, 79, 80, 81, 82, 83, 84, 85, 86, 87, 88, 89, 90, 91, 92, 93, 94, 95, 96, 97, 98, 99, 100, 101, 102, 103, 104, 105, 106, 107, 108, 109, 110, 111, 112, 113, 114, 115, 116, 117, 118, 119, 120, 121, 122, 123, 124, 125, 126, 127, 128, 129, 130, 131, 132, 133, 134, 135, 136, 137, 138, 139, 140, 141, 142, 143, 144, 145, 146, 147, 148, 149, 150, 151, 152, 153, 154, 155] (by decide +kernel) (by decide +kernel)) (goodIn_sub (fun _ h => List.mem_cons_of_mem _ (List.mem_append_left _ (List.mem_append_right _ h))) (by decide +kernel))) (goodIn_sub (fun _ h => List.mem_cons_of_mem _ (List.mem_append_right _ h)) (by decide +kernel))
set_option maxRecDepth 20000 in
theorem gL_precedes_X7_precedes : GoodIn wsL_precedes (wsV RL 44 RX7 yX7_precedes wsX7_precedes) := goodIn_app (goodIn_of _ (by decide +kernel)) ggL_precedes_X7_precedes
theorem dL_precedes_0 : decode cL_precedes 0 = .ok (.aload_n 3, 1) := by decide +kernel
theorem dL_precedes_1 : decode cL_precedes 1 = .ok (.iconst 0, 1) := by decide +kernel
theorem dL_precedes_2 : decode cL_precedes 2 = .ok (.aload_n 0, 1) := by decide +kernel
theorem dL_precedes_3 : decode cL_precedes 3 = .ok (.iload_n 1, 1) := by decide +kernel
theorem dL_precedes_4 : decode cL_precedes 4 = .ok (.iload_n 2, 1) := by decide +kernel
theorem dL_precedes_5 : decode cL_precedes 5 = .ok (.invokevirtual 44, 3) := by decide +kernel
theorem dL_precedes_8 : decode cL_precedes 8 = .ok (.ifCond .eq 7, 3) := by decide +kernel
theorem dL_precedes_11 : decode cL_precedes 11 = .ok (.lconst 1, 1) := by decide +kernel
theorem dL_precedes_12 : decode cL_precedes 12 = .ok (.goto 4, 3) := by decide +kernel
theorem dL_precedes_15 : decode cL_precedes 15 = .ok (.lconst 0, 1) := by decide +kernel
theorem dL_precedes_16 : decode cL_precedes 16 = .ok (.lastore, 1) := by decide +kernel
theorem dL_precedes_17 : decode cL_precedes 17 = .ok (.goto 11, 3) := by decide +kernel
theorem dL_precedes_20 : decode cL_precedes 20 = .ok (.astore 4, 2) := by decide +kernel
theorem dL_precedes_22 : decode cL_precedes 22 = .ok (.iconst 1, 1) := by decide +kernel
theorem dL_precedes_23 : decode cL_precedes 23 = .ok (.ireturn, 1) := by decide +kernel
theorem dL_precedes_24 : decode cL_precedes 24 = .ok (.astore 4, 2) := by decide +kernel
theorem dL_precedes_26 : decode cL_precedes 26 = .ok (.iconst 2, 1) := by decide +kernel
theorem dL_precedes_27 : decode cL_precedes 27 = .ok (.ireturn, 1) := by decide +kernel
theorem dL_precedes_28 : decode cL_precedes 28 = .ok (.iconst 0, 1) := by decide +kernel
theorem dL_precedes_29 : decode cL_precedes 29 = .ok (.ireturn, 1) := by decide +kernel
set_option maxRecDepth 20000 in
theorem ggL_why_X7_why : GoodIn wsL_why wsX7_why := goodIn_ca (goodIn_ca (goodIn_r _ [7, 8, 9, 10, 11, 6, 12, 13, 14, 15, 16, 17, 18, 19, 20, 21, 22, 23, 24, 25, 26, 27, 28, 29, 30, 31, 32, 33, 34, 35, 36, 37, 38, 39, 40, 41, 42, 43, 44, 45, 46, 47, 48, 49, 50, 51, 52, 53, 54, 55, 56, 57, 58, 59, 60, 61, 62, 63, 64, 65, 66, 67, 68, 69, 70, 71, 72, 73, 74, 75, 76, 77, 78, 79, 80, 81, 82, 83, 84, 85, 86, 87, 88, 89, 90, 91, 92, 93, 94, 95, 96, 97, 98, 99, 100, 101, 102, 103, 104, 105, 106, 107, 108, 109, 110, 111, 112, 113, 114, 115, 116, 117, 118, 119, 120, 121, 122, 123, 124, 125, 126, 127, 128, 129, 130, 131, 132, 133, 134, 135, 136, 137, 138, 139, 140, 141, 142, 143, 144, 145, 146, 147, 148, 149, 150, 151, 152, 153, 154, 155, 156, 157, 158, 159, 160, 161, 162, 163, 164, 165, 166, 167, 168] (by decide +kernel) (by decide +kernel)) (goodIn_sub (fun _ h => List.mem_cons_of_mem _ (List.mem_append_left _ (List.mem_append_right _ h))) (by decide +kernel))) (goodIn_sub (fun _ h => List.mem_cons_of_mem _ (List.mem_append_right _ h)) (by decide +kernel))
set_option maxRecDepth 20000 in
theorem gL_why_X7_why : GoodIn wsL_why (wsV RL 48 RX7 yX7_why wsX7_why) := goodIn_app (goodIn_of _ (by decide +kernel)) ggL_why_X7_why
theorem dL_why_0 : decode cL_why 0 = .ok (.aload_n 3, 1) := by decide +kernel
theorem dL_why_1 : decode cL_why 1 = .ok (.iconst 0, 1) := by decide +kernel
theorem dL_why_2 : decode cL_why 2 = .ok (.aload_n 0, 1) := by decide +kernel
theorem dL_why_3 : decode cL_why 3 = .ok (.iload_n 1, 1) := by decide +kernel
theorem dL_why_4 : decode cL_why 4 = .ok (.iload_n 2, 1) := by decide +kernel
theorem dL_why_5 : decode cL_why 5 = .ok (.invokevirtual 48, 3) := by decide +kernel
theorem dL_why_8 : decode cL_why 8 = .ok (.i2l, 1) := by decide +kernel
theorem dL_why_9 : decode cL_why 9 = .ok (.lastore, 1) := by decide +kernel
theorem dL_why_10 : decode cL_why 10 = .ok (.goto 11, 3) := by decide +kernel
theorem dL_why_13 : decode cL_why 13 = .ok (.astore 4, 2) := by decide +kernel
theorem dL_why_15 : decode cL_why 15 = .ok (.iconst 1, 1) := by decide +kernel
theorem dL_why_16 : decode cL_why 16 = .ok (.ireturn, 1) := by decide +kernel
theorem dL_why_17 : decode cL_why 17 = .ok (.astore 4, 2) := by decide +kernel
theorem dL_why_19 : decode cL_why 19 = .ok (.iconst 2, 1) := by decide +kernel
theorem dL_why_20 : decode cL_why 20 = .ok (.ireturn, 1) := by decide +kernel
theorem dL_why_21 : decode cL_why 21 = .ok (.iconst 0, 1) := by decide +kernel
theorem dL_why_22 : decode cL_why 22 = .ok (.ireturn, 1) := by decide +kernel
set_option maxRecDepth 20000 in
theorem ggL_because_X7_because : GoodIn wsL_because wsX7_because := goodIn_ca (goodIn_ca (goodIn_r _ [7, 8, 9, 10, 11, 6, 12, 13, 14, 15, 16, 17, 18, 19, 20, 21, 22, 23, 24, 25, 26, 27, 28, 29, 30, 31, 32, 33, 34, 35, 36, 37, 38, 39, 40, 41, 42, 43, 44, 45, 46, 47, 48, 49, 50, 51, 52, 53, 54, 55, 56, 57, 58, 59, 60, 61, 62, 63, 64, 65, 66, 67, 68, 69, 70, 71, 72, 73, 74, 75, 76, 77, 78, 79, 80, 81, 82, 83, 84, 85, 86, 87, 88, 89, 90, 91, 92, 93, 94, 95, 96, 97, 98, 99, 100, 101, 102, 103, 104, 105, 106, 107, 108, 109, 110, 111, 112, 113, 114, 115, 116, 117, 118, 119, 120, 121, 122, 123, 124, 125, 126, 127, 128, 129, 130, 131, 132, 133, 134, 135, 136, 137, 138, 139, 140, 141, 142, 143, 144, 145, 146, 147, 148, 149, 150, 151, 152, 153, 154, 155] (by decide +kernel) (by decide +kernel)) (goodIn_sub (fun _ h => List.mem_cons_of_mem _ (List.mem_append_left _ (List.mem_append_right _ h))) (by decide +kernel))) (goodIn_sub (fun _ h => List.mem_cons_of_mem _ (List.mem_append_right _ h)) (by decide +kernel))
set_option maxRecDepth 20000 in
theorem gL_because_X7_because : GoodIn wsL_because (wsV RL 51 RX7 yX7_because wsX7_because) := goodIn_app (goodIn_of _ (by decide +kernel)) ggL_because_X7_because
theorem dL_because_0 : decode cL_because 0 = .ok (.aload_n 3, 1) := by decide +kernel
theorem dL_because_1 : decode cL_because 1 = .ok (.iconst 0, 1) := by decide +kernel
theorem dL_because_2 : decode cL_because 2 = .ok (.aload_n 0, 1) := by decide +kernel
theorem dL_because_3 : decode cL_because 3 = .ok (.iload_n 1, 1) := by decide +kernel
theorem dL_because_4 : decode cL_because 4 = .ok (.iload_n 2, 1) := by decide +kernel
theorem dL_because_5 : decode cL_because 5 = .ok (.invokevirtual 51, 3) := by decide +kernel
theorem dL_because_8 : decode cL_because 8 = .ok (.i2l, 1) := by decide +kernel
theorem dL_because_9 : decode cL_because 9 = .ok (.lastore, 1) := by decide +kernel
theorem dL_because_10 : decode cL_because 10 = .ok (.goto 11, 3) := by decide +kernel
theorem dL_because_13 : decode cL_because 13 = .ok (.astore 4, 2) := by decide +kernel
theorem dL_because_15 : decode cL_because 15 = .ok (.iconst 1, 1) := by decide +kernel
theorem dL_because_16 : decode cL_because 16 = .ok (.ireturn, 1) := by decide +kernel
theorem dL_because_17 : decode cL_because 17 = .ok (.astore 4, 2) := by decide +kernel
theorem dL_because_19 : decode cL_because 19 = .ok (.iconst 2, 1) := by decide +kernel
theorem dL_because_20 : decode cL_because 20 = .ok (.ireturn, 1) := by decide +kernel
theorem dL_because_21 : decode cL_because 21 = .ok (.iconst 0, 1) := by decide +kernel
theorem dL_because_22 : decode cL_because 22 = .ok (.ireturn, 1) := by decide +kernel
set_option maxRecDepth 20000 in
theorem ggL_slack_X7_slack : GoodIn wsL_slack wsX7_slack := goodIn_ca (goodIn_ca (goodIn_r _ [7, 8, 9, 10, 11, 12, 13, 14, 15, 6, 16, 17, 18, 19, 20, 21, 22, 23, 24, 25, 26, 27, 28, 29, 30, 31, 32, 33, 34, 35, 36, 37, 38, 39, 40, 41, 42, 43, 44, 45, 46, 47, 48, 49, 50, 51, 52, 53, 54, 55, 56, 57, 58, 59, 60, 61, 62, 63, 64, 65, 66, 67, 68, 69, 70, 71, 72, 73, 74, 75, 76, 77, 78, 79, 80, 81, 82, 83, 84, 85, 86, 87, 88, 89, 90, 91, 92, 93, 94, 95, 96, 97, 98, 99, 100, 101, 102, 103, 104, 105, 106, 107, 108, 109, 110, 111, 112, 113, 114, 115, 116, 117, 118, 119, 120, 121, 122, 123, 124, 125, 126, 127, 128, 129, 130, 131, 132, 133, 134, 135, 136, 137, 138, 139, 140, 141, 142, 143, 144, 145, 146, 147, 148, 149, 150, 151, 152, 153, 154] (by decide +kernel) (by decide +kernel)) (goodIn_sub (fun _ h => List.mem_cons_of_mem _ (List.mem_append_left _ (List.mem_append_right _ h))) (by decide +kernel))) (goodIn_sub (fun _ h => List.mem_cons_of_mem _ (List.mem_append_right _ h)) (by decide +kernel))
set_option maxRecDepth 20000 in
theorem gL_slack_X7_slack : GoodIn wsL_slack (wsV RL 54 RX7 yX7_slack wsX7_slack) := goodIn_app (goodIn_of _ (by decide +kernel)) ggL_slack_X7_slack
theorem dL_slack_0 : decode cL_slack 0 = .ok (.aload_n 2, 1) := by decide +kernel
theorem dL_slack_1 : decode cL_slack 1 = .ok (.iconst 0, 1) := by decide +kernel
theorem dL_slack_2 : decode cL_slack 2 = .ok (.aload_n 0, 1) := by decide +kernel
theorem dL_slack_3 : decode cL_slack 3 = .ok (.iload_n 1, 1) := by decide +kernel
theorem dL_slack_4 : decode cL_slack 4 = .ok (.invokevirtual 54, 3) := by decide +kernel
theorem dL_slack_7 : decode cL_slack 7 = .ok (.i2l, 1) := by decide +kernel
theorem dL_slack_8 : decode cL_slack 8 = .ok (.lastore, 1) := by decide +kernel
theorem dL_slack_9 : decode cL_slack 9 = .ok (.goto 9, 3) := by decide +kernel
theorem dL_slack_12 : decode cL_slack 12 = .ok (.astore_n 3, 1) := by decide +kernel
theorem dL_slack_13 : decode cL_slack 13 = .ok (.iconst 1, 1) := by decide +kernel
theorem dL_slack_14 : decode cL_slack 14 = .ok (.ireturn, 1) := by decide +kernel
theorem dL_slack_15 : decode cL_slack 15 = .ok (.astore_n 3, 1) := by decide +kernel
theorem dL_slack_16 : decode cL_slack 16 = .ok (.iconst 2, 1) := by decide +kernel
theorem dL_slack_17 : decode cL_slack 17 = .ok (.ireturn, 1) := by decide +kernel
theorem dL_slack_18 : decode cL_slack 18 = .ok (.iconst 0, 1) := by decide +kernel
theorem dL_slack_19 : decode cL_slack 19 = .ok (.ireturn, 1) := by decide +kernel
set_option maxRecDepth 20000 in
theorem ggL_inBest_X7_inBest : GoodIn wsL_inBest wsX7_inBest := goodIn_ca (goodIn_ca (goodIn_r _ [7, 8, 9, 10, 11, 12, 13, 14, 15, 16, 6, 17, 18, 19, 20, 21, 22, 23, 24, 25, 26, 27, 28, 29, 30, 31, 32, 33, 34, 35, 36, 37, 38, 39, 40, 41, 42, 43, 44, 45, 46, 47, 48, 49, 50, 51, 52, 53, 54, 55, 56, 57, 58, 59, 60, 61, 62, 63, 64, 65, 66, 67, 68, 69, 70, 71, 72, 73, 74, 75, 76, 77, 78, 79, 80, 81, 82, 83, 84, 85, 86, 87, 88, 89, 90, 91, 92, 93, 94, 95, 96, 97, 98, 99, 100, 101, 102, 103, 104, 105, 106, 107, 108, 109, 110, 111, 112, 113, 114, 115, 116, 117, 118, 119, 120, 121, 122, 123, 124, 125, 126, 127, 128, 129, 130, 131, 132, 133, 134, 135, 136, 137, 138, 139, 140, 141, 142, 143, 144, 145, 146, 147, 148, 149, 150, 151, 152, 153, 154, 155, 156, 157, 158, 159, 160, 161, 162, 163, 164, 165, 166, 167, 168, 169, 170, 171, 172, 173, 174, 175, 176, 177, 178, 179, 180, 181, 182, 183, 184, 185, 186, 187, 188, 189, 190, 191, 192, 193, 194, 195, 196, 197, 198, 199, 200, 201, 202, 203, 204, 205, 206, 207, 208, 209, 210, 211, 212, 213, 214, 215, 216, 217, 218, 219, 220, 221, 222, 223, 224, 225, 226, 227, 228, 229, 230, 231] (by decide +kernel) (by decide +kernel)) (goodIn_sub (fun _ h => List.mem_cons_of_mem _ (List.mem_append_left _ (List.mem_append_right _ h))) (by decide +kernel))) (goodIn_sub (fun _ h => List.mem_cons_of_mem _ (List.mem_append_right _ h)) (by decide +kernel))
set_option maxRecDepth 20000 in
theorem gL_inBest_X7_inBest : GoodIn wsL_inBest (wsV RL 57 RX7 yX7_inBest wsX7_inBest) := goodIn_app (goodIn_of _ (by decide +kernel)) ggL_inBest_X7_inBest
theorem dL_inBest_0 : decode cL_inBest 0 = .ok (.aload_n 3, 1) := by decide +kernel
theorem dL_inBest_1 : decode cL_inBest 1 = .ok (.iconst 0, 1) := by decide +kernel
theorem dL_inBest_2 : decode cL_inBest 2 = .ok (.aload_n 0, 1) := by decide +kernel
theorem dL_inBest_3 : decode cL_inBest 3 = .ok (.iload_n 1, 1) := by decide +kernel
theorem dL_inBest_4 : decode cL_inBest 4 = .ok (.iload_n 2, 1) := by decide +kernel
theorem dL_inBest_5 : decode cL_inBest 5 = .ok (.invokevirtual 57, 3) := by decide +kernel
theorem dL_inBest_8 : decode cL_inBest 8 = .ok (.i2l, 1) := by decide +kernel
theorem dL_inBest_9 : decode cL_inBest 9 = .ok (.lastore, 1) := by decide +kernel
theorem dL_inBest_10 : decode cL_inBest 10 = .ok (.goto 11, 3) := by decide +kernel
theorem dL_inBest_13 : decode cL_inBest 13 = .ok (.astore 4, 2) := by decide +kernel
theorem dL_inBest_15 : decode cL_inBest 15 = .ok (.iconst 1, 1) := by decide +kernel
theorem dL_inBest_16 : decode cL_inBest 16 = .ok (.ireturn, 1) := by decide +kernel
theorem dL_inBest_17 : decode cL_inBest 17 = .ok (.astore 4, 2) := by decide +kernel
theorem dL_inBest_19 : decode cL_inBest 19 = .ok (.iconst 2, 1) := by decide +kernel
theorem dL_inBest_20 : decode cL_inBest 20 = .ok (.ireturn, 1) := by decide +kernel
theorem dL_inBest_21 : decode cL_inBest 21 = .ok (.iconst 0, 1) := by decide +kernel
theorem dL_inBest_22 : decode cL_inBest 22 = .ok (.ireturn, 1) := by decide +kernel
set_option maxRecDepth 20000 in
theorem ggL_drawn_X7_drawn : GoodIn wsL_drawn wsX7_drawn := goodIn_ca (goodIn_r _ [6, 7, 8, 9, 10, 11, 12, 13, 14, 15, 16, 17, 18, 19, 20, 21, 22, 23, 24, 25, 26, 27, 28, 29, 30, 31, 32, 33, 34, 35, 36, 37, 38, 39, 40, 5, 41, 42, 43, 44, 45, 46, 47, 48, 49, 50, 51, 52, 53, 54, 55, 56, 57, 58, 59, 60, 61, 62, 63, 64, 65, 66, 67, 68, 69, 70, 71, 72, 73, 74, 75, 76, 77, 78, 79, 80, 81, 82, 83, 84, 85, 86, 87, 88, 89, 90, 91, 92, 93, 94, 95] (by decide +kernel) (by decide +kernel)) (goodIn_sub (fun _ h => List.mem_cons_of_mem _ (List.mem_append_right _ h)) (by decide +kernel))
set_option maxRecDepth 20000 in
theorem gL_drawn_X7_drawn : GoodIn wsL_drawn (wsV RL 60 RX7 yX7_drawn wsX7_drawn) := goodIn_app (goodIn_of _ (by decide +kernel)) ggL_drawn_X7_drawn
theorem dL_drawn_0 : decode cL_drawn 0 = .ok (.aload_n 3, 1) := by decide +kernel
theorem dL_drawn_1 : decode cL_drawn 1 = .ok (.iconst 0, 1) := by decide +kernel
theorem dL_drawn_2 : decode cL_drawn 2 = .ok (.aload_n 0, 1) := by decide +kernel
theorem dL_drawn_3 : decode cL_drawn 3 = .ok (.iload_n 1, 1) := by decide +kernel
theorem dL_drawn_4 : decode cL_drawn 4 = .ok (.iload_n 2, 1) := by decide +kernel
theorem dL_drawn_5 : decode cL_drawn 5 = .ok (.invokevirtual 60, 3) := by decide +kernel
theorem dL_drawn_8 : decode cL_drawn 8 = .ok (.i2l, 1) := by decide +kernel
theorem dL_drawn_9 : decode cL_drawn 9 = .ok (.lastore, 1) := by decide +kernel
theorem dL_drawn_10 : decode cL_drawn 10 = .ok (.goto 7, 3) := by decide +kernel
theorem dL_drawn_13 : decode cL_drawn 13 = .ok (.astore 4, 2) := by decide +kernel
theorem dL_drawn_15 : decode cL_drawn 15 = .ok (.iconst 1, 1) := by decide +kernel
theorem dL_drawn_16 : decode cL_drawn 16 = .ok (.ireturn, 1) := by decide +kernel
theorem dL_drawn_17 : decode cL_drawn 17 = .ok (.iconst 0, 1) := by decide +kernel
theorem dL_drawn_18 : decode cL_drawn 18 = .ok (.ireturn, 1) := by decide +kernel
set_option maxRecDepth 20000 in
theorem ggL_dominates_X7_dominates : GoodIn wsL_dominates wsX7_dominates := goodIn_ca (goodIn_r _ [6, 7, 8, 9, 10, 5, 11, 12, 13, 14, 15, 16, 17, 18, 19, 20, 21, 22, 23, 24, 25, 26, 27, 28, 29, 30, 31, 32, 33, 34, 35, 36, 37, 38, 39, 40, 41, 42, 43, 44, 45, 46, 47, 48, 49, 50, 51, 52, 53] (by decide +kernel) (by decide +kernel)) (goodIn_sub (fun _ h => List.mem_cons_of_mem _ (List.mem_append_right _ h)) (by decide +kernel))
set_option maxRecDepth 20000 in
theorem gL_dominates_X7_dominates : GoodIn wsL_dominates (wsV RL 63 RX7 yX7_dominates wsX7_dominates) := goodIn_app (goodIn_of _ (by decide +kernel)) ggL_dominates_X7_dominates
theorem dL_dominates_0 : decode cL_dominates 0 = .ok (.aload_n 3, 1) := by decide +kernel
theorem dL_dominates_1 : decode cL_dominates 1 = .ok (.iconst 0, 1) := by decide +kernel
theorem dL_dominates_2 : decode cL_dominates 2 = .ok (.aload_n 0, 1) := by decide +kernel
theorem dL_dominates_3 : decode cL_dominates 3 = .ok (.iload_n 1, 1) := by decide +kernel
theorem dL_dominates_4 : decode cL_dominates 4 = .ok (.iload_n 2, 1) := by decide +kernel
theorem dL_dominates_5 : decode cL_dominates 5 = .ok (.invokevirtual 63, 3) := by decide +kernel
theorem dL_dominates_8 : decode cL_dominates 8 = .ok (.ifCond .eq 7, 3) := by decide +kernel
theorem dL_dominates_11 : decode cL_dominates 11 = .ok (.lconst 1, 1) := by decide +kernel
theorem dL_dominates_12 : decode cL_dominates 12 = .ok (.goto 4, 3) := by decide +kernel
theorem dL_dominates_15 : decode cL_dominates 15 = .ok (.lconst 0, 1) := by decide +kernel
theorem dL_dominates_16 : decode cL_dominates 16 = .ok (.lastore, 1) := by decide +kernel
theorem dL_dominates_17 : decode cL_dominates 17 = .ok (.goto 7, 3) := by decide +kernel
theorem dL_dominates_20 : decode cL_dominates 20 = .ok (.astore 4, 2) := by decide +kernel
theorem dL_dominates_22 : decode cL_dominates 22 = .ok (.iconst 1, 1) := by decide +kernel
theorem dL_dominates_23 : decode cL_dominates 23 = .ok (.ireturn, 1) := by decide +kernel
theorem dL_dominates_24 : decode cL_dominates 24 = .ok (.iconst 0, 1) := by decide +kernel
theorem dL_dominates_25 : decode cL_dominates 25 = .ok (.ireturn, 1) := by decide +kernel
set_option maxRecDepth 20000 in
theorem ggL_leastDue_X7_leastDue : GoodIn wsL_leastDue wsX7_leastDue := goodIn_ca (goodIn_r _ [6, 7, 8, 9, 5, 10, 11, 12, 13, 14, 15, 16, 17, 18, 19, 20, 21, 22, 23, 24, 25, 26, 27, 28, 29, 30, 31, 32, 33, 34, 35, 36, 37, 38, 39, 40, 41, 42, 43, 44, 45, 46, 47, 48, 49, 50, 51, 52, 53, 54, 55, 56, 57, 58, 59, 60, 61, 62, 63, 64, 65, 66, 67, 68, 69, 70, 71, 72, 73, 74, 75, 76, 77, 78, 79, 80, 81, 82, 83, 84, 85, 86, 87, 88, 89, 90, 91, 92, 93, 94, 95, 96, 97, 98, 99, 100, 101, 102, 103, 104, 105, 106, 107, 108, 109, 110, 111, 112, 113, 114, 115, 116, 117, 118, 119, 120, 121, 122, 123, 124, 125, 126, 127, 128, 129, 130, 131, 132, 133, 134, 135, 136, 137, 138, 139, 140, 141, 142, 143, 144, 145, 146, 147, 148, 149, 150, 151, 152, 153, 154, 155, 156] (by decide +kernel) (by decide +kernel)) (goodIn_sub (fun _ h => List.mem_cons_of_mem _ (List.mem_append_right _ h)) (by decide +kernel))
set_option maxRecDepth 20000 in
theorem gL_leastDue_X7_leastDue : GoodIn wsL_leastDue (wsV RL 66 RX7 yX7_leastDue wsX7_leastDue) := goodIn_app (goodIn_of _ (by decide +kernel)) ggL_leastDue_X7_leastDue
theorem dL_leastDue_0 : decode cL_leastDue 0 = .ok (.aload_n 2, 1) := by decide +kernel
theorem dL_leastDue_1 : decode cL_leastDue 1 = .ok (.iconst 0, 1) := by decide +kernel
theorem dL_leastDue_2 : decode cL_leastDue 2 = .ok (.aload_n 0, 1) := by decide +kernel
theorem dL_leastDue_3 : decode cL_leastDue 3 = .ok (.iload_n 1, 1) := by decide +kernel
theorem dL_leastDue_4 : decode cL_leastDue 4 = .ok (.invokevirtual 66, 3) := by decide +kernel
theorem dL_leastDue_7 : decode cL_leastDue 7 = .ok (.i2l, 1) := by decide +kernel
theorem dL_leastDue_8 : decode cL_leastDue 8 = .ok (.lastore, 1) := by decide +kernel
theorem dL_leastDue_9 : decode cL_leastDue 9 = .ok (.goto 6, 3) := by decide +kernel
theorem dL_leastDue_12 : decode cL_leastDue 12 = .ok (.astore_n 3, 1) := by decide +kernel
theorem dL_leastDue_13 : decode cL_leastDue 13 = .ok (.iconst 1, 1) := by decide +kernel
theorem dL_leastDue_14 : decode cL_leastDue 14 = .ok (.ireturn, 1) := by decide +kernel
theorem dL_leastDue_15 : decode cL_leastDue 15 = .ok (.iconst 0, 1) := by decide +kernel
theorem dL_leastDue_16 : decode cL_leastDue 16 = .ok (.ireturn, 1) := by decide +kernel
set_option maxRecDepth 20000 in
theorem ggL_refutes_X7_refutes : GoodIn wsL_refutes wsX7_refutes := goodIn_ca (goodIn_r _ [6, 7, 8, 9, 10, 11, 12, 13, 5, 14, 15, 16, 17, 18, 19, 20, 21, 22, 23, 24, 25, 26, 27, 28, 29, 30, 31, 32, 33, 34, 35, 36, 37, 38, 39, 40, 41, 42, 43, 44, 45, 46, 47, 48, 49, 50, 51, 52, 53, 54, 55, 56, 57, 58, 59, 60, 61, 62, 63, 64, 65, 66, 67, 68, 69, 70, 71, 72, 73, 74, 75, 76, 77, 78, 79, 80, 81, 82, 83, 84, 85, 86, 87, 88, 89, 90, 91, 92, 93, 94, 95, 96, 97, 98, 99, 100, 101, 102, 103, 104, 105, 106, 107, 108, 109, 110, 111, 112, 113, 114, 115, 116, 117, 118, 119, 120, 121, 122, 123, 124, 125, 126, 127, 128, 129, 130, 131, 132, 133, 134, 135, 136, 137, 138, 139, 140, 141, 142, 143, 144, 145, 146, 147, 148, 149, 150, 151, 152, 153, 154, 155] (by decide +kernel) (by decide +kernel)) (goodIn_sub (fun _ h => List.mem_cons_of_mem _ (List.mem_append_right _ h)) (by decide +kernel))
set_option maxRecDepth 20000 in
theorem gL_refutes_X7_refutes : GoodIn wsL_refutes (wsV RL 69 RX7 yX7_refutes wsX7_refutes) := goodIn_app (goodIn_of _ (by decide +kernel)) ggL_refutes_X7_refutes
theorem dL_refutes_0 : decode cL_refutes 0 = .ok (.aload_n 3, 1) := by decide +kernel
theorem dL_refutes_1 : decode cL_refutes 1 = .ok (.iconst 0, 1) := by decide +kernel
theorem dL_refutes_2 : decode cL_refutes 2 = .ok (.aload_n 0, 1) := by decide +kernel
theorem dL_refutes_3 : decode cL_refutes 3 = .ok (.iload_n 1, 1) := by decide +kernel
theorem dL_refutes_4 : decode cL_refutes 4 = .ok (.iload_n 2, 1) := by decide +kernel
theorem dL_refutes_5 : decode cL_refutes 5 = .ok (.invokevirtual 69, 3) := by decide +kernel
theorem dL_refutes_8 : decode cL_refutes 8 = .ok (.ifCond .eq 7, 3) := by decide +kernel
theorem dL_refutes_11 : decode cL_refutes 11 = .ok (.lconst 1, 1) := by decide +kernel
theorem dL_refutes_12 : decode cL_refutes 12 = .ok (.goto 4, 3) := by decide +kernel
theorem dL_refutes_15 : decode cL_refutes 15 = .ok (.lconst 0, 1) := by decide +kernel
theorem dL_refutes_16 : decode cL_refutes 16 = .ok (.lastore, 1) := by decide +kernel
theorem dL_refutes_17 : decode cL_refutes 17 = .ok (.goto 7, 3) := by decide +kernel
theorem dL_refutes_20 : decode cL_refutes 20 = .ok (.astore 4, 2) := by decide +kernel
theorem dL_refutes_22 : decode cL_refutes 22 = .ok (.iconst 1, 1) := by decide +kernel
theorem dL_refutes_23 : decode cL_refutes 23 = .ok (.ireturn, 1) := by decide +kernel
theorem dL_refutes_24 : decode cL_refutes 24 = .ok (.iconst 0, 1) := by decide +kernel
theorem dL_refutes_25 : decode cL_refutes 25 = .ok (.ireturn, 1) := by decide +kernel
set_option maxRecDepth 20000 in
theorem ggL_decided_X7_decided : GoodIn wsL_decided wsX7_decided := goodIn_ca (goodIn_r _ [6, 7, 8, 9, 10, 11, 5, 12, 13, 14, 15, 16, 17, 18, 19, 20, 21, 22, 23, 24, 25, 26, 27, 28, 29, 30, 31, 32, 33, 34, 35, 36, 37, 38, 39, 40, 41, 42, 43, 44, 45, 46, 47, 48, 49, 50, 51, 52, 53, 54, 55, 56, 57, 58, 59, 60, 61, 62, 63, 64, 65, 66, 67, 68, 69, 70, 71, 72, 73, 74, 75, 76, 77, 78, 79, 80, 81, 82, 83, 84, 85, 86, 87, 88, 89, 90, 91, 92, 93, 94, 95, 96, 97, 98, 99, 100, 101, 102, 103, 104, 105, 106, 107, 108, 109, 110, 111, 112, 113, 114, 115, 116, 117, 118, 119, 120, 121, 122, 123, 124, 125, 126, 127, 128, 129, 130, 131, 132, 133, 134, 135, 136, 137, 138, 139, 140, 141, 142, 143, 144, 145, 146, 147, 148, 149, 150, 151, 152, 153] (by decide +kernel) (by decide +kernel)) (goodIn_sub (fun _ h => List.mem_cons_of_mem _ (List.mem_append_right _ h)) (by decide +kernel))
set_option maxRecDepth 20000 in
theorem gL_decided_X7_decided : GoodIn wsL_decided (wsV RL 72 RX7 yX7_decided wsX7_decided) := goodIn_app (goodIn_of _ (by decide +kernel)) ggL_decided_X7_decided
theorem dL_decided_0 : decode cL_decided 0 = .ok (.aload_n 1, 1) := by decide +kernel
theorem dL_decided_1 : decode cL_decided 1 = .ok (.iconst 0, 1) := by decide +kernel
theorem dL_decided_2 : decode cL_decided 2 = .ok (.aload_n 0, 1) := by decide +kernel
theorem dL_decided_3 : decode cL_decided 3 = .ok (.invokevirtual 72, 3) := by decide +kernel
theorem dL_decided_6 : decode cL_decided 6 = .ok (.dastore, 1) := by decide +kernel
theorem dL_decided_7 : decode cL_decided 7 = .ok (.goto 6, 3) := by decide +kernel
theorem dL_decided_10 : decode cL_decided 10 = .ok (.astore_n 2, 1) := by decide +kernel
theorem dL_decided_11 : decode cL_decided 11 = .ok (.iconst 1, 1) := by decide +kernel
theorem dL_decided_12 : decode cL_decided 12 = .ok (.ireturn, 1) := by decide +kernel
theorem dL_decided_13 : decode cL_decided 13 = .ok (.iconst 0, 1) := by decide +kernel
theorem dL_decided_14 : decode cL_decided 14 = .ok (.ireturn, 1) := by decide +kernel
set_option maxRecDepth 20000 in
theorem ggL_append_X7_append : GoodIn wsL_append wsX7_append := goodIn_ca (goodIn_ca (goodIn_r _ [7, 8, 9, 10, 11, 12, 13, 14, 15, 16, 17, 18, 19, 20, 21, 22, 23, 24, 25, 26, 27, 28, 29, 30, 31, 32, 33, 34, 35, 36, 37, 38, 39, 40, 41] (by decide +kernel) (by decide +kernel)) (goodIn_sub (fun _ h => List.mem_cons_of_mem _ (List.mem_append_left _ (List.mem_append_right _ h))) (by decide +kernel))) (goodIn_sub (fun _ h => List.mem_cons_of_mem _ (List.mem_append_right _ h)) (by decide +kernel))
set_option maxRecDepth 20000 in
theorem gL_append_X7_append : GoodIn wsL_append (wsV RL 76 RX7 yX7_append wsX7_append) := goodIn_app (goodIn_of _ (by decide +kernel)) ggL_append_X7_append
theorem dL_append_0 : decode cL_append 0 = .ok (.aload_n 2, 1) := by decide +kernel
theorem dL_append_1 : decode cL_append 1 = .ok (.iconst 0, 1) := by decide +kernel
theorem dL_append_2 : decode cL_append 2 = .ok (.aload_n 0, 1) := by decide +kernel
theorem dL_append_3 : decode cL_append 3 = .ok (.iload_n 1, 1) := by decide +kernel
theorem dL_append_4 : decode cL_append 4 = .ok (.invokevirtual 76, 3) := by decide +kernel
theorem dL_append_7 : decode cL_append 7 = .ok (.i2l, 1) := by decide +kernel
theorem dL_append_8 : decode cL_append 8 = .ok (.lastore, 1) := by decide +kernel
theorem dL_append_9 : decode cL_append 9 = .ok (.goto 9, 3) := by decide +kernel
theorem dL_append_12 : decode cL_append 12 = .ok (.astore_n 3, 1) := by decide +kernel
theorem dL_append_13 : decode cL_append 13 = .ok (.iconst 1, 1) := by decide +kernel
theorem dL_append_14 : decode cL_append 14 = .ok (.ireturn, 1) := by decide +kernel
theorem dL_append_15 : decode cL_append 15 = .ok (.astore_n 3, 1) := by decide +kernel
theorem dL_append_16 : decode cL_append 16 = .ok (.iconst 2, 1) := by decide +kernel
theorem dL_append_17 : decode cL_append 17 = .ok (.ireturn, 1) := by decide +kernel
theorem dL_append_18 : decode cL_append 18 = .ok (.iconst 0, 1) := by decide +kernel
theorem dL_append_19 : decode cL_append 19 = .ok (.ireturn, 1) := by decide +kernel
set_option maxRecDepth 20000 in
theorem ggL_undo_X7_undo : GoodIn wsL_undo wsX7_undo := goodIn_ca (goodIn_r _ [6, 7, 8, 9, 10, 11, 12, 13, 14, 15, 16, 17, 18, 19, 20, 21, 22, 23, 24, 25, 26, 27, 28, 29, 30, 31, 32, 33, 34, 5, 35, 36, 37, 38, 39, 40, 41, 42, 43, 44, 45, 46, 47, 48, 49, 50, 51, 52, 53, 54, 55, 56, 57] (by decide +kernel) (by decide +kernel)) (goodIn_sub (fun _ h => List.mem_cons_of_mem _ (List.mem_append_right _ h)) (by decide +kernel))
set_option maxRecDepth 20000 in
theorem gL_undo_X7_undo : GoodIn wsL_undo (wsV RL 79 RX7 yX7_undo wsX7_undo) := goodIn_app (goodIn_of _ (by decide +kernel)) ggL_undo_X7_undo
theorem dL_undo_0 : decode cL_undo 0 = .ok (.aload_n 1, 1) := by decide +kernel
theorem dL_undo_1 : decode cL_undo 1 = .ok (.iconst 0, 1) := by decide +kernel
theorem dL_undo_2 : decode cL_undo 2 = .ok (.aload_n 0, 1) := by decide +kernel
theorem dL_undo_3 : decode cL_undo 3 = .ok (.invokevirtual 79, 3) := by decide +kernel
theorem dL_undo_6 : decode cL_undo 6 = .ok (.i2l, 1) := by decide +kernel
theorem dL_undo_7 : decode cL_undo 7 = .ok (.lastore, 1) := by decide +kernel
theorem dL_undo_8 : decode cL_undo 8 = .ok (.goto 6, 3) := by decide +kernel
theorem dL_undo_11 : decode cL_undo 11 = .ok (.astore_n 2, 1) := by decide +kernel
theorem dL_undo_12 : decode cL_undo 12 = .ok (.iconst 1, 1) := by decide +kernel
theorem dL_undo_13 : decode cL_undo 13 = .ok (.ireturn, 1) := by decide +kernel
theorem dL_undo_14 : decode cL_undo 14 = .ok (.iconst 0, 1) := by decide +kernel
theorem dL_undo_15 : decode cL_undo 15 = .ok (.ireturn, 1) := by decide +kernel
set_option maxRecDepth 20000 in
theorem ggL_law_X7_init : GoodIn wsL_law wsX7_init := goodIn_r _ [10, 11, 12, 13, 14, 15, 16, 17, 18, 19, 20, 21, 22, 23, 24, 25, 26, 27, 28, 29, 30, 31, 32, 33, 34, 35, 36, 37, 38, 39, 40, 41, 42, 43, 44, 45, 46, 47, 48, 49, 50, 51, 52, 53, 54, 55, 56, 57, 58, 59, 60, 61, 62, 63, 64, 65, 66, 67, 68, 69, 70, 71, 72, 73, 74, 75, 76, 77, 78, 79, 80, 81, 82, 83, 84, 85, 86, 87, 88, 89, 90, 91, 92, 93, 94, 95, 96, 97, 98, 99, 100, 101, 102, 103, 104, 105, 106, 107, 108, 109, 110, 111, 112, 113, 114, 115, 116, 117, 118, 119, 120, 121, 1014, 1015, 1016, 1017, 1018, 1019, 1020, 1021, 974, 975, 976, 977, 978, 979, 980, 981, 982, 983, 1022, 1023, 1024, 1025, 1026, 1027, 1028, 1029, 1030, 1031, 1032, 1033, 1034, 1035, 1036, 1037, 1038, 1039, 1040, 1041, 1042, 1043, 1044, 1045, 1046, 1047, 1048, 1049, 1050, 1051, 1052, 1053, 1054, 1055, 1056, 1057, 1058, 1059] (by decide +kernel) (by decide +kernel)
set_option maxRecDepth 20000 in
theorem gL_law_X7_init : GoodIn wsL_law (wsX7_init) := ggL_law_X7_init
set_option maxRecDepth 20000 in
theorem ggL_law_X8_init : GoodIn wsL_law wsX8_init := goodIn_r _ [124, 125, 12, 13, 126, 47, 127, 128, 129, 130, 131, 132, 133, 134, 135, 136, 137, 138, 139, 140, 141, 142, 143, 144, 145, 146, 147, 984, 985, 986, 987, 988, 989, 990, 991, 992, 993, 994, 995, 996, 997, 998, 999, 1000, 1001, 1002, 1003, 1004, 1005, 1006, 1007, 1008, 1009, 1010, 1011, 1012, 1013] (by decide +kernel) (by decide +kernel)
set_option maxRecDepth 20000 in
theorem gL_law_X8_init : GoodIn wsL_law (wsX8_init) := ggL_law_X8_init
set_option maxRecDepth 20000 in
theorem ggL_law_L_begin : GoodIn wsL_law wsL_begin := goodIn_ca (goodIn_r _ [151, 152, 153, 154, 155, 2, 156, 157, 158, 17, 159, 160, 161, 162, 163, 35, 164, 165, 166, 34, 167, 104, 106, 168, 169, 170, 16, 171, 45, 46, 48, 49, 50, 51, 52, 53, 172, 173, 174, 175, 40, 41, 176, 177, 178, 179, 974, 975, 976, 977, 978, 979, 980, 981, 982, 983, 1014, 1015, 1016, 1017, 1018, 1019, 1020, 1021, 1044, 1045] (by decide +kernel) (by decide +kernel)) (goodIn_sub (fun _ h => List.mem_append_left _ (List.mem_append_left _ (List.mem_append_right _ h))) (by decide +kernel))
set_option maxRecDepth 20000 in
theorem gL_law_L_begin : GoodIn wsL_law (va_wsS RL 87 yL_begin wsL_begin) := goodIn_app (goodIn_of _ (by decide +kernel)) ggL_law_L_begin
set_option maxRecDepth 20000 in
theorem ggL_law_X8_begin : GoodIn wsL_law wsX8_begin := goodIn_r _ [183, 184, 185, 126, 127, 128, 129, 130, 131, 186, 187, 5, 188, 189, 190, 191, 192, 193, 132, 984, 985, 986, 987, 988, 989, 990, 991, 992, 993, 994, 995, 996, 997, 998, 999, 1000, 1001, 1002, 1003, 1004, 1005, 1006, 1007, 1008, 1009, 1010, 1011, 1012, 1013] (by decide +kernel) (by decide +kernel)
set_option maxRecDepth 20000 in
theorem gL_law_X8_begin : GoodIn wsL_law (wsV RL 92 RX8 yX8_begin wsX8_begin) := goodIn_app (goodIn_of _ (by decide +kernel)) ggL_law_X8_begin
set_option maxRecDepth 20000 in
theorem ggL_law_X8_thrown : GoodIn wsL_law wsX8_thrown := goodIn_r _ [197, 184, 984, 985, 986, 987, 988, 989, 990, 991, 992, 993, 994, 995, 996, 997, 998, 999, 1000, 1001, 1002, 1003, 1004, 1005, 1006, 1007, 1008, 1009, 1010, 1011, 1012, 1013] (by decide +kernel) (by decide +kernel)
set_option maxRecDepth 20000 in
theorem gL_law_X8_thrown : GoodIn wsL_law (wsV RL 93 RX8 yX8_thrown wsX8_thrown) := goodIn_app (goodIn_of _ (by decide +kernel)) ggL_law_X8_thrown
set_option maxRecDepth 20000 in
theorem ggL_law_L_addTask : GoodIn wsL_law wsL_addTask := goodIn_ca (goodIn_ca (goodIn_ca (goodIn_r _ [200, 201, 152, 202, 203, 204, 205, 2, 206, 17, 159, 207, 208, 209, 16, 210, 45, 46, 211, 212, 213, 214, 215, 216, 217, 218, 219, 157, 158, 220, 221, 160, 161, 162, 163, 35, 164, 165, 166, 34, 167, 104, 106, 168, 169, 170, 171, 48, 49, 50, 51, 52, 53, 172, 173, 174, 175, 40, 41, 222, 223, 224, 225, 974, 975, 976, 977, 978, 979, 980, 981, 982, 983, 1014, 1015, 1016, 1017, 1018, 1019, 1020, 1021, 1044, 1045] (by decide +kernel) (by decide +kernel)) (goodIn_sub (fun _ h => List.mem_append_left _ (List.mem_append_right _ h)) (by decide +kernel))) (goodIn_sub (fun _ h => List.mem_append_left _ (List.mem_append_left _ (List.mem_append_right _ h))) (by decide +kernel))) (goodIn_sub (fun _ h => List.mem_append_right _ h) (by decide +kernel))
set_option maxRecDepth 20000 in
theorem gL_law_L_addTask : GoodIn wsL_law (va_wsS RL 96 yL_addTask wsL_addTask) := goodIn_app (goodIn_of _ (by decide +kernel)) ggL_law_L_addTask
set_option maxRecDepth 20000 in
theorem ggL_law_X8_addTask : GoodIn wsL_law wsX8_addTask := goodIn_r _ [229, 184, 230, 231, 232, 5, 233, 126, 185, 186, 187, 188, 189, 190, 191, 192, 193, 132, 127, 128, 129, 130, 131, 234, 235, 236, 237, 984, 985, 986, 987, 988, 989, 990, 991, 992, 993, 994, 995, 996, 997, 998, 999, 1000, 1001, 1002, 1003, 1004, 1005, 1006, 1007, 1008, 1009, 1010, 1011, 1012, 1013] (by decide +kernel) (by decide +kernel)
set_option maxRecDepth 20000 in
theorem gL_law_X8_addTask : GoodIn wsL_law (wsV RL 99 RX8 yX8_addTask wsX8_addTask) := goodIn_app (goodIn_of _ (by decide +kernel)) ggL_law_X8_addTask
set_option maxRecDepth 20000 in
theorem ggL_law_L_setDates : GoodIn wsL_law wsL_setDates := goodIn_ca (goodIn_ca (goodIn_r _ [240, 201, 152, 241, 242, 243, 2, 244, 157, 158, 17, 245, 246, 247, 248, 249, 250, 218, 219, 251, 252, 253, 16, 254, 46, 255, 212, 213, 214, 160, 161, 162, 163, 35, 164, 165, 166, 34, 167, 104, 106, 168, 169, 170, 171, 45, 48, 49, 50, 51, 52, 53, 172, 173, 174, 175, 40, 41, 974, 975, 976, 977, 978, 979, 980, 981, 982, 983, 1014, 1015, 1016, 1017, 1018, 1019, 1020, 1021, 1044, 1045] (by decide +kernel) (by decide +kernel)) (goodIn_sub (fun _ h => List.mem_append_left _ (List.mem_append_left _ (List.mem_append_right _ h))) (by decide +kernel))) (goodIn_sub (fun _ h => List.mem_append_left _ (List.mem_append_right _ h)) (by decide +kernel))
set_option maxRecDepth 20000 in
theorem gL_law_L_setDates : GoodIn wsL_law (va_wsS RL 100 yL_setDates wsL_setDates) := goodIn_app (goodIn_of _ (by decide +kernel)) ggL_law_L_setDates
set_option maxRecDepth 20000 in
theorem ggL_law_X8_setDates : GoodIn wsL_law wsX8_setDates := goodIn_r _ [259, 184, 129, 128, 260, 261, 262, 5, 263, 185, 186, 187, 188, 189, 190, 191, 192, 193, 132, 126, 127, 130, 131, 984, 985, 986, 987, 988, 989, 990, 991, 992, 993, 994, 995, 996, 997, 998, 999, 1000, 1001, 1002, 1003, 1004, 1005, 1006, 1007, 1008, 1009, 1010, 1011, 1012, 1013] (by decide +kernel) (by decide +kernel)
set_option maxRecDepth 20000 in
theorem gL_law_X8_setDates : GoodIn wsL_law (wsV RL 103 RX8 yX8_setDates wsX8_setDates) := goodIn_app (goodIn_of _ (by decide +kernel)) ggL_law_X8_setDates
set_option maxRecDepth 20000 in
theorem ggL_law_L_give : GoodIn wsL_law wsL_give := goodIn_ca (goodIn_ca (goodIn_ca (goodIn_r _ [266, 201, 152, 202, 267, 268, 269, 2, 270, 17, 271, 272, 273, 16, 274, 275, 252, 253, 254, 46, 276, 277, 278, 279, 53, 280, 281, 282, 283, 284, 285, 215, 216, 217, 218, 219, 157, 158, 220, 221, 160, 161, 162, 163, 35, 164, 165, 166, 34, 167, 104, 106, 168, 169, 170, 171, 45, 48, 49, 50, 51, 52, 172, 173, 174, 175, 40, 41, 286, 287, 288, 289, 290, 291, 292, 293, 294, 295, 296, 297, 298, 299, 300, 974, 975, 976, 977, 978, 979, 980, 981, 982, 983, 1014, 1015, 1016, 1017, 1018, 1019, 1020, 1021, 1044, 1045] (by decide +kernel) (by decide +kernel)) (goodIn_sub (fun _ h => List.mem_append_left _ (List.mem_append_right _ h)) (by decide +kernel))) (goodIn_sub (fun _ h => List.mem_append_left _ (List.mem_append_left _ (List.mem_append_right _ h))) (by decide +kernel))) (goodIn_sub (fun _ h => List.mem_append_right _ h) (by decide +kernel))
set_option maxRecDepth 20000 in
theorem gL_law_L_give : GoodIn wsL_law (va_wsS RL 104 yL_give wsL_give) := goodIn_app (goodIn_of _ (by decide +kernel)) ggL_law_L_give
set_option maxRecDepth 20000 in
theorem ggL_law_X8_give : GoodIn wsL_law wsX8_give := goodIn_r _ [304, 184, 305, 306, 307, 5, 308, 131, 260, 261, 262, 263, 185, 309, 310, 311, 312, 313, 314, 315, 189, 190, 191, 192, 193, 132, 126, 127, 128, 129, 130, 316, 317, 318, 319, 320, 321, 322, 323, 324, 325, 326, 984, 985, 986, 987, 988, 989, 990, 991, 992, 993, 994, 995, 996, 997, 998, 999, 1000, 1001, 1002, 1003, 1004, 1005, 1006, 1007, 1008, 1009, 1010, 1011, 1012, 1013] (by decide +kernel) (by decide +kernel)
set_option maxRecDepth 20000 in
theorem gL_law_X8_give : GoodIn wsL_law (wsV RL 107 RX8 yX8_give wsX8_give) := goodIn_app (goodIn_of _ (by decide +kernel)) ggL_law_X8_give
set_option maxRecDepth 20000 in
theorem ggL_law_X7_giveDominance : GoodIn wsL_law wsX7_giveDominance := goodIn_r _ [330, 17, 159, 160, 161, 162, 2, 163, 35, 164, 165, 166, 34, 167, 104, 106, 168, 169, 170, 16, 171, 45, 46, 48, 49, 50, 51, 52, 53, 172, 173, 174, 175, 40, 41, 331, 332, 333, 334, 276, 277, 278, 279, 280, 281, 335, 336, 283, 284, 285, 286, 287, 288, 289, 974, 975, 976, 977, 978, 979, 980, 981, 982, 983, 1014, 1015, 1016, 1017, 1018, 1019, 1020, 1021, 1044, 1045] (by decide +kernel) (by decide +kernel)
set_option maxRecDepth 20000 in
theorem gL_law_X7_giveDominance : GoodIn wsL_law (wsV RL 108 RX7 yX7_giveDominance wsX7_giveDominance) := goodIn_app (goodIn_of _ (by decide +kernel)) ggL_law_X7_giveDominance
set_option maxRecDepth 20000 in
theorem ggL_law_X8_giveDominance : GoodIn wsL_law wsX8_giveDominance := goodIn_r _ [340, 184, 185, 131, 189, 190, 191, 5, 192, 193, 132, 126, 127, 128, 129, 130, 341, 342, 343, 344, 345, 346, 347, 348, 309, 310, 311, 312, 313, 314, 315, 316, 317, 318, 319, 984, 985, 986, 987, 988, 989, 990, 991, 992, 993, 994, 995, 996, 997, 998, 999, 1000, 1001, 1002, 1003, 1004, 1005, 1006, 1007, 1008, 1009, 1010, 1011, 1012, 1013] (by decide +kernel) (by decide +kernel)
set_option maxRecDepth 20000 in
theorem gL_law_X8_giveDominance : GoodIn wsL_law (wsV RL 111 RX8 yX8_giveDominance wsX8_giveDominance) := goodIn_app (goodIn_of _ (by decide +kernel)) ggL_law_X8_giveDominance
set_option maxRecDepth 20000 in
theorem ggL_law_L_task : GoodIn wsL_law wsL_task := goodIn_ca (goodIn_ca (goodIn_r _ [351, 201, 152, 352, 353, 354, 2, 355, 157, 158, 17, 247, 248, 249, 250, 218, 219, 251, 252, 253, 16, 254, 46, 356, 357, 358, 359, 48, 49, 50, 51, 52, 53, 974, 975, 976, 977, 978, 979, 980, 981, 982, 983, 1014, 1015, 1016, 1017, 1018, 1019, 1020, 1021] (by decide +kernel) (by decide +kernel)) (goodIn_sub (fun _ h => List.mem_append_left _ (List.mem_append_left _ (List.mem_append_right _ h))) (by decide +kernel))) (goodIn_sub (fun _ h => List.mem_append_left _ (List.mem_append_right _ h)) (by decide +kernel))
set_option maxRecDepth 20000 in
theorem gL_law_L_task : GoodIn wsL_law (va_wsS RL 112 yL_task wsL_task) := goodIn_app (goodIn_of _ (by decide +kernel)) ggL_law_L_task
set_option maxRecDepth 20000 in
theorem ggL_law_X8_task : GoodIn wsL_law wsX8_task := goodIn_r _ [363, 184, 127, 128, 129, 130, 131, 260, 261, 262, 5, 263, 185, 186, 187, 188, 345, 346, 347, 348, 309, 310, 311, 984, 985, 986, 987, 988, 989, 990, 991, 992, 993, 994, 995, 996, 997, 998, 999, 1000, 1001, 1002, 1003, 1004, 1005, 1006, 1007, 1008, 1009, 1010, 1011, 1012, 1013] (by decide +kernel) (by decide +kernel)
set_option maxRecDepth 20000 in
theorem gL_law_X8_task : GoodIn wsL_law (wsV RL 115 RX8 yX8_task wsX8_task) := goodIn_app (goodIn_of _ (by decide +kernel)) ggL_law_X8_task
set_option maxRecDepth 20000 in
theorem ggL_law_L_value : GoodIn wsL_law wsL_value := goodIn_ca (goodIn_r _ [366, 152, 367, 368, 369, 2, 370, 157, 158, 371, 372, 373, 374, 17, 375, 159, 21, 376, 290, 291, 292, 16, 293, 46, 53, 294, 295, 296, 297, 298, 299, 300, 377, 378, 379, 380, 48, 381, 382, 383, 384, 40, 385, 386, 387, 20, 388, 58, 389, 390, 391, 392, 393, 62, 66, 394, 59, 395, 60, 396, 61, 397, 398, 399, 400, 401, 402, 280, 281, 403, 404, 405, 406, 407, 408, 409, 410, 411, 412, 413, 414, 415, 416, 417, 418, 419, 420, 421, 422, 423, 63, 64, 424, 65, 425, 426, 427, 428, 429, 430, 431, 432, 433, 434, 435, 436, 437, 438, 439, 440, 441, 442, 443, 444, 445, 446, 447, 448, 449, 450, 451, 452, 453, 454, 455, 456, 457, 458, 459, 460, 461, 462, 463, 464, 465, 466, 467, 468, 469, 470, 471, 974, 975, 976, 977, 978, 979, 980, 981, 982, 983, 1014, 1015, 1016, 1017, 1018, 1019, 1020, 1021, 1022, 1023, 1024, 1025, 1026, 1027, 1028, 1029, 1030] (by decide +kernel) (by decide +kernel)) (goodIn_sub (fun _ h => List.mem_append_left _ (List.mem_append_left _ (List.mem_append_right _ h))) (by decide +kernel))
set_option maxRecDepth 20000 in
theorem gL_law_L_value : GoodIn wsL_law (va_wsS RL 116 yL_value wsL_value) := goodIn_app (goodIn_of _ (by decide +kernel)) ggL_law_L_value
set_option maxRecDepth 20000 in
theorem ggL_law_X8_value : GoodIn wsL_law wsX8_value := goodIn_r _ [475, 184, 186, 187, 5, 188, 476, 477, 478, 479, 126, 185, 320, 321, 322, 323, 131, 324, 325, 326, 480, 481, 482, 483, 127, 484, 485, 486, 487, 134, 128, 135, 129, 136, 488, 489, 490, 491, 492, 493, 494, 130, 137, 138, 139, 141, 309, 310, 311, 495, 496, 497, 498, 499, 500, 501, 502, 503, 504, 505, 506, 507, 508, 509, 510, 511, 512, 513, 514, 515, 516, 517, 518, 519, 520, 521, 522, 523, 524, 525, 526, 527, 528, 529, 530, 531, 532, 533, 534, 984, 985, 986, 987, 988, 989, 990, 991, 992, 993, 994, 995, 996, 997, 998, 999, 1000, 1001, 1002, 1003, 1004, 1005, 1006, 1007, 1008, 1009, 1010, 1011, 1012, 1013] (by decide +kernel) (by decide +kernel)
set_option maxRecDepth 20000 in
theorem gL_law_X8_value : GoodIn wsL_law (wsV RL 118 RX8 yX8_value wsX8_value) := goodIn_app (goodIn_of _ (by decide +kernel)) ggL_law_X8_value
set_option maxRecDepth 20000 in
theorem ggL_law_L_firstStart : GoodIn wsL_law wsL_firstStart := goodIn_ca (goodIn_ca (goodIn_r _ [537, 201, 202, 538, 539, 540, 2, 541, 21, 542, 247, 248, 249, 250, 218, 219, 17, 251, 252, 253, 16, 254, 46, 543, 544, 545, 546, 220, 221, 376, 381, 382, 383, 384, 40, 385, 386, 387, 20, 388, 58, 389, 390, 391, 392, 393, 62, 66, 394, 59, 395, 60, 396, 61, 397, 398, 399, 400, 401, 402, 280, 281, 403, 404, 405, 406, 407, 408, 409, 410, 411, 412, 413, 414, 415, 416, 417, 418, 419, 420, 421, 422, 423, 63, 64, 424, 65, 425, 426, 427, 428, 429, 430, 431, 432, 433, 434, 435, 436, 437, 438, 439, 440, 441, 442, 443, 444, 445, 446, 447, 448, 449, 450, 451, 452, 453, 454, 455, 456, 457, 458, 459, 460, 461, 462, 463, 974, 975, 976, 977, 978, 979, 980, 981, 982, 983, 1022, 1023, 1024, 1025, 1026, 1027, 1028, 1029, 1030, 1014, 1015, 1016, 1017, 1018, 1019, 1020, 1021] (by decide +kernel) (by decide +kernel)) (goodIn_sub (fun _ h => List.mem_append_left _ (List.mem_append_right _ h)) (by decide +kernel))) (goodIn_sub (fun _ h => List.mem_append_right _ h) (by decide +kernel))
set_option maxRecDepth 20000 in
theorem gL_law_L_firstStart : GoodIn wsL_law (va_wsS RL 119 yL_firstStart wsL_firstStart) := goodIn_app (goodIn_of _ (by decide +kernel)) ggL_law_L_firstStart
set_option maxRecDepth 20000 in
theorem ggL_law_X8_firstStart : GoodIn wsL_law wsX8_firstStart := goodIn_r _ [550, 184, 134, 551, 552, 553, 5, 554, 260, 261, 262, 263, 185, 484, 485, 486, 487, 128, 135, 129, 136, 131, 488, 489, 490, 491, 492, 493, 494, 130, 127, 137, 138, 139, 141, 309, 310, 311, 495, 496, 497, 498, 499, 500, 501, 502, 503, 504, 505, 506, 507, 508, 509, 510, 511, 512, 513, 514, 515, 516, 517, 518, 519, 520, 521, 522, 523, 524, 525, 526, 527, 528, 529, 530, 984, 985, 986, 987, 988, 989, 990, 991, 992, 993, 994, 995, 996, 997, 998, 999, 1000, 1001, 1002, 1003, 1004, 1005, 1006, 1007, 1008, 1009, 1010, 1011, 1012, 1013] (by decide +kernel) (by decide +kernel)
set_option maxRecDepth 20000 in
theorem gL_law_X8_firstStart : GoodIn wsL_law (wsV RL 121 RX8 yX8_firstStart wsX8_firstStart) := goodIn_app (goodIn_of _ (by decide +kernel)) ggL_law_X8_firstStart
set_option maxRecDepth 20000 in
theorem ggL_law_L_lastEnd : GoodIn wsL_law wsL_lastEnd := goodIn_ca (goodIn_ca (goodIn_r _ [557, 201, 202, 558, 559, 560, 2, 561, 21, 562, 247, 248, 249, 250, 218, 219, 17, 251, 252, 253, 16, 254, 46, 543, 544, 545, 546, 220, 221, 376, 381, 382, 383, 384, 40, 385, 386, 387, 20, 388, 58, 389, 390, 391, 392, 393, 62, 66, 394, 59, 395, 60, 396, 61, 397, 398, 399, 400, 401, 402, 280, 281, 403, 404, 405, 406, 407, 408, 409, 410, 411, 412, 413, 414, 415, 416, 417, 418, 419, 420, 421, 422, 423, 63, 64, 424, 65, 425, 426, 427, 428, 429, 430, 431, 432, 433, 434, 435, 436, 437, 438, 439, 440, 441, 442, 443, 444, 445, 446, 447, 448, 449, 450, 451, 452, 453, 454, 455, 456, 457, 458, 459, 460, 461, 462, 463, 974, 975, 976, 977, 978, 979, 980, 981, 982, 983, 1022, 1023, 1024, 1025, 1026, 1027, 1028, 1029, 1030, 1014, 1015, 1016, 1017, 1018, 1019, 1020, 1021] (by decide +kernel) (by decide +kernel)) (goodIn_sub (fun _ h => List.mem_append_left _ (List.mem_append_right _ h)) (by decide +kernel))) (goodIn_sub (fun _ h => List.mem_append_right _ h) (by decide +kernel))
set_option maxRecDepth 20000 in
theorem gL_law_L_lastEnd : GoodIn wsL_law (va_wsS RL 122 yL_lastEnd wsL_lastEnd) := goodIn_app (goodIn_of _ (by decide +kernel)) ggL_law_L_lastEnd
set_option maxRecDepth 20000 in
theorem ggL_law_X8_lastEnd : GoodIn wsL_law wsX8_lastEnd := goodIn_r _ [566, 184, 135, 551, 552, 553, 5, 554, 260, 261, 262, 263, 185, 484, 485, 486, 487, 134, 128, 129, 136, 131, 488, 489, 490, 491, 492, 493, 494, 130, 127, 137, 138, 139, 141, 309, 310, 311, 495, 496, 497, 498, 499, 500, 501, 502, 503, 504, 505, 506, 507, 508, 509, 510, 511, 512, 513, 514, 515, 516, 517, 518, 519, 520, 521, 522, 523, 524, 525, 526, 527, 528, 529, 530, 984, 985, 986, 987, 988, 989, 990, 991, 992, 993, 994, 995, 996, 997, 998, 999, 1000, 1001, 1002, 1003, 1004, 1005, 1006, 1007, 1008, 1009, 1010, 1011, 1012, 1013] (by decide +kernel) (by decide +kernel)
set_option maxRecDepth 20000 in
theorem gL_law_X8_lastEnd : GoodIn wsL_law (wsV RL 124 RX8 yX8_lastEnd wsX8_lastEnd) := goodIn_app (goodIn_of _ (by decide +kernel)) ggL_law_X8_lastEnd
set_option maxRecDepth 20000 in
theorem ggL_law_L_precedes : GoodIn wsL_law wsL_precedes := goodIn_ca (goodIn_ca (goodIn_r _ [569, 201, 202, 570, 571, 572, 2, 573, 21, 247, 248, 249, 250, 218, 219, 17, 251, 252, 253, 16, 254, 46, 543, 544, 545, 546, 220, 221, 376, 381, 382, 383, 384, 40, 385, 386, 387, 20, 388, 58, 389, 390, 391, 392, 393, 62, 66, 394, 59, 395, 60, 396, 61, 397, 398, 399, 400, 401, 402, 280, 281, 403, 404, 405, 406, 407, 408, 409, 410, 411, 412, 413, 414, 415, 416, 417, 418, 419, 420, 421, 422, 423, 63, 64, 424, 65, 425, 426, 427, 428, 429, 430, 431, 432, 433, 434, 435, 436, 437, 438, 439, 440, 441, 442, 443, 444, 445, 446, 447, 448, 449, 450, 451, 452, 453, 454, 455, 456, 457, 458, 459, 460, 461, 462, 463, 574, 469, 470, 471, 974, 975, 976, 977, 978, 979, 980, 981, 982, 983, 1014, 1015, 1016, 1017, 1018, 1019, 1020, 1021, 1022, 1023, 1024, 1025, 1026, 1027, 1028, 1029, 1030] (by decide +kernel) (by decide +kernel)) (goodIn_sub (fun _ h => List.mem_append_left _ (List.mem_append_right _ h)) (by decide +kernel))) (goodIn_sub (fun _ h => List.mem_append_right _ h) (by decide +kernel))
set_option maxRecDepth 20000 in
theorem gL_law_L_precedes : GoodIn wsL_law (va_wsS RL 125 yL_precedes wsL_precedes) := goodIn_app (goodIn_of _ (by decide +kernel)) ggL_law_L_precedes
set_option maxRecDepth 20000 in
theorem ggL_law_X8_precedes : GoodIn wsL_law wsX8_precedes := goodIn_r _ [578, 184, 136, 579, 580, 581, 5, 582, 260, 261, 262, 263, 185, 484, 485, 486, 487, 134, 128, 135, 129, 131, 488, 489, 490, 491, 492, 493, 494, 130, 127, 137, 138, 139, 141, 309, 310, 311, 495, 496, 497, 498, 499, 500, 501, 502, 503, 504, 505, 506, 507, 508, 509, 510, 511, 512, 513, 514, 515, 516, 517, 518, 519, 520, 521, 522, 523, 524, 525, 526, 527, 528, 529, 530, 984, 985, 986, 987, 988, 989, 990, 991, 992, 993, 994, 995, 996, 997, 998, 999, 1000, 1001, 1002, 1003, 1004, 1005, 1006, 1007, 1008, 1009, 1010, 1011, 1012, 1013] (by decide +kernel) (by decide +kernel)
set_option maxRecDepth 20000 in
theorem gL_law_X8_precedes : GoodIn wsL_law (wsV RL 127 RX8 yX8_precedes wsX8_precedes) := goodIn_app (goodIn_of _ (by decide +kernel)) ggL_law_X8_precedes
set_option maxRecDepth 20000 in
theorem ggL_law_L_why : GoodIn wsL_law wsL_why := goodIn_ca (goodIn_ca (goodIn_r _ [585, 201, 202, 586, 587, 588, 2, 589, 21, 247, 248, 249, 250, 218, 219, 17, 251, 252, 253, 16, 254, 46, 543, 544, 545, 546, 220, 221, 376, 381, 382, 383, 384, 40, 385, 386, 387, 20, 388, 58, 389, 390, 391, 392, 393, 62, 66, 394, 59, 395, 60, 396, 61, 397, 398, 399, 400, 401, 402, 280, 281, 403, 404, 405, 406, 407, 408, 409, 410, 411, 412, 413, 414, 415, 416, 417, 418, 419, 420, 421, 422, 423, 63, 64, 424, 65, 425, 426, 427, 428, 429, 430, 431, 432, 433, 434, 435, 436, 437, 438, 439, 440, 441, 442, 443, 444, 445, 446, 447, 448, 449, 450, 451, 452, 453, 454, 455, 456, 457, 458, 459, 460, 461, 462, 463, 590, 591, 592, 593, 468, 469, 470, 471, 594, 277, 278, 279, 53, 595, 596, 597, 598, 974, 975, 976, 977, 978, 979, 980, 981, 982, 983, 1014, 1015, 1016, 1017, 1018, 1019, 1020, 1021, 1022, 1023, 1024, 1025, 1026, 1027, 1028, 1029, 1030] (by decide +kernel) (by decide +kernel)) (goodIn_sub (fun _ h => List.mem_append_left _ (List.mem_append_right _ h)) (by decide +kernel))) (goodIn_sub (fun _ h => List.mem_append_right _ h) (by decide +kernel))
set_option maxRecDepth 20000 in
theorem gL_law_L_why : GoodIn wsL_law (va_wsS RL 128 yL_why wsL_why) := goodIn_app (goodIn_of _ (by decide +kernel)) ggL_law_L_why
set_option maxRecDepth 20000 in
theorem ggL_law_X8_why : GoodIn wsL_law wsX8_why := goodIn_r _ [602, 184, 136, 131, 579, 580, 581, 5, 582, 260, 261, 262, 263, 185, 484, 485, 486, 487, 134, 128, 135, 129, 488, 489, 490, 491, 492, 493, 494, 130, 127, 137, 138, 139, 141, 309, 310, 311, 495, 496, 497, 498, 499, 500, 501, 502, 503, 504, 505, 506, 507, 508, 509, 510, 511, 512, 513, 514, 515, 516, 517, 518, 519, 520, 521, 522, 523, 524, 525, 526, 527, 528, 529, 530, 603, 604, 605, 606, 984, 985, 986, 987, 988, 989, 990, 991, 992, 993, 994, 995, 996, 997, 998, 999, 1000, 1001, 1002, 1003, 1004, 1005, 1006, 1007, 1008, 1009, 1010, 1011, 1012, 1013] (by decide +kernel) (by decide +kernel)
set_option maxRecDepth 20000 in
theorem gL_law_X8_why : GoodIn wsL_law (wsV RL 130 RX8 yX8_why wsX8_why) := goodIn_app (goodIn_of _ (by decide +kernel)) ggL_law_X8_why
set_option maxRecDepth 20000 in
theorem ggL_law_L_because : GoodIn wsL_law wsL_because := goodIn_ca (goodIn_ca (goodIn_r _ [609, 201, 202, 610, 611, 612, 2, 613, 21, 247, 248, 249, 250, 218, 219, 17, 251, 252, 253, 16, 254, 46, 543, 544, 545, 546, 220, 221, 376, 381, 382, 383, 384, 40, 385, 386, 387, 20, 388, 58, 389, 390, 391, 392, 393, 62, 66, 394, 59, 395, 60, 396, 61, 397, 398, 399, 400, 401, 402, 280, 281, 403, 404, 405, 406, 407, 408, 409, 410, 411, 412, 413, 414, 415, 416, 417, 418, 419, 420, 421, 422, 423, 63, 64, 424, 65, 425, 426, 427, 428, 429, 430, 431, 432, 433, 434, 435, 436, 437, 438, 439, 440, 441, 442, 443, 444, 445, 446, 447, 448, 449, 450, 451, 452, 453, 454, 455, 456, 457, 458, 459, 460, 461, 462, 463, 614, 596, 597, 598, 974, 975, 976, 977, 978, 979, 980, 981, 982, 983, 1014, 1015, 1016, 1017, 1018, 1019, 1020, 1021, 1022, 1023, 1024, 1025, 1026, 1027, 1028, 1029, 1030] (by decide +kernel) (by decide +kernel)) (goodIn_sub (fun _ h => List.mem_append_left _ (List.mem_append_right _ h)) (by decide +kernel))) (goodIn_sub (fun _ h => List.mem_append_right _ h) (by decide +kernel))
set_option maxRecDepth 20000 in
theorem gL_law_L_because : GoodIn wsL_law (va_wsS RL 131 yL_because wsL_because) := goodIn_app (goodIn_of _ (by decide +kernel)) ggL_law_L_because
set_option maxRecDepth 20000 in
theorem ggL_law_X8_because : GoodIn wsL_law wsX8_because := goodIn_r _ [618, 184, 579, 580, 581, 5, 582, 260, 261, 262, 263, 185, 484, 485, 486, 487, 134, 128, 135, 129, 136, 131, 488, 489, 490, 491, 492, 493, 494, 130, 127, 137, 138, 139, 141, 309, 310, 311, 495, 496, 497, 498, 499, 500, 501, 502, 503, 504, 505, 506, 507, 508, 509, 510, 511, 512, 513, 514, 515, 516, 517, 518, 519, 520, 521, 522, 523, 524, 525, 526, 527, 528, 529, 530, 603, 604, 605, 606, 984, 985, 986, 987, 988, 989, 990, 991, 992, 993, 994, 995, 996, 997, 998, 999, 1000, 1001, 1002, 1003, 1004, 1005, 1006, 1007, 1008, 1009, 1010, 1011, 1012, 1013] (by decide +kernel) (by decide +kernel)
set_option maxRecDepth 20000 in
theorem gL_law_X8_because : GoodIn wsL_law (wsV RL 133 RX8 yX8_because wsX8_because) := goodIn_app (goodIn_of _ (by decide +kernel)) ggL_law_X8_because
set_option maxRecDepth 20000 in
theorem ggL_law_L_slack : GoodIn wsL_law wsL_slack := goodIn_ca (goodIn_ca (goodIn_r _ [621, 201, 202, 622, 623, 624, 2, 625, 21, 562, 542, 17, 626, 247, 248, 249, 250, 218, 219, 251, 252, 253, 16, 254, 46, 543, 544, 545, 546, 220, 221, 376, 381, 382, 383, 384, 40, 385, 386, 387, 20, 388, 58, 389, 390, 391, 392, 393, 62, 66, 394, 59, 395, 60, 396, 61, 397, 398, 399, 400, 401, 402, 280, 281, 403, 404, 405, 406, 407, 408, 409, 410, 411, 412, 413, 414, 415, 416, 417, 418, 419, 420, 421, 422, 423, 63, 64, 424, 65, 425, 426, 427, 428, 429, 430, 431, 432, 433, 434, 435, 436, 437, 438, 439, 440, 441, 442, 443, 444, 445, 446, 447, 448, 449, 450, 451, 452, 453, 454, 455, 456, 457, 458, 459, 460, 461, 462, 463, 974, 975, 976, 977, 978, 979, 980, 981, 982, 983, 1022, 1023, 1024, 1025, 1026, 1027, 1028, 1029, 1030, 1014, 1015, 1016, 1017, 1018, 1019, 1020, 1021] (by decide +kernel) (by decide +kernel)) (goodIn_sub (fun _ h => List.mem_append_left _ (List.mem_append_right _ h)) (by decide +kernel))) (goodIn_sub (fun _ h => List.mem_append_right _ h) (by decide +kernel))
set_option maxRecDepth 20000 in
theorem gL_law_L_slack : GoodIn wsL_law (va_wsS RL 134 yL_slack wsL_slack) := goodIn_app (goodIn_of _ (by decide +kernel)) ggL_law_L_slack
set_option maxRecDepth 20000 in
theorem ggL_law_X8_slack : GoodIn wsL_law wsX8_slack := goodIn_r _ [630, 184, 135, 134, 130, 551, 552, 553, 5, 554, 260, 261, 262, 263, 185, 484, 485, 486, 487, 128, 129, 136, 131, 488, 489, 490, 491, 492, 493, 494, 127, 137, 138, 139, 141, 309, 310, 311, 495, 496, 497, 498, 499, 500, 501, 502, 503, 504, 505, 506, 507, 508, 509, 510, 511, 512, 513, 514, 515, 516, 517, 518, 519, 520, 521, 522, 523, 524, 525, 526, 527, 528, 529, 530, 984, 985, 986, 987, 988, 989, 990, 991, 992, 993, 994, 995, 996, 997, 998, 999, 1000, 1001, 1002, 1003, 1004, 1005, 1006, 1007, 1008, 1009, 1010, 1011, 1012, 1013] (by decide +kernel) (by decide +kernel)
set_option maxRecDepth 20000 in
theorem gL_law_X8_slack : GoodIn wsL_law (wsV RL 136 RX8 yX8_slack wsX8_slack) := goodIn_app (goodIn_of _ (by decide +kernel)) ggL_law_X8_slack
set_option maxRecDepth 20000 in
theorem ggL_law_X7_makespan : GoodIn wsL_law wsX7_makespan := goodIn_r _ [634, 25, 635, 636, 637, 638, 2, 639, 41, 381, 382, 383, 384, 40, 21, 385, 386, 387, 20, 388, 58, 389, 390, 391, 392, 393, 62, 66, 394, 59, 395, 60, 396, 61, 397, 398, 399, 400, 401, 402, 280, 281, 403, 404, 405, 406, 407, 408, 409, 410, 411, 412, 413, 414, 415, 416, 417, 418, 419, 420, 421, 422, 423, 63, 64, 424, 65, 425, 426, 427, 428, 429, 430, 431, 432, 433, 434, 435, 436, 437, 438, 439, 440, 441, 442, 443, 444, 445, 446, 447, 448, 449, 450, 451, 452, 453, 454, 455, 456, 457, 458, 459, 460, 461, 462, 463, 640, 641, 642, 24, 643, 71, 77, 79, 644, 78, 645, 75, 83, 646, 647, 648, 82, 649, 89, 650, 651, 652, 653, 654, 74, 655, 656, 657, 658, 72, 73, 659, 660, 661, 662, 663, 664, 665, 666, 667, 668, 669, 76, 670, 671, 672, 673, 674, 90, 675, 676, 677, 678, 88, 679, 680, 681, 682, 683, 684, 685, 686, 687, 974, 975, 976, 977, 978, 979, 980, 981, 982, 983, 1031, 1032, 1033, 1034, 1035, 1036, 1037, 1038, 1039, 1040, 1022, 1023, 1024, 1025, 1026, 1027, 1028, 1029, 1030, 1014, 1015, 1016, 1017, 1018, 1019, 1020, 1021, 1057, 1058, 1059] (by decide +kernel) (by decide +kernel)
set_option maxRecDepth 20000 in
theorem gL_law_X7_makespan : GoodIn wsL_law (wsV RL 137 RX7 yX7_makespan wsX7_makespan) := goodIn_app (goodIn_of _ (by decide +kernel)) ggL_law_X7_makespan
set_option maxRecDepth 20000 in
theorem ggL_law_X8_makespan : GoodIn wsL_law wsX8_makespan := goodIn_r _ [691, 184, 692, 693, 694, 5, 695, 142, 185, 696, 697, 698, 699, 309, 310, 311, 345, 346, 347, 348, 131, 700, 701, 702, 703, 128, 144, 130, 127, 129, 704, 705, 706, 707, 143, 145, 984, 985, 986, 987, 988, 989, 990, 991, 992, 993, 994, 995, 996, 997, 998, 999, 1000, 1001, 1002, 1003, 1004, 1005, 1006, 1007, 1008, 1009, 1010, 1011, 1012, 1013] (by decide +kernel) (by decide +kernel)
set_option maxRecDepth 20000 in
theorem gL_law_X8_makespan : GoodIn wsL_law (wsV RL 140 RX8 yX8_makespan wsX8_makespan) := goodIn_app (goodIn_of _ (by decide +kernel)) ggL_law_X8_makespan
set_option maxRecDepth 20000 in
theorem ggL_law_L_inBest : GoodIn wsL_law wsL_inBest := goodIn_ca (goodIn_ca (goodIn_r _ [710, 201, 152, 711, 712, 713, 2, 714, 157, 158, 25, 635, 715, 716, 247, 248, 249, 250, 218, 219, 17, 251, 252, 253, 16, 254, 46, 636, 637, 638, 639, 41, 381, 382, 383, 384, 40, 21, 385, 386, 387, 20, 388, 58, 389, 390, 391, 392, 393, 62, 66, 394, 59, 395, 60, 396, 61, 397, 398, 399, 400, 401, 402, 280, 281, 403, 404, 405, 406, 407, 408, 409, 410, 411, 412, 413, 414, 415, 416, 417, 418, 419, 420, 421, 422, 423, 63, 64, 424, 65, 425, 426, 427, 428, 429, 430, 431, 432, 433, 434, 435, 436, 437, 438, 439, 440, 441, 442, 443, 444, 445, 446, 447, 448, 449, 450, 451, 452, 453, 454, 455, 456, 457, 458, 459, 460, 461, 462, 463, 640, 641, 642, 24, 643, 71, 77, 79, 644, 78, 645, 75, 83, 646, 647, 648, 82, 649, 89, 650, 651, 652, 653, 654, 74, 655, 656, 657, 658, 72, 73, 659, 660, 661, 662, 663, 664, 665, 666, 667, 668, 669, 76, 670, 671, 672, 673, 674, 90, 675, 676, 677, 678, 88, 679, 680, 681, 682, 683, 684, 685, 686, 687, 974, 975, 976, 977, 978, 979, 980, 981, 982, 983, 1031, 1032, 1033, 1034, 1035, 1036, 1037, 1038, 1039, 1040, 1014, 1015, 1016, 1017, 1018, 1019, 1020, 1021, 1022, 1023, 1024, 1025, 1026, 1027, 1028, 1029, 1030, 1057, 1058, 1059] (by decide +kernel) (by decide +kernel)) (goodIn_sub (fun _ h => List.mem_append_left _ (List.mem_append_left _ (List.mem_append_right _ h))) (by decide +kernel))) (goodIn_sub (fun _ h => List.mem_append_left _ (List.mem_append_right _ h)) (by decide +kernel))
set_option maxRecDepth 20000 in
theorem gL_law_L_inBest : GoodIn wsL_law (va_wsS RL 141 yL_inBest wsL_inBest) := goodIn_app (goodIn_of _ (by decide +kernel)) ggL_law_L_inBest
set_option maxRecDepth 20000 in
theorem ggL_law_X8_inBest : GoodIn wsL_law wsX8_inBest := goodIn_r _ [720, 184, 185, 143, 145, 260, 261, 262, 5, 263, 186, 187, 188, 692, 693, 694, 695, 142, 696, 697, 698, 699, 309, 310, 311, 345, 346, 347, 348, 131, 700, 701, 702, 703, 128, 144, 130, 127, 129, 704, 705, 706, 707, 984, 985, 986, 987, 988, 989, 990, 991, 992, 993, 994, 995, 996, 997, 998, 999, 1000, 1001, 1002, 1003, 1004, 1005, 1006, 1007, 1008, 1009, 1010, 1011, 1012, 1013] (by decide +kernel) (by decide +kernel)
set_option maxRecDepth 20000 in
theorem gL_law_X8_inBest : GoodIn wsL_law (wsV RL 143 RX8 yX8_inBest wsX8_inBest) := goodIn_app (goodIn_of _ (by decide +kernel)) ggL_law_X8_inBest
set_option maxRecDepth 20000 in
theorem ggL_law_L_drawn : GoodIn wsL_law wsL_drawn := goodIn_ca (goodIn_r _ [723, 152, 724, 725, 726, 2, 727, 157, 158, 728, 29, 729, 730, 731, 28, 732, 95, 733, 734, 735, 736, 98, 96, 737, 738, 739, 647, 648, 82, 649, 89, 740, 741, 742, 743, 744, 745, 746, 747, 748, 280, 281, 749, 295, 296, 297, 298, 299, 300, 750, 672, 673, 674, 90, 675, 676, 665, 430, 427, 431, 677, 678, 88, 679, 751, 685, 686, 687, 752, 662, 663, 664, 974, 975, 976, 977, 978, 979, 980, 981, 982, 983, 1041, 1042, 1043, 1014, 1015, 1016, 1017, 1018, 1019, 1020, 1021, 1057, 1058, 1059] (by decide +kernel) (by decide +kernel)) (goodIn_sub (fun _ h => List.mem_append_left _ (List.mem_append_left _ (List.mem_append_right _ h))) (by decide +kernel))
set_option maxRecDepth 20000 in
theorem gL_law_L_drawn : GoodIn wsL_law (va_wsS RL 144 yL_drawn wsL_drawn) := goodIn_app (goodIn_of _ (by decide +kernel)) ggL_law_L_drawn
set_option maxRecDepth 20000 in
theorem ggL_law_X8_drawn : GoodIn wsL_law wsX8_drawn := goodIn_r _ [756, 757, 184, 758, 186, 187, 5, 188, 759, 760, 761, 762, 185, 763, 764, 765, 766, 142, 696, 697, 698, 699, 309, 310, 311, 345, 346, 347, 348, 131, 700, 701, 702, 703, 128, 144, 130, 127, 129, 984, 985, 986, 987, 988, 989, 990, 991, 992, 993, 994, 995, 996, 997, 998, 999, 1000, 1001, 1002, 1003, 1004, 1005, 1006, 1007, 1008, 1009, 1010, 1011, 1012, 1013] (by decide +kernel) (by decide +kernel)
set_option maxRecDepth 20000 in
theorem gL_law_X8_drawn : GoodIn wsL_law (wsV RL 146 RX8 yX8_drawn wsX8_drawn) := goodIn_app (goodIn_of _ (by decide +kernel)) ggL_law_X8_drawn
set_option maxRecDepth 20000 in
theorem ggL_law_L_dominates : GoodIn wsL_law wsL_dominates := goodIn_ca (goodIn_r _ [769, 201, 770, 771, 772, 2, 773, 17, 247, 248, 249, 250, 218, 219, 251, 252, 253, 16, 254, 46, 331, 332, 333, 334, 48, 51, 49, 50, 52, 53, 276, 277, 278, 279, 280, 281, 974, 975, 976, 977, 978, 979, 980, 981, 982, 983, 1014, 1015, 1016, 1017, 1018, 1019, 1020, 1021] (by decide +kernel) (by decide +kernel)) (goodIn_sub (fun _ h => List.mem_append_left _ (List.mem_append_right _ h)) (by decide +kernel))
set_option maxRecDepth 20000 in
theorem gL_law_L_dominates : GoodIn wsL_law (va_wsS RL 147 yL_dominates wsL_dominates) := goodIn_app (goodIn_of _ (by decide +kernel)) ggL_law_L_dominates
set_option maxRecDepth 20000 in
theorem ggL_law_X8_dominates : GoodIn wsL_law wsX8_dominates := goodIn_r _ [777, 184, 260, 261, 262, 5, 263, 185, 341, 342, 343, 344, 131, 128, 129, 127, 130, 345, 346, 347, 348, 309, 310, 311, 984, 985, 986, 987, 988, 989, 990, 991, 992, 993, 994, 995, 996, 997, 998, 999, 1000, 1001, 1002, 1003, 1004, 1005, 1006, 1007, 1008, 1009, 1010, 1011, 1012, 1013] (by decide +kernel) (by decide +kernel)
set_option maxRecDepth 20000 in
theorem gL_law_X8_dominates : GoodIn wsL_law (wsV RL 149 RX8 yX8_dominates wsX8_dominates) := goodIn_app (goodIn_of _ (by decide +kernel)) ggL_law_X8_dominates
set_option maxRecDepth 20000 in
theorem ggL_law_L_leastDue : GoodIn wsL_law wsL_leastDue := goodIn_ca (goodIn_r _ [780, 201, 781, 782, 783, 2, 784, 247, 248, 249, 250, 218, 219, 17, 251, 252, 253, 16, 254, 46, 785, 786, 787, 788, 30, 245, 31, 376, 789, 169, 170, 171, 45, 48, 49, 50, 51, 52, 53, 385, 386, 387, 20, 388, 58, 389, 390, 391, 392, 393, 62, 66, 394, 59, 395, 60, 396, 61, 397, 398, 399, 400, 401, 402, 280, 281, 403, 404, 405, 406, 407, 408, 409, 410, 411, 412, 413, 414, 415, 416, 417, 418, 419, 420, 421, 422, 423, 63, 64, 424, 65, 425, 426, 427, 428, 429, 430, 431, 432, 433, 434, 435, 436, 437, 438, 439, 440, 441, 442, 443, 444, 445, 446, 447, 448, 449, 450, 451, 452, 453, 454, 455, 456, 457, 458, 459, 460, 461, 462, 463, 974, 975, 976, 977, 978, 979, 980, 981, 982, 983, 1014, 1015, 1016, 1017, 1018, 1019, 1020, 1021, 1022, 1023, 1024, 1025, 1026, 1027, 1028, 1029, 1030] (by decide +kernel) (by decide +kernel)) (goodIn_sub (fun _ h => List.mem_append_left _ (List.mem_append_right _ h)) (by decide +kernel))
set_option maxRecDepth 20000 in
theorem gL_law_L_leastDue : GoodIn wsL_law (va_wsS RL 150 yL_leastDue wsL_leastDue) := goodIn_app (goodIn_of _ (by decide +kernel)) ggL_law_L_leastDue
set_option maxRecDepth 20000 in
theorem ggL_law_X8_leastDue : GoodIn wsL_law wsX8_leastDue := goodIn_r _ [793, 184, 129, 260, 261, 262, 5, 263, 185, 484, 485, 486, 487, 134, 128, 135, 136, 131, 488, 489, 490, 491, 492, 493, 494, 130, 127, 137, 138, 139, 141, 309, 310, 311, 495, 496, 497, 498, 499, 500, 501, 502, 503, 504, 505, 506, 507, 508, 509, 510, 511, 512, 513, 514, 515, 516, 517, 518, 519, 520, 521, 522, 523, 524, 525, 526, 527, 528, 529, 530, 984, 985, 986, 987, 988, 989, 990, 991, 992, 993, 994, 995, 996, 997, 998, 999, 1000, 1001, 1002, 1003, 1004, 1005, 1006, 1007, 1008, 1009, 1010, 1011, 1012, 1013] (by decide +kernel) (by decide +kernel)
set_option maxRecDepth 20000 in
theorem gL_law_X8_leastDue : GoodIn wsL_law (wsV RL 152 RX8 yX8_leastDue wsX8_leastDue) := goodIn_app (goodIn_of _ (by decide +kernel)) ggL_law_X8_leastDue
set_option maxRecDepth 20000 in
theorem ggL_law_X7_lowerBound : GoodIn wsL_law wsX7_lowerBound := goodIn_r _ [797, 798, 799, 800, 2, 801, 30, 17, 159, 245, 802, 426, 427, 428, 31, 376, 789, 169, 170, 16, 171, 45, 46, 48, 49, 50, 51, 52, 53, 385, 386, 387, 20, 388, 58, 389, 390, 391, 392, 393, 62, 66, 394, 59, 395, 60, 396, 61, 397, 398, 399, 400, 401, 402, 280, 281, 403, 404, 405, 406, 407, 408, 409, 410, 411, 412, 413, 414, 415, 416, 417, 418, 419, 420, 421, 422, 423, 63, 64, 424, 65, 425, 429, 430, 431, 432, 433, 434, 435, 436, 437, 438, 439, 440, 441, 442, 443, 444, 445, 446, 447, 448, 449, 450, 451, 452, 453, 454, 455, 456, 457, 458, 459, 460, 461, 462, 463, 974, 975, 976, 977, 978, 979, 980, 981, 982, 983, 1014, 1015, 1016, 1017, 1018, 1019, 1020, 1021, 1022, 1023, 1024, 1025, 1026, 1027, 1028, 1029, 1030] (by decide +kernel) (by decide +kernel)
set_option maxRecDepth 20000 in
theorem gL_law_X7_lowerBound : GoodIn wsL_law (wsV RL 153 RX7 yX7_lowerBound wsX7_lowerBound) := goodIn_app (goodIn_of _ (by decide +kernel)) ggL_law_X7_lowerBound
set_option maxRecDepth 20000 in
theorem ggL_law_X8_lowerBound : GoodIn wsL_law wsX8_lowerBound := goodIn_r _ [806, 184, 185, 146, 129, 484, 485, 486, 5, 487, 134, 128, 135, 136, 131, 488, 489, 490, 491, 492, 493, 494, 130, 127, 137, 138, 139, 141, 309, 310, 311, 495, 496, 497, 498, 499, 500, 501, 502, 503, 504, 505, 506, 507, 508, 509, 510, 511, 512, 513, 514, 515, 516, 517, 518, 519, 520, 521, 522, 523, 524, 525, 526, 527, 528, 529, 530, 984, 985, 986, 987, 988, 989, 990, 991, 992, 993, 994, 995, 996, 997, 998, 999, 1000, 1001, 1002, 1003, 1004, 1005, 1006, 1007, 1008, 1009, 1010, 1011, 1012, 1013] (by decide +kernel) (by decide +kernel)
set_option maxRecDepth 20000 in
theorem gL_law_X8_lowerBound : GoodIn wsL_law (wsV RL 156 RX8 yX8_lowerBound wsX8_lowerBound) := goodIn_app (goodIn_of _ (by decide +kernel)) ggL_law_X8_lowerBound
set_option maxRecDepth 20000 in
theorem ggL_law_L_refutes : GoodIn wsL_law wsL_refutes := goodIn_ca (goodIn_r _ [809, 201, 810, 811, 812, 2, 813, 30, 17, 31, 376, 247, 248, 249, 250, 218, 219, 251, 252, 253, 16, 254, 46, 789, 169, 170, 171, 45, 48, 49, 50, 51, 52, 53, 286, 287, 288, 289, 385, 386, 387, 20, 388, 58, 389, 390, 391, 392, 393, 62, 66, 394, 59, 395, 60, 396, 61, 397, 398, 399, 400, 401, 402, 280, 281, 403, 404, 405, 406, 407, 408, 409, 410, 411, 412, 413, 414, 415, 416, 417, 418, 419, 420, 421, 422, 423, 63, 64, 424, 65, 425, 426, 427, 428, 429, 430, 431, 432, 433, 434, 435, 436, 437, 438, 439, 440, 441, 442, 443, 444, 445, 446, 447, 448, 449, 450, 451, 452, 453, 454, 455, 456, 457, 458, 459, 460, 461, 462, 463, 974, 975, 976, 977, 978, 979, 980, 981, 982, 983, 1022, 1023, 1024, 1025, 1026, 1027, 1028, 1029, 1030, 1014, 1015, 1016, 1017, 1018, 1019, 1020, 1021] (by decide +kernel) (by decide +kernel)) (goodIn_sub (fun _ h => List.mem_append_left _ (List.mem_append_right _ h)) (by decide +kernel))
set_option maxRecDepth 20000 in
theorem gL_law_L_refutes : GoodIn wsL_law (va_wsS RL 157 yL_refutes wsL_refutes) := goodIn_app (goodIn_of _ (by decide +kernel)) ggL_law_L_refutes
set_option maxRecDepth 20000 in
theorem ggL_law_X8_refutes : GoodIn wsL_law wsX8_refutes := goodIn_r _ [817, 184, 131, 260, 261, 262, 5, 263, 185, 484, 485, 486, 487, 134, 128, 135, 129, 136, 488, 489, 490, 491, 492, 493, 494, 130, 127, 137, 138, 139, 141, 309, 310, 311, 495, 496, 497, 498, 499, 500, 501, 502, 503, 504, 505, 506, 507, 508, 509, 510, 511, 512, 513, 514, 515, 516, 517, 518, 519, 520, 521, 522, 523, 524, 525, 526, 527, 528, 529, 530, 984, 985, 986, 987, 988, 989, 990, 991, 992, 993, 994, 995, 996, 997, 998, 999, 1000, 1001, 1002, 1003, 1004, 1005, 1006, 1007, 1008, 1009, 1010, 1011, 1012, 1013] (by decide +kernel) (by decide +kernel)
set_option maxRecDepth 20000 in
theorem gL_law_X8_refutes : GoodIn wsL_law (wsV RL 159 RX8 yX8_refutes wsX8_refutes) := goodIn_app (goodIn_of _ (by decide +kernel)) ggL_law_X8_refutes
set_option maxRecDepth 20000 in
theorem ggL_law_L_decided : GoodIn wsL_law wsL_decided := goodIn_ca (goodIn_r _ [820, 202, 821, 822, 823, 2, 824, 17, 21, 543, 544, 545, 546, 220, 221, 376, 381, 382, 383, 384, 40, 385, 386, 387, 20, 388, 58, 389, 390, 391, 392, 393, 62, 66, 394, 59, 395, 60, 396, 61, 397, 398, 399, 400, 401, 402, 280, 281, 403, 404, 405, 406, 407, 408, 409, 410, 411, 412, 413, 414, 415, 416, 417, 418, 419, 420, 421, 422, 423, 63, 64, 424, 65, 425, 426, 427, 428, 429, 430, 431, 432, 433, 434, 435, 436, 437, 438, 439, 440, 441, 442, 443, 444, 445, 446, 447, 448, 449, 450, 451, 452, 453, 454, 455, 456, 457, 458, 459, 460, 461, 462, 463, 377, 378, 379, 16, 380, 46, 48, 464, 465, 466, 467, 468, 469, 470, 471, 974, 975, 976, 977, 978, 979, 980, 981, 982, 983, 1022, 1023, 1024, 1025, 1026, 1027, 1028, 1029, 1030, 1014, 1015, 1016, 1017, 1018, 1019, 1020, 1021] (by decide +kernel) (by decide +kernel)) (goodIn_sub (fun _ h => List.mem_append_right _ h) (by decide +kernel))
set_option maxRecDepth 20000 in
theorem gL_law_L_decided : GoodIn wsL_law (va_wsS RL 160 yL_decided wsL_decided) := goodIn_app (goodIn_of _ (by decide +kernel)) ggL_law_L_decided
set_option maxRecDepth 20000 in
theorem ggL_law_X8_decided : GoodIn wsL_law wsX8_decided := goodIn_r _ [828, 184, 484, 485, 486, 5, 487, 185, 134, 128, 135, 129, 136, 131, 488, 489, 490, 491, 492, 493, 494, 130, 127, 137, 138, 139, 141, 309, 310, 311, 495, 496, 497, 498, 499, 500, 501, 502, 503, 504, 505, 506, 507, 508, 509, 510, 511, 512, 513, 514, 515, 516, 517, 518, 519, 520, 521, 522, 523, 524, 525, 526, 527, 528, 529, 530, 480, 481, 482, 483, 531, 532, 533, 534, 984, 985, 986, 987, 988, 989, 990, 991, 992, 993, 994, 995, 996, 997, 998, 999, 1000, 1001, 1002, 1003, 1004, 1005, 1006, 1007, 1008, 1009, 1010, 1011, 1012, 1013] (by decide +kernel) (by decide +kernel)
set_option maxRecDepth 20000 in
theorem gL_law_X8_decided : GoodIn wsL_law (wsV RL 163 RX8 yX8_decided wsX8_decided) := goodIn_app (goodIn_of _ (by decide +kernel)) ggL_law_X8_decided
set_option maxRecDepth 20000 in
theorem ggL_law_L_append : GoodIn wsL_law wsL_append := goodIn_ca (goodIn_ca (goodIn_r _ [831, 152, 202, 832, 833, 834, 2, 835, 157, 158, 220, 221, 39, 836, 837, 838, 839, 38, 840, 110, 119, 974, 975, 976, 977, 978, 979, 980, 981, 982, 983, 1046, 1047, 1048, 1049, 1050, 1051, 1052, 1053, 1054, 1055, 1056] (by decide +kernel) (by decide +kernel)) (goodIn_sub (fun _ h => List.mem_append_left _ (List.mem_append_left _ (List.mem_append_right _ h))) (by decide +kernel))) (goodIn_sub (fun _ h => List.mem_append_right _ h) (by decide +kernel))
set_option maxRecDepth 20000 in
theorem gL_law_L_append : GoodIn wsL_law (va_wsS RL 164 yL_append wsL_append) := goodIn_app (goodIn_of _ (by decide +kernel)) ggL_law_L_append
set_option maxRecDepth 20000 in
theorem ggL_law_X8_append : GoodIn wsL_law wsX8_append := goodIn_r _ [844, 845, 184, 133, 186, 187, 5, 188, 984, 985, 986, 987, 988, 989, 990, 991, 992, 993, 994, 995, 996, 997, 998, 999, 1000, 1001, 1002, 1003, 1004, 1005, 1006, 1007, 1008, 1009, 1010, 1011, 1012, 1013] (by decide +kernel) (by decide +kernel)
set_option maxRecDepth 20000 in
theorem gL_law_X8_append : GoodIn wsL_law (wsV RL 166 RX8 yX8_append wsX8_append) := goodIn_app (goodIn_of _ (by decide +kernel)) ggL_law_X8_append
set_option maxRecDepth 20000 in
theorem ggL_law_X7_clearText : GoodIn wsL_law wsX7_clearText := goodIn_r _ [849, 39, 836, 974, 975, 976, 977, 978, 979, 980, 981, 982, 983, 1046, 1047, 1048, 1049, 1050, 1051, 1052, 1053, 1054, 1055, 1056] (by decide +kernel) (by decide +kernel)
set_option maxRecDepth 20000 in
theorem gL_law_X7_clearText : GoodIn wsL_law (wsV RL 167 RX7 yX7_clearText wsX7_clearText) := goodIn_app (goodIn_of _ (by decide +kernel)) ggL_law_X7_clearText
set_option maxRecDepth 20000 in
theorem ggL_law_X8_clearText : GoodIn wsL_law wsX8_clearText := goodIn_r _ [853, 184, 845, 984, 985, 986, 987, 988, 989, 990, 991, 992, 993, 994, 995, 996, 997, 998, 999, 1000, 1001, 1002, 1003, 1004, 1005, 1006, 1007, 1008, 1009, 1010, 1011, 1012, 1013] (by decide +kernel) (by decide +kernel)
set_option maxRecDepth 20000 in
theorem gL_law_X8_clearText : GoodIn wsL_law (wsV RL 170 RX8 yX8_clearText wsX8_clearText) := goodIn_app (goodIn_of _ (by decide +kernel)) ggL_law_X8_clearText
set_option maxRecDepth 20000 in
theorem ggL_law_X7_carryOut : GoodIn wsL_law wsX7_carryOut := goodIn_r _ [857, 39, 858, 859, 860, 38, 861, 121, 862, 863, 864, 865, 120, 866, 867, 868, 869, 110, 111, 116, 117, 870, 871, 872, 873, 119, 874, 875, 876, 877, 112, 113, 114, 115, 878, 879, 880, 881, 882, 883, 884, 885, 886, 887, 888, 889, 890, 891, 892, 160, 161, 162, 2, 163, 35, 17, 164, 165, 166, 34, 167, 104, 106, 168, 169, 170, 16, 171, 45, 46, 48, 49, 50, 51, 52, 53, 172, 173, 174, 175, 40, 41, 893, 894, 895, 896, 897, 898, 899, 900, 901, 902, 903, 904, 905, 207, 208, 209, 210, 211, 212, 213, 214, 222, 223, 224, 225, 271, 272, 273, 274, 275, 252, 253, 254, 276, 277, 278, 279, 280, 281, 282, 283, 284, 285, 286, 287, 288, 289, 974, 975, 976, 977, 978, 979, 980, 981, 982, 983, 1046, 1047, 1048, 1049, 1050, 1051, 1052, 1053, 1054, 1055, 1056, 1044, 1045, 1014, 1015, 1016, 1017, 1018, 1019, 1020, 1021] (by decide +kernel) (by decide +kernel)
set_option maxRecDepth 20000 in
theorem gL_law_X7_carryOut : GoodIn wsL_law (wsV RL 171 RX7 yX7_carryOut wsX7_carryOut) := goodIn_app (goodIn_of _ (by decide +kernel)) ggL_law_X7_carryOut
set_option maxRecDepth 20000 in
theorem ggL_law_X8_carryOut : GoodIn wsL_law wsX8_carryOut := goodIn_r _ [909, 184, 910, 911, 912, 913, 914, 5, 915, 916, 845, 147, 917, 918, 919, 920, 133, 921, 922, 923, 924, 925, 926, 927, 928, 186, 187, 188, 929, 930, 931, 932, 933, 934, 935, 936, 937, 938, 939, 940, 189, 190, 191, 192, 193, 132, 126, 185, 127, 128, 129, 130, 131, 941, 942, 943, 944, 230, 231, 232, 233, 234, 235, 236, 237, 305, 306, 307, 308, 260, 261, 262, 263, 309, 310, 311, 312, 313, 314, 315, 316, 317, 318, 319, 984, 985, 986, 987, 988, 989, 990, 991, 992, 993, 994, 995, 996, 997, 998, 999, 1000, 1001, 1002, 1003, 1004, 1005, 1006, 1007, 1008, 1009, 1010, 1011, 1012, 1013] (by decide +kernel) (by decide +kernel)
set_option maxRecDepth 20000 in
theorem gL_law_X8_carryOut : GoodIn wsL_law (wsV RL 174 RX8 yX8_carryOut wsX8_carryOut) := goodIn_app (goodIn_of _ (by decide +kernel)) ggL_law_X8_carryOut
set_option maxRecDepth 20000 in
theorem ggL_law_L_undo : GoodIn wsL_law wsL_undo := goodIn_ca (goodIn_r _ [947, 202, 948, 949, 950, 2, 951, 220, 221, 35, 952, 17, 953, 954, 955, 34, 956, 104, 106, 168, 169, 170, 16, 171, 45, 46, 48, 49, 50, 51, 52, 53, 172, 173, 174, 175, 40, 41, 974, 975, 976, 977, 978, 979, 980, 981, 982, 983, 1044, 1045, 1014, 1015, 1016, 1017, 1018, 1019, 1020, 1021] (by decide +kernel) (by decide +kernel)) (goodIn_sub (fun _ h => List.mem_append_right _ h) (by decide +kernel))
set_option maxRecDepth 20000 in
theorem gL_law_L_undo : GoodIn wsL_law (va_wsS RL 175 yL_undo wsL_undo) := goodIn_app (goodIn_of _ (by decide +kernel)) ggL_law_L_undo
set_option maxRecDepth 20000 in
theorem ggL_law_X8_undo : GoodIn wsL_law wsX8_undo := goodIn_r _ [960, 193, 184, 132, 126, 185, 127, 128, 129, 130, 131, 984, 985, 986, 987, 988, 989, 990, 991, 992, 993, 994, 995, 996, 997, 998, 999, 1000, 1001, 1002, 1003, 1004, 1005, 1006, 1007, 1008, 1009, 1010, 1011, 1012, 1013] (by decide +kernel) (by decide +kernel)
set_option maxRecDepth 20000 in
theorem gL_law_X8_undo : GoodIn wsL_law (wsV RL 178 RX8 yX8_undo wsX8_undo) := goodIn_app (goodIn_of _ (by decide +kernel)) ggL_law_X8_undo
set_option maxRecDepth 20000 in
theorem ggL_law_X7_digest : GoodIn wsL_law wsX7_digest := goodIn_r _ [964, 965, 966, 39, 836, 17, 159, 21, 376, 542, 562, 967, 35, 952, 381, 382, 383, 2, 384, 40, 385, 386, 387, 20, 388, 58, 389, 390, 391, 392, 393, 62, 66, 394, 59, 395, 60, 396, 61, 397, 398, 399, 400, 401, 402, 280, 281, 403, 404, 405, 406, 407, 408, 409, 410, 411, 412, 413, 414, 415, 416, 417, 418, 419, 420, 421, 422, 423, 63, 64, 424, 65, 425, 426, 427, 428, 429, 430, 431, 432, 433, 434, 435, 436, 437, 438, 439, 440, 441, 442, 443, 444, 445, 446, 447, 448, 449, 450, 451, 452, 453, 454, 455, 456, 457, 458, 459, 460, 461, 462, 463, 371, 372, 373, 374, 375, 290, 291, 292, 16, 293, 46, 53, 294, 295, 296, 297, 298, 299, 300, 377, 378, 379, 380, 48, 464, 465, 466, 467, 468, 469, 470, 471, 356, 357, 358, 359, 49, 50, 51, 52, 974, 975, 976, 977, 978, 979, 980, 981, 982, 983, 1046, 1047, 1048, 1049, 1050, 1051, 1052, 1053, 1054, 1055, 1056, 1014, 1015, 1016, 1017, 1018, 1019, 1020, 1021, 1022, 1023, 1024, 1025, 1026, 1027, 1028, 1029, 1030, 1044, 1045] (by decide +kernel) (by decide +kernel)
set_option maxRecDepth 20000 in
theorem gL_law_X7_digest : GoodIn wsL_law (wsV RL 179 RX7 yX7_digest wsX7_digest) := goodIn_app (goodIn_of _ (by decide +kernel)) ggL_law_X7_digest
set_option maxRecDepth 20000 in
theorem ggL_law_X8_digest : GoodIn wsL_law wsX8_digest := goodIn_r _ [971, 184, 972, 845, 973, 185, 127, 128, 129, 130, 131, 134, 135, 136, 193, 476, 477, 478, 5, 479, 126, 320, 321, 322, 323, 324, 325, 326, 480, 481, 482, 483, 484, 485, 486, 487, 488, 489, 490, 491, 492, 493, 494, 137, 138, 139, 141, 309, 310, 311, 495, 496, 497, 498, 499, 500, 501, 502, 503, 504, 505, 506, 507, 508, 509, 510, 511, 512, 513, 514, 515, 516, 517, 518, 519, 520, 521, 522, 523, 524, 525, 526, 527, 528, 529, 530, 531, 532, 533, 534, 345, 346, 347, 348, 984, 985, 986, 987, 988, 989, 990, 991, 992, 993, 994, 995, 996, 997, 998, 999, 1000, 1001, 1002, 1003, 1004, 1005, 1006, 1007, 1008, 1009, 1010, 1011, 1012, 1013] (by decide +kernel) (by decide +kernel)
set_option maxRecDepth 20000 in
theorem gL_law_X8_digest : GoodIn wsL_law (wsV RL 183 RX8 yX8_digest wsX8_digest) := goodIn_app (goodIn_of _ (by decide +kernel)) ggL_law_X8_digest
theorem dL_law_0 : decode cL_law 0 = .ok (.new 8, 3) := by decide +kernel
theorem dL_law_3 : decode cL_law 3 = .ok (.dup, 1) := by decide +kernel
theorem dL_law_4 : decode cL_law 4 = .ok (.invokespecial 83, 3) := by decide +kernel
theorem dL_law_7 : decode cL_law 7 = .ok (.astore_n 1, 1) := by decide +kernel
theorem dL_law_8 : decode cL_law 8 = .ok (.new 84, 3) := by decide +kernel
theorem dL_law_11 : decode cL_law 11 = .ok (.dup, 1) := by decide +kernel
theorem dL_law_12 : decode cL_law 12 = .ok (.invokespecial 86, 3) := by decide +kernel
theorem dL_law_15 : decode cL_law 15 = .ok (.astore_n 2, 1) := by decide +kernel
theorem dL_law_16 : decode cL_law 16 = .ok (.iconst 1, 1) := by decide +kernel
theorem dL_law_17 : decode cL_law 17 = .ok (.newarray .long, 2) := by decide +kernel
theorem dL_law_19 : decode cL_law 19 = .ok (.astore_n 3, 1) := by decide +kernel
theorem dL_law_20 : decode cL_law 20 = .ok (.iconst 1, 1) := by decide +kernel
theorem dL_law_21 : decode cL_law 21 = .ok (.newarray .double, 2) := by decide +kernel
theorem dL_law_23 : decode cL_law 23 = .ok (.astore 4, 2) := by decide +kernel
theorem dL_law_25 : decode cL_law 25 = .ok (.iconst 0, 1) := by decide +kernel
theorem dL_law_26 : decode cL_law 26 = .ok (.istore 5, 2) := by decide +kernel
theorem dL_law_28 : decode cL_law 28 = .ok (.iload 5, 2) := by decide +kernel
theorem dL_law_30 : decode cL_law 30 = .ok (.aload_n 0, 1) := by decide +kernel
theorem dL_law_31 : decode cL_law 31 = .ok (.arraylength, 1) := by decide +kernel
theorem dL_law_32 : decode cL_law 32 = .ok (.iconst 5, 1) := by decide +kernel
theorem dL_law_33 : decode cL_law 33 = .ok (.isub, 1) := by decide +kernel
theorem dL_law_34 : decode cL_law 34 = .ok (.if_icmp .gt 1549, 3) := by decide +kernel
theorem dL_law_37 : decode cL_law 37 = .ok (.aload_n 0, 1) := by decide +kernel
theorem dL_law_38 : decode cL_law 38 = .ok (.iload 5, 2) := by decide +kernel
theorem dL_law_40 : decode cL_law 40 = .ok (.iaload, 1) := by decide +kernel
theorem dL_law_41 : decode cL_law 41 = .ok (.bipush 31, 2) := by decide +kernel
theorem dL_law_43 : decode cL_law 43 = .ok (.iand, 1) := by decide +kernel
theorem dL_law_44 : decode cL_law 44 = .ok (.tableswitch 1533 0 25 #[120, 176, 268, 348, 444, 457, 525, 581, 637, 693, 768, 836, 904, 960, 973, 1041, 1109, 1184, 1240, 1253, 1328, 1393, 1449, 1462, 1475, 1519], 120) := by decide +kernel
theorem dL_law_164 : decode cL_law 164 = .ok (.aload_n 1, 1) := by decide +kernel
theorem dL_law_165 : decode cL_law 165 = .ok (.aload_n 0, 1) := by decide +kernel
theorem dL_law_166 : decode cL_law 166 = .ok (.iload 5, 2) := by decide +kernel
theorem dL_law_168 : decode cL_law 168 = .ok (.iconst 1, 1) := by decide +kernel
theorem dL_law_169 : decode cL_law 169 = .ok (.iadd, 1) := by decide +kernel
theorem dL_law_170 : decode cL_law 170 = .ok (.iaload, 1) := by decide +kernel
theorem dL_law_171 : decode cL_law 171 = .ok (.aload_n 3, 1) := by decide +kernel
theorem dL_law_172 : decode cL_law 172 = .ok (.invokestatic 87, 3) := by decide +kernel
theorem dL_law_175 : decode cL_law 175 = .ok (.istore 6, 2) := by decide +kernel
theorem dL_law_177 : decode cL_law 177 = .ok (.aload_n 2, 1) := by decide +kernel
theorem dL_law_178 : decode cL_law 178 = .ok (.aload_n 0, 1) := by decide +kernel
theorem dL_law_179 : decode cL_law 179 = .ok (.iload 5, 2) := by decide +kernel
theorem dL_law_181 : decode cL_law 181 = .ok (.iconst 1, 1) := by decide +kernel
theorem dL_law_182 : decode cL_law 182 = .ok (.iadd, 1) := by decide +kernel
theorem dL_law_183 : decode cL_law 183 = .ok (.iaload, 1) := by decide +kernel
theorem dL_law_184 : decode cL_law 184 = .ok (.invokevirtual 92, 3) := by decide +kernel
theorem dL_law_187 : decode cL_law 187 = .ok (.istore 7, 2) := by decide +kernel
theorem dL_law_189 : decode cL_law 189 = .ok (.aload_n 2, 1) := by decide +kernel
theorem dL_law_190 : decode cL_law 190 = .ok (.invokevirtual 93, 3) := by decide +kernel
theorem dL_law_193 : decode cL_law 193 = .ok (.iload 6, 2) := by decide +kernel
theorem dL_law_195 : decode cL_law 195 = .ok (.if_icmp .eq 5, 3) := by decide +kernel
theorem dL_law_198 : decode cL_law 198 = .ok (.iconst 0, 1) := by decide +kernel
theorem dL_law_199 : decode cL_law 199 = .ok (.ireturn, 1) := by decide +kernel
theorem dL_law_200 : decode cL_law 200 = .ok (.iload 6, 2) := by decide +kernel
theorem dL_law_202 : decode cL_law 202 = .ok (.ifCond .ne 15, 3) := by decide +kernel
theorem dL_law_205 : decode cL_law 205 = .ok (.aload_n 3, 1) := by decide +kernel
theorem dL_law_206 : decode cL_law 206 = .ok (.iconst 0, 1) := by decide +kernel
theorem dL_law_207 : decode cL_law 207 = .ok (.laload, 1) := by decide +kernel
theorem dL_law_208 : decode cL_law 208 = .ok (.iload 7, 2) := by decide +kernel
theorem dL_law_210 : decode cL_law 210 = .ok (.i2l, 1) := by decide +kernel
theorem dL_law_211 : decode cL_law 211 = .ok (.lcmp, 1) := by decide +kernel
theorem dL_law_212 : decode cL_law 212 = .ok (.ifCond .eq 5, 3) := by decide +kernel
theorem dL_law_215 : decode cL_law 215 = .ok (.iconst 0, 1) := by decide +kernel
theorem dL_law_216 : decode cL_law 216 = .ok (.ireturn, 1) := by decide +kernel
theorem dL_law_217 : decode cL_law 217 = .ok (.goto 1360, 3) := by decide +kernel
theorem dL_law_220 : decode cL_law 220 = .ok (.aload_n 1, 1) := by decide +kernel
theorem dL_law_221 : decode cL_law 221 = .ok (.aload_n 0, 1) := by decide +kernel
theorem dL_law_222 : decode cL_law 222 = .ok (.iload 5, 2) := by decide +kernel
theorem dL_law_224 : decode cL_law 224 = .ok (.iconst 1, 1) := by decide +kernel
theorem dL_law_225 : decode cL_law 225 = .ok (.iadd, 1) := by decide +kernel
theorem dL_law_226 : decode cL_law 226 = .ok (.iaload, 1) := by decide +kernel
theorem dL_law_227 : decode cL_law 227 = .ok (.aload_n 0, 1) := by decide +kernel
theorem dL_law_228 : decode cL_law 228 = .ok (.iload 5, 2) := by decide +kernel
theorem dL_law_230 : decode cL_law 230 = .ok (.iconst 2, 1) := by decide +kernel
theorem dL_law_231 : decode cL_law 231 = .ok (.iadd, 1) := by decide +kernel
theorem dL_law_232 : decode cL_law 232 = .ok (.iaload, 1) := by decide +kernel
theorem dL_law_233 : decode cL_law 233 = .ok (.aload_n 0, 1) := by decide +kernel
theorem dL_law_234 : decode cL_law 234 = .ok (.iload 5, 2) := by decide +kernel
theorem dL_law_236 : decode cL_law 236 = .ok (.iconst 3, 1) := by decide +kernel
theorem dL_law_237 : decode cL_law 237 = .ok (.iadd, 1) := by decide +kernel
theorem dL_law_238 : decode cL_law 238 = .ok (.iaload, 1) := by decide +kernel
theorem dL_law_239 : decode cL_law 239 = .ok (.aload_n 0, 1) := by decide +kernel
theorem dL_law_240 : decode cL_law 240 = .ok (.iload 5, 2) := by decide +kernel
theorem dL_law_242 : decode cL_law 242 = .ok (.iconst 4, 1) := by decide +kernel
theorem dL_law_243 : decode cL_law 243 = .ok (.iadd, 1) := by decide +kernel
theorem dL_law_244 : decode cL_law 244 = .ok (.iaload, 1) := by decide +kernel
theorem dL_law_245 : decode cL_law 245 = .ok (.aload_n 3, 1) := by decide +kernel
theorem dL_law_246 : decode cL_law 246 = .ok (.invokestatic 96, 3) := by decide +kernel
theorem dL_law_249 : decode cL_law 249 = .ok (.istore 6, 2) := by decide +kernel
theorem dL_law_251 : decode cL_law 251 = .ok (.aload_n 2, 1) := by decide +kernel
theorem dL_law_252 : decode cL_law 252 = .ok (.aload_n 0, 1) := by decide +kernel
theorem dL_law_253 : decode cL_law 253 = .ok (.iload 5, 2) := by decide +kernel
theorem dL_law_255 : decode cL_law 255 = .ok (.iconst 1, 1) := by decide +kernel
theorem dL_law_256 : decode cL_law 256 = .ok (.iadd, 1) := by decide +kernel
theorem dL_law_257 : decode cL_law 257 = .ok (.iaload, 1) := by decide +kernel
theorem dL_law_258 : decode cL_law 258 = .ok (.aload_n 0, 1) := by decide +kernel
theorem dL_law_259 : decode cL_law 259 = .ok (.iload 5, 2) := by decide +kernel
theorem dL_law_261 : decode cL_law 261 = .ok (.iconst 2, 1) := by decide +kernel
theorem dL_law_262 : decode cL_law 262 = .ok (.iadd, 1) := by decide +kernel
theorem dL_law_263 : decode cL_law 263 = .ok (.iaload, 1) := by decide +kernel
theorem dL_law_264 : decode cL_law 264 = .ok (.aload_n 0, 1) := by decide +kernel
theorem dL_law_265 : decode cL_law 265 = .ok (.iload 5, 2) := by decide +kernel
theorem dL_law_267 : decode cL_law 267 = .ok (.iconst 3, 1) := by decide +kernel
theorem dL_law_268 : decode cL_law 268 = .ok (.iadd, 1) := by decide +kernel
theorem dL_law_269 : decode cL_law 269 = .ok (.iaload, 1) := by decide +kernel
theorem dL_law_270 : decode cL_law 270 = .ok (.aload_n 0, 1) := by decide +kernel
theorem dL_law_271 : decode cL_law 271 = .ok (.iload 5, 2) := by decide +kernel
theorem dL_law_273 : decode cL_law 273 = .ok (.iconst 4, 1) := by decide +kernel
theorem dL_law_274 : decode cL_law 274 = .ok (.iadd, 1) := by decide +kernel
theorem dL_law_275 : decode cL_law 275 = .ok (.iaload, 1) := by decide +kernel
theorem dL_law_276 : decode cL_law 276 = .ok (.invokevirtual 99, 3) := by decide +kernel
theorem dL_law_279 : decode cL_law 279 = .ok (.istore 7, 2) := by decide +kernel
theorem dL_law_281 : decode cL_law 281 = .ok (.aload_n 2, 1) := by decide +kernel
theorem dL_law_282 : decode cL_law 282 = .ok (.invokevirtual 93, 3) := by decide +kernel
theorem dL_law_285 : decode cL_law 285 = .ok (.iload 6, 2) := by decide +kernel
theorem dL_law_287 : decode cL_law 287 = .ok (.if_icmp .eq 5, 3) := by decide +kernel
theorem dL_law_290 : decode cL_law 290 = .ok (.iconst 0, 1) := by decide +kernel
theorem dL_law_291 : decode cL_law 291 = .ok (.ireturn, 1) := by decide +kernel
theorem dL_law_292 : decode cL_law 292 = .ok (.iload 6, 2) := by decide +kernel
theorem dL_law_294 : decode cL_law 294 = .ok (.ifCond .ne 15, 3) := by decide +kernel
theorem dL_law_297 : decode cL_law 297 = .ok (.aload_n 3, 1) := by decide +kernel
theorem dL_law_298 : decode cL_law 298 = .ok (.iconst 0, 1) := by decide +kernel
theorem dL_law_299 : decode cL_law 299 = .ok (.laload, 1) := by decide +kernel
theorem dL_law_300 : decode cL_law 300 = .ok (.iload 7, 2) := by decide +kernel
theorem dL_law_302 : decode cL_law 302 = .ok (.i2l, 1) := by decide +kernel
theorem dL_law_303 : decode cL_law 303 = .ok (.lcmp, 1) := by decide +kernel
theorem dL_law_304 : decode cL_law 304 = .ok (.ifCond .eq 5, 3) := by decide +kernel
theorem dL_law_307 : decode cL_law 307 = .ok (.iconst 0, 1) := by decide +kernel
theorem dL_law_308 : decode cL_law 308 = .ok (.ireturn, 1) := by decide +kernel
theorem dL_law_309 : decode cL_law 309 = .ok (.goto 1268, 3) := by decide +kernel
theorem dL_law_312 : decode cL_law 312 = .ok (.aload_n 1, 1) := by decide +kernel
theorem dL_law_313 : decode cL_law 313 = .ok (.aload_n 0, 1) := by decide +kernel
theorem dL_law_314 : decode cL_law 314 = .ok (.iload 5, 2) := by decide +kernel
theorem dL_law_316 : decode cL_law 316 = .ok (.iconst 1, 1) := by decide +kernel
theorem dL_law_317 : decode cL_law 317 = .ok (.iadd, 1) := by decide +kernel
theorem dL_law_318 : decode cL_law 318 = .ok (.iaload, 1) := by decide +kernel
theorem dL_law_319 : decode cL_law 319 = .ok (.aload_n 0, 1) := by decide +kernel
theorem dL_law_320 : decode cL_law 320 = .ok (.iload 5, 2) := by decide +kernel
theorem dL_law_322 : decode cL_law 322 = .ok (.iconst 2, 1) := by decide +kernel
theorem dL_law_323 : decode cL_law 323 = .ok (.iadd, 1) := by decide +kernel
theorem dL_law_324 : decode cL_law 324 = .ok (.iaload, 1) := by decide +kernel
theorem dL_law_325 : decode cL_law 325 = .ok (.aload_n 0, 1) := by decide +kernel
theorem dL_law_326 : decode cL_law 326 = .ok (.iload 5, 2) := by decide +kernel
theorem dL_law_328 : decode cL_law 328 = .ok (.iconst 3, 1) := by decide +kernel
theorem dL_law_329 : decode cL_law 329 = .ok (.iadd, 1) := by decide +kernel
theorem dL_law_330 : decode cL_law 330 = .ok (.iaload, 1) := by decide +kernel
theorem dL_law_331 : decode cL_law 331 = .ok (.aload_n 3, 1) := by decide +kernel
theorem dL_law_332 : decode cL_law 332 = .ok (.invokestatic 100, 3) := by decide +kernel
theorem dL_law_335 : decode cL_law 335 = .ok (.istore 6, 2) := by decide +kernel
theorem dL_law_337 : decode cL_law 337 = .ok (.aload_n 2, 1) := by decide +kernel
theorem dL_law_338 : decode cL_law 338 = .ok (.aload_n 0, 1) := by decide +kernel
theorem dL_law_339 : decode cL_law 339 = .ok (.iload 5, 2) := by decide +kernel
theorem dL_law_341 : decode cL_law 341 = .ok (.iconst 1, 1) := by decide +kernel
theorem dL_law_342 : decode cL_law 342 = .ok (.iadd, 1) := by decide +kernel
theorem dL_law_343 : decode cL_law 343 = .ok (.iaload, 1) := by decide +kernel
theorem dL_law_344 : decode cL_law 344 = .ok (.aload_n 0, 1) := by decide +kernel
theorem dL_law_345 : decode cL_law 345 = .ok (.iload 5, 2) := by decide +kernel
theorem dL_law_347 : decode cL_law 347 = .ok (.iconst 2, 1) := by decide +kernel
theorem dL_law_348 : decode cL_law 348 = .ok (.iadd, 1) := by decide +kernel
theorem dL_law_349 : decode cL_law 349 = .ok (.iaload, 1) := by decide +kernel
theorem dL_law_350 : decode cL_law 350 = .ok (.aload_n 0, 1) := by decide +kernel
theorem dL_law_351 : decode cL_law 351 = .ok (.iload 5, 2) := by decide +kernel
theorem dL_law_353 : decode cL_law 353 = .ok (.iconst 3, 1) := by decide +kernel
theorem dL_law_354 : decode cL_law 354 = .ok (.iadd, 1) := by decide +kernel
theorem dL_law_355 : decode cL_law 355 = .ok (.iaload, 1) := by decide +kernel
theorem dL_law_356 : decode cL_law 356 = .ok (.invokevirtual 103, 3) := by decide +kernel
theorem dL_law_359 : decode cL_law 359 = .ok (.istore 7, 2) := by decide +kernel
theorem dL_law_361 : decode cL_law 361 = .ok (.aload_n 2, 1) := by decide +kernel
theorem dL_law_362 : decode cL_law 362 = .ok (.invokevirtual 93, 3) := by decide +kernel
theorem dL_law_365 : decode cL_law 365 = .ok (.iload 6, 2) := by decide +kernel
theorem dL_law_367 : decode cL_law 367 = .ok (.if_icmp .eq 5, 3) := by decide +kernel
theorem dL_law_370 : decode cL_law 370 = .ok (.iconst 0, 1) := by decide +kernel
theorem dL_law_371 : decode cL_law 371 = .ok (.ireturn, 1) := by decide +kernel
theorem dL_law_372 : decode cL_law 372 = .ok (.iload 6, 2) := by decide +kernel
theorem dL_law_374 : decode cL_law 374 = .ok (.ifCond .ne 15, 3) := by decide +kernel
theorem dL_law_377 : decode cL_law 377 = .ok (.aload_n 3, 1) := by decide +kernel
theorem dL_law_378 : decode cL_law 378 = .ok (.iconst 0, 1) := by decide +kernel
theorem dL_law_379 : decode cL_law 379 = .ok (.laload, 1) := by decide +kernel
theorem dL_law_380 : decode cL_law 380 = .ok (.iload 7, 2) := by decide +kernel
theorem dL_law_382 : decode cL_law 382 = .ok (.i2l, 1) := by decide +kernel
theorem dL_law_383 : decode cL_law 383 = .ok (.lcmp, 1) := by decide +kernel
theorem dL_law_384 : decode cL_law 384 = .ok (.ifCond .eq 5, 3) := by decide +kernel
theorem dL_law_387 : decode cL_law 387 = .ok (.iconst 0, 1) := by decide +kernel
theorem dL_law_388 : decode cL_law 388 = .ok (.ireturn, 1) := by decide +kernel
theorem dL_law_389 : decode cL_law 389 = .ok (.goto 1188, 3) := by decide +kernel
theorem dL_law_392 : decode cL_law 392 = .ok (.aload_n 1, 1) := by decide +kernel
theorem dL_law_393 : decode cL_law 393 = .ok (.aload_n 0, 1) := by decide +kernel
theorem dL_law_394 : decode cL_law 394 = .ok (.iload 5, 2) := by decide +kernel
theorem dL_law_396 : decode cL_law 396 = .ok (.iconst 1, 1) := by decide +kernel
theorem dL_law_397 : decode cL_law 397 = .ok (.iadd, 1) := by decide +kernel
theorem dL_law_398 : decode cL_law 398 = .ok (.iaload, 1) := by decide +kernel
theorem dL_law_399 : decode cL_law 399 = .ok (.aload_n 0, 1) := by decide +kernel
theorem dL_law_400 : decode cL_law 400 = .ok (.iload 5, 2) := by decide +kernel
theorem dL_law_402 : decode cL_law 402 = .ok (.iconst 2, 1) := by decide +kernel
theorem dL_law_403 : decode cL_law 403 = .ok (.iadd, 1) := by decide +kernel
theorem dL_law_404 : decode cL_law 404 = .ok (.iaload, 1) := by decide +kernel
theorem dL_law_405 : decode cL_law 405 = .ok (.aload_n 0, 1) := by decide +kernel
theorem dL_law_406 : decode cL_law 406 = .ok (.iload 5, 2) := by decide +kernel
theorem dL_law_408 : decode cL_law 408 = .ok (.iconst 3, 1) := by decide +kernel
theorem dL_law_409 : decode cL_law 409 = .ok (.iadd, 1) := by decide +kernel
theorem dL_law_410 : decode cL_law 410 = .ok (.iaload, 1) := by decide +kernel
theorem dL_law_411 : decode cL_law 411 = .ok (.ifCond .eq 7, 3) := by decide +kernel
theorem dL_law_414 : decode cL_law 414 = .ok (.iconst 1, 1) := by decide +kernel
theorem dL_law_415 : decode cL_law 415 = .ok (.goto 4, 3) := by decide +kernel
theorem dL_law_418 : decode cL_law 418 = .ok (.iconst 0, 1) := by decide +kernel
theorem dL_law_419 : decode cL_law 419 = .ok (.aload_n 3, 1) := by decide +kernel
theorem dL_law_420 : decode cL_law 420 = .ok (.invokestatic 104, 3) := by decide +kernel
theorem dL_law_423 : decode cL_law 423 = .ok (.istore 6, 2) := by decide +kernel
theorem dL_law_425 : decode cL_law 425 = .ok (.aload_n 2, 1) := by decide +kernel
theorem dL_law_426 : decode cL_law 426 = .ok (.aload_n 0, 1) := by decide +kernel
theorem dL_law_427 : decode cL_law 427 = .ok (.iload 5, 2) := by decide +kernel
theorem dL_law_429 : decode cL_law 429 = .ok (.iconst 1, 1) := by decide +kernel
theorem dL_law_430 : decode cL_law 430 = .ok (.iadd, 1) := by decide +kernel
theorem dL_law_431 : decode cL_law 431 = .ok (.iaload, 1) := by decide +kernel
theorem dL_law_432 : decode cL_law 432 = .ok (.aload_n 0, 1) := by decide +kernel
theorem dL_law_433 : decode cL_law 433 = .ok (.iload 5, 2) := by decide +kernel
theorem dL_law_435 : decode cL_law 435 = .ok (.iconst 2, 1) := by decide +kernel
theorem dL_law_436 : decode cL_law 436 = .ok (.iadd, 1) := by decide +kernel
theorem dL_law_437 : decode cL_law 437 = .ok (.iaload, 1) := by decide +kernel
theorem dL_law_438 : decode cL_law 438 = .ok (.aload_n 0, 1) := by decide +kernel
theorem dL_law_439 : decode cL_law 439 = .ok (.iload 5, 2) := by decide +kernel
theorem dL_law_441 : decode cL_law 441 = .ok (.iconst 3, 1) := by decide +kernel
theorem dL_law_442 : decode cL_law 442 = .ok (.iadd, 1) := by decide +kernel
theorem dL_law_443 : decode cL_law 443 = .ok (.iaload, 1) := by decide +kernel
theorem dL_law_444 : decode cL_law 444 = .ok (.ifCond .eq 7, 3) := by decide +kernel
theorem dL_law_447 : decode cL_law 447 = .ok (.iconst 1, 1) := by decide +kernel
theorem dL_law_448 : decode cL_law 448 = .ok (.goto 4, 3) := by decide +kernel
theorem dL_law_451 : decode cL_law 451 = .ok (.iconst 0, 1) := by decide +kernel
theorem dL_law_452 : decode cL_law 452 = .ok (.invokevirtual 107, 3) := by decide +kernel
theorem dL_law_455 : decode cL_law 455 = .ok (.istore 7, 2) := by decide +kernel
theorem dL_law_457 : decode cL_law 457 = .ok (.aload_n 2, 1) := by decide +kernel
theorem dL_law_458 : decode cL_law 458 = .ok (.invokevirtual 93, 3) := by decide +kernel
theorem dL_law_461 : decode cL_law 461 = .ok (.iload 6, 2) := by decide +kernel
theorem dL_law_463 : decode cL_law 463 = .ok (.if_icmp .eq 5, 3) := by decide +kernel
theorem dL_law_466 : decode cL_law 466 = .ok (.iconst 0, 1) := by decide +kernel
theorem dL_law_467 : decode cL_law 467 = .ok (.ireturn, 1) := by decide +kernel
theorem dL_law_468 : decode cL_law 468 = .ok (.iload 6, 2) := by decide +kernel
theorem dL_law_470 : decode cL_law 470 = .ok (.ifCond .ne 15, 3) := by decide +kernel
theorem dL_law_473 : decode cL_law 473 = .ok (.aload_n 3, 1) := by decide +kernel
theorem dL_law_474 : decode cL_law 474 = .ok (.iconst 0, 1) := by decide +kernel
theorem dL_law_475 : decode cL_law 475 = .ok (.laload, 1) := by decide +kernel
theorem dL_law_476 : decode cL_law 476 = .ok (.iload 7, 2) := by decide +kernel
theorem dL_law_478 : decode cL_law 478 = .ok (.i2l, 1) := by decide +kernel
theorem dL_law_479 : decode cL_law 479 = .ok (.lcmp, 1) := by decide +kernel
theorem dL_law_480 : decode cL_law 480 = .ok (.ifCond .eq 5, 3) := by decide +kernel
theorem dL_law_483 : decode cL_law 483 = .ok (.iconst 0, 1) := by decide +kernel
theorem dL_law_484 : decode cL_law 484 = .ok (.ireturn, 1) := by decide +kernel
theorem dL_law_485 : decode cL_law 485 = .ok (.goto 1092, 3) := by decide +kernel
theorem dL_law_488 : decode cL_law 488 = .ok (.aload_n 1, 1) := by decide +kernel
theorem dL_law_489 : decode cL_law 489 = .ok (.invokevirtual 108, 3) := by decide +kernel
theorem dL_law_492 : decode cL_law 492 = .ok (.aload_n 2, 1) := by decide +kernel
theorem dL_law_493 : decode cL_law 493 = .ok (.invokevirtual 111, 3) := by decide +kernel
theorem dL_law_496 : decode cL_law 496 = .ok (.if_icmp .eq 1081, 3) := by decide +kernel
theorem dL_law_499 : decode cL_law 499 = .ok (.iconst 0, 1) := by decide +kernel
theorem dL_law_500 : decode cL_law 500 = .ok (.ireturn, 1) := by decide +kernel
theorem dL_law_501 : decode cL_law 501 = .ok (.aload_n 1, 1) := by decide +kernel
theorem dL_law_502 : decode cL_law 502 = .ok (.aload_n 0, 1) := by decide +kernel
theorem dL_law_503 : decode cL_law 503 = .ok (.iload 5, 2) := by decide +kernel
theorem dL_law_505 : decode cL_law 505 = .ok (.iconst 1, 1) := by decide +kernel
theorem dL_law_506 : decode cL_law 506 = .ok (.iadd, 1) := by decide +kernel
theorem dL_law_507 : decode cL_law 507 = .ok (.iaload, 1) := by decide +kernel
theorem dL_law_508 : decode cL_law 508 = .ok (.aload_n 0, 1) := by decide +kernel
theorem dL_law_509 : decode cL_law 509 = .ok (.iload 5, 2) := by decide +kernel
theorem dL_law_511 : decode cL_law 511 = .ok (.iconst 2, 1) := by decide +kernel
theorem dL_law_512 : decode cL_law 512 = .ok (.iadd, 1) := by decide +kernel
theorem dL_law_513 : decode cL_law 513 = .ok (.iaload, 1) := by decide +kernel
theorem dL_law_514 : decode cL_law 514 = .ok (.aload_n 3, 1) := by decide +kernel
theorem dL_law_515 : decode cL_law 515 = .ok (.invokestatic 112, 3) := by decide +kernel
theorem dL_law_518 : decode cL_law 518 = .ok (.istore 6, 2) := by decide +kernel
theorem dL_law_520 : decode cL_law 520 = .ok (.aload_n 2, 1) := by decide +kernel
theorem dL_law_521 : decode cL_law 521 = .ok (.aload_n 0, 1) := by decide +kernel
theorem dL_law_522 : decode cL_law 522 = .ok (.iload 5, 2) := by decide +kernel
theorem dL_law_524 : decode cL_law 524 = .ok (.iconst 1, 1) := by decide +kernel
theorem dL_law_525 : decode cL_law 525 = .ok (.iadd, 1) := by decide +kernel
theorem dL_law_526 : decode cL_law 526 = .ok (.iaload, 1) := by decide +kernel
theorem dL_law_527 : decode cL_law 527 = .ok (.aload_n 0, 1) := by decide +kernel
theorem dL_law_528 : decode cL_law 528 = .ok (.iload 5, 2) := by decide +kernel
theorem dL_law_530 : decode cL_law 530 = .ok (.iconst 2, 1) := by decide +kernel
theorem dL_law_531 : decode cL_law 531 = .ok (.iadd, 1) := by decide +kernel
theorem dL_law_532 : decode cL_law 532 = .ok (.iaload, 1) := by decide +kernel
theorem dL_law_533 : decode cL_law 533 = .ok (.invokevirtual 115, 3) := by decide +kernel
theorem dL_law_536 : decode cL_law 536 = .ok (.istore 7, 2) := by decide +kernel
theorem dL_law_538 : decode cL_law 538 = .ok (.aload_n 2, 1) := by decide +kernel
theorem dL_law_539 : decode cL_law 539 = .ok (.invokevirtual 93, 3) := by decide +kernel
theorem dL_law_542 : decode cL_law 542 = .ok (.iload 6, 2) := by decide +kernel
theorem dL_law_544 : decode cL_law 544 = .ok (.if_icmp .eq 5, 3) := by decide +kernel
theorem dL_law_547 : decode cL_law 547 = .ok (.iconst 0, 1) := by decide +kernel
theorem dL_law_548 : decode cL_law 548 = .ok (.ireturn, 1) := by decide +kernel
theorem dL_law_549 : decode cL_law 549 = .ok (.iload 6, 2) := by decide +kernel
theorem dL_law_551 : decode cL_law 551 = .ok (.ifCond .ne 15, 3) := by decide +kernel
theorem dL_law_554 : decode cL_law 554 = .ok (.aload_n 3, 1) := by decide +kernel
theorem dL_law_555 : decode cL_law 555 = .ok (.iconst 0, 1) := by decide +kernel
theorem dL_law_556 : decode cL_law 556 = .ok (.laload, 1) := by decide +kernel
theorem dL_law_557 : decode cL_law 557 = .ok (.iload 7, 2) := by decide +kernel
theorem dL_law_559 : decode cL_law 559 = .ok (.i2l, 1) := by decide +kernel
theorem dL_law_560 : decode cL_law 560 = .ok (.lcmp, 1) := by decide +kernel
theorem dL_law_561 : decode cL_law 561 = .ok (.ifCond .eq 5, 3) := by decide +kernel
theorem dL_law_564 : decode cL_law 564 = .ok (.iconst 0, 1) := by decide +kernel
theorem dL_law_565 : decode cL_law 565 = .ok (.ireturn, 1) := by decide +kernel
theorem dL_law_566 : decode cL_law 566 = .ok (.goto 1011, 3) := by decide +kernel
theorem dL_law_569 : decode cL_law 569 = .ok (.aload_n 1, 1) := by decide +kernel
theorem dL_law_570 : decode cL_law 570 = .ok (.aload_n 0, 1) := by decide +kernel
theorem dL_law_571 : decode cL_law 571 = .ok (.iload 5, 2) := by decide +kernel
theorem dL_law_573 : decode cL_law 573 = .ok (.iconst 1, 1) := by decide +kernel
theorem dL_law_574 : decode cL_law 574 = .ok (.iadd, 1) := by decide +kernel
theorem dL_law_575 : decode cL_law 575 = .ok (.iaload, 1) := by decide +kernel
theorem dL_law_576 : decode cL_law 576 = .ok (.aload_n 3, 1) := by decide +kernel
theorem dL_law_577 : decode cL_law 577 = .ok (.invokestatic 116, 3) := by decide +kernel
theorem dL_law_580 : decode cL_law 580 = .ok (.istore 6, 2) := by decide +kernel
theorem dL_law_582 : decode cL_law 582 = .ok (.aload_n 2, 1) := by decide +kernel
theorem dL_law_583 : decode cL_law 583 = .ok (.aload_n 0, 1) := by decide +kernel
theorem dL_law_584 : decode cL_law 584 = .ok (.iload 5, 2) := by decide +kernel
theorem dL_law_586 : decode cL_law 586 = .ok (.iconst 1, 1) := by decide +kernel
theorem dL_law_587 : decode cL_law 587 = .ok (.iadd, 1) := by decide +kernel
theorem dL_law_588 : decode cL_law 588 = .ok (.iaload, 1) := by decide +kernel
theorem dL_law_589 : decode cL_law 589 = .ok (.invokevirtual 118, 3) := by decide +kernel
theorem dL_law_592 : decode cL_law 592 = .ok (.istore 7, 2) := by decide +kernel
theorem dL_law_594 : decode cL_law 594 = .ok (.aload_n 2, 1) := by decide +kernel
theorem dL_law_595 : decode cL_law 595 = .ok (.invokevirtual 93, 3) := by decide +kernel
theorem dL_law_598 : decode cL_law 598 = .ok (.iload 6, 2) := by decide +kernel
theorem dL_law_600 : decode cL_law 600 = .ok (.if_icmp .eq 5, 3) := by decide +kernel
theorem dL_law_603 : decode cL_law 603 = .ok (.iconst 0, 1) := by decide +kernel
theorem dL_law_604 : decode cL_law 604 = .ok (.ireturn, 1) := by decide +kernel
theorem dL_law_605 : decode cL_law 605 = .ok (.iload 6, 2) := by decide +kernel
theorem dL_law_607 : decode cL_law 607 = .ok (.ifCond .ne 15, 3) := by decide +kernel
theorem dL_law_610 : decode cL_law 610 = .ok (.aload_n 3, 1) := by decide +kernel
theorem dL_law_611 : decode cL_law 611 = .ok (.iconst 0, 1) := by decide +kernel
theorem dL_law_612 : decode cL_law 612 = .ok (.laload, 1) := by decide +kernel
theorem dL_law_613 : decode cL_law 613 = .ok (.iload 7, 2) := by decide +kernel
theorem dL_law_615 : decode cL_law 615 = .ok (.i2l, 1) := by decide +kernel
theorem dL_law_616 : decode cL_law 616 = .ok (.lcmp, 1) := by decide +kernel
theorem dL_law_617 : decode cL_law 617 = .ok (.ifCond .eq 5, 3) := by decide +kernel
theorem dL_law_620 : decode cL_law 620 = .ok (.iconst 0, 1) := by decide +kernel
theorem dL_law_621 : decode cL_law 621 = .ok (.ireturn, 1) := by decide +kernel
theorem dL_law_622 : decode cL_law 622 = .ok (.goto 955, 3) := by decide +kernel
theorem dL_law_625 : decode cL_law 625 = .ok (.aload_n 1, 1) := by decide +kernel
theorem dL_law_626 : decode cL_law 626 = .ok (.aload_n 0, 1) := by decide +kernel
theorem dL_law_627 : decode cL_law 627 = .ok (.iload 5, 2) := by decide +kernel
theorem dL_law_629 : decode cL_law 629 = .ok (.iconst 1, 1) := by decide +kernel
theorem dL_law_630 : decode cL_law 630 = .ok (.iadd, 1) := by decide +kernel
theorem dL_law_631 : decode cL_law 631 = .ok (.iaload, 1) := by decide +kernel
theorem dL_law_632 : decode cL_law 632 = .ok (.aload_n 3, 1) := by decide +kernel
theorem dL_law_633 : decode cL_law 633 = .ok (.invokestatic 119, 3) := by decide +kernel
theorem dL_law_636 : decode cL_law 636 = .ok (.istore 6, 2) := by decide +kernel
theorem dL_law_638 : decode cL_law 638 = .ok (.aload_n 2, 1) := by decide +kernel
theorem dL_law_639 : decode cL_law 639 = .ok (.aload_n 0, 1) := by decide +kernel
theorem dL_law_640 : decode cL_law 640 = .ok (.iload 5, 2) := by decide +kernel
theorem dL_law_642 : decode cL_law 642 = .ok (.iconst 1, 1) := by decide +kernel
theorem dL_law_643 : decode cL_law 643 = .ok (.iadd, 1) := by decide +kernel
theorem dL_law_644 : decode cL_law 644 = .ok (.iaload, 1) := by decide +kernel
theorem dL_law_645 : decode cL_law 645 = .ok (.invokevirtual 121, 3) := by decide +kernel
theorem dL_law_648 : decode cL_law 648 = .ok (.istore 7, 2) := by decide +kernel
theorem dL_law_650 : decode cL_law 650 = .ok (.aload_n 2, 1) := by decide +kernel
theorem dL_law_651 : decode cL_law 651 = .ok (.invokevirtual 93, 3) := by decide +kernel
theorem dL_law_654 : decode cL_law 654 = .ok (.iload 6, 2) := by decide +kernel
theorem dL_law_656 : decode cL_law 656 = .ok (.if_icmp .eq 5, 3) := by decide +kernel
theorem dL_law_659 : decode cL_law 659 = .ok (.iconst 0, 1) := by decide +kernel
theorem dL_law_660 : decode cL_law 660 = .ok (.ireturn, 1) := by decide +kernel
theorem dL_law_661 : decode cL_law 661 = .ok (.iload 6, 2) := by decide +kernel
theorem dL_law_663 : decode cL_law 663 = .ok (.ifCond .ne 15, 3) := by decide +kernel
theorem dL_law_666 : decode cL_law 666 = .ok (.aload_n 3, 1) := by decide +kernel
theorem dL_law_667 : decode cL_law 667 = .ok (.iconst 0, 1) := by decide +kernel
theorem dL_law_668 : decode cL_law 668 = .ok (.laload, 1) := by decide +kernel
theorem dL_law_669 : decode cL_law 669 = .ok (.iload 7, 2) := by decide +kernel
theorem dL_law_671 : decode cL_law 671 = .ok (.i2l, 1) := by decide +kernel
theorem dL_law_672 : decode cL_law 672 = .ok (.lcmp, 1) := by decide +kernel
theorem dL_law_673 : decode cL_law 673 = .ok (.ifCond .eq 5, 3) := by decide +kernel
theorem dL_law_676 : decode cL_law 676 = .ok (.iconst 0, 1) := by decide +kernel
theorem dL_law_677 : decode cL_law 677 = .ok (.ireturn, 1) := by decide +kernel
theorem dL_law_678 : decode cL_law 678 = .ok (.goto 899, 3) := by decide +kernel
theorem dL_law_681 : decode cL_law 681 = .ok (.aload_n 1, 1) := by decide +kernel
theorem dL_law_682 : decode cL_law 682 = .ok (.aload_n 0, 1) := by decide +kernel
theorem dL_law_683 : decode cL_law 683 = .ok (.iload 5, 2) := by decide +kernel
theorem dL_law_685 : decode cL_law 685 = .ok (.iconst 1, 1) := by decide +kernel
theorem dL_law_686 : decode cL_law 686 = .ok (.iadd, 1) := by decide +kernel
theorem dL_law_687 : decode cL_law 687 = .ok (.iaload, 1) := by decide +kernel
theorem dL_law_688 : decode cL_law 688 = .ok (.aload_n 3, 1) := by decide +kernel
theorem dL_law_689 : decode cL_law 689 = .ok (.invokestatic 122, 3) := by decide +kernel
theorem dL_law_692 : decode cL_law 692 = .ok (.istore 6, 2) := by decide +kernel
theorem dL_law_694 : decode cL_law 694 = .ok (.aload_n 2, 1) := by decide +kernel
theorem dL_law_695 : decode cL_law 695 = .ok (.aload_n 0, 1) := by decide +kernel
theorem dL_law_696 : decode cL_law 696 = .ok (.iload 5, 2) := by decide +kernel
theorem dL_law_698 : decode cL_law 698 = .ok (.iconst 1, 1) := by decide +kernel
theorem dL_law_699 : decode cL_law 699 = .ok (.iadd, 1) := by decide +kernel
theorem dL_law_700 : decode cL_law 700 = .ok (.iaload, 1) := by decide +kernel
theorem dL_law_701 : decode cL_law 701 = .ok (.invokevirtual 124, 3) := by decide +kernel
theorem dL_law_704 : decode cL_law 704 = .ok (.istore 7, 2) := by decide +kernel
theorem dL_law_706 : decode cL_law 706 = .ok (.aload_n 2, 1) := by decide +kernel
theorem dL_law_707 : decode cL_law 707 = .ok (.invokevirtual 93, 3) := by decide +kernel
theorem dL_law_710 : decode cL_law 710 = .ok (.iload 6, 2) := by decide +kernel
theorem dL_law_712 : decode cL_law 712 = .ok (.if_icmp .eq 5, 3) := by decide +kernel
theorem dL_law_715 : decode cL_law 715 = .ok (.iconst 0, 1) := by decide +kernel
theorem dL_law_716 : decode cL_law 716 = .ok (.ireturn, 1) := by decide +kernel
theorem dL_law_717 : decode cL_law 717 = .ok (.iload 6, 2) := by decide +kernel
theorem dL_law_719 : decode cL_law 719 = .ok (.ifCond .ne 15, 3) := by decide +kernel
theorem dL_law_722 : decode cL_law 722 = .ok (.aload_n 3, 1) := by decide +kernel
theorem dL_law_723 : decode cL_law 723 = .ok (.iconst 0, 1) := by decide +kernel
theorem dL_law_724 : decode cL_law 724 = .ok (.laload, 1) := by decide +kernel
theorem dL_law_725 : decode cL_law 725 = .ok (.iload 7, 2) := by decide +kernel
theorem dL_law_727 : decode cL_law 727 = .ok (.i2l, 1) := by decide +kernel
theorem dL_law_728 : decode cL_law 728 = .ok (.lcmp, 1) := by decide +kernel
theorem dL_law_729 : decode cL_law 729 = .ok (.ifCond .eq 5, 3) := by decide +kernel
theorem dL_law_732 : decode cL_law 732 = .ok (.iconst 0, 1) := by decide +kernel
theorem dL_law_733 : decode cL_law 733 = .ok (.ireturn, 1) := by decide +kernel
theorem dL_law_734 : decode cL_law 734 = .ok (.goto 843, 3) := by decide +kernel
theorem dL_law_737 : decode cL_law 737 = .ok (.aload_n 1, 1) := by decide +kernel
theorem dL_law_738 : decode cL_law 738 = .ok (.aload_n 0, 1) := by decide +kernel
theorem dL_law_739 : decode cL_law 739 = .ok (.iload 5, 2) := by decide +kernel
theorem dL_law_741 : decode cL_law 741 = .ok (.iconst 1, 1) := by decide +kernel
theorem dL_law_742 : decode cL_law 742 = .ok (.iadd, 1) := by decide +kernel
theorem dL_law_743 : decode cL_law 743 = .ok (.iaload, 1) := by decide +kernel
theorem dL_law_744 : decode cL_law 744 = .ok (.aload_n 0, 1) := by decide +kernel
theorem dL_law_745 : decode cL_law 745 = .ok (.iload 5, 2) := by decide +kernel
theorem dL_law_747 : decode cL_law 747 = .ok (.iconst 2, 1) := by decide +kernel
theorem dL_law_748 : decode cL_law 748 = .ok (.iadd, 1) := by decide +kernel
theorem dL_law_749 : decode cL_law 749 = .ok (.iaload, 1) := by decide +kernel
theorem dL_law_750 : decode cL_law 750 = .ok (.aload_n 3, 1) := by decide +kernel
theorem dL_law_751 : decode cL_law 751 = .ok (.invokestatic 125, 3) := by decide +kernel
theorem dL_law_754 : decode cL_law 754 = .ok (.istore 6, 2) := by decide +kernel
theorem dL_law_756 : decode cL_law 756 = .ok (.aload_n 2, 1) := by decide +kernel
theorem dL_law_757 : decode cL_law 757 = .ok (.aload_n 0, 1) := by decide +kernel
theorem dL_law_758 : decode cL_law 758 = .ok (.iload 5, 2) := by decide +kernel
theorem dL_law_760 : decode cL_law 760 = .ok (.iconst 1, 1) := by decide +kernel
theorem dL_law_761 : decode cL_law 761 = .ok (.iadd, 1) := by decide +kernel
theorem dL_law_762 : decode cL_law 762 = .ok (.iaload, 1) := by decide +kernel
theorem dL_law_763 : decode cL_law 763 = .ok (.aload_n 0, 1) := by decide +kernel
theorem dL_law_764 : decode cL_law 764 = .ok (.iload 5, 2) := by decide +kernel
theorem dL_law_766 : decode cL_law 766 = .ok (.iconst 2, 1) := by decide +kernel
theorem dL_law_767 : decode cL_law 767 = .ok (.iadd, 1) := by decide +kernel
theorem dL_law_768 : decode cL_law 768 = .ok (.iaload, 1) := by decide +kernel
theorem dL_law_769 : decode cL_law 769 = .ok (.invokevirtual 127, 3) := by decide +kernel
theorem dL_law_772 : decode cL_law 772 = .ok (.istore 7, 2) := by decide +kernel
theorem dL_law_774 : decode cL_law 774 = .ok (.aload_n 2, 1) := by decide +kernel
theorem dL_law_775 : decode cL_law 775 = .ok (.invokevirtual 93, 3) := by decide +kernel
theorem dL_law_778 : decode cL_law 778 = .ok (.iload 6, 2) := by decide +kernel
theorem dL_law_780 : decode cL_law 780 = .ok (.if_icmp .eq 5, 3) := by decide +kernel
theorem dL_law_783 : decode cL_law 783 = .ok (.iconst 0, 1) := by decide +kernel
theorem dL_law_784 : decode cL_law 784 = .ok (.ireturn, 1) := by decide +kernel
theorem dL_law_785 : decode cL_law 785 = .ok (.iload 6, 2) := by decide +kernel
theorem dL_law_787 : decode cL_law 787 = .ok (.ifCond .ne 22, 3) := by decide +kernel
theorem dL_law_790 : decode cL_law 790 = .ok (.aload_n 3, 1) := by decide +kernel
theorem dL_law_791 : decode cL_law 791 = .ok (.iconst 0, 1) := by decide +kernel
theorem dL_law_792 : decode cL_law 792 = .ok (.laload, 1) := by decide +kernel
theorem dL_law_793 : decode cL_law 793 = .ok (.iload 7, 2) := by decide +kernel
theorem dL_law_795 : decode cL_law 795 = .ok (.ifCond .eq 7, 3) := by decide +kernel
theorem dL_law_798 : decode cL_law 798 = .ok (.lconst 1, 1) := by decide +kernel
theorem dL_law_799 : decode cL_law 799 = .ok (.goto 4, 3) := by decide +kernel
theorem dL_law_802 : decode cL_law 802 = .ok (.lconst 0, 1) := by decide +kernel
theorem dL_law_803 : decode cL_law 803 = .ok (.lcmp, 1) := by decide +kernel
theorem dL_law_804 : decode cL_law 804 = .ok (.ifCond .eq 5, 3) := by decide +kernel
theorem dL_law_807 : decode cL_law 807 = .ok (.iconst 0, 1) := by decide +kernel
theorem dL_law_808 : decode cL_law 808 = .ok (.ireturn, 1) := by decide +kernel
theorem dL_law_809 : decode cL_law 809 = .ok (.goto 768, 3) := by decide +kernel
theorem dL_law_812 : decode cL_law 812 = .ok (.aload_n 1, 1) := by decide +kernel
theorem dL_law_813 : decode cL_law 813 = .ok (.aload_n 0, 1) := by decide +kernel
theorem dL_law_814 : decode cL_law 814 = .ok (.iload 5, 2) := by decide +kernel
theorem dL_law_816 : decode cL_law 816 = .ok (.iconst 1, 1) := by decide +kernel
theorem dL_law_817 : decode cL_law 817 = .ok (.iadd, 1) := by decide +kernel
theorem dL_law_818 : decode cL_law 818 = .ok (.iaload, 1) := by decide +kernel
theorem dL_law_819 : decode cL_law 819 = .ok (.aload_n 0, 1) := by decide +kernel
theorem dL_law_820 : decode cL_law 820 = .ok (.iload 5, 2) := by decide +kernel
theorem dL_law_822 : decode cL_law 822 = .ok (.iconst 2, 1) := by decide +kernel
theorem dL_law_823 : decode cL_law 823 = .ok (.iadd, 1) := by decide +kernel
theorem dL_law_824 : decode cL_law 824 = .ok (.iaload, 1) := by decide +kernel
theorem dL_law_825 : decode cL_law 825 = .ok (.aload_n 3, 1) := by decide +kernel
theorem dL_law_826 : decode cL_law 826 = .ok (.invokestatic 128, 3) := by decide +kernel
theorem dL_law_829 : decode cL_law 829 = .ok (.istore 6, 2) := by decide +kernel
theorem dL_law_831 : decode cL_law 831 = .ok (.aload_n 2, 1) := by decide +kernel
theorem dL_law_832 : decode cL_law 832 = .ok (.aload_n 0, 1) := by decide +kernel
theorem dL_law_833 : decode cL_law 833 = .ok (.iload 5, 2) := by decide +kernel
theorem dL_law_835 : decode cL_law 835 = .ok (.iconst 1, 1) := by decide +kernel
theorem dL_law_836 : decode cL_law 836 = .ok (.iadd, 1) := by decide +kernel
theorem dL_law_837 : decode cL_law 837 = .ok (.iaload, 1) := by decide +kernel
theorem dL_law_838 : decode cL_law 838 = .ok (.aload_n 0, 1) := by decide +kernel
theorem dL_law_839 : decode cL_law 839 = .ok (.iload 5, 2) := by decide +kernel
theorem dL_law_841 : decode cL_law 841 = .ok (.iconst 2, 1) := by decide +kernel
theorem dL_law_842 : decode cL_law 842 = .ok (.iadd, 1) := by decide +kernel
theorem dL_law_843 : decode cL_law 843 = .ok (.iaload, 1) := by decide +kernel
theorem dL_law_844 : decode cL_law 844 = .ok (.invokevirtual 130, 3) := by decide +kernel
theorem dL_law_847 : decode cL_law 847 = .ok (.istore 7, 2) := by decide +kernel
theorem dL_law_849 : decode cL_law 849 = .ok (.aload_n 2, 1) := by decide +kernel
theorem dL_law_850 : decode cL_law 850 = .ok (.invokevirtual 93, 3) := by decide +kernel
theorem dL_law_853 : decode cL_law 853 = .ok (.iload 6, 2) := by decide +kernel
theorem dL_law_855 : decode cL_law 855 = .ok (.if_icmp .eq 5, 3) := by decide +kernel
theorem dL_law_858 : decode cL_law 858 = .ok (.iconst 0, 1) := by decide +kernel
theorem dL_law_859 : decode cL_law 859 = .ok (.ireturn, 1) := by decide +kernel
theorem dL_law_860 : decode cL_law 860 = .ok (.iload 6, 2) := by decide +kernel
theorem dL_law_862 : decode cL_law 862 = .ok (.ifCond .ne 15, 3) := by decide +kernel
theorem dL_law_865 : decode cL_law 865 = .ok (.aload_n 3, 1) := by decide +kernel
theorem dL_law_866 : decode cL_law 866 = .ok (.iconst 0, 1) := by decide +kernel
theorem dL_law_867 : decode cL_law 867 = .ok (.laload, 1) := by decide +kernel
theorem dL_law_868 : decode cL_law 868 = .ok (.iload 7, 2) := by decide +kernel
theorem dL_law_870 : decode cL_law 870 = .ok (.i2l, 1) := by decide +kernel
theorem dL_law_871 : decode cL_law 871 = .ok (.lcmp, 1) := by decide +kernel
theorem dL_law_872 : decode cL_law 872 = .ok (.ifCond .eq 5, 3) := by decide +kernel
theorem dL_law_875 : decode cL_law 875 = .ok (.iconst 0, 1) := by decide +kernel
theorem dL_law_876 : decode cL_law 876 = .ok (.ireturn, 1) := by decide +kernel
theorem dL_law_877 : decode cL_law 877 = .ok (.goto 700, 3) := by decide +kernel
theorem dL_law_880 : decode cL_law 880 = .ok (.aload_n 1, 1) := by decide +kernel
theorem dL_law_881 : decode cL_law 881 = .ok (.aload_n 0, 1) := by decide +kernel
theorem dL_law_882 : decode cL_law 882 = .ok (.iload 5, 2) := by decide +kernel
theorem dL_law_884 : decode cL_law 884 = .ok (.iconst 1, 1) := by decide +kernel
theorem dL_law_885 : decode cL_law 885 = .ok (.iadd, 1) := by decide +kernel
theorem dL_law_886 : decode cL_law 886 = .ok (.iaload, 1) := by decide +kernel
theorem dL_law_887 : decode cL_law 887 = .ok (.aload_n 0, 1) := by decide +kernel
theorem dL_law_888 : decode cL_law 888 = .ok (.iload 5, 2) := by decide +kernel
theorem dL_law_890 : decode cL_law 890 = .ok (.iconst 2, 1) := by decide +kernel
theorem dL_law_891 : decode cL_law 891 = .ok (.iadd, 1) := by decide +kernel
theorem dL_law_892 : decode cL_law 892 = .ok (.iaload, 1) := by decide +kernel
theorem dL_law_893 : decode cL_law 893 = .ok (.aload_n 3, 1) := by decide +kernel
theorem dL_law_894 : decode cL_law 894 = .ok (.invokestatic 131, 3) := by decide +kernel
theorem dL_law_897 : decode cL_law 897 = .ok (.istore 6, 2) := by decide +kernel
theorem dL_law_899 : decode cL_law 899 = .ok (.aload_n 2, 1) := by decide +kernel
theorem dL_law_900 : decode cL_law 900 = .ok (.aload_n 0, 1) := by decide +kernel
theorem dL_law_901 : decode cL_law 901 = .ok (.iload 5, 2) := by decide +kernel
theorem dL_law_903 : decode cL_law 903 = .ok (.iconst 1, 1) := by decide +kernel
theorem dL_law_904 : decode cL_law 904 = .ok (.iadd, 1) := by decide +kernel
theorem dL_law_905 : decode cL_law 905 = .ok (.iaload, 1) := by decide +kernel
theorem dL_law_906 : decode cL_law 906 = .ok (.aload_n 0, 1) := by decide +kernel
theorem dL_law_907 : decode cL_law 907 = .ok (.iload 5, 2) := by decide +kernel
theorem dL_law_909 : decode cL_law 909 = .ok (.iconst 2, 1) := by decide +kernel
theorem dL_law_910 : decode cL_law 910 = .ok (.iadd, 1) := by decide +kernel
theorem dL_law_911 : decode cL_law 911 = .ok (.iaload, 1) := by decide +kernel
theorem dL_law_912 : decode cL_law 912 = .ok (.invokevirtual 133, 3) := by decide +kernel
theorem dL_law_915 : decode cL_law 915 = .ok (.istore 7, 2) := by decide +kernel
theorem dL_law_917 : decode cL_law 917 = .ok (.aload_n 2, 1) := by decide +kernel
theorem dL_law_918 : decode cL_law 918 = .ok (.invokevirtual 93, 3) := by decide +kernel
theorem dL_law_921 : decode cL_law 921 = .ok (.iload 6, 2) := by decide +kernel
theorem dL_law_923 : decode cL_law 923 = .ok (.if_icmp .eq 5, 3) := by decide +kernel
theorem dL_law_926 : decode cL_law 926 = .ok (.iconst 0, 1) := by decide +kernel
theorem dL_law_927 : decode cL_law 927 = .ok (.ireturn, 1) := by decide +kernel
theorem dL_law_928 : decode cL_law 928 = .ok (.iload 6, 2) := by decide +kernel
theorem dL_law_930 : decode cL_law 930 = .ok (.ifCond .ne 15, 3) := by decide +kernel
theorem dL_law_933 : decode cL_law 933 = .ok (.aload_n 3, 1) := by decide +kernel
theorem dL_law_934 : decode cL_law 934 = .ok (.iconst 0, 1) := by decide +kernel
theorem dL_law_935 : decode cL_law 935 = .ok (.laload, 1) := by decide +kernel
theorem dL_law_936 : decode cL_law 936 = .ok (.iload 7, 2) := by decide +kernel
theorem dL_law_938 : decode cL_law 938 = .ok (.i2l, 1) := by decide +kernel
theorem dL_law_939 : decode cL_law 939 = .ok (.lcmp, 1) := by decide +kernel
theorem dL_law_940 : decode cL_law 940 = .ok (.ifCond .eq 5, 3) := by decide +kernel
theorem dL_law_943 : decode cL_law 943 = .ok (.iconst 0, 1) := by decide +kernel
theorem dL_law_944 : decode cL_law 944 = .ok (.ireturn, 1) := by decide +kernel
theorem dL_law_945 : decode cL_law 945 = .ok (.goto 632, 3) := by decide +kernel
theorem dL_law_948 : decode cL_law 948 = .ok (.aload_n 1, 1) := by decide +kernel
theorem dL_law_949 : decode cL_law 949 = .ok (.aload_n 0, 1) := by decide +kernel
theorem dL_law_950 : decode cL_law 950 = .ok (.iload 5, 2) := by decide +kernel
theorem dL_law_952 : decode cL_law 952 = .ok (.iconst 1, 1) := by decide +kernel
theorem dL_law_953 : decode cL_law 953 = .ok (.iadd, 1) := by decide +kernel
theorem dL_law_954 : decode cL_law 954 = .ok (.iaload, 1) := by decide +kernel
theorem dL_law_955 : decode cL_law 955 = .ok (.aload_n 3, 1) := by decide +kernel
theorem dL_law_956 : decode cL_law 956 = .ok (.invokestatic 134, 3) := by decide +kernel
theorem dL_law_959 : decode cL_law 959 = .ok (.istore 6, 2) := by decide +kernel
theorem dL_law_961 : decode cL_law 961 = .ok (.aload_n 2, 1) := by decide +kernel
theorem dL_law_962 : decode cL_law 962 = .ok (.aload_n 0, 1) := by decide +kernel
theorem dL_law_963 : decode cL_law 963 = .ok (.iload 5, 2) := by decide +kernel
theorem dL_law_965 : decode cL_law 965 = .ok (.iconst 1, 1) := by decide +kernel
theorem dL_law_966 : decode cL_law 966 = .ok (.iadd, 1) := by decide +kernel
theorem dL_law_967 : decode cL_law 967 = .ok (.iaload, 1) := by decide +kernel
theorem dL_law_968 : decode cL_law 968 = .ok (.invokevirtual 136, 3) := by decide +kernel
theorem dL_law_971 : decode cL_law 971 = .ok (.istore 7, 2) := by decide +kernel
theorem dL_law_973 : decode cL_law 973 = .ok (.aload_n 2, 1) := by decide +kernel
theorem dL_law_974 : decode cL_law 974 = .ok (.invokevirtual 93, 3) := by decide +kernel
theorem dL_law_977 : decode cL_law 977 = .ok (.iload 6, 2) := by decide +kernel
theorem dL_law_979 : decode cL_law 979 = .ok (.if_icmp .eq 5, 3) := by decide +kernel
theorem dL_law_982 : decode cL_law 982 = .ok (.iconst 0, 1) := by decide +kernel
theorem dL_law_983 : decode cL_law 983 = .ok (.ireturn, 1) := by decide +kernel
theorem dL_law_984 : decode cL_law 984 = .ok (.iload 6, 2) := by decide +kernel
theorem dL_law_986 : decode cL_law 986 = .ok (.ifCond .ne 15, 3) := by decide +kernel
theorem dL_law_989 : decode cL_law 989 = .ok (.aload_n 3, 1) := by decide +kernel
theorem dL_law_990 : decode cL_law 990 = .ok (.iconst 0, 1) := by decide +kernel
theorem dL_law_991 : decode cL_law 991 = .ok (.laload, 1) := by decide +kernel
theorem dL_law_992 : decode cL_law 992 = .ok (.iload 7, 2) := by decide +kernel
theorem dL_law_994 : decode cL_law 994 = .ok (.i2l, 1) := by decide +kernel
theorem dL_law_995 : decode cL_law 995 = .ok (.lcmp, 1) := by decide +kernel
theorem dL_law_996 : decode cL_law 996 = .ok (.ifCond .eq 5, 3) := by decide +kernel
theorem dL_law_999 : decode cL_law 999 = .ok (.iconst 0, 1) := by decide +kernel
theorem dL_law_1000 : decode cL_law 1000 = .ok (.ireturn, 1) := by decide +kernel
theorem dL_law_1001 : decode cL_law 1001 = .ok (.goto 576, 3) := by decide +kernel
theorem dL_law_1004 : decode cL_law 1004 = .ok (.aload_n 1, 1) := by decide +kernel
theorem dL_law_1005 : decode cL_law 1005 = .ok (.invokevirtual 137, 3) := by decide +kernel
theorem dL_law_1008 : decode cL_law 1008 = .ok (.aload_n 2, 1) := by decide +kernel
theorem dL_law_1009 : decode cL_law 1009 = .ok (.invokevirtual 140, 3) := by decide +kernel
theorem dL_law_1012 : decode cL_law 1012 = .ok (.if_icmp .eq 565, 3) := by decide +kernel
theorem dL_law_1015 : decode cL_law 1015 = .ok (.iconst 0, 1) := by decide +kernel
theorem dL_law_1016 : decode cL_law 1016 = .ok (.ireturn, 1) := by decide +kernel
theorem dL_law_1017 : decode cL_law 1017 = .ok (.aload_n 1, 1) := by decide +kernel
theorem dL_law_1018 : decode cL_law 1018 = .ok (.aload_n 0, 1) := by decide +kernel
theorem dL_law_1019 : decode cL_law 1019 = .ok (.iload 5, 2) := by decide +kernel
theorem dL_law_1021 : decode cL_law 1021 = .ok (.iconst 1, 1) := by decide +kernel
theorem dL_law_1022 : decode cL_law 1022 = .ok (.iadd, 1) := by decide +kernel
theorem dL_law_1023 : decode cL_law 1023 = .ok (.iaload, 1) := by decide +kernel
theorem dL_law_1024 : decode cL_law 1024 = .ok (.aload_n 0, 1) := by decide +kernel
theorem dL_law_1025 : decode cL_law 1025 = .ok (.iload 5, 2) := by decide +kernel
theorem dL_law_1027 : decode cL_law 1027 = .ok (.iconst 2, 1) := by decide +kernel
theorem dL_law_1028 : decode cL_law 1028 = .ok (.iadd, 1) := by decide +kernel
theorem dL_law_1029 : decode cL_law 1029 = .ok (.iaload, 1) := by decide +kernel
theorem dL_law_1030 : decode cL_law 1030 = .ok (.aload_n 3, 1) := by decide +kernel
theorem dL_law_1031 : decode cL_law 1031 = .ok (.invokestatic 141, 3) := by decide +kernel
theorem dL_law_1034 : decode cL_law 1034 = .ok (.istore 6, 2) := by decide +kernel
theorem dL_law_1036 : decode cL_law 1036 = .ok (.aload_n 2, 1) := by decide +kernel
theorem dL_law_1037 : decode cL_law 1037 = .ok (.aload_n 0, 1) := by decide +kernel
theorem dL_law_1038 : decode cL_law 1038 = .ok (.iload 5, 2) := by decide +kernel
theorem dL_law_1040 : decode cL_law 1040 = .ok (.iconst 1, 1) := by decide +kernel
theorem dL_law_1041 : decode cL_law 1041 = .ok (.iadd, 1) := by decide +kernel
theorem dL_law_1042 : decode cL_law 1042 = .ok (.iaload, 1) := by decide +kernel
theorem dL_law_1043 : decode cL_law 1043 = .ok (.aload_n 0, 1) := by decide +kernel
theorem dL_law_1044 : decode cL_law 1044 = .ok (.iload 5, 2) := by decide +kernel
theorem dL_law_1046 : decode cL_law 1046 = .ok (.iconst 2, 1) := by decide +kernel
theorem dL_law_1047 : decode cL_law 1047 = .ok (.iadd, 1) := by decide +kernel
theorem dL_law_1048 : decode cL_law 1048 = .ok (.iaload, 1) := by decide +kernel
theorem dL_law_1049 : decode cL_law 1049 = .ok (.invokevirtual 143, 3) := by decide +kernel
theorem dL_law_1052 : decode cL_law 1052 = .ok (.istore 7, 2) := by decide +kernel
theorem dL_law_1054 : decode cL_law 1054 = .ok (.aload_n 2, 1) := by decide +kernel
theorem dL_law_1055 : decode cL_law 1055 = .ok (.invokevirtual 93, 3) := by decide +kernel
theorem dL_law_1058 : decode cL_law 1058 = .ok (.iload 6, 2) := by decide +kernel
theorem dL_law_1060 : decode cL_law 1060 = .ok (.if_icmp .eq 5, 3) := by decide +kernel
theorem dL_law_1063 : decode cL_law 1063 = .ok (.iconst 0, 1) := by decide +kernel
theorem dL_law_1064 : decode cL_law 1064 = .ok (.ireturn, 1) := by decide +kernel
theorem dL_law_1065 : decode cL_law 1065 = .ok (.iload 6, 2) := by decide +kernel
theorem dL_law_1067 : decode cL_law 1067 = .ok (.ifCond .ne 15, 3) := by decide +kernel
theorem dL_law_1070 : decode cL_law 1070 = .ok (.aload_n 3, 1) := by decide +kernel
theorem dL_law_1071 : decode cL_law 1071 = .ok (.iconst 0, 1) := by decide +kernel
theorem dL_law_1072 : decode cL_law 1072 = .ok (.laload, 1) := by decide +kernel
theorem dL_law_1073 : decode cL_law 1073 = .ok (.iload 7, 2) := by decide +kernel
theorem dL_law_1075 : decode cL_law 1075 = .ok (.i2l, 1) := by decide +kernel
theorem dL_law_1076 : decode cL_law 1076 = .ok (.lcmp, 1) := by decide +kernel
theorem dL_law_1077 : decode cL_law 1077 = .ok (.ifCond .eq 5, 3) := by decide +kernel
theorem dL_law_1080 : decode cL_law 1080 = .ok (.iconst 0, 1) := by decide +kernel
theorem dL_law_1081 : decode cL_law 1081 = .ok (.ireturn, 1) := by decide +kernel
theorem dL_law_1082 : decode cL_law 1082 = .ok (.goto 495, 3) := by decide +kernel
theorem dL_law_1085 : decode cL_law 1085 = .ok (.aload_n 1, 1) := by decide +kernel
theorem dL_law_1086 : decode cL_law 1086 = .ok (.aload_n 0, 1) := by decide +kernel
theorem dL_law_1087 : decode cL_law 1087 = .ok (.iload 5, 2) := by decide +kernel
theorem dL_law_1089 : decode cL_law 1089 = .ok (.iconst 1, 1) := by decide +kernel
theorem dL_law_1090 : decode cL_law 1090 = .ok (.iadd, 1) := by decide +kernel
theorem dL_law_1091 : decode cL_law 1091 = .ok (.iaload, 1) := by decide +kernel
theorem dL_law_1092 : decode cL_law 1092 = .ok (.aload_n 0, 1) := by decide +kernel
theorem dL_law_1093 : decode cL_law 1093 = .ok (.iload 5, 2) := by decide +kernel
theorem dL_law_1095 : decode cL_law 1095 = .ok (.iconst 2, 1) := by decide +kernel
theorem dL_law_1096 : decode cL_law 1096 = .ok (.iadd, 1) := by decide +kernel
theorem dL_law_1097 : decode cL_law 1097 = .ok (.iaload, 1) := by decide +kernel
theorem dL_law_1098 : decode cL_law 1098 = .ok (.aload_n 3, 1) := by decide +kernel
theorem dL_law_1099 : decode cL_law 1099 = .ok (.invokestatic 144, 3) := by decide +kernel
theorem dL_law_1102 : decode cL_law 1102 = .ok (.istore 6, 2) := by decide +kernel
theorem dL_law_1104 : decode cL_law 1104 = .ok (.aload_n 2, 1) := by decide +kernel
theorem dL_law_1105 : decode cL_law 1105 = .ok (.aload_n 0, 1) := by decide +kernel
theorem dL_law_1106 : decode cL_law 1106 = .ok (.iload 5, 2) := by decide +kernel
theorem dL_law_1108 : decode cL_law 1108 = .ok (.iconst 1, 1) := by decide +kernel
theorem dL_law_1109 : decode cL_law 1109 = .ok (.iadd, 1) := by decide +kernel
theorem dL_law_1110 : decode cL_law 1110 = .ok (.iaload, 1) := by decide +kernel
theorem dL_law_1111 : decode cL_law 1111 = .ok (.aload_n 0, 1) := by decide +kernel
theorem dL_law_1112 : decode cL_law 1112 = .ok (.iload 5, 2) := by decide +kernel
theorem dL_law_1114 : decode cL_law 1114 = .ok (.iconst 2, 1) := by decide +kernel
theorem dL_law_1115 : decode cL_law 1115 = .ok (.iadd, 1) := by decide +kernel
theorem dL_law_1116 : decode cL_law 1116 = .ok (.iaload, 1) := by decide +kernel
theorem dL_law_1117 : decode cL_law 1117 = .ok (.invokevirtual 146, 3) := by decide +kernel
theorem dL_law_1120 : decode cL_law 1120 = .ok (.istore 7, 2) := by decide +kernel
theorem dL_law_1122 : decode cL_law 1122 = .ok (.aload_n 2, 1) := by decide +kernel
theorem dL_law_1123 : decode cL_law 1123 = .ok (.invokevirtual 93, 3) := by decide +kernel
theorem dL_law_1126 : decode cL_law 1126 = .ok (.iload 6, 2) := by decide +kernel
theorem dL_law_1128 : decode cL_law 1128 = .ok (.if_icmp .eq 5, 3) := by decide +kernel
theorem dL_law_1131 : decode cL_law 1131 = .ok (.iconst 0, 1) := by decide +kernel
theorem dL_law_1132 : decode cL_law 1132 = .ok (.ireturn, 1) := by decide +kernel
theorem dL_law_1133 : decode cL_law 1133 = .ok (.iload 6, 2) := by decide +kernel
theorem dL_law_1135 : decode cL_law 1135 = .ok (.ifCond .ne 15, 3) := by decide +kernel
theorem dL_law_1138 : decode cL_law 1138 = .ok (.aload_n 3, 1) := by decide +kernel
theorem dL_law_1139 : decode cL_law 1139 = .ok (.iconst 0, 1) := by decide +kernel
theorem dL_law_1140 : decode cL_law 1140 = .ok (.laload, 1) := by decide +kernel
theorem dL_law_1141 : decode cL_law 1141 = .ok (.iload 7, 2) := by decide +kernel
theorem dL_law_1143 : decode cL_law 1143 = .ok (.i2l, 1) := by decide +kernel
theorem dL_law_1144 : decode cL_law 1144 = .ok (.lcmp, 1) := by decide +kernel
theorem dL_law_1145 : decode cL_law 1145 = .ok (.ifCond .eq 5, 3) := by decide +kernel
theorem dL_law_1148 : decode cL_law 1148 = .ok (.iconst 0, 1) := by decide +kernel
theorem dL_law_1149 : decode cL_law 1149 = .ok (.ireturn, 1) := by decide +kernel
theorem dL_law_1150 : decode cL_law 1150 = .ok (.goto 427, 3) := by decide +kernel
theorem dL_law_1153 : decode cL_law 1153 = .ok (.aload_n 1, 1) := by decide +kernel
theorem dL_law_1154 : decode cL_law 1154 = .ok (.aload_n 0, 1) := by decide +kernel
theorem dL_law_1155 : decode cL_law 1155 = .ok (.iload 5, 2) := by decide +kernel
theorem dL_law_1157 : decode cL_law 1157 = .ok (.iconst 1, 1) := by decide +kernel
theorem dL_law_1158 : decode cL_law 1158 = .ok (.iadd, 1) := by decide +kernel
theorem dL_law_1159 : decode cL_law 1159 = .ok (.iaload, 1) := by decide +kernel
theorem dL_law_1160 : decode cL_law 1160 = .ok (.aload_n 0, 1) := by decide +kernel
theorem dL_law_1161 : decode cL_law 1161 = .ok (.iload 5, 2) := by decide +kernel
theorem dL_law_1163 : decode cL_law 1163 = .ok (.iconst 2, 1) := by decide +kernel
theorem dL_law_1164 : decode cL_law 1164 = .ok (.iadd, 1) := by decide +kernel
theorem dL_law_1165 : decode cL_law 1165 = .ok (.iaload, 1) := by decide +kernel
theorem dL_law_1166 : decode cL_law 1166 = .ok (.aload_n 3, 1) := by decide +kernel
theorem dL_law_1167 : decode cL_law 1167 = .ok (.invokestatic 147, 3) := by decide +kernel
theorem dL_law_1170 : decode cL_law 1170 = .ok (.istore 6, 2) := by decide +kernel
theorem dL_law_1172 : decode cL_law 1172 = .ok (.aload_n 2, 1) := by decide +kernel
theorem dL_law_1173 : decode cL_law 1173 = .ok (.aload_n 0, 1) := by decide +kernel
theorem dL_law_1174 : decode cL_law 1174 = .ok (.iload 5, 2) := by decide +kernel
theorem dL_law_1176 : decode cL_law 1176 = .ok (.iconst 1, 1) := by decide +kernel
theorem dL_law_1177 : decode cL_law 1177 = .ok (.iadd, 1) := by decide +kernel
theorem dL_law_1178 : decode cL_law 1178 = .ok (.iaload, 1) := by decide +kernel
theorem dL_law_1179 : decode cL_law 1179 = .ok (.aload_n 0, 1) := by decide +kernel
theorem dL_law_1180 : decode cL_law 1180 = .ok (.iload 5, 2) := by decide +kernel
theorem dL_law_1182 : decode cL_law 1182 = .ok (.iconst 2, 1) := by decide +kernel
theorem dL_law_1183 : decode cL_law 1183 = .ok (.iadd, 1) := by decide +kernel
theorem dL_law_1184 : decode cL_law 1184 = .ok (.iaload, 1) := by decide +kernel
theorem dL_law_1185 : decode cL_law 1185 = .ok (.invokevirtual 149, 3) := by decide +kernel
theorem dL_law_1188 : decode cL_law 1188 = .ok (.istore 7, 2) := by decide +kernel
theorem dL_law_1190 : decode cL_law 1190 = .ok (.aload_n 2, 1) := by decide +kernel
theorem dL_law_1191 : decode cL_law 1191 = .ok (.invokevirtual 93, 3) := by decide +kernel
theorem dL_law_1194 : decode cL_law 1194 = .ok (.iload 6, 2) := by decide +kernel
theorem dL_law_1196 : decode cL_law 1196 = .ok (.if_icmp .eq 5, 3) := by decide +kernel
theorem dL_law_1199 : decode cL_law 1199 = .ok (.iconst 0, 1) := by decide +kernel
theorem dL_law_1200 : decode cL_law 1200 = .ok (.ireturn, 1) := by decide +kernel
theorem dL_law_1201 : decode cL_law 1201 = .ok (.iload 6, 2) := by decide +kernel
theorem dL_law_1203 : decode cL_law 1203 = .ok (.ifCond .ne 22, 3) := by decide +kernel
theorem dL_law_1206 : decode cL_law 1206 = .ok (.aload_n 3, 1) := by decide +kernel
theorem dL_law_1207 : decode cL_law 1207 = .ok (.iconst 0, 1) := by decide +kernel
theorem dL_law_1208 : decode cL_law 1208 = .ok (.laload, 1) := by decide +kernel
theorem dL_law_1209 : decode cL_law 1209 = .ok (.iload 7, 2) := by decide +kernel
theorem dL_law_1211 : decode cL_law 1211 = .ok (.ifCond .eq 7, 3) := by decide +kernel
theorem dL_law_1214 : decode cL_law 1214 = .ok (.lconst 1, 1) := by decide +kernel
theorem dL_law_1215 : decode cL_law 1215 = .ok (.goto 4, 3) := by decide +kernel
theorem dL_law_1218 : decode cL_law 1218 = .ok (.lconst 0, 1) := by decide +kernel
theorem dL_law_1219 : decode cL_law 1219 = .ok (.lcmp, 1) := by decide +kernel
theorem dL_law_1220 : decode cL_law 1220 = .ok (.ifCond .eq 5, 3) := by decide +kernel
theorem dL_law_1223 : decode cL_law 1223 = .ok (.iconst 0, 1) := by decide +kernel
theorem dL_law_1224 : decode cL_law 1224 = .ok (.ireturn, 1) := by decide +kernel
theorem dL_law_1225 : decode cL_law 1225 = .ok (.goto 352, 3) := by decide +kernel
theorem dL_law_1228 : decode cL_law 1228 = .ok (.aload_n 1, 1) := by decide +kernel
theorem dL_law_1229 : decode cL_law 1229 = .ok (.aload_n 0, 1) := by decide +kernel
theorem dL_law_1230 : decode cL_law 1230 = .ok (.iload 5, 2) := by decide +kernel
theorem dL_law_1232 : decode cL_law 1232 = .ok (.iconst 1, 1) := by decide +kernel
theorem dL_law_1233 : decode cL_law 1233 = .ok (.iadd, 1) := by decide +kernel
theorem dL_law_1234 : decode cL_law 1234 = .ok (.iaload, 1) := by decide +kernel
theorem dL_law_1235 : decode cL_law 1235 = .ok (.aload_n 3, 1) := by decide +kernel
theorem dL_law_1236 : decode cL_law 1236 = .ok (.invokestatic 150, 3) := by decide +kernel
theorem dL_law_1239 : decode cL_law 1239 = .ok (.istore 6, 2) := by decide +kernel
theorem dL_law_1241 : decode cL_law 1241 = .ok (.aload_n 2, 1) := by decide +kernel
theorem dL_law_1242 : decode cL_law 1242 = .ok (.aload_n 0, 1) := by decide +kernel
theorem dL_law_1243 : decode cL_law 1243 = .ok (.iload 5, 2) := by decide +kernel
theorem dL_law_1245 : decode cL_law 1245 = .ok (.iconst 1, 1) := by decide +kernel
theorem dL_law_1246 : decode cL_law 1246 = .ok (.iadd, 1) := by decide +kernel
theorem dL_law_1247 : decode cL_law 1247 = .ok (.iaload, 1) := by decide +kernel
theorem dL_law_1248 : decode cL_law 1248 = .ok (.invokevirtual 152, 3) := by decide +kernel
theorem dL_law_1251 : decode cL_law 1251 = .ok (.istore 7, 2) := by decide +kernel
theorem dL_law_1253 : decode cL_law 1253 = .ok (.aload_n 2, 1) := by decide +kernel
theorem dL_law_1254 : decode cL_law 1254 = .ok (.invokevirtual 93, 3) := by decide +kernel
theorem dL_law_1257 : decode cL_law 1257 = .ok (.iload 6, 2) := by decide +kernel
theorem dL_law_1259 : decode cL_law 1259 = .ok (.if_icmp .eq 5, 3) := by decide +kernel
theorem dL_law_1262 : decode cL_law 1262 = .ok (.iconst 0, 1) := by decide +kernel
theorem dL_law_1263 : decode cL_law 1263 = .ok (.ireturn, 1) := by decide +kernel
theorem dL_law_1264 : decode cL_law 1264 = .ok (.iload 6, 2) := by decide +kernel
theorem dL_law_1266 : decode cL_law 1266 = .ok (.ifCond .ne 15, 3) := by decide +kernel
theorem dL_law_1269 : decode cL_law 1269 = .ok (.aload_n 3, 1) := by decide +kernel
theorem dL_law_1270 : decode cL_law 1270 = .ok (.iconst 0, 1) := by decide +kernel
theorem dL_law_1271 : decode cL_law 1271 = .ok (.laload, 1) := by decide +kernel
theorem dL_law_1272 : decode cL_law 1272 = .ok (.iload 7, 2) := by decide +kernel
theorem dL_law_1274 : decode cL_law 1274 = .ok (.i2l, 1) := by decide +kernel
theorem dL_law_1275 : decode cL_law 1275 = .ok (.lcmp, 1) := by decide +kernel
theorem dL_law_1276 : decode cL_law 1276 = .ok (.ifCond .eq 5, 3) := by decide +kernel
theorem dL_law_1279 : decode cL_law 1279 = .ok (.iconst 0, 1) := by decide +kernel
theorem dL_law_1280 : decode cL_law 1280 = .ok (.ireturn, 1) := by decide +kernel
theorem dL_law_1281 : decode cL_law 1281 = .ok (.goto 296, 3) := by decide +kernel
theorem dL_law_1284 : decode cL_law 1284 = .ok (.aload_n 1, 1) := by decide +kernel
theorem dL_law_1285 : decode cL_law 1285 = .ok (.invokevirtual 153, 3) := by decide +kernel
theorem dL_law_1288 : decode cL_law 1288 = .ok (.aload_n 2, 1) := by decide +kernel
theorem dL_law_1289 : decode cL_law 1289 = .ok (.invokevirtual 156, 3) := by decide +kernel
theorem dL_law_1292 : decode cL_law 1292 = .ok (.if_icmp .eq 285, 3) := by decide +kernel
theorem dL_law_1295 : decode cL_law 1295 = .ok (.iconst 0, 1) := by decide +kernel
theorem dL_law_1296 : decode cL_law 1296 = .ok (.ireturn, 1) := by decide +kernel
theorem dL_law_1297 : decode cL_law 1297 = .ok (.aload_n 1, 1) := by decide +kernel
theorem dL_law_1298 : decode cL_law 1298 = .ok (.aload_n 0, 1) := by decide +kernel
theorem dL_law_1299 : decode cL_law 1299 = .ok (.iload 5, 2) := by decide +kernel
theorem dL_law_1301 : decode cL_law 1301 = .ok (.iconst 1, 1) := by decide +kernel
theorem dL_law_1302 : decode cL_law 1302 = .ok (.iadd, 1) := by decide +kernel
theorem dL_law_1303 : decode cL_law 1303 = .ok (.iaload, 1) := by decide +kernel
theorem dL_law_1304 : decode cL_law 1304 = .ok (.aload_n 0, 1) := by decide +kernel
theorem dL_law_1305 : decode cL_law 1305 = .ok (.iload 5, 2) := by decide +kernel
theorem dL_law_1307 : decode cL_law 1307 = .ok (.iconst 2, 1) := by decide +kernel
theorem dL_law_1308 : decode cL_law 1308 = .ok (.iadd, 1) := by decide +kernel
theorem dL_law_1309 : decode cL_law 1309 = .ok (.iaload, 1) := by decide +kernel
theorem dL_law_1310 : decode cL_law 1310 = .ok (.aload_n 3, 1) := by decide +kernel
theorem dL_law_1311 : decode cL_law 1311 = .ok (.invokestatic 157, 3) := by decide +kernel
theorem dL_law_1314 : decode cL_law 1314 = .ok (.istore 6, 2) := by decide +kernel
theorem dL_law_1316 : decode cL_law 1316 = .ok (.aload_n 2, 1) := by decide +kernel
theorem dL_law_1317 : decode cL_law 1317 = .ok (.aload_n 0, 1) := by decide +kernel
theorem dL_law_1318 : decode cL_law 1318 = .ok (.iload 5, 2) := by decide +kernel
theorem dL_law_1320 : decode cL_law 1320 = .ok (.iconst 1, 1) := by decide +kernel
theorem dL_law_1321 : decode cL_law 1321 = .ok (.iadd, 1) := by decide +kernel
theorem dL_law_1322 : decode cL_law 1322 = .ok (.iaload, 1) := by decide +kernel
theorem dL_law_1323 : decode cL_law 1323 = .ok (.aload_n 0, 1) := by decide +kernel
theorem dL_law_1324 : decode cL_law 1324 = .ok (.iload 5, 2) := by decide +kernel
theorem dL_law_1326 : decode cL_law 1326 = .ok (.iconst 2, 1) := by decide +kernel
theorem dL_law_1327 : decode cL_law 1327 = .ok (.iadd, 1) := by decide +kernel
theorem dL_law_1328 : decode cL_law 1328 = .ok (.iaload, 1) := by decide +kernel
theorem dL_law_1329 : decode cL_law 1329 = .ok (.invokevirtual 159, 3) := by decide +kernel
theorem dL_law_1332 : decode cL_law 1332 = .ok (.istore 7, 2) := by decide +kernel
theorem dL_law_1334 : decode cL_law 1334 = .ok (.aload_n 2, 1) := by decide +kernel
theorem dL_law_1335 : decode cL_law 1335 = .ok (.invokevirtual 93, 3) := by decide +kernel
theorem dL_law_1338 : decode cL_law 1338 = .ok (.iload 6, 2) := by decide +kernel
theorem dL_law_1340 : decode cL_law 1340 = .ok (.if_icmp .eq 5, 3) := by decide +kernel
theorem dL_law_1343 : decode cL_law 1343 = .ok (.iconst 0, 1) := by decide +kernel
theorem dL_law_1344 : decode cL_law 1344 = .ok (.ireturn, 1) := by decide +kernel
theorem dL_law_1345 : decode cL_law 1345 = .ok (.iload 6, 2) := by decide +kernel
theorem dL_law_1347 : decode cL_law 1347 = .ok (.ifCond .ne 22, 3) := by decide +kernel
theorem dL_law_1350 : decode cL_law 1350 = .ok (.aload_n 3, 1) := by decide +kernel
theorem dL_law_1351 : decode cL_law 1351 = .ok (.iconst 0, 1) := by decide +kernel
theorem dL_law_1352 : decode cL_law 1352 = .ok (.laload, 1) := by decide +kernel
theorem dL_law_1353 : decode cL_law 1353 = .ok (.iload 7, 2) := by decide +kernel
theorem dL_law_1355 : decode cL_law 1355 = .ok (.ifCond .eq 7, 3) := by decide +kernel
theorem dL_law_1358 : decode cL_law 1358 = .ok (.lconst 1, 1) := by decide +kernel
theorem dL_law_1359 : decode cL_law 1359 = .ok (.goto 4, 3) := by decide +kernel
theorem dL_law_1362 : decode cL_law 1362 = .ok (.lconst 0, 1) := by decide +kernel
theorem dL_law_1363 : decode cL_law 1363 = .ok (.lcmp, 1) := by decide +kernel
theorem dL_law_1364 : decode cL_law 1364 = .ok (.ifCond .eq 5, 3) := by decide +kernel
theorem dL_law_1367 : decode cL_law 1367 = .ok (.iconst 0, 1) := by decide +kernel
theorem dL_law_1368 : decode cL_law 1368 = .ok (.ireturn, 1) := by decide +kernel
theorem dL_law_1369 : decode cL_law 1369 = .ok (.goto 208, 3) := by decide +kernel
theorem dL_law_1372 : decode cL_law 1372 = .ok (.aload_n 1, 1) := by decide +kernel
theorem dL_law_1373 : decode cL_law 1373 = .ok (.aload 4, 2) := by decide +kernel
theorem dL_law_1375 : decode cL_law 1375 = .ok (.invokestatic 160, 3) := by decide +kernel
theorem dL_law_1378 : decode cL_law 1378 = .ok (.istore 6, 2) := by decide +kernel
theorem dL_law_1380 : decode cL_law 1380 = .ok (.aload_n 2, 1) := by decide +kernel
theorem dL_law_1381 : decode cL_law 1381 = .ok (.invokevirtual 163, 3) := by decide +kernel
theorem dL_law_1384 : decode cL_law 1384 = .ok (.dstore 7, 2) := by decide +kernel
theorem dL_law_1386 : decode cL_law 1386 = .ok (.aload_n 2, 1) := by decide +kernel
theorem dL_law_1387 : decode cL_law 1387 = .ok (.invokevirtual 93, 3) := by decide +kernel
theorem dL_law_1390 : decode cL_law 1390 = .ok (.iload 6, 2) := by decide +kernel
theorem dL_law_1392 : decode cL_law 1392 = .ok (.if_icmp .eq 5, 3) := by decide +kernel
theorem dL_law_1395 : decode cL_law 1395 = .ok (.iconst 0, 1) := by decide +kernel
theorem dL_law_1396 : decode cL_law 1396 = .ok (.ireturn, 1) := by decide +kernel
theorem dL_law_1397 : decode cL_law 1397 = .ok (.iload 6, 2) := by decide +kernel
theorem dL_law_1399 : decode cL_law 1399 = .ok (.ifCond .ne 35, 3) := by decide +kernel
theorem dL_law_1402 : decode cL_law 1402 = .ok (.aload 4, 2) := by decide +kernel
theorem dL_law_1404 : decode cL_law 1404 = .ok (.iconst 0, 1) := by decide +kernel
theorem dL_law_1405 : decode cL_law 1405 = .ok (.daload, 1) := by decide +kernel
theorem dL_law_1406 : decode cL_law 1406 = .ok (.dload 7, 2) := by decide +kernel
theorem dL_law_1408 : decode cL_law 1408 = .ok (.dcmp .l, 1) := by decide +kernel
theorem dL_law_1409 : decode cL_law 1409 = .ok (.ifCond .eq 25, 3) := by decide +kernel
theorem dL_law_1412 : decode cL_law 1412 = .ok (.aload 4, 2) := by decide +kernel
theorem dL_law_1414 : decode cL_law 1414 = .ok (.iconst 0, 1) := by decide +kernel
theorem dL_law_1415 : decode cL_law 1415 = .ok (.daload, 1) := by decide +kernel
theorem dL_law_1416 : decode cL_law 1416 = .ok (.aload 4, 2) := by decide +kernel
theorem dL_law_1418 : decode cL_law 1418 = .ok (.iconst 0, 1) := by decide +kernel
theorem dL_law_1419 : decode cL_law 1419 = .ok (.daload, 1) := by decide +kernel
theorem dL_law_1420 : decode cL_law 1420 = .ok (.dcmp .l, 1) := by decide +kernel
theorem dL_law_1421 : decode cL_law 1421 = .ok (.ifCond .eq 11, 3) := by decide +kernel
theorem dL_law_1424 : decode cL_law 1424 = .ok (.dload 7, 2) := by decide +kernel
theorem dL_law_1426 : decode cL_law 1426 = .ok (.dload 7, 2) := by decide +kernel
theorem dL_law_1428 : decode cL_law 1428 = .ok (.dcmp .l, 1) := by decide +kernel
theorem dL_law_1429 : decode cL_law 1429 = .ok (.ifCond .ne 5, 3) := by decide +kernel
theorem dL_law_1432 : decode cL_law 1432 = .ok (.iconst 0, 1) := by decide +kernel
theorem dL_law_1433 : decode cL_law 1433 = .ok (.ireturn, 1) := by decide +kernel
theorem dL_law_1434 : decode cL_law 1434 = .ok (.goto 143, 3) := by decide +kernel
theorem dL_law_1437 : decode cL_law 1437 = .ok (.aload_n 1, 1) := by decide +kernel
theorem dL_law_1438 : decode cL_law 1438 = .ok (.aload_n 0, 1) := by decide +kernel
theorem dL_law_1439 : decode cL_law 1439 = .ok (.iload 5, 2) := by decide +kernel
theorem dL_law_1441 : decode cL_law 1441 = .ok (.iconst 1, 1) := by decide +kernel
theorem dL_law_1442 : decode cL_law 1442 = .ok (.iadd, 1) := by decide +kernel
theorem dL_law_1443 : decode cL_law 1443 = .ok (.iaload, 1) := by decide +kernel
theorem dL_law_1444 : decode cL_law 1444 = .ok (.aload_n 3, 1) := by decide +kernel
theorem dL_law_1445 : decode cL_law 1445 = .ok (.invokestatic 164, 3) := by decide +kernel
theorem dL_law_1448 : decode cL_law 1448 = .ok (.istore 6, 2) := by decide +kernel
theorem dL_law_1450 : decode cL_law 1450 = .ok (.aload_n 2, 1) := by decide +kernel
theorem dL_law_1451 : decode cL_law 1451 = .ok (.aload_n 0, 1) := by decide +kernel
theorem dL_law_1452 : decode cL_law 1452 = .ok (.iload 5, 2) := by decide +kernel
theorem dL_law_1454 : decode cL_law 1454 = .ok (.iconst 1, 1) := by decide +kernel
theorem dL_law_1455 : decode cL_law 1455 = .ok (.iadd, 1) := by decide +kernel
theorem dL_law_1456 : decode cL_law 1456 = .ok (.iaload, 1) := by decide +kernel
theorem dL_law_1457 : decode cL_law 1457 = .ok (.invokevirtual 166, 3) := by decide +kernel
theorem dL_law_1460 : decode cL_law 1460 = .ok (.istore 7, 2) := by decide +kernel
theorem dL_law_1462 : decode cL_law 1462 = .ok (.aload_n 2, 1) := by decide +kernel
theorem dL_law_1463 : decode cL_law 1463 = .ok (.invokevirtual 93, 3) := by decide +kernel
theorem dL_law_1466 : decode cL_law 1466 = .ok (.iload 6, 2) := by decide +kernel
theorem dL_law_1468 : decode cL_law 1468 = .ok (.if_icmp .eq 5, 3) := by decide +kernel
theorem dL_law_1471 : decode cL_law 1471 = .ok (.iconst 0, 1) := by decide +kernel
theorem dL_law_1472 : decode cL_law 1472 = .ok (.ireturn, 1) := by decide +kernel
theorem dL_law_1473 : decode cL_law 1473 = .ok (.iload 6, 2) := by decide +kernel
theorem dL_law_1475 : decode cL_law 1475 = .ok (.ifCond .ne 15, 3) := by decide +kernel
theorem dL_law_1478 : decode cL_law 1478 = .ok (.aload_n 3, 1) := by decide +kernel
theorem dL_law_1479 : decode cL_law 1479 = .ok (.iconst 0, 1) := by decide +kernel
theorem dL_law_1480 : decode cL_law 1480 = .ok (.laload, 1) := by decide +kernel
theorem dL_law_1481 : decode cL_law 1481 = .ok (.iload 7, 2) := by decide +kernel
theorem dL_law_1483 : decode cL_law 1483 = .ok (.i2l, 1) := by decide +kernel
theorem dL_law_1484 : decode cL_law 1484 = .ok (.lcmp, 1) := by decide +kernel
theorem dL_law_1485 : decode cL_law 1485 = .ok (.ifCond .eq 5, 3) := by decide +kernel
theorem dL_law_1488 : decode cL_law 1488 = .ok (.iconst 0, 1) := by decide +kernel
theorem dL_law_1489 : decode cL_law 1489 = .ok (.ireturn, 1) := by decide +kernel
theorem dL_law_1490 : decode cL_law 1490 = .ok (.goto 87, 3) := by decide +kernel
theorem dL_law_1493 : decode cL_law 1493 = .ok (.aload_n 1, 1) := by decide +kernel
theorem dL_law_1494 : decode cL_law 1494 = .ok (.invokevirtual 167, 3) := by decide +kernel
theorem dL_law_1497 : decode cL_law 1497 = .ok (.aload_n 2, 1) := by decide +kernel
theorem dL_law_1498 : decode cL_law 1498 = .ok (.invokevirtual 170, 3) := by decide +kernel
theorem dL_law_1501 : decode cL_law 1501 = .ok (.if_icmp .eq 76, 3) := by decide +kernel
theorem dL_law_1504 : decode cL_law 1504 = .ok (.iconst 0, 1) := by decide +kernel
theorem dL_law_1505 : decode cL_law 1505 = .ok (.ireturn, 1) := by decide +kernel
theorem dL_law_1506 : decode cL_law 1506 = .ok (.aload_n 1, 1) := by decide +kernel
theorem dL_law_1507 : decode cL_law 1507 = .ok (.invokevirtual 171, 3) := by decide +kernel
theorem dL_law_1510 : decode cL_law 1510 = .ok (.aload_n 2, 1) := by decide +kernel
theorem dL_law_1511 : decode cL_law 1511 = .ok (.invokevirtual 174, 3) := by decide +kernel
theorem dL_law_1514 : decode cL_law 1514 = .ok (.if_icmp .eq 63, 3) := by decide +kernel
theorem dL_law_1517 : decode cL_law 1517 = .ok (.iconst 0, 1) := by decide +kernel
theorem dL_law_1518 : decode cL_law 1518 = .ok (.ireturn, 1) := by decide +kernel
theorem dL_law_1519 : decode cL_law 1519 = .ok (.aload_n 1, 1) := by decide +kernel
theorem dL_law_1520 : decode cL_law 1520 = .ok (.aload_n 3, 1) := by decide +kernel
theorem dL_law_1521 : decode cL_law 1521 = .ok (.invokestatic 175, 3) := by decide +kernel
theorem dL_law_1524 : decode cL_law 1524 = .ok (.istore 6, 2) := by decide +kernel
theorem dL_law_1526 : decode cL_law 1526 = .ok (.aload_n 2, 1) := by decide +kernel
theorem dL_law_1527 : decode cL_law 1527 = .ok (.invokevirtual 178, 3) := by decide +kernel
theorem dL_law_1530 : decode cL_law 1530 = .ok (.istore 7, 2) := by decide +kernel
theorem dL_law_1532 : decode cL_law 1532 = .ok (.aload_n 2, 1) := by decide +kernel
theorem dL_law_1533 : decode cL_law 1533 = .ok (.invokevirtual 93, 3) := by decide +kernel
theorem dL_law_1536 : decode cL_law 1536 = .ok (.iload 6, 2) := by decide +kernel
theorem dL_law_1538 : decode cL_law 1538 = .ok (.if_icmp .eq 5, 3) := by decide +kernel
theorem dL_law_1541 : decode cL_law 1541 = .ok (.iconst 0, 1) := by decide +kernel
theorem dL_law_1542 : decode cL_law 1542 = .ok (.ireturn, 1) := by decide +kernel
theorem dL_law_1543 : decode cL_law 1543 = .ok (.iload 6, 2) := by decide +kernel
theorem dL_law_1545 : decode cL_law 1545 = .ok (.ifCond .ne 15, 3) := by decide +kernel
theorem dL_law_1548 : decode cL_law 1548 = .ok (.aload_n 3, 1) := by decide +kernel
theorem dL_law_1549 : decode cL_law 1549 = .ok (.iconst 0, 1) := by decide +kernel
theorem dL_law_1550 : decode cL_law 1550 = .ok (.laload, 1) := by decide +kernel
theorem dL_law_1551 : decode cL_law 1551 = .ok (.iload 7, 2) := by decide +kernel
theorem dL_law_1553 : decode cL_law 1553 = .ok (.i2l, 1) := by decide +kernel
theorem dL_law_1554 : decode cL_law 1554 = .ok (.lcmp, 1) := by decide +kernel
theorem dL_law_1555 : decode cL_law 1555 = .ok (.ifCond .eq 5, 3) := by decide +kernel
theorem dL_law_1558 : decode cL_law 1558 = .ok (.iconst 0, 1) := by decide +kernel
theorem dL_law_1559 : decode cL_law 1559 = .ok (.ireturn, 1) := by decide +kernel
theorem dL_law_1560 : decode cL_law 1560 = .ok (.goto 17, 3) := by decide +kernel
theorem dL_law_1563 : decode cL_law 1563 = .ok (.aload_n 1, 1) := by decide +kernel
theorem dL_law_1564 : decode cL_law 1564 = .ok (.invokevirtual 179, 3) := by decide +kernel
theorem dL_law_1567 : decode cL_law 1567 = .ok (.aload_n 2, 1) := by decide +kernel
theorem dL_law_1568 : decode cL_law 1568 = .ok (.invokevirtual 183, 3) := by decide +kernel
theorem dL_law_1571 : decode cL_law 1571 = .ok (.lcmp, 1) := by decide +kernel
theorem dL_law_1572 : decode cL_law 1572 = .ok (.ifCond .eq 5, 3) := by decide +kernel
theorem dL_law_1575 : decode cL_law 1575 = .ok (.iconst 0, 1) := by decide +kernel
theorem dL_law_1576 : decode cL_law 1576 = .ok (.ireturn, 1) := by decide +kernel
theorem dL_law_1577 : decode cL_law 1577 = .ok (.iinc 5 5, 3) := by decide +kernel
theorem dL_law_1580 : decode cL_law 1580 = .ok (.goto (-1552), 3) := by decide +kernel
theorem dL_law_1583 : decode cL_law 1583 = .ok (.iconst 1, 1) := by decide +kernel
theorem dL_law_1584 : decode cL_law 1584 = .ok (.ireturn, 1) := by decide +kernel
