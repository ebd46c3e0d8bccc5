theorem dX7_follow_96 : decode cX7_follow 96 = .ok (.bipush 112, 2) := by decide +kernel
theorem dX7_follow_98 : decode cX7_follow 98 = .ok (.if_icmp .ne 7, 3) := by decide +kernel
theorem dX7_follow_101 : decode cX7_follow 101 = .ok (.iconst 1, 1) := by decide +kernel
theorem dX7_follow_102 : decode cX7_follow 102 = .ok (.goto 4, 3) := by decide +kernel
theorem dX7_follow_105 : decode cX7_follow 105 = .ok (.iconst 0, 1) := by decide +kernel
theorem dX7_follow_106 : decode cX7_follow 106 = .ok (.istore_n 1, 1) := by decide +kernel
theorem dX7_follow_107 : decode cX7_follow 107 = .ok (.aload_n 0, 1) := by decide +kernel
theorem dX7_follow_108 : decode cX7_follow 108 = .ok (.getfield 12, 3) := by decide +kernel
theorem dX7_follow_111 : decode cX7_follow 111 = .ok (.aload_n 0, 1) := by decide +kernel
theorem dX7_follow_112 : decode cX7_follow 112 = .ok (.getfield 57, 3) := by decide +kernel
theorem dX7_follow_115 : decode cX7_follow 115 = .ok (.getfield 293, 3) := by decide +kernel
theorem dX7_follow_118 : decode cX7_follow 118 = .ok (.aload_n 0, 1) := by decide +kernel
theorem dX7_follow_119 : decode cX7_follow 119 = .ok (.getfield 57, 3) := by decide +kernel
theorem dX7_follow_122 : decode cX7_follow 122 = .ok (.getfield 296, 3) := by decide +kernel
theorem dX7_follow_125 : decode cX7_follow 125 = .ok (.iload_n 1, 1) := by decide +kernel
theorem dX7_follow_126 : decode cX7_follow 126 = .ok (.invokevirtual 113, 3) := by decide +kernel
theorem dX7_follow_129 : decode cX7_follow 129 = .ok (.ifCond .eq 5, 3) := by decide +kernel
theorem dX7_follow_132 : decode cX7_follow 132 = .ok (.iconst 0, 1) := by decide +kernel
theorem dX7_follow_133 : decode cX7_follow 133 = .ok (.ireturn, 1) := by decide +kernel
theorem dX7_follow_134 : decode cX7_follow 134 = .ok (.aload_n 0, 1) := by decide +kernel
theorem dX7_follow_135 : decode cX7_follow 135 = .ok (.getfield 12, 3) := by decide +kernel
theorem dX7_follow_138 : decode cX7_follow 138 = .ok (.aload_n 0, 1) := by decide +kernel
theorem dX7_follow_139 : decode cX7_follow 139 = .ok (.getfield 57, 3) := by decide +kernel
theorem dX7_follow_142 : decode cX7_follow 142 = .ok (.getfield 293, 3) := by decide +kernel
theorem dX7_follow_145 : decode cX7_follow 145 = .ok (.aload_n 0, 1) := by decide +kernel
theorem dX7_follow_146 : decode cX7_follow 146 = .ok (.getfield 57, 3) := by decide +kernel
theorem dX7_follow_149 : decode cX7_follow 149 = .ok (.getfield 296, 3) := by decide +kernel
theorem dX7_follow_152 : decode cX7_follow 152 = .ok (.iload_n 1, 1) := by decide +kernel
theorem dX7_follow_153 : decode cX7_follow 153 = .ok (.invokevirtual 117, 3) := by decide +kernel
theorem dX7_follow_156 : decode cX7_follow 156 = .ok (.iconst 1, 1) := by decide +kernel
theorem dX7_follow_157 : decode cX7_follow 157 = .ok (.ireturn, 1) := by decide +kernel
theorem dX7_contains_0 : decode cX7_contains 0 = .ok (.iload_n 0, 1) := by decide +kernel
theorem dX7_contains_1 : decode cX7_contains 1 = .ok (.iload_n 1, 1) := by decide +kernel
theorem dX7_contains_2 : decode cX7_contains 2 = .ok (.ishr, 1) := by decide +kernel
theorem dX7_contains_3 : decode cX7_contains 3 = .ok (.iconst 1, 1) := by decide +kernel
theorem dX7_contains_4 : decode cX7_contains 4 = .ok (.iand, 1) := by decide +kernel
theorem dX7_contains_5 : decode cX7_contains 5 = .ok (.ifCond .eq 7, 3) := by decide +kernel
theorem dX7_contains_8 : decode cX7_contains 8 = .ok (.iconst 1, 1) := by decide +kernel
theorem dX7_contains_9 : decode cX7_contains 9 = .ok (.goto 4, 3) := by decide +kernel
theorem dX7_contains_12 : decode cX7_contains 12 = .ok (.iconst 0, 1) := by decide +kernel
theorem dX7_contains_13 : decode cX7_contains 13 = .ok (.ireturn, 1) := by decide +kernel
theorem dX8_init_0 : decode cX8_init 0 = .ok (.aload_n 0, 1) := by decide +kernel
theorem dX8_init_1 : decode cX8_init 1 = .ok (.invokespecial 1, 3) := by decide +kernel
theorem dX8_init_4 : decode cX8_init 4 = .ok (.aload_n 0, 1) := by decide +kernel
theorem dX8_init_5 : decode cX8_init 5 = .ok (.iconst 1, 1) := by decide +kernel
theorem dX8_init_6 : decode cX8_init 6 = .ok (.putfield 7, 3) := by decide +kernel
theorem dX8_init_9 : decode cX8_init 9 = .ok (.aload_n 0, 1) := by decide +kernel
theorem dX8_init_10 : decode cX8_init 10 = .ok (.bipush 8, 2) := by decide +kernel
theorem dX8_init_12 : decode cX8_init 12 = .ok (.newarray .int, 2) := by decide +kernel
theorem dX8_init_14 : decode cX8_init 14 = .ok (.putfield 13, 3) := by decide +kernel
theorem dX8_init_17 : decode cX8_init 17 = .ok (.aload_n 0, 1) := by decide +kernel
theorem dX8_init_18 : decode cX8_init 18 = .ok (.bipush 8, 2) := by decide +kernel
theorem dX8_init_20 : decode cX8_init 20 = .ok (.newarray .int, 2) := by decide +kernel
theorem dX8_init_22 : decode cX8_init 22 = .ok (.putfield 17, 3) := by decide +kernel
theorem dX8_init_25 : decode cX8_init 25 = .ok (.aload_n 0, 1) := by decide +kernel
theorem dX8_init_26 : decode cX8_init 26 = .ok (.bipush 8, 2) := by decide +kernel
theorem dX8_init_28 : decode cX8_init 28 = .ok (.newarray .int, 2) := by decide +kernel
theorem dX8_init_30 : decode cX8_init 30 = .ok (.putfield 20, 3) := by decide +kernel
theorem dX8_init_33 : decode cX8_init 33 = .ok (.aload_n 0, 1) := by decide +kernel
theorem dX8_init_34 : decode cX8_init 34 = .ok (.bipush 8, 2) := by decide +kernel
theorem dX8_init_36 : decode cX8_init 36 = .ok (.newarray .int, 2) := by decide +kernel
theorem dX8_init_38 : decode cX8_init 38 = .ok (.putfield 23, 3) := by decide +kernel
theorem dX8_init_41 : decode cX8_init 41 = .ok (.aload_n 0, 1) := by decide +kernel
theorem dX8_init_42 : decode cX8_init 42 = .ok (.bipush 8, 2) := by decide +kernel
theorem dX8_init_44 : decode cX8_init 44 = .ok (.newarray .int, 2) := by decide +kernel
theorem dX8_init_46 : decode cX8_init 46 = .ok (.putfield 26, 3) := by decide +kernel
theorem dX8_init_49 : decode cX8_init 49 = .ok (.aload_n 0, 1) := by decide +kernel
theorem dX8_init_50 : decode cX8_init 50 = .ok (.sipush 168, 3) := by decide +kernel
theorem dX8_init_53 : decode cX8_init 53 = .ok (.newarray .int, 2) := by decide +kernel
theorem dX8_init_55 : decode cX8_init 55 = .ok (.putfield 29, 3) := by decide +kernel
theorem dX8_init_58 : decode cX8_init 58 = .ok (.aload_n 0, 1) := by decide +kernel
theorem dX8_init_59 : decode cX8_init 59 = .ok (.bipush 100, 2) := by decide +kernel
theorem dX8_init_61 : decode cX8_init 61 = .ok (.newarray .int, 2) := by decide +kernel
theorem dX8_init_63 : decode cX8_init 63 = .ok (.putfield 32, 3) := by decide +kernel
theorem dX8_init_66 : decode cX8_init 66 = .ok (.aload_n 0, 1) := by decide +kernel
theorem dX8_init_67 : decode cX8_init 67 = .ok (.bipush 8, 2) := by decide +kernel
theorem dX8_init_69 : decode cX8_init 69 = .ok (.newarray .int, 2) := by decide +kernel
theorem dX8_init_71 : decode cX8_init 71 = .ok (.putfield 35, 3) := by decide +kernel
theorem dX8_init_74 : decode cX8_init 74 = .ok (.aload_n 0, 1) := by decide +kernel
theorem dX8_init_75 : decode cX8_init 75 = .ok (.bipush 8, 2) := by decide +kernel
theorem dX8_init_77 : decode cX8_init 77 = .ok (.newarray .int, 2) := by decide +kernel
theorem dX8_init_79 : decode cX8_init 79 = .ok (.putfield 38, 3) := by decide +kernel
theorem dX8_init_82 : decode cX8_init 82 = .ok (.aload_n 0, 1) := by decide +kernel
theorem dX8_init_83 : decode cX8_init 83 = .ok (.bipush 8, 2) := by decide +kernel
theorem dX8_init_85 : decode cX8_init 85 = .ok (.newarray .int, 2) := by decide +kernel
theorem dX8_init_87 : decode cX8_init 87 = .ok (.putfield 41, 3) := by decide +kernel
theorem dX8_init_90 : decode cX8_init 90 = .ok (.aload_n 0, 1) := by decide +kernel
theorem dX8_init_91 : decode cX8_init 91 = .ok (.sipush 256, 3) := by decide +kernel
theorem dX8_init_94 : decode cX8_init 94 = .ok (.newarray .int, 2) := by decide +kernel
theorem dX8_init_96 : decode cX8_init 96 = .ok (.putfield 44, 3) := by decide +kernel
theorem dX8_init_99 : decode cX8_init 99 = .ok (.aload_n 0, 1) := by decide +kernel
theorem dX8_init_100 : decode cX8_init 100 = .ok (.sipush 256, 3) := by decide +kernel
theorem dX8_init_103 : decode cX8_init 103 = .ok (.newarray .int, 2) := by decide +kernel
theorem dX8_init_105 : decode cX8_init 105 = .ok (.putfield 47, 3) := by decide +kernel
theorem dX8_init_108 : decode cX8_init 108 = .ok (.aload_n 0, 1) := by decide +kernel
theorem dX8_init_109 : decode cX8_init 109 = .ok (.sipush 256, 3) := by decide +kernel
theorem dX8_init_112 : decode cX8_init 112 = .ok (.newarray .int, 2) := by decide +kernel
theorem dX8_init_114 : decode cX8_init 114 = .ok (.putfield 50, 3) := by decide +kernel
theorem dX8_init_117 : decode cX8_init 117 = .ok (.aload_n 0, 1) := by decide +kernel
theorem dX8_init_118 : decode cX8_init 118 = .ok (.sipush 256, 3) := by decide +kernel
theorem dX8_init_121 : decode cX8_init 121 = .ok (.newarray .boolean, 2) := by decide +kernel
theorem dX8_init_123 : decode cX8_init 123 = .ok (.putfield 53, 3) := by decide +kernel
theorem dX8_init_126 : decode cX8_init 126 = .ok (.aload_n 0, 1) := by decide +kernel
theorem dX8_init_127 : decode cX8_init 127 = .ok (.bipush 8, 2) := by decide +kernel
theorem dX8_init_129 : decode cX8_init 129 = .ok (.newarray .int, 2) := by decide +kernel
theorem dX8_init_131 : decode cX8_init 131 = .ok (.putfield 57, 3) := by decide +kernel
theorem dX8_init_134 : decode cX8_init 134 = .ok (.aload_n 0, 1) := by decide +kernel
theorem dX8_init_135 : decode cX8_init 135 = .ok (.bipush 8, 2) := by decide +kernel
theorem dX8_init_137 : decode cX8_init 137 = .ok (.newarray .int, 2) := by decide +kernel
theorem dX8_init_139 : decode cX8_init 139 = .ok (.putfield 60, 3) := by decide +kernel
theorem dX8_init_142 : decode cX8_init 142 = .ok (.aload_n 0, 1) := by decide +kernel
theorem dX8_init_143 : decode cX8_init 143 = .ok (.bipush 8, 2) := by decide +kernel
theorem dX8_init_145 : decode cX8_init 145 = .ok (.newarray .int, 2) := by decide +kernel
theorem dX8_init_147 : decode cX8_init 147 = .ok (.putfield 63, 3) := by decide +kernel
theorem dX8_init_150 : decode cX8_init 150 = .ok (.aload_n 0, 1) := by decide +kernel
theorem dX8_init_151 : decode cX8_init 151 = .ok (.bipush 8, 2) := by decide +kernel
theorem dX8_init_153 : decode cX8_init 153 = .ok (.newarray .int, 2) := by decide +kernel
theorem dX8_init_155 : decode cX8_init 155 = .ok (.putfield 66, 3) := by decide +kernel
theorem dX8_init_158 : decode cX8_init 158 = .ok (.aload_n 0, 1) := by decide +kernel
theorem dX8_init_159 : decode cX8_init 159 = .ok (.bipush 8, 2) := by decide +kernel
theorem dX8_init_161 : decode cX8_init 161 = .ok (.newarray .int, 2) := by decide +kernel
theorem dX8_init_163 : decode cX8_init 163 = .ok (.putfield 69, 3) := by decide +kernel
theorem dX8_init_166 : decode cX8_init 166 = .ok (.aload_n 0, 1) := by decide +kernel
theorem dX8_init_167 : decode cX8_init 167 = .ok (.sipush 250, 3) := by decide +kernel
theorem dX8_init_170 : decode cX8_init 170 = .ok (.newarray .int, 2) := by decide +kernel
theorem dX8_init_172 : decode cX8_init 172 = .ok (.putfield 72, 3) := by decide +kernel
theorem dX8_init_175 : decode cX8_init 175 = .ok (.return_, 1) := by decide +kernel
theorem dX8_thrown_0 : decode cX8_thrown 0 = .ok (.aload_n 0, 1) := by decide +kernel
theorem dX8_thrown_1 : decode cX8_thrown 1 = .ok (.getfield 75, 3) := by decide +kernel
theorem dX8_thrown_4 : decode cX8_thrown 4 = .ok (.ireturn, 1) := by decide +kernel
theorem dX8_in_0 : decode cX8_in 0 = .ok (.iload_n 0, 1) := by decide +kernel
theorem dX8_in_1 : decode cX8_in 1 = .ok (.iload_n 1, 1) := by decide +kernel
theorem dX8_in_2 : decode cX8_in 2 = .ok (.if_icmp .lt 12, 3) := by decide +kernel
theorem dX8_in_5 : decode cX8_in 5 = .ok (.iload_n 0, 1) := by decide +kernel
theorem dX8_in_6 : decode cX8_in 6 = .ok (.iload_n 2, 1) := by decide +kernel
theorem dX8_in_7 : decode cX8_in 7 = .ok (.if_icmp .gt 7, 3) := by decide +kernel
theorem dX8_in_10 : decode cX8_in 10 = .ok (.iconst 1, 1) := by decide +kernel
theorem dX8_in_11 : decode cX8_in 11 = .ok (.goto 4, 3) := by decide +kernel
theorem dX8_in_14 : decode cX8_in 14 = .ok (.iconst 0, 1) := by decide +kernel
theorem dX8_in_15 : decode cX8_in 15 = .ok (.ireturn, 1) := by decide +kernel
theorem dX8_has_0 : decode cX8_has 0 = .ok (.iload_n 0, 1) := by decide +kernel
theorem dX8_has_1 : decode cX8_has 1 = .ok (.iload_n 1, 1) := by decide +kernel
theorem dX8_has_2 : decode cX8_has 2 = .ok (.ishr, 1) := by decide +kernel
theorem dX8_has_3 : decode cX8_has 3 = .ok (.iconst 1, 1) := by decide +kernel
theorem dX8_has_4 : decode cX8_has 4 = .ok (.iand, 1) := by decide +kernel
theorem dX8_has_5 : decode cX8_has 5 = .ok (.iconst 1, 1) := by decide +kernel
theorem dX8_has_6 : decode cX8_has 6 = .ok (.if_icmp .ne 7, 3) := by decide +kernel
theorem dX8_has_9 : decode cX8_has 9 = .ok (.iconst 1, 1) := by decide +kernel
theorem dX8_has_10 : decode cX8_has 10 = .ok (.goto 4, 3) := by decide +kernel
theorem dX8_has_13 : decode cX8_has 13 = .ok (.iconst 0, 1) := by decide +kernel
theorem dX8_has_14 : decode cX8_has 14 = .ok (.ireturn, 1) := by decide +kernel
theorem dX8_isTask_0 : decode cX8_isTask 0 = .ok (.iload_n 1, 1) := by decide +kernel
theorem dX8_isTask_1 : decode cX8_isTask 1 = .ok (.ifCond .lt 15, 3) := by decide +kernel
theorem dX8_isTask_4 : decode cX8_isTask 4 = .ok (.iload_n 1, 1) := by decide +kernel
theorem dX8_isTask_5 : decode cX8_isTask 5 = .ok (.aload_n 0, 1) := by decide +kernel
theorem dX8_isTask_6 : decode cX8_isTask 6 = .ok (.getfield 78, 3) := by decide +kernel
theorem dX8_isTask_9 : decode cX8_isTask 9 = .ok (.if_icmp .ge 7, 3) := by decide +kernel
theorem dX8_isTask_12 : decode cX8_isTask 12 = .ok (.iconst 1, 1) := by decide +kernel
theorem dX8_isTask_13 : decode cX8_isTask 13 = .ok (.goto 4, 3) := by decide +kernel
theorem dX8_isTask_16 : decode cX8_isTask 16 = .ok (.iconst 0, 1) := by decide +kernel
theorem dX8_isTask_17 : decode cX8_isTask 17 = .ok (.ireturn, 1) := by decide +kernel
theorem dX8_save_0 : decode cX8_save 0 = .ok (.aload_n 0, 1) := by decide +kernel
theorem dX8_save_1 : decode cX8_save 1 = .ok (.getfield 81, 3) := by decide +kernel
theorem dX8_save_4 : decode cX8_save 4 = .ok (.iconst 4, 1) := by decide +kernel
theorem dX8_save_5 : decode cX8_save 5 = .ok (.if_icmp .ne 42, 3) := by decide +kernel
theorem dX8_save_8 : decode cX8_save 8 = .ok (.iconst 0, 1) := by decide +kernel
theorem dX8_save_9 : decode cX8_save 9 = .ok (.istore_n 1, 1) := by decide +kernel
theorem dX8_save_10 : decode cX8_save 10 = .ok (.iload_n 1, 1) := by decide +kernel
theorem dX8_save_11 : decode cX8_save 11 = .ok (.bipush 126, 2) := by decide +kernel
theorem dX8_save_13 : decode cX8_save 13 = .ok (.if_icmp .ge 24, 3) := by decide +kernel
theorem dX8_save_16 : decode cX8_save 16 = .ok (.aload_n 0, 1) := by decide +kernel
theorem dX8_save_17 : decode cX8_save 17 = .ok (.getfield 29, 3) := by decide +kernel
theorem dX8_save_20 : decode cX8_save 20 = .ok (.iload_n 1, 1) := by decide +kernel
theorem dX8_save_21 : decode cX8_save 21 = .ok (.aload_n 0, 1) := by decide +kernel
theorem dX8_save_22 : decode cX8_save 22 = .ok (.getfield 29, 3) := by decide +kernel
theorem dX8_save_25 : decode cX8_save 25 = .ok (.iload_n 1, 1) := by decide +kernel
theorem dX8_save_26 : decode cX8_save 26 = .ok (.bipush 42, 2) := by decide +kernel
theorem dX8_save_28 : decode cX8_save 28 = .ok (.iadd, 1) := by decide +kernel
theorem dX8_save_29 : decode cX8_save 29 = .ok (.iaload, 1) := by decide +kernel
theorem dX8_save_30 : decode cX8_save 30 = .ok (.iastore, 1) := by decide +kernel
theorem dX8_save_31 : decode cX8_save 31 = .ok (.iinc 1 1, 3) := by decide +kernel
theorem dX8_save_34 : decode cX8_save 34 = .ok (.goto (-24), 3) := by decide +kernel
theorem dX8_save_37 : decode cX8_save 37 = .ok (.aload_n 0, 1) := by decide +kernel
theorem dX8_save_38 : decode cX8_save 38 = .ok (.dup, 1) := by decide +kernel
theorem dX8_save_39 : decode cX8_save 39 = .ok (.getfield 81, 3) := by decide +kernel
theorem dX8_save_42 : decode cX8_save 42 = .ok (.iconst 1, 1) := by decide +kernel
theorem dX8_save_43 : decode cX8_save 43 = .ok (.isub, 1) := by decide +kernel
theorem dX8_save_44 : decode cX8_save 44 = .ok (.putfield 81, 3) := by decide +kernel
theorem dX8_save_47 : decode cX8_save 47 = .ok (.aload_n 0, 1) := by decide +kernel
theorem dX8_save_48 : decode cX8_save 48 = .ok (.getfield 81, 3) := by decide +kernel
theorem dX8_save_51 : decode cX8_save 51 = .ok (.bipush 42, 2) := by decide +kernel
theorem dX8_save_53 : decode cX8_save 53 = .ok (.imul, 1) := by decide +kernel
theorem dX8_save_54 : decode cX8_save 54 = .ok (.istore_n 1, 1) := by decide +kernel
theorem dX8_save_55 : decode cX8_save 55 = .ok (.aload_n 0, 1) := by decide +kernel
theorem dX8_save_56 : decode cX8_save 56 = .ok (.getfield 29, 3) := by decide +kernel
theorem dX8_save_59 : decode cX8_save 59 = .ok (.iload_n 1, 1) := by decide +kernel
theorem dX8_save_60 : decode cX8_save 60 = .ok (.aload_n 0, 1) := by decide +kernel
theorem dX8_save_61 : decode cX8_save 61 = .ok (.getfield 7, 3) := by decide +kernel
theorem dX8_save_64 : decode cX8_save 64 = .ok (.iastore, 1) := by decide +kernel
theorem dX8_save_65 : decode cX8_save 65 = .ok (.aload_n 0, 1) := by decide +kernel
theorem dX8_save_66 : decode cX8_save 66 = .ok (.getfield 29, 3) := by decide +kernel
theorem dX8_save_69 : decode cX8_save 69 = .ok (.iload_n 1, 1) := by decide +kernel
theorem dX8_save_70 : decode cX8_save 70 = .ok (.iconst 1, 1) := by decide +kernel
theorem dX8_save_71 : decode cX8_save 71 = .ok (.iadd, 1) := by decide +kernel
theorem dX8_save_72 : decode cX8_save 72 = .ok (.aload_n 0, 1) := by decide +kernel
theorem dX8_save_73 : decode cX8_save 73 = .ok (.getfield 78, 3) := by decide +kernel
theorem dX8_save_76 : decode cX8_save 76 = .ok (.iastore, 1) := by decide +kernel
theorem dX8_save_77 : decode cX8_save 77 = .ok (.iconst 0, 1) := by decide +kernel
theorem dX8_save_78 : decode cX8_save 78 = .ok (.istore_n 2, 1) := by decide +kernel
theorem dX8_save_79 : decode cX8_save 79 = .ok (.iload_n 2, 1) := by decide +kernel
theorem dX8_save_80 : decode cX8_save 80 = .ok (.bipush 8, 2) := by decide +kernel
theorem dX8_save_82 : decode cX8_save 82 = .ok (.if_icmp .ge 93, 3) := by decide +kernel
theorem dX8_save_85 : decode cX8_save 85 = .ok (.aload_n 0, 1) := by decide +kernel
theorem dX8_save_86 : decode cX8_save 86 = .ok (.getfield 29, 3) := by decide +kernel
theorem dX8_save_89 : decode cX8_save 89 = .ok (.iload_n 1, 1) := by decide +kernel
theorem dX8_save_90 : decode cX8_save 90 = .ok (.iconst 2, 1) := by decide +kernel
theorem dX8_save_91 : decode cX8_save 91 = .ok (.iadd, 1) := by decide +kernel
theorem dX8_save_92 : decode cX8_save 92 = .ok (.iload_n 2, 1) := by decide +kernel
theorem dX8_save_93 : decode cX8_save 93 = .ok (.iadd, 1) := by decide +kernel
theorem dX8_save_94 : decode cX8_save 94 = .ok (.aload_n 0, 1) := by decide +kernel
theorem dX8_save_95 : decode cX8_save 95 = .ok (.getfield 13, 3) := by decide +kernel
theorem dX8_save_98 : decode cX8_save 98 = .ok (.iload_n 2, 1) := by decide +kernel
theorem dX8_save_99 : decode cX8_save 99 = .ok (.iaload, 1) := by decide +kernel
theorem dX8_save_100 : decode cX8_save 100 = .ok (.iastore, 1) := by decide +kernel
theorem dX8_save_101 : decode cX8_save 101 = .ok (.aload_n 0, 1) := by decide +kernel
theorem dX8_save_102 : decode cX8_save 102 = .ok (.getfield 29, 3) := by decide +kernel
theorem dX8_save_105 : decode cX8_save 105 = .ok (.iload_n 1, 1) := by decide +kernel
theorem dX8_save_106 : decode cX8_save 106 = .ok (.bipush 10, 2) := by decide +kernel
theorem dX8_save_108 : decode cX8_save 108 = .ok (.iadd, 1) := by decide +kernel
theorem dX8_save_109 : decode cX8_save 109 = .ok (.iload_n 2, 1) := by decide +kernel
theorem dX8_save_110 : decode cX8_save 110 = .ok (.iadd, 1) := by decide +kernel
theorem dX8_save_111 : decode cX8_save 111 = .ok (.aload_n 0, 1) := by decide +kernel
theorem dX8_save_112 : decode cX8_save 112 = .ok (.getfield 17, 3) := by decide +kernel
theorem dX8_save_115 : decode cX8_save 115 = .ok (.iload_n 2, 1) := by decide +kernel
theorem dX8_save_116 : decode cX8_save 116 = .ok (.iaload, 1) := by decide +kernel
theorem dX8_save_117 : decode cX8_save 117 = .ok (.iastore, 1) := by decide +kernel
theorem dX8_save_118 : decode cX8_save 118 = .ok (.aload_n 0, 1) := by decide +kernel
theorem dX8_save_119 : decode cX8_save 119 = .ok (.getfield 29, 3) := by decide +kernel
theorem dX8_save_122 : decode cX8_save 122 = .ok (.iload_n 1, 1) := by decide +kernel
theorem dX8_save_123 : decode cX8_save 123 = .ok (.bipush 18, 2) := by decide +kernel
theorem dX8_save_125 : decode cX8_save 125 = .ok (.iadd, 1) := by decide +kernel
theorem dX8_save_126 : decode cX8_save 126 = .ok (.iload_n 2, 1) := by decide +kernel
theorem dX8_save_127 : decode cX8_save 127 = .ok (.iadd, 1) := by decide +kernel
theorem dX8_save_128 : decode cX8_save 128 = .ok (.aload_n 0, 1) := by decide +kernel
theorem dX8_save_129 : decode cX8_save 129 = .ok (.getfield 20, 3) := by decide +kernel
theorem dX8_save_132 : decode cX8_save 132 = .ok (.iload_n 2, 1) := by decide +kernel
theorem dX8_save_133 : decode cX8_save 133 = .ok (.iaload, 1) := by decide +kernel
theorem dX8_save_134 : decode cX8_save 134 = .ok (.iastore, 1) := by decide +kernel
theorem dX8_save_135 : decode cX8_save 135 = .ok (.aload_n 0, 1) := by decide +kernel
theorem dX8_save_136 : decode cX8_save 136 = .ok (.getfield 29, 3) := by decide +kernel
theorem dX8_save_139 : decode cX8_save 139 = .ok (.iload_n 1, 1) := by decide +kernel
theorem dX8_save_140 : decode cX8_save 140 = .ok (.bipush 26, 2) := by decide +kernel
theorem dX8_save_142 : decode cX8_save 142 = .ok (.iadd, 1) := by decide +kernel
theorem dX8_save_143 : decode cX8_save 143 = .ok (.iload_n 2, 1) := by decide +kernel
theorem dX8_save_144 : decode cX8_save 144 = .ok (.iadd, 1) := by decide +kernel
theorem dX8_save_145 : decode cX8_save 145 = .ok (.aload_n 0, 1) := by decide +kernel
theorem dX8_save_146 : decode cX8_save 146 = .ok (.getfield 23, 3) := by decide +kernel
theorem dX8_save_149 : decode cX8_save 149 = .ok (.iload_n 2, 1) := by decide +kernel
theorem dX8_save_150 : decode cX8_save 150 = .ok (.iaload, 1) := by decide +kernel
theorem dX8_save_151 : decode cX8_save 151 = .ok (.iastore, 1) := by decide +kernel
theorem dX8_save_152 : decode cX8_save 152 = .ok (.aload_n 0, 1) := by decide +kernel
theorem dX8_save_153 : decode cX8_save 153 = .ok (.getfield 29, 3) := by decide +kernel
theorem dX8_save_156 : decode cX8_save 156 = .ok (.iload_n 1, 1) := by decide +kernel
theorem dX8_save_157 : decode cX8_save 157 = .ok (.bipush 34, 2) := by decide +kernel
theorem dX8_save_159 : decode cX8_save 159 = .ok (.iadd, 1) := by decide +kernel
theorem dX8_save_160 : decode cX8_save 160 = .ok (.iload_n 2, 1) := by decide +kernel
theorem dX8_save_161 : decode cX8_save 161 = .ok (.iadd, 1) := by decide +kernel
theorem dX8_save_162 : decode cX8_save 162 = .ok (.aload_n 0, 1) := by decide +kernel
theorem dX8_save_163 : decode cX8_save 163 = .ok (.getfield 26, 3) := by decide +kernel
theorem dX8_save_166 : decode cX8_save 166 = .ok (.iload_n 2, 1) := by decide +kernel
theorem dX8_save_167 : decode cX8_save 167 = .ok (.iaload, 1) := by decide +kernel
theorem dX8_save_168 : decode cX8_save 168 = .ok (.iastore, 1) := by decide +kernel
theorem dX8_save_169 : decode cX8_save 169 = .ok (.iinc 2 1, 3) := by decide +kernel
theorem dX8_save_172 : decode cX8_save 172 = .ok (.goto (-93), 3) := by decide +kernel
theorem dX8_save_175 : decode cX8_save 175 = .ok (.aload_n 0, 1) := by decide +kernel
theorem dX8_save_176 : decode cX8_save 176 = .ok (.dup, 1) := by decide +kernel
theorem dX8_save_177 : decode cX8_save 177 = .ok (.getfield 81, 3) := by decide +kernel
theorem dX8_save_180 : decode cX8_save 180 = .ok (.iconst 1, 1) := by decide +kernel
theorem dX8_save_181 : decode cX8_save 181 = .ok (.iadd, 1) := by decide +kernel
theorem dX8_save_182 : decode cX8_save 182 = .ok (.putfield 81, 3) := by decide +kernel
theorem dX8_save_185 : decode cX8_save 185 = .ok (.return_, 1) := by decide +kernel
theorem dX8_undo_0 : decode cX8_undo 0 = .ok (.aload_n 0, 1) := by decide +kernel
theorem dX8_undo_1 : decode cX8_undo 1 = .ok (.aload_n 0, 1) := by decide +kernel
theorem dX8_undo_2 : decode cX8_undo 2 = .ok (.getfield 81, 3) := by decide +kernel
theorem dX8_undo_5 : decode cX8_undo 5 = .ok (.ifCond .ne 7, 3) := by decide +kernel
theorem dX8_undo_8 : decode cX8_undo 8 = .ok (.iconst 1, 1) := by decide +kernel
theorem dX8_undo_9 : decode cX8_undo 9 = .ok (.goto 4, 3) := by decide +kernel
theorem dX8_undo_12 : decode cX8_undo 12 = .ok (.iconst 0, 1) := by decide +kernel
theorem dX8_undo_13 : decode cX8_undo 13 = .ok (.putfield 75, 3) := by decide +kernel
theorem dX8_undo_16 : decode cX8_undo 16 = .ok (.aload_n 0, 1) := by decide +kernel
theorem dX8_undo_17 : decode cX8_undo 17 = .ok (.getfield 75, 3) := by decide +kernel
theorem dX8_undo_20 : decode cX8_undo 20 = .ok (.ifCond .le 5, 3) := by decide +kernel
theorem dX8_undo_23 : decode cX8_undo 23 = .ok (.iconst 0, 1) := by decide +kernel
theorem dX8_undo_24 : decode cX8_undo 24 = .ok (.ireturn, 1) := by decide +kernel
theorem dX8_undo_25 : decode cX8_undo 25 = .ok (.aload_n 0, 1) := by decide +kernel
theorem dX8_undo_26 : decode cX8_undo 26 = .ok (.dup, 1) := by decide +kernel
theorem dX8_undo_27 : decode cX8_undo 27 = .ok (.getfield 81, 3) := by decide +kernel
theorem dX8_undo_30 : decode cX8_undo 30 = .ok (.iconst 1, 1) := by decide +kernel
theorem dX8_undo_31 : decode cX8_undo 31 = .ok (.isub, 1) := by decide +kernel
theorem dX8_undo_32 : decode cX8_undo 32 = .ok (.putfield 81, 3) := by decide +kernel
theorem dX8_undo_35 : decode cX8_undo 35 = .ok (.aload_n 0, 1) := by decide +kernel
theorem dX8_undo_36 : decode cX8_undo 36 = .ok (.getfield 81, 3) := by decide +kernel
theorem dX8_undo_39 : decode cX8_undo 39 = .ok (.bipush 42, 2) := by decide +kernel
theorem dX8_undo_41 : decode cX8_undo 41 = .ok (.imul, 1) := by decide +kernel
theorem dX8_undo_42 : decode cX8_undo 42 = .ok (.istore_n 1, 1) := by decide +kernel
theorem dX8_undo_43 : decode cX8_undo 43 = .ok (.aload_n 0, 1) := by decide +kernel
theorem dX8_undo_44 : decode cX8_undo 44 = .ok (.aload_n 0, 1) := by decide +kernel
theorem dX8_undo_45 : decode cX8_undo 45 = .ok (.getfield 29, 3) := by decide +kernel
theorem dX8_undo_48 : decode cX8_undo 48 = .ok (.iload_n 1, 1) := by decide +kernel
theorem dX8_undo_49 : decode cX8_undo 49 = .ok (.iaload, 1) := by decide +kernel
theorem dX8_undo_50 : decode cX8_undo 50 = .ok (.putfield 7, 3) := by decide +kernel
theorem dX8_undo_53 : decode cX8_undo 53 = .ok (.aload_n 0, 1) := by decide +kernel
theorem dX8_undo_54 : decode cX8_undo 54 = .ok (.aload_n 0, 1) := by decide +kernel
theorem dX8_undo_55 : decode cX8_undo 55 = .ok (.getfield 29, 3) := by decide +kernel
theorem dX8_undo_58 : decode cX8_undo 58 = .ok (.iload_n 1, 1) := by decide +kernel
theorem dX8_undo_59 : decode cX8_undo 59 = .ok (.iconst 1, 1) := by decide +kernel
theorem dX8_undo_60 : decode cX8_undo 60 = .ok (.iadd, 1) := by decide +kernel
theorem dX8_undo_61 : decode cX8_undo 61 = .ok (.iaload, 1) := by decide +kernel
theorem dX8_undo_62 : decode cX8_undo 62 = .ok (.putfield 78, 3) := by decide +kernel
theorem dX8_undo_65 : decode cX8_undo 65 = .ok (.iconst 0, 1) := by decide +kernel
theorem dX8_undo_66 : decode cX8_undo 66 = .ok (.istore_n 2, 1) := by decide +kernel
theorem dX8_undo_67 : decode cX8_undo 67 = .ok (.iload_n 2, 1) := by decide +kernel
theorem dX8_undo_68 : decode cX8_undo 68 = .ok (.bipush 8, 2) := by decide +kernel
theorem dX8_undo_70 : decode cX8_undo 70 = .ok (.if_icmp .ge 93, 3) := by decide +kernel
theorem dX8_undo_73 : decode cX8_undo 73 = .ok (.aload_n 0, 1) := by decide +kernel
theorem dX8_undo_74 : decode cX8_undo 74 = .ok (.getfield 13, 3) := by decide +kernel
theorem dX8_undo_77 : decode cX8_undo 77 = .ok (.iload_n 2, 1) := by decide +kernel
theorem dX8_undo_78 : decode cX8_undo 78 = .ok (.aload_n 0, 1) := by decide +kernel
theorem dX8_undo_79 : decode cX8_undo 79 = .ok (.getfield 29, 3) := by decide +kernel
theorem dX8_undo_82 : decode cX8_undo 82 = .ok (.iload_n 1, 1) := by decide +kernel
theorem dX8_undo_83 : decode cX8_undo 83 = .ok (.iconst 2, 1) := by decide +kernel
theorem dX8_undo_84 : decode cX8_undo 84 = .ok (.iadd, 1) := by decide +kernel
theorem dX8_undo_85 : decode cX8_undo 85 = .ok (.iload_n 2, 1) := by decide +kernel
theorem dX8_undo_86 : decode cX8_undo 86 = .ok (.iadd, 1) := by decide +kernel
theorem dX8_undo_87 : decode cX8_undo 87 = .ok (.iaload, 1) := by decide +kernel
theorem dX8_undo_88 : decode cX8_undo 88 = .ok (.iastore, 1) := by decide +kernel
theorem dX8_undo_89 : decode cX8_undo 89 = .ok (.aload_n 0, 1) := by decide +kernel
theorem dX8_undo_90 : decode cX8_undo 90 = .ok (.getfield 17, 3) := by decide +kernel
theorem dX8_undo_93 : decode cX8_undo 93 = .ok (.iload_n 2, 1) := by decide +kernel
theorem dX8_undo_94 : decode cX8_undo 94 = .ok (.aload_n 0, 1) := by decide +kernel
theorem dX8_undo_95 : decode cX8_undo 95 = .ok (.getfield 29, 3) := by decide +kernel
theorem dX8_undo_98 : decode cX8_undo 98 = .ok (.iload_n 1, 1) := by decide +kernel
theorem dX8_undo_99 : decode cX8_undo 99 = .ok (.bipush 10, 2) := by decide +kernel
theorem dX8_undo_101 : decode cX8_undo 101 = .ok (.iadd, 1) := by decide +kernel
theorem dX8_undo_102 : decode cX8_undo 102 = .ok (.iload_n 2, 1) := by decide +kernel
theorem dX8_undo_103 : decode cX8_undo 103 = .ok (.iadd, 1) := by decide +kernel
theorem dX8_undo_104 : decode cX8_undo 104 = .ok (.iaload, 1) := by decide +kernel
theorem dX8_undo_105 : decode cX8_undo 105 = .ok (.iastore, 1) := by decide +kernel
theorem dX8_undo_106 : decode cX8_undo 106 = .ok (.aload_n 0, 1) := by decide +kernel
theorem dX8_undo_107 : decode cX8_undo 107 = .ok (.getfield 20, 3) := by decide +kernel
theorem dX8_undo_110 : decode cX8_undo 110 = .ok (.iload_n 2, 1) := by decide +kernel
theorem dX8_undo_111 : decode cX8_undo 111 = .ok (.aload_n 0, 1) := by decide +kernel
theorem dX8_undo_112 : decode cX8_undo 112 = .ok (.getfield 29, 3) := by decide +kernel
theorem dX8_undo_115 : decode cX8_undo 115 = .ok (.iload_n 1, 1) := by decide +kernel
theorem dX8_undo_116 : decode cX8_undo 116 = .ok (.bipush 18, 2) := by decide +kernel
theorem dX8_undo_118 : decode cX8_undo 118 = .ok (.iadd, 1) := by decide +kernel
theorem dX8_undo_119 : decode cX8_undo 119 = .ok (.iload_n 2, 1) := by decide +kernel
theorem dX8_undo_120 : decode cX8_undo 120 = .ok (.iadd, 1) := by decide +kernel
theorem dX8_undo_121 : decode cX8_undo 121 = .ok (.iaload, 1) := by decide +kernel
theorem dX8_undo_122 : decode cX8_undo 122 = .ok (.iastore, 1) := by decide +kernel
theorem dX8_undo_123 : decode cX8_undo 123 = .ok (.aload_n 0, 1) := by decide +kernel
theorem dX8_undo_124 : decode cX8_undo 124 = .ok (.getfield 23, 3) := by decide +kernel
theorem dX8_undo_127 : decode cX8_undo 127 = .ok (.iload_n 2, 1) := by decide +kernel
theorem dX8_undo_128 : decode cX8_undo 128 = .ok (.aload_n 0, 1) := by decide +kernel
theorem dX8_undo_129 : decode cX8_undo 129 = .ok (.getfield 29, 3) := by decide +kernel
theorem dX8_undo_132 : decode cX8_undo 132 = .ok (.iload_n 1, 1) := by decide +kernel
theorem dX8_undo_133 : decode cX8_undo 133 = .ok (.bipush 26, 2) := by decide +kernel
theorem dX8_undo_135 : decode cX8_undo 135 = .ok (.iadd, 1) := by decide +kernel
theorem dX8_undo_136 : decode cX8_undo 136 = .ok (.iload_n 2, 1) := by decide +kernel
theorem dX8_undo_137 : decode cX8_undo 137 = .ok (.iadd, 1) := by decide +kernel
theorem dX8_undo_138 : decode cX8_undo 138 = .ok (.iaload, 1) := by decide +kernel
theorem dX8_undo_139 : decode cX8_undo 139 = .ok (.iastore, 1) := by decide +kernel
theorem dX8_undo_140 : decode cX8_undo 140 = .ok (.aload_n 0, 1) := by decide +kernel
theorem dX8_undo_141 : decode cX8_undo 141 = .ok (.getfield 26, 3) := by decide +kernel
theorem dX8_undo_144 : decode cX8_undo 144 = .ok (.iload_n 2, 1) := by decide +kernel
theorem dX8_undo_145 : decode cX8_undo 145 = .ok (.aload_n 0, 1) := by decide +kernel
theorem dX8_undo_146 : decode cX8_undo 146 = .ok (.getfield 29, 3) := by decide +kernel
theorem dX8_undo_149 : decode cX8_undo 149 = .ok (.iload_n 1, 1) := by decide +kernel
theorem dX8_undo_150 : decode cX8_undo 150 = .ok (.bipush 34, 2) := by decide +kernel
theorem dX8_undo_152 : decode cX8_undo 152 = .ok (.iadd, 1) := by decide +kernel
theorem dX8_undo_153 : decode cX8_undo 153 = .ok (.iload_n 2, 1) := by decide +kernel
theorem dX8_undo_154 : decode cX8_undo 154 = .ok (.iadd, 1) := by decide +kernel
theorem dX8_undo_155 : decode cX8_undo 155 = .ok (.iaload, 1) := by decide +kernel
theorem dX8_undo_156 : decode cX8_undo 156 = .ok (.iastore, 1) := by decide +kernel
theorem dX8_undo_157 : decode cX8_undo 157 = .ok (.iinc 2 1, 3) := by decide +kernel
theorem dX8_undo_160 : decode cX8_undo 160 = .ok (.goto (-93), 3) := by decide +kernel
theorem dX8_undo_163 : decode cX8_undo 163 = .ok (.aload_n 0, 1) := by decide +kernel
theorem dX8_undo_164 : decode cX8_undo 164 = .ok (.getfield 81, 3) := by decide +kernel
theorem dX8_undo_167 : decode cX8_undo 167 = .ok (.ireturn, 1) := by decide +kernel
set_option maxRecDepth 20000 in
theorem ggX8_begin_X8_in : GoodIn wsX8_begin wsX8_in := goodIn_r _ [12] (by decide +kernel) (by decide +kernel)
set_option maxRecDepth 20000 in
theorem gX8_begin_X8_in : GoodIn wsX8_begin (va_wsS RX8 84 yX8_in wsX8_in) := goodIn_app (goodIn_of _ (by decide +kernel)) ggX8_begin_X8_in
set_option maxRecDepth 20000 in
theorem ggX8_begin_X8_save : GoodIn wsX8_begin wsX8_save := goodIn_r _ [16, 17, 18, 3, 2, 4, 5, 6, 7, 8, 19, 20, 21, 22, 23, 24, 25, 26, 27, 28, 29, 30, 31, 32, 33, 34, 35, 36, 37, 38, 39, 40, 41, 42, 43, 44, 45, 46, 47, 48] (by decide +kernel) (by decide +kernel)
set_option maxRecDepth 20000 in
theorem gX8_begin_X8_save : GoodIn wsX8_begin (wsV RX8 88 RX8 yX8_save wsX8_save) := goodIn_app (goodIn_of _ (by decide +kernel)) ggX8_begin_X8_save
theorem dX8_begin_0 : decode cX8_begin 0 = .ok (.aload_n 0, 1) := by decide +kernel
theorem dX8_begin_1 : decode cX8_begin 1 = .ok (.iload_n 1, 1) := by decide +kernel
theorem dX8_begin_2 : decode cX8_begin 2 = .ok (.iconst 1, 1) := by decide +kernel
theorem dX8_begin_3 : decode cX8_begin 3 = .ok (.iconst 3, 1) := by decide +kernel
theorem dX8_begin_4 : decode cX8_begin 4 = .ok (.invokestatic 84, 3) := by decide +kernel
theorem dX8_begin_7 : decode cX8_begin 7 = .ok (.ifCond .eq 7, 3) := by decide +kernel
theorem dX8_begin_10 : decode cX8_begin 10 = .ok (.iconst 0, 1) := by decide +kernel
theorem dX8_begin_11 : decode cX8_begin 11 = .ok (.goto 4, 3) := by decide +kernel
theorem dX8_begin_14 : decode cX8_begin 14 = .ok (.iconst 1, 1) := by decide +kernel
theorem dX8_begin_15 : decode cX8_begin 15 = .ok (.putfield 75, 3) := by decide +kernel
theorem dX8_begin_18 : decode cX8_begin 18 = .ok (.aload_n 0, 1) := by decide +kernel
theorem dX8_begin_19 : decode cX8_begin 19 = .ok (.getfield 75, 3) := by decide +kernel
theorem dX8_begin_22 : decode cX8_begin 22 = .ok (.ifCond .le 5, 3) := by decide +kernel
theorem dX8_begin_25 : decode cX8_begin 25 = .ok (.iconst 0, 1) := by decide +kernel
theorem dX8_begin_26 : decode cX8_begin 26 = .ok (.ireturn, 1) := by decide +kernel
theorem dX8_begin_27 : decode cX8_begin 27 = .ok (.aload_n 0, 1) := by decide +kernel
theorem dX8_begin_28 : decode cX8_begin 28 = .ok (.invokevirtual 88, 3) := by decide +kernel
theorem dX8_begin_31 : decode cX8_begin 31 = .ok (.aload_n 0, 1) := by decide +kernel
theorem dX8_begin_32 : decode cX8_begin 32 = .ok (.getfield 78, 3) := by decide +kernel
theorem dX8_begin_35 : decode cX8_begin 35 = .ok (.istore_n 2, 1) := by decide +kernel
theorem dX8_begin_36 : decode cX8_begin 36 = .ok (.aload_n 0, 1) := by decide +kernel
theorem dX8_begin_37 : decode cX8_begin 37 = .ok (.iload_n 1, 1) := by decide +kernel
theorem dX8_begin_38 : decode cX8_begin 38 = .ok (.putfield 7, 3) := by decide +kernel
theorem dX8_begin_41 : decode cX8_begin 41 = .ok (.aload_n 0, 1) := by decide +kernel
theorem dX8_begin_42 : decode cX8_begin 42 = .ok (.iconst 0, 1) := by decide +kernel
theorem dX8_begin_43 : decode cX8_begin 43 = .ok (.putfield 78, 3) := by decide +kernel
theorem dX8_begin_46 : decode cX8_begin 46 = .ok (.iconst 0, 1) := by decide +kernel
theorem dX8_begin_47 : decode cX8_begin 47 = .ok (.istore_n 3, 1) := by decide +kernel
theorem dX8_begin_48 : decode cX8_begin 48 = .ok (.iload_n 3, 1) := by decide +kernel
theorem dX8_begin_49 : decode cX8_begin 49 = .ok (.bipush 8, 2) := by decide +kernel
theorem dX8_begin_51 : decode cX8_begin 51 = .ok (.if_icmp .ge 44, 3) := by decide +kernel
theorem dX8_begin_54 : decode cX8_begin 54 = .ok (.aload_n 0, 1) := by decide +kernel
theorem dX8_begin_55 : decode cX8_begin 55 = .ok (.getfield 13, 3) := by decide +kernel
theorem dX8_begin_58 : decode cX8_begin 58 = .ok (.iload_n 3, 1) := by decide +kernel
theorem dX8_begin_59 : decode cX8_begin 59 = .ok (.iconst 0, 1) := by decide +kernel
theorem dX8_begin_60 : decode cX8_begin 60 = .ok (.iastore, 1) := by decide +kernel
theorem dX8_begin_61 : decode cX8_begin 61 = .ok (.aload_n 0, 1) := by decide +kernel
theorem dX8_begin_62 : decode cX8_begin 62 = .ok (.getfield 17, 3) := by decide +kernel
theorem dX8_begin_65 : decode cX8_begin 65 = .ok (.iload_n 3, 1) := by decide +kernel
theorem dX8_begin_66 : decode cX8_begin 66 = .ok (.iconst 0, 1) := by decide +kernel
theorem dX8_begin_67 : decode cX8_begin 67 = .ok (.iastore, 1) := by decide +kernel
theorem dX8_begin_68 : decode cX8_begin 68 = .ok (.aload_n 0, 1) := by decide +kernel
theorem dX8_begin_69 : decode cX8_begin 69 = .ok (.getfield 20, 3) := by decide +kernel
theorem dX8_begin_72 : decode cX8_begin 72 = .ok (.iload_n 3, 1) := by decide +kernel
theorem dX8_begin_73 : decode cX8_begin 73 = .ok (.iconst 0, 1) := by decide +kernel
theorem dX8_begin_74 : decode cX8_begin 74 = .ok (.iastore, 1) := by decide +kernel
theorem dX8_begin_75 : decode cX8_begin 75 = .ok (.aload_n 0, 1) := by decide +kernel
theorem dX8_begin_76 : decode cX8_begin 76 = .ok (.getfield 23, 3) := by decide +kernel
theorem dX8_begin_79 : decode cX8_begin 79 = .ok (.iload_n 3, 1) := by decide +kernel
theorem dX8_begin_80 : decode cX8_begin 80 = .ok (.iconst 0, 1) := by decide +kernel
theorem dX8_begin_81 : decode cX8_begin 81 = .ok (.iastore, 1) := by decide +kernel
theorem dX8_begin_82 : decode cX8_begin 82 = .ok (.aload_n 0, 1) := by decide +kernel
theorem dX8_begin_83 : decode cX8_begin 83 = .ok (.getfield 26, 3) := by decide +kernel
theorem dX8_begin_86 : decode cX8_begin 86 = .ok (.iload_n 3, 1) := by decide +kernel
theorem dX8_begin_87 : decode cX8_begin 87 = .ok (.iconst 0, 1) := by decide +kernel
theorem dX8_begin_88 : decode cX8_begin 88 = .ok (.iastore, 1) := by decide +kernel
theorem dX8_begin_89 : decode cX8_begin 89 = .ok (.iinc 3 1, 3) := by decide +kernel
theorem dX8_begin_92 : decode cX8_begin 92 = .ok (.goto (-44), 3) := by decide +kernel
theorem dX8_begin_95 : decode cX8_begin 95 = .ok (.iload_n 2, 1) := by decide +kernel
theorem dX8_begin_96 : decode cX8_begin 96 = .ok (.ireturn, 1) := by decide +kernel
set_option maxRecDepth 20000 in
theorem ggX8_whyNoTask_X8_in : GoodIn wsX8_whyNoTask wsX8_in := goodIn_r _ [6] (by decide +kernel) (by decide +kernel)
set_option maxRecDepth 20000 in
theorem gX8_whyNoTask_X8_in : GoodIn wsX8_whyNoTask (va_wsS RX8 84 yX8_in wsX8_in) := goodIn_app (goodIn_of _ (by decide +kernel)) ggX8_whyNoTask_X8_in
theorem dX8_whyNoTask_0 : decode cX8_whyNoTask 0 = .ok (.iload_n 1, 1) := by decide +kernel
theorem dX8_whyNoTask_1 : decode cX8_whyNoTask 1 = .ok (.iconst 0, 1) := by decide +kernel
theorem dX8_whyNoTask_2 : decode cX8_whyNoTask 2 = .ok (.aload_n 0, 1) := by decide +kernel
theorem dX8_whyNoTask_3 : decode cX8_whyNoTask 3 = .ok (.getfield 7, 3) := by decide +kernel
theorem dX8_whyNoTask_6 : decode cX8_whyNoTask 6 = .ok (.iconst 1, 1) := by decide +kernel
theorem dX8_whyNoTask_7 : decode cX8_whyNoTask 7 = .ok (.isub, 1) := by decide +kernel
theorem dX8_whyNoTask_8 : decode cX8_whyNoTask 8 = .ok (.invokestatic 84, 3) := by decide +kernel
theorem dX8_whyNoTask_11 : decode cX8_whyNoTask 11 = .ok (.ifCond .ne 5, 3) := by decide +kernel
theorem dX8_whyNoTask_14 : decode cX8_whyNoTask 14 = .ok (.iconst 1, 1) := by decide +kernel
theorem dX8_whyNoTask_15 : decode cX8_whyNoTask 15 = .ok (.ireturn, 1) := by decide +kernel
theorem dX8_whyNoTask_16 : decode cX8_whyNoTask 16 = .ok (.iload_n 2, 1) := by decide +kernel
theorem dX8_whyNoTask_17 : decode cX8_whyNoTask 17 = .ok (.iconst 0, 1) := by decide +kernel
theorem dX8_whyNoTask_18 : decode cX8_whyNoTask 18 = .ok (.sipush 200, 3) := by decide +kernel
theorem dX8_whyNoTask_21 : decode cX8_whyNoTask 21 = .ok (.invokestatic 84, 3) := by decide +kernel
theorem dX8_whyNoTask_24 : decode cX8_whyNoTask 24 = .ok (.ifCond .eq 25, 3) := by decide +kernel
theorem dX8_whyNoTask_27 : decode cX8_whyNoTask 27 = .ok (.iload_n 3, 1) := by decide +kernel
theorem dX8_whyNoTask_28 : decode cX8_whyNoTask 28 = .ok (.iconst 1, 1) := by decide +kernel
theorem dX8_whyNoTask_29 : decode cX8_whyNoTask 29 = .ok (.sipush 400, 3) := by decide +kernel
theorem dX8_whyNoTask_32 : decode cX8_whyNoTask 32 = .ok (.invokestatic 84, 3) := by decide +kernel
theorem dX8_whyNoTask_35 : decode cX8_whyNoTask 35 = .ok (.ifCond .eq 14, 3) := by decide +kernel
theorem dX8_whyNoTask_38 : decode cX8_whyNoTask 38 = .ok (.iload 4, 2) := by decide +kernel
theorem dX8_whyNoTask_40 : decode cX8_whyNoTask 40 = .ok (.iconst 1, 1) := by decide +kernel
theorem dX8_whyNoTask_41 : decode cX8_whyNoTask 41 = .ok (.bipush 50, 2) := by decide +kernel
theorem dX8_whyNoTask_43 : decode cX8_whyNoTask 43 = .ok (.invokestatic 84, 3) := by decide +kernel
theorem dX8_whyNoTask_46 : decode cX8_whyNoTask 46 = .ok (.ifCond .ne 5, 3) := by decide +kernel
theorem dX8_whyNoTask_49 : decode cX8_whyNoTask 49 = .ok (.iconst 2, 1) := by decide +kernel
theorem dX8_whyNoTask_50 : decode cX8_whyNoTask 50 = .ok (.ireturn, 1) := by decide +kernel
theorem dX8_whyNoTask_51 : decode cX8_whyNoTask 51 = .ok (.aload_n 0, 1) := by decide +kernel
theorem dX8_whyNoTask_52 : decode cX8_whyNoTask 52 = .ok (.getfield 78, 3) := by decide +kernel
theorem dX8_whyNoTask_55 : decode cX8_whyNoTask 55 = .ok (.bipush 8, 2) := by decide +kernel
theorem dX8_whyNoTask_57 : decode cX8_whyNoTask 57 = .ok (.if_icmp .ne 7, 3) := by decide +kernel
theorem dX8_whyNoTask_60 : decode cX8_whyNoTask 60 = .ok (.iconst 3, 1) := by decide +kernel
theorem dX8_whyNoTask_61 : decode cX8_whyNoTask 61 = .ok (.goto 4, 3) := by decide +kernel
theorem dX8_whyNoTask_64 : decode cX8_whyNoTask 64 = .ok (.iconst 0, 1) := by decide +kernel
theorem dX8_whyNoTask_65 : decode cX8_whyNoTask 65 = .ok (.ireturn, 1) := by decide +kernel
theorem dX8_putTask_0 : decode cX8_putTask 0 = .ok (.aload_n 0, 1) := by decide +kernel
theorem dX8_putTask_1 : decode cX8_putTask 1 = .ok (.getfield 78, 3) := by decide +kernel
theorem dX8_putTask_4 : decode cX8_putTask 4 = .ok (.istore 5, 2) := by decide +kernel
theorem dX8_putTask_6 : decode cX8_putTask 6 = .ok (.aload_n 0, 1) := by decide +kernel
theorem dX8_putTask_7 : decode cX8_putTask 7 = .ok (.dup, 1) := by decide +kernel
theorem dX8_putTask_8 : decode cX8_putTask 8 = .ok (.getfield 78, 3) := by decide +kernel
theorem dX8_putTask_11 : decode cX8_putTask 11 = .ok (.iconst 1, 1) := by decide +kernel
theorem dX8_putTask_12 : decode cX8_putTask 12 = .ok (.iadd, 1) := by decide +kernel
theorem dX8_putTask_13 : decode cX8_putTask 13 = .ok (.putfield 78, 3) := by decide +kernel
theorem dX8_putTask_16 : decode cX8_putTask 16 = .ok (.aload_n 0, 1) := by decide +kernel
theorem dX8_putTask_17 : decode cX8_putTask 17 = .ok (.getfield 13, 3) := by decide +kernel
theorem dX8_putTask_20 : decode cX8_putTask 20 = .ok (.iload 5, 2) := by decide +kernel
theorem dX8_putTask_22 : decode cX8_putTask 22 = .ok (.iload_n 1, 1) := by decide +kernel
theorem dX8_putTask_23 : decode cX8_putTask 23 = .ok (.iastore, 1) := by decide +kernel
theorem dX8_putTask_24 : decode cX8_putTask 24 = .ok (.aload_n 0, 1) := by decide +kernel
theorem dX8_putTask_25 : decode cX8_putTask 25 = .ok (.getfield 17, 3) := by decide +kernel
theorem dX8_putTask_28 : decode cX8_putTask 28 = .ok (.iload 5, 2) := by decide +kernel
theorem dX8_putTask_30 : decode cX8_putTask 30 = .ok (.iload_n 2, 1) := by decide +kernel
theorem dX8_putTask_31 : decode cX8_putTask 31 = .ok (.iastore, 1) := by decide +kernel
theorem dX8_putTask_32 : decode cX8_putTask 32 = .ok (.aload_n 0, 1) := by decide +kernel
theorem dX8_putTask_33 : decode cX8_putTask 33 = .ok (.getfield 20, 3) := by decide +kernel
theorem dX8_putTask_36 : decode cX8_putTask 36 = .ok (.iload 5, 2) := by decide +kernel
theorem dX8_putTask_38 : decode cX8_putTask 38 = .ok (.iload_n 3, 1) := by decide +kernel
theorem dX8_putTask_39 : decode cX8_putTask 39 = .ok (.iastore, 1) := by decide +kernel
theorem dX8_putTask_40 : decode cX8_putTask 40 = .ok (.aload_n 0, 1) := by decide +kernel
theorem dX8_putTask_41 : decode cX8_putTask 41 = .ok (.getfield 23, 3) := by decide +kernel
theorem dX8_putTask_44 : decode cX8_putTask 44 = .ok (.iload 5, 2) := by decide +kernel
theorem dX8_putTask_46 : decode cX8_putTask 46 = .ok (.iload 4, 2) := by decide +kernel
theorem dX8_putTask_48 : decode cX8_putTask 48 = .ok (.iastore, 1) := by decide +kernel
theorem dX8_putTask_49 : decode cX8_putTask 49 = .ok (.aload_n 0, 1) := by decide +kernel
theorem dX8_putTask_50 : decode cX8_putTask 50 = .ok (.getfield 26, 3) := by decide +kernel
theorem dX8_putTask_53 : decode cX8_putTask 53 = .ok (.iload 5, 2) := by decide +kernel
theorem dX8_putTask_55 : decode cX8_putTask 55 = .ok (.iconst 0, 1) := by decide +kernel
theorem dX8_putTask_56 : decode cX8_putTask 56 = .ok (.iastore, 1) := by decide +kernel
theorem dX8_putTask_57 : decode cX8_putTask 57 = .ok (.iload 5, 2) := by decide +kernel
theorem dX8_putTask_59 : decode cX8_putTask 59 = .ok (.ireturn, 1) := by decide +kernel
set_option maxRecDepth 20000 in
theorem ggX8_addTask_X8_whyNoTask : GoodIn wsX8_addTask wsX8_whyNoTask := goodIn_r _ [6, 7, 8, 9, 10, 5, 11, 27, 28, 29, 30, 31, 32, 33, 34, 35, 36, 37, 38, 39, 40, 41, 42, 43, 44, 45, 46, 47, 48, 49, 50, 51, 52, 53, 54, 55, 56] (by decide +kernel) (by decide +kernel)
set_option maxRecDepth 20000 in
theorem gX8_addTask_X8_whyNoTask : GoodIn wsX8_addTask (wsV RX8 91 RX8 yX8_whyNoTask wsX8_whyNoTask) := goodIn_app (goodIn_of _ (by decide +kernel)) ggX8_addTask_X8_whyNoTask
set_option maxRecDepth 20000 in
theorem ggX8_addTask_X8_save : GoodIn wsX8_addTask wsX8_save := goodIn_r _ [15, 16, 17, 7, 8, 18, 19, 20, 21, 22, 27, 28, 29, 30, 31, 32, 33, 34, 35, 36, 37, 38, 39, 40, 41, 42, 43, 44, 45, 46, 47, 48, 49, 50, 51, 52, 53, 54, 55, 56] (by decide +kernel) (by decide +kernel)
set_option maxRecDepth 20000 in
theorem gX8_addTask_X8_save : GoodIn wsX8_addTask (wsV RX8 88 RX8 yX8_save wsX8_save) := goodIn_app (goodIn_of _ (by decide +kernel)) ggX8_addTask_X8_save
set_option maxRecDepth 20000 in
theorem ggX8_addTask_X8_putTask : GoodIn wsX8_addTask wsX8_putTask := goodIn_r _ [26, 8, 18, 19, 20, 21, 22, 27, 28, 29, 30, 31, 32, 33, 34, 35, 36, 37, 38, 39, 40, 41, 42, 43, 44, 45, 46, 47, 48, 49, 50, 51, 52, 53, 54, 55, 56] (by decide +kernel) (by decide +kernel)
set_option maxRecDepth 20000 in
theorem gX8_addTask_X8_putTask : GoodIn wsX8_addTask (wsV RX8 95 RX8 yX8_putTask wsX8_putTask) := goodIn_app (goodIn_of _ (by decide +kernel)) ggX8_addTask_X8_putTask
theorem dX8_addTask_0 : decode cX8_addTask 0 = .ok (.aload_n 0, 1) := by decide +kernel
theorem dX8_addTask_1 : decode cX8_addTask 1 = .ok (.aload_n 0, 1) := by decide +kernel
theorem dX8_addTask_2 : decode cX8_addTask 2 = .ok (.iload_n 1, 1) := by decide +kernel
theorem dX8_addTask_3 : decode cX8_addTask 3 = .ok (.iload_n 2, 1) := by decide +kernel
theorem dX8_addTask_4 : decode cX8_addTask 4 = .ok (.iload_n 3, 1) := by decide +kernel
theorem dX8_addTask_5 : decode cX8_addTask 5 = .ok (.iload 4, 2) := by decide +kernel
theorem dX8_addTask_7 : decode cX8_addTask 7 = .ok (.invokevirtual 91, 3) := by decide +kernel
theorem dX8_addTask_10 : decode cX8_addTask 10 = .ok (.putfield 75, 3) := by decide +kernel
theorem dX8_addTask_13 : decode cX8_addTask 13 = .ok (.aload_n 0, 1) := by decide +kernel
theorem dX8_addTask_14 : decode cX8_addTask 14 = .ok (.getfield 75, 3) := by decide +kernel
theorem dX8_addTask_17 : decode cX8_addTask 17 = .ok (.ifCond .le 5, 3) := by decide +kernel
theorem dX8_addTask_20 : decode cX8_addTask 20 = .ok (.iconst 0, 1) := by decide +kernel
theorem dX8_addTask_21 : decode cX8_addTask 21 = .ok (.ireturn, 1) := by decide +kernel
theorem dX8_addTask_22 : decode cX8_addTask 22 = .ok (.aload_n 0, 1) := by decide +kernel
theorem dX8_addTask_23 : decode cX8_addTask 23 = .ok (.invokevirtual 88, 3) := by decide +kernel
theorem dX8_addTask_26 : decode cX8_addTask 26 = .ok (.aload_n 0, 1) := by decide +kernel
theorem dX8_addTask_27 : decode cX8_addTask 27 = .ok (.iload_n 1, 1) := by decide +kernel
theorem dX8_addTask_28 : decode cX8_addTask 28 = .ok (.iload_n 2, 1) := by decide +kernel
theorem dX8_addTask_29 : decode cX8_addTask 29 = .ok (.iload_n 3, 1) := by decide +kernel
theorem dX8_addTask_30 : decode cX8_addTask 30 = .ok (.iload 4, 2) := by decide +kernel
theorem dX8_addTask_32 : decode cX8_addTask 32 = .ok (.invokevirtual 95, 3) := by decide +kernel
theorem dX8_addTask_35 : decode cX8_addTask 35 = .ok (.ireturn, 1) := by decide +kernel
set_option maxRecDepth 20000 in
theorem ggX8_setDates_X8_isTask : GoodIn wsX8_setDates wsX8_isTask := goodIn_r _ [8, 9, 23, 24, 25, 26, 27, 28, 29, 30, 31, 32, 33, 34, 35, 36, 37, 38, 39, 40, 41, 42, 43, 44, 45, 46, 47, 48, 49, 50, 51, 52] (by decide +kernel) (by decide +kernel)
set_option maxRecDepth 20000 in
theorem gX8_setDates_X8_isTask : GoodIn wsX8_setDates (wsV RX8 98 RX8 yX8_isTask wsX8_isTask) := goodIn_app (goodIn_of _ (by decide +kernel)) ggX8_setDates_X8_isTask
set_option maxRecDepth 20000 in
theorem ggX8_setDates_X8_in : GoodIn wsX8_setDates wsX8_in := goodIn_r _ [12] (by decide +kernel) (by decide +kernel)
set_option maxRecDepth 20000 in
theorem gX8_setDates_X8_in : GoodIn wsX8_setDates (va_wsS RX8 84 yX8_in wsX8_in) := goodIn_app (goodIn_of _ (by decide +kernel)) ggX8_setDates_X8_in
set_option maxRecDepth 20000 in
theorem ggX8_setDates_X8_save : GoodIn wsX8_setDates wsX8_save := goodIn_r _ [16, 17, 18, 19, 9, 20, 3, 2, 21, 22, 23, 24, 25, 26, 27, 28, 29, 30, 31, 32, 33, 34, 35, 36, 37, 38, 39, 40, 41, 42, 43, 44, 45, 46, 47, 48, 49, 50, 51, 52] (by decide +kernel) (by decide +kernel)
set_option maxRecDepth 20000 in
theorem gX8_setDates_X8_save : GoodIn wsX8_setDates (wsV RX8 88 RX8 yX8_save wsX8_save) := goodIn_app (goodIn_of _ (by decide +kernel)) ggX8_setDates_X8_save
theorem dX8_setDates_0 : decode cX8_setDates 0 = .ok (.aload_n 0, 1) := by decide +kernel
theorem dX8_setDates_1 : decode cX8_setDates 1 = .ok (.aload_n 0, 1) := by decide +kernel
theorem dX8_setDates_2 : decode cX8_setDates 2 = .ok (.iload_n 1, 1) := by decide +kernel
theorem dX8_setDates_3 : decode cX8_setDates 3 = .ok (.invokevirtual 98, 3) := by decide +kernel
theorem dX8_setDates_6 : decode cX8_setDates 6 = .ok (.ifCond .ne 7, 3) := by decide +kernel
theorem dX8_setDates_9 : decode cX8_setDates 9 = .ok (.iconst 1, 1) := by decide +kernel
theorem dX8_setDates_10 : decode cX8_setDates 10 = .ok (.goto 30, 3) := by decide +kernel
theorem dX8_setDates_13 : decode cX8_setDates 13 = .ok (.iload_n 2, 1) := by decide +kernel
theorem dX8_setDates_14 : decode cX8_setDates 14 = .ok (.iconst 0, 1) := by decide +kernel
theorem dX8_setDates_15 : decode cX8_setDates 15 = .ok (.sipush 200, 3) := by decide +kernel
theorem dX8_setDates_18 : decode cX8_setDates 18 = .ok (.invokestatic 84, 3) := by decide +kernel
theorem dX8_setDates_21 : decode cX8_setDates 21 = .ok (.ifCond .eq 18, 3) := by decide +kernel
theorem dX8_setDates_24 : decode cX8_setDates 24 = .ok (.iload_n 3, 1) := by decide +kernel
theorem dX8_setDates_25 : decode cX8_setDates 25 = .ok (.iconst 1, 1) := by decide +kernel
theorem dX8_setDates_26 : decode cX8_setDates 26 = .ok (.sipush 400, 3) := by decide +kernel
theorem dX8_setDates_29 : decode cX8_setDates 29 = .ok (.invokestatic 84, 3) := by decide +kernel
theorem dX8_setDates_32 : decode cX8_setDates 32 = .ok (.ifCond .eq 7, 3) := by decide +kernel
theorem dX8_setDates_35 : decode cX8_setDates 35 = .ok (.iconst 0, 1) := by decide +kernel
theorem dX8_setDates_36 : decode cX8_setDates 36 = .ok (.goto 4, 3) := by decide +kernel
theorem dX8_setDates_39 : decode cX8_setDates 39 = .ok (.iconst 2, 1) := by decide +kernel
theorem dX8_setDates_40 : decode cX8_setDates 40 = .ok (.putfield 75, 3) := by decide +kernel
theorem dX8_setDates_43 : decode cX8_setDates 43 = .ok (.aload_n 0, 1) := by decide +kernel
theorem dX8_setDates_44 : decode cX8_setDates 44 = .ok (.getfield 75, 3) := by decide +kernel
theorem dX8_setDates_47 : decode cX8_setDates 47 = .ok (.ifCond .le 5, 3) := by decide +kernel
theorem dX8_setDates_50 : decode cX8_setDates 50 = .ok (.iconst 0, 1) := by decide +kernel
theorem dX8_setDates_51 : decode cX8_setDates 51 = .ok (.ireturn, 1) := by decide +kernel
theorem dX8_setDates_52 : decode cX8_setDates 52 = .ok (.aload_n 0, 1) := by decide +kernel
theorem dX8_setDates_53 : decode cX8_setDates 53 = .ok (.invokevirtual 88, 3) := by decide +kernel
theorem dX8_setDates_56 : decode cX8_setDates 56 = .ok (.aload_n 0, 1) := by decide +kernel
theorem dX8_setDates_57 : decode cX8_setDates 57 = .ok (.getfield 20, 3) := by decide +kernel
theorem dX8_setDates_60 : decode cX8_setDates 60 = .ok (.iload_n 1, 1) := by decide +kernel
theorem dX8_setDates_61 : decode cX8_setDates 61 = .ok (.iaload, 1) := by decide +kernel
theorem dX8_setDates_62 : decode cX8_setDates 62 = .ok (.aload_n 0, 1) := by decide +kernel
theorem dX8_setDates_63 : decode cX8_setDates 63 = .ok (.getfield 17, 3) := by decide +kernel
theorem dX8_setDates_66 : decode cX8_setDates 66 = .ok (.iload_n 1, 1) := by decide +kernel
theorem dX8_setDates_67 : decode cX8_setDates 67 = .ok (.iaload, 1) := by decide +kernel
theorem dX8_setDates_68 : decode cX8_setDates 68 = .ok (.isub, 1) := by decide +kernel
theorem dX8_setDates_69 : decode cX8_setDates 69 = .ok (.istore 4, 2) := by decide +kernel
theorem dX8_setDates_71 : decode cX8_setDates 71 = .ok (.aload_n 0, 1) := by decide +kernel
theorem dX8_setDates_72 : decode cX8_setDates 72 = .ok (.getfield 17, 3) := by decide +kernel
theorem dX8_setDates_75 : decode cX8_setDates 75 = .ok (.iload_n 1, 1) := by decide +kernel
theorem dX8_setDates_76 : decode cX8_setDates 76 = .ok (.iload_n 2, 1) := by decide +kernel
theorem dX8_setDates_77 : decode cX8_setDates 77 = .ok (.iastore, 1) := by decide +kernel
theorem dX8_setDates_78 : decode cX8_setDates 78 = .ok (.aload_n 0, 1) := by decide +kernel
theorem dX8_setDates_79 : decode cX8_setDates 79 = .ok (.getfield 20, 3) := by decide +kernel
theorem dX8_setDates_82 : decode cX8_setDates 82 = .ok (.iload_n 1, 1) := by decide +kernel
theorem dX8_setDates_83 : decode cX8_setDates 83 = .ok (.iload_n 3, 1) := by decide +kernel
theorem dX8_setDates_84 : decode cX8_setDates 84 = .ok (.iastore, 1) := by decide +kernel
theorem dX8_setDates_85 : decode cX8_setDates 85 = .ok (.iload 4, 2) := by decide +kernel
theorem dX8_setDates_87 : decode cX8_setDates 87 = .ok (.ireturn, 1) := by decide +kernel
set_option maxRecDepth 20000 in
theorem ggX8_leads_X8_has : GoodIn wsX8_leads wsX8_has := goodIn_r _ [6] (by decide +kernel) (by decide +kernel)
set_option maxRecDepth 20000 in
theorem gX8_leads_X8_has : GoodIn wsX8_leads (va_wsS RX8 102 yX8_has wsX8_has) := goodIn_app (goodIn_of _ (by decide +kernel)) ggX8_leads_X8_has
theorem dX8_leads_0 : decode cX8_leads 0 = .ok (.aload_n 0, 1) := by decide +kernel
theorem dX8_leads_1 : decode cX8_leads 1 = .ok (.getfield 26, 3) := by decide +kernel
theorem dX8_leads_4 : decode cX8_leads 4 = .ok (.iload_n 1, 1) := by decide +kernel
theorem dX8_leads_5 : decode cX8_leads 5 = .ok (.iaload, 1) := by decide +kernel
theorem dX8_leads_6 : decode cX8_leads 6 = .ok (.istore_n 3, 1) := by decide +kernel
theorem dX8_leads_7 : decode cX8_leads 7 = .ok (.iconst 0, 1) := by decide +kernel
theorem dX8_leads_8 : decode cX8_leads 8 = .ok (.istore 4, 2) := by decide +kernel
theorem dX8_leads_10 : decode cX8_leads 10 = .ok (.iload 4, 2) := by decide +kernel
theorem dX8_leads_12 : decode cX8_leads 12 = .ok (.aload_n 0, 1) := by decide +kernel
theorem dX8_leads_13 : decode cX8_leads 13 = .ok (.getfield 78, 3) := by decide +kernel
theorem dX8_leads_16 : decode cX8_leads 16 = .ok (.if_icmp .ge 50, 3) := by decide +kernel
theorem dX8_leads_19 : decode cX8_leads 19 = .ok (.iconst 0, 1) := by decide +kernel
theorem dX8_leads_20 : decode cX8_leads 20 = .ok (.istore 5, 2) := by decide +kernel
theorem dX8_leads_22 : decode cX8_leads 22 = .ok (.iload 5, 2) := by decide +kernel
theorem dX8_leads_24 : decode cX8_leads 24 = .ok (.aload_n 0, 1) := by decide +kernel
theorem dX8_leads_25 : decode cX8_leads 25 = .ok (.getfield 78, 3) := by decide +kernel
theorem dX8_leads_28 : decode cX8_leads 28 = .ok (.if_icmp .ge 32, 3) := by decide +kernel
theorem dX8_leads_31 : decode cX8_leads 31 = .ok (.iload_n 3, 1) := by decide +kernel
theorem dX8_leads_32 : decode cX8_leads 32 = .ok (.iload_n 3, 1) := by decide +kernel
theorem dX8_leads_33 : decode cX8_leads 33 = .ok (.iload 5, 2) := by decide +kernel
theorem dX8_leads_35 : decode cX8_leads 35 = .ok (.invokestatic 102, 3) := by decide +kernel
theorem dX8_leads_38 : decode cX8_leads 38 = .ok (.ifCond .eq 13, 3) := by decide +kernel
theorem dX8_leads_41 : decode cX8_leads 41 = .ok (.aload_n 0, 1) := by decide +kernel
theorem dX8_leads_42 : decode cX8_leads 42 = .ok (.getfield 26, 3) := by decide +kernel
theorem dX8_leads_45 : decode cX8_leads 45 = .ok (.iload 5, 2) := by decide +kernel
theorem dX8_leads_47 : decode cX8_leads 47 = .ok (.iaload, 1) := by decide +kernel
theorem dX8_leads_48 : decode cX8_leads 48 = .ok (.goto 4, 3) := by decide +kernel
theorem dX8_leads_51 : decode cX8_leads 51 = .ok (.iconst 0, 1) := by decide +kernel
theorem dX8_leads_52 : decode cX8_leads 52 = .ok (.ior, 1) := by decide +kernel
theorem dX8_leads_53 : decode cX8_leads 53 = .ok (.istore_n 3, 1) := by decide +kernel
theorem dX8_leads_54 : decode cX8_leads 54 = .ok (.iinc 5 1, 3) := by decide +kernel
theorem dX8_leads_57 : decode cX8_leads 57 = .ok (.goto (-35), 3) := by decide +kernel
theorem dX8_leads_60 : decode cX8_leads 60 = .ok (.iinc 4 1, 3) := by decide +kernel
theorem dX8_leads_63 : decode cX8_leads 63 = .ok (.goto (-53), 3) := by decide +kernel
theorem dX8_leads_66 : decode cX8_leads 66 = .ok (.iload_n 3, 1) := by decide +kernel
theorem dX8_leads_67 : decode cX8_leads 67 = .ok (.iload_n 2, 1) := by decide +kernel
theorem dX8_leads_68 : decode cX8_leads 68 = .ok (.invokestatic 102, 3) := by decide +kernel
theorem dX8_leads_71 : decode cX8_leads 71 = .ok (.ireturn, 1) := by decide +kernel
set_option maxRecDepth 20000 in
theorem ggX8_whyNotGive_X8_isTask : GoodIn wsX8_whyNotGive wsX8_isTask := goodIn_r _ [6, 7, 15, 16, 17, 18, 19, 20, 21, 22, 23, 24, 25, 26, 27, 28, 29, 30, 31, 32, 33, 34, 35, 36, 37, 38, 39, 40, 41, 42, 43, 44] (by decide +kernel) (by decide +kernel)
set_option maxRecDepth 20000 in
theorem gX8_whyNotGive_X8_isTask : GoodIn wsX8_whyNotGive (wsV RX8 98 RX8 yX8_isTask wsX8_isTask) := goodIn_app (goodIn_of _ (by decide +kernel)) ggX8_whyNotGive_X8_isTask
set_option maxRecDepth 20000 in
theorem ggX8_whyNotGive_X8_has : GoodIn wsX8_whyNotGive wsX8_has := goodIn_r _ [10] (by decide +kernel) (by decide +kernel)
set_option maxRecDepth 20000 in
theorem gX8_whyNotGive_X8_has : GoodIn wsX8_whyNotGive (va_wsS RX8 102 yX8_has wsX8_has) := goodIn_app (goodIn_of _ (by decide +kernel)) ggX8_whyNotGive_X8_has
set_option maxRecDepth 20000 in
theorem ggX8_whyNotGive_X8_leads : GoodIn wsX8_whyNotGive wsX8_leads := goodIn_r _ [14, 1, 7, 8, 9, 5, 10, 15, 16, 17, 18, 19, 20, 21, 22, 23, 24, 25, 26, 27, 28, 29, 30, 31, 32, 33, 34, 35, 36, 37, 38, 39, 40, 41, 42, 43, 44] (by decide +kernel) (by decide +kernel)
set_option maxRecDepth 20000 in
theorem gX8_whyNotGive_X8_leads : GoodIn wsX8_whyNotGive (wsV RX8 106 RX8 yX8_leads wsX8_leads) := goodIn_app (goodIn_of _ (by decide +kernel)) ggX8_whyNotGive_X8_leads
theorem dX8_whyNotGive_0 : decode cX8_whyNotGive 0 = .ok (.aload_n 0, 1) := by decide +kernel
theorem dX8_whyNotGive_1 : decode cX8_whyNotGive 1 = .ok (.iload_n 1, 1) := by decide +kernel
theorem dX8_whyNotGive_2 : decode cX8_whyNotGive 2 = .ok (.invokevirtual 98, 3) := by decide +kernel
theorem dX8_whyNotGive_5 : decode cX8_whyNotGive 5 = .ok (.ifCond .eq 11, 3) := by decide +kernel
theorem dX8_whyNotGive_8 : decode cX8_whyNotGive 8 = .ok (.aload_n 0, 1) := by decide +kernel
theorem dX8_whyNotGive_9 : decode cX8_whyNotGive 9 = .ok (.iload_n 2, 1) := by decide +kernel
theorem dX8_whyNotGive_10 : decode cX8_whyNotGive 10 = .ok (.invokevirtual 98, 3) := by decide +kernel
theorem dX8_whyNotGive_13 : decode cX8_whyNotGive 13 = .ok (.ifCond .ne 5, 3) := by decide +kernel
theorem dX8_whyNotGive_16 : decode cX8_whyNotGive 16 = .ok (.iconst 1, 1) := by decide +kernel
theorem dX8_whyNotGive_17 : decode cX8_whyNotGive 17 = .ok (.ireturn, 1) := by decide +kernel
theorem dX8_whyNotGive_18 : decode cX8_whyNotGive 18 = .ok (.iload_n 1, 1) := by decide +kernel
theorem dX8_whyNotGive_19 : decode cX8_whyNotGive 19 = .ok (.iload_n 2, 1) := by decide +kernel
theorem dX8_whyNotGive_20 : decode cX8_whyNotGive 20 = .ok (.if_icmp .ne 5, 3) := by decide +kernel
theorem dX8_whyNotGive_23 : decode cX8_whyNotGive 23 = .ok (.iconst 2, 1) := by decide +kernel
theorem dX8_whyNotGive_24 : decode cX8_whyNotGive 24 = .ok (.ireturn, 1) := by decide +kernel
theorem dX8_whyNotGive_25 : decode cX8_whyNotGive 25 = .ok (.aload_n 0, 1) := by decide +kernel
theorem dX8_whyNotGive_26 : decode cX8_whyNotGive 26 = .ok (.getfield 26, 3) := by decide +kernel
theorem dX8_whyNotGive_29 : decode cX8_whyNotGive 29 = .ok (.iload_n 1, 1) := by decide +kernel
theorem dX8_whyNotGive_30 : decode cX8_whyNotGive 30 = .ok (.iaload, 1) := by decide +kernel
theorem dX8_whyNotGive_31 : decode cX8_whyNotGive 31 = .ok (.iload_n 2, 1) := by decide +kernel
theorem dX8_whyNotGive_32 : decode cX8_whyNotGive 32 = .ok (.invokestatic 102, 3) := by decide +kernel
theorem dX8_whyNotGive_35 : decode cX8_whyNotGive 35 = .ok (.iload_n 3, 1) := by decide +kernel
theorem dX8_whyNotGive_36 : decode cX8_whyNotGive 36 = .ok (.if_icmp .eq 16, 3) := by decide +kernel
theorem dX8_whyNotGive_39 : decode cX8_whyNotGive 39 = .ok (.iload_n 3, 1) := by decide +kernel
theorem dX8_whyNotGive_40 : decode cX8_whyNotGive 40 = .ok (.ifCond .eq 16, 3) := by decide +kernel
theorem dX8_whyNotGive_43 : decode cX8_whyNotGive 43 = .ok (.aload_n 0, 1) := by decide +kernel
theorem dX8_whyNotGive_44 : decode cX8_whyNotGive 44 = .ok (.iload_n 2, 1) := by decide +kernel
theorem dX8_whyNotGive_45 : decode cX8_whyNotGive 45 = .ok (.iload_n 1, 1) := by decide +kernel
theorem dX8_whyNotGive_46 : decode cX8_whyNotGive 46 = .ok (.invokevirtual 106, 3) := by decide +kernel
theorem dX8_whyNotGive_49 : decode cX8_whyNotGive 49 = .ok (.ifCond .eq 7, 3) := by decide +kernel
theorem dX8_whyNotGive_52 : decode cX8_whyNotGive 52 = .ok (.iconst 3, 1) := by decide +kernel
theorem dX8_whyNotGive_53 : decode cX8_whyNotGive 53 = .ok (.goto 4, 3) := by decide +kernel
theorem dX8_whyNotGive_56 : decode cX8_whyNotGive 56 = .ok (.iconst 0, 1) := by decide +kernel
theorem dX8_whyNotGive_57 : decode cX8_whyNotGive 57 = .ok (.ireturn, 1) := by decide +kernel
theorem dX8_putGiven_0 : decode cX8_putGiven 0 = .ok (.aload_n 0, 1) := by decide +kernel
theorem dX8_putGiven_1 : decode cX8_putGiven 1 = .ok (.getfield 26, 3) := by decide +kernel
theorem dX8_putGiven_4 : decode cX8_putGiven 4 = .ok (.iload_n 1, 1) := by decide +kernel
theorem dX8_putGiven_5 : decode cX8_putGiven 5 = .ok (.iload_n 3, 1) := by decide +kernel
theorem dX8_putGiven_6 : decode cX8_putGiven 6 = .ok (.ifCond .eq 16, 3) := by decide +kernel
theorem dX8_putGiven_9 : decode cX8_putGiven 9 = .ok (.aload_n 0, 1) := by decide +kernel
theorem dX8_putGiven_10 : decode cX8_putGiven 10 = .ok (.getfield 26, 3) := by decide +kernel
theorem dX8_putGiven_13 : decode cX8_putGiven 13 = .ok (.iload_n 1, 1) := by decide +kernel
theorem dX8_putGiven_14 : decode cX8_putGiven 14 = .ok (.iaload, 1) := by decide +kernel
theorem dX8_putGiven_15 : decode cX8_putGiven 15 = .ok (.iconst 1, 1) := by decide +kernel
theorem dX8_putGiven_16 : decode cX8_putGiven 16 = .ok (.iload_n 2, 1) := by decide +kernel
theorem dX8_putGiven_17 : decode cX8_putGiven 17 = .ok (.ishl, 1) := by decide +kernel
theorem dX8_putGiven_18 : decode cX8_putGiven 18 = .ok (.ior, 1) := by decide +kernel
theorem dX8_putGiven_19 : decode cX8_putGiven 19 = .ok (.goto 15, 3) := by decide +kernel
theorem dX8_putGiven_22 : decode cX8_putGiven 22 = .ok (.aload_n 0, 1) := by decide +kernel
theorem dX8_putGiven_23 : decode cX8_putGiven 23 = .ok (.getfield 26, 3) := by decide +kernel
theorem dX8_putGiven_26 : decode cX8_putGiven 26 = .ok (.iload_n 1, 1) := by decide +kernel
theorem dX8_putGiven_27 : decode cX8_putGiven 27 = .ok (.iaload, 1) := by decide +kernel
theorem dX8_putGiven_28 : decode cX8_putGiven 28 = .ok (.iconst 1, 1) := by decide +kernel
theorem dX8_putGiven_29 : decode cX8_putGiven 29 = .ok (.iload_n 2, 1) := by decide +kernel
theorem dX8_putGiven_30 : decode cX8_putGiven 30 = .ok (.ishl, 1) := by decide +kernel
theorem dX8_putGiven_31 : decode cX8_putGiven 31 = .ok (.iconst (-1), 1) := by decide +kernel
theorem dX8_putGiven_32 : decode cX8_putGiven 32 = .ok (.ixor, 1) := by decide +kernel
theorem dX8_putGiven_33 : decode cX8_putGiven 33 = .ok (.iand, 1) := by decide +kernel
theorem dX8_putGiven_34 : decode cX8_putGiven 34 = .ok (.iastore, 1) := by decide +kernel
theorem dX8_putGiven_35 : decode cX8_putGiven 35 = .ok (.return_, 1) := by decide +kernel
theorem dX8_bits_0 : decode cX8_bits 0 = .ok (.iconst 0, 1) := by decide +kernel
theorem dX8_bits_1 : decode cX8_bits 1 = .ok (.istore_n 1, 1) := by decide +kernel
theorem dX8_bits_2 : decode cX8_bits 2 = .ok (.iconst 0, 1) := by decide +kernel
theorem dX8_bits_3 : decode cX8_bits 3 = .ok (.istore_n 2, 1) := by decide +kernel
theorem dX8_bits_4 : decode cX8_bits 4 = .ok (.iload_n 2, 1) := by decide +kernel
theorem dX8_bits_5 : decode cX8_bits 5 = .ok (.bipush 8, 2) := by decide +kernel
theorem dX8_bits_7 : decode cX8_bits 7 = .ok (.if_icmp .ge 17, 3) := by decide +kernel
theorem dX8_bits_10 : decode cX8_bits 10 = .ok (.iload_n 1, 1) := by decide +kernel
theorem dX8_bits_11 : decode cX8_bits 11 = .ok (.iload_n 0, 1) := by decide +kernel
theorem dX8_bits_12 : decode cX8_bits 12 = .ok (.iload_n 2, 1) := by decide +kernel
theorem dX8_bits_13 : decode cX8_bits 13 = .ok (.ishr, 1) := by decide +kernel
theorem dX8_bits_14 : decode cX8_bits 14 = .ok (.iconst 1, 1) := by decide +kernel
theorem dX8_bits_15 : decode cX8_bits 15 = .ok (.iand, 1) := by decide +kernel
theorem dX8_bits_16 : decode cX8_bits 16 = .ok (.iadd, 1) := by decide +kernel
theorem dX8_bits_17 : decode cX8_bits 17 = .ok (.istore_n 1, 1) := by decide +kernel
theorem dX8_bits_18 : decode cX8_bits 18 = .ok (.iinc 2 1, 3) := by decide +kernel
theorem dX8_bits_21 : decode cX8_bits 21 = .ok (.goto (-17), 3) := by decide +kernel
theorem dX8_bits_24 : decode cX8_bits 24 = .ok (.iload_n 1, 1) := by decide +kernel
theorem dX8_bits_25 : decode cX8_bits 25 = .ok (.ireturn, 1) := by decide +kernel
set_option maxRecDepth 20000 in
theorem ggX8_givenMany_X8_bits : GoodIn wsX8_givenMany wsX8_bits := goodIn_r _ [6] (by decide +kernel) (by decide +kernel)
set_option maxRecDepth 20000 in
theorem gX8_givenMany_X8_bits : GoodIn wsX8_givenMany (va_wsS RX8 109 yX8_bits wsX8_bits) := goodIn_app (goodIn_of _ (by decide +kernel)) ggX8_givenMany_X8_bits
theorem dX8_givenMany_0 : decode cX8_givenMany 0 = .ok (.iconst 0, 1) := by decide +kernel
theorem dX8_givenMany_1 : decode cX8_givenMany 1 = .ok (.istore_n 1, 1) := by decide +kernel
theorem dX8_givenMany_2 : decode cX8_givenMany 2 = .ok (.iconst 0, 1) := by decide +kernel
theorem dX8_givenMany_3 : decode cX8_givenMany 3 = .ok (.istore_n 2, 1) := by decide +kernel
theorem dX8_givenMany_4 : decode cX8_givenMany 4 = .ok (.iload_n 2, 1) := by decide +kernel
theorem dX8_givenMany_5 : decode cX8_givenMany 5 = .ok (.aload_n 0, 1) := by decide +kernel
theorem dX8_givenMany_6 : decode cX8_givenMany 6 = .ok (.getfield 78, 3) := by decide +kernel
theorem dX8_givenMany_9 : decode cX8_givenMany 9 = .ok (.if_icmp .ge 21, 3) := by decide +kernel
theorem dX8_givenMany_12 : decode cX8_givenMany 12 = .ok (.iload_n 1, 1) := by decide +kernel
theorem dX8_givenMany_13 : decode cX8_givenMany 13 = .ok (.aload_n 0, 1) := by decide +kernel
theorem dX8_givenMany_14 : decode cX8_givenMany 14 = .ok (.getfield 26, 3) := by decide +kernel
theorem dX8_givenMany_17 : decode cX8_givenMany 17 = .ok (.iload_n 2, 1) := by decide +kernel
theorem dX8_givenMany_18 : decode cX8_givenMany 18 = .ok (.iaload, 1) := by decide +kernel
theorem dX8_givenMany_19 : decode cX8_givenMany 19 = .ok (.invokestatic 109, 3) := by decide +kernel
theorem dX8_givenMany_22 : decode cX8_givenMany 22 = .ok (.iadd, 1) := by decide +kernel
theorem dX8_givenMany_23 : decode cX8_givenMany 23 = .ok (.istore_n 1, 1) := by decide +kernel
theorem dX8_givenMany_24 : decode cX8_givenMany 24 = .ok (.iinc 2 1, 3) := by decide +kernel
theorem dX8_givenMany_27 : decode cX8_givenMany 27 = .ok (.goto (-23), 3) := by decide +kernel
theorem dX8_givenMany_30 : decode cX8_givenMany 30 = .ok (.iload_n 1, 1) := by decide +kernel
theorem dX8_givenMany_31 : decode cX8_givenMany 31 = .ok (.ireturn, 1) := by decide +kernel
set_option maxRecDepth 20000 in
theorem ggX8_give_X8_whyNotGive : GoodIn wsX8_give wsX8_whyNotGive := goodIn_r _ [6, 7, 8, 9, 10, 5, 11, 12, 13, 14, 15, 16, 17, 18, 19, 42, 43, 44, 45, 46, 47, 48, 49, 50, 51, 52, 53, 54, 55, 56, 57, 58, 59, 60, 61, 62, 63, 64, 65, 66, 67, 68, 69, 70, 71] (by decide +kernel) (by decide +kernel)
set_option maxRecDepth 20000 in
theorem gX8_give_X8_whyNotGive : GoodIn wsX8_give (wsV RX8 113 RX8 yX8_whyNotGive wsX8_whyNotGive) := goodIn_app (goodIn_of _ (by decide +kernel)) ggX8_give_X8_whyNotGive
set_option maxRecDepth 20000 in
theorem ggX8_give_X8_save : GoodIn wsX8_give wsX8_save := goodIn_r _ [23, 24, 25, 26, 12, 27, 28, 29, 30, 7, 42, 43, 44, 45, 46, 47, 48, 49, 50, 51, 52, 53, 54, 55, 56, 57, 58, 59, 60, 61, 62, 63, 64, 65, 66, 67, 68, 69, 70, 71] (by decide +kernel) (by decide +kernel)
set_option maxRecDepth 20000 in
theorem gX8_give_X8_save : GoodIn wsX8_give (wsV RX8 88 RX8 yX8_save wsX8_save) := goodIn_app (goodIn_of _ (by decide +kernel)) ggX8_give_X8_save
set_option maxRecDepth 20000 in
theorem ggX8_give_X8_putGiven : GoodIn wsX8_give wsX8_putGiven := goodIn_r _ [34, 7, 42, 43, 44, 45, 46, 47, 48, 49, 50, 51, 52, 53, 54, 55, 56, 57, 58, 59, 60, 61, 62, 63, 64, 65, 66, 67, 68, 69, 70, 71] (by decide +kernel) (by decide +kernel)
set_option maxRecDepth 20000 in
theorem gX8_give_X8_putGiven : GoodIn wsX8_give (wsV RX8 117 RX8 yX8_putGiven wsX8_putGiven) := goodIn_app (goodIn_of _ (by decide +kernel)) ggX8_give_X8_putGiven
set_option maxRecDepth 20000 in
theorem ggX8_give_X8_givenMany : GoodIn wsX8_give wsX8_givenMany := goodIn_r _ [38, 12, 7, 39, 40, 5, 41, 42, 43, 44, 45, 46, 47, 48, 49, 50, 51, 52, 53, 54, 55, 56, 57, 58, 59, 60, 61, 62, 63, 64, 65, 66, 67, 68, 69, 70, 71] (by decide +kernel) (by decide +kernel)
set_option maxRecDepth 20000 in
theorem gX8_give_X8_givenMany : GoodIn wsX8_give (wsV RX8 121 RX8 yX8_givenMany wsX8_givenMany) := goodIn_app (goodIn_of _ (by decide +kernel)) ggX8_give_X8_givenMany
theorem dX8_give_0 : decode cX8_give 0 = .ok (.aload_n 0, 1) := by decide +kernel
theorem dX8_give_1 : decode cX8_give 1 = .ok (.aload_n 0, 1) := by decide +kernel
theorem dX8_give_2 : decode cX8_give 2 = .ok (.iload_n 1, 1) := by decide +kernel
theorem dX8_give_3 : decode cX8_give 3 = .ok (.iload_n 2, 1) := by decide +kernel
theorem dX8_give_4 : decode cX8_give 4 = .ok (.iload_n 3, 1) := by decide +kernel
theorem dX8_give_5 : decode cX8_give 5 = .ok (.invokevirtual 113, 3) := by decide +kernel
theorem dX8_give_8 : decode cX8_give 8 = .ok (.putfield 75, 3) := by decide +kernel
theorem dX8_give_11 : decode cX8_give 11 = .ok (.aload_n 0, 1) := by decide +kernel
theorem dX8_give_12 : decode cX8_give 12 = .ok (.getfield 75, 3) := by decide +kernel
theorem dX8_give_15 : decode cX8_give 15 = .ok (.ifCond .le 5, 3) := by decide +kernel
theorem dX8_give_18 : decode cX8_give 18 = .ok (.iconst 0, 1) := by decide +kernel
theorem dX8_give_19 : decode cX8_give 19 = .ok (.ireturn, 1) := by decide +kernel
theorem dX8_give_20 : decode cX8_give 20 = .ok (.aload_n 0, 1) := by decide +kernel
theorem dX8_give_21 : decode cX8_give 21 = .ok (.invokevirtual 88, 3) := by decide +kernel
theorem dX8_give_24 : decode cX8_give 24 = .ok (.aload_n 0, 1) := by decide +kernel
theorem dX8_give_25 : decode cX8_give 25 = .ok (.iload_n 1, 1) := by decide +kernel
theorem dX8_give_26 : decode cX8_give 26 = .ok (.iload_n 2, 1) := by decide +kernel
theorem dX8_give_27 : decode cX8_give 27 = .ok (.iload_n 3, 1) := by decide +kernel
theorem dX8_give_28 : decode cX8_give 28 = .ok (.invokevirtual 117, 3) := by decide +kernel
theorem dX8_give_31 : decode cX8_give 31 = .ok (.aload_n 0, 1) := by decide +kernel
theorem dX8_give_32 : decode cX8_give 32 = .ok (.invokevirtual 121, 3) := by decide +kernel
theorem dX8_give_35 : decode cX8_give 35 = .ok (.ireturn, 1) := by decide +kernel
set_option maxRecDepth 20000 in
theorem ggX8_givenTo_X8_has : GoodIn wsX8_givenTo wsX8_has := goodIn_r _ [6] (by decide +kernel) (by decide +kernel)
set_option maxRecDepth 20000 in
theorem gX8_givenTo_X8_has : GoodIn wsX8_givenTo (va_wsS RX8 102 yX8_has wsX8_has) := goodIn_app (goodIn_of _ (by decide +kernel)) ggX8_givenTo_X8_has
theorem dX8_givenTo_0 : decode cX8_givenTo 0 = .ok (.iconst 0, 1) := by decide +kernel
theorem dX8_givenTo_1 : decode cX8_givenTo 1 = .ok (.istore_n 2, 1) := by decide +kernel
theorem dX8_givenTo_2 : decode cX8_givenTo 2 = .ok (.iconst 0, 1) := by decide +kernel
theorem dX8_givenTo_3 : decode cX8_givenTo 3 = .ok (.istore_n 3, 1) := by decide +kernel
theorem dX8_givenTo_4 : decode cX8_givenTo 4 = .ok (.iload_n 3, 1) := by decide +kernel
theorem dX8_givenTo_5 : decode cX8_givenTo 5 = .ok (.aload_n 0, 1) := by decide +kernel
theorem dX8_givenTo_6 : decode cX8_givenTo 6 = .ok (.getfield 78, 3) := by decide +kernel
theorem dX8_givenTo_9 : decode cX8_givenTo 9 = .ok (.if_icmp .ge 32, 3) := by decide +kernel
theorem dX8_givenTo_12 : decode cX8_givenTo 12 = .ok (.iload_n 2, 1) := by decide +kernel
theorem dX8_givenTo_13 : decode cX8_givenTo 13 = .ok (.aload_n 0, 1) := by decide +kernel
theorem dX8_givenTo_14 : decode cX8_givenTo 14 = .ok (.getfield 26, 3) := by decide +kernel
theorem dX8_givenTo_17 : decode cX8_givenTo 17 = .ok (.iload_n 3, 1) := by decide +kernel
theorem dX8_givenTo_18 : decode cX8_givenTo 18 = .ok (.iaload, 1) := by decide +kernel
theorem dX8_givenTo_19 : decode cX8_givenTo 19 = .ok (.iload_n 1, 1) := by decide +kernel
theorem dX8_givenTo_20 : decode cX8_givenTo 20 = .ok (.invokestatic 102, 3) := by decide +kernel
theorem dX8_givenTo_23 : decode cX8_givenTo 23 = .ok (.ifCond .eq 9, 3) := by decide +kernel
theorem dX8_givenTo_26 : decode cX8_givenTo 26 = .ok (.iconst 1, 1) := by decide +kernel
theorem dX8_givenTo_27 : decode cX8_givenTo 27 = .ok (.iload_n 3, 1) := by decide +kernel
theorem dX8_givenTo_28 : decode cX8_givenTo 28 = .ok (.ishl, 1) := by decide +kernel
theorem dX8_givenTo_29 : decode cX8_givenTo 29 = .ok (.goto 4, 3) := by decide +kernel
theorem dX8_givenTo_32 : decode cX8_givenTo 32 = .ok (.iconst 0, 1) := by decide +kernel
theorem dX8_givenTo_33 : decode cX8_givenTo 33 = .ok (.ior, 1) := by decide +kernel
theorem dX8_givenTo_34 : decode cX8_givenTo 34 = .ok (.istore_n 2, 1) := by decide +kernel
theorem dX8_givenTo_35 : decode cX8_givenTo 35 = .ok (.iinc 3 1, 3) := by decide +kernel
theorem dX8_givenTo_38 : decode cX8_givenTo 38 = .ok (.goto (-34), 3) := by decide +kernel
theorem dX8_givenTo_41 : decode cX8_givenTo 41 = .ok (.iload_n 2, 1) := by decide +kernel
theorem dX8_givenTo_42 : decode cX8_givenTo 42 = .ok (.ireturn, 1) := by decide +kernel
set_option maxRecDepth 20000 in
theorem ggX8_isDominating_X8_givenTo : GoodIn wsX8_isDominating wsX8_givenTo := goodIn_r _ [10, 11, 1, 12, 13, 9, 14, 15, 16, 17, 18, 19, 20, 21, 22, 23, 24, 25, 26, 27, 28, 29, 30, 31, 32, 33, 34, 35, 36, 37, 38, 39, 40, 41, 42, 43, 44] (by decide +kernel) (by decide +kernel)
set_option maxRecDepth 20000 in
theorem gX8_isDominating_X8_givenTo : GoodIn wsX8_isDominating (wsV RX8 125 RX8 yX8_givenTo wsX8_givenTo) := goodIn_app (goodIn_of _ (by decide +kernel)) ggX8_isDominating_X8_givenTo
set_option maxRecDepth 20000 in
theorem ggX8_isDominating_X8_has : GoodIn wsX8_isDominating wsX8_has := goodIn_r _ [14] (by decide +kernel) (by decide +kernel)
set_option maxRecDepth 20000 in
theorem gX8_isDominating_X8_has : GoodIn wsX8_isDominating (va_wsS RX8 102 yX8_has wsX8_has) := goodIn_app (goodIn_of _ (by decide +kernel)) ggX8_isDominating_X8_has
theorem dX8_isDominating_0 : decode cX8_isDominating 0 = .ok (.iconst 1, 1) := by decide +kernel
theorem dX8_isDominating_1 : decode cX8_isDominating 1 = .ok (.iload_n 1, 1) := by decide +kernel
theorem dX8_isDominating_2 : decode cX8_isDominating 2 = .ok (.ishl, 1) := by decide +kernel
theorem dX8_isDominating_3 : decode cX8_isDominating 3 = .ok (.iconst 1, 1) := by decide +kernel
theorem dX8_isDominating_4 : decode cX8_isDominating 4 = .ok (.iload_n 2, 1) := by decide +kernel
theorem dX8_isDominating_5 : decode cX8_isDominating 5 = .ok (.ishl, 1) := by decide +kernel
theorem dX8_isDominating_6 : decode cX8_isDominating 6 = .ok (.ior, 1) := by decide +kernel
theorem dX8_isDominating_7 : decode cX8_isDominating 7 = .ok (.iconst (-1), 1) := by decide +kernel
theorem dX8_isDominating_8 : decode cX8_isDominating 8 = .ok (.ixor, 1) := by decide +kernel
theorem dX8_isDominating_9 : decode cX8_isDominating 9 = .ok (.istore_n 3, 1) := by decide +kernel
theorem dX8_isDominating_10 : decode cX8_isDominating 10 = .ok (.aload_n 0, 1) := by decide +kernel
theorem dX8_isDominating_11 : decode cX8_isDominating 11 = .ok (.iload_n 1, 1) := by decide +kernel
theorem dX8_isDominating_12 : decode cX8_isDominating 12 = .ok (.invokevirtual 125, 3) := by decide +kernel
theorem dX8_isDominating_15 : decode cX8_isDominating 15 = .ok (.iload_n 3, 1) := by decide +kernel
theorem dX8_isDominating_16 : decode cX8_isDominating 16 = .ok (.iand, 1) := by decide +kernel
theorem dX8_isDominating_17 : decode cX8_isDominating 17 = .ok (.istore 4, 2) := by decide +kernel
theorem dX8_isDominating_19 : decode cX8_isDominating 19 = .ok (.aload_n 0, 1) := by decide +kernel
theorem dX8_isDominating_20 : decode cX8_isDominating 20 = .ok (.iload_n 2, 1) := by decide +kernel
theorem dX8_isDominating_21 : decode cX8_isDominating 21 = .ok (.invokevirtual 125, 3) := by decide +kernel
theorem dX8_isDominating_24 : decode cX8_isDominating 24 = .ok (.iload_n 3, 1) := by decide +kernel
theorem dX8_isDominating_25 : decode cX8_isDominating 25 = .ok (.iand, 1) := by decide +kernel
theorem dX8_isDominating_26 : decode cX8_isDominating 26 = .ok (.istore 5, 2) := by decide +kernel
theorem dX8_isDominating_28 : decode cX8_isDominating 28 = .ok (.aload_n 0, 1) := by decide +kernel
theorem dX8_isDominating_29 : decode cX8_isDominating 29 = .ok (.getfield 26, 3) := by decide +kernel
theorem dX8_isDominating_32 : decode cX8_isDominating 32 = .ok (.iload_n 1, 1) := by decide +kernel
theorem dX8_isDominating_33 : decode cX8_isDominating 33 = .ok (.iaload, 1) := by decide +kernel
theorem dX8_isDominating_34 : decode cX8_isDominating 34 = .ok (.iload_n 3, 1) := by decide +kernel
theorem dX8_isDominating_35 : decode cX8_isDominating 35 = .ok (.iand, 1) := by decide +kernel
theorem dX8_isDominating_36 : decode cX8_isDominating 36 = .ok (.istore 6, 2) := by decide +kernel
theorem dX8_isDominating_38 : decode cX8_isDominating 38 = .ok (.aload_n 0, 1) := by decide +kernel
theorem dX8_isDominating_39 : decode cX8_isDominating 39 = .ok (.getfield 26, 3) := by decide +kernel
theorem dX8_isDominating_42 : decode cX8_isDominating 42 = .ok (.iload_n 2, 1) := by decide +kernel
theorem dX8_isDominating_43 : decode cX8_isDominating 43 = .ok (.iaload, 1) := by decide +kernel
theorem dX8_isDominating_44 : decode cX8_isDominating 44 = .ok (.iload_n 3, 1) := by decide +kernel
theorem dX8_isDominating_45 : decode cX8_isDominating 45 = .ok (.iand, 1) := by decide +kernel
theorem dX8_isDominating_46 : decode cX8_isDominating 46 = .ok (.istore 7, 2) := by decide +kernel
theorem dX8_isDominating_48 : decode cX8_isDominating 48 = .ok (.aload_n 0, 1) := by decide +kernel
theorem dX8_isDominating_49 : decode cX8_isDominating 49 = .ok (.getfield 17, 3) := by decide +kernel
theorem dX8_isDominating_52 : decode cX8_isDominating 52 = .ok (.iload_n 1, 1) := by decide +kernel
theorem dX8_isDominating_53 : decode cX8_isDominating 53 = .ok (.iaload, 1) := by decide +kernel
theorem dX8_isDominating_54 : decode cX8_isDominating 54 = .ok (.aload_n 0, 1) := by decide +kernel
theorem dX8_isDominating_55 : decode cX8_isDominating 55 = .ok (.getfield 17, 3) := by decide +kernel
theorem dX8_isDominating_58 : decode cX8_isDominating 58 = .ok (.iload_n 2, 1) := by decide +kernel
theorem dX8_isDominating_59 : decode cX8_isDominating 59 = .ok (.iaload, 1) := by decide +kernel
theorem dX8_isDominating_60 : decode cX8_isDominating 60 = .ok (.if_icmp .ne 36, 3) := by decide +kernel
theorem dX8_isDominating_63 : decode cX8_isDominating 63 = .ok (.aload_n 0, 1) := by decide +kernel
theorem dX8_isDominating_64 : decode cX8_isDominating 64 = .ok (.getfield 20, 3) := by decide +kernel
theorem dX8_isDominating_67 : decode cX8_isDominating 67 = .ok (.iload_n 1, 1) := by decide +kernel
theorem dX8_isDominating_68 : decode cX8_isDominating 68 = .ok (.iaload, 1) := by decide +kernel
theorem dX8_isDominating_69 : decode cX8_isDominating 69 = .ok (.aload_n 0, 1) := by decide +kernel
theorem dX8_isDominating_70 : decode cX8_isDominating 70 = .ok (.getfield 20, 3) := by decide +kernel
theorem dX8_isDominating_73 : decode cX8_isDominating 73 = .ok (.iload_n 2, 1) := by decide +kernel
theorem dX8_isDominating_74 : decode cX8_isDominating 74 = .ok (.iaload, 1) := by decide +kernel
theorem dX8_isDominating_75 : decode cX8_isDominating 75 = .ok (.if_icmp .ne 21, 3) := by decide +kernel
theorem dX8_isDominating_78 : decode cX8_isDominating 78 = .ok (.iload 4, 2) := by decide +kernel
theorem dX8_isDominating_80 : decode cX8_isDominating 80 = .ok (.iload 5, 2) := by decide +kernel
theorem dX8_isDominating_82 : decode cX8_isDominating 82 = .ok (.if_icmp .ne 14, 3) := by decide +kernel
theorem dX8_isDominating_85 : decode cX8_isDominating 85 = .ok (.iload 6, 2) := by decide +kernel
theorem dX8_isDominating_87 : decode cX8_isDominating 87 = .ok (.iload 7, 2) := by decide +kernel
theorem dX8_isDominating_89 : decode cX8_isDominating 89 = .ok (.if_icmp .ne 7, 3) := by decide +kernel
theorem dX8_isDominating_92 : decode cX8_isDominating 92 = .ok (.iconst 1, 1) := by decide +kernel
theorem dX8_isDominating_93 : decode cX8_isDominating 93 = .ok (.goto 4, 3) := by decide +kernel
theorem dX8_isDominating_96 : decode cX8_isDominating 96 = .ok (.iconst 0, 1) := by decide +kernel
theorem dX8_isDominating_97 : decode cX8_isDominating 97 = .ok (.istore 8, 2) := by decide +kernel
theorem dX8_isDominating_99 : decode cX8_isDominating 99 = .ok (.iload_n 1, 1) := by decide +kernel
theorem dX8_isDominating_100 : decode cX8_isDominating 100 = .ok (.iload_n 2, 1) := by decide +kernel
theorem dX8_isDominating_101 : decode cX8_isDominating 101 = .ok (.if_icmp .eq 67, 3) := by decide +kernel
theorem dX8_isDominating_104 : decode cX8_isDominating 104 = .ok (.aload_n 0, 1) := by decide +kernel
theorem dX8_isDominating_105 : decode cX8_isDominating 105 = .ok (.getfield 13, 3) := by decide +kernel
theorem dX8_isDominating_108 : decode cX8_isDominating 108 = .ok (.iload_n 1, 1) := by decide +kernel
theorem dX8_isDominating_109 : decode cX8_isDominating 109 = .ok (.iaload, 1) := by decide +kernel
theorem dX8_isDominating_110 : decode cX8_isDominating 110 = .ok (.aload_n 0, 1) := by decide +kernel
theorem dX8_isDominating_111 : decode cX8_isDominating 111 = .ok (.getfield 13, 3) := by decide +kernel
theorem dX8_isDominating_114 : decode cX8_isDominating 114 = .ok (.iload_n 2, 1) := by decide +kernel
theorem dX8_isDominating_115 : decode cX8_isDominating 115 = .ok (.iaload, 1) := by decide +kernel
theorem dX8_isDominating_116 : decode cX8_isDominating 116 = .ok (.if_icmp .ne 52, 3) := by decide +kernel
theorem dX8_isDominating_119 : decode cX8_isDominating 119 = .ok (.aload_n 0, 1) := by decide +kernel
theorem dX8_isDominating_120 : decode cX8_isDominating 120 = .ok (.getfield 23, 3) := by decide +kernel
theorem dX8_isDominating_123 : decode cX8_isDominating 123 = .ok (.iload_n 1, 1) := by decide +kernel
theorem dX8_isDominating_124 : decode cX8_isDominating 124 = .ok (.iaload, 1) := by decide +kernel
theorem dX8_isDominating_125 : decode cX8_isDominating 125 = .ok (.aload_n 0, 1) := by decide +kernel
theorem dX8_isDominating_126 : decode cX8_isDominating 126 = .ok (.getfield 23, 3) := by decide +kernel
theorem dX8_isDominating_129 : decode cX8_isDominating 129 = .ok (.iload_n 2, 1) := by decide +kernel
theorem dX8_isDominating_130 : decode cX8_isDominating 130 = .ok (.iaload, 1) := by decide +kernel
theorem dX8_isDominating_131 : decode cX8_isDominating 131 = .ok (.if_icmp .ne 37, 3) := by decide +kernel
theorem dX8_isDominating_134 : decode cX8_isDominating 134 = .ok (.aload_n 0, 1) := by decide +kernel
theorem dX8_isDominating_135 : decode cX8_isDominating 135 = .ok (.getfield 17, 3) := by decide +kernel
theorem dX8_isDominating_138 : decode cX8_isDominating 138 = .ok (.iload_n 1, 1) := by decide +kernel
theorem dX8_isDominating_139 : decode cX8_isDominating 139 = .ok (.iaload, 1) := by decide +kernel
