theorem dX9_marks_19 : decode cX9_marks 19 = .ok (.goto 5, 3) := by decide +kernel
theorem dX9_marks_22 : decode cX9_marks 22 = .ok (.bipush (-2), 2) := by decide +kernel
theorem dX9_marks_24 : decode cX9_marks 24 = .ok (.ireturn, 1) := by decide +kernel
theorem dX9_began_0 : decode cX9_began 0 = .ok (.iload_n 1, 1) := by decide +kernel
theorem dX9_began_1 : decode cX9_began 1 = .ok (.ifCond .ge 8, 3) := by decide +kernel
theorem dX9_began_4 : decode cX9_began 4 = .ok (.bipush (-2), 2) := by decide +kernel
theorem dX9_began_6 : decode cX9_began 6 = .ok (.goto 14, 3) := by decide +kernel
theorem dX9_began_9 : decode cX9_began 9 = .ok (.aload_n 0, 1) := by decide +kernel
theorem dX9_began_10 : decode cX9_began 10 = .ok (.getfield 25, 3) := by decide +kernel
theorem dX9_began_13 : decode cX9_began 13 = .ok (.getfield 82, 3) := by decide +kernel
theorem dX9_began_16 : decode cX9_began 16 = .ok (.iload_n 1, 1) := by decide +kernel
theorem dX9_began_17 : decode cX9_began 17 = .ok (.invokevirtual 91, 3) := by decide +kernel
theorem dX9_began_20 : decode cX9_began 20 = .ok (.ireturn, 1) := by decide +kernel
theorem dX9_variable_0 : decode cX9_variable 0 = .ok (.aload_n 0, 1) := by decide +kernel
theorem dX9_variable_1 : decode cX9_variable 1 = .ok (.getfield 25, 3) := by decide +kernel
theorem dX9_variable_4 : decode cX9_variable 4 = .ok (.getfield 94, 3) := by decide +kernel
theorem dX9_variable_7 : decode cX9_variable 7 = .ok (.iload_n 1, 1) := by decide +kernel
theorem dX9_variable_8 : decode cX9_variable 8 = .ok (.invokevirtual 98, 3) := by decide +kernel
theorem dX9_variable_11 : decode cX9_variable 11 = .ok (.ireturn, 1) := by decide +kernel
theorem dX9_size_0 : decode cX9_size 0 = .ok (.iload_n 1, 1) := by decide +kernel
theorem dX9_size_1 : decode cX9_size 1 = .ok (.iconst 4, 1) := by decide +kernel
theorem dX9_size_2 : decode cX9_size 2 = .ok (.invokestatic 55, 3) := by decide +kernel
theorem dX9_size_5 : decode cX9_size 5 = .ok (.ifCond .eq 17, 3) := by decide +kernel
theorem dX9_size_8 : decode cX9_size 8 = .ok (.aload_n 0, 1) := by decide +kernel
theorem dX9_size_9 : decode cX9_size 9 = .ok (.getfield 25, 3) := by decide +kernel
theorem dX9_size_12 : decode cX9_size 12 = .ok (.getfield 94, 3) := by decide +kernel
theorem dX9_size_15 : decode cX9_size 15 = .ok (.iload_n 1, 1) := by decide +kernel
theorem dX9_size_16 : decode cX9_size 16 = .ok (.invokevirtual 103, 3) := by decide +kernel
theorem dX9_size_19 : decode cX9_size 19 = .ok (.goto 5, 3) := by decide +kernel
theorem dX9_size_22 : decode cX9_size 22 = .ok (.bipush (-2), 2) := by decide +kernel
theorem dX9_size_24 : decode cX9_size 24 = .ok (.ireturn, 1) := by decide +kernel
theorem dX9_same_0 : decode cX9_same 0 = .ok (.aload_n 0, 1) := by decide +kernel
theorem dX9_same_1 : decode cX9_same 1 = .ok (.getfield 10, 3) := by decide +kernel
theorem dX9_same_4 : decode cX9_same 4 = .ok (.iload_n 1, 1) := by decide +kernel
theorem dX9_same_5 : decode cX9_same 5 = .ok (.invokevirtual 63, 3) := by decide +kernel
theorem dX9_same_8 : decode cX9_same 8 = .ok (.iconst (-1), 1) := by decide +kernel
theorem dX9_same_9 : decode cX9_same 9 = .ok (.if_icmp .eq 18, 3) := by decide +kernel
theorem dX9_same_12 : decode cX9_same 12 = .ok (.iload_n 3, 1) := by decide +kernel
theorem dX9_same_13 : decode cX9_same 13 = .ok (.invokestatic 67, 3) := by decide +kernel
theorem dX9_same_16 : decode cX9_same 16 = .ok (.ifCond .eq 11, 3) := by decide +kernel
theorem dX9_same_19 : decode cX9_same 19 = .ok (.iload 4, 2) := by decide +kernel
theorem dX9_same_21 : decode cX9_same 21 = .ok (.invokestatic 67, 3) := by decide +kernel
theorem dX9_same_24 : decode cX9_same 24 = .ok (.ifCond .ne 6, 3) := by decide +kernel
theorem dX9_same_27 : decode cX9_same 27 = .ok (.bipush (-2), 2) := by decide +kernel
theorem dX9_same_29 : decode cX9_same 29 = .ok (.ireturn, 1) := by decide +kernel
theorem dX9_same_30 : decode cX9_same 30 = .ok (.aload_n 0, 1) := by decide +kernel
theorem dX9_same_31 : decode cX9_same 31 = .ok (.getfield 10, 3) := by decide +kernel
theorem dX9_same_34 : decode cX9_same 34 = .ok (.iload_n 1, 1) := by decide +kernel
theorem dX9_same_35 : decode cX9_same 35 = .ok (.invokevirtual 63, 3) := by decide +kernel
theorem dX9_same_38 : decode cX9_same 38 = .ok (.istore 5, 2) := by decide +kernel
theorem dX9_same_40 : decode cX9_same 40 = .ok (.aload_n 0, 1) := by decide +kernel
theorem dX9_same_41 : decode cX9_same 41 = .ok (.getfield 25, 3) := by decide +kernel
theorem dX9_same_44 : decode cX9_same 44 = .ok (.astore 6, 2) := by decide +kernel
theorem dX9_same_46 : decode cX9_same 46 = .ok (.aload_n 0, 1) := by decide +kernel
theorem dX9_same_47 : decode cX9_same 47 = .ok (.aload_n 0, 1) := by decide +kernel
theorem dX9_same_48 : decode cX9_same 48 = .ok (.getfield 29, 3) := by decide +kernel
theorem dX9_same_51 : decode cX9_same 51 = .ok (.putfield 25, 3) := by decide +kernel
theorem dX9_same_54 : decode cX9_same 54 = .ok (.aload_n 0, 1) := by decide +kernel
theorem dX9_same_55 : decode cX9_same 55 = .ok (.aload 6, 2) := by decide +kernel
theorem dX9_same_57 : decode cX9_same 57 = .ok (.putfield 29, 3) := by decide +kernel
theorem dX9_same_60 : decode cX9_same 60 = .ok (.aload_n 0, 1) := by decide +kernel
theorem dX9_same_61 : decode cX9_same 61 = .ok (.aload 6, 2) := by decide +kernel
theorem dX9_same_63 : decode cX9_same 63 = .ok (.iload 5, 2) := by decide +kernel
theorem dX9_same_65 : decode cX9_same 65 = .ok (.iload_n 2, 1) := by decide +kernel
theorem dX9_same_66 : decode cX9_same 66 = .ok (.iload_n 3, 1) := by decide +kernel
theorem dX9_same_67 : decode cX9_same 67 = .ok (.invokevirtual 70, 3) := by decide +kernel
theorem dX9_same_70 : decode cX9_same 70 = .ok (.invokevirtual 74, 3) := by decide +kernel
theorem dX9_same_73 : decode cX9_same 73 = .ok (.pop, 1) := by decide +kernel
theorem dX9_same_74 : decode cX9_same 74 = .ok (.aload_n 0, 1) := by decide +kernel
theorem dX9_same_75 : decode cX9_same 75 = .ok (.aload_n 0, 1) := by decide +kernel
theorem dX9_same_76 : decode cX9_same 76 = .ok (.getfield 25, 3) := by decide +kernel
theorem dX9_same_79 : decode cX9_same 79 = .ok (.iload 5, 2) := by decide +kernel
theorem dX9_same_81 : decode cX9_same 81 = .ok (.iload_n 2, 1) := by decide +kernel
theorem dX9_same_82 : decode cX9_same 82 = .ok (.iload 4, 2) := by decide +kernel
theorem dX9_same_84 : decode cX9_same 84 = .ok (.invokevirtual 70, 3) := by decide +kernel
theorem dX9_same_87 : decode cX9_same 87 = .ok (.invokevirtual 74, 3) := by decide +kernel
theorem dX9_same_90 : decode cX9_same 90 = .ok (.pop, 1) := by decide +kernel
theorem dX9_same_91 : decode cX9_same 91 = .ok (.aload_n 0, 1) := by decide +kernel
theorem dX9_same_92 : decode cX9_same 92 = .ok (.getfield 25, 3) := by decide +kernel
theorem dX9_same_95 : decode cX9_same 95 = .ok (.aload 6, 2) := by decide +kernel
theorem dX9_same_97 : decode cX9_same 97 = .ok (.invokevirtual 124, 3) := by decide +kernel
theorem dX9_same_100 : decode cX9_same 100 = .ok (.ifCond .eq 7, 3) := by decide +kernel
theorem dX9_same_103 : decode cX9_same 103 = .ok (.iconst 1, 1) := by decide +kernel
theorem dX9_same_104 : decode cX9_same 104 = .ok (.goto 4, 3) := by decide +kernel
theorem dX9_same_107 : decode cX9_same 107 = .ok (.iconst 0, 1) := by decide +kernel
theorem dX9_same_108 : decode cX9_same 108 = .ok (.ireturn, 1) := by decide +kernel
theorem dX9_count_0 : decode cX9_count 0 = .ok (.iload_n 1, 1) := by decide +kernel
theorem dX9_count_1 : decode cX9_count 1 = .ok (.iconst 4, 1) := by decide +kernel
theorem dX9_count_2 : decode cX9_count 2 = .ok (.if_icmp .ne 11, 3) := by decide +kernel
theorem dX9_count_5 : decode cX9_count 5 = .ok (.aload_n 0, 1) := by decide +kernel
theorem dX9_count_6 : decode cX9_count 6 = .ok (.getfield 10, 3) := by decide +kernel
theorem dX9_count_9 : decode cX9_count 9 = .ok (.invokevirtual 128, 3) := by decide +kernel
theorem dX9_count_12 : decode cX9_count 12 = .ok (.ireturn, 1) := by decide +kernel
theorem dX9_count_13 : decode cX9_count 13 = .ok (.iload_n 1, 1) := by decide +kernel
theorem dX9_count_14 : decode cX9_count 14 = .ok (.iconst 5, 1) := by decide +kernel
theorem dX9_count_15 : decode cX9_count 15 = .ok (.if_icmp .ne 11, 3) := by decide +kernel
theorem dX9_count_18 : decode cX9_count 18 = .ok (.aload_n 0, 1) := by decide +kernel
theorem dX9_count_19 : decode cX9_count 19 = .ok (.getfield 10, 3) := by decide +kernel
theorem dX9_count_22 : decode cX9_count 22 = .ok (.invokevirtual 131, 3) := by decide +kernel
theorem dX9_count_25 : decode cX9_count 25 = .ok (.ireturn, 1) := by decide +kernel
theorem dX9_count_26 : decode cX9_count 26 = .ok (.iload_n 1, 1) := by decide +kernel
theorem dX9_count_27 : decode cX9_count 27 = .ok (.iconst 4, 1) := by decide +kernel
theorem dX9_count_28 : decode cX9_count 28 = .ok (.invokestatic 55, 3) := by decide +kernel
theorem dX9_count_31 : decode cX9_count 31 = .ok (.ifCond .eq 12, 3) := by decide +kernel
theorem dX9_count_34 : decode cX9_count 34 = .ok (.aload_n 0, 1) := by decide +kernel
theorem dX9_count_35 : decode cX9_count 35 = .ok (.getfield 16, 3) := by decide +kernel
theorem dX9_count_38 : decode cX9_count 38 = .ok (.iload_n 1, 1) := by decide +kernel
theorem dX9_count_39 : decode cX9_count 39 = .ok (.iaload, 1) := by decide +kernel
theorem dX9_count_40 : decode cX9_count 40 = .ok (.goto 5, 3) := by decide +kernel
theorem dX9_count_43 : decode cX9_count 43 = .ok (.bipush (-2), 2) := by decide +kernel
theorem dX9_count_45 : decode cX9_count 45 = .ok (.ireturn, 1) := by decide +kernel
theorem dX9_counted_0 : decode cX9_counted 0 = .ok (.iload_n 1, 1) := by decide +kernel
theorem dX9_counted_1 : decode cX9_counted 1 = .ok (.iconst 4, 1) := by decide +kernel
theorem dX9_counted_2 : decode cX9_counted 2 = .ok (.invokestatic 55, 3) := by decide +kernel
theorem dX9_counted_5 : decode cX9_counted 5 = .ok (.ifCond .eq 13, 3) := by decide +kernel
theorem dX9_counted_8 : decode cX9_counted 8 = .ok (.aload_n 0, 1) := by decide +kernel
theorem dX9_counted_9 : decode cX9_counted 9 = .ok (.getfield 16, 3) := by decide +kernel
theorem dX9_counted_12 : decode cX9_counted 12 = .ok (.iload_n 1, 1) := by decide +kernel
theorem dX9_counted_13 : decode cX9_counted 13 = .ok (.dup2, 1) := by decide +kernel
theorem dX9_counted_14 : decode cX9_counted 14 = .ok (.iaload, 1) := by decide +kernel
theorem dX9_counted_15 : decode cX9_counted 15 = .ok (.iconst 1, 1) := by decide +kernel
theorem dX9_counted_16 : decode cX9_counted 16 = .ok (.iadd, 1) := by decide +kernel
theorem dX9_counted_17 : decode cX9_counted 17 = .ok (.iastore, 1) := by decide +kernel
theorem dX9_counted_18 : decode cX9_counted 18 = .ok (.iload_n 1, 1) := by decide +kernel
theorem dX9_counted_19 : decode cX9_counted 19 = .ok (.ireturn, 1) := by decide +kernel
theorem dX9_isBudget_0 : decode cX9_isBudget 0 = .ok (.iload_n 0, 1) := by decide +kernel
theorem dX9_isBudget_1 : decode cX9_isBudget 1 = .ok (.sipush 161, 3) := by decide +kernel
theorem dX9_isBudget_4 : decode cX9_isBudget 4 = .ok (.invokestatic 55, 3) := by decide +kernel
theorem dX9_isBudget_7 : decode cX9_isBudget 7 = .ok (.ireturn, 1) := by decide +kernel
theorem dX9_isBelow_0 : decode cX9_isBelow 0 = .ok (.iload_n 0, 1) := by decide +kernel
theorem dX9_isBelow_1 : decode cX9_isBelow 1 = .ok (.ifCond .lt 12, 3) := by decide +kernel
theorem dX9_isBelow_4 : decode cX9_isBelow 4 = .ok (.iload_n 0, 1) := by decide +kernel
theorem dX9_isBelow_5 : decode cX9_isBelow 5 = .ok (.iload_n 1, 1) := by decide +kernel
theorem dX9_isBelow_6 : decode cX9_isBelow 6 = .ok (.if_icmp .ge 7, 3) := by decide +kernel
theorem dX9_isBelow_9 : decode cX9_isBelow 9 = .ok (.iconst 1, 1) := by decide +kernel
theorem dX9_isBelow_10 : decode cX9_isBelow 10 = .ok (.goto 4, 3) := by decide +kernel
theorem dX9_isBelow_13 : decode cX9_isBelow 13 = .ok (.iconst 0, 1) := by decide +kernel
theorem dX9_isBelow_14 : decode cX9_isBelow 14 = .ok (.ireturn, 1) := by decide +kernel
theorem dX10_thrown_0 : decode cX10_thrown 0 = .ok (.aload_n 0, 1) := by decide +kernel
theorem dX10_thrown_1 : decode cX10_thrown 1 = .ok (.getfield 1, 3) := by decide +kernel
theorem dX10_thrown_4 : decode cX10_thrown 4 = .ok (.ireturn, 1) := by decide +kernel
theorem dX10_fail_0 : decode cX10_fail 0 = .ok (.aload_n 0, 1) := by decide +kernel
theorem dX10_fail_1 : decode cX10_fail 1 = .ok (.iload_n 1, 1) := by decide +kernel
theorem dX10_fail_2 : decode cX10_fail 2 = .ok (.putfield 1, 3) := by decide +kernel
theorem dX10_fail_5 : decode cX10_fail 5 = .ok (.iconst 0, 1) := by decide +kernel
theorem dX10_fail_6 : decode cX10_fail 6 = .ok (.ireturn, 1) := by decide +kernel
theorem dX10_isIn_0 : decode cX10_isIn 0 = .ok (.iload_n 0, 1) := by decide +kernel
theorem dX10_isIn_1 : decode cX10_isIn 1 = .ok (.ifCond .lt 12, 3) := by decide +kernel
theorem dX10_isIn_4 : decode cX10_isIn 4 = .ok (.iload_n 0, 1) := by decide +kernel
theorem dX10_isIn_5 : decode cX10_isIn 5 = .ok (.iload_n 1, 1) := by decide +kernel
theorem dX10_isIn_6 : decode cX10_isIn 6 = .ok (.if_icmp .ge 7, 3) := by decide +kernel
theorem dX10_isIn_9 : decode cX10_isIn 9 = .ok (.iconst 1, 1) := by decide +kernel
theorem dX10_isIn_10 : decode cX10_isIn 10 = .ok (.goto 4, 3) := by decide +kernel
theorem dX10_isIn_13 : decode cX10_isIn 13 = .ok (.iconst 0, 1) := by decide +kernel
theorem dX10_isIn_14 : decode cX10_isIn 14 = .ok (.ireturn, 1) := by decide +kernel
theorem dX10_isStatement_0 : decode cX10_isStatement 0 = .ok (.iload_n 1, 1) := by decide +kernel
theorem dX10_isStatement_1 : decode cX10_isStatement 1 = .ok (.aload_n 0, 1) := by decide +kernel
theorem dX10_isStatement_2 : decode cX10_isStatement 2 = .ok (.getfield 83, 3) := by decide +kernel
theorem dX10_isStatement_5 : decode cX10_isStatement 5 = .ok (.invokestatic 86, 3) := by decide +kernel
theorem dX10_isStatement_8 : decode cX10_isStatement 8 = .ok (.ireturn, 1) := by decide +kernel
theorem dX10_isRight_0 : decode cX10_isRight 0 = .ok (.iload_n 1, 1) := by decide +kernel
theorem dX10_isRight_1 : decode cX10_isRight 1 = .ok (.tableswitch 432 0 21 #[103, 432, 432, 432, 432, 432, 110, 133, 166, 199, 222, 228, 250, 272, 304, 327, 334, 341, 355, 388, 410, 348], 103) := by decide +kernel
theorem dX10_isRight_104 : decode cX10_isRight 104 = .ok (.iload_n 2, 1) := by decide +kernel
theorem dX10_isRight_105 : decode cX10_isRight 105 = .ok (.bipush 8, 2) := by decide +kernel
theorem dX10_isRight_107 : decode cX10_isRight 107 = .ok (.invokestatic 86, 3) := by decide +kernel
theorem dX10_isRight_110 : decode cX10_isRight 110 = .ok (.ireturn, 1) := by decide +kernel
theorem dX10_isRight_111 : decode cX10_isRight 111 = .ok (.iload_n 2, 1) := by decide +kernel
theorem dX10_isRight_112 : decode cX10_isRight 112 = .ok (.iconst 4, 1) := by decide +kernel
theorem dX10_isRight_113 : decode cX10_isRight 113 = .ok (.invokestatic 86, 3) := by decide +kernel
theorem dX10_isRight_116 : decode cX10_isRight 116 = .ok (.ifCond .eq 16, 3) := by decide +kernel
theorem dX10_isRight_119 : decode cX10_isRight 119 = .ok (.iload_n 3, 1) := by decide +kernel
theorem dX10_isRight_120 : decode cX10_isRight 120 = .ok (.bipush 8, 2) := by decide +kernel
theorem dX10_isRight_122 : decode cX10_isRight 122 = .ok (.invokestatic 86, 3) := by decide +kernel
theorem dX10_isRight_125 : decode cX10_isRight 125 = .ok (.ifCond .eq 7, 3) := by decide +kernel
theorem dX10_isRight_128 : decode cX10_isRight 128 = .ok (.iconst 1, 1) := by decide +kernel
theorem dX10_isRight_129 : decode cX10_isRight 129 = .ok (.goto 4, 3) := by decide +kernel
theorem dX10_isRight_132 : decode cX10_isRight 132 = .ok (.iconst 0, 1) := by decide +kernel
theorem dX10_isRight_133 : decode cX10_isRight 133 = .ok (.ireturn, 1) := by decide +kernel
theorem dX10_isRight_134 : decode cX10_isRight 134 = .ok (.iload_n 2, 1) := by decide +kernel
theorem dX10_isRight_135 : decode cX10_isRight 135 = .ok (.bipush 8, 2) := by decide +kernel
theorem dX10_isRight_137 : decode cX10_isRight 137 = .ok (.invokestatic 86, 3) := by decide +kernel
theorem dX10_isRight_140 : decode cX10_isRight 140 = .ok (.ifCond .eq 25, 3) := by decide +kernel
theorem dX10_isRight_143 : decode cX10_isRight 143 = .ok (.iload_n 3, 1) := by decide +kernel
theorem dX10_isRight_144 : decode cX10_isRight 144 = .ok (.iconst 4, 1) := by decide +kernel
theorem dX10_isRight_145 : decode cX10_isRight 145 = .ok (.invokestatic 86, 3) := by decide +kernel
theorem dX10_isRight_148 : decode cX10_isRight 148 = .ok (.ifCond .eq 17, 3) := by decide +kernel
theorem dX10_isRight_151 : decode cX10_isRight 151 = .ok (.iload 4, 2) := by decide +kernel
theorem dX10_isRight_153 : decode cX10_isRight 153 = .ok (.bipush 8, 2) := by decide +kernel
theorem dX10_isRight_155 : decode cX10_isRight 155 = .ok (.invokestatic 86, 3) := by decide +kernel
theorem dX10_isRight_158 : decode cX10_isRight 158 = .ok (.ifCond .eq 7, 3) := by decide +kernel
theorem dX10_isRight_161 : decode cX10_isRight 161 = .ok (.iconst 1, 1) := by decide +kernel
theorem dX10_isRight_162 : decode cX10_isRight 162 = .ok (.goto 4, 3) := by decide +kernel
theorem dX10_isRight_165 : decode cX10_isRight 165 = .ok (.iconst 0, 1) := by decide +kernel
theorem dX10_isRight_166 : decode cX10_isRight 166 = .ok (.ireturn, 1) := by decide +kernel
theorem dX10_isRight_167 : decode cX10_isRight 167 = .ok (.iload_n 2, 1) := by decide +kernel
theorem dX10_isRight_168 : decode cX10_isRight 168 = .ok (.iconst 4, 1) := by decide +kernel
theorem dX10_isRight_169 : decode cX10_isRight 169 = .ok (.invokestatic 86, 3) := by decide +kernel
theorem dX10_isRight_172 : decode cX10_isRight 172 = .ok (.ifCond .eq 26, 3) := by decide +kernel
theorem dX10_isRight_175 : decode cX10_isRight 175 = .ok (.iload_n 3, 1) := by decide +kernel
theorem dX10_isRight_176 : decode cX10_isRight 176 = .ok (.bipush 8, 2) := by decide +kernel
theorem dX10_isRight_178 : decode cX10_isRight 178 = .ok (.invokestatic 86, 3) := by decide +kernel
theorem dX10_isRight_181 : decode cX10_isRight 181 = .ok (.ifCond .eq 17, 3) := by decide +kernel
theorem dX10_isRight_184 : decode cX10_isRight 184 = .ok (.iload 4, 2) := by decide +kernel
theorem dX10_isRight_186 : decode cX10_isRight 186 = .ok (.bipush 8, 2) := by decide +kernel
theorem dX10_isRight_188 : decode cX10_isRight 188 = .ok (.invokestatic 86, 3) := by decide +kernel
theorem dX10_isRight_191 : decode cX10_isRight 191 = .ok (.ifCond .eq 7, 3) := by decide +kernel
theorem dX10_isRight_194 : decode cX10_isRight 194 = .ok (.iconst 1, 1) := by decide +kernel
theorem dX10_isRight_195 : decode cX10_isRight 195 = .ok (.goto 4, 3) := by decide +kernel
theorem dX10_isRight_198 : decode cX10_isRight 198 = .ok (.iconst 0, 1) := by decide +kernel
theorem dX10_isRight_199 : decode cX10_isRight 199 = .ok (.ireturn, 1) := by decide +kernel
theorem dX10_isRight_200 : decode cX10_isRight 200 = .ok (.iload_n 2, 1) := by decide +kernel
theorem dX10_isRight_201 : decode cX10_isRight 201 = .ok (.bipush 8, 2) := by decide +kernel
theorem dX10_isRight_203 : decode cX10_isRight 203 = .ok (.invokestatic 86, 3) := by decide +kernel
theorem dX10_isRight_206 : decode cX10_isRight 206 = .ok (.ifCond .eq 15, 3) := by decide +kernel
theorem dX10_isRight_209 : decode cX10_isRight 209 = .ok (.iload_n 3, 1) := by decide +kernel
theorem dX10_isRight_210 : decode cX10_isRight 210 = .ok (.iconst 4, 1) := by decide +kernel
theorem dX10_isRight_211 : decode cX10_isRight 211 = .ok (.invokestatic 86, 3) := by decide +kernel
theorem dX10_isRight_214 : decode cX10_isRight 214 = .ok (.ifCond .eq 7, 3) := by decide +kernel
theorem dX10_isRight_217 : decode cX10_isRight 217 = .ok (.iconst 1, 1) := by decide +kernel
theorem dX10_isRight_218 : decode cX10_isRight 218 = .ok (.goto 4, 3) := by decide +kernel
theorem dX10_isRight_221 : decode cX10_isRight 221 = .ok (.iconst 0, 1) := by decide +kernel
theorem dX10_isRight_222 : decode cX10_isRight 222 = .ok (.ireturn, 1) := by decide +kernel
theorem dX10_isRight_223 : decode cX10_isRight 223 = .ok (.iload_n 2, 1) := by decide +kernel
theorem dX10_isRight_224 : decode cX10_isRight 224 = .ok (.iconst 4, 1) := by decide +kernel
theorem dX10_isRight_225 : decode cX10_isRight 225 = .ok (.invokestatic 86, 3) := by decide +kernel
theorem dX10_isRight_228 : decode cX10_isRight 228 = .ok (.ireturn, 1) := by decide +kernel
theorem dX10_isRight_229 : decode cX10_isRight 229 = .ok (.iload_n 2, 1) := by decide +kernel
theorem dX10_isRight_230 : decode cX10_isRight 230 = .ok (.iconst 4, 1) := by decide +kernel
theorem dX10_isRight_231 : decode cX10_isRight 231 = .ok (.invokestatic 86, 3) := by decide +kernel
theorem dX10_isRight_234 : decode cX10_isRight 234 = .ok (.ifCond .eq 15, 3) := by decide +kernel
theorem dX10_isRight_237 : decode cX10_isRight 237 = .ok (.iload_n 3, 1) := by decide +kernel
theorem dX10_isRight_238 : decode cX10_isRight 238 = .ok (.iconst 4, 1) := by decide +kernel
theorem dX10_isRight_239 : decode cX10_isRight 239 = .ok (.invokestatic 86, 3) := by decide +kernel
theorem dX10_isRight_242 : decode cX10_isRight 242 = .ok (.ifCond .eq 7, 3) := by decide +kernel
theorem dX10_isRight_245 : decode cX10_isRight 245 = .ok (.iconst 1, 1) := by decide +kernel
theorem dX10_isRight_246 : decode cX10_isRight 246 = .ok (.goto 4, 3) := by decide +kernel
theorem dX10_isRight_249 : decode cX10_isRight 249 = .ok (.iconst 0, 1) := by decide +kernel
theorem dX10_isRight_250 : decode cX10_isRight 250 = .ok (.ireturn, 1) := by decide +kernel
theorem dX10_isRight_251 : decode cX10_isRight 251 = .ok (.aload_n 0, 1) := by decide +kernel
theorem dX10_isRight_252 : decode cX10_isRight 252 = .ok (.iload_n 2, 1) := by decide +kernel
theorem dX10_isRight_253 : decode cX10_isRight 253 = .ok (.invokevirtual 90, 3) := by decide +kernel
theorem dX10_isRight_256 : decode cX10_isRight 256 = .ok (.ifCond .eq 15, 3) := by decide +kernel
theorem dX10_isRight_259 : decode cX10_isRight 259 = .ok (.aload_n 0, 1) := by decide +kernel
theorem dX10_isRight_260 : decode cX10_isRight 260 = .ok (.iload_n 3, 1) := by decide +kernel
theorem dX10_isRight_261 : decode cX10_isRight 261 = .ok (.invokevirtual 90, 3) := by decide +kernel
theorem dX10_isRight_264 : decode cX10_isRight 264 = .ok (.ifCond .eq 7, 3) := by decide +kernel
theorem dX10_isRight_267 : decode cX10_isRight 267 = .ok (.iconst 1, 1) := by decide +kernel
theorem dX10_isRight_268 : decode cX10_isRight 268 = .ok (.goto 4, 3) := by decide +kernel
theorem dX10_isRight_271 : decode cX10_isRight 271 = .ok (.iconst 0, 1) := by decide +kernel
theorem dX10_isRight_272 : decode cX10_isRight 272 = .ok (.ireturn, 1) := by decide +kernel
theorem dX10_isRight_273 : decode cX10_isRight 273 = .ok (.iload_n 2, 1) := by decide +kernel
theorem dX10_isRight_274 : decode cX10_isRight 274 = .ok (.bipush 8, 2) := by decide +kernel
theorem dX10_isRight_276 : decode cX10_isRight 276 = .ok (.invokestatic 86, 3) := by decide +kernel
theorem dX10_isRight_279 : decode cX10_isRight 279 = .ok (.ifCond .eq 24, 3) := by decide +kernel
theorem dX10_isRight_282 : decode cX10_isRight 282 = .ok (.aload_n 0, 1) := by decide +kernel
theorem dX10_isRight_283 : decode cX10_isRight 283 = .ok (.iload_n 3, 1) := by decide +kernel
theorem dX10_isRight_284 : decode cX10_isRight 284 = .ok (.invokevirtual 90, 3) := by decide +kernel
theorem dX10_isRight_287 : decode cX10_isRight 287 = .ok (.ifCond .eq 16, 3) := by decide +kernel
theorem dX10_isRight_290 : decode cX10_isRight 290 = .ok (.aload_n 0, 1) := by decide +kernel
theorem dX10_isRight_291 : decode cX10_isRight 291 = .ok (.iload 4, 2) := by decide +kernel
theorem dX10_isRight_293 : decode cX10_isRight 293 = .ok (.invokevirtual 90, 3) := by decide +kernel
theorem dX10_isRight_296 : decode cX10_isRight 296 = .ok (.ifCond .eq 7, 3) := by decide +kernel
theorem dX10_isRight_299 : decode cX10_isRight 299 = .ok (.iconst 1, 1) := by decide +kernel
theorem dX10_isRight_300 : decode cX10_isRight 300 = .ok (.goto 4, 3) := by decide +kernel
theorem dX10_isRight_303 : decode cX10_isRight 303 = .ok (.iconst 0, 1) := by decide +kernel
theorem dX10_isRight_304 : decode cX10_isRight 304 = .ok (.ireturn, 1) := by decide +kernel
theorem dX10_isRight_305 : decode cX10_isRight 305 = .ok (.iload_n 2, 1) := by decide +kernel
theorem dX10_isRight_306 : decode cX10_isRight 306 = .ok (.bipush 8, 2) := by decide +kernel
theorem dX10_isRight_308 : decode cX10_isRight 308 = .ok (.invokestatic 86, 3) := by decide +kernel
theorem dX10_isRight_311 : decode cX10_isRight 311 = .ok (.ifCond .eq 15, 3) := by decide +kernel
theorem dX10_isRight_314 : decode cX10_isRight 314 = .ok (.aload_n 0, 1) := by decide +kernel
theorem dX10_isRight_315 : decode cX10_isRight 315 = .ok (.iload_n 3, 1) := by decide +kernel
theorem dX10_isRight_316 : decode cX10_isRight 316 = .ok (.invokevirtual 90, 3) := by decide +kernel
theorem dX10_isRight_319 : decode cX10_isRight 319 = .ok (.ifCond .eq 7, 3) := by decide +kernel
theorem dX10_isRight_322 : decode cX10_isRight 322 = .ok (.iconst 1, 1) := by decide +kernel
theorem dX10_isRight_323 : decode cX10_isRight 323 = .ok (.goto 4, 3) := by decide +kernel
theorem dX10_isRight_326 : decode cX10_isRight 326 = .ok (.iconst 0, 1) := by decide +kernel
theorem dX10_isRight_327 : decode cX10_isRight 327 = .ok (.ireturn, 1) := by decide +kernel
theorem dX10_isRight_328 : decode cX10_isRight 328 = .ok (.iload_n 2, 1) := by decide +kernel
theorem dX10_isRight_329 : decode cX10_isRight 329 = .ok (.bipush 8, 2) := by decide +kernel
theorem dX10_isRight_331 : decode cX10_isRight 331 = .ok (.invokestatic 86, 3) := by decide +kernel
theorem dX10_isRight_334 : decode cX10_isRight 334 = .ok (.ireturn, 1) := by decide +kernel
theorem dX10_isRight_335 : decode cX10_isRight 335 = .ok (.iload_n 2, 1) := by decide +kernel
theorem dX10_isRight_336 : decode cX10_isRight 336 = .ok (.bipush 8, 2) := by decide +kernel
theorem dX10_isRight_338 : decode cX10_isRight 338 = .ok (.invokestatic 86, 3) := by decide +kernel
theorem dX10_isRight_341 : decode cX10_isRight 341 = .ok (.ireturn, 1) := by decide +kernel
theorem dX10_isRight_342 : decode cX10_isRight 342 = .ok (.iload_n 2, 1) := by decide +kernel
theorem dX10_isRight_343 : decode cX10_isRight 343 = .ok (.bipush 8, 2) := by decide +kernel
theorem dX10_isRight_345 : decode cX10_isRight 345 = .ok (.invokestatic 86, 3) := by decide +kernel
theorem dX10_isRight_348 : decode cX10_isRight 348 = .ok (.ireturn, 1) := by decide +kernel
theorem dX10_isRight_349 : decode cX10_isRight 349 = .ok (.iload_n 2, 1) := by decide +kernel
theorem dX10_isRight_350 : decode cX10_isRight 350 = .ok (.bipush 8, 2) := by decide +kernel
theorem dX10_isRight_352 : decode cX10_isRight 352 = .ok (.invokestatic 86, 3) := by decide +kernel
theorem dX10_isRight_355 : decode cX10_isRight 355 = .ok (.ireturn, 1) := by decide +kernel
theorem dX10_isRight_356 : decode cX10_isRight 356 = .ok (.aload_n 0, 1) := by decide +kernel
theorem dX10_isRight_357 : decode cX10_isRight 357 = .ok (.iload_n 2, 1) := by decide +kernel
theorem dX10_isRight_358 : decode cX10_isRight 358 = .ok (.invokevirtual 90, 3) := by decide +kernel
theorem dX10_isRight_361 : decode cX10_isRight 361 = .ok (.ifCond .eq 26, 3) := by decide +kernel
theorem dX10_isRight_364 : decode cX10_isRight 364 = .ok (.iload_n 3, 1) := by decide +kernel
theorem dX10_isRight_365 : decode cX10_isRight 365 = .ok (.sipush 128, 3) := by decide +kernel
theorem dX10_isRight_368 : decode cX10_isRight 368 = .ok (.invokestatic 86, 3) := by decide +kernel
theorem dX10_isRight_371 : decode cX10_isRight 371 = .ok (.ifCond .eq 16, 3) := by decide +kernel
theorem dX10_isRight_374 : decode cX10_isRight 374 = .ok (.aload_n 0, 1) := by decide +kernel
theorem dX10_isRight_375 : decode cX10_isRight 375 = .ok (.iload 4, 2) := by decide +kernel
theorem dX10_isRight_377 : decode cX10_isRight 377 = .ok (.invokevirtual 90, 3) := by decide +kernel
theorem dX10_isRight_380 : decode cX10_isRight 380 = .ok (.ifCond .eq 7, 3) := by decide +kernel
theorem dX10_isRight_383 : decode cX10_isRight 383 = .ok (.iconst 1, 1) := by decide +kernel
theorem dX10_isRight_384 : decode cX10_isRight 384 = .ok (.goto 4, 3) := by decide +kernel
theorem dX10_isRight_387 : decode cX10_isRight 387 = .ok (.iconst 0, 1) := by decide +kernel
theorem dX10_isRight_388 : decode cX10_isRight 388 = .ok (.ireturn, 1) := by decide +kernel
theorem dX10_isRight_389 : decode cX10_isRight 389 = .ok (.aload_n 0, 1) := by decide +kernel
theorem dX10_isRight_390 : decode cX10_isRight 390 = .ok (.iload_n 2, 1) := by decide +kernel
theorem dX10_isRight_391 : decode cX10_isRight 391 = .ok (.invokevirtual 90, 3) := by decide +kernel
theorem dX10_isRight_394 : decode cX10_isRight 394 = .ok (.ifCond .eq 15, 3) := by decide +kernel
theorem dX10_isRight_397 : decode cX10_isRight 397 = .ok (.aload_n 0, 1) := by decide +kernel
theorem dX10_isRight_398 : decode cX10_isRight 398 = .ok (.iload_n 3, 1) := by decide +kernel
theorem dX10_isRight_399 : decode cX10_isRight 399 = .ok (.invokevirtual 90, 3) := by decide +kernel
theorem dX10_isRight_402 : decode cX10_isRight 402 = .ok (.ifCond .eq 7, 3) := by decide +kernel
theorem dX10_isRight_405 : decode cX10_isRight 405 = .ok (.iconst 1, 1) := by decide +kernel
theorem dX10_isRight_406 : decode cX10_isRight 406 = .ok (.goto 4, 3) := by decide +kernel
theorem dX10_isRight_409 : decode cX10_isRight 409 = .ok (.iconst 0, 1) := by decide +kernel
theorem dX10_isRight_410 : decode cX10_isRight 410 = .ok (.ireturn, 1) := by decide +kernel
theorem dX10_isRight_411 : decode cX10_isRight 411 = .ok (.iload_n 2, 1) := by decide +kernel
theorem dX10_isRight_412 : decode cX10_isRight 412 = .ok (.iconst 4, 1) := by decide +kernel
theorem dX10_isRight_413 : decode cX10_isRight 413 = .ok (.invokestatic 86, 3) := by decide +kernel
theorem dX10_isRight_416 : decode cX10_isRight 416 = .ok (.ifCond .eq 15, 3) := by decide +kernel
theorem dX10_isRight_419 : decode cX10_isRight 419 = .ok (.aload_n 0, 1) := by decide +kernel
theorem dX10_isRight_420 : decode cX10_isRight 420 = .ok (.iload_n 3, 1) := by decide +kernel
theorem dX10_isRight_421 : decode cX10_isRight 421 = .ok (.invokevirtual 90, 3) := by decide +kernel
theorem dX10_isRight_424 : decode cX10_isRight 424 = .ok (.ifCond .eq 7, 3) := by decide +kernel
theorem dX10_isRight_427 : decode cX10_isRight 427 = .ok (.iconst 1, 1) := by decide +kernel
theorem dX10_isRight_428 : decode cX10_isRight 428 = .ok (.goto 4, 3) := by decide +kernel
theorem dX10_isRight_431 : decode cX10_isRight 431 = .ok (.iconst 0, 1) := by decide +kernel
theorem dX10_isRight_432 : decode cX10_isRight 432 = .ok (.ireturn, 1) := by decide +kernel
theorem dX10_isRight_433 : decode cX10_isRight 433 = .ok (.iload_n 1, 1) := by decide +kernel
theorem dX10_isRight_434 : decode cX10_isRight 434 = .ok (.iconst 1, 1) := by decide +kernel
theorem dX10_isRight_435 : decode cX10_isRight 435 = .ok (.if_icmp .lt 40, 3) := by decide +kernel
theorem dX10_isRight_438 : decode cX10_isRight 438 = .ok (.iload_n 1, 1) := by decide +kernel
theorem dX10_isRight_439 : decode cX10_isRight 439 = .ok (.iconst 5, 1) := by decide +kernel
theorem dX10_isRight_440 : decode cX10_isRight 440 = .ok (.if_icmp .gt 35, 3) := by decide +kernel
theorem dX10_isRight_443 : decode cX10_isRight 443 = .ok (.iload_n 2, 1) := by decide +kernel
theorem dX10_isRight_444 : decode cX10_isRight 444 = .ok (.bipush 8, 2) := by decide +kernel
theorem dX10_isRight_446 : decode cX10_isRight 446 = .ok (.invokestatic 86, 3) := by decide +kernel
theorem dX10_isRight_449 : decode cX10_isRight 449 = .ok (.ifCond .eq 26, 3) := by decide +kernel
theorem dX10_isRight_452 : decode cX10_isRight 452 = .ok (.iload_n 3, 1) := by decide +kernel
theorem dX10_isRight_453 : decode cX10_isRight 453 = .ok (.bipush 8, 2) := by decide +kernel
theorem dX10_isRight_455 : decode cX10_isRight 455 = .ok (.invokestatic 86, 3) := by decide +kernel
theorem dX10_isRight_458 : decode cX10_isRight 458 = .ok (.ifCond .eq 17, 3) := by decide +kernel
theorem dX10_isRight_461 : decode cX10_isRight 461 = .ok (.iload 4, 2) := by decide +kernel
theorem dX10_isRight_463 : decode cX10_isRight 463 = .ok (.bipush 8, 2) := by decide +kernel
theorem dX10_isRight_465 : decode cX10_isRight 465 = .ok (.invokestatic 86, 3) := by decide +kernel
theorem dX10_isRight_468 : decode cX10_isRight 468 = .ok (.ifCond .eq 7, 3) := by decide +kernel
theorem dX10_isRight_471 : decode cX10_isRight 471 = .ok (.iconst 1, 1) := by decide +kernel
theorem dX10_isRight_472 : decode cX10_isRight 472 = .ok (.goto 4, 3) := by decide +kernel
theorem dX10_isRight_475 : decode cX10_isRight 475 = .ok (.iconst 0, 1) := by decide +kernel
theorem dX10_isRight_476 : decode cX10_isRight 476 = .ok (.ireturn, 1) := by decide +kernel
theorem dX10_highest_0 : decode cX10_highest 0 = .ok (.iconst 1, 1) := by decide +kernel
theorem dX10_highest_1 : decode cX10_highest 1 = .ok (.aload_n 0, 1) := by decide +kernel
theorem dX10_highest_2 : decode cX10_highest 2 = .ok (.getfield 26, 3) := by decide +kernel
theorem dX10_highest_5 : decode cX10_highest 5 = .ok (.iload_n 1, 1) := by decide +kernel
theorem dX10_highest_6 : decode cX10_highest 6 = .ok (.iaload, 1) := by decide +kernel
theorem dX10_highest_7 : decode cX10_highest 7 = .ok (.aload_n 0, 1) := by decide +kernel
theorem dX10_highest_8 : decode cX10_highest 8 = .ok (.getfield 26, 3) := by decide +kernel
theorem dX10_highest_11 : decode cX10_highest 11 = .ok (.iload_n 2, 1) := by decide +kernel
theorem dX10_highest_12 : decode cX10_highest 12 = .ok (.iaload, 1) := by decide +kernel
theorem dX10_highest_13 : decode cX10_highest 13 = .ok (.if_icmp .le 12, 3) := by decide +kernel
theorem dX10_highest_16 : decode cX10_highest 16 = .ok (.aload_n 0, 1) := by decide +kernel
theorem dX10_highest_17 : decode cX10_highest 17 = .ok (.getfield 26, 3) := by decide +kernel
theorem dX10_highest_20 : decode cX10_highest 20 = .ok (.iload_n 1, 1) := by decide +kernel
theorem dX10_highest_21 : decode cX10_highest 21 = .ok (.iaload, 1) := by decide +kernel
theorem dX10_highest_22 : decode cX10_highest 22 = .ok (.goto 9, 3) := by decide +kernel
theorem dX10_highest_25 : decode cX10_highest 25 = .ok (.aload_n 0, 1) := by decide +kernel
theorem dX10_highest_26 : decode cX10_highest 26 = .ok (.getfield 26, 3) := by decide +kernel
theorem dX10_highest_29 : decode cX10_highest 29 = .ok (.iload_n 2, 1) := by decide +kernel
theorem dX10_highest_30 : decode cX10_highest 30 = .ok (.iaload, 1) := by decide +kernel
theorem dX10_highest_31 : decode cX10_highest 31 = .ok (.iadd, 1) := by decide +kernel
theorem dX10_highest_32 : decode cX10_highest 32 = .ok (.ireturn, 1) := by decide +kernel
theorem dX10_heightOf_0 : decode cX10_heightOf 0 = .ok (.iload_n 1, 1) := by decide +kernel
theorem dX10_heightOf_1 : decode cX10_heightOf 1 = .ok (.tableswitch 95 12 20 #[51, 58, 66, 95, 95, 95, 73, 81, 88], 51) := by decide +kernel
theorem dX10_heightOf_52 : decode cX10_heightOf 52 = .ok (.aload_n 0, 1) := by decide +kernel
theorem dX10_heightOf_53 : decode cX10_heightOf 53 = .ok (.iload_n 2, 1) := by decide +kernel
theorem dX10_heightOf_54 : decode cX10_heightOf 54 = .ok (.iload_n 3, 1) := by decide +kernel
theorem dX10_heightOf_55 : decode cX10_heightOf 55 = .ok (.invokevirtual 94, 3) := by decide +kernel
theorem dX10_heightOf_58 : decode cX10_heightOf 58 = .ok (.ireturn, 1) := by decide +kernel
theorem dX10_heightOf_59 : decode cX10_heightOf 59 = .ok (.aload_n 0, 1) := by decide +kernel
theorem dX10_heightOf_60 : decode cX10_heightOf 60 = .ok (.iload_n 3, 1) := by decide +kernel
theorem dX10_heightOf_61 : decode cX10_heightOf 61 = .ok (.iload 4, 2) := by decide +kernel
theorem dX10_heightOf_63 : decode cX10_heightOf 63 = .ok (.invokevirtual 94, 3) := by decide +kernel
theorem dX10_heightOf_66 : decode cX10_heightOf 66 = .ok (.ireturn, 1) := by decide +kernel
theorem dX10_heightOf_67 : decode cX10_heightOf 67 = .ok (.aload_n 0, 1) := by decide +kernel
theorem dX10_heightOf_68 : decode cX10_heightOf 68 = .ok (.iload_n 3, 1) := by decide +kernel
theorem dX10_heightOf_69 : decode cX10_heightOf 69 = .ok (.iload_n 3, 1) := by decide +kernel
theorem dX10_heightOf_70 : decode cX10_heightOf 70 = .ok (.invokevirtual 94, 3) := by decide +kernel
theorem dX10_heightOf_73 : decode cX10_heightOf 73 = .ok (.ireturn, 1) := by decide +kernel
theorem dX10_heightOf_74 : decode cX10_heightOf 74 = .ok (.aload_n 0, 1) := by decide +kernel
theorem dX10_heightOf_75 : decode cX10_heightOf 75 = .ok (.iload_n 2, 1) := by decide +kernel
theorem dX10_heightOf_76 : decode cX10_heightOf 76 = .ok (.iload 4, 2) := by decide +kernel
theorem dX10_heightOf_78 : decode cX10_heightOf 78 = .ok (.invokevirtual 94, 3) := by decide +kernel
theorem dX10_heightOf_81 : decode cX10_heightOf 81 = .ok (.ireturn, 1) := by decide +kernel
theorem dX10_heightOf_82 : decode cX10_heightOf 82 = .ok (.aload_n 0, 1) := by decide +kernel
theorem dX10_heightOf_83 : decode cX10_heightOf 83 = .ok (.iload_n 2, 1) := by decide +kernel
theorem dX10_heightOf_84 : decode cX10_heightOf 84 = .ok (.iload_n 3, 1) := by decide +kernel
theorem dX10_heightOf_85 : decode cX10_heightOf 85 = .ok (.invokevirtual 94, 3) := by decide +kernel
theorem dX10_heightOf_88 : decode cX10_heightOf 88 = .ok (.ireturn, 1) := by decide +kernel
theorem dX10_heightOf_89 : decode cX10_heightOf 89 = .ok (.aload_n 0, 1) := by decide +kernel
theorem dX10_heightOf_90 : decode cX10_heightOf 90 = .ok (.iload_n 3, 1) := by decide +kernel
theorem dX10_heightOf_91 : decode cX10_heightOf 91 = .ok (.iload_n 3, 1) := by decide +kernel
theorem dX10_heightOf_92 : decode cX10_heightOf 92 = .ok (.invokevirtual 94, 3) := by decide +kernel
theorem dX10_heightOf_95 : decode cX10_heightOf 95 = .ok (.ireturn, 1) := by decide +kernel
theorem dX10_heightOf_96 : decode cX10_heightOf 96 = .ok (.iconst 1, 1) := by decide +kernel
theorem dX10_heightOf_97 : decode cX10_heightOf 97 = .ok (.ireturn, 1) := by decide +kernel
theorem dX10_make_0 : decode cX10_make 0 = .ok (.aload_n 0, 1) := by decide +kernel
theorem dX10_make_1 : decode cX10_make 1 = .ok (.iconst 0, 1) := by decide +kernel
theorem dX10_make_2 : decode cX10_make 2 = .ok (.putfield 1, 3) := by decide +kernel
theorem dX10_make_5 : decode cX10_make 5 = .ok (.iload_n 1, 1) := by decide +kernel
theorem dX10_make_6 : decode cX10_make 6 = .ok (.ifCond .lt 35, 3) := by decide +kernel
theorem dX10_make_9 : decode cX10_make 9 = .ok (.iload_n 1, 1) := by decide +kernel
theorem dX10_make_10 : decode cX10_make 10 = .ok (.bipush 21, 2) := by decide +kernel
theorem dX10_make_12 : decode cX10_make 12 = .ok (.if_icmp .gt 29, 3) := by decide +kernel
theorem dX10_make_15 : decode cX10_make 15 = .ok (.aload_n 0, 1) := by decide +kernel
theorem dX10_make_16 : decode cX10_make 16 = .ok (.iload_n 1, 1) := by decide +kernel
theorem dX10_make_17 : decode cX10_make 17 = .ok (.iload_n 2, 1) := by decide +kernel
theorem dX10_make_18 : decode cX10_make 18 = .ok (.iload_n 3, 1) := by decide +kernel
theorem dX10_make_19 : decode cX10_make 19 = .ok (.iload 4, 2) := by decide +kernel
theorem dX10_make_21 : decode cX10_make 21 = .ok (.invokevirtual 98, 3) := by decide +kernel
theorem dX10_make_24 : decode cX10_make 24 = .ok (.ifCond .eq 17, 3) := by decide +kernel
theorem dX10_make_27 : decode cX10_make 27 = .ok (.aload_n 0, 1) := by decide +kernel
theorem dX10_make_28 : decode cX10_make 28 = .ok (.iload_n 1, 1) := by decide +kernel
theorem dX10_make_29 : decode cX10_make 29 = .ok (.iload_n 2, 1) := by decide +kernel
theorem dX10_make_30 : decode cX10_make 30 = .ok (.iload_n 3, 1) := by decide +kernel
theorem dX10_make_31 : decode cX10_make 31 = .ok (.iload 4, 2) := by decide +kernel
theorem dX10_make_33 : decode cX10_make 33 = .ok (.invokevirtual 102, 3) := by decide +kernel
theorem dX10_make_36 : decode cX10_make 36 = .ok (.bipush 16, 2) := by decide +kernel
theorem dX10_make_38 : decode cX10_make 38 = .ok (.if_icmp .le 6, 3) := by decide +kernel
theorem dX10_make_41 : decode cX10_make 41 = .ok (.bipush (-2), 2) := by decide +kernel
theorem dX10_make_43 : decode cX10_make 43 = .ok (.ireturn, 1) := by decide +kernel
theorem dX10_make_44 : decode cX10_make 44 = .ok (.aload_n 0, 1) := by decide +kernel
theorem dX10_make_45 : decode cX10_make 45 = .ok (.getfield 83, 3) := by decide +kernel
theorem dX10_make_48 : decode cX10_make 48 = .ok (.bipush 120, 2) := by decide +kernel
theorem dX10_make_50 : decode cX10_make 50 = .ok (.if_icmp .ne 6, 3) := by decide +kernel
theorem dX10_make_53 : decode cX10_make 53 = .ok (.bipush (-3), 2) := by decide +kernel
theorem dX10_make_55 : decode cX10_make 55 = .ok (.ireturn, 1) := by decide +kernel
theorem dX10_make_56 : decode cX10_make 56 = .ok (.aload_n 0, 1) := by decide +kernel
theorem dX10_make_57 : decode cX10_make 57 = .ok (.getfield 13, 3) := by decide +kernel
theorem dX10_make_60 : decode cX10_make 60 = .ok (.aload_n 0, 1) := by decide +kernel
theorem dX10_make_61 : decode cX10_make 61 = .ok (.getfield 83, 3) := by decide +kernel
theorem dX10_make_64 : decode cX10_make 64 = .ok (.iload_n 1, 1) := by decide +kernel
theorem dX10_make_65 : decode cX10_make 65 = .ok (.iastore, 1) := by decide +kernel
theorem dX10_make_66 : decode cX10_make 66 = .ok (.aload_n 0, 1) := by decide +kernel
theorem dX10_make_67 : decode cX10_make 67 = .ok (.getfield 17, 3) := by decide +kernel
theorem dX10_make_70 : decode cX10_make 70 = .ok (.aload_n 0, 1) := by decide +kernel
theorem dX10_make_71 : decode cX10_make 71 = .ok (.getfield 83, 3) := by decide +kernel
theorem dX10_make_74 : decode cX10_make 74 = .ok (.iload_n 2, 1) := by decide +kernel
theorem dX10_make_75 : decode cX10_make 75 = .ok (.iastore, 1) := by decide +kernel
theorem dX10_make_76 : decode cX10_make 76 = .ok (.aload_n 0, 1) := by decide +kernel
theorem dX10_make_77 : decode cX10_make 77 = .ok (.getfield 20, 3) := by decide +kernel
theorem dX10_make_80 : decode cX10_make 80 = .ok (.aload_n 0, 1) := by decide +kernel
theorem dX10_make_81 : decode cX10_make 81 = .ok (.getfield 83, 3) := by decide +kernel
theorem dX10_make_84 : decode cX10_make 84 = .ok (.iload_n 3, 1) := by decide +kernel
theorem dX10_make_85 : decode cX10_make 85 = .ok (.iastore, 1) := by decide +kernel
theorem dX10_make_86 : decode cX10_make 86 = .ok (.aload_n 0, 1) := by decide +kernel
theorem dX10_make_87 : decode cX10_make 87 = .ok (.getfield 23, 3) := by decide +kernel
theorem dX10_make_90 : decode cX10_make 90 = .ok (.aload_n 0, 1) := by decide +kernel
theorem dX10_make_91 : decode cX10_make 91 = .ok (.getfield 83, 3) := by decide +kernel
theorem dX10_make_94 : decode cX10_make 94 = .ok (.iload 4, 2) := by decide +kernel
theorem dX10_make_96 : decode cX10_make 96 = .ok (.iastore, 1) := by decide +kernel
theorem dX10_make_97 : decode cX10_make 97 = .ok (.aload_n 0, 1) := by decide +kernel
theorem dX10_make_98 : decode cX10_make 98 = .ok (.getfield 26, 3) := by decide +kernel
theorem dX10_make_101 : decode cX10_make 101 = .ok (.aload_n 0, 1) := by decide +kernel
theorem dX10_make_102 : decode cX10_make 102 = .ok (.getfield 83, 3) := by decide +kernel
theorem dX10_make_105 : decode cX10_make 105 = .ok (.aload_n 0, 1) := by decide +kernel
theorem dX10_make_106 : decode cX10_make 106 = .ok (.iload_n 1, 1) := by decide +kernel
theorem dX10_make_107 : decode cX10_make 107 = .ok (.iload_n 2, 1) := by decide +kernel
theorem dX10_make_108 : decode cX10_make 108 = .ok (.iload_n 3, 1) := by decide +kernel
theorem dX10_make_109 : decode cX10_make 109 = .ok (.iload 4, 2) := by decide +kernel
theorem dX10_make_111 : decode cX10_make 111 = .ok (.invokevirtual 102, 3) := by decide +kernel
theorem dX10_make_114 : decode cX10_make 114 = .ok (.iastore, 1) := by decide +kernel
theorem dX10_make_115 : decode cX10_make 115 = .ok (.aload_n 0, 1) := by decide +kernel
theorem dX10_make_116 : decode cX10_make 116 = .ok (.dup, 1) := by decide +kernel
theorem dX10_make_117 : decode cX10_make 117 = .ok (.getfield 83, 3) := by decide +kernel
theorem dX10_make_120 : decode cX10_make 120 = .ok (.iconst 1, 1) := by decide +kernel
theorem dX10_make_121 : decode cX10_make 121 = .ok (.iadd, 1) := by decide +kernel
theorem dX10_make_122 : decode cX10_make 122 = .ok (.putfield 83, 3) := by decide +kernel
theorem dX10_make_125 : decode cX10_make 125 = .ok (.aload_n 0, 1) := by decide +kernel
theorem dX10_make_126 : decode cX10_make 126 = .ok (.getfield 83, 3) := by decide +kernel
theorem dX10_make_129 : decode cX10_make 129 = .ok (.iconst 1, 1) := by decide +kernel
theorem dX10_make_130 : decode cX10_make 130 = .ok (.isub, 1) := by decide +kernel
theorem dX10_make_131 : decode cX10_make 131 = .ok (.ireturn, 1) := by decide +kernel
theorem dX10_drop_0 : decode cX10_drop 0 = .ok (.aload_n 0, 1) := by decide +kernel
theorem dX10_drop_1 : decode cX10_drop 1 = .ok (.iconst 0, 1) := by decide +kernel
theorem dX10_drop_2 : decode cX10_drop 2 = .ok (.putfield 1, 3) := by decide +kernel
theorem dX10_drop_5 : decode cX10_drop 5 = .ok (.aload_n 0, 1) := by decide +kernel
theorem dX10_drop_6 : decode cX10_drop 6 = .ok (.getfield 83, 3) := by decide +kernel
theorem dX10_drop_9 : decode cX10_drop 9 = .ok (.ifCond .le 7, 3) := by decide +kernel
theorem dX10_drop_12 : decode cX10_drop 12 = .ok (.iconst 1, 1) := by decide +kernel
theorem dX10_drop_13 : decode cX10_drop 13 = .ok (.goto 4, 3) := by decide +kernel
theorem dX10_drop_16 : decode cX10_drop 16 = .ok (.iconst 0, 1) := by decide +kernel
theorem dX10_drop_17 : decode cX10_drop 17 = .ok (.istore_n 1, 1) := by decide +kernel
theorem dX10_drop_18 : decode cX10_drop 18 = .ok (.iconst 0, 1) := by decide +kernel
theorem dX10_drop_19 : decode cX10_drop 19 = .ok (.istore_n 2, 1) := by decide +kernel
theorem dX10_drop_20 : decode cX10_drop 20 = .ok (.iload_n 2, 1) := by decide +kernel
theorem dX10_drop_21 : decode cX10_drop 21 = .ok (.bipush 8, 2) := by decide +kernel
theorem dX10_drop_23 : decode cX10_drop 23 = .ok (.if_icmp .ge 34, 3) := by decide +kernel
theorem dX10_drop_26 : decode cX10_drop 26 = .ok (.iload_n 1, 1) := by decide +kernel
theorem dX10_drop_27 : decode cX10_drop 27 = .ok (.ifCond .eq 22, 3) := by decide +kernel
theorem dX10_drop_30 : decode cX10_drop 30 = .ok (.aload_n 0, 1) := by decide +kernel
theorem dX10_drop_31 : decode cX10_drop 31 = .ok (.getfield 29, 3) := by decide +kernel
theorem dX10_drop_34 : decode cX10_drop 34 = .ok (.iload_n 2, 1) := by decide +kernel
theorem dX10_drop_35 : decode cX10_drop 35 = .ok (.iaload, 1) := by decide +kernel
theorem dX10_drop_36 : decode cX10_drop 36 = .ok (.aload_n 0, 1) := by decide +kernel
theorem dX10_drop_37 : decode cX10_drop 37 = .ok (.getfield 83, 3) := by decide +kernel
theorem dX10_drop_40 : decode cX10_drop 40 = .ok (.iconst 1, 1) := by decide +kernel
theorem dX10_drop_41 : decode cX10_drop 41 = .ok (.isub, 1) := by decide +kernel
theorem dX10_drop_42 : decode cX10_drop 42 = .ok (.if_icmp .eq 7, 3) := by decide +kernel
theorem dX10_drop_45 : decode cX10_drop 45 = .ok (.iconst 1, 1) := by decide +kernel
theorem dX10_drop_46 : decode cX10_drop 46 = .ok (.goto 4, 3) := by decide +kernel
theorem dX10_drop_49 : decode cX10_drop 49 = .ok (.iconst 0, 1) := by decide +kernel
theorem dX10_drop_50 : decode cX10_drop 50 = .ok (.istore_n 1, 1) := by decide +kernel
theorem dX10_drop_51 : decode cX10_drop 51 = .ok (.iinc 2 1, 3) := by decide +kernel
theorem dX10_drop_54 : decode cX10_drop 54 = .ok (.goto (-34), 3) := by decide +kernel
theorem dX10_drop_57 : decode cX10_drop 57 = .ok (.iload_n 1, 1) := by decide +kernel
theorem dX10_drop_58 : decode cX10_drop 58 = .ok (.ifCond .ne 6, 3) := by decide +kernel
theorem dX10_drop_61 : decode cX10_drop 61 = .ok (.bipush (-2), 2) := by decide +kernel
theorem dX10_drop_63 : decode cX10_drop 63 = .ok (.ireturn, 1) := by decide +kernel
theorem dX10_drop_64 : decode cX10_drop 64 = .ok (.aload_n 0, 1) := by decide +kernel
theorem dX10_drop_65 : decode cX10_drop 65 = .ok (.dup, 1) := by decide +kernel
theorem dX10_drop_66 : decode cX10_drop 66 = .ok (.getfield 83, 3) := by decide +kernel
theorem dX10_drop_69 : decode cX10_drop 69 = .ok (.iconst 1, 1) := by decide +kernel
theorem dX10_drop_70 : decode cX10_drop 70 = .ok (.isub, 1) := by decide +kernel
theorem dX10_drop_71 : decode cX10_drop 71 = .ok (.putfield 83, 3) := by decide +kernel
theorem dX10_drop_74 : decode cX10_drop 74 = .ok (.aload_n 0, 1) := by decide +kernel
theorem dX10_drop_75 : decode cX10_drop 75 = .ok (.getfield 83, 3) := by decide +kernel
theorem dX10_drop_78 : decode cX10_drop 78 = .ok (.ireturn, 1) := by decide +kernel
theorem dX10_body_0 : decode cX10_body 0 = .ok (.aload_n 0, 1) := by decide +kernel
theorem dX10_body_1 : decode cX10_body 1 = .ok (.iconst 0, 1) := by decide +kernel
theorem dX10_body_2 : decode cX10_body 2 = .ok (.putfield 1, 3) := by decide +kernel
theorem dX10_body_5 : decode cX10_body 5 = .ok (.iload_n 1, 1) := by decide +kernel
theorem dX10_body_6 : decode cX10_body 6 = .ok (.bipush 8, 2) := by decide +kernel
theorem dX10_body_8 : decode cX10_body 8 = .ok (.invokestatic 86, 3) := by decide +kernel
theorem dX10_body_11 : decode cX10_body 11 = .ok (.ifCond .eq 16, 3) := by decide +kernel
theorem dX10_body_14 : decode cX10_body 14 = .ok (.iload_n 2, 1) := by decide +kernel
theorem dX10_body_15 : decode cX10_body 15 = .ok (.iconst (-1), 1) := by decide +kernel
theorem dX10_body_16 : decode cX10_body 16 = .ok (.if_icmp .eq 14, 3) := by decide +kernel
theorem dX10_body_19 : decode cX10_body 19 = .ok (.aload_n 0, 1) := by decide +kernel
theorem dX10_body_20 : decode cX10_body 20 = .ok (.iload_n 2, 1) := by decide +kernel
theorem dX10_body_21 : decode cX10_body 21 = .ok (.invokevirtual 90, 3) := by decide +kernel
theorem dX10_body_24 : decode cX10_body 24 = .ok (.ifCond .ne 6, 3) := by decide +kernel
theorem dX10_body_27 : decode cX10_body 27 = .ok (.bipush (-2), 2) := by decide +kernel
theorem dX10_body_29 : decode cX10_body 29 = .ok (.ireturn, 1) := by decide +kernel
theorem dX10_body_30 : decode cX10_body 30 = .ok (.aload_n 0, 1) := by decide +kernel
theorem dX10_body_31 : decode cX10_body 31 = .ok (.getfield 29, 3) := by decide +kernel
theorem dX10_body_34 : decode cX10_body 34 = .ok (.iload_n 1, 1) := by decide +kernel
theorem dX10_body_35 : decode cX10_body 35 = .ok (.iload_n 2, 1) := by decide +kernel
theorem dX10_body_36 : decode cX10_body 36 = .ok (.iastore, 1) := by decide +kernel
theorem dX10_body_37 : decode cX10_body 37 = .ok (.iconst 1, 1) := by decide +kernel
theorem dX10_body_38 : decode cX10_body 38 = .ok (.ireturn, 1) := by decide +kernel
theorem dX10_push_0 : decode cX10_push 0 = .ok (.aload_n 0, 1) := by decide +kernel
theorem dX10_push_1 : decode cX10_push 1 = .ok (.getfield 62, 3) := by decide +kernel
theorem dX10_push_4 : decode cX10_push 4 = .ok (.aload_n 0, 1) := by decide +kernel
theorem dX10_push_5 : decode cX10_push 5 = .ok (.getfield 106, 3) := by decide +kernel
theorem dX10_push_8 : decode cX10_push 8 = .ok (.iload_n 1, 1) := by decide +kernel
theorem dX10_push_9 : decode cX10_push 9 = .ok (.iastore, 1) := by decide +kernel
theorem dX10_push_10 : decode cX10_push 10 = .ok (.aload_n 0, 1) := by decide +kernel
theorem dX10_push_11 : decode cX10_push 11 = .ok (.getfield 65, 3) := by decide +kernel
theorem dX10_push_14 : decode cX10_push 14 = .ok (.aload_n 0, 1) := by decide +kernel
theorem dX10_push_15 : decode cX10_push 15 = .ok (.getfield 106, 3) := by decide +kernel
theorem dX10_push_18 : decode cX10_push 18 = .ok (.iconst 0, 1) := by decide +kernel
theorem dX10_push_19 : decode cX10_push 19 = .ok (.iastore, 1) := by decide +kernel
theorem dX10_push_20 : decode cX10_push 20 = .ok (.aload_n 0, 1) := by decide +kernel
theorem dX10_push_21 : decode cX10_push 21 = .ok (.dup, 1) := by decide +kernel
theorem dX10_push_22 : decode cX10_push 22 = .ok (.getfield 106, 3) := by decide +kernel
theorem dX10_push_25 : decode cX10_push 25 = .ok (.iconst 1, 1) := by decide +kernel
theorem dX10_push_26 : decode cX10_push 26 = .ok (.iadd, 1) := by decide +kernel
theorem dX10_push_27 : decode cX10_push 27 = .ok (.putfield 106, 3) := by decide +kernel
theorem dX10_push_30 : decode cX10_push 30 = .ok (.aload_n 0, 1) := by decide +kernel
theorem dX10_push_31 : decode cX10_push 31 = .ok (.iconst (-1), 1) := by decide +kernel
theorem dX10_push_32 : decode cX10_push 32 = .ok (.putfield 109, 3) := by decide +kernel
theorem dX10_push_35 : decode cX10_push 35 = .ok (.return_, 1) := by decide +kernel
theorem dX10_comes_0 : decode cX10_comes 0 = .ok (.aload_n 0, 1) := by decide +kernel
theorem dX10_comes_1 : decode cX10_comes 1 = .ok (.dup, 1) := by decide +kernel
theorem dX10_comes_2 : decode cX10_comes 2 = .ok (.getfield 106, 3) := by decide +kernel
theorem dX10_comes_5 : decode cX10_comes 5 = .ok (.iconst 1, 1) := by decide +kernel
theorem dX10_comes_6 : decode cX10_comes 6 = .ok (.isub, 1) := by decide +kernel
theorem dX10_comes_7 : decode cX10_comes 7 = .ok (.putfield 106, 3) := by decide +kernel
theorem dX10_comes_10 : decode cX10_comes 10 = .ok (.aload_n 0, 1) := by decide +kernel
theorem dX10_comes_11 : decode cX10_comes 11 = .ok (.iload_n 1, 1) := by decide +kernel
theorem dX10_comes_12 : decode cX10_comes 12 = .ok (.putfield 109, 3) := by decide +kernel
theorem dX10_comes_15 : decode cX10_comes 15 = .ok (.return_, 1) := by decide +kernel
theorem dX10_throwing_0 : decode cX10_throwing 0 = .ok (.aload_n 0, 1) := by decide +kernel
theorem dX10_throwing_1 : decode cX10_throwing 1 = .ok (.iload_n 1, 1) := by decide +kernel
theorem dX10_throwing_2 : decode cX10_throwing 2 = .ok (.putfield 112, 3) := by decide +kernel
theorem dX10_throwing_5 : decode cX10_throwing 5 = .ok (.aload_n 0, 1) := by decide +kernel
theorem dX10_throwing_6 : decode cX10_throwing 6 = .ok (.iload_n 2, 1) := by decide +kernel
theorem dX10_throwing_7 : decode cX10_throwing 7 = .ok (.putfield 115, 3) := by decide +kernel
theorem dX10_throwing_10 : decode cX10_throwing 10 = .ok (.aload_n 0, 1) := by decide +kernel
theorem dX10_throwing_11 : decode cX10_throwing 11 = .ok (.iconst 2, 1) := by decide +kernel
theorem dX10_throwing_12 : decode cX10_throwing 12 = .ok (.invokevirtual 118, 3) := by decide +kernel
theorem dX10_throwing_15 : decode cX10_throwing 15 = .ok (.return_, 1) := by decide +kernel
theorem dX10_pays_0 : decode cX10_pays 0 = .ok (.aload_n 0, 1) := by decide +kernel
theorem dX10_pays_1 : decode cX10_pays 1 = .ok (.getfield 122, 3) := by decide +kernel
theorem dX10_pays_4 : decode cX10_pays 4 = .ok (.iconst (-1), 1) := by decide +kernel
theorem dX10_pays_5 : decode cX10_pays 5 = .ok (.if_icmp .ne 10, 3) := by decide +kernel
theorem dX10_pays_8 : decode cX10_pays 8 = .ok (.aload_n 0, 1) := by decide +kernel
theorem dX10_pays_9 : decode cX10_pays 9 = .ok (.getfield 125, 3) := by decide +kernel
theorem dX10_pays_12 : decode cX10_pays 12 = .ok (.goto 7, 3) := by decide +kernel
theorem dX10_pays_15 : decode cX10_pays 15 = .ok (.aload_n 0, 1) := by decide +kernel
theorem dX10_pays_16 : decode cX10_pays 16 = .ok (.getfield 128, 3) := by decide +kernel
theorem dX10_pays_19 : decode cX10_pays 19 = .ok (.istore_n 3, 1) := by decide +kernel
theorem dX10_pays_20 : decode cX10_pays 20 = .ok (.iload_n 3, 1) := by decide +kernel
theorem dX10_pays_21 : decode cX10_pays 21 = .ok (.iload_n 2, 1) := by decide +kernel
theorem dX10_pays_22 : decode cX10_pays 22 = .ok (.if_icmp .ge 25, 3) := by decide +kernel
theorem dX10_pays_25 : decode cX10_pays 25 = .ok (.aload_n 0, 1) := by decide +kernel
theorem dX10_pays_26 : decode cX10_pays 26 = .ok (.getfield 122, 3) := by decide +kernel
theorem dX10_pays_29 : decode cX10_pays 29 = .ok (.iconst (-1), 1) := by decide +kernel
theorem dX10_pays_30 : decode cX10_pays 30 = .ok (.if_icmp .ne 11, 3) := by decide +kernel
theorem dX10_pays_33 : decode cX10_pays 33 = .ok (.aload_n 0, 1) := by decide +kernel
theorem dX10_pays_34 : decode cX10_pays 34 = .ok (.iconst 3, 1) := by decide +kernel
theorem dX10_pays_35 : decode cX10_pays 35 = .ok (.putfield 109, 3) := by decide +kernel
theorem dX10_pays_38 : decode cX10_pays 38 = .ok (.goto 7, 3) := by decide +kernel
theorem dX10_pays_41 : decode cX10_pays 41 = .ok (.aload_n 0, 1) := by decide +kernel
theorem dX10_pays_42 : decode cX10_pays 42 = .ok (.invokevirtual 131, 3) := by decide +kernel
theorem dX10_pays_45 : decode cX10_pays 45 = .ok (.iconst 0, 1) := by decide +kernel
theorem dX10_pays_46 : decode cX10_pays 46 = .ok (.ireturn, 1) := by decide +kernel
theorem dX10_pays_47 : decode cX10_pays 47 = .ok (.aload_n 0, 1) := by decide +kernel
theorem dX10_pays_48 : decode cX10_pays 48 = .ok (.getfield 50, 3) := by decide +kernel
theorem dX10_pays_51 : decode cX10_pays 51 = .ok (.iload_n 1, 1) := by decide +kernel
theorem dX10_pays_52 : decode cX10_pays 52 = .ok (.dup2, 1) := by decide +kernel
theorem dX10_pays_53 : decode cX10_pays 53 = .ok (.iaload, 1) := by decide +kernel
theorem dX10_pays_54 : decode cX10_pays 54 = .ok (.iconst 1, 1) := by decide +kernel
theorem dX10_pays_55 : decode cX10_pays 55 = .ok (.iadd, 1) := by decide +kernel
theorem dX10_pays_56 : decode cX10_pays 56 = .ok (.iastore, 1) := by decide +kernel
theorem dX10_pays_57 : decode cX10_pays 57 = .ok (.aload_n 0, 1) := by decide +kernel
theorem dX10_pays_58 : decode cX10_pays 58 = .ok (.getfield 122, 3) := by decide +kernel
theorem dX10_pays_61 : decode cX10_pays 61 = .ok (.iconst (-1), 1) := by decide +kernel
theorem dX10_pays_62 : decode cX10_pays 62 = .ok (.if_icmp .ne 26, 3) := by decide +kernel
theorem dX10_pays_65 : decode cX10_pays 65 = .ok (.aload_n 0, 1) := by decide +kernel
theorem dX10_pays_66 : decode cX10_pays 66 = .ok (.dup, 1) := by decide +kernel
theorem dX10_pays_67 : decode cX10_pays 67 = .ok (.getfield 125, 3) := by decide +kernel
theorem dX10_pays_70 : decode cX10_pays 70 = .ok (.iload_n 2, 1) := by decide +kernel
theorem dX10_pays_71 : decode cX10_pays 71 = .ok (.isub, 1) := by decide +kernel
theorem dX10_pays_72 : decode cX10_pays 72 = .ok (.putfield 125, 3) := by decide +kernel
theorem dX10_pays_75 : decode cX10_pays 75 = .ok (.aload_n 0, 1) := by decide +kernel
theorem dX10_pays_76 : decode cX10_pays 76 = .ok (.dup, 1) := by decide +kernel
theorem dX10_pays_77 : decode cX10_pays 77 = .ok (.getfield 134, 3) := by decide +kernel
theorem dX10_pays_80 : decode cX10_pays 80 = .ok (.iload_n 2, 1) := by decide +kernel
theorem dX10_pays_81 : decode cX10_pays 81 = .ok (.iadd, 1) := by decide +kernel
theorem dX10_pays_82 : decode cX10_pays 82 = .ok (.putfield 134, 3) := by decide +kernel
theorem dX10_pays_85 : decode cX10_pays 85 = .ok (.goto 23, 3) := by decide +kernel
theorem dX10_pays_88 : decode cX10_pays 88 = .ok (.aload_n 0, 1) := by decide +kernel
theorem dX10_pays_89 : decode cX10_pays 89 = .ok (.dup, 1) := by decide +kernel
theorem dX10_pays_90 : decode cX10_pays 90 = .ok (.getfield 128, 3) := by decide +kernel
theorem dX10_pays_93 : decode cX10_pays 93 = .ok (.iload_n 2, 1) := by decide +kernel
theorem dX10_pays_94 : decode cX10_pays 94 = .ok (.isub, 1) := by decide +kernel
theorem dX10_pays_95 : decode cX10_pays 95 = .ok (.putfield 128, 3) := by decide +kernel
theorem dX10_pays_98 : decode cX10_pays 98 = .ok (.aload_n 0, 1) := by decide +kernel
theorem dX10_pays_99 : decode cX10_pays 99 = .ok (.dup, 1) := by decide +kernel
theorem dX10_pays_100 : decode cX10_pays 100 = .ok (.getfield 137, 3) := by decide +kernel
theorem dX10_pays_103 : decode cX10_pays 103 = .ok (.iload_n 2, 1) := by decide +kernel
theorem dX10_pays_104 : decode cX10_pays 104 = .ok (.iadd, 1) := by decide +kernel
theorem dX10_pays_105 : decode cX10_pays 105 = .ok (.putfield 137, 3) := by decide +kernel
theorem dX10_pays_108 : decode cX10_pays 108 = .ok (.iconst 1, 1) := by decide +kernel
theorem dX10_pays_109 : decode cX10_pays 109 = .ok (.ireturn, 1) := by decide +kernel
theorem dX10_endReserve_0 : decode cX10_endReserve 0 = .ok (.aload_n 0, 1) := by decide +kernel
theorem dX10_endReserve_1 : decode cX10_endReserve 1 = .ok (.getfield 106, 3) := by decide +kernel
theorem dX10_endReserve_4 : decode cX10_endReserve 4 = .ok (.aload_n 0, 1) := by decide +kernel
theorem dX10_endReserve_5 : decode cX10_endReserve 5 = .ok (.getfield 122, 3) := by decide +kernel
theorem dX10_endReserve_8 : decode cX10_endReserve 8 = .ok (.if_icmp .le 24, 3) := by decide +kernel
theorem dX10_endReserve_11 : decode cX10_endReserve 11 = .ok (.aload_n 0, 1) := by decide +kernel
theorem dX10_endReserve_12 : decode cX10_endReserve 12 = .ok (.dup, 1) := by decide +kernel
theorem dX10_endReserve_13 : decode cX10_endReserve 13 = .ok (.getfield 106, 3) := by decide +kernel
theorem dX10_endReserve_16 : decode cX10_endReserve 16 = .ok (.iconst 1, 1) := by decide +kernel
theorem dX10_endReserve_17 : decode cX10_endReserve 17 = .ok (.isub, 1) := by decide +kernel
theorem dX10_endReserve_18 : decode cX10_endReserve 18 = .ok (.putfield 106, 3) := by decide +kernel
theorem dX10_endReserve_21 : decode cX10_endReserve 21 = .ok (.aload_n 0, 1) := by decide +kernel
theorem dX10_endReserve_22 : decode cX10_endReserve 22 = .ok (.aload_n 0, 1) := by decide +kernel
theorem dX10_endReserve_23 : decode cX10_endReserve 23 = .ok (.getfield 106, 3) := by decide +kernel
theorem dX10_endReserve_26 : decode cX10_endReserve 26 = .ok (.invokevirtual 140, 3) := by decide +kernel
theorem dX10_endReserve_29 : decode cX10_endReserve 29 = .ok (.goto (-29), 3) := by decide +kernel
theorem dX10_endReserve_32 : decode cX10_endReserve 32 = .ok (.aload_n 0, 1) := by decide +kernel
theorem dX10_endReserve_33 : decode cX10_endReserve 33 = .ok (.iconst (-1), 1) := by decide +kernel
theorem dX10_endReserve_34 : decode cX10_endReserve 34 = .ok (.putfield 122, 3) := by decide +kernel
theorem dX10_endReserve_37 : decode cX10_endReserve 37 = .ok (.aload_n 0, 1) := by decide +kernel
theorem dX10_endReserve_38 : decode cX10_endReserve 38 = .ok (.iconst 3, 1) := by decide +kernel
theorem dX10_endReserve_39 : decode cX10_endReserve 39 = .ok (.putfield 109, 3) := by decide +kernel
theorem dX10_endReserve_42 : decode cX10_endReserve 42 = .ok (.return_, 1) := by decide +kernel
theorem dX10_leave_0 : decode cX10_leave 0 = .ok (.aload_n 0, 1) := by decide +kernel
theorem dX10_leave_1 : decode cX10_leave 1 = .ok (.getfield 62, 3) := by decide +kernel
theorem dX10_leave_4 : decode cX10_leave 4 = .ok (.iload_n 1, 1) := by decide +kernel
theorem dX10_leave_5 : decode cX10_leave 5 = .ok (.iaload, 1) := by decide +kernel
theorem dX10_leave_6 : decode cX10_leave 6 = .ok (.istore_n 2, 1) := by decide +kernel
theorem dX10_leave_7 : decode cX10_leave 7 = .ok (.aload_n 0, 1) := by decide +kernel
theorem dX10_leave_8 : decode cX10_leave 8 = .ok (.getfield 13, 3) := by decide +kernel
theorem dX10_leave_11 : decode cX10_leave 11 = .ok (.iload_n 2, 1) := by decide +kernel
theorem dX10_leave_12 : decode cX10_leave 12 = .ok (.iaload, 1) := by decide +kernel
theorem dX10_leave_13 : decode cX10_leave 13 = .ok (.bipush 20, 2) := by decide +kernel
theorem dX10_leave_15 : decode cX10_leave 15 = .ok (.if_icmp .ne 28, 3) := by decide +kernel
theorem dX10_leave_18 : decode cX10_leave 18 = .ok (.aload_n 0, 1) := by decide +kernel
theorem dX10_leave_19 : decode cX10_leave 19 = .ok (.getfield 65, 3) := by decide +kernel
theorem dX10_leave_22 : decode cX10_leave 22 = .ok (.iload_n 1, 1) := by decide +kernel
theorem dX10_leave_23 : decode cX10_leave 23 = .ok (.iaload, 1) := by decide +kernel
theorem dX10_leave_24 : decode cX10_leave 24 = .ok (.iconst 1, 1) := by decide +kernel
theorem dX10_leave_25 : decode cX10_leave 25 = .ok (.if_icmp .ne 18, 3) := by decide +kernel
theorem dX10_leave_28 : decode cX10_leave 28 = .ok (.aload_n 0, 1) := by decide +kernel
theorem dX10_leave_29 : decode cX10_leave 29 = .ok (.getfield 38, 3) := by decide +kernel
theorem dX10_leave_32 : decode cX10_leave 32 = .ok (.aload_n 0, 1) := by decide +kernel
theorem dX10_leave_33 : decode cX10_leave 33 = .ok (.getfield 17, 3) := by decide +kernel
theorem dX10_leave_36 : decode cX10_leave 36 = .ok (.iload_n 2, 1) := by decide +kernel
theorem dX10_leave_37 : decode cX10_leave 37 = .ok (.iaload, 1) := by decide +kernel
theorem dX10_leave_38 : decode cX10_leave 38 = .ok (.dup2, 1) := by decide +kernel
theorem dX10_leave_39 : decode cX10_leave 39 = .ok (.iaload, 1) := by decide +kernel
theorem dX10_leave_40 : decode cX10_leave 40 = .ok (.iconst 1, 1) := by decide +kernel
theorem dX10_leave_41 : decode cX10_leave 41 = .ok (.isub, 1) := by decide +kernel
theorem dX10_leave_42 : decode cX10_leave 42 = .ok (.iastore, 1) := by decide +kernel
theorem dX10_leave_43 : decode cX10_leave 43 = .ok (.aload_n 0, 1) := by decide +kernel
theorem dX10_leave_44 : decode cX10_leave 44 = .ok (.getfield 13, 3) := by decide +kernel
theorem dX10_leave_47 : decode cX10_leave 47 = .ok (.iload_n 2, 1) := by decide +kernel
theorem dX10_leave_48 : decode cX10_leave 48 = .ok (.iaload, 1) := by decide +kernel
theorem dX10_leave_49 : decode cX10_leave 49 = .ok (.bipush 15, 2) := by decide +kernel
theorem dX10_leave_51 : decode cX10_leave 51 = .ok (.if_icmp .ne 23, 3) := by decide +kernel
theorem dX10_leave_54 : decode cX10_leave 54 = .ok (.aload_n 0, 1) := by decide +kernel
theorem dX10_leave_55 : decode cX10_leave 55 = .ok (.getfield 65, 3) := by decide +kernel
theorem dX10_leave_58 : decode cX10_leave 58 = .ok (.iload_n 1, 1) := by decide +kernel
theorem dX10_leave_59 : decode cX10_leave 59 = .ok (.iaload, 1) := by decide +kernel
theorem dX10_leave_60 : decode cX10_leave 60 = .ok (.iconst 1, 1) := by decide +kernel
theorem dX10_leave_61 : decode cX10_leave 61 = .ok (.if_icmp .ne 13, 3) := by decide +kernel
theorem dX10_leave_64 : decode cX10_leave 64 = .ok (.aload_n 0, 1) := by decide +kernel
theorem dX10_leave_65 : decode cX10_leave 65 = .ok (.dup, 1) := by decide +kernel
theorem dX10_leave_66 : decode cX10_leave 66 = .ok (.getfield 143, 3) := by decide +kernel
theorem dX10_leave_69 : decode cX10_leave 69 = .ok (.iconst 1, 1) := by decide +kernel
theorem dX10_leave_70 : decode cX10_leave 70 = .ok (.isub, 1) := by decide +kernel
theorem dX10_leave_71 : decode cX10_leave 71 = .ok (.putfield 143, 3) := by decide +kernel
theorem dX10_leave_74 : decode cX10_leave 74 = .ok (.return_, 1) := by decide +kernel
theorem dX10_note_0 : decode cX10_note 0 = .ok (.aload_n 0, 1) := by decide +kernel
theorem dX10_note_1 : decode cX10_note 1 = .ok (.getfield 146, 3) := by decide +kernel
theorem dX10_note_4 : decode cX10_note 4 = .ok (.bipush 30, 2) := by decide +kernel
theorem dX10_note_6 : decode cX10_note 6 = .ok (.if_icmp .ne 4, 3) := by decide +kernel
theorem dX10_note_9 : decode cX10_note 9 = .ok (.return_, 1) := by decide +kernel
theorem dX10_note_10 : decode cX10_note 10 = .ok (.aload_n 0, 1) := by decide +kernel
theorem dX10_note_11 : decode cX10_note 11 = .ok (.getfield 53, 3) := by decide +kernel
theorem dX10_note_14 : decode cX10_note 14 = .ok (.aload_n 0, 1) := by decide +kernel
theorem dX10_note_15 : decode cX10_note 15 = .ok (.getfield 146, 3) := by decide +kernel
theorem dX10_note_18 : decode cX10_note 18 = .ok (.iload_n 1, 1) := by decide +kernel
theorem dX10_note_19 : decode cX10_note 19 = .ok (.iastore, 1) := by decide +kernel
theorem dX10_note_20 : decode cX10_note 20 = .ok (.aload_n 0, 1) := by decide +kernel
theorem dX10_note_21 : decode cX10_note 21 = .ok (.dup, 1) := by decide +kernel
theorem dX10_note_22 : decode cX10_note 22 = .ok (.getfield 146, 3) := by decide +kernel
theorem dX10_note_25 : decode cX10_note 25 = .ok (.iconst 1, 1) := by decide +kernel
theorem dX10_note_26 : decode cX10_note 26 = .ok (.iadd, 1) := by decide +kernel
theorem dX10_note_27 : decode cX10_note 27 = .ok (.putfield 146, 3) := by decide +kernel
theorem dX10_note_30 : decode cX10_note 30 = .ok (.return_, 1) := by decide +kernel
theorem dX10_reckon_0 : decode cX10_reckon 0 = .ok (.aload_n 0, 1) := by decide +kernel
theorem dX10_reckon_1 : decode cX10_reckon 1 = .ok (.getfield 32, 3) := by decide +kernel
theorem dX10_reckon_4 : decode cX10_reckon 4 = .ok (.aload_n 0, 1) := by decide +kernel
theorem dX10_reckon_5 : decode cX10_reckon 5 = .ok (.getfield 20, 3) := by decide +kernel
theorem dX10_reckon_8 : decode cX10_reckon 8 = .ok (.iload_n 1, 1) := by decide +kernel
theorem dX10_reckon_9 : decode cX10_reckon 9 = .ok (.iaload, 1) := by decide +kernel
theorem dX10_reckon_10 : decode cX10_reckon 10 = .ok (.iaload, 1) := by decide +kernel
theorem dX10_reckon_11 : decode cX10_reckon 11 = .ok (.istore_n 2, 1) := by decide +kernel
theorem dX10_reckon_12 : decode cX10_reckon 12 = .ok (.aload_n 0, 1) := by decide +kernel
theorem dX10_reckon_13 : decode cX10_reckon 13 = .ok (.getfield 32, 3) := by decide +kernel
theorem dX10_reckon_16 : decode cX10_reckon 16 = .ok (.aload_n 0, 1) := by decide +kernel
theorem dX10_reckon_17 : decode cX10_reckon 17 = .ok (.getfield 23, 3) := by decide +kernel
theorem dX10_reckon_20 : decode cX10_reckon 20 = .ok (.iload_n 1, 1) := by decide +kernel
theorem dX10_reckon_21 : decode cX10_reckon 21 = .ok (.iaload, 1) := by decide +kernel
theorem dX10_reckon_22 : decode cX10_reckon 22 = .ok (.iaload, 1) := by decide +kernel
theorem dX10_reckon_23 : decode cX10_reckon 23 = .ok (.istore_n 3, 1) := by decide +kernel
theorem dX10_reckon_24 : decode cX10_reckon 24 = .ok (.aload_n 0, 1) := by decide +kernel
theorem dX10_reckon_25 : decode cX10_reckon 25 = .ok (.getfield 13, 3) := by decide +kernel
theorem dX10_reckon_28 : decode cX10_reckon 28 = .ok (.iload_n 1, 1) := by decide +kernel
theorem dX10_reckon_29 : decode cX10_reckon 29 = .ok (.iaload, 1) := by decide +kernel
theorem dX10_reckon_30 : decode cX10_reckon 30 = .ok (.istore 4, 2) := by decide +kernel
theorem dX10_reckon_32 : decode cX10_reckon 32 = .ok (.iload 4, 2) := by decide +kernel
theorem dX10_reckon_34 : decode cX10_reckon 34 = .ok (.iconst 3, 1) := by decide +kernel
theorem dX10_reckon_35 : decode cX10_reckon 35 = .ok (.if_icmp .le 14, 3) := by decide +kernel
theorem dX10_reckon_38 : decode cX10_reckon 38 = .ok (.iload_n 3, 1) := by decide +kernel
theorem dX10_reckon_39 : decode cX10_reckon 39 = .ok (.ifCond .ne 10, 3) := by decide +kernel
theorem dX10_reckon_42 : decode cX10_reckon 42 = .ok (.aload_n 0, 1) := by decide +kernel
theorem dX10_reckon_43 : decode cX10_reckon 43 = .ok (.iconst 4, 1) := by decide +kernel
theorem dX10_reckon_44 : decode cX10_reckon 44 = .ok (.iconst 0, 1) := by decide +kernel
theorem dX10_reckon_45 : decode cX10_reckon 45 = .ok (.invokevirtual 149, 3) := by decide +kernel
theorem dX10_reckon_48 : decode cX10_reckon 48 = .ok (.return_, 1) := by decide +kernel
theorem dX10_reckon_49 : decode cX10_reckon 49 = .ok (.aload_n 0, 1) := by decide +kernel
theorem dX10_reckon_50 : decode cX10_reckon 50 = .ok (.getfield 32, 3) := by decide +kernel
theorem dX10_reckon_53 : decode cX10_reckon 53 = .ok (.aload_n 0, 1) := by decide +kernel
theorem dX10_reckon_54 : decode cX10_reckon 54 = .ok (.getfield 17, 3) := by decide +kernel
theorem dX10_reckon_57 : decode cX10_reckon 57 = .ok (.iload_n 1, 1) := by decide +kernel
theorem dX10_reckon_58 : decode cX10_reckon 58 = .ok (.iaload, 1) := by decide +kernel
theorem dX10_reckon_59 : decode cX10_reckon 59 = .ok (.iload 4, 2) := by decide +kernel
theorem dX10_reckon_61 : decode cX10_reckon 61 = .ok (.iconst 1, 1) := by decide +kernel
theorem dX10_reckon_62 : decode cX10_reckon 62 = .ok (.if_icmp .ne 9, 3) := by decide +kernel
theorem dX10_reckon_65 : decode cX10_reckon 65 = .ok (.iload_n 2, 1) := by decide +kernel
theorem dX10_reckon_66 : decode cX10_reckon 66 = .ok (.iload_n 3, 1) := by decide +kernel
theorem dX10_reckon_67 : decode cX10_reckon 67 = .ok (.iadd, 1) := by decide +kernel
theorem dX10_reckon_68 : decode cX10_reckon 68 = .ok (.goto 42, 3) := by decide +kernel
theorem dX10_reckon_71 : decode cX10_reckon 71 = .ok (.iload 4, 2) := by decide +kernel
theorem dX10_reckon_73 : decode cX10_reckon 73 = .ok (.iconst 2, 1) := by decide +kernel
theorem dX10_reckon_74 : decode cX10_reckon 74 = .ok (.if_icmp .ne 9, 3) := by decide +kernel
theorem dX10_reckon_77 : decode cX10_reckon 77 = .ok (.iload_n 2, 1) := by decide +kernel
theorem dX10_reckon_78 : decode cX10_reckon 78 = .ok (.iload_n 3, 1) := by decide +kernel
theorem dX10_reckon_79 : decode cX10_reckon 79 = .ok (.isub, 1) := by decide +kernel
theorem dX10_reckon_80 : decode cX10_reckon 80 = .ok (.goto 30, 3) := by decide +kernel
theorem dX10_reckon_83 : decode cX10_reckon 83 = .ok (.iload 4, 2) := by decide +kernel
theorem dX10_reckon_85 : decode cX10_reckon 85 = .ok (.iconst 3, 1) := by decide +kernel
theorem dX10_reckon_86 : decode cX10_reckon 86 = .ok (.if_icmp .ne 9, 3) := by decide +kernel
theorem dX10_reckon_89 : decode cX10_reckon 89 = .ok (.iload_n 2, 1) := by decide +kernel
theorem dX10_reckon_90 : decode cX10_reckon 90 = .ok (.iload_n 3, 1) := by decide +kernel
theorem dX10_reckon_91 : decode cX10_reckon 91 = .ok (.imul, 1) := by decide +kernel
theorem dX10_reckon_92 : decode cX10_reckon 92 = .ok (.goto 18, 3) := by decide +kernel
theorem dX10_reckon_95 : decode cX10_reckon 95 = .ok (.iload 4, 2) := by decide +kernel
theorem dX10_reckon_97 : decode cX10_reckon 97 = .ok (.iconst 4, 1) := by decide +kernel
theorem dX10_reckon_98 : decode cX10_reckon 98 = .ok (.if_icmp .ne 9, 3) := by decide +kernel
theorem dX10_reckon_101 : decode cX10_reckon 101 = .ok (.iload_n 2, 1) := by decide +kernel
theorem dX10_reckon_102 : decode cX10_reckon 102 = .ok (.iload_n 3, 1) := by decide +kernel
theorem dX10_reckon_103 : decode cX10_reckon 103 = .ok (.idiv, 1) := by decide +kernel
theorem dX10_reckon_104 : decode cX10_reckon 104 = .ok (.goto 6, 3) := by decide +kernel
theorem dX10_reckon_107 : decode cX10_reckon 107 = .ok (.iload_n 2, 1) := by decide +kernel
theorem dX10_reckon_108 : decode cX10_reckon 108 = .ok (.iload_n 3, 1) := by decide +kernel
theorem dX10_reckon_109 : decode cX10_reckon 109 = .ok (.irem, 1) := by decide +kernel
theorem dX10_reckon_110 : decode cX10_reckon 110 = .ok (.iastore, 1) := by decide +kernel
theorem dX10_reckon_111 : decode cX10_reckon 111 = .ok (.aload_n 0, 1) := by decide +kernel
theorem dX10_reckon_112 : decode cX10_reckon 112 = .ok (.iconst 0, 1) := by decide +kernel
theorem dX10_reckon_113 : decode cX10_reckon 113 = .ok (.invokevirtual 118, 3) := by decide +kernel
theorem dX10_reckon_116 : decode cX10_reckon 116 = .ok (.return_, 1) := by decide +kernel
theorem dX10_making_0 : decode cX10_making 0 = .ok (.aload_n 0, 1) := by decide +kernel
theorem dX10_making_1 : decode cX10_making 1 = .ok (.getfield 32, 3) := by decide +kernel
theorem dX10_making_4 : decode cX10_making 4 = .ok (.aload_n 0, 1) := by decide +kernel
theorem dX10_making_5 : decode cX10_making 5 = .ok (.getfield 20, 3) := by decide +kernel
theorem dX10_making_8 : decode cX10_making 8 = .ok (.iload_n 1, 1) := by decide +kernel
theorem dX10_making_9 : decode cX10_making 9 = .ok (.iaload, 1) := by decide +kernel
theorem dX10_making_10 : decode cX10_making 10 = .ok (.iaload, 1) := by decide +kernel
theorem dX10_making_11 : decode cX10_making 11 = .ok (.istore_n 2, 1) := by decide +kernel
theorem dX10_making_12 : decode cX10_making 12 = .ok (.aload_n 0, 1) := by decide +kernel
theorem dX10_making_13 : decode cX10_making 13 = .ok (.iconst 4, 1) := by decide +kernel
theorem dX10_making_14 : decode cX10_making 14 = .ok (.iload_n 2, 1) := by decide +kernel
theorem dX10_making_15 : decode cX10_making 15 = .ok (.ifCond .ge 7, 3) := by decide +kernel
theorem dX10_making_18 : decode cX10_making 18 = .ok (.iconst 1, 1) := by decide +kernel
theorem dX10_making_19 : decode cX10_making 19 = .ok (.goto 8, 3) := by decide +kernel
theorem dX10_making_22 : decode cX10_making 22 = .ok (.iconst 1, 1) := by decide +kernel
theorem dX10_making_23 : decode cX10_making 23 = .ok (.iload_n 2, 1) := by decide +kernel
theorem dX10_making_24 : decode cX10_making 24 = .ok (.iconst 4, 1) := by decide +kernel
theorem dX10_making_25 : decode cX10_making 25 = .ok (.idiv, 1) := by decide +kernel
theorem dX10_making_26 : decode cX10_making 26 = .ok (.iadd, 1) := by decide +kernel
theorem dX10_making_27 : decode cX10_making 27 = .ok (.invokevirtual 153, 3) := by decide +kernel
theorem dX10_making_30 : decode cX10_making 30 = .ok (.ifCond .ne 4, 3) := by decide +kernel
theorem dX10_making_33 : decode cX10_making 33 = .ok (.return_, 1) := by decide +kernel
theorem dX10_making_34 : decode cX10_making 34 = .ok (.iload_n 2, 1) := by decide +kernel
theorem dX10_making_35 : decode cX10_making 35 = .ok (.ifCond .ge 10, 3) := by decide +kernel
theorem dX10_making_38 : decode cX10_making 38 = .ok (.aload_n 0, 1) := by decide +kernel
theorem dX10_making_39 : decode cX10_making 39 = .ok (.iconst 3, 1) := by decide +kernel
theorem dX10_making_40 : decode cX10_making 40 = .ok (.iconst 0, 1) := by decide +kernel
theorem dX10_making_41 : decode cX10_making 41 = .ok (.invokevirtual 149, 3) := by decide +kernel
theorem dX10_making_44 : decode cX10_making 44 = .ok (.return_, 1) := by decide +kernel
theorem dX10_making_45 : decode cX10_making 45 = .ok (.aload_n 0, 1) := by decide +kernel
theorem dX10_making_46 : decode cX10_making 46 = .ok (.getfield 41, 3) := by decide +kernel
theorem dX10_making_49 : decode cX10_making 49 = .ok (.aload_n 0, 1) := by decide +kernel
theorem dX10_making_50 : decode cX10_making 50 = .ok (.getfield 156, 3) := by decide +kernel
theorem dX10_making_53 : decode cX10_making 53 = .ok (.iload_n 2, 1) := by decide +kernel
theorem dX10_making_54 : decode cX10_making 54 = .ok (.iastore, 1) := by decide +kernel
theorem dX10_making_55 : decode cX10_making 55 = .ok (.aload_n 0, 1) := by decide +kernel
theorem dX10_making_56 : decode cX10_making 56 = .ok (.getfield 44, 3) := by decide +kernel
theorem dX10_making_59 : decode cX10_making 59 = .ok (.aload_n 0, 1) := by decide +kernel
theorem dX10_making_60 : decode cX10_making 60 = .ok (.getfield 156, 3) := by decide +kernel
theorem dX10_making_63 : decode cX10_making 63 = .ok (.aload_n 0, 1) := by decide +kernel
theorem dX10_making_64 : decode cX10_making 64 = .ok (.getfield 159, 3) := by decide +kernel
theorem dX10_making_67 : decode cX10_making 67 = .ok (.iastore, 1) := by decide +kernel
theorem dX10_making_68 : decode cX10_making 68 = .ok (.iconst 0, 1) := by decide +kernel
theorem dX10_making_69 : decode cX10_making 69 = .ok (.istore_n 3, 1) := by decide +kernel
theorem dX10_making_70 : decode cX10_making 70 = .ok (.iload_n 3, 1) := by decide +kernel
theorem dX10_making_71 : decode cX10_making 71 = .ok (.iload_n 2, 1) := by decide +kernel
theorem dX10_making_72 : decode cX10_making 72 = .ok (.if_icmp .ge 21, 3) := by decide +kernel
theorem dX10_making_75 : decode cX10_making 75 = .ok (.aload_n 0, 1) := by decide +kernel
theorem dX10_making_76 : decode cX10_making 76 = .ok (.getfield 47, 3) := by decide +kernel
theorem dX10_making_79 : decode cX10_making 79 = .ok (.aload_n 0, 1) := by decide +kernel
theorem dX10_making_80 : decode cX10_making 80 = .ok (.getfield 159, 3) := by decide +kernel
theorem dX10_making_83 : decode cX10_making 83 = .ok (.iload_n 3, 1) := by decide +kernel
theorem dX10_making_84 : decode cX10_making 84 = .ok (.iadd, 1) := by decide +kernel
theorem dX10_making_85 : decode cX10_making 85 = .ok (.iconst 0, 1) := by decide +kernel
theorem dX10_making_86 : decode cX10_making 86 = .ok (.iastore, 1) := by decide +kernel
theorem dX10_making_87 : decode cX10_making 87 = .ok (.iinc 3 1, 3) := by decide +kernel
theorem dX10_making_90 : decode cX10_making 90 = .ok (.goto (-20), 3) := by decide +kernel
theorem dX10_making_93 : decode cX10_making 93 = .ok (.aload_n 0, 1) := by decide +kernel
theorem dX10_making_94 : decode cX10_making 94 = .ok (.dup, 1) := by decide +kernel
theorem dX10_making_95 : decode cX10_making 95 = .ok (.getfield 159, 3) := by decide +kernel
theorem dX10_making_98 : decode cX10_making 98 = .ok (.iload_n 2, 1) := by decide +kernel
theorem dX10_making_99 : decode cX10_making 99 = .ok (.iadd, 1) := by decide +kernel
theorem dX10_making_100 : decode cX10_making 100 = .ok (.putfield 159, 3) := by decide +kernel
theorem dX10_making_103 : decode cX10_making 103 = .ok (.aload_n 0, 1) := by decide +kernel
theorem dX10_making_104 : decode cX10_making 104 = .ok (.getfield 35, 3) := by decide +kernel
theorem dX10_making_107 : decode cX10_making 107 = .ok (.aload_n 0, 1) := by decide +kernel
theorem dX10_making_108 : decode cX10_making 108 = .ok (.getfield 17, 3) := by decide +kernel
theorem dX10_making_111 : decode cX10_making 111 = .ok (.iload_n 1, 1) := by decide +kernel
theorem dX10_making_112 : decode cX10_making 112 = .ok (.iaload, 1) := by decide +kernel
theorem dX10_making_113 : decode cX10_making 113 = .ok (.aload_n 0, 1) := by decide +kernel
theorem dX10_making_114 : decode cX10_making 114 = .ok (.getfield 156, 3) := by decide +kernel
theorem dX10_making_117 : decode cX10_making 117 = .ok (.iastore, 1) := by decide +kernel
theorem dX10_making_118 : decode cX10_making 118 = .ok (.aload_n 0, 1) := by decide +kernel
theorem dX10_making_119 : decode cX10_making 119 = .ok (.dup, 1) := by decide +kernel
theorem dX10_making_120 : decode cX10_making 120 = .ok (.getfield 156, 3) := by decide +kernel
theorem dX10_making_123 : decode cX10_making 123 = .ok (.iconst 1, 1) := by decide +kernel
theorem dX10_making_124 : decode cX10_making 124 = .ok (.iadd, 1) := by decide +kernel
theorem dX10_making_125 : decode cX10_making 125 = .ok (.putfield 156, 3) := by decide +kernel
theorem dX10_making_128 : decode cX10_making 128 = .ok (.aload_n 0, 1) := by decide +kernel
theorem dX10_making_129 : decode cX10_making 129 = .ok (.iconst 0, 1) := by decide +kernel
theorem dX10_making_130 : decode cX10_making 130 = .ok (.invokevirtual 118, 3) := by decide +kernel
theorem dX10_making_133 : decode cX10_making 133 = .ok (.return_, 1) := by decide +kernel
theorem dX10_has_0 : decode cX10_has 0 = .ok (.aload_n 0, 1) := by decide +kernel
theorem dX10_has_1 : decode cX10_has 1 = .ok (.getfield 35, 3) := by decide +kernel
theorem dX10_has_4 : decode cX10_has 4 = .ok (.iload_n 1, 1) := by decide +kernel
theorem dX10_has_5 : decode cX10_has 5 = .ok (.iaload, 1) := by decide +kernel
theorem dX10_has_6 : decode cX10_has 6 = .ok (.istore_n 3, 1) := by decide +kernel
theorem dX10_has_7 : decode cX10_has 7 = .ok (.iload_n 3, 1) := by decide +kernel
theorem dX10_has_8 : decode cX10_has 8 = .ok (.iconst (-1), 1) := by decide +kernel
theorem dX10_has_9 : decode cX10_has 9 = .ok (.if_icmp .ne 12, 3) := by decide +kernel
theorem dX10_has_12 : decode cX10_has 12 = .ok (.aload_n 0, 1) := by decide +kernel
theorem dX10_has_13 : decode cX10_has 13 = .ok (.iconst 1, 1) := by decide +kernel
theorem dX10_has_14 : decode cX10_has 14 = .ok (.iconst 0, 1) := by decide +kernel
theorem dX10_has_15 : decode cX10_has 15 = .ok (.invokevirtual 149, 3) := by decide +kernel
theorem dX10_has_18 : decode cX10_has 18 = .ok (.goto 23, 3) := by decide +kernel
theorem dX10_has_21 : decode cX10_has 21 = .ok (.iload_n 2, 1) := by decide +kernel
theorem dX10_has_22 : decode cX10_has 22 = .ok (.ifCond .lt 13, 3) := by decide +kernel
theorem dX10_has_25 : decode cX10_has 25 = .ok (.iload_n 2, 1) := by decide +kernel
theorem dX10_has_26 : decode cX10_has 26 = .ok (.aload_n 0, 1) := by decide +kernel
theorem dX10_has_27 : decode cX10_has 27 = .ok (.getfield 41, 3) := by decide +kernel
theorem dX10_has_30 : decode cX10_has 30 = .ok (.iload_n 3, 1) := by decide +kernel
theorem dX10_has_31 : decode cX10_has 31 = .ok (.iaload, 1) := by decide +kernel
theorem dX10_has_32 : decode cX10_has 32 = .ok (.if_icmp .lt 9, 3) := by decide +kernel
theorem dX10_has_35 : decode cX10_has 35 = .ok (.aload_n 0, 1) := by decide +kernel
theorem dX10_has_36 : decode cX10_has 36 = .ok (.iconst 2, 1) := by decide +kernel
theorem dX10_has_37 : decode cX10_has 37 = .ok (.iconst 0, 1) := by decide +kernel
theorem dX10_has_38 : decode cX10_has 38 = .ok (.invokevirtual 149, 3) := by decide +kernel
theorem dX10_has_41 : decode cX10_has 41 = .ok (.aload_n 0, 1) := by decide +kernel
theorem dX10_has_42 : decode cX10_has 42 = .ok (.getfield 109, 3) := by decide +kernel
theorem dX10_has_45 : decode cX10_has 45 = .ok (.iconst (-1), 1) := by decide +kernel
theorem dX10_has_46 : decode cX10_has 46 = .ok (.if_icmp .ne 7, 3) := by decide +kernel
theorem dX10_has_49 : decode cX10_has 49 = .ok (.iconst 1, 1) := by decide +kernel
theorem dX10_has_50 : decode cX10_has 50 = .ok (.goto 4, 3) := by decide +kernel
theorem dX10_has_53 : decode cX10_has 53 = .ok (.iconst 0, 1) := by decide +kernel
theorem dX10_has_54 : decode cX10_has 54 = .ok (.ireturn, 1) := by decide +kernel
theorem dX10_simple_0 : decode cX10_simple 0 = .ok (.aload_n 0, 1) := by decide +kernel
theorem dX10_simple_1 : decode cX10_simple 1 = .ok (.getfield 17, 3) := by decide +kernel
theorem dX10_simple_4 : decode cX10_simple 4 = .ok (.iload_n 1, 1) := by decide +kernel
theorem dX10_simple_5 : decode cX10_simple 5 = .ok (.iaload, 1) := by decide +kernel
theorem dX10_simple_6 : decode cX10_simple 6 = .ok (.istore_n 2, 1) := by decide +kernel
theorem dX10_simple_7 : decode cX10_simple 7 = .ok (.aload_n 0, 1) := by decide +kernel
theorem dX10_simple_8 : decode cX10_simple 8 = .ok (.getfield 20, 3) := by decide +kernel
theorem dX10_simple_11 : decode cX10_simple 11 = .ok (.iload_n 1, 1) := by decide +kernel
theorem dX10_simple_12 : decode cX10_simple 12 = .ok (.iaload, 1) := by decide +kernel
theorem dX10_simple_13 : decode cX10_simple 13 = .ok (.istore_n 3, 1) := by decide +kernel
theorem dX10_simple_14 : decode cX10_simple 14 = .ok (.aload_n 0, 1) := by decide +kernel
theorem dX10_simple_15 : decode cX10_simple 15 = .ok (.getfield 23, 3) := by decide +kernel
theorem dX10_simple_18 : decode cX10_simple 18 = .ok (.iload_n 1, 1) := by decide +kernel
theorem dX10_simple_19 : decode cX10_simple 19 = .ok (.iaload, 1) := by decide +kernel
theorem dX10_simple_20 : decode cX10_simple 20 = .ok (.istore 4, 2) := by decide +kernel
theorem dX10_simple_22 : decode cX10_simple 22 = .ok (.aload_n 0, 1) := by decide +kernel
theorem dX10_simple_23 : decode cX10_simple 23 = .ok (.getfield 13, 3) := by decide +kernel
theorem dX10_simple_26 : decode cX10_simple 26 = .ok (.iload_n 1, 1) := by decide +kernel
theorem dX10_simple_27 : decode cX10_simple 27 = .ok (.iaload, 1) := by decide +kernel
theorem dX10_simple_28 : decode cX10_simple 28 = .ok (.tableswitch 341 0 21 #[104, 341, 341, 341, 341, 341, 117, 123, 175, 226, 266, 279, 341, 341, 341, 341, 297, 313, 341, 341, 341, 325], 104) := by decide +kernel
theorem dX10_simple_132 : decode cX10_simple 132 = .ok (.aload_n 0, 1) := by decide +kernel
theorem dX10_simple_133 : decode cX10_simple 133 = .ok (.getfield 32, 3) := by decide +kernel
theorem dX10_simple_136 : decode cX10_simple 136 = .ok (.iload_n 2, 1) := by decide +kernel
theorem dX10_simple_137 : decode cX10_simple 137 = .ok (.iload_n 3, 1) := by decide +kernel
theorem dX10_simple_138 : decode cX10_simple 138 = .ok (.iastore, 1) := by decide +kernel
theorem dX10_simple_139 : decode cX10_simple 139 = .ok (.aload_n 0, 1) := by decide +kernel
theorem dX10_simple_140 : decode cX10_simple 140 = .ok (.iconst 0, 1) := by decide +kernel
theorem dX10_simple_141 : decode cX10_simple 141 = .ok (.invokevirtual 118, 3) := by decide +kernel
theorem dX10_simple_144 : decode cX10_simple 144 = .ok (.return_, 1) := by decide +kernel
theorem dX10_simple_145 : decode cX10_simple 145 = .ok (.aload_n 0, 1) := by decide +kernel
theorem dX10_simple_146 : decode cX10_simple 146 = .ok (.iload_n 1, 1) := by decide +kernel
theorem dX10_simple_147 : decode cX10_simple 147 = .ok (.invokevirtual 162, 3) := by decide +kernel
theorem dX10_simple_150 : decode cX10_simple 150 = .ok (.return_, 1) := by decide +kernel
theorem dX10_simple_151 : decode cX10_simple 151 = .ok (.aload_n 0, 1) := by decide +kernel
theorem dX10_simple_152 : decode cX10_simple 152 = .ok (.iload_n 3, 1) := by decide +kernel
theorem dX10_simple_153 : decode cX10_simple 153 = .ok (.aload_n 0, 1) := by decide +kernel
theorem dX10_simple_154 : decode cX10_simple 154 = .ok (.getfield 32, 3) := by decide +kernel
theorem dX10_simple_157 : decode cX10_simple 157 = .ok (.iload 4, 2) := by decide +kernel
theorem dX10_simple_159 : decode cX10_simple 159 = .ok (.iaload, 1) := by decide +kernel
theorem dX10_simple_160 : decode cX10_simple 160 = .ok (.invokevirtual 165, 3) := by decide +kernel
theorem dX10_simple_163 : decode cX10_simple 163 = .ok (.ifCond .ne 4, 3) := by decide +kernel
theorem dX10_simple_166 : decode cX10_simple 166 = .ok (.return_, 1) := by decide +kernel
theorem dX10_simple_167 : decode cX10_simple 167 = .ok (.aload_n 0, 1) := by decide +kernel
theorem dX10_simple_168 : decode cX10_simple 168 = .ok (.getfield 32, 3) := by decide +kernel
theorem dX10_simple_171 : decode cX10_simple 171 = .ok (.iload_n 2, 1) := by decide +kernel
theorem dX10_simple_172 : decode cX10_simple 172 = .ok (.aload_n 0, 1) := by decide +kernel
theorem dX10_simple_173 : decode cX10_simple 173 = .ok (.getfield 47, 3) := by decide +kernel
theorem dX10_simple_176 : decode cX10_simple 176 = .ok (.aload_n 0, 1) := by decide +kernel
theorem dX10_simple_177 : decode cX10_simple 177 = .ok (.getfield 44, 3) := by decide +kernel
theorem dX10_simple_180 : decode cX10_simple 180 = .ok (.aload_n 0, 1) := by decide +kernel
theorem dX10_simple_181 : decode cX10_simple 181 = .ok (.getfield 35, 3) := by decide +kernel
theorem dX10_simple_184 : decode cX10_simple 184 = .ok (.iload_n 3, 1) := by decide +kernel
theorem dX10_simple_185 : decode cX10_simple 185 = .ok (.iaload, 1) := by decide +kernel
theorem dX10_simple_186 : decode cX10_simple 186 = .ok (.iaload, 1) := by decide +kernel
theorem dX10_simple_187 : decode cX10_simple 187 = .ok (.aload_n 0, 1) := by decide +kernel
theorem dX10_simple_188 : decode cX10_simple 188 = .ok (.getfield 32, 3) := by decide +kernel
theorem dX10_simple_191 : decode cX10_simple 191 = .ok (.iload 4, 2) := by decide +kernel
theorem dX10_simple_193 : decode cX10_simple 193 = .ok (.iaload, 1) := by decide +kernel
theorem dX10_simple_194 : decode cX10_simple 194 = .ok (.iadd, 1) := by decide +kernel
theorem dX10_simple_195 : decode cX10_simple 195 = .ok (.iaload, 1) := by decide +kernel
theorem dX10_simple_196 : decode cX10_simple 196 = .ok (.iastore, 1) := by decide +kernel
theorem dX10_simple_197 : decode cX10_simple 197 = .ok (.aload_n 0, 1) := by decide +kernel
