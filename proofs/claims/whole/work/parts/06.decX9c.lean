theorem dX9_walk_0 : decode cX9_walk 0 = .ok (.iload_n 1, 1) := by decide +kernel
theorem dX9_walk_1 : decode cX9_walk 1 = .ok (.invokestatic 142, 3) := by decide +kernel
theorem dX9_walk_4 : decode cX9_walk 4 = .ok (.ifCond .eq 12, 3) := by decide +kernel
theorem dX9_walk_7 : decode cX9_walk 7 = .ok (.aload_n 0, 1) := by decide +kernel
theorem dX9_walk_8 : decode cX9_walk 8 = .ok (.getfield 109, 3) := by decide +kernel
theorem dX9_walk_11 : decode cX9_walk 11 = .ok (.iload_n 1, 1) := by decide +kernel
theorem dX9_walk_12 : decode cX9_walk 12 = .ok (.iaload, 1) := by decide +kernel
theorem dX9_walk_13 : decode cX9_walk 13 = .ok (.goto 4, 3) := by decide +kernel
theorem dX9_walk_16 : decode cX9_walk 16 = .ok (.iconst (-1), 1) := by decide +kernel
theorem dX9_walk_17 : decode cX9_walk 17 = .ok (.ireturn, 1) := by decide +kernel
theorem dX9_second_0 : decode cX9_second 0 = .ok (.iload_n 1, 1) := by decide +kernel
theorem dX9_second_1 : decode cX9_second 1 = .ok (.invokestatic 142, 3) := by decide +kernel
theorem dX9_second_4 : decode cX9_second 4 = .ok (.ifCond .ne 9, 3) := by decide +kernel
theorem dX9_second_7 : decode cX9_second 7 = .ok (.aload_n 0, 1) := by decide +kernel
theorem dX9_second_8 : decode cX9_second 8 = .ok (.iconst (-1), 1) := by decide +kernel
theorem dX9_second_9 : decode cX9_second 9 = .ok (.invokevirtual 146, 3) := by decide +kernel
theorem dX9_second_12 : decode cX9_second 12 = .ok (.ireturn, 1) := by decide +kernel
theorem dX9_second_13 : decode cX9_second 13 = .ok (.aload_n 0, 1) := by decide +kernel
theorem dX9_second_14 : decode cX9_second 14 = .ok (.iload_n 2, 1) := by decide +kernel
theorem dX9_second_15 : decode cX9_second 15 = .ok (.invokevirtual 165, 3) := by decide +kernel
theorem dX9_second_18 : decode cX9_second 18 = .ok (.istore_n 3, 1) := by decide +kernel
theorem dX9_second_19 : decode cX9_second 19 = .ok (.iload_n 3, 1) := by decide +kernel
theorem dX9_second_20 : decode cX9_second 20 = .ok (.ifCond .eq 9, 3) := by decide +kernel
theorem dX9_second_23 : decode cX9_second 23 = .ok (.aload_n 0, 1) := by decide +kernel
theorem dX9_second_24 : decode cX9_second 24 = .ok (.iload_n 3, 1) := by decide +kernel
theorem dX9_second_25 : decode cX9_second 25 = .ok (.invokevirtual 146, 3) := by decide +kernel
theorem dX9_second_28 : decode cX9_second 28 = .ok (.ireturn, 1) := by decide +kernel
theorem dX9_second_29 : decode cX9_second 29 = .ok (.iconst 0, 1) := by decide +kernel
theorem dX9_second_30 : decode cX9_second 30 = .ok (.istore 4, 2) := by decide +kernel
theorem dX9_second_32 : decode cX9_second 32 = .ok (.iconst 1, 1) := by decide +kernel
theorem dX9_second_33 : decode cX9_second 33 = .ok (.istore 5, 2) := by decide +kernel
theorem dX9_second_35 : decode cX9_second 35 = .ok (.iconst 0, 1) := by decide +kernel
theorem dX9_second_36 : decode cX9_second 36 = .ok (.istore 6, 2) := by decide +kernel
theorem dX9_second_38 : decode cX9_second 38 = .ok (.iload 6, 2) := by decide +kernel
theorem dX9_second_40 : decode cX9_second 40 = .ok (.aload_n 0, 1) := by decide +kernel
theorem dX9_second_41 : decode cX9_second 41 = .ok (.getfield 139, 3) := by decide +kernel
theorem dX9_second_44 : decode cX9_second 44 = .ok (.if_icmp .ge 73, 3) := by decide +kernel
theorem dX9_second_47 : decode cX9_second 47 = .ok (.aload_n 0, 1) := by decide +kernel
theorem dX9_second_48 : decode cX9_second 48 = .ok (.getfield 7, 3) := by decide +kernel
theorem dX9_second_51 : decode cX9_second 51 = .ok (.iload 6, 2) := by decide +kernel
theorem dX9_second_53 : decode cX9_second 53 = .ok (.iaload, 1) := by decide +kernel
theorem dX9_second_54 : decode cX9_second 54 = .ok (.iload_n 1, 1) := by decide +kernel
theorem dX9_second_55 : decode cX9_second 55 = .ok (.if_icmp .eq 6, 3) := by decide +kernel
theorem dX9_second_58 : decode cX9_second 58 = .ok (.goto 53, 3) := by decide +kernel
theorem dX9_second_61 : decode cX9_second 61 = .ok (.iload 5, 2) := by decide +kernel
theorem dX9_second_63 : decode cX9_second 63 = .ok (.ifCond .eq 42, 3) := by decide +kernel
theorem dX9_second_66 : decode cX9_second 66 = .ok (.iload 4, 2) := by decide +kernel
theorem dX9_second_68 : decode cX9_second 68 = .ok (.aload_n 0, 1) := by decide +kernel
theorem dX9_second_69 : decode cX9_second 69 = .ok (.getfield 90, 3) := by decide +kernel
theorem dX9_second_72 : decode cX9_second 72 = .ok (.iload_n 2, 1) := by decide +kernel
theorem dX9_second_73 : decode cX9_second 73 = .ok (.iaload, 1) := by decide +kernel
theorem dX9_second_74 : decode cX9_second 74 = .ok (.if_icmp .ge 27, 3) := by decide +kernel
theorem dX9_second_77 : decode cX9_second 77 = .ok (.aload_n 0, 1) := by decide +kernel
theorem dX9_second_78 : decode cX9_second 78 = .ok (.getfield 93, 3) := by decide +kernel
theorem dX9_second_81 : decode cX9_second 81 = .ok (.bipush 30, 2) := by decide +kernel
theorem dX9_second_83 : decode cX9_second 83 = .ok (.iload_n 2, 1) := by decide +kernel
theorem dX9_second_84 : decode cX9_second 84 = .ok (.imul, 1) := by decide +kernel
theorem dX9_second_85 : decode cX9_second 85 = .ok (.iload 4, 2) := by decide +kernel
theorem dX9_second_87 : decode cX9_second 87 = .ok (.iadd, 1) := by decide +kernel
theorem dX9_second_88 : decode cX9_second 88 = .ok (.laload, 1) := by decide +kernel
theorem dX9_second_89 : decode cX9_second 89 = .ok (.l2i, 1) := by decide +kernel
theorem dX9_second_90 : decode cX9_second 90 = .ok (.i2l, 1) := by decide +kernel
theorem dX9_second_91 : decode cX9_second 91 = .ok (.lconst 0, 1) := by decide +kernel
theorem dX9_second_92 : decode cX9_second 92 = .ok (.ldc2_w 242, 3) := by decide +kernel
theorem dX9_second_95 : decode cX9_second 95 = .ok (.invokestatic 152, 3) := by decide +kernel
theorem dX9_second_98 : decode cX9_second 98 = .ok (.ifCond .eq 7, 3) := by decide +kernel
theorem dX9_second_101 : decode cX9_second 101 = .ok (.iconst 1, 1) := by decide +kernel
theorem dX9_second_102 : decode cX9_second 102 = .ok (.goto 4, 3) := by decide +kernel
theorem dX9_second_105 : decode cX9_second 105 = .ok (.iconst 0, 1) := by decide +kernel
theorem dX9_second_106 : decode cX9_second 106 = .ok (.istore 5, 2) := by decide +kernel
theorem dX9_second_108 : decode cX9_second 108 = .ok (.iinc 4 1, 3) := by decide +kernel
theorem dX9_second_111 : decode cX9_second 111 = .ok (.iinc 6 1, 3) := by decide +kernel
theorem dX9_second_114 : decode cX9_second 114 = .ok (.goto (-76), 3) := by decide +kernel
theorem dX9_second_117 : decode cX9_second 117 = .ok (.iload 4, 2) := by decide +kernel
theorem dX9_second_119 : decode cX9_second 119 = .ok (.aload_n 0, 1) := by decide +kernel
theorem dX9_second_120 : decode cX9_second 120 = .ok (.getfield 90, 3) := by decide +kernel
theorem dX9_second_123 : decode cX9_second 123 = .ok (.iload_n 2, 1) := by decide +kernel
theorem dX9_second_124 : decode cX9_second 124 = .ok (.iaload, 1) := by decide +kernel
theorem dX9_second_125 : decode cX9_second 125 = .ok (.if_icmp .le 10, 3) := by decide +kernel
theorem dX9_second_128 : decode cX9_second 128 = .ok (.aload_n 0, 1) := by decide +kernel
theorem dX9_second_129 : decode cX9_second 129 = .ok (.bipush (-5), 2) := by decide +kernel
theorem dX9_second_131 : decode cX9_second 131 = .ok (.invokevirtual 146, 3) := by decide +kernel
theorem dX9_second_134 : decode cX9_second 134 = .ok (.ireturn, 1) := by decide +kernel
theorem dX9_second_135 : decode cX9_second 135 = .ok (.iload 5, 2) := by decide +kernel
theorem dX9_second_137 : decode cX9_second 137 = .ok (.ifCond .ne 10, 3) := by decide +kernel
theorem dX9_second_140 : decode cX9_second 140 = .ok (.aload_n 0, 1) := by decide +kernel
theorem dX9_second_141 : decode cX9_second 141 = .ok (.bipush (-6), 2) := by decide +kernel
theorem dX9_second_143 : decode cX9_second 143 = .ok (.invokevirtual 146, 3) := by decide +kernel
theorem dX9_second_146 : decode cX9_second 146 = .ok (.ireturn, 1) := by decide +kernel
theorem dX9_second_147 : decode cX9_second 147 = .ok (.iconst 0, 1) := by decide +kernel
theorem dX9_second_148 : decode cX9_second 148 = .ok (.istore 6, 2) := by decide +kernel
theorem dX9_second_150 : decode cX9_second 150 = .ok (.iconst 0, 1) := by decide +kernel
theorem dX9_second_151 : decode cX9_second 151 = .ok (.istore 4, 2) := by decide +kernel
theorem dX9_second_153 : decode cX9_second 153 = .ok (.iconst 0, 1) := by decide +kernel
theorem dX9_second_154 : decode cX9_second 154 = .ok (.istore 7, 2) := by decide +kernel
theorem dX9_second_156 : decode cX9_second 156 = .ok (.iload 7, 2) := by decide +kernel
theorem dX9_second_158 : decode cX9_second 158 = .ok (.aload_n 0, 1) := by decide +kernel
theorem dX9_second_159 : decode cX9_second 159 = .ok (.getfield 139, 3) := by decide +kernel
theorem dX9_second_162 : decode cX9_second 162 = .ok (.if_icmp .ge 66, 3) := by decide +kernel
theorem dX9_second_165 : decode cX9_second 165 = .ok (.aload_n 0, 1) := by decide +kernel
theorem dX9_second_166 : decode cX9_second 166 = .ok (.getfield 7, 3) := by decide +kernel
theorem dX9_second_169 : decode cX9_second 169 = .ok (.iload 7, 2) := by decide +kernel
theorem dX9_second_171 : decode cX9_second 171 = .ok (.iaload, 1) := by decide +kernel
theorem dX9_second_172 : decode cX9_second 172 = .ok (.iload_n 1, 1) := by decide +kernel
theorem dX9_second_173 : decode cX9_second 173 = .ok (.if_icmp .eq 6, 3) := by decide +kernel
theorem dX9_second_176 : decode cX9_second 176 = .ok (.goto 46, 3) := by decide +kernel
theorem dX9_second_179 : decode cX9_second 179 = .ok (.aload_n 0, 1) := by decide +kernel
theorem dX9_second_180 : decode cX9_second 180 = .ok (.getfield 43, 3) := by decide +kernel
theorem dX9_second_183 : decode cX9_second 183 = .ok (.iload 7, 2) := by decide +kernel
theorem dX9_second_185 : decode cX9_second 185 = .ok (.aload_n 0, 1) := by decide +kernel
theorem dX9_second_186 : decode cX9_second 186 = .ok (.getfield 93, 3) := by decide +kernel
theorem dX9_second_189 : decode cX9_second 189 = .ok (.bipush 30, 2) := by decide +kernel
theorem dX9_second_191 : decode cX9_second 191 = .ok (.iload_n 2, 1) := by decide +kernel
theorem dX9_second_192 : decode cX9_second 192 = .ok (.imul, 1) := by decide +kernel
theorem dX9_second_193 : decode cX9_second 193 = .ok (.iload 4, 2) := by decide +kernel
theorem dX9_second_195 : decode cX9_second 195 = .ok (.iadd, 1) := by decide +kernel
theorem dX9_second_196 : decode cX9_second 196 = .ok (.laload, 1) := by decide +kernel
theorem dX9_second_197 : decode cX9_second 197 = .ok (.l2i, 1) := by decide +kernel
theorem dX9_second_198 : decode cX9_second 198 = .ok (.iastore, 1) := by decide +kernel
theorem dX9_second_199 : decode cX9_second 199 = .ok (.aload_n 0, 1) := by decide +kernel
theorem dX9_second_200 : decode cX9_second 200 = .ok (.getfield 59, 3) := by decide +kernel
theorem dX9_second_203 : decode cX9_second 203 = .ok (.iload 7, 2) := by decide +kernel
theorem dX9_second_205 : decode cX9_second 205 = .ok (.iconst 1, 1) := by decide +kernel
theorem dX9_second_206 : decode cX9_second 206 = .ok (.bastore, 1) := by decide +kernel
theorem dX9_second_207 : decode cX9_second 207 = .ok (.iload 6, 2) := by decide +kernel
theorem dX9_second_209 : decode cX9_second 209 = .ok (.aload_n 0, 1) := by decide +kernel
theorem dX9_second_210 : decode cX9_second 210 = .ok (.getfield 43, 3) := by decide +kernel
theorem dX9_second_213 : decode cX9_second 213 = .ok (.iload 7, 2) := by decide +kernel
theorem dX9_second_215 : decode cX9_second 215 = .ok (.iaload, 1) := by decide +kernel
theorem dX9_second_216 : decode cX9_second 216 = .ok (.iadd, 1) := by decide +kernel
theorem dX9_second_217 : decode cX9_second 217 = .ok (.istore 6, 2) := by decide +kernel
theorem dX9_second_219 : decode cX9_second 219 = .ok (.iinc 4 1, 3) := by decide +kernel
theorem dX9_second_222 : decode cX9_second 222 = .ok (.iinc 7 1, 3) := by decide +kernel
theorem dX9_second_225 : decode cX9_second 225 = .ok (.goto (-69), 3) := by decide +kernel
theorem dX9_second_228 : decode cX9_second 228 = .ok (.aload_n 0, 1) := by decide +kernel
theorem dX9_second_229 : decode cX9_second 229 = .ok (.getfield 56, 3) := by decide +kernel
theorem dX9_second_232 : decode cX9_second 232 = .ok (.iload_n 1, 1) := by decide +kernel
theorem dX9_second_233 : decode cX9_second 233 = .ok (.iconst 1, 1) := by decide +kernel
theorem dX9_second_234 : decode cX9_second 234 = .ok (.bastore, 1) := by decide +kernel
theorem dX9_second_235 : decode cX9_second 235 = .ok (.iload 6, 2) := by decide +kernel
theorem dX9_second_237 : decode cX9_second 237 = .ok (.ireturn, 1) := by decide +kernel
theorem dX9_countedAll_0 : decode cX9_countedAll 0 = .ok (.iconst 0, 1) := by decide +kernel
theorem dX9_countedAll_1 : decode cX9_countedAll 1 = .ok (.istore_n 1, 1) := by decide +kernel
theorem dX9_countedAll_2 : decode cX9_countedAll 2 = .ok (.iconst 0, 1) := by decide +kernel
theorem dX9_countedAll_3 : decode cX9_countedAll 3 = .ok (.istore_n 2, 1) := by decide +kernel
theorem dX9_countedAll_4 : decode cX9_countedAll 4 = .ok (.iload_n 2, 1) := by decide +kernel
theorem dX9_countedAll_5 : decode cX9_countedAll 5 = .ok (.aload_n 0, 1) := by decide +kernel
theorem dX9_countedAll_6 : decode cX9_countedAll 6 = .ok (.getfield 139, 3) := by decide +kernel
theorem dX9_countedAll_9 : decode cX9_countedAll 9 = .ok (.if_icmp .ge 24, 3) := by decide +kernel
theorem dX9_countedAll_12 : decode cX9_countedAll 12 = .ok (.iload_n 1, 1) := by decide +kernel
theorem dX9_countedAll_13 : decode cX9_countedAll 13 = .ok (.aload_n 0, 1) := by decide +kernel
theorem dX9_countedAll_14 : decode cX9_countedAll 14 = .ok (.getfield 28, 3) := by decide +kernel
theorem dX9_countedAll_17 : decode cX9_countedAll 17 = .ok (.iload_n 2, 1) := by decide +kernel
theorem dX9_countedAll_18 : decode cX9_countedAll 18 = .ok (.iaload, 1) := by decide +kernel
theorem dX9_countedAll_19 : decode cX9_countedAll 19 = .ok (.aload_n 0, 1) := by decide +kernel
theorem dX9_countedAll_20 : decode cX9_countedAll 20 = .ok (.iload_n 2, 1) := by decide +kernel
theorem dX9_countedAll_21 : decode cX9_countedAll 21 = .ok (.invokevirtual 214, 3) := by decide +kernel
theorem dX9_countedAll_24 : decode cX9_countedAll 24 = .ok (.isub, 1) := by decide +kernel
theorem dX9_countedAll_25 : decode cX9_countedAll 25 = .ok (.iadd, 1) := by decide +kernel
theorem dX9_countedAll_26 : decode cX9_countedAll 26 = .ok (.istore_n 1, 1) := by decide +kernel
theorem dX9_countedAll_27 : decode cX9_countedAll 27 = .ok (.iinc 2 1, 3) := by decide +kernel
theorem dX9_countedAll_30 : decode cX9_countedAll 30 = .ok (.goto (-26), 3) := by decide +kernel
theorem dX9_countedAll_33 : decode cX9_countedAll 33 = .ok (.iload_n 1, 1) := by decide +kernel
theorem dX9_countedAll_34 : decode cX9_countedAll 34 = .ok (.ireturn, 1) := by decide +kernel
theorem dX9_divisor_0 : decode cX9_divisor 0 = .ok (.lload_n 0, 1) := by decide +kernel
theorem dX9_divisor_1 : decode cX9_divisor 1 = .ok (.lstore 4, 2) := by decide +kernel
theorem dX9_divisor_3 : decode cX9_divisor 3 = .ok (.lload_n 2, 1) := by decide +kernel
theorem dX9_divisor_4 : decode cX9_divisor 4 = .ok (.lstore 6, 2) := by decide +kernel
theorem dX9_divisor_6 : decode cX9_divisor 6 = .ok (.lload 6, 2) := by decide +kernel
theorem dX9_divisor_8 : decode cX9_divisor 8 = .ok (.lconst 0, 1) := by decide +kernel
theorem dX9_divisor_9 : decode cX9_divisor 9 = .ok (.lcmp, 1) := by decide +kernel
theorem dX9_divisor_10 : decode cX9_divisor 10 = .ok (.ifCond .eq 21, 3) := by decide +kernel
theorem dX9_divisor_13 : decode cX9_divisor 13 = .ok (.lload 4, 2) := by decide +kernel
theorem dX9_divisor_15 : decode cX9_divisor 15 = .ok (.lload 6, 2) := by decide +kernel
theorem dX9_divisor_17 : decode cX9_divisor 17 = .ok (.lrem, 1) := by decide +kernel
theorem dX9_divisor_18 : decode cX9_divisor 18 = .ok (.lstore 8, 2) := by decide +kernel
theorem dX9_divisor_20 : decode cX9_divisor 20 = .ok (.lload 6, 2) := by decide +kernel
theorem dX9_divisor_22 : decode cX9_divisor 22 = .ok (.lstore 4, 2) := by decide +kernel
theorem dX9_divisor_24 : decode cX9_divisor 24 = .ok (.lload 8, 2) := by decide +kernel
theorem dX9_divisor_26 : decode cX9_divisor 26 = .ok (.lstore 6, 2) := by decide +kernel
theorem dX9_divisor_28 : decode cX9_divisor 28 = .ok (.goto (-22), 3) := by decide +kernel
theorem dX9_divisor_31 : decode cX9_divisor 31 = .ok (.lload 4, 2) := by decide +kernel
theorem dX9_divisor_33 : decode cX9_divisor 33 = .ok (.lreturn, 1) := by decide +kernel
theorem dX9_right_0 : decode cX9_right 0 = .ok (.lconst 0, 1) := by decide +kernel
theorem dX9_right_1 : decode cX9_right 1 = .ok (.lstore_n 2, 1) := by decide +kernel
theorem dX9_right_2 : decode cX9_right 2 = .ok (.lconst 0, 1) := by decide +kernel
theorem dX9_right_3 : decode cX9_right 3 = .ok (.lstore 4, 2) := by decide +kernel
theorem dX9_right_5 : decode cX9_right 5 = .ok (.iconst 0, 1) := by decide +kernel
theorem dX9_right_6 : decode cX9_right 6 = .ok (.istore 6, 2) := by decide +kernel
theorem dX9_right_8 : decode cX9_right 8 = .ok (.iload 6, 2) := by decide +kernel
theorem dX9_right_10 : decode cX9_right 10 = .ok (.aload_n 0, 1) := by decide +kernel
theorem dX9_right_11 : decode cX9_right 11 = .ok (.getfield 139, 3) := by decide +kernel
theorem dX9_right_14 : decode cX9_right 14 = .ok (.if_icmp .ge 63, 3) := by decide +kernel
theorem dX9_right_17 : decode cX9_right 17 = .ok (.aload_n 0, 1) := by decide +kernel
theorem dX9_right_18 : decode cX9_right 18 = .ok (.getfield 59, 3) := by decide +kernel
theorem dX9_right_21 : decode cX9_right 21 = .ok (.iload 6, 2) := by decide +kernel
theorem dX9_right_23 : decode cX9_right 23 = .ok (.baload, 1) := by decide +kernel
theorem dX9_right_24 : decode cX9_right 24 = .ok (.ifCond .ne 6, 3) := by decide +kernel
theorem dX9_right_27 : decode cX9_right 27 = .ok (.goto 44, 3) := by decide +kernel
theorem dX9_right_30 : decode cX9_right 30 = .ok (.lload_n 2, 1) := by decide +kernel
theorem dX9_right_31 : decode cX9_right 31 = .ok (.aload_n 0, 1) := by decide +kernel
theorem dX9_right_32 : decode cX9_right 32 = .ok (.getfield 43, 3) := by decide +kernel
theorem dX9_right_35 : decode cX9_right 35 = .ok (.iload 6, 2) := by decide +kernel
theorem dX9_right_37 : decode cX9_right 37 = .ok (.iaload, 1) := by decide +kernel
theorem dX9_right_38 : decode cX9_right 38 = .ok (.i2l, 1) := by decide +kernel
theorem dX9_right_39 : decode cX9_right 39 = .ok (.ladd, 1) := by decide +kernel
theorem dX9_right_40 : decode cX9_right 40 = .ok (.lstore_n 2, 1) := by decide +kernel
theorem dX9_right_41 : decode cX9_right 41 = .ok (.lload 4, 2) := by decide +kernel
theorem dX9_right_43 : decode cX9_right 43 = .ok (.aload_n 0, 1) := by decide +kernel
theorem dX9_right_44 : decode cX9_right 44 = .ok (.getfield 43, 3) := by decide +kernel
theorem dX9_right_47 : decode cX9_right 47 = .ok (.iload 6, 2) := by decide +kernel
theorem dX9_right_49 : decode cX9_right 49 = .ok (.iaload, 1) := by decide +kernel
theorem dX9_right_50 : decode cX9_right 50 = .ok (.aload_n 0, 1) := by decide +kernel
theorem dX9_right_51 : decode cX9_right 51 = .ok (.getfield 28, 3) := by decide +kernel
theorem dX9_right_54 : decode cX9_right 54 = .ok (.iload 6, 2) := by decide +kernel
theorem dX9_right_56 : decode cX9_right 56 = .ok (.iaload, 1) := by decide +kernel
theorem dX9_right_57 : decode cX9_right 57 = .ok (.aload_n 0, 1) := by decide +kernel
theorem dX9_right_58 : decode cX9_right 58 = .ok (.iload 6, 2) := by decide +kernel
theorem dX9_right_60 : decode cX9_right 60 = .ok (.invokevirtual 214, 3) := by decide +kernel
theorem dX9_right_63 : decode cX9_right 63 = .ok (.isub, 1) := by decide +kernel
theorem dX9_right_64 : decode cX9_right 64 = .ok (.invokestatic 244, 3) := by decide +kernel
theorem dX9_right_67 : decode cX9_right 67 = .ok (.i2l, 1) := by decide +kernel
theorem dX9_right_68 : decode cX9_right 68 = .ok (.ladd, 1) := by decide +kernel
theorem dX9_right_69 : decode cX9_right 69 = .ok (.lstore 4, 2) := by decide +kernel
theorem dX9_right_71 : decode cX9_right 71 = .ok (.iinc 6 1, 3) := by decide +kernel
theorem dX9_right_74 : decode cX9_right 74 = .ok (.goto (-66), 3) := by decide +kernel
theorem dX9_right_77 : decode cX9_right 77 = .ok (.lload 4, 2) := by decide +kernel
theorem dX9_right_79 : decode cX9_right 79 = .ok (.lconst 0, 1) := by decide +kernel
theorem dX9_right_80 : decode cX9_right 80 = .ok (.lcmp, 1) := by decide +kernel
theorem dX9_right_81 : decode cX9_right 81 = .ok (.ifCond .ne 13, 3) := by decide +kernel
theorem dX9_right_84 : decode cX9_right 84 = .ok (.iload_n 1, 1) := by decide +kernel
theorem dX9_right_85 : decode cX9_right 85 = .ok (.ifCond .eq 7, 3) := by decide +kernel
theorem dX9_right_88 : decode cX9_right 88 = .ok (.lconst 1, 1) := by decide +kernel
theorem dX9_right_89 : decode cX9_right 89 = .ok (.goto 4, 3) := by decide +kernel
theorem dX9_right_92 : decode cX9_right 92 = .ok (.lconst 0, 1) := by decide +kernel
theorem dX9_right_93 : decode cX9_right 93 = .ok (.lreturn, 1) := by decide +kernel
theorem dX9_right_94 : decode cX9_right 94 = .ok (.aload_n 0, 1) := by decide +kernel
theorem dX9_right_95 : decode cX9_right 95 = .ok (.invokevirtual 247, 3) := by decide +kernel
theorem dX9_right_98 : decode cX9_right 98 = .ok (.i2l, 1) := by decide +kernel
theorem dX9_right_99 : decode cX9_right 99 = .ok (.lload_n 2, 1) := by decide +kernel
theorem dX9_right_100 : decode cX9_right 100 = .ok (.lmul, 1) := by decide +kernel
theorem dX9_right_101 : decode cX9_right 101 = .ok (.lstore 6, 2) := by decide +kernel
theorem dX9_right_103 : decode cX9_right 103 = .ok (.lload 6, 2) := by decide +kernel
theorem dX9_right_105 : decode cX9_right 105 = .ok (.lload 4, 2) := by decide +kernel
theorem dX9_right_107 : decode cX9_right 107 = .ok (.invokestatic 251, 3) := by decide +kernel
theorem dX9_right_110 : decode cX9_right 110 = .ok (.lstore 8, 2) := by decide +kernel
theorem dX9_right_112 : decode cX9_right 112 = .ok (.iload_n 1, 1) := by decide +kernel
theorem dX9_right_113 : decode cX9_right 113 = .ok (.ifCond .eq 11, 3) := by decide +kernel
theorem dX9_right_116 : decode cX9_right 116 = .ok (.lload 4, 2) := by decide +kernel
theorem dX9_right_118 : decode cX9_right 118 = .ok (.lload 8, 2) := by decide +kernel
theorem dX9_right_120 : decode cX9_right 120 = .ok (.ldiv, 1) := by decide +kernel
theorem dX9_right_121 : decode cX9_right 121 = .ok (.goto 8, 3) := by decide +kernel
theorem dX9_right_124 : decode cX9_right 124 = .ok (.lload 6, 2) := by decide +kernel
theorem dX9_right_126 : decode cX9_right 126 = .ok (.lload 8, 2) := by decide +kernel
theorem dX9_right_128 : decode cX9_right 128 = .ok (.ldiv, 1) := by decide +kernel
theorem dX9_right_129 : decode cX9_right 129 = .ok (.lreturn, 1) := by decide +kernel
theorem dX9_heap_0 : decode cX9_heap 0 = .ok (.iconst 0, 1) := by decide +kernel
theorem dX9_heap_1 : decode cX9_heap 1 = .ok (.istore_n 1, 1) := by decide +kernel
theorem dX9_heap_2 : decode cX9_heap 2 = .ok (.iconst 0, 1) := by decide +kernel
theorem dX9_heap_3 : decode cX9_heap 3 = .ok (.istore_n 2, 1) := by decide +kernel
theorem dX9_heap_4 : decode cX9_heap 4 = .ok (.iconst 0, 1) := by decide +kernel
theorem dX9_heap_5 : decode cX9_heap 5 = .ok (.istore_n 3, 1) := by decide +kernel
theorem dX9_heap_6 : decode cX9_heap 6 = .ok (.iload_n 3, 1) := by decide +kernel
theorem dX9_heap_7 : decode cX9_heap 7 = .ok (.bipush 12, 2) := by decide +kernel
theorem dX9_heap_9 : decode cX9_heap 9 = .ok (.aload_n 0, 1) := by decide +kernel
theorem dX9_heap_10 : decode cX9_heap 10 = .ok (.getfield 139, 3) := by decide +kernel
theorem dX9_heap_13 : decode cX9_heap 13 = .ok (.imul, 1) := by decide +kernel
theorem dX9_heap_14 : decode cX9_heap 14 = .ok (.if_icmp .ge 78, 3) := by decide +kernel
theorem dX9_heap_17 : decode cX9_heap 17 = .ok (.iload_n 3, 1) := by decide +kernel
theorem dX9_heap_18 : decode cX9_heap 18 = .ok (.bipush 12, 2) := by decide +kernel
theorem dX9_heap_20 : decode cX9_heap 20 = .ok (.irem, 1) := by decide +kernel
theorem dX9_heap_21 : decode cX9_heap 21 = .ok (.aload_n 0, 1) := by decide +kernel
theorem dX9_heap_22 : decode cX9_heap 22 = .ok (.getfield 28, 3) := by decide +kernel
theorem dX9_heap_25 : decode cX9_heap 25 = .ok (.iload_n 3, 1) := by decide +kernel
theorem dX9_heap_26 : decode cX9_heap 26 = .ok (.bipush 12, 2) := by decide +kernel
theorem dX9_heap_28 : decode cX9_heap 28 = .ok (.idiv, 1) := by decide +kernel
theorem dX9_heap_29 : decode cX9_heap 29 = .ok (.iaload, 1) := by decide +kernel
theorem dX9_heap_30 : decode cX9_heap 30 = .ok (.if_icmp .ge 56, 3) := by decide +kernel
theorem dX9_heap_33 : decode cX9_heap 33 = .ok (.aload_n 0, 1) := by decide +kernel
theorem dX9_heap_34 : decode cX9_heap 34 = .ok (.getfield 50, 3) := by decide +kernel
theorem dX9_heap_37 : decode cX9_heap 37 = .ok (.iload_n 3, 1) := by decide +kernel
theorem dX9_heap_38 : decode cX9_heap 38 = .ok (.baload, 1) := by decide +kernel
theorem dX9_heap_39 : decode cX9_heap 39 = .ok (.ifCond .ne 47, 3) := by decide +kernel
theorem dX9_heap_42 : decode cX9_heap 42 = .ok (.aload_n 0, 1) := by decide +kernel
theorem dX9_heap_43 : decode cX9_heap 43 = .ok (.getfield 31, 3) := by decide +kernel
theorem dX9_heap_46 : decode cX9_heap 46 = .ok (.iload_n 3, 1) := by decide +kernel
theorem dX9_heap_47 : decode cX9_heap 47 = .ok (.iaload, 1) := by decide +kernel
theorem dX9_heap_48 : decode cX9_heap 48 = .ok (.i2l, 1) := by decide +kernel
theorem dX9_heap_49 : decode cX9_heap 49 = .ok (.ldc2_w 255, 3) := by decide +kernel
theorem dX9_heap_52 : decode cX9_heap 52 = .ok (.ldc2_w 257, 3) := by decide +kernel
theorem dX9_heap_55 : decode cX9_heap 55 = .ok (.invokestatic 152, 3) := by decide +kernel
theorem dX9_heap_58 : decode cX9_heap 58 = .ok (.ifCond .ne 6, 3) := by decide +kernel
theorem dX9_heap_61 : decode cX9_heap 61 = .ok (.goto 25, 3) := by decide +kernel
theorem dX9_heap_64 : decode cX9_heap 64 = .ok (.iinc 1 1, 3) := by decide +kernel
theorem dX9_heap_67 : decode cX9_heap 67 = .ok (.iload_n 2, 1) := by decide +kernel
theorem dX9_heap_68 : decode cX9_heap 68 = .ok (.aload_n 0, 1) := by decide +kernel
theorem dX9_heap_69 : decode cX9_heap 69 = .ok (.getfield 31, 3) := by decide +kernel
theorem dX9_heap_72 : decode cX9_heap 72 = .ok (.iload_n 3, 1) := by decide +kernel
theorem dX9_heap_73 : decode cX9_heap 73 = .ok (.iaload, 1) := by decide +kernel
theorem dX9_heap_74 : decode cX9_heap 74 = .ok (.iconst 5, 1) := by decide +kernel
theorem dX9_heap_75 : decode cX9_heap 75 = .ok (.irem, 1) := by decide +kernel
theorem dX9_heap_76 : decode cX9_heap 76 = .ok (.ifCond .ne 7, 3) := by decide +kernel
theorem dX9_heap_79 : decode cX9_heap 79 = .ok (.iconst 1, 1) := by decide +kernel
theorem dX9_heap_80 : decode cX9_heap 80 = .ok (.goto 4, 3) := by decide +kernel
theorem dX9_heap_83 : decode cX9_heap 83 = .ok (.iconst 0, 1) := by decide +kernel
theorem dX9_heap_84 : decode cX9_heap 84 = .ok (.iadd, 1) := by decide +kernel
theorem dX9_heap_85 : decode cX9_heap 85 = .ok (.istore_n 2, 1) := by decide +kernel
theorem dX9_heap_86 : decode cX9_heap 86 = .ok (.iinc 3 1, 3) := by decide +kernel
theorem dX9_heap_89 : decode cX9_heap 89 = .ok (.goto (-83), 3) := by decide +kernel
theorem dX9_heap_92 : decode cX9_heap 92 = .ok (.iload_n 1, 1) := by decide +kernel
theorem dX9_heap_93 : decode cX9_heap 93 = .ok (.ifCond .ne 8, 3) := by decide +kernel
theorem dX9_heap_96 : decode cX9_heap 96 = .ok (.bipush 100, 2) := by decide +kernel
theorem dX9_heap_98 : decode cX9_heap 98 = .ok (.goto 10, 3) := by decide +kernel
theorem dX9_heap_101 : decode cX9_heap 101 = .ok (.sipush 500, 3) := by decide +kernel
theorem dX9_heap_104 : decode cX9_heap 104 = .ok (.iload_n 2, 1) := by decide +kernel
theorem dX9_heap_105 : decode cX9_heap 105 = .ok (.imul, 1) := by decide +kernel
theorem dX9_heap_106 : decode cX9_heap 106 = .ok (.iload_n 1, 1) := by decide +kernel
theorem dX9_heap_107 : decode cX9_heap 107 = .ok (.idiv, 1) := by decide +kernel
theorem dX9_heap_108 : decode cX9_heap 108 = .ok (.ireturn, 1) := by decide +kernel
theorem dX9_finds_0 : decode cX9_finds 0 = .ok (.iconst 0, 1) := by decide +kernel
theorem dX9_finds_1 : decode cX9_finds 1 = .ok (.istore 6, 2) := by decide +kernel
theorem dX9_finds_3 : decode cX9_finds 3 = .ok (.iload 6, 2) := by decide +kernel
theorem dX9_finds_5 : decode cX9_finds 5 = .ok (.bipush 10, 2) := by decide +kernel
theorem dX9_finds_7 : decode cX9_finds 7 = .ok (.if_icmp .ge 17, 3) := by decide +kernel
theorem dX9_finds_10 : decode cX9_finds 10 = .ok (.aload_n 0, 1) := by decide +kernel
theorem dX9_finds_11 : decode cX9_finds 11 = .ok (.getfield 130, 3) := by decide +kernel
theorem dX9_finds_14 : decode cX9_finds 14 = .ok (.iload 6, 2) := by decide +kernel
theorem dX9_finds_16 : decode cX9_finds 16 = .ok (.iconst (-1), 1) := by decide +kernel
theorem dX9_finds_17 : decode cX9_finds 17 = .ok (.iastore, 1) := by decide +kernel
theorem dX9_finds_18 : decode cX9_finds 18 = .ok (.iinc 6 1, 3) := by decide +kernel
theorem dX9_finds_21 : decode cX9_finds 21 = .ok (.goto (-18), 3) := by decide +kernel
theorem dX9_finds_24 : decode cX9_finds 24 = .ok (.aload_n 0, 1) := by decide +kernel
theorem dX9_finds_25 : decode cX9_finds 25 = .ok (.getfield 130, 3) := by decide +kernel
theorem dX9_finds_28 : decode cX9_finds 28 = .ok (.iload_n 1, 1) := by decide +kernel
theorem dX9_finds_29 : decode cX9_finds 29 = .ok (.iload_n 1, 1) := by decide +kernel
theorem dX9_finds_30 : decode cX9_finds 30 = .ok (.iastore, 1) := by decide +kernel
theorem dX9_finds_31 : decode cX9_finds 31 = .ok (.aload_n 0, 1) := by decide +kernel
theorem dX9_finds_32 : decode cX9_finds 32 = .ok (.getfield 133, 3) := by decide +kernel
theorem dX9_finds_35 : decode cX9_finds 35 = .ok (.iconst 0, 1) := by decide +kernel
theorem dX9_finds_36 : decode cX9_finds 36 = .ok (.iload_n 1, 1) := by decide +kernel
theorem dX9_finds_37 : decode cX9_finds 37 = .ok (.iastore, 1) := by decide +kernel
theorem dX9_finds_38 : decode cX9_finds 38 = .ok (.iconst 1, 1) := by decide +kernel
theorem dX9_finds_39 : decode cX9_finds 39 = .ok (.istore 6, 2) := by decide +kernel
theorem dX9_finds_41 : decode cX9_finds 41 = .ok (.iconst 0, 1) := by decide +kernel
theorem dX9_finds_42 : decode cX9_finds 42 = .ok (.istore 7, 2) := by decide +kernel
theorem dX9_finds_44 : decode cX9_finds 44 = .ok (.iload 7, 2) := by decide +kernel
theorem dX9_finds_46 : decode cX9_finds 46 = .ok (.iload 6, 2) := by decide +kernel
theorem dX9_finds_48 : decode cX9_finds 48 = .ok (.if_icmp .ge 152, 3) := by decide +kernel
theorem dX9_finds_51 : decode cX9_finds 51 = .ok (.aload_n 0, 1) := by decide +kernel
theorem dX9_finds_52 : decode cX9_finds 52 = .ok (.getfield 133, 3) := by decide +kernel
theorem dX9_finds_55 : decode cX9_finds 55 = .ok (.iload 7, 2) := by decide +kernel
theorem dX9_finds_57 : decode cX9_finds 57 = .ok (.iaload, 1) := by decide +kernel
theorem dX9_finds_58 : decode cX9_finds 58 = .ok (.istore 8, 2) := by decide +kernel
theorem dX9_finds_60 : decode cX9_finds 60 = .ok (.iload 8, 2) := by decide +kernel
theorem dX9_finds_62 : decode cX9_finds 62 = .ok (.bipush 6, 2) := by decide +kernel
theorem dX9_finds_64 : decode cX9_finds 64 = .ok (.if_icmp .ge 8, 3) := by decide +kernel
theorem dX9_finds_67 : decode cX9_finds 67 = .ok (.bipush 6, 2) := by decide +kernel
theorem dX9_finds_69 : decode cX9_finds 69 = .ok (.goto 4, 3) := by decide +kernel
theorem dX9_finds_72 : decode cX9_finds 72 = .ok (.iconst 0, 1) := by decide +kernel
theorem dX9_finds_73 : decode cX9_finds 73 = .ok (.istore 9, 2) := by decide +kernel
theorem dX9_finds_75 : decode cX9_finds 75 = .ok (.iload 9, 2) := by decide +kernel
theorem dX9_finds_77 : decode cX9_finds 77 = .ok (.iload 8, 2) := by decide +kernel
theorem dX9_finds_79 : decode cX9_finds 79 = .ok (.bipush 6, 2) := by decide +kernel
theorem dX9_finds_81 : decode cX9_finds 81 = .ok (.if_icmp .ge 8, 3) := by decide +kernel
theorem dX9_finds_84 : decode cX9_finds 84 = .ok (.bipush 10, 2) := by decide +kernel
theorem dX9_finds_86 : decode cX9_finds 86 = .ok (.goto 5, 3) := by decide +kernel
theorem dX9_finds_89 : decode cX9_finds 89 = .ok (.bipush 6, 2) := by decide +kernel
theorem dX9_finds_91 : decode cX9_finds 91 = .ok (.if_icmp .ge 103, 3) := by decide +kernel
theorem dX9_finds_94 : decode cX9_finds 94 = .ok (.iload 8, 2) := by decide +kernel
theorem dX9_finds_96 : decode cX9_finds 96 = .ok (.bipush 6, 2) := by decide +kernel
theorem dX9_finds_98 : decode cX9_finds 98 = .ok (.if_icmp .ge 16, 3) := by decide +kernel
theorem dX9_finds_101 : decode cX9_finds 101 = .ok (.iconst 4, 1) := by decide +kernel
theorem dX9_finds_102 : decode cX9_finds 102 = .ok (.iload 8, 2) := by decide +kernel
theorem dX9_finds_104 : decode cX9_finds 104 = .ok (.imul, 1) := by decide +kernel
theorem dX9_finds_105 : decode cX9_finds 105 = .ok (.iload 9, 2) := by decide +kernel
theorem dX9_finds_107 : decode cX9_finds 107 = .ok (.iadd, 1) := by decide +kernel
theorem dX9_finds_108 : decode cX9_finds 108 = .ok (.bipush 6, 2) := by decide +kernel
theorem dX9_finds_110 : decode cX9_finds 110 = .ok (.isub, 1) := by decide +kernel
theorem dX9_finds_111 : decode cX9_finds 111 = .ok (.goto 13, 3) := by decide +kernel
theorem dX9_finds_114 : decode cX9_finds 114 = .ok (.iconst 4, 1) := by decide +kernel
theorem dX9_finds_115 : decode cX9_finds 115 = .ok (.iload 9, 2) := by decide +kernel
theorem dX9_finds_117 : decode cX9_finds 117 = .ok (.imul, 1) := by decide +kernel
theorem dX9_finds_118 : decode cX9_finds 118 = .ok (.iload 8, 2) := by decide +kernel
theorem dX9_finds_120 : decode cX9_finds 120 = .ok (.iadd, 1) := by decide +kernel
theorem dX9_finds_121 : decode cX9_finds 121 = .ok (.bipush 6, 2) := by decide +kernel
theorem dX9_finds_123 : decode cX9_finds 123 = .ok (.isub, 1) := by decide +kernel
theorem dX9_finds_124 : decode cX9_finds 124 = .ok (.istore 10, 2) := by decide +kernel
theorem dX9_finds_126 : decode cX9_finds 126 = .ok (.aload_n 0, 1) := by decide +kernel
theorem dX9_finds_127 : decode cX9_finds 127 = .ok (.getfield 130, 3) := by decide +kernel
theorem dX9_finds_130 : decode cX9_finds 130 = .ok (.iload 9, 2) := by decide +kernel
theorem dX9_finds_132 : decode cX9_finds 132 = .ok (.iaload, 1) := by decide +kernel
theorem dX9_finds_133 : decode cX9_finds 133 = .ok (.ifCond .ge 55, 3) := by decide +kernel
theorem dX9_finds_136 : decode cX9_finds 136 = .ok (.iload 10, 2) := by decide +kernel
theorem dX9_finds_138 : decode cX9_finds 138 = .ok (.iload_n 3, 1) := by decide +kernel
theorem dX9_finds_139 : decode cX9_finds 139 = .ok (.if_icmp .eq 49, 3) := by decide +kernel
theorem dX9_finds_142 : decode cX9_finds 142 = .ok (.aload 4, 2) := by decide +kernel
theorem dX9_finds_144 : decode cX9_finds 144 = .ok (.iload 10, 2) := by decide +kernel
theorem dX9_finds_146 : decode cX9_finds 146 = .ok (.baload, 1) := by decide +kernel
theorem dX9_finds_147 : decode cX9_finds 147 = .ok (.ifCond .eq 41, 3) := by decide +kernel
theorem dX9_finds_150 : decode cX9_finds 150 = .ok (.iload 8, 2) := by decide +kernel
theorem dX9_finds_152 : decode cX9_finds 152 = .ok (.iconst 5, 1) := by decide +kernel
theorem dX9_finds_153 : decode cX9_finds 153 = .ok (.if_icmp .le 14, 3) := by decide +kernel
theorem dX9_finds_156 : decode cX9_finds 156 = .ok (.aload 5, 2) := by decide +kernel
theorem dX9_finds_158 : decode cX9_finds 158 = .ok (.iload 10, 2) := by decide +kernel
theorem dX9_finds_160 : decode cX9_finds 160 = .ok (.iaload, 1) := by decide +kernel
theorem dX9_finds_161 : decode cX9_finds 161 = .ok (.ifCond .ne 6, 3) := by decide +kernel
theorem dX9_finds_164 : decode cX9_finds 164 = .ok (.goto 24, 3) := by decide +kernel
theorem dX9_finds_167 : decode cX9_finds 167 = .ok (.aload_n 0, 1) := by decide +kernel
theorem dX9_finds_168 : decode cX9_finds 168 = .ok (.getfield 130, 3) := by decide +kernel
theorem dX9_finds_171 : decode cX9_finds 171 = .ok (.iload 9, 2) := by decide +kernel
theorem dX9_finds_173 : decode cX9_finds 173 = .ok (.iload 8, 2) := by decide +kernel
theorem dX9_finds_175 : decode cX9_finds 175 = .ok (.iastore, 1) := by decide +kernel
theorem dX9_finds_176 : decode cX9_finds 176 = .ok (.aload_n 0, 1) := by decide +kernel
theorem dX9_finds_177 : decode cX9_finds 177 = .ok (.getfield 133, 3) := by decide +kernel
theorem dX9_finds_180 : decode cX9_finds 180 = .ok (.iload 6, 2) := by decide +kernel
theorem dX9_finds_182 : decode cX9_finds 182 = .ok (.iload 9, 2) := by decide +kernel
theorem dX9_finds_184 : decode cX9_finds 184 = .ok (.iastore, 1) := by decide +kernel
theorem dX9_finds_185 : decode cX9_finds 185 = .ok (.iinc 6 1, 3) := by decide +kernel
theorem dX9_finds_188 : decode cX9_finds 188 = .ok (.iinc 9 1, 3) := by decide +kernel
theorem dX9_finds_191 : decode cX9_finds 191 = .ok (.goto (-116), 3) := by decide +kernel
theorem dX9_finds_194 : decode cX9_finds 194 = .ok (.iinc 7 1, 3) := by decide +kernel
theorem dX9_finds_197 : decode cX9_finds 197 = .ok (.goto (-153), 3) := by decide +kernel
theorem dX9_finds_200 : decode cX9_finds 200 = .ok (.aload_n 0, 1) := by decide +kernel
theorem dX9_finds_201 : decode cX9_finds 201 = .ok (.getfield 130, 3) := by decide +kernel
theorem dX9_finds_204 : decode cX9_finds 204 = .ok (.iload_n 2, 1) := by decide +kernel
theorem dX9_finds_205 : decode cX9_finds 205 = .ok (.iaload, 1) := by decide +kernel
theorem dX9_finds_206 : decode cX9_finds 206 = .ok (.ifCond .lt 7, 3) := by decide +kernel
theorem dX9_finds_209 : decode cX9_finds 209 = .ok (.iconst 1, 1) := by decide +kernel
theorem dX9_finds_210 : decode cX9_finds 210 = .ok (.goto 4, 3) := by decide +kernel
theorem dX9_finds_213 : decode cX9_finds 213 = .ok (.iconst 0, 1) := by decide +kernel
theorem dX9_finds_214 : decode cX9_finds 214 = .ok (.ireturn, 1) := by decide +kernel
theorem dX9_canRise_0 : decode cX9_canRise 0 = .ok (.aload_n 0, 1) := by decide +kernel
theorem dX9_canRise_1 : decode cX9_canRise 1 = .ok (.bipush 6, 2) := by decide +kernel
theorem dX9_canRise_3 : decode cX9_canRise 3 = .ok (.iload_n 1, 1) := by decide +kernel
theorem dX9_canRise_4 : decode cX9_canRise 4 = .ok (.iconst 4, 1) := by decide +kernel
theorem dX9_canRise_5 : decode cX9_canRise 5 = .ok (.irem, 1) := by decide +kernel
theorem dX9_canRise_6 : decode cX9_canRise 6 = .ok (.iadd, 1) := by decide +kernel
theorem dX9_canRise_7 : decode cX9_canRise 7 = .ok (.iload_n 1, 1) := by decide +kernel
theorem dX9_canRise_8 : decode cX9_canRise 8 = .ok (.iconst 4, 1) := by decide +kernel
theorem dX9_canRise_9 : decode cX9_canRise 9 = .ok (.idiv, 1) := by decide +kernel
theorem dX9_canRise_10 : decode cX9_canRise 10 = .ok (.iload_n 1, 1) := by decide +kernel
theorem dX9_canRise_11 : decode cX9_canRise 11 = .ok (.aload_n 2, 1) := by decide +kernel
theorem dX9_canRise_12 : decode cX9_canRise 12 = .ok (.aload_n 3, 1) := by decide +kernel
theorem dX9_canRise_13 : decode cX9_canRise 13 = .ok (.invokevirtual 259, 3) := by decide +kernel
theorem dX9_canRise_16 : decode cX9_canRise 16 = .ok (.ireturn, 1) := by decide +kernel
theorem dX9_canFall_0 : decode cX9_canFall 0 = .ok (.aload_n 3, 1) := by decide +kernel
theorem dX9_canFall_1 : decode cX9_canFall 1 = .ok (.iload_n 1, 1) := by decide +kernel
theorem dX9_canFall_2 : decode cX9_canFall 2 = .ok (.iaload, 1) := by decide +kernel
theorem dX9_canFall_3 : decode cX9_canFall 3 = .ok (.ifCond .le 26, 3) := by decide +kernel
theorem dX9_canFall_6 : decode cX9_canFall 6 = .ok (.aload_n 0, 1) := by decide +kernel
theorem dX9_canFall_7 : decode cX9_canFall 7 = .ok (.iload_n 1, 1) := by decide +kernel
theorem dX9_canFall_8 : decode cX9_canFall 8 = .ok (.iconst 4, 1) := by decide +kernel
theorem dX9_canFall_9 : decode cX9_canFall 9 = .ok (.idiv, 1) := by decide +kernel
theorem dX9_canFall_10 : decode cX9_canFall 10 = .ok (.bipush 6, 2) := by decide +kernel
theorem dX9_canFall_12 : decode cX9_canFall 12 = .ok (.iload_n 1, 1) := by decide +kernel
theorem dX9_canFall_13 : decode cX9_canFall 13 = .ok (.iconst 4, 1) := by decide +kernel
theorem dX9_canFall_14 : decode cX9_canFall 14 = .ok (.irem, 1) := by decide +kernel
theorem dX9_canFall_15 : decode cX9_canFall 15 = .ok (.iadd, 1) := by decide +kernel
theorem dX9_canFall_16 : decode cX9_canFall 16 = .ok (.iload_n 1, 1) := by decide +kernel
theorem dX9_canFall_17 : decode cX9_canFall 17 = .ok (.aload_n 2, 1) := by decide +kernel
theorem dX9_canFall_18 : decode cX9_canFall 18 = .ok (.aload_n 3, 1) := by decide +kernel
theorem dX9_canFall_19 : decode cX9_canFall 19 = .ok (.invokevirtual 259, 3) := by decide +kernel
theorem dX9_canFall_22 : decode cX9_canFall 22 = .ok (.ifCond .eq 7, 3) := by decide +kernel
theorem dX9_canFall_25 : decode cX9_canFall 25 = .ok (.iconst 1, 1) := by decide +kernel
theorem dX9_canFall_26 : decode cX9_canFall 26 = .ok (.goto 4, 3) := by decide +kernel
theorem dX9_canFall_29 : decode cX9_canFall 29 = .ok (.iconst 0, 1) := by decide +kernel
theorem dX9_canFall_30 : decode cX9_canFall 30 = .ok (.ireturn, 1) := by decide +kernel
theorem dX9_isSmall_0 : decode cX9_isSmall 0 = .ok (.aload_n 0, 1) := by decide +kernel
theorem dX9_isSmall_1 : decode cX9_isSmall 1 = .ok (.getfield 118, 3) := by decide +kernel
theorem dX9_isSmall_4 : decode cX9_isSmall 4 = .ok (.iload_n 1, 1) := by decide +kernel
theorem dX9_isSmall_5 : decode cX9_isSmall 5 = .ok (.iaload, 1) := by decide +kernel
theorem dX9_isSmall_6 : decode cX9_isSmall 6 = .ok (.ifCond .le 20, 3) := by decide +kernel
theorem dX9_isSmall_9 : decode cX9_isSmall 9 = .ok (.aload_n 0, 1) := by decide +kernel
theorem dX9_isSmall_10 : decode cX9_isSmall 10 = .ok (.getfield 118, 3) := by decide +kernel
theorem dX9_isSmall_13 : decode cX9_isSmall 13 = .ok (.iload_n 1, 1) := by decide +kernel
theorem dX9_isSmall_14 : decode cX9_isSmall 14 = .ok (.iaload, 1) := by decide +kernel
theorem dX9_isSmall_15 : decode cX9_isSmall 15 = .ok (.aload_n 0, 1) := by decide +kernel
theorem dX9_isSmall_16 : decode cX9_isSmall 16 = .ok (.getfield 69, 3) := by decide +kernel
theorem dX9_isSmall_19 : decode cX9_isSmall 19 = .ok (.if_icmp .ge 7, 3) := by decide +kernel
theorem dX9_isSmall_22 : decode cX9_isSmall 22 = .ok (.iconst 1, 1) := by decide +kernel
theorem dX9_isSmall_23 : decode cX9_isSmall 23 = .ok (.goto 4, 3) := by decide +kernel
theorem dX9_isSmall_26 : decode cX9_isSmall 26 = .ok (.iconst 0, 1) := by decide +kernel
theorem dX9_isSmall_27 : decode cX9_isSmall 27 = .ok (.ireturn, 1) := by decide +kernel
theorem dX9_isSafe_0 : decode cX9_isSafe 0 = .ok (.iconst 0, 1) := by decide +kernel
theorem dX9_isSafe_1 : decode cX9_isSafe 1 = .ok (.istore_n 1, 1) := by decide +kernel
theorem dX9_isSafe_2 : decode cX9_isSafe 2 = .ok (.iload_n 1, 1) := by decide +kernel
theorem dX9_isSafe_3 : decode cX9_isSafe 3 = .ok (.bipush 24, 2) := by decide +kernel
theorem dX9_isSafe_5 : decode cX9_isSafe 5 = .ok (.if_icmp .ge 51, 3) := by decide +kernel
theorem dX9_isSafe_8 : decode cX9_isSafe 8 = .ok (.aload_n 0, 1) := by decide +kernel
theorem dX9_isSafe_9 : decode cX9_isSafe 9 = .ok (.iload_n 1, 1) := by decide +kernel
theorem dX9_isSafe_10 : decode cX9_isSafe 10 = .ok (.invokevirtual 263, 3) := by decide +kernel
theorem dX9_isSafe_13 : decode cX9_isSafe 13 = .ok (.ifCond .eq 37, 3) := by decide +kernel
theorem dX9_isSafe_16 : decode cX9_isSafe 16 = .ok (.aload_n 0, 1) := by decide +kernel
theorem dX9_isSafe_17 : decode cX9_isSafe 17 = .ok (.iload_n 1, 1) := by decide +kernel
theorem dX9_isSafe_18 : decode cX9_isSafe 18 = .ok (.aload_n 0, 1) := by decide +kernel
theorem dX9_isSafe_19 : decode cX9_isSafe 19 = .ok (.getfield 127, 3) := by decide +kernel
theorem dX9_isSafe_22 : decode cX9_isSafe 22 = .ok (.aload_n 0, 1) := by decide +kernel
theorem dX9_isSafe_23 : decode cX9_isSafe 23 = .ok (.getfield 118, 3) := by decide +kernel
theorem dX9_isSafe_26 : decode cX9_isSafe 26 = .ok (.invokevirtual 266, 3) := by decide +kernel
theorem dX9_isSafe_29 : decode cX9_isSafe 29 = .ok (.ifCond .ne 21, 3) := by decide +kernel
theorem dX9_isSafe_32 : decode cX9_isSafe 32 = .ok (.aload_n 0, 1) := by decide +kernel
theorem dX9_isSafe_33 : decode cX9_isSafe 33 = .ok (.iload_n 1, 1) := by decide +kernel
theorem dX9_isSafe_34 : decode cX9_isSafe 34 = .ok (.aload_n 0, 1) := by decide +kernel
theorem dX9_isSafe_35 : decode cX9_isSafe 35 = .ok (.getfield 127, 3) := by decide +kernel
theorem dX9_isSafe_38 : decode cX9_isSafe 38 = .ok (.aload_n 0, 1) := by decide +kernel
theorem dX9_isSafe_39 : decode cX9_isSafe 39 = .ok (.getfield 118, 3) := by decide +kernel
theorem dX9_isSafe_42 : decode cX9_isSafe 42 = .ok (.invokevirtual 270, 3) := by decide +kernel
theorem dX9_isSafe_45 : decode cX9_isSafe 45 = .ok (.ifCond .ne 5, 3) := by decide +kernel
theorem dX9_isSafe_48 : decode cX9_isSafe 48 = .ok (.iconst 0, 1) := by decide +kernel
theorem dX9_isSafe_49 : decode cX9_isSafe 49 = .ok (.ireturn, 1) := by decide +kernel
theorem dX9_isSafe_50 : decode cX9_isSafe 50 = .ok (.iinc 1 1, 3) := by decide +kernel
theorem dX9_isSafe_53 : decode cX9_isSafe 53 = .ok (.goto (-51), 3) := by decide +kernel
theorem dX9_isSafe_56 : decode cX9_isSafe 56 = .ok (.iconst 1, 1) := by decide +kernel
theorem dX9_isSafe_57 : decode cX9_isSafe 57 = .ok (.ireturn, 1) := by decide +kernel
theorem dX9_hides_0 : decode cX9_hides 0 = .ok (.iconst 0, 1) := by decide +kernel
theorem dX9_hides_1 : decode cX9_hides 1 = .ok (.istore_n 2, 1) := by decide +kernel
theorem dX9_hides_2 : decode cX9_hides 2 = .ok (.iload_n 2, 1) := by decide +kernel
theorem dX9_hides_3 : decode cX9_hides 3 = .ok (.bipush 24, 2) := by decide +kernel
theorem dX9_hides_5 : decode cX9_hides 5 = .ok (.if_icmp .ge 20, 3) := by decide +kernel
theorem dX9_hides_8 : decode cX9_hides 8 = .ok (.aload_n 0, 1) := by decide +kernel
theorem dX9_hides_9 : decode cX9_hides 9 = .ok (.getfield 127, 3) := by decide +kernel
theorem dX9_hides_12 : decode cX9_hides 12 = .ok (.iload_n 2, 1) := by decide +kernel
theorem dX9_hides_13 : decode cX9_hides 13 = .ok (.aload_n 0, 1) := by decide +kernel
theorem dX9_hides_14 : decode cX9_hides 14 = .ok (.iload_n 2, 1) := by decide +kernel
theorem dX9_hides_15 : decode cX9_hides 15 = .ok (.invokevirtual 263, 3) := by decide +kernel
theorem dX9_hides_18 : decode cX9_hides 18 = .ok (.bastore, 1) := by decide +kernel
theorem dX9_hides_19 : decode cX9_hides 19 = .ok (.iinc 2 1, 3) := by decide +kernel
theorem dX9_hides_22 : decode cX9_hides 22 = .ok (.goto (-20), 3) := by decide +kernel
theorem dX9_hides_25 : decode cX9_hides 25 = .ok (.iconst 0, 1) := by decide +kernel
theorem dX9_hides_26 : decode cX9_hides 26 = .ok (.istore_n 2, 1) := by decide +kernel
theorem dX9_hides_27 : decode cX9_hides 27 = .ok (.iload_n 2, 1) := by decide +kernel
theorem dX9_hides_28 : decode cX9_hides 28 = .ok (.iload_n 1, 1) := by decide +kernel
theorem dX9_hides_29 : decode cX9_hides 29 = .ok (.if_icmp .ge 21, 3) := by decide +kernel
theorem dX9_hides_32 : decode cX9_hides 32 = .ok (.aload_n 0, 1) := by decide +kernel
theorem dX9_hides_33 : decode cX9_hides 33 = .ok (.getfield 127, 3) := by decide +kernel
theorem dX9_hides_36 : decode cX9_hides 36 = .ok (.aload_n 0, 1) := by decide +kernel
theorem dX9_hides_37 : decode cX9_hides 37 = .ok (.getfield 136, 3) := by decide +kernel
theorem dX9_hides_40 : decode cX9_hides 40 = .ok (.iload_n 2, 1) := by decide +kernel
theorem dX9_hides_41 : decode cX9_hides 41 = .ok (.iaload, 1) := by decide +kernel
theorem dX9_hides_42 : decode cX9_hides 42 = .ok (.iconst 1, 1) := by decide +kernel
theorem dX9_hides_43 : decode cX9_hides 43 = .ok (.bastore, 1) := by decide +kernel
theorem dX9_hides_44 : decode cX9_hides 44 = .ok (.iinc 2 1, 3) := by decide +kernel
theorem dX9_hides_47 : decode cX9_hides 47 = .ok (.goto (-20), 3) := by decide +kernel
theorem dX9_hides_50 : decode cX9_hides 50 = .ok (.return_, 1) := by decide +kernel
theorem dX9_areOthers_0 : decode cX9_areOthers 0 = .ok (.iconst 0, 1) := by decide +kernel
theorem dX9_areOthers_1 : decode cX9_areOthers 1 = .ok (.istore_n 2, 1) := by decide +kernel
theorem dX9_areOthers_2 : decode cX9_areOthers 2 = .ok (.iload_n 2, 1) := by decide +kernel
theorem dX9_areOthers_3 : decode cX9_areOthers 3 = .ok (.iload_n 1, 1) := by decide +kernel
theorem dX9_areOthers_4 : decode cX9_areOthers 4 = .ok (.if_icmp .ge 24, 3) := by decide +kernel
theorem dX9_areOthers_7 : decode cX9_areOthers 7 = .ok (.aload_n 0, 1) := by decide +kernel
theorem dX9_areOthers_8 : decode cX9_areOthers 8 = .ok (.aload_n 0, 1) := by decide +kernel
theorem dX9_areOthers_9 : decode cX9_areOthers 9 = .ok (.getfield 136, 3) := by decide +kernel
theorem dX9_areOthers_12 : decode cX9_areOthers 12 = .ok (.iload_n 2, 1) := by decide +kernel
theorem dX9_areOthers_13 : decode cX9_areOthers 13 = .ok (.iaload, 1) := by decide +kernel
theorem dX9_areOthers_14 : decode cX9_areOthers 14 = .ok (.invokevirtual 263, 3) := by decide +kernel
theorem dX9_areOthers_17 : decode cX9_areOthers 17 = .ok (.ifCond .eq 5, 3) := by decide +kernel
theorem dX9_areOthers_20 : decode cX9_areOthers 20 = .ok (.iconst 0, 1) := by decide +kernel
theorem dX9_areOthers_21 : decode cX9_areOthers 21 = .ok (.ireturn, 1) := by decide +kernel
theorem dX9_areOthers_22 : decode cX9_areOthers 22 = .ok (.iinc 2 1, 3) := by decide +kernel
theorem dX9_areOthers_25 : decode cX9_areOthers 25 = .ok (.goto (-23), 3) := by decide +kernel
theorem dX9_areOthers_28 : decode cX9_areOthers 28 = .ok (.iconst 1, 1) := by decide +kernel
theorem dX9_areOthers_29 : decode cX9_areOthers 29 = .ok (.ireturn, 1) := by decide +kernel
theorem dX9_nextOthers_0 : decode cX9_nextOthers 0 = .ok (.iload_n 1, 1) := by decide +kernel
theorem dX9_nextOthers_1 : decode cX9_nextOthers 1 = .ok (.iconst 1, 1) := by decide +kernel
theorem dX9_nextOthers_2 : decode cX9_nextOthers 2 = .ok (.isub, 1) := by decide +kernel
theorem dX9_nextOthers_3 : decode cX9_nextOthers 3 = .ok (.istore_n 2, 1) := by decide +kernel
theorem dX9_nextOthers_4 : decode cX9_nextOthers 4 = .ok (.iload_n 2, 1) := by decide +kernel
theorem dX9_nextOthers_5 : decode cX9_nextOthers 5 = .ok (.ifCond .lt 24, 3) := by decide +kernel
theorem dX9_nextOthers_8 : decode cX9_nextOthers 8 = .ok (.aload_n 0, 1) := by decide +kernel
theorem dX9_nextOthers_9 : decode cX9_nextOthers 9 = .ok (.getfield 136, 3) := by decide +kernel
theorem dX9_nextOthers_12 : decode cX9_nextOthers 12 = .ok (.iload_n 2, 1) := by decide +kernel
theorem dX9_nextOthers_13 : decode cX9_nextOthers 13 = .ok (.iaload, 1) := by decide +kernel
theorem dX9_nextOthers_14 : decode cX9_nextOthers 14 = .ok (.bipush 24, 2) := by decide +kernel
theorem dX9_nextOthers_16 : decode cX9_nextOthers 16 = .ok (.iload_n 1, 1) := by decide +kernel
theorem dX9_nextOthers_17 : decode cX9_nextOthers 17 = .ok (.isub, 1) := by decide +kernel
theorem dX9_nextOthers_18 : decode cX9_nextOthers 18 = .ok (.iload_n 2, 1) := by decide +kernel
theorem dX9_nextOthers_19 : decode cX9_nextOthers 19 = .ok (.iadd, 1) := by decide +kernel
theorem dX9_nextOthers_20 : decode cX9_nextOthers 20 = .ok (.if_icmp .ne 9, 3) := by decide +kernel
theorem dX9_nextOthers_23 : decode cX9_nextOthers 23 = .ok (.iinc 2 (-1), 3) := by decide +kernel
theorem dX9_nextOthers_26 : decode cX9_nextOthers 26 = .ok (.goto (-22), 3) := by decide +kernel
theorem dX9_nextOthers_29 : decode cX9_nextOthers 29 = .ok (.iload_n 2, 1) := by decide +kernel
theorem dX9_nextOthers_30 : decode cX9_nextOthers 30 = .ok (.ifCond .ge 5, 3) := by decide +kernel
theorem dX9_nextOthers_33 : decode cX9_nextOthers 33 = .ok (.iconst 0, 1) := by decide +kernel
theorem dX9_nextOthers_34 : decode cX9_nextOthers 34 = .ok (.ireturn, 1) := by decide +kernel
theorem dX9_nextOthers_35 : decode cX9_nextOthers 35 = .ok (.aload_n 0, 1) := by decide +kernel
theorem dX9_nextOthers_36 : decode cX9_nextOthers 36 = .ok (.getfield 136, 3) := by decide +kernel
theorem dX9_nextOthers_39 : decode cX9_nextOthers 39 = .ok (.iload_n 2, 1) := by decide +kernel
theorem dX9_nextOthers_40 : decode cX9_nextOthers 40 = .ok (.dup2, 1) := by decide +kernel
theorem dX9_nextOthers_41 : decode cX9_nextOthers 41 = .ok (.iaload, 1) := by decide +kernel
theorem dX9_nextOthers_42 : decode cX9_nextOthers 42 = .ok (.iconst 1, 1) := by decide +kernel
theorem dX9_nextOthers_43 : decode cX9_nextOthers 43 = .ok (.iadd, 1) := by decide +kernel
theorem dX9_nextOthers_44 : decode cX9_nextOthers 44 = .ok (.iastore, 1) := by decide +kernel
theorem dX9_nextOthers_45 : decode cX9_nextOthers 45 = .ok (.iload_n 2, 1) := by decide +kernel
theorem dX9_nextOthers_46 : decode cX9_nextOthers 46 = .ok (.iconst 1, 1) := by decide +kernel
theorem dX9_nextOthers_47 : decode cX9_nextOthers 47 = .ok (.iadd, 1) := by decide +kernel
theorem dX9_nextOthers_48 : decode cX9_nextOthers 48 = .ok (.istore_n 3, 1) := by decide +kernel
theorem dX9_nextOthers_49 : decode cX9_nextOthers 49 = .ok (.iload_n 3, 1) := by decide +kernel
theorem dX9_nextOthers_50 : decode cX9_nextOthers 50 = .ok (.iload_n 1, 1) := by decide +kernel
theorem dX9_nextOthers_51 : decode cX9_nextOthers 51 = .ok (.if_icmp .ge 25, 3) := by decide +kernel
theorem dX9_nextOthers_54 : decode cX9_nextOthers 54 = .ok (.aload_n 0, 1) := by decide +kernel
theorem dX9_nextOthers_55 : decode cX9_nextOthers 55 = .ok (.getfield 136, 3) := by decide +kernel
theorem dX9_nextOthers_58 : decode cX9_nextOthers 58 = .ok (.iload_n 3, 1) := by decide +kernel
theorem dX9_nextOthers_59 : decode cX9_nextOthers 59 = .ok (.aload_n 0, 1) := by decide +kernel
theorem dX9_nextOthers_60 : decode cX9_nextOthers 60 = .ok (.getfield 136, 3) := by decide +kernel
theorem dX9_nextOthers_63 : decode cX9_nextOthers 63 = .ok (.iload_n 3, 1) := by decide +kernel
theorem dX9_nextOthers_64 : decode cX9_nextOthers 64 = .ok (.iconst 1, 1) := by decide +kernel
theorem dX9_nextOthers_65 : decode cX9_nextOthers 65 = .ok (.isub, 1) := by decide +kernel
theorem dX9_nextOthers_66 : decode cX9_nextOthers 66 = .ok (.iaload, 1) := by decide +kernel
theorem dX9_nextOthers_67 : decode cX9_nextOthers 67 = .ok (.iconst 1, 1) := by decide +kernel
theorem dX9_nextOthers_68 : decode cX9_nextOthers 68 = .ok (.iadd, 1) := by decide +kernel
theorem dX9_nextOthers_69 : decode cX9_nextOthers 69 = .ok (.iastore, 1) := by decide +kernel
theorem dX9_nextOthers_70 : decode cX9_nextOthers 70 = .ok (.iinc 3 1, 3) := by decide +kernel
theorem dX9_nextOthers_73 : decode cX9_nextOthers 73 = .ok (.goto (-24), 3) := by decide +kernel
theorem dX9_nextOthers_76 : decode cX9_nextOthers 76 = .ok (.iconst 1, 1) := by decide +kernel
theorem dX9_nextOthers_77 : decode cX9_nextOthers 77 = .ok (.ireturn, 1) := by decide +kernel
theorem dX9_findOthers_0 : decode cX9_findOthers 0 = .ok (.iconst 0, 1) := by decide +kernel
theorem dX9_findOthers_1 : decode cX9_findOthers 1 = .ok (.istore_n 2, 1) := by decide +kernel
theorem dX9_findOthers_2 : decode cX9_findOthers 2 = .ok (.iload_n 2, 1) := by decide +kernel
theorem dX9_findOthers_3 : decode cX9_findOthers 3 = .ok (.iload_n 1, 1) := by decide +kernel
theorem dX9_findOthers_4 : decode cX9_findOthers 4 = .ok (.if_icmp .ge 16, 3) := by decide +kernel
theorem dX9_findOthers_7 : decode cX9_findOthers 7 = .ok (.aload_n 0, 1) := by decide +kernel
theorem dX9_findOthers_8 : decode cX9_findOthers 8 = .ok (.getfield 136, 3) := by decide +kernel
theorem dX9_findOthers_11 : decode cX9_findOthers 11 = .ok (.iload_n 2, 1) := by decide +kernel
theorem dX9_findOthers_12 : decode cX9_findOthers 12 = .ok (.iload_n 2, 1) := by decide +kernel
theorem dX9_findOthers_13 : decode cX9_findOthers 13 = .ok (.iastore, 1) := by decide +kernel
theorem dX9_findOthers_14 : decode cX9_findOthers 14 = .ok (.iinc 2 1, 3) := by decide +kernel
theorem dX9_findOthers_17 : decode cX9_findOthers 17 = .ok (.goto (-15), 3) := by decide +kernel
theorem dX9_findOthers_20 : decode cX9_findOthers 20 = .ok (.iconst 1, 1) := by decide +kernel
theorem dX9_findOthers_21 : decode cX9_findOthers 21 = .ok (.istore_n 2, 1) := by decide +kernel
theorem dX9_findOthers_22 : decode cX9_findOthers 22 = .ok (.iload_n 2, 1) := by decide +kernel
theorem dX9_findOthers_23 : decode cX9_findOthers 23 = .ok (.ifCond .eq 34, 3) := by decide +kernel
theorem dX9_findOthers_26 : decode cX9_findOthers 26 = .ok (.aload_n 0, 1) := by decide +kernel
theorem dX9_findOthers_27 : decode cX9_findOthers 27 = .ok (.iload_n 1, 1) := by decide +kernel
theorem dX9_findOthers_28 : decode cX9_findOthers 28 = .ok (.invokevirtual 273, 3) := by decide +kernel
theorem dX9_findOthers_31 : decode cX9_findOthers 31 = .ok (.ifCond .eq 17, 3) := by decide +kernel
theorem dX9_findOthers_34 : decode cX9_findOthers 34 = .ok (.aload_n 0, 1) := by decide +kernel
theorem dX9_findOthers_35 : decode cX9_findOthers 35 = .ok (.iload_n 1, 1) := by decide +kernel
theorem dX9_findOthers_36 : decode cX9_findOthers 36 = .ok (.invokevirtual 276, 3) := by decide +kernel
theorem dX9_findOthers_39 : decode cX9_findOthers 39 = .ok (.aload_n 0, 1) := by decide +kernel
theorem dX9_findOthers_40 : decode cX9_findOthers 40 = .ok (.invokevirtual 280, 3) := by decide +kernel
theorem dX9_findOthers_43 : decode cX9_findOthers 43 = .ok (.ifCond .eq 5, 3) := by decide +kernel
theorem dX9_findOthers_46 : decode cX9_findOthers 46 = .ok (.iconst 1, 1) := by decide +kernel
theorem dX9_findOthers_47 : decode cX9_findOthers 47 = .ok (.ireturn, 1) := by decide +kernel
theorem dX9_findOthers_48 : decode cX9_findOthers 48 = .ok (.aload_n 0, 1) := by decide +kernel
theorem dX9_findOthers_49 : decode cX9_findOthers 49 = .ok (.iload_n 1, 1) := by decide +kernel
theorem dX9_findOthers_50 : decode cX9_findOthers 50 = .ok (.invokevirtual 283, 3) := by decide +kernel
theorem dX9_findOthers_53 : decode cX9_findOthers 53 = .ok (.istore_n 2, 1) := by decide +kernel
theorem dX9_findOthers_54 : decode cX9_findOthers 54 = .ok (.goto (-32), 3) := by decide +kernel
theorem dX9_findOthers_57 : decode cX9_findOthers 57 = .ok (.iconst 0, 1) := by decide +kernel
theorem dX9_findOthers_58 : decode cX9_findOthers 58 = .ok (.ireturn, 1) := by decide +kernel
theorem dX9_table_0 : decode cX9_table 0 = .ok (.aload_n 0, 1) := by decide +kernel
theorem dX9_table_1 : decode cX9_table 1 = .ok (.getfield 158, 3) := by decide +kernel
theorem dX9_table_4 : decode cX9_table 4 = .ok (.ifCond .ne 10, 3) := by decide +kernel
theorem dX9_table_7 : decode cX9_table 7 = .ok (.aload_n 0, 1) := by decide +kernel
theorem dX9_table_8 : decode cX9_table 8 = .ok (.bipush (-6), 2) := by decide +kernel
theorem dX9_table_10 : decode cX9_table 10 = .ok (.invokevirtual 146, 3) := by decide +kernel
theorem dX9_table_13 : decode cX9_table 13 = .ok (.ireturn, 1) := by decide +kernel
theorem dX9_table_14 : decode cX9_table 14 = .ok (.iconst 0, 1) := by decide +kernel
theorem dX9_table_15 : decode cX9_table 15 = .ok (.istore_n 1, 1) := by decide +kernel
theorem dX9_table_16 : decode cX9_table 16 = .ok (.iload_n 1, 1) := by decide +kernel
theorem dX9_table_17 : decode cX9_table 17 = .ok (.bipush 24, 2) := by decide +kernel
theorem dX9_table_19 : decode cX9_table 19 = .ok (.if_icmp .ge 26, 3) := by decide +kernel
theorem dX9_table_22 : decode cX9_table 22 = .ok (.aload_n 0, 1) := by decide +kernel
theorem dX9_table_23 : decode cX9_table 23 = .ok (.getfield 118, 3) := by decide +kernel
theorem dX9_table_26 : decode cX9_table 26 = .ok (.iload_n 1, 1) := by decide +kernel
theorem dX9_table_27 : decode cX9_table 27 = .ok (.aload_n 0, 1) := by decide +kernel
theorem dX9_table_28 : decode cX9_table 28 = .ok (.iload_n 1, 1) := by decide +kernel
theorem dX9_table_29 : decode cX9_table 29 = .ok (.iconst 4, 1) := by decide +kernel
theorem dX9_table_30 : decode cX9_table 30 = .ok (.idiv, 1) := by decide +kernel
theorem dX9_table_31 : decode cX9_table 31 = .ok (.iload_n 1, 1) := by decide +kernel
theorem dX9_table_32 : decode cX9_table 32 = .ok (.iconst 4, 1) := by decide +kernel
theorem dX9_table_33 : decode cX9_table 33 = .ok (.irem, 1) := by decide +kernel
theorem dX9_table_34 : decode cX9_table 34 = .ok (.iconst 1, 1) := by decide +kernel
theorem dX9_table_35 : decode cX9_table 35 = .ok (.invokevirtual 220, 3) := by decide +kernel
theorem dX9_table_38 : decode cX9_table 38 = .ok (.iastore, 1) := by decide +kernel
theorem dX9_table_39 : decode cX9_table 39 = .ok (.iinc 1 1, 3) := by decide +kernel
theorem dX9_table_42 : decode cX9_table 42 = .ok (.goto (-26), 3) := by decide +kernel
theorem dX9_table_45 : decode cX9_table 45 = .ok (.iconst 0, 1) := by decide +kernel
theorem dX9_table_46 : decode cX9_table 46 = .ok (.istore_n 1, 1) := by decide +kernel
theorem dX9_table_47 : decode cX9_table 47 = .ok (.iload_n 1, 1) := by decide +kernel
theorem dX9_table_48 : decode cX9_table 48 = .ok (.iconst 4, 1) := by decide +kernel
theorem dX9_table_49 : decode cX9_table 49 = .ok (.if_icmp .gt 17, 3) := by decide +kernel
theorem dX9_table_52 : decode cX9_table 52 = .ok (.aload_n 0, 1) := by decide +kernel
theorem dX9_table_53 : decode cX9_table 53 = .ok (.iload_n 1, 1) := by decide +kernel
theorem dX9_table_54 : decode cX9_table 54 = .ok (.invokevirtual 286, 3) := by decide +kernel
theorem dX9_table_57 : decode cX9_table 57 = .ok (.ifCond .ne 9, 3) := by decide +kernel
theorem dX9_table_60 : decode cX9_table 60 = .ok (.iinc 1 1, 3) := by decide +kernel
theorem dX9_table_63 : decode cX9_table 63 = .ok (.goto (-16), 3) := by decide +kernel
theorem dX9_table_66 : decode cX9_table 66 = .ok (.iload_n 1, 1) := by decide +kernel
theorem dX9_table_67 : decode cX9_table 67 = .ok (.iconst 4, 1) := by decide +kernel
theorem dX9_table_68 : decode cX9_table 68 = .ok (.if_icmp .le 10, 3) := by decide +kernel
theorem dX9_table_71 : decode cX9_table 71 = .ok (.aload_n 0, 1) := by decide +kernel
theorem dX9_table_72 : decode cX9_table 72 = .ok (.bipush (-6), 2) := by decide +kernel
theorem dX9_table_74 : decode cX9_table 74 = .ok (.invokevirtual 146, 3) := by decide +kernel
theorem dX9_table_77 : decode cX9_table 77 = .ok (.ireturn, 1) := by decide +kernel
theorem dX9_table_78 : decode cX9_table 78 = .ok (.iconst 0, 1) := by decide +kernel
theorem dX9_table_79 : decode cX9_table 79 = .ok (.istore_n 2, 1) := by decide +kernel
theorem dX9_table_80 : decode cX9_table 80 = .ok (.iconst 0, 1) := by decide +kernel
theorem dX9_table_81 : decode cX9_table 81 = .ok (.istore_n 3, 1) := by decide +kernel
theorem dX9_table_82 : decode cX9_table 82 = .ok (.iload_n 3, 1) := by decide +kernel
theorem dX9_table_83 : decode cX9_table 83 = .ok (.bipush 24, 2) := by decide +kernel
theorem dX9_table_85 : decode cX9_table 85 = .ok (.if_icmp .ge 50, 3) := by decide +kernel
theorem dX9_table_88 : decode cX9_table 88 = .ok (.aload_n 0, 1) := by decide +kernel
theorem dX9_table_89 : decode cX9_table 89 = .ok (.getfield 115, 3) := by decide +kernel
theorem dX9_table_92 : decode cX9_table 92 = .ok (.iload_n 3, 1) := by decide +kernel
theorem dX9_table_93 : decode cX9_table 93 = .ok (.aload_n 0, 1) := by decide +kernel
theorem dX9_table_94 : decode cX9_table 94 = .ok (.getfield 118, 3) := by decide +kernel
theorem dX9_table_97 : decode cX9_table 97 = .ok (.iload_n 3, 1) := by decide +kernel
theorem dX9_table_98 : decode cX9_table 98 = .ok (.iaload, 1) := by decide +kernel
theorem dX9_table_99 : decode cX9_table 99 = .ok (.iastore, 1) := by decide +kernel
theorem dX9_table_100 : decode cX9_table 100 = .ok (.aload_n 0, 1) := by decide +kernel
theorem dX9_table_101 : decode cX9_table 101 = .ok (.getfield 124, 3) := by decide +kernel
theorem dX9_table_104 : decode cX9_table 104 = .ok (.iload_n 3, 1) := by decide +kernel
theorem dX9_table_105 : decode cX9_table 105 = .ok (.aload_n 0, 1) := by decide +kernel
theorem dX9_table_106 : decode cX9_table 106 = .ok (.getfield 127, 3) := by decide +kernel
theorem dX9_table_109 : decode cX9_table 109 = .ok (.iload_n 3, 1) := by decide +kernel
theorem dX9_table_110 : decode cX9_table 110 = .ok (.baload, 1) := by decide +kernel
theorem dX9_table_111 : decode cX9_table 111 = .ok (.bastore, 1) := by decide +kernel
theorem dX9_table_112 : decode cX9_table 112 = .ok (.iload_n 2, 1) := by decide +kernel
theorem dX9_table_113 : decode cX9_table 113 = .ok (.aload_n 0, 1) := by decide +kernel
theorem dX9_table_114 : decode cX9_table 114 = .ok (.getfield 127, 3) := by decide +kernel
theorem dX9_table_117 : decode cX9_table 117 = .ok (.iload_n 3, 1) := by decide +kernel
theorem dX9_table_118 : decode cX9_table 118 = .ok (.baload, 1) := by decide +kernel
theorem dX9_table_119 : decode cX9_table 119 = .ok (.ifCond .eq 7, 3) := by decide +kernel
theorem dX9_table_122 : decode cX9_table 122 = .ok (.iconst 1, 1) := by decide +kernel
theorem dX9_table_123 : decode cX9_table 123 = .ok (.goto 4, 3) := by decide +kernel
theorem dX9_table_126 : decode cX9_table 126 = .ok (.iconst 0, 1) := by decide +kernel
theorem dX9_table_127 : decode cX9_table 127 = .ok (.iadd, 1) := by decide +kernel
theorem dX9_table_128 : decode cX9_table 128 = .ok (.istore_n 2, 1) := by decide +kernel
theorem dX9_table_129 : decode cX9_table 129 = .ok (.iinc 3 1, 3) := by decide +kernel
theorem dX9_table_132 : decode cX9_table 132 = .ok (.goto (-50), 3) := by decide +kernel
theorem dX9_table_135 : decode cX9_table 135 = .ok (.aload_n 0, 1) := by decide +kernel
theorem dX9_table_136 : decode cX9_table 136 = .ok (.iconst 1, 1) := by decide +kernel
theorem dX9_table_137 : decode cX9_table 137 = .ok (.putfield 289, 3) := by decide +kernel
theorem dX9_table_140 : decode cX9_table 140 = .ok (.iload_n 2, 1) := by decide +kernel
theorem dX9_table_141 : decode cX9_table 141 = .ok (.ireturn, 1) := by decide +kernel
theorem dX9_told_0 : decode cX9_told 0 = .ok (.aload_n 0, 1) := by decide +kernel
theorem dX9_told_1 : decode cX9_told 1 = .ok (.getfield 289, 3) := by decide +kernel
theorem dX9_told_4 : decode cX9_told 4 = .ok (.ifCond .eq 27, 3) := by decide +kernel
theorem dX9_told_7 : decode cX9_told 7 = .ok (.iload_n 1, 1) := by decide +kernel
theorem dX9_told_8 : decode cX9_told 8 = .ok (.i2l, 1) := by decide +kernel
theorem dX9_told_9 : decode cX9_told 9 = .ok (.lconst 0, 1) := by decide +kernel
theorem dX9_told_10 : decode cX9_told 10 = .ok (.ldc2_w 292, 3) := by decide +kernel
theorem dX9_told_13 : decode cX9_told 13 = .ok (.invokestatic 152, 3) := by decide +kernel
theorem dX9_told_16 : decode cX9_told 16 = .ok (.ifCond .eq 15, 3) := by decide +kernel
theorem dX9_told_19 : decode cX9_told 19 = .ok (.iload_n 2, 1) := by decide +kernel
theorem dX9_told_20 : decode cX9_told 20 = .ok (.i2l, 1) := by decide +kernel
theorem dX9_told_21 : decode cX9_told 21 = .ok (.lconst 0, 1) := by decide +kernel
theorem dX9_told_22 : decode cX9_told 22 = .ok (.ldc2_w 294, 3) := by decide +kernel
theorem dX9_told_25 : decode cX9_told 25 = .ok (.invokestatic 152, 3) := by decide +kernel
theorem dX9_told_28 : decode cX9_told 28 = .ok (.ifCond .ne 5, 3) := by decide +kernel
theorem dX9_told_31 : decode cX9_told 31 = .ok (.iconst (-1), 1) := by decide +kernel
theorem dX9_told_32 : decode cX9_told 32 = .ok (.ireturn, 1) := by decide +kernel
theorem dX9_told_33 : decode cX9_told 33 = .ok (.iload_n 1, 1) := by decide +kernel
theorem dX9_told_34 : decode cX9_told 34 = .ok (.bipush 6, 2) := by decide +kernel
theorem dX9_told_36 : decode cX9_told 36 = .ok (.if_icmp .ge 37, 3) := by decide +kernel
theorem dX9_told_39 : decode cX9_told 39 = .ok (.iload_n 2, 1) := by decide +kernel
theorem dX9_told_40 : decode cX9_told 40 = .ok (.iconst 4, 1) := by decide +kernel
theorem dX9_told_41 : decode cX9_told 41 = .ok (.if_icmp .ge 32, 3) := by decide +kernel
theorem dX9_told_44 : decode cX9_told 44 = .ok (.aload_n 0, 1) := by decide +kernel
theorem dX9_told_45 : decode cX9_told 45 = .ok (.getfield 124, 3) := by decide +kernel
theorem dX9_told_48 : decode cX9_told 48 = .ok (.iconst 4, 1) := by decide +kernel
theorem dX9_told_49 : decode cX9_told 49 = .ok (.iload_n 1, 1) := by decide +kernel
theorem dX9_told_50 : decode cX9_told 50 = .ok (.imul, 1) := by decide +kernel
theorem dX9_told_51 : decode cX9_told 51 = .ok (.iload_n 2, 1) := by decide +kernel
theorem dX9_told_52 : decode cX9_told 52 = .ok (.iadd, 1) := by decide +kernel
theorem dX9_told_53 : decode cX9_told 53 = .ok (.baload, 1) := by decide +kernel
theorem dX9_told_54 : decode cX9_told 54 = .ok (.ifCond .eq 8, 3) := by decide +kernel
theorem dX9_told_57 : decode cX9_told 57 = .ok (.bipush (-2), 2) := by decide +kernel
theorem dX9_told_59 : decode cX9_told 59 = .ok (.goto 13, 3) := by decide +kernel
theorem dX9_told_62 : decode cX9_told 62 = .ok (.aload_n 0, 1) := by decide +kernel
theorem dX9_told_63 : decode cX9_told 63 = .ok (.getfield 115, 3) := by decide +kernel
theorem dX9_told_66 : decode cX9_told 66 = .ok (.iconst 4, 1) := by decide +kernel
theorem dX9_told_67 : decode cX9_told 67 = .ok (.iload_n 1, 1) := by decide +kernel
theorem dX9_told_68 : decode cX9_told 68 = .ok (.imul, 1) := by decide +kernel
theorem dX9_told_69 : decode cX9_told 69 = .ok (.iload_n 2, 1) := by decide +kernel
theorem dX9_told_70 : decode cX9_told 70 = .ok (.iadd, 1) := by decide +kernel
theorem dX9_told_71 : decode cX9_told 71 = .ok (.iaload, 1) := by decide +kernel
theorem dX9_told_72 : decode cX9_told 72 = .ok (.ireturn, 1) := by decide +kernel
theorem dX9_told_73 : decode cX9_told 73 = .ok (.iconst 0, 1) := by decide +kernel
theorem dX9_told_74 : decode cX9_told 74 = .ok (.istore_n 3, 1) := by decide +kernel
theorem dX9_told_75 : decode cX9_told 75 = .ok (.iconst 0, 1) := by decide +kernel
theorem dX9_told_76 : decode cX9_told 76 = .ok (.istore 4, 2) := by decide +kernel
theorem dX9_told_78 : decode cX9_told 78 = .ok (.iload 4, 2) := by decide +kernel
theorem dX9_told_80 : decode cX9_told 80 = .ok (.bipush 24, 2) := by decide +kernel
theorem dX9_told_82 : decode cX9_told 82 = .ok (.if_icmp .ge 50, 3) := by decide +kernel
theorem dX9_told_85 : decode cX9_told 85 = .ok (.iload_n 3, 1) := by decide +kernel
theorem dX9_told_86 : decode cX9_told 86 = .ok (.iload_n 1, 1) := by decide +kernel
theorem dX9_told_87 : decode cX9_told 87 = .ok (.bipush 6, 2) := by decide +kernel
theorem dX9_told_89 : decode cX9_told 89 = .ok (.if_icmp .eq 11, 3) := by decide +kernel
theorem dX9_told_92 : decode cX9_told 92 = .ok (.iload 4, 2) := by decide +kernel
theorem dX9_told_94 : decode cX9_told 94 = .ok (.iconst 4, 1) := by decide +kernel
theorem dX9_told_95 : decode cX9_told 95 = .ok (.idiv, 1) := by decide +kernel
theorem dX9_told_96 : decode cX9_told 96 = .ok (.iload_n 1, 1) := by decide +kernel
theorem dX9_told_97 : decode cX9_told 97 = .ok (.if_icmp .ne 26, 3) := by decide +kernel
theorem dX9_told_100 : decode cX9_told 100 = .ok (.iload_n 2, 1) := by decide +kernel
theorem dX9_told_101 : decode cX9_told 101 = .ok (.iconst 4, 1) := by decide +kernel
theorem dX9_told_102 : decode cX9_told 102 = .ok (.if_icmp .eq 11, 3) := by decide +kernel
theorem dX9_told_105 : decode cX9_told 105 = .ok (.iload 4, 2) := by decide +kernel
theorem dX9_told_107 : decode cX9_told 107 = .ok (.iconst 4, 1) := by decide +kernel
theorem dX9_told_108 : decode cX9_told 108 = .ok (.irem, 1) := by decide +kernel
theorem dX9_told_109 : decode cX9_told 109 = .ok (.iload_n 2, 1) := by decide +kernel
theorem dX9_told_110 : decode cX9_told 110 = .ok (.if_icmp .ne 13, 3) := by decide +kernel
theorem dX9_told_113 : decode cX9_told 113 = .ok (.aload_n 0, 1) := by decide +kernel
theorem dX9_told_114 : decode cX9_told 114 = .ok (.getfield 115, 3) := by decide +kernel
theorem dX9_told_117 : decode cX9_told 117 = .ok (.iload 4, 2) := by decide +kernel
theorem dX9_told_119 : decode cX9_told 119 = .ok (.iaload, 1) := by decide +kernel
theorem dX9_told_120 : decode cX9_told 120 = .ok (.goto 4, 3) := by decide +kernel
theorem dX9_told_123 : decode cX9_told 123 = .ok (.iconst 0, 1) := by decide +kernel
theorem dX9_told_124 : decode cX9_told 124 = .ok (.iadd, 1) := by decide +kernel
theorem dX9_told_125 : decode cX9_told 125 = .ok (.istore_n 3, 1) := by decide +kernel
theorem dX9_told_126 : decode cX9_told 126 = .ok (.iinc 4 1, 3) := by decide +kernel
theorem dX9_told_129 : decode cX9_told 129 = .ok (.goto (-51), 3) := by decide +kernel
theorem dX9_told_132 : decode cX9_told 132 = .ok (.iload_n 3, 1) := by decide +kernel
theorem dX9_told_133 : decode cX9_told 133 = .ok (.ireturn, 1) := by decide +kernel
theorem dX9_moves_0 : decode cX9_moves 0 = .ok (.iload_n 2, 1) := by decide +kernel
theorem dX9_moves_1 : decode cX9_moves 1 = .ok (.ifCond .eq 9, 3) := by decide +kernel
theorem dX9_moves_4 : decode cX9_moves 4 = .ok (.iload_n 1, 1) := by decide +kernel
theorem dX9_moves_5 : decode cX9_moves 5 = .ok (.iconst 4, 1) := by decide +kernel
theorem dX9_moves_6 : decode cX9_moves 6 = .ok (.idiv, 1) := by decide +kernel
theorem dX9_moves_7 : decode cX9_moves 7 = .ok (.goto 9, 3) := by decide +kernel
theorem dX9_moves_10 : decode cX9_moves 10 = .ok (.bipush 6, 2) := by decide +kernel
theorem dX9_moves_12 : decode cX9_moves 12 = .ok (.iload_n 1, 1) := by decide +kernel
theorem dX9_moves_13 : decode cX9_moves 13 = .ok (.iconst 4, 1) := by decide +kernel
theorem dX9_moves_14 : decode cX9_moves 14 = .ok (.irem, 1) := by decide +kernel
theorem dX9_moves_15 : decode cX9_moves 15 = .ok (.iadd, 1) := by decide +kernel
theorem dX9_moves_16 : decode cX9_moves 16 = .ok (.istore_n 3, 1) := by decide +kernel
theorem dX9_moves_17 : decode cX9_moves 17 = .ok (.iload_n 2, 1) := by decide +kernel
theorem dX9_moves_18 : decode cX9_moves 18 = .ok (.ifCond .eq 12, 3) := by decide +kernel
theorem dX9_moves_21 : decode cX9_moves 21 = .ok (.bipush 6, 2) := by decide +kernel
theorem dX9_moves_23 : decode cX9_moves 23 = .ok (.iload_n 1, 1) := by decide +kernel
theorem dX9_moves_24 : decode cX9_moves 24 = .ok (.iconst 4, 1) := by decide +kernel
theorem dX9_moves_25 : decode cX9_moves 25 = .ok (.irem, 1) := by decide +kernel
theorem dX9_moves_26 : decode cX9_moves 26 = .ok (.iadd, 1) := by decide +kernel
theorem dX9_moves_27 : decode cX9_moves 27 = .ok (.goto 6, 3) := by decide +kernel
theorem dX9_moves_30 : decode cX9_moves 30 = .ok (.iload_n 1, 1) := by decide +kernel
theorem dX9_moves_31 : decode cX9_moves 31 = .ok (.iconst 4, 1) := by decide +kernel
theorem dX9_moves_32 : decode cX9_moves 32 = .ok (.idiv, 1) := by decide +kernel
theorem dX9_moves_33 : decode cX9_moves 33 = .ok (.istore 4, 2) := by decide +kernel
theorem dX9_moves_35 : decode cX9_moves 35 = .ok (.aload_n 0, 1) := by decide +kernel
theorem dX9_moves_36 : decode cX9_moves 36 = .ok (.getfield 121, 3) := by decide +kernel
theorem dX9_moves_39 : decode cX9_moves 39 = .ok (.iload_n 1, 1) := by decide +kernel
theorem dX9_moves_40 : decode cX9_moves 40 = .ok (.dup2, 1) := by decide +kernel
theorem dX9_moves_41 : decode cX9_moves 41 = .ok (.iaload, 1) := by decide +kernel
theorem dX9_moves_42 : decode cX9_moves 42 = .ok (.iload_n 2, 1) := by decide +kernel
theorem dX9_moves_43 : decode cX9_moves 43 = .ok (.ifCond .eq 7, 3) := by decide +kernel
theorem dX9_moves_46 : decode cX9_moves 46 = .ok (.iconst 1, 1) := by decide +kernel
theorem dX9_moves_47 : decode cX9_moves 47 = .ok (.goto 4, 3) := by decide +kernel
theorem dX9_moves_50 : decode cX9_moves 50 = .ok (.iconst (-1), 1) := by decide +kernel
theorem dX9_moves_51 : decode cX9_moves 51 = .ok (.iadd, 1) := by decide +kernel
theorem dX9_moves_52 : decode cX9_moves 52 = .ok (.iastore, 1) := by decide +kernel
theorem dX9_moves_53 : decode cX9_moves 53 = .ok (.iload_n 3, 1) := by decide +kernel
theorem dX9_moves_54 : decode cX9_moves 54 = .ok (.istore 5, 2) := by decide +kernel
theorem dX9_moves_56 : decode cX9_moves 56 = .ok (.iload 5, 2) := by decide +kernel
theorem dX9_moves_58 : decode cX9_moves 58 = .ok (.iload 4, 2) := by decide +kernel
theorem dX9_moves_60 : decode cX9_moves 60 = .ok (.if_icmp .eq 72, 3) := by decide +kernel
theorem dX9_moves_63 : decode cX9_moves 63 = .ok (.aload_n 0, 1) := by decide +kernel
theorem dX9_moves_64 : decode cX9_moves 64 = .ok (.getfield 130, 3) := by decide +kernel
theorem dX9_moves_67 : decode cX9_moves 67 = .ok (.iload 5, 2) := by decide +kernel
theorem dX9_moves_69 : decode cX9_moves 69 = .ok (.iaload, 1) := by decide +kernel
theorem dX9_moves_70 : decode cX9_moves 70 = .ok (.istore 6, 2) := by decide +kernel
theorem dX9_moves_72 : decode cX9_moves 72 = .ok (.iload 6, 2) := by decide +kernel
theorem dX9_moves_74 : decode cX9_moves 74 = .ok (.bipush 6, 2) := by decide +kernel
theorem dX9_moves_76 : decode cX9_moves 76 = .ok (.if_icmp .ge 25, 3) := by decide +kernel
theorem dX9_moves_79 : decode cX9_moves 79 = .ok (.aload_n 0, 1) := by decide +kernel
theorem dX9_moves_80 : decode cX9_moves 80 = .ok (.getfield 121, 3) := by decide +kernel
theorem dX9_moves_83 : decode cX9_moves 83 = .ok (.iconst 4, 1) := by decide +kernel
theorem dX9_moves_84 : decode cX9_moves 84 = .ok (.iload 6, 2) := by decide +kernel
theorem dX9_moves_86 : decode cX9_moves 86 = .ok (.imul, 1) := by decide +kernel
theorem dX9_moves_87 : decode cX9_moves 87 = .ok (.iload 5, 2) := by decide +kernel
theorem dX9_moves_89 : decode cX9_moves 89 = .ok (.iadd, 1) := by decide +kernel
theorem dX9_moves_90 : decode cX9_moves 90 = .ok (.bipush 6, 2) := by decide +kernel
theorem dX9_moves_92 : decode cX9_moves 92 = .ok (.isub, 1) := by decide +kernel
theorem dX9_moves_93 : decode cX9_moves 93 = .ok (.dup2, 1) := by decide +kernel
theorem dX9_moves_94 : decode cX9_moves 94 = .ok (.iaload, 1) := by decide +kernel
theorem dX9_moves_95 : decode cX9_moves 95 = .ok (.iconst 1, 1) := by decide +kernel
theorem dX9_moves_96 : decode cX9_moves 96 = .ok (.iadd, 1) := by decide +kernel
theorem dX9_moves_97 : decode cX9_moves 97 = .ok (.iastore, 1) := by decide +kernel
theorem dX9_moves_98 : decode cX9_moves 98 = .ok (.goto 22, 3) := by decide +kernel
theorem dX9_moves_101 : decode cX9_moves 101 = .ok (.aload_n 0, 1) := by decide +kernel
theorem dX9_moves_102 : decode cX9_moves 102 = .ok (.getfield 121, 3) := by decide +kernel
theorem dX9_moves_105 : decode cX9_moves 105 = .ok (.iconst 4, 1) := by decide +kernel
theorem dX9_moves_106 : decode cX9_moves 106 = .ok (.iload 5, 2) := by decide +kernel
theorem dX9_moves_108 : decode cX9_moves 108 = .ok (.imul, 1) := by decide +kernel
theorem dX9_moves_109 : decode cX9_moves 109 = .ok (.iload 6, 2) := by decide +kernel
theorem dX9_moves_111 : decode cX9_moves 111 = .ok (.iadd, 1) := by decide +kernel
theorem dX9_moves_112 : decode cX9_moves 112 = .ok (.bipush 6, 2) := by decide +kernel
theorem dX9_moves_114 : decode cX9_moves 114 = .ok (.isub, 1) := by decide +kernel
theorem dX9_moves_115 : decode cX9_moves 115 = .ok (.dup2, 1) := by decide +kernel
theorem dX9_moves_116 : decode cX9_moves 116 = .ok (.iaload, 1) := by decide +kernel
theorem dX9_moves_117 : decode cX9_moves 117 = .ok (.iconst 1, 1) := by decide +kernel
theorem dX9_moves_118 : decode cX9_moves 118 = .ok (.isub, 1) := by decide +kernel
theorem dX9_moves_119 : decode cX9_moves 119 = .ok (.iastore, 1) := by decide +kernel
theorem dX9_moves_120 : decode cX9_moves 120 = .ok (.aload_n 0, 1) := by decide +kernel
theorem dX9_moves_121 : decode cX9_moves 121 = .ok (.getfield 130, 3) := by decide +kernel
theorem dX9_moves_124 : decode cX9_moves 124 = .ok (.iload 5, 2) := by decide +kernel
theorem dX9_moves_126 : decode cX9_moves 126 = .ok (.iaload, 1) := by decide +kernel
theorem dX9_moves_127 : decode cX9_moves 127 = .ok (.istore 5, 2) := by decide +kernel
theorem dX9_moves_129 : decode cX9_moves 129 = .ok (.goto (-73), 3) := by decide +kernel
theorem dX9_moves_132 : decode cX9_moves 132 = .ok (.return_, 1) := by decide +kernel
theorem dX9_could_0 : decode cX9_could 0 = .ok (.aload_n 0, 1) := by decide +kernel
theorem dX9_could_1 : decode cX9_could 1 = .ok (.getfield 289, 3) := by decide +kernel
theorem dX9_could_4 : decode cX9_could 4 = .ok (.ifCond .eq 27, 3) := by decide +kernel
theorem dX9_could_7 : decode cX9_could 7 = .ok (.iload_n 1, 1) := by decide +kernel
theorem dX9_could_8 : decode cX9_could 8 = .ok (.i2l, 1) := by decide +kernel
theorem dX9_could_9 : decode cX9_could 9 = .ok (.lconst 0, 1) := by decide +kernel
theorem dX9_could_10 : decode cX9_could 10 = .ok (.ldc2_w 296, 3) := by decide +kernel
theorem dX9_could_13 : decode cX9_could 13 = .ok (.invokestatic 152, 3) := by decide +kernel
theorem dX9_could_16 : decode cX9_could 16 = .ok (.ifCond .eq 15, 3) := by decide +kernel
theorem dX9_could_19 : decode cX9_could 19 = .ok (.iload_n 2, 1) := by decide +kernel
theorem dX9_could_20 : decode cX9_could 20 = .ok (.i2l, 1) := by decide +kernel
theorem dX9_could_21 : decode cX9_could 21 = .ok (.lconst 0, 1) := by decide +kernel
theorem dX9_could_22 : decode cX9_could 22 = .ok (.ldc2_w 150, 3) := by decide +kernel
theorem dX9_could_25 : decode cX9_could 25 = .ok (.invokestatic 152, 3) := by decide +kernel
theorem dX9_could_28 : decode cX9_could 28 = .ok (.ifCond .ne 5, 3) := by decide +kernel
theorem dX9_could_31 : decode cX9_could 31 = .ok (.iconst (-1), 1) := by decide +kernel
theorem dX9_could_32 : decode cX9_could 32 = .ok (.ireturn, 1) := by decide +kernel
theorem dX9_could_33 : decode cX9_could 33 = .ok (.iconst 4, 1) := by decide +kernel
theorem dX9_could_34 : decode cX9_could 34 = .ok (.iload_n 1, 1) := by decide +kernel
theorem dX9_could_35 : decode cX9_could 35 = .ok (.imul, 1) := by decide +kernel
theorem dX9_could_36 : decode cX9_could 36 = .ok (.iload_n 2, 1) := by decide +kernel
theorem dX9_could_37 : decode cX9_could 37 = .ok (.iadd, 1) := by decide +kernel
theorem dX9_could_38 : decode cX9_could 38 = .ok (.istore 4, 2) := by decide +kernel
theorem dX9_could_40 : decode cX9_could 40 = .ok (.iconst 0, 1) := by decide +kernel
theorem dX9_could_41 : decode cX9_could 41 = .ok (.istore 5, 2) := by decide +kernel
theorem dX9_could_43 : decode cX9_could 43 = .ok (.iload 5, 2) := by decide +kernel
theorem dX9_could_45 : decode cX9_could 45 = .ok (.bipush 24, 2) := by decide +kernel
theorem dX9_could_47 : decode cX9_could 47 = .ok (.if_icmp .ge 23, 3) := by decide +kernel
theorem dX9_could_50 : decode cX9_could 50 = .ok (.aload_n 0, 1) := by decide +kernel
theorem dX9_could_51 : decode cX9_could 51 = .ok (.getfield 121, 3) := by decide +kernel
theorem dX9_could_54 : decode cX9_could 54 = .ok (.iload 5, 2) := by decide +kernel
theorem dX9_could_56 : decode cX9_could 56 = .ok (.aload_n 0, 1) := by decide +kernel
theorem dX9_could_57 : decode cX9_could 57 = .ok (.getfield 115, 3) := by decide +kernel
theorem dX9_could_60 : decode cX9_could 60 = .ok (.iload 5, 2) := by decide +kernel
theorem dX9_could_62 : decode cX9_could 62 = .ok (.iaload, 1) := by decide +kernel
theorem dX9_could_63 : decode cX9_could 63 = .ok (.iastore, 1) := by decide +kernel
theorem dX9_could_64 : decode cX9_could 64 = .ok (.iinc 5 1, 3) := by decide +kernel
theorem dX9_could_67 : decode cX9_could 67 = .ok (.goto (-24), 3) := by decide +kernel
theorem dX9_could_70 : decode cX9_could 70 = .ok (.aload_n 0, 1) := by decide +kernel
theorem dX9_could_71 : decode cX9_could 71 = .ok (.getfield 124, 3) := by decide +kernel
theorem dX9_could_74 : decode cX9_could 74 = .ok (.iload 4, 2) := by decide +kernel
theorem dX9_could_76 : decode cX9_could 76 = .ok (.baload, 1) := by decide +kernel
theorem dX9_could_77 : decode cX9_could 77 = .ok (.ifCond .eq 54, 3) := by decide +kernel
theorem dX9_could_80 : decode cX9_could 80 = .ok (.iload_n 3, 1) := by decide +kernel
theorem dX9_could_81 : decode cX9_could 81 = .ok (.ifCond .eq 23, 3) := by decide +kernel
theorem dX9_could_84 : decode cX9_could 84 = .ok (.aload_n 0, 1) := by decide +kernel
theorem dX9_could_85 : decode cX9_could 85 = .ok (.iload 4, 2) := by decide +kernel
theorem dX9_could_87 : decode cX9_could 87 = .ok (.aload_n 0, 1) := by decide +kernel
theorem dX9_could_88 : decode cX9_could 88 = .ok (.getfield 124, 3) := by decide +kernel
theorem dX9_could_91 : decode cX9_could 91 = .ok (.aload_n 0, 1) := by decide +kernel
theorem dX9_could_92 : decode cX9_could 92 = .ok (.getfield 121, 3) := by decide +kernel
theorem dX9_could_95 : decode cX9_could 95 = .ok (.invokevirtual 266, 3) := by decide +kernel
theorem dX9_could_98 : decode cX9_could 98 = .ok (.ifCond .eq 33, 3) := by decide +kernel
theorem dX9_could_101 : decode cX9_could 101 = .ok (.goto 20, 3) := by decide +kernel
theorem dX9_could_104 : decode cX9_could 104 = .ok (.aload_n 0, 1) := by decide +kernel
theorem dX9_could_105 : decode cX9_could 105 = .ok (.iload 4, 2) := by decide +kernel
theorem dX9_could_107 : decode cX9_could 107 = .ok (.aload_n 0, 1) := by decide +kernel
theorem dX9_could_108 : decode cX9_could 108 = .ok (.getfield 124, 3) := by decide +kernel
theorem dX9_could_111 : decode cX9_could 111 = .ok (.aload_n 0, 1) := by decide +kernel
theorem dX9_could_112 : decode cX9_could 112 = .ok (.getfield 121, 3) := by decide +kernel
theorem dX9_could_115 : decode cX9_could 115 = .ok (.invokevirtual 270, 3) := by decide +kernel
theorem dX9_could_118 : decode cX9_could 118 = .ok (.ifCond .eq 13, 3) := by decide +kernel
theorem dX9_could_121 : decode cX9_could 121 = .ok (.aload_n 0, 1) := by decide +kernel
theorem dX9_could_122 : decode cX9_could 122 = .ok (.iload 4, 2) := by decide +kernel
theorem dX9_could_124 : decode cX9_could 124 = .ok (.iload_n 3, 1) := by decide +kernel
theorem dX9_could_125 : decode cX9_could 125 = .ok (.invokevirtual 298, 3) := by decide +kernel
theorem dX9_could_128 : decode cX9_could 128 = .ok (.goto (-58), 3) := by decide +kernel
theorem dX9_could_131 : decode cX9_could 131 = .ok (.aload_n 0, 1) := by decide +kernel
theorem dX9_could_132 : decode cX9_could 132 = .ok (.getfield 121, 3) := by decide +kernel
theorem dX9_could_135 : decode cX9_could 135 = .ok (.iload 4, 2) := by decide +kernel
theorem dX9_could_137 : decode cX9_could 137 = .ok (.iaload, 1) := by decide +kernel
theorem dX9_could_138 : decode cX9_could 138 = .ok (.ireturn, 1) := by decide +kernel
theorem dX9_status_0 : decode cX9_status 0 = .ok (.iload_n 1, 1) := by decide +kernel
theorem dX9_status_1 : decode cX9_status 1 = .ok (.i2l, 1) := by decide +kernel
theorem dX9_status_2 : decode cX9_status 2 = .ok (.ldc2_w 302, 3) := by decide +kernel
theorem dX9_status_5 : decode cX9_status 5 = .ok (.ldc2_w 304, 3) := by decide +kernel
theorem dX9_status_8 : decode cX9_status 8 = .ok (.invokestatic 152, 3) := by decide +kernel
theorem dX9_status_11 : decode cX9_status 11 = .ok (.ifCond .eq 13, 3) := by decide +kernel
theorem dX9_status_14 : decode cX9_status 14 = .ok (.aload_n 0, 1) := by decide +kernel
theorem dX9_status_15 : decode cX9_status 15 = .ok (.getfield 81, 3) := by decide +kernel
theorem dX9_status_18 : decode cX9_status 18 = .ok (.iload_n 1, 1) := by decide +kernel
theorem dX9_status_19 : decode cX9_status 19 = .ok (.bipush 10, 2) := by decide +kernel
theorem dX9_status_21 : decode cX9_status 21 = .ok (.isub, 1) := by decide +kernel
theorem dX9_status_22 : decode cX9_status 22 = .ok (.iaload, 1) := by decide +kernel
theorem dX9_status_23 : decode cX9_status 23 = .ok (.ireturn, 1) := by decide +kernel
theorem dX9_status_24 : decode cX9_status 24 = .ok (.iconst 0, 1) := by decide +kernel
theorem dX9_status_25 : decode cX9_status 25 = .ok (.istore_n 2, 1) := by decide +kernel
theorem dX9_status_26 : decode cX9_status 26 = .ok (.iload_n 1, 1) := by decide +kernel
theorem dX9_status_27 : decode cX9_status 27 = .ok (.tableswitch 349 0 20 #[97, 102, 137, 173, 178, 204, 229, 254, 267, 301, 349, 349, 349, 349, 349, 349, 349, 349, 334, 339, 344], 97) := by decide +kernel
theorem dX9_status_124 : decode cX9_status 124 = .ok (.aload_n 0, 1) := by decide +kernel
theorem dX9_status_125 : decode cX9_status 125 = .ok (.getfield 139, 3) := by decide +kernel
theorem dX9_status_128 : decode cX9_status 128 = .ok (.ireturn, 1) := by decide +kernel
theorem dX9_status_129 : decode cX9_status 129 = .ok (.iconst 0, 1) := by decide +kernel
theorem dX9_status_130 : decode cX9_status 130 = .ok (.istore_n 3, 1) := by decide +kernel
theorem dX9_status_131 : decode cX9_status 131 = .ok (.iload_n 3, 1) := by decide +kernel
theorem dX9_status_132 : decode cX9_status 132 = .ok (.aload_n 0, 1) := by decide +kernel
theorem dX9_status_133 : decode cX9_status 133 = .ok (.getfield 139, 3) := by decide +kernel
theorem dX9_status_136 : decode cX9_status 136 = .ok (.if_icmp .ge 26, 3) := by decide +kernel
theorem dX9_status_139 : decode cX9_status 139 = .ok (.iload_n 2, 1) := by decide +kernel
theorem dX9_status_140 : decode cX9_status 140 = .ok (.aload_n 0, 1) := by decide +kernel
theorem dX9_status_141 : decode cX9_status 141 = .ok (.getfield 25, 3) := by decide +kernel
theorem dX9_status_144 : decode cX9_status 144 = .ok (.iload_n 3, 1) := by decide +kernel
theorem dX9_status_145 : decode cX9_status 145 = .ok (.iaload, 1) := by decide +kernel
theorem dX9_status_146 : decode cX9_status 146 = .ok (.ifCond .eq 7, 3) := by decide +kernel
theorem dX9_status_149 : decode cX9_status 149 = .ok (.iconst 1, 1) := by decide +kernel
theorem dX9_status_150 : decode cX9_status 150 = .ok (.goto 4, 3) := by decide +kernel
theorem dX9_status_153 : decode cX9_status 153 = .ok (.iconst 0, 1) := by decide +kernel
theorem dX9_status_154 : decode cX9_status 154 = .ok (.iadd, 1) := by decide +kernel
theorem dX9_status_155 : decode cX9_status 155 = .ok (.istore_n 2, 1) := by decide +kernel
theorem dX9_status_156 : decode cX9_status 156 = .ok (.iinc 3 1, 3) := by decide +kernel
theorem dX9_status_159 : decode cX9_status 159 = .ok (.goto (-28), 3) := by decide +kernel
theorem dX9_status_162 : decode cX9_status 162 = .ok (.iload_n 2, 1) := by decide +kernel
theorem dX9_status_163 : decode cX9_status 163 = .ok (.ireturn, 1) := by decide +kernel
theorem dX9_status_164 : decode cX9_status 164 = .ok (.iconst 0, 1) := by decide +kernel
theorem dX9_status_165 : decode cX9_status 165 = .ok (.istore_n 3, 1) := by decide +kernel
theorem dX9_status_166 : decode cX9_status 166 = .ok (.iload_n 3, 1) := by decide +kernel
theorem dX9_status_167 : decode cX9_status 167 = .ok (.aload_n 0, 1) := by decide +kernel
theorem dX9_status_168 : decode cX9_status 168 = .ok (.getfield 139, 3) := by decide +kernel
theorem dX9_status_171 : decode cX9_status 171 = .ok (.if_icmp .ge 27, 3) := by decide +kernel
theorem dX9_status_174 : decode cX9_status 174 = .ok (.iload_n 2, 1) := by decide +kernel
theorem dX9_status_175 : decode cX9_status 175 = .ok (.aload_n 0, 1) := by decide +kernel
theorem dX9_status_176 : decode cX9_status 176 = .ok (.getfield 25, 3) := by decide +kernel
theorem dX9_status_179 : decode cX9_status 179 = .ok (.iload_n 3, 1) := by decide +kernel
theorem dX9_status_180 : decode cX9_status 180 = .ok (.iaload, 1) := by decide +kernel
theorem dX9_status_181 : decode cX9_status 181 = .ok (.iconst 4, 1) := by decide +kernel
theorem dX9_status_182 : decode cX9_status 182 = .ok (.if_icmp .ne 7, 3) := by decide +kernel
theorem dX9_status_185 : decode cX9_status 185 = .ok (.iconst 1, 1) := by decide +kernel
theorem dX9_status_186 : decode cX9_status 186 = .ok (.goto 4, 3) := by decide +kernel
theorem dX9_status_189 : decode cX9_status 189 = .ok (.iconst 0, 1) := by decide +kernel
theorem dX9_status_190 : decode cX9_status 190 = .ok (.iadd, 1) := by decide +kernel
theorem dX9_status_191 : decode cX9_status 191 = .ok (.istore_n 2, 1) := by decide +kernel
theorem dX9_status_192 : decode cX9_status 192 = .ok (.iinc 3 1, 3) := by decide +kernel
theorem dX9_status_195 : decode cX9_status 195 = .ok (.goto (-29), 3) := by decide +kernel
theorem dX9_status_198 : decode cX9_status 198 = .ok (.iload_n 2, 1) := by decide +kernel
theorem dX9_status_199 : decode cX9_status 199 = .ok (.ireturn, 1) := by decide +kernel
theorem dX9_status_200 : decode cX9_status 200 = .ok (.aload_n 0, 1) := by decide +kernel
theorem dX9_status_201 : decode cX9_status 201 = .ok (.invokevirtual 247, 3) := by decide +kernel
theorem dX9_status_204 : decode cX9_status 204 = .ok (.ireturn, 1) := by decide +kernel
theorem dX9_status_205 : decode cX9_status 205 = .ok (.iconst 0, 1) := by decide +kernel
theorem dX9_status_206 : decode cX9_status 206 = .ok (.istore_n 3, 1) := by decide +kernel
theorem dX9_status_207 : decode cX9_status 207 = .ok (.iload_n 3, 1) := by decide +kernel
theorem dX9_status_208 : decode cX9_status 208 = .ok (.aload_n 0, 1) := by decide +kernel
theorem dX9_status_209 : decode cX9_status 209 = .ok (.getfield 139, 3) := by decide +kernel
theorem dX9_status_212 : decode cX9_status 212 = .ok (.if_icmp .ge 17, 3) := by decide +kernel
theorem dX9_status_215 : decode cX9_status 215 = .ok (.iload_n 2, 1) := by decide +kernel
theorem dX9_status_216 : decode cX9_status 216 = .ok (.aload_n 0, 1) := by decide +kernel
theorem dX9_status_217 : decode cX9_status 217 = .ok (.iload_n 3, 1) := by decide +kernel
theorem dX9_status_218 : decode cX9_status 218 = .ok (.invokevirtual 214, 3) := by decide +kernel
theorem dX9_status_221 : decode cX9_status 221 = .ok (.iadd, 1) := by decide +kernel
theorem dX9_status_222 : decode cX9_status 222 = .ok (.istore_n 2, 1) := by decide +kernel
theorem dX9_status_223 : decode cX9_status 223 = .ok (.iinc 3 1, 3) := by decide +kernel
theorem dX9_status_226 : decode cX9_status 226 = .ok (.goto (-19), 3) := by decide +kernel
theorem dX9_status_229 : decode cX9_status 229 = .ok (.iload_n 2, 1) := by decide +kernel
theorem dX9_status_230 : decode cX9_status 230 = .ok (.ireturn, 1) := by decide +kernel
theorem dX9_status_231 : decode cX9_status 231 = .ok (.iconst 0, 1) := by decide +kernel
theorem dX9_status_232 : decode cX9_status 232 = .ok (.istore_n 3, 1) := by decide +kernel
theorem dX9_status_233 : decode cX9_status 233 = .ok (.iload_n 3, 1) := by decide +kernel
theorem dX9_status_234 : decode cX9_status 234 = .ok (.bipush 40, 2) := by decide +kernel
theorem dX9_status_236 : decode cX9_status 236 = .ok (.if_icmp .ge 18, 3) := by decide +kernel
theorem dX9_status_239 : decode cX9_status 239 = .ok (.iload_n 2, 1) := by decide +kernel
theorem dX9_status_240 : decode cX9_status 240 = .ok (.aload_n 0, 1) := by decide +kernel
theorem dX9_status_241 : decode cX9_status 241 = .ok (.getfield 75, 3) := by decide +kernel
theorem dX9_status_244 : decode cX9_status 244 = .ok (.iload_n 3, 1) := by decide +kernel
theorem dX9_status_245 : decode cX9_status 245 = .ok (.iaload, 1) := by decide +kernel
theorem dX9_status_246 : decode cX9_status 246 = .ok (.iadd, 1) := by decide +kernel
theorem dX9_status_247 : decode cX9_status 247 = .ok (.istore_n 2, 1) := by decide +kernel
theorem dX9_status_248 : decode cX9_status 248 = .ok (.iinc 3 1, 3) := by decide +kernel
theorem dX9_status_251 : decode cX9_status 251 = .ok (.goto (-18), 3) := by decide +kernel
theorem dX9_status_254 : decode cX9_status 254 = .ok (.iload_n 2, 1) := by decide +kernel
theorem dX9_status_255 : decode cX9_status 255 = .ok (.ireturn, 1) := by decide +kernel
theorem dX9_status_256 : decode cX9_status 256 = .ok (.iconst 0, 1) := by decide +kernel
theorem dX9_status_257 : decode cX9_status 257 = .ok (.istore_n 3, 1) := by decide +kernel
theorem dX9_status_258 : decode cX9_status 258 = .ok (.iload_n 3, 1) := by decide +kernel
theorem dX9_status_259 : decode cX9_status 259 = .ok (.bipush 40, 2) := by decide +kernel
theorem dX9_status_261 : decode cX9_status 261 = .ok (.if_icmp .ge 18, 3) := by decide +kernel
theorem dX9_status_264 : decode cX9_status 264 = .ok (.iload_n 2, 1) := by decide +kernel
theorem dX9_status_265 : decode cX9_status 265 = .ok (.aload_n 0, 1) := by decide +kernel
theorem dX9_status_266 : decode cX9_status 266 = .ok (.getfield 78, 3) := by decide +kernel
theorem dX9_status_269 : decode cX9_status 269 = .ok (.iload_n 3, 1) := by decide +kernel
theorem dX9_status_270 : decode cX9_status 270 = .ok (.iaload, 1) := by decide +kernel
theorem dX9_status_271 : decode cX9_status 271 = .ok (.iadd, 1) := by decide +kernel
theorem dX9_status_272 : decode cX9_status 272 = .ok (.istore_n 2, 1) := by decide +kernel
theorem dX9_status_273 : decode cX9_status 273 = .ok (.iinc 3 1, 3) := by decide +kernel
theorem dX9_status_276 : decode cX9_status 276 = .ok (.goto (-18), 3) := by decide +kernel
theorem dX9_status_279 : decode cX9_status 279 = .ok (.iload_n 2, 1) := by decide +kernel
theorem dX9_status_280 : decode cX9_status 280 = .ok (.ireturn, 1) := by decide +kernel
theorem dX9_status_281 : decode cX9_status 281 = .ok (.aload_n 0, 1) := by decide +kernel
theorem dX9_status_282 : decode cX9_status 282 = .ok (.getfield 158, 3) := by decide +kernel
theorem dX9_status_285 : decode cX9_status 285 = .ok (.ifCond .eq 7, 3) := by decide +kernel
theorem dX9_status_288 : decode cX9_status 288 = .ok (.iconst 1, 1) := by decide +kernel
theorem dX9_status_289 : decode cX9_status 289 = .ok (.goto 4, 3) := by decide +kernel
theorem dX9_status_292 : decode cX9_status 292 = .ok (.iconst 0, 1) := by decide +kernel
theorem dX9_status_293 : decode cX9_status 293 = .ok (.ireturn, 1) := by decide +kernel
theorem dX9_status_294 : decode cX9_status 294 = .ok (.iconst 0, 1) := by decide +kernel
theorem dX9_status_295 : decode cX9_status 295 = .ok (.istore_n 3, 1) := by decide +kernel
theorem dX9_status_296 : decode cX9_status 296 = .ok (.iload_n 3, 1) := by decide +kernel
theorem dX9_status_297 : decode cX9_status 297 = .ok (.aload_n 0, 1) := by decide +kernel
theorem dX9_status_298 : decode cX9_status 298 = .ok (.getfield 139, 3) := by decide +kernel
theorem dX9_status_301 : decode cX9_status 301 = .ok (.if_icmp .ge 25, 3) := by decide +kernel
theorem dX9_status_304 : decode cX9_status 304 = .ok (.iload_n 2, 1) := by decide +kernel
theorem dX9_status_305 : decode cX9_status 305 = .ok (.aload_n 0, 1) := by decide +kernel
theorem dX9_status_306 : decode cX9_status 306 = .ok (.iload_n 3, 1) := by decide +kernel
theorem dX9_status_307 : decode cX9_status 307 = .ok (.invokevirtual 196, 3) := by decide +kernel
theorem dX9_status_310 : decode cX9_status 310 = .ok (.ifCond .eq 7, 3) := by decide +kernel
theorem dX9_status_313 : decode cX9_status 313 = .ok (.iconst 1, 1) := by decide +kernel
theorem dX9_status_314 : decode cX9_status 314 = .ok (.goto 4, 3) := by decide +kernel
theorem dX9_status_317 : decode cX9_status 317 = .ok (.iconst 0, 1) := by decide +kernel
theorem dX9_status_318 : decode cX9_status 318 = .ok (.iadd, 1) := by decide +kernel
theorem dX9_status_319 : decode cX9_status 319 = .ok (.istore_n 2, 1) := by decide +kernel
theorem dX9_status_320 : decode cX9_status 320 = .ok (.iinc 3 1, 3) := by decide +kernel
theorem dX9_status_323 : decode cX9_status 323 = .ok (.goto (-27), 3) := by decide +kernel
theorem dX9_status_326 : decode cX9_status 326 = .ok (.iload_n 2, 1) := by decide +kernel
theorem dX9_status_327 : decode cX9_status 327 = .ok (.ireturn, 1) := by decide +kernel
theorem dX9_status_328 : decode cX9_status 328 = .ok (.iconst 0, 1) := by decide +kernel
theorem dX9_status_329 : decode cX9_status 329 = .ok (.istore_n 3, 1) := by decide +kernel
theorem dX9_status_330 : decode cX9_status 330 = .ok (.iload_n 3, 1) := by decide +kernel
theorem dX9_status_331 : decode cX9_status 331 = .ok (.bipush 6, 2) := by decide +kernel
theorem dX9_status_333 : decode cX9_status 333 = .ok (.if_icmp .ge 26, 3) := by decide +kernel
theorem dX9_status_336 : decode cX9_status 336 = .ok (.iload_n 2, 1) := by decide +kernel
theorem dX9_status_337 : decode cX9_status 337 = .ok (.aload_n 0, 1) := by decide +kernel
theorem dX9_status_338 : decode cX9_status 338 = .ok (.getfield 56, 3) := by decide +kernel
theorem dX9_status_341 : decode cX9_status 341 = .ok (.iload_n 3, 1) := by decide +kernel
theorem dX9_status_342 : decode cX9_status 342 = .ok (.baload, 1) := by decide +kernel
theorem dX9_status_343 : decode cX9_status 343 = .ok (.ifCond .eq 7, 3) := by decide +kernel
theorem dX9_status_346 : decode cX9_status 346 = .ok (.iconst 1, 1) := by decide +kernel
theorem dX9_status_347 : decode cX9_status 347 = .ok (.goto 4, 3) := by decide +kernel
theorem dX9_status_350 : decode cX9_status 350 = .ok (.iconst 0, 1) := by decide +kernel
theorem dX9_status_351 : decode cX9_status 351 = .ok (.iadd, 1) := by decide +kernel
theorem dX9_status_352 : decode cX9_status 352 = .ok (.istore_n 2, 1) := by decide +kernel
theorem dX9_status_353 : decode cX9_status 353 = .ok (.iinc 3 1, 3) := by decide +kernel
theorem dX9_status_356 : decode cX9_status 356 = .ok (.goto (-26), 3) := by decide +kernel
theorem dX9_status_359 : decode cX9_status 359 = .ok (.iload_n 2, 1) := by decide +kernel
theorem dX9_status_360 : decode cX9_status 360 = .ok (.ireturn, 1) := by decide +kernel
theorem dX9_status_361 : decode cX9_status 361 = .ok (.aload_n 0, 1) := by decide +kernel
theorem dX9_status_362 : decode cX9_status 362 = .ok (.getfield 62, 3) := by decide +kernel
theorem dX9_status_365 : decode cX9_status 365 = .ok (.ireturn, 1) := by decide +kernel
theorem dX9_status_366 : decode cX9_status 366 = .ok (.aload_n 0, 1) := by decide +kernel
theorem dX9_status_367 : decode cX9_status 367 = .ok (.getfield 66, 3) := by decide +kernel
theorem dX9_status_370 : decode cX9_status 370 = .ok (.ireturn, 1) := by decide +kernel
theorem dX9_status_371 : decode cX9_status 371 = .ok (.aload_n 0, 1) := by decide +kernel
theorem dX9_status_372 : decode cX9_status 372 = .ok (.getfield 69, 3) := by decide +kernel
theorem dX9_status_375 : decode cX9_status 375 = .ok (.ireturn, 1) := by decide +kernel
theorem dX9_status_376 : decode cX9_status 376 = .ok (.iconst (-1), 1) := by decide +kernel
theorem dX9_status_377 : decode cX9_status 377 = .ok (.ireturn, 1) := by decide +kernel
