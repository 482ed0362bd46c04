theorem dX9_paper_104 : decode cX9_paper 104 = .ok (.iconst 0, 1) := by decide +kernel
theorem dX9_paper_105 : decode cX9_paper 105 = .ok (.bastore, 1) := by decide +kernel
theorem dX9_paper_106 : decode cX9_paper 106 = .ok (.iconst 0, 1) := by decide +kernel
theorem dX9_paper_107 : decode cX9_paper 107 = .ok (.istore_n 3, 1) := by decide +kernel
theorem dX9_paper_108 : decode cX9_paper 108 = .ok (.iload_n 3, 1) := by decide +kernel
theorem dX9_paper_109 : decode cX9_paper 109 = .ok (.iload_n 2, 1) := by decide +kernel
theorem dX9_paper_110 : decode cX9_paper 110 = .ok (.if_icmp .ge 31, 3) := by decide +kernel
theorem dX9_paper_113 : decode cX9_paper 113 = .ok (.aload_n 0, 1) := by decide +kernel
theorem dX9_paper_114 : decode cX9_paper 114 = .ok (.getfield 31, 3) := by decide +kernel
theorem dX9_paper_117 : decode cX9_paper 117 = .ok (.bipush 12, 2) := by decide +kernel
theorem dX9_paper_119 : decode cX9_paper 119 = .ok (.iload_n 1, 1) := by decide +kernel
theorem dX9_paper_120 : decode cX9_paper 120 = .ok (.imul, 1) := by decide +kernel
theorem dX9_paper_121 : decode cX9_paper 121 = .ok (.iload_n 3, 1) := by decide +kernel
theorem dX9_paper_122 : decode cX9_paper 122 = .ok (.iadd, 1) := by decide +kernel
theorem dX9_paper_123 : decode cX9_paper 123 = .ok (.aload_n 0, 1) := by decide +kernel
theorem dX9_paper_124 : decode cX9_paper 124 = .ok (.getfield 22, 3) := by decide +kernel
theorem dX9_paper_127 : decode cX9_paper 127 = .ok (.bipush 12, 2) := by decide +kernel
theorem dX9_paper_129 : decode cX9_paper 129 = .ok (.iload_n 1, 1) := by decide +kernel
theorem dX9_paper_130 : decode cX9_paper 130 = .ok (.imul, 1) := by decide +kernel
theorem dX9_paper_131 : decode cX9_paper 131 = .ok (.iload_n 3, 1) := by decide +kernel
theorem dX9_paper_132 : decode cX9_paper 132 = .ok (.iadd, 1) := by decide +kernel
theorem dX9_paper_133 : decode cX9_paper 133 = .ok (.iaload, 1) := by decide +kernel
theorem dX9_paper_134 : decode cX9_paper 134 = .ok (.iastore, 1) := by decide +kernel
theorem dX9_paper_135 : decode cX9_paper 135 = .ok (.iinc 3 1, 3) := by decide +kernel
theorem dX9_paper_138 : decode cX9_paper 138 = .ok (.goto (-30), 3) := by decide +kernel
theorem dX9_paper_141 : decode cX9_paper 141 = .ok (.iload_n 2, 1) := by decide +kernel
theorem dX9_paper_142 : decode cX9_paper 142 = .ok (.ireturn, 1) := by decide +kernel
theorem dX9_knock_0 : decode cX9_knock 0 = .ok (.aload_n 0, 1) := by decide +kernel
theorem dX9_knock_1 : decode cX9_knock 1 = .ok (.iload_n 1, 1) := by decide +kernel
theorem dX9_knock_2 : decode cX9_knock 2 = .ok (.invokevirtual 172, 3) := by decide +kernel
theorem dX9_knock_5 : decode cX9_knock 5 = .ok (.ifCond .ne 9, 3) := by decide +kernel
theorem dX9_knock_8 : decode cX9_knock 8 = .ok (.aload_n 0, 1) := by decide +kernel
theorem dX9_knock_9 : decode cX9_knock 9 = .ok (.iconst (-1), 1) := by decide +kernel
theorem dX9_knock_10 : decode cX9_knock 10 = .ok (.invokevirtual 146, 3) := by decide +kernel
theorem dX9_knock_13 : decode cX9_knock 13 = .ok (.ireturn, 1) := by decide +kernel
theorem dX9_knock_14 : decode cX9_knock 14 = .ok (.iload_n 2, 1) := by decide +kernel
theorem dX9_knock_15 : decode cX9_knock 15 = .ok (.i2l, 1) := by decide +kernel
theorem dX9_knock_16 : decode cX9_knock 16 = .ok (.lconst 0, 1) := by decide +kernel
theorem dX9_knock_17 : decode cX9_knock 17 = .ok (.ldc2_w 203, 3) := by decide +kernel
theorem dX9_knock_20 : decode cX9_knock 20 = .ok (.invokestatic 152, 3) := by decide +kernel
theorem dX9_knock_23 : decode cX9_knock 23 = .ok (.ifCond .eq 31, 3) := by decide +kernel
theorem dX9_knock_26 : decode cX9_knock 26 = .ok (.aload_n 0, 1) := by decide +kernel
theorem dX9_knock_27 : decode cX9_knock 27 = .ok (.getfield 158, 3) := by decide +kernel
theorem dX9_knock_30 : decode cX9_knock 30 = .ok (.ifCond .ne 24, 3) := by decide +kernel
theorem dX9_knock_33 : decode cX9_knock 33 = .ok (.aload_n 0, 1) := by decide +kernel
theorem dX9_knock_34 : decode cX9_knock 34 = .ok (.iload_n 1, 1) := by decide +kernel
theorem dX9_knock_35 : decode cX9_knock 35 = .ok (.invokevirtual 196, 3) := by decide +kernel
theorem dX9_knock_38 : decode cX9_knock 38 = .ok (.ifCond .eq 16, 3) := by decide +kernel
theorem dX9_knock_41 : decode cX9_knock 41 = .ok (.aload_n 0, 1) := by decide +kernel
theorem dX9_knock_42 : decode cX9_knock 42 = .ok (.getfield 34, 3) := by decide +kernel
theorem dX9_knock_45 : decode cX9_knock 45 = .ok (.iload_n 1, 1) := by decide +kernel
theorem dX9_knock_46 : decode cX9_knock 46 = .ok (.iaload, 1) := by decide +kernel
theorem dX9_knock_47 : decode cX9_knock 47 = .ok (.aload_n 0, 1) := by decide +kernel
theorem dX9_knock_48 : decode cX9_knock 48 = .ok (.getfield 62, 3) := by decide +kernel
theorem dX9_knock_51 : decode cX9_knock 51 = .ok (.if_icmp .lt 10, 3) := by decide +kernel
theorem dX9_knock_54 : decode cX9_knock 54 = .ok (.aload_n 0, 1) := by decide +kernel
theorem dX9_knock_55 : decode cX9_knock 55 = .ok (.bipush (-6), 2) := by decide +kernel
theorem dX9_knock_57 : decode cX9_knock 57 = .ok (.invokevirtual 146, 3) := by decide +kernel
theorem dX9_knock_60 : decode cX9_knock 60 = .ok (.ireturn, 1) := by decide +kernel
theorem dX9_knock_61 : decode cX9_knock 61 = .ok (.aload_n 0, 1) := by decide +kernel
theorem dX9_knock_62 : decode cX9_knock 62 = .ok (.getfield 34, 3) := by decide +kernel
theorem dX9_knock_65 : decode cX9_knock 65 = .ok (.iload_n 1, 1) := by decide +kernel
theorem dX9_knock_66 : decode cX9_knock 66 = .ok (.dup2, 1) := by decide +kernel
theorem dX9_knock_67 : decode cX9_knock 67 = .ok (.iaload, 1) := by decide +kernel
theorem dX9_knock_68 : decode cX9_knock 68 = .ok (.iconst 1, 1) := by decide +kernel
theorem dX9_knock_69 : decode cX9_knock 69 = .ok (.iadd, 1) := by decide +kernel
theorem dX9_knock_70 : decode cX9_knock 70 = .ok (.iastore, 1) := by decide +kernel
theorem dX9_knock_71 : decode cX9_knock 71 = .ok (.aload_n 0, 1) := by decide +kernel
theorem dX9_knock_72 : decode cX9_knock 72 = .ok (.getfield 75, 3) := by decide +kernel
theorem dX9_knock_75 : decode cX9_knock 75 = .ok (.bipush 10, 2) := by decide +kernel
theorem dX9_knock_77 : decode cX9_knock 77 = .ok (.aload_n 0, 1) := by decide +kernel
theorem dX9_knock_78 : decode cX9_knock 78 = .ok (.getfield 13, 3) := by decide +kernel
theorem dX9_knock_81 : decode cX9_knock 81 = .ok (.iload_n 1, 1) := by decide +kernel
theorem dX9_knock_82 : decode cX9_knock 82 = .ok (.iaload, 1) := by decide +kernel
theorem dX9_knock_83 : decode cX9_knock 83 = .ok (.imul, 1) := by decide +kernel
theorem dX9_knock_84 : decode cX9_knock 84 = .ok (.iload_n 2, 1) := by decide +kernel
theorem dX9_knock_85 : decode cX9_knock 85 = .ok (.iadd, 1) := by decide +kernel
theorem dX9_knock_86 : decode cX9_knock 86 = .ok (.dup2, 1) := by decide +kernel
theorem dX9_knock_87 : decode cX9_knock 87 = .ok (.iaload, 1) := by decide +kernel
theorem dX9_knock_88 : decode cX9_knock 88 = .ok (.iconst 1, 1) := by decide +kernel
theorem dX9_knock_89 : decode cX9_knock 89 = .ok (.iadd, 1) := by decide +kernel
theorem dX9_knock_90 : decode cX9_knock 90 = .ok (.iastore, 1) := by decide +kernel
theorem dX9_knock_91 : decode cX9_knock 91 = .ok (.aload_n 0, 1) := by decide +kernel
theorem dX9_knock_92 : decode cX9_knock 92 = .ok (.getfield 16, 3) := by decide +kernel
theorem dX9_knock_95 : decode cX9_knock 95 = .ok (.iload_n 1, 1) := by decide +kernel
theorem dX9_knock_96 : decode cX9_knock 96 = .ok (.iaload, 1) := by decide +kernel
theorem dX9_knock_97 : decode cX9_knock 97 = .ok (.iload_n 2, 1) := by decide +kernel
theorem dX9_knock_98 : decode cX9_knock 98 = .ok (.ishr, 1) := by decide +kernel
theorem dX9_knock_99 : decode cX9_knock 99 = .ok (.iconst 1, 1) := by decide +kernel
theorem dX9_knock_100 : decode cX9_knock 100 = .ok (.iand, 1) := by decide +kernel
theorem dX9_knock_101 : decode cX9_knock 101 = .ok (.ifCond .ne 5, 3) := by decide +kernel
theorem dX9_knock_104 : decode cX9_knock 104 = .ok (.iconst 0, 1) := by decide +kernel
theorem dX9_knock_105 : decode cX9_knock 105 = .ok (.ireturn, 1) := by decide +kernel
theorem dX9_knock_106 : decode cX9_knock 106 = .ok (.aload_n 0, 1) := by decide +kernel
theorem dX9_knock_107 : decode cX9_knock 107 = .ok (.getfield 78, 3) := by decide +kernel
theorem dX9_knock_110 : decode cX9_knock 110 = .ok (.bipush 10, 2) := by decide +kernel
theorem dX9_knock_112 : decode cX9_knock 112 = .ok (.aload_n 0, 1) := by decide +kernel
theorem dX9_knock_113 : decode cX9_knock 113 = .ok (.getfield 13, 3) := by decide +kernel
theorem dX9_knock_116 : decode cX9_knock 116 = .ok (.iload_n 1, 1) := by decide +kernel
theorem dX9_knock_117 : decode cX9_knock 117 = .ok (.iaload, 1) := by decide +kernel
theorem dX9_knock_118 : decode cX9_knock 118 = .ok (.imul, 1) := by decide +kernel
theorem dX9_knock_119 : decode cX9_knock 119 = .ok (.iload_n 2, 1) := by decide +kernel
theorem dX9_knock_120 : decode cX9_knock 120 = .ok (.iadd, 1) := by decide +kernel
theorem dX9_knock_121 : decode cX9_knock 121 = .ok (.dup2, 1) := by decide +kernel
theorem dX9_knock_122 : decode cX9_knock 122 = .ok (.iaload, 1) := by decide +kernel
theorem dX9_knock_123 : decode cX9_knock 123 = .ok (.iconst 1, 1) := by decide +kernel
theorem dX9_knock_124 : decode cX9_knock 124 = .ok (.iadd, 1) := by decide +kernel
theorem dX9_knock_125 : decode cX9_knock 125 = .ok (.iastore, 1) := by decide +kernel
theorem dX9_knock_126 : decode cX9_knock 126 = .ok (.aload_n 0, 1) := by decide +kernel
theorem dX9_knock_127 : decode cX9_knock 127 = .ok (.iload_n 1, 1) := by decide +kernel
theorem dX9_knock_128 : decode cX9_knock 128 = .ok (.iconst 2, 1) := by decide +kernel
theorem dX9_knock_129 : decode cX9_knock 129 = .ok (.aload_n 0, 1) := by decide +kernel
theorem dX9_knock_130 : decode cX9_knock 130 = .ok (.getfield 19, 3) := by decide +kernel
theorem dX9_knock_133 : decode cX9_knock 133 = .ok (.iload_n 1, 1) := by decide +kernel
theorem dX9_knock_134 : decode cX9_knock 134 = .ok (.iaload, 1) := by decide +kernel
theorem dX9_knock_135 : decode cX9_knock 135 = .ok (.invokevirtual 199, 3) := by decide +kernel
theorem dX9_knock_138 : decode cX9_knock 138 = .ok (.iconst 0, 1) := by decide +kernel
theorem dX9_knock_139 : decode cX9_knock 139 = .ok (.istore_n 3, 1) := by decide +kernel
theorem dX9_knock_140 : decode cX9_knock 140 = .ok (.iload_n 3, 1) := by decide +kernel
theorem dX9_knock_141 : decode cX9_knock 141 = .ok (.aload_n 0, 1) := by decide +kernel
theorem dX9_knock_142 : decode cX9_knock 142 = .ok (.getfield 19, 3) := by decide +kernel
theorem dX9_knock_145 : decode cX9_knock 145 = .ok (.iload_n 1, 1) := by decide +kernel
theorem dX9_knock_146 : decode cX9_knock 146 = .ok (.iaload, 1) := by decide +kernel
theorem dX9_knock_147 : decode cX9_knock 147 = .ok (.if_icmp .ge 31, 3) := by decide +kernel
theorem dX9_knock_150 : decode cX9_knock 150 = .ok (.aload_n 0, 1) := by decide +kernel
theorem dX9_knock_151 : decode cX9_knock 151 = .ok (.getfield 31, 3) := by decide +kernel
theorem dX9_knock_154 : decode cX9_knock 154 = .ok (.bipush 12, 2) := by decide +kernel
theorem dX9_knock_156 : decode cX9_knock 156 = .ok (.iload_n 1, 1) := by decide +kernel
theorem dX9_knock_157 : decode cX9_knock 157 = .ok (.imul, 1) := by decide +kernel
theorem dX9_knock_158 : decode cX9_knock 158 = .ok (.iload_n 3, 1) := by decide +kernel
theorem dX9_knock_159 : decode cX9_knock 159 = .ok (.iadd, 1) := by decide +kernel
theorem dX9_knock_160 : decode cX9_knock 160 = .ok (.aload_n 0, 1) := by decide +kernel
theorem dX9_knock_161 : decode cX9_knock 161 = .ok (.getfield 22, 3) := by decide +kernel
theorem dX9_knock_164 : decode cX9_knock 164 = .ok (.bipush 12, 2) := by decide +kernel
theorem dX9_knock_166 : decode cX9_knock 166 = .ok (.iload_n 1, 1) := by decide +kernel
theorem dX9_knock_167 : decode cX9_knock 167 = .ok (.imul, 1) := by decide +kernel
theorem dX9_knock_168 : decode cX9_knock 168 = .ok (.iload_n 3, 1) := by decide +kernel
theorem dX9_knock_169 : decode cX9_knock 169 = .ok (.iadd, 1) := by decide +kernel
theorem dX9_knock_170 : decode cX9_knock 170 = .ok (.iaload, 1) := by decide +kernel
theorem dX9_knock_171 : decode cX9_knock 171 = .ok (.iastore, 1) := by decide +kernel
theorem dX9_knock_172 : decode cX9_knock 172 = .ok (.iinc 3 1, 3) := by decide +kernel
theorem dX9_knock_175 : decode cX9_knock 175 = .ok (.goto (-35), 3) := by decide +kernel
theorem dX9_knock_178 : decode cX9_knock 178 = .ok (.iconst 1, 1) := by decide +kernel
theorem dX9_knock_179 : decode cX9_knock 179 = .ok (.ireturn, 1) := by decide +kernel
theorem dX9_proxy_0 : decode cX9_proxy 0 = .ok (.aload_n 0, 1) := by decide +kernel
theorem dX9_proxy_1 : decode cX9_proxy 1 = .ok (.iload_n 1, 1) := by decide +kernel
theorem dX9_proxy_2 : decode cX9_proxy 2 = .ok (.invokevirtual 172, 3) := by decide +kernel
theorem dX9_proxy_5 : decode cX9_proxy 5 = .ok (.ifCond .ne 9, 3) := by decide +kernel
theorem dX9_proxy_8 : decode cX9_proxy 8 = .ok (.aload_n 0, 1) := by decide +kernel
theorem dX9_proxy_9 : decode cX9_proxy 9 = .ok (.iconst (-1), 1) := by decide +kernel
theorem dX9_proxy_10 : decode cX9_proxy 10 = .ok (.invokevirtual 146, 3) := by decide +kernel
theorem dX9_proxy_13 : decode cX9_proxy 13 = .ok (.ireturn, 1) := by decide +kernel
theorem dX9_proxy_14 : decode cX9_proxy 14 = .ok (.iload_n 2, 1) := by decide +kernel
theorem dX9_proxy_15 : decode cX9_proxy 15 = .ok (.i2l, 1) := by decide +kernel
theorem dX9_proxy_16 : decode cX9_proxy 16 = .ok (.lconst 0, 1) := by decide +kernel
theorem dX9_proxy_17 : decode cX9_proxy 17 = .ok (.ldc2_w 205, 3) := by decide +kernel
theorem dX9_proxy_20 : decode cX9_proxy 20 = .ok (.invokestatic 152, 3) := by decide +kernel
theorem dX9_proxy_23 : decode cX9_proxy 23 = .ok (.ifCond .eq 41, 3) := by decide +kernel
theorem dX9_proxy_26 : decode cX9_proxy 26 = .ok (.aload_n 0, 1) := by decide +kernel
theorem dX9_proxy_27 : decode cX9_proxy 27 = .ok (.getfield 158, 3) := by decide +kernel
theorem dX9_proxy_30 : decode cX9_proxy 30 = .ok (.ifCond .ne 34, 3) := by decide +kernel
theorem dX9_proxy_33 : decode cX9_proxy 33 = .ok (.aload_n 0, 1) := by decide +kernel
theorem dX9_proxy_34 : decode cX9_proxy 34 = .ok (.iload_n 1, 1) := by decide +kernel
theorem dX9_proxy_35 : decode cX9_proxy 35 = .ok (.invokevirtual 196, 3) := by decide +kernel
theorem dX9_proxy_38 : decode cX9_proxy 38 = .ok (.ifCond .eq 26, 3) := by decide +kernel
theorem dX9_proxy_41 : decode cX9_proxy 41 = .ok (.aload_n 0, 1) := by decide +kernel
theorem dX9_proxy_42 : decode cX9_proxy 42 = .ok (.getfield 25, 3) := by decide +kernel
theorem dX9_proxy_45 : decode cX9_proxy 45 = .ok (.iload_n 1, 1) := by decide +kernel
theorem dX9_proxy_46 : decode cX9_proxy 46 = .ok (.iaload, 1) := by decide +kernel
theorem dX9_proxy_47 : decode cX9_proxy 47 = .ok (.iconst 3, 1) := by decide +kernel
theorem dX9_proxy_48 : decode cX9_proxy 48 = .ok (.if_icmp .eq 16, 3) := by decide +kernel
theorem dX9_proxy_51 : decode cX9_proxy 51 = .ok (.aload_n 0, 1) := by decide +kernel
theorem dX9_proxy_52 : decode cX9_proxy 52 = .ok (.getfield 34, 3) := by decide +kernel
theorem dX9_proxy_55 : decode cX9_proxy 55 = .ok (.iload_n 1, 1) := by decide +kernel
theorem dX9_proxy_56 : decode cX9_proxy 56 = .ok (.iaload, 1) := by decide +kernel
theorem dX9_proxy_57 : decode cX9_proxy 57 = .ok (.aload_n 0, 1) := by decide +kernel
theorem dX9_proxy_58 : decode cX9_proxy 58 = .ok (.getfield 66, 3) := by decide +kernel
theorem dX9_proxy_61 : decode cX9_proxy 61 = .ok (.if_icmp .ge 10, 3) := by decide +kernel
theorem dX9_proxy_64 : decode cX9_proxy 64 = .ok (.aload_n 0, 1) := by decide +kernel
theorem dX9_proxy_65 : decode cX9_proxy 65 = .ok (.bipush (-6), 2) := by decide +kernel
theorem dX9_proxy_67 : decode cX9_proxy 67 = .ok (.invokevirtual 146, 3) := by decide +kernel
theorem dX9_proxy_70 : decode cX9_proxy 70 = .ok (.ireturn, 1) := by decide +kernel
theorem dX9_proxy_71 : decode cX9_proxy 71 = .ok (.aload_n 0, 1) := by decide +kernel
theorem dX9_proxy_72 : decode cX9_proxy 72 = .ok (.iload_n 1, 1) := by decide +kernel
theorem dX9_proxy_73 : decode cX9_proxy 73 = .ok (.iconst 3, 1) := by decide +kernel
theorem dX9_proxy_74 : decode cX9_proxy 74 = .ok (.iload_n 2, 1) := by decide +kernel
theorem dX9_proxy_75 : decode cX9_proxy 75 = .ok (.invokevirtual 199, 3) := by decide +kernel
theorem dX9_proxy_78 : decode cX9_proxy 78 = .ok (.iload_n 2, 1) := by decide +kernel
theorem dX9_proxy_79 : decode cX9_proxy 79 = .ok (.ireturn, 1) := by decide +kernel
theorem dX9_isHead_0 : decode cX9_isHead 0 = .ok (.iload_n 2, 1) := by decide +kernel
theorem dX9_isHead_1 : decode cX9_isHead 1 = .ok (.ifCond .lt 17, 3) := by decide +kernel
theorem dX9_isHead_4 : decode cX9_isHead 4 = .ok (.iload_n 2, 1) := by decide +kernel
theorem dX9_isHead_5 : decode cX9_isHead 5 = .ok (.aload_n 0, 1) := by decide +kernel
theorem dX9_isHead_6 : decode cX9_isHead 6 = .ok (.getfield 28, 3) := by decide +kernel
theorem dX9_isHead_9 : decode cX9_isHead 9 = .ok (.iload_n 1, 1) := by decide +kernel
theorem dX9_isHead_10 : decode cX9_isHead 10 = .ok (.iaload, 1) := by decide +kernel
theorem dX9_isHead_11 : decode cX9_isHead 11 = .ok (.if_icmp .ge 7, 3) := by decide +kernel
theorem dX9_isHead_14 : decode cX9_isHead 14 = .ok (.iconst 1, 1) := by decide +kernel
theorem dX9_isHead_15 : decode cX9_isHead 15 = .ok (.goto 4, 3) := by decide +kernel
theorem dX9_isHead_18 : decode cX9_isHead 18 = .ok (.iconst 0, 1) := by decide +kernel
theorem dX9_isHead_19 : decode cX9_isHead 19 = .ok (.ireturn, 1) := by decide +kernel
theorem dX9_twice_0 : decode cX9_twice 0 = .ok (.aload_n 0, 1) := by decide +kernel
theorem dX9_twice_1 : decode cX9_twice 1 = .ok (.iload_n 1, 1) := by decide +kernel
theorem dX9_twice_2 : decode cX9_twice 2 = .ok (.invokevirtual 172, 3) := by decide +kernel
theorem dX9_twice_5 : decode cX9_twice 5 = .ok (.ifCond .eq 11, 3) := by decide +kernel
theorem dX9_twice_8 : decode cX9_twice 8 = .ok (.aload_n 0, 1) := by decide +kernel
theorem dX9_twice_9 : decode cX9_twice 9 = .ok (.iload_n 3, 1) := by decide +kernel
theorem dX9_twice_10 : decode cX9_twice 10 = .ok (.invokevirtual 172, 3) := by decide +kernel
theorem dX9_twice_13 : decode cX9_twice 13 = .ok (.ifCond .ne 9, 3) := by decide +kernel
theorem dX9_twice_16 : decode cX9_twice 16 = .ok (.aload_n 0, 1) := by decide +kernel
theorem dX9_twice_17 : decode cX9_twice 17 = .ok (.iconst (-1), 1) := by decide +kernel
theorem dX9_twice_18 : decode cX9_twice 18 = .ok (.invokevirtual 146, 3) := by decide +kernel
theorem dX9_twice_21 : decode cX9_twice 21 = .ok (.ireturn, 1) := by decide +kernel
theorem dX9_twice_22 : decode cX9_twice 22 = .ok (.aload_n 0, 1) := by decide +kernel
theorem dX9_twice_23 : decode cX9_twice 23 = .ok (.iload_n 1, 1) := by decide +kernel
theorem dX9_twice_24 : decode cX9_twice 24 = .ok (.iload_n 2, 1) := by decide +kernel
theorem dX9_twice_25 : decode cX9_twice 25 = .ok (.invokevirtual 207, 3) := by decide +kernel
theorem dX9_twice_28 : decode cX9_twice 28 = .ok (.ifCond .eq 13, 3) := by decide +kernel
theorem dX9_twice_31 : decode cX9_twice 31 = .ok (.aload_n 0, 1) := by decide +kernel
theorem dX9_twice_32 : decode cX9_twice 32 = .ok (.iload_n 3, 1) := by decide +kernel
theorem dX9_twice_33 : decode cX9_twice 33 = .ok (.iload 4, 2) := by decide +kernel
theorem dX9_twice_35 : decode cX9_twice 35 = .ok (.invokevirtual 207, 3) := by decide +kernel
theorem dX9_twice_38 : decode cX9_twice 38 = .ok (.ifCond .ne 10, 3) := by decide +kernel
theorem dX9_twice_41 : decode cX9_twice 41 = .ok (.aload_n 0, 1) := by decide +kernel
theorem dX9_twice_42 : decode cX9_twice 42 = .ok (.bipush (-5), 2) := by decide +kernel
theorem dX9_twice_44 : decode cX9_twice 44 = .ok (.invokevirtual 146, 3) := by decide +kernel
theorem dX9_twice_47 : decode cX9_twice 47 = .ok (.ireturn, 1) := by decide +kernel
theorem dX9_twice_48 : decode cX9_twice 48 = .ok (.iload_n 1, 1) := by decide +kernel
theorem dX9_twice_49 : decode cX9_twice 49 = .ok (.iload_n 3, 1) := by decide +kernel
theorem dX9_twice_50 : decode cX9_twice 50 = .ok (.if_icmp .eq 52, 3) := by decide +kernel
theorem dX9_twice_53 : decode cX9_twice 53 = .ok (.aload_n 0, 1) := by decide +kernel
theorem dX9_twice_54 : decode cX9_twice 54 = .ok (.getfield 50, 3) := by decide +kernel
theorem dX9_twice_57 : decode cX9_twice 57 = .ok (.bipush 12, 2) := by decide +kernel
theorem dX9_twice_59 : decode cX9_twice 59 = .ok (.iload_n 1, 1) := by decide +kernel
theorem dX9_twice_60 : decode cX9_twice 60 = .ok (.imul, 1) := by decide +kernel
theorem dX9_twice_61 : decode cX9_twice 61 = .ok (.iload_n 2, 1) := by decide +kernel
theorem dX9_twice_62 : decode cX9_twice 62 = .ok (.iadd, 1) := by decide +kernel
theorem dX9_twice_63 : decode cX9_twice 63 = .ok (.baload, 1) := by decide +kernel
theorem dX9_twice_64 : decode cX9_twice 64 = .ok (.ifCond .ne 38, 3) := by decide +kernel
theorem dX9_twice_67 : decode cX9_twice 67 = .ok (.aload_n 0, 1) := by decide +kernel
theorem dX9_twice_68 : decode cX9_twice 68 = .ok (.getfield 50, 3) := by decide +kernel
theorem dX9_twice_71 : decode cX9_twice 71 = .ok (.bipush 12, 2) := by decide +kernel
theorem dX9_twice_73 : decode cX9_twice 73 = .ok (.iload_n 3, 1) := by decide +kernel
theorem dX9_twice_74 : decode cX9_twice 74 = .ok (.imul, 1) := by decide +kernel
theorem dX9_twice_75 : decode cX9_twice 75 = .ok (.iload 4, 2) := by decide +kernel
theorem dX9_twice_77 : decode cX9_twice 77 = .ok (.iadd, 1) := by decide +kernel
theorem dX9_twice_78 : decode cX9_twice 78 = .ok (.baload, 1) := by decide +kernel
theorem dX9_twice_79 : decode cX9_twice 79 = .ok (.ifCond .ne 23, 3) := by decide +kernel
theorem dX9_twice_82 : decode cX9_twice 82 = .ok (.aload_n 0, 1) := by decide +kernel
theorem dX9_twice_83 : decode cX9_twice 83 = .ok (.getfield 25, 3) := by decide +kernel
theorem dX9_twice_86 : decode cX9_twice 86 = .ok (.iload_n 1, 1) := by decide +kernel
theorem dX9_twice_87 : decode cX9_twice 87 = .ok (.iaload, 1) := by decide +kernel
theorem dX9_twice_88 : decode cX9_twice 88 = .ok (.iconst 4, 1) := by decide +kernel
theorem dX9_twice_89 : decode cX9_twice 89 = .ok (.if_icmp .eq 13, 3) := by decide +kernel
theorem dX9_twice_92 : decode cX9_twice 92 = .ok (.aload_n 0, 1) := by decide +kernel
theorem dX9_twice_93 : decode cX9_twice 93 = .ok (.getfield 25, 3) := by decide +kernel
theorem dX9_twice_96 : decode cX9_twice 96 = .ok (.iload_n 3, 1) := by decide +kernel
theorem dX9_twice_97 : decode cX9_twice 97 = .ok (.iaload, 1) := by decide +kernel
theorem dX9_twice_98 : decode cX9_twice 98 = .ok (.iconst 4, 1) := by decide +kernel
theorem dX9_twice_99 : decode cX9_twice 99 = .ok (.if_icmp .ne 10, 3) := by decide +kernel
theorem dX9_twice_102 : decode cX9_twice 102 = .ok (.aload_n 0, 1) := by decide +kernel
theorem dX9_twice_103 : decode cX9_twice 103 = .ok (.bipush (-6), 2) := by decide +kernel
theorem dX9_twice_105 : decode cX9_twice 105 = .ok (.invokevirtual 146, 3) := by decide +kernel
theorem dX9_twice_108 : decode cX9_twice 108 = .ok (.ireturn, 1) := by decide +kernel
theorem dX9_twice_109 : decode cX9_twice 109 = .ok (.iload_n 1, 1) := by decide +kernel
theorem dX9_twice_110 : decode cX9_twice 110 = .ok (.iload_n 3, 1) := by decide +kernel
theorem dX9_twice_111 : decode cX9_twice 111 = .ok (.if_icmp .le 7, 3) := by decide +kernel
theorem dX9_twice_114 : decode cX9_twice 114 = .ok (.iload_n 1, 1) := by decide +kernel
theorem dX9_twice_115 : decode cX9_twice 115 = .ok (.goto 4, 3) := by decide +kernel
theorem dX9_twice_118 : decode cX9_twice 118 = .ok (.iload_n 3, 1) := by decide +kernel
theorem dX9_twice_119 : decode cX9_twice 119 = .ok (.istore 5, 2) := by decide +kernel
theorem dX9_twice_121 : decode cX9_twice 121 = .ok (.aload_n 0, 1) := by decide +kernel
theorem dX9_twice_122 : decode cX9_twice 122 = .ok (.getfield 50, 3) := by decide +kernel
theorem dX9_twice_125 : decode cX9_twice 125 = .ok (.bipush 12, 2) := by decide +kernel
theorem dX9_twice_127 : decode cX9_twice 127 = .ok (.iload 5, 2) := by decide +kernel
theorem dX9_twice_129 : decode cX9_twice 129 = .ok (.imul, 1) := by decide +kernel
theorem dX9_twice_130 : decode cX9_twice 130 = .ok (.iload 5, 2) := by decide +kernel
theorem dX9_twice_132 : decode cX9_twice 132 = .ok (.iload_n 1, 1) := by decide +kernel
theorem dX9_twice_133 : decode cX9_twice 133 = .ok (.if_icmp .ne 7, 3) := by decide +kernel
theorem dX9_twice_136 : decode cX9_twice 136 = .ok (.iload_n 2, 1) := by decide +kernel
theorem dX9_twice_137 : decode cX9_twice 137 = .ok (.goto 5, 3) := by decide +kernel
theorem dX9_twice_140 : decode cX9_twice 140 = .ok (.iload 4, 2) := by decide +kernel
theorem dX9_twice_142 : decode cX9_twice 142 = .ok (.iadd, 1) := by decide +kernel
theorem dX9_twice_143 : decode cX9_twice 143 = .ok (.iconst 1, 1) := by decide +kernel
theorem dX9_twice_144 : decode cX9_twice 144 = .ok (.bastore, 1) := by decide +kernel
theorem dX9_twice_145 : decode cX9_twice 145 = .ok (.iload 5, 2) := by decide +kernel
theorem dX9_twice_147 : decode cX9_twice 147 = .ok (.ireturn, 1) := by decide +kernel
theorem dX9_donor_0 : decode cX9_donor 0 = .ok (.iconst (-1), 1) := by decide +kernel
theorem dX9_donor_1 : decode cX9_donor 1 = .ok (.istore_n 2, 1) := by decide +kernel
theorem dX9_donor_2 : decode cX9_donor 2 = .ok (.bipush 100, 2) := by decide +kernel
theorem dX9_donor_4 : decode cX9_donor 4 = .ok (.istore_n 3, 1) := by decide +kernel
theorem dX9_donor_5 : decode cX9_donor 5 = .ok (.iconst 0, 1) := by decide +kernel
theorem dX9_donor_6 : decode cX9_donor 6 = .ok (.istore 4, 2) := by decide +kernel
theorem dX9_donor_8 : decode cX9_donor 8 = .ok (.iload 4, 2) := by decide +kernel
theorem dX9_donor_10 : decode cX9_donor 10 = .ok (.aload_n 0, 1) := by decide +kernel
theorem dX9_donor_11 : decode cX9_donor 11 = .ok (.getfield 139, 3) := by decide +kernel
theorem dX9_donor_14 : decode cX9_donor 14 = .ok (.if_icmp .ge 114, 3) := by decide +kernel
theorem dX9_donor_17 : decode cX9_donor 17 = .ok (.aload_n 0, 1) := by decide +kernel
theorem dX9_donor_18 : decode cX9_donor 18 = .ok (.getfield 13, 3) := by decide +kernel
theorem dX9_donor_21 : decode cX9_donor 21 = .ok (.iload 4, 2) := by decide +kernel
theorem dX9_donor_23 : decode cX9_donor 23 = .ok (.iaload, 1) := by decide +kernel
theorem dX9_donor_24 : decode cX9_donor 24 = .ok (.aload_n 0, 1) := by decide +kernel
theorem dX9_donor_25 : decode cX9_donor 25 = .ok (.getfield 13, 3) := by decide +kernel
theorem dX9_donor_28 : decode cX9_donor 28 = .ok (.iload_n 1, 1) := by decide +kernel
theorem dX9_donor_29 : decode cX9_donor 29 = .ok (.iaload, 1) := by decide +kernel
theorem dX9_donor_30 : decode cX9_donor 30 = .ok (.if_icmp .ne 50, 3) := by decide +kernel
theorem dX9_donor_33 : decode cX9_donor 33 = .ok (.aload_n 0, 1) := by decide +kernel
theorem dX9_donor_34 : decode cX9_donor 34 = .ok (.getfield 37, 3) := by decide +kernel
theorem dX9_donor_37 : decode cX9_donor 37 = .ok (.iload 4, 2) := by decide +kernel
theorem dX9_donor_39 : decode cX9_donor 39 = .ok (.iaload, 1) := by decide +kernel
theorem dX9_donor_40 : decode cX9_donor 40 = .ok (.iconst 2, 1) := by decide +kernel
theorem dX9_donor_41 : decode cX9_donor 41 = .ok (.if_icmp .ge 39, 3) := by decide +kernel
theorem dX9_donor_44 : decode cX9_donor 44 = .ok (.aload_n 0, 1) := by decide +kernel
theorem dX9_donor_45 : decode cX9_donor 45 = .ok (.getfield 25, 3) := by decide +kernel
theorem dX9_donor_48 : decode cX9_donor 48 = .ok (.iload 4, 2) := by decide +kernel
theorem dX9_donor_50 : decode cX9_donor 50 = .ok (.iaload, 1) := by decide +kernel
theorem dX9_donor_51 : decode cX9_donor 51 = .ok (.iconst 2, 1) := by decide +kernel
theorem dX9_donor_52 : decode cX9_donor 52 = .ok (.if_icmp .eq 24, 3) := by decide +kernel
theorem dX9_donor_55 : decode cX9_donor 55 = .ok (.aload_n 0, 1) := by decide +kernel
theorem dX9_donor_56 : decode cX9_donor 56 = .ok (.getfield 25, 3) := by decide +kernel
theorem dX9_donor_59 : decode cX9_donor 59 = .ok (.iload 4, 2) := by decide +kernel
theorem dX9_donor_61 : decode cX9_donor 61 = .ok (.iaload, 1) := by decide +kernel
theorem dX9_donor_62 : decode cX9_donor 62 = .ok (.iconst 1, 1) := by decide +kernel
theorem dX9_donor_63 : decode cX9_donor 63 = .ok (.if_icmp .ne 17, 3) := by decide +kernel
theorem dX9_donor_66 : decode cX9_donor 66 = .ok (.aload_n 0, 1) := by decide +kernel
theorem dX9_donor_67 : decode cX9_donor 67 = .ok (.getfield 46, 3) := by decide +kernel
theorem dX9_donor_70 : decode cX9_donor 70 = .ok (.iload 4, 2) := by decide +kernel
theorem dX9_donor_72 : decode cX9_donor 72 = .ok (.baload, 1) := by decide +kernel
theorem dX9_donor_73 : decode cX9_donor 73 = .ok (.ifCond .ne 7, 3) := by decide +kernel
theorem dX9_donor_76 : decode cX9_donor 76 = .ok (.iconst 1, 1) := by decide +kernel
theorem dX9_donor_77 : decode cX9_donor 77 = .ok (.goto 4, 3) := by decide +kernel
theorem dX9_donor_80 : decode cX9_donor 80 = .ok (.iconst 0, 1) := by decide +kernel
theorem dX9_donor_81 : decode cX9_donor 81 = .ok (.istore 5, 2) := by decide +kernel
theorem dX9_donor_83 : decode cX9_donor 83 = .ok (.iload 4, 2) := by decide +kernel
theorem dX9_donor_85 : decode cX9_donor 85 = .ok (.iload_n 1, 1) := by decide +kernel
theorem dX9_donor_86 : decode cX9_donor 86 = .ok (.if_icmp .ge 10, 3) := by decide +kernel
theorem dX9_donor_89 : decode cX9_donor 89 = .ok (.iload_n 1, 1) := by decide +kernel
theorem dX9_donor_90 : decode cX9_donor 90 = .ok (.iload 4, 2) := by decide +kernel
theorem dX9_donor_92 : decode cX9_donor 92 = .ok (.isub, 1) := by decide +kernel
theorem dX9_donor_93 : decode cX9_donor 93 = .ok (.goto 7, 3) := by decide +kernel
theorem dX9_donor_96 : decode cX9_donor 96 = .ok (.iload 4, 2) := by decide +kernel
theorem dX9_donor_98 : decode cX9_donor 98 = .ok (.iload_n 1, 1) := by decide +kernel
theorem dX9_donor_99 : decode cX9_donor 99 = .ok (.isub, 1) := by decide +kernel
theorem dX9_donor_100 : decode cX9_donor 100 = .ok (.istore 6, 2) := by decide +kernel
theorem dX9_donor_102 : decode cX9_donor 102 = .ok (.iload 5, 2) := by decide +kernel
theorem dX9_donor_104 : decode cX9_donor 104 = .ok (.ifCond .eq 18, 3) := by decide +kernel
theorem dX9_donor_107 : decode cX9_donor 107 = .ok (.iload 6, 2) := by decide +kernel
theorem dX9_donor_109 : decode cX9_donor 109 = .ok (.iload_n 3, 1) := by decide +kernel
theorem dX9_donor_110 : decode cX9_donor 110 = .ok (.if_icmp .lt 6, 3) := by decide +kernel
theorem dX9_donor_113 : decode cX9_donor 113 = .ok (.goto 9, 3) := by decide +kernel
theorem dX9_donor_116 : decode cX9_donor 116 = .ok (.iload 4, 2) := by decide +kernel
theorem dX9_donor_118 : decode cX9_donor 118 = .ok (.istore_n 2, 1) := by decide +kernel
theorem dX9_donor_119 : decode cX9_donor 119 = .ok (.iload 6, 2) := by decide +kernel
theorem dX9_donor_121 : decode cX9_donor 121 = .ok (.istore_n 3, 1) := by decide +kernel
theorem dX9_donor_122 : decode cX9_donor 122 = .ok (.iinc 4 1, 3) := by decide +kernel
theorem dX9_donor_125 : decode cX9_donor 125 = .ok (.goto (-117), 3) := by decide +kernel
theorem dX9_donor_128 : decode cX9_donor 128 = .ok (.iload_n 2, 1) := by decide +kernel
theorem dX9_donor_129 : decode cX9_donor 129 = .ok (.ireturn, 1) := by decide +kernel
theorem dX9_fill_0 : decode cX9_fill 0 = .ok (.aload_n 0, 1) := by decide +kernel
theorem dX9_fill_1 : decode cX9_fill 1 = .ok (.getfield 158, 3) := by decide +kernel
theorem dX9_fill_4 : decode cX9_fill 4 = .ok (.ifCond .eq 10, 3) := by decide +kernel
theorem dX9_fill_7 : decode cX9_fill 7 = .ok (.aload_n 0, 1) := by decide +kernel
theorem dX9_fill_8 : decode cX9_fill 8 = .ok (.bipush (-6), 2) := by decide +kernel
theorem dX9_fill_10 : decode cX9_fill 10 = .ok (.invokevirtual 146, 3) := by decide +kernel
theorem dX9_fill_13 : decode cX9_fill 13 = .ok (.ireturn, 1) := by decide +kernel
theorem dX9_fill_14 : decode cX9_fill 14 = .ok (.aload_n 0, 1) := by decide +kernel
theorem dX9_fill_15 : decode cX9_fill 15 = .ok (.iconst 1, 1) := by decide +kernel
theorem dX9_fill_16 : decode cX9_fill 16 = .ok (.putfield 158, 3) := by decide +kernel
theorem dX9_fill_19 : decode cX9_fill 19 = .ok (.iconst 0, 1) := by decide +kernel
theorem dX9_fill_20 : decode cX9_fill 20 = .ok (.istore_n 1, 1) := by decide +kernel
theorem dX9_fill_21 : decode cX9_fill 21 = .ok (.iconst 0, 1) := by decide +kernel
theorem dX9_fill_22 : decode cX9_fill 22 = .ok (.istore_n 2, 1) := by decide +kernel
theorem dX9_fill_23 : decode cX9_fill 23 = .ok (.iload_n 2, 1) := by decide +kernel
theorem dX9_fill_24 : decode cX9_fill 24 = .ok (.aload_n 0, 1) := by decide +kernel
theorem dX9_fill_25 : decode cX9_fill 25 = .ok (.getfield 139, 3) := by decide +kernel
theorem dX9_fill_28 : decode cX9_fill 28 = .ok (.if_icmp .ge 138, 3) := by decide +kernel
theorem dX9_fill_31 : decode cX9_fill 31 = .ok (.aload_n 0, 1) := by decide +kernel
theorem dX9_fill_32 : decode cX9_fill 32 = .ok (.getfield 25, 3) := by decide +kernel
theorem dX9_fill_35 : decode cX9_fill 35 = .ok (.iload_n 2, 1) := by decide +kernel
theorem dX9_fill_36 : decode cX9_fill 36 = .ok (.iaload, 1) := by decide +kernel
theorem dX9_fill_37 : decode cX9_fill 37 = .ok (.ifCond .ne 11, 3) := by decide +kernel
theorem dX9_fill_40 : decode cX9_fill 40 = .ok (.aload_n 0, 1) := by decide +kernel
theorem dX9_fill_41 : decode cX9_fill 41 = .ok (.iload_n 2, 1) := by decide +kernel
theorem dX9_fill_42 : decode cX9_fill 42 = .ok (.invokevirtual 211, 3) := by decide +kernel
theorem dX9_fill_45 : decode cX9_fill 45 = .ok (.goto 4, 3) := by decide +kernel
theorem dX9_fill_48 : decode cX9_fill 48 = .ok (.iconst (-1), 1) := by decide +kernel
theorem dX9_fill_49 : decode cX9_fill 49 = .ok (.istore_n 3, 1) := by decide +kernel
theorem dX9_fill_50 : decode cX9_fill 50 = .ok (.iload_n 3, 1) := by decide +kernel
theorem dX9_fill_51 : decode cX9_fill 51 = .ok (.ifCond .ge 6, 3) := by decide +kernel
theorem dX9_fill_54 : decode cX9_fill 54 = .ok (.goto 106, 3) := by decide +kernel
theorem dX9_fill_57 : decode cX9_fill 57 = .ok (.aload_n 0, 1) := by decide +kernel
theorem dX9_fill_58 : decode cX9_fill 58 = .ok (.iload_n 2, 1) := by decide +kernel
theorem dX9_fill_59 : decode cX9_fill 59 = .ok (.iconst 4, 1) := by decide +kernel
theorem dX9_fill_60 : decode cX9_fill 60 = .ok (.iconst 0, 1) := by decide +kernel
theorem dX9_fill_61 : decode cX9_fill 61 = .ok (.invokevirtual 199, 3) := by decide +kernel
theorem dX9_fill_64 : decode cX9_fill 64 = .ok (.iconst 0, 1) := by decide +kernel
theorem dX9_fill_65 : decode cX9_fill 65 = .ok (.istore 4, 2) := by decide +kernel
theorem dX9_fill_67 : decode cX9_fill 67 = .ok (.iload 4, 2) := by decide +kernel
theorem dX9_fill_69 : decode cX9_fill 69 = .ok (.aload_n 0, 1) := by decide +kernel
theorem dX9_fill_70 : decode cX9_fill 70 = .ok (.getfield 28, 3) := by decide +kernel
theorem dX9_fill_73 : decode cX9_fill 73 = .ok (.iload_n 3, 1) := by decide +kernel
theorem dX9_fill_74 : decode cX9_fill 74 = .ok (.iaload, 1) := by decide +kernel
theorem dX9_fill_75 : decode cX9_fill 75 = .ok (.if_icmp .ge 65, 3) := by decide +kernel
theorem dX9_fill_78 : decode cX9_fill 78 = .ok (.aload_n 0, 1) := by decide +kernel
theorem dX9_fill_79 : decode cX9_fill 79 = .ok (.getfield 50, 3) := by decide +kernel
theorem dX9_fill_82 : decode cX9_fill 82 = .ok (.bipush 12, 2) := by decide +kernel
theorem dX9_fill_84 : decode cX9_fill 84 = .ok (.iload_n 3, 1) := by decide +kernel
theorem dX9_fill_85 : decode cX9_fill 85 = .ok (.imul, 1) := by decide +kernel
theorem dX9_fill_86 : decode cX9_fill 86 = .ok (.iload 4, 2) := by decide +kernel
theorem dX9_fill_88 : decode cX9_fill 88 = .ok (.iadd, 1) := by decide +kernel
theorem dX9_fill_89 : decode cX9_fill 89 = .ok (.baload, 1) := by decide +kernel
theorem dX9_fill_90 : decode cX9_fill 90 = .ok (.ifCond .eq 6, 3) := by decide +kernel
theorem dX9_fill_93 : decode cX9_fill 93 = .ok (.goto 41, 3) := by decide +kernel
theorem dX9_fill_96 : decode cX9_fill 96 = .ok (.aload_n 0, 1) := by decide +kernel
theorem dX9_fill_97 : decode cX9_fill 97 = .ok (.getfield 31, 3) := by decide +kernel
theorem dX9_fill_100 : decode cX9_fill 100 = .ok (.bipush 12, 2) := by decide +kernel
theorem dX9_fill_102 : decode cX9_fill 102 = .ok (.iload_n 2, 1) := by decide +kernel
theorem dX9_fill_103 : decode cX9_fill 103 = .ok (.imul, 1) := by decide +kernel
theorem dX9_fill_104 : decode cX9_fill 104 = .ok (.aload_n 0, 1) := by decide +kernel
theorem dX9_fill_105 : decode cX9_fill 105 = .ok (.getfield 28, 3) := by decide +kernel
theorem dX9_fill_108 : decode cX9_fill 108 = .ok (.iload_n 2, 1) := by decide +kernel
theorem dX9_fill_109 : decode cX9_fill 109 = .ok (.iaload, 1) := by decide +kernel
theorem dX9_fill_110 : decode cX9_fill 110 = .ok (.iadd, 1) := by decide +kernel
theorem dX9_fill_111 : decode cX9_fill 111 = .ok (.aload_n 0, 1) := by decide +kernel
theorem dX9_fill_112 : decode cX9_fill 112 = .ok (.getfield 31, 3) := by decide +kernel
theorem dX9_fill_115 : decode cX9_fill 115 = .ok (.bipush 12, 2) := by decide +kernel
theorem dX9_fill_117 : decode cX9_fill 117 = .ok (.iload_n 3, 1) := by decide +kernel
theorem dX9_fill_118 : decode cX9_fill 118 = .ok (.imul, 1) := by decide +kernel
theorem dX9_fill_119 : decode cX9_fill 119 = .ok (.iload 4, 2) := by decide +kernel
theorem dX9_fill_121 : decode cX9_fill 121 = .ok (.iadd, 1) := by decide +kernel
theorem dX9_fill_122 : decode cX9_fill 122 = .ok (.iaload, 1) := by decide +kernel
theorem dX9_fill_123 : decode cX9_fill 123 = .ok (.iastore, 1) := by decide +kernel
theorem dX9_fill_124 : decode cX9_fill 124 = .ok (.aload_n 0, 1) := by decide +kernel
theorem dX9_fill_125 : decode cX9_fill 125 = .ok (.getfield 28, 3) := by decide +kernel
theorem dX9_fill_128 : decode cX9_fill 128 = .ok (.iload_n 2, 1) := by decide +kernel
theorem dX9_fill_129 : decode cX9_fill 129 = .ok (.dup2, 1) := by decide +kernel
theorem dX9_fill_130 : decode cX9_fill 130 = .ok (.iaload, 1) := by decide +kernel
theorem dX9_fill_131 : decode cX9_fill 131 = .ok (.iconst 1, 1) := by decide +kernel
theorem dX9_fill_132 : decode cX9_fill 132 = .ok (.iadd, 1) := by decide +kernel
theorem dX9_fill_133 : decode cX9_fill 133 = .ok (.iastore, 1) := by decide +kernel
theorem dX9_fill_134 : decode cX9_fill 134 = .ok (.iinc 4 1, 3) := by decide +kernel
theorem dX9_fill_137 : decode cX9_fill 137 = .ok (.goto (-70), 3) := by decide +kernel
theorem dX9_fill_140 : decode cX9_fill 140 = .ok (.aload_n 0, 1) := by decide +kernel
theorem dX9_fill_141 : decode cX9_fill 141 = .ok (.getfield 37, 3) := by decide +kernel
theorem dX9_fill_144 : decode cX9_fill 144 = .ok (.iload_n 3, 1) := by decide +kernel
theorem dX9_fill_145 : decode cX9_fill 145 = .ok (.dup2, 1) := by decide +kernel
theorem dX9_fill_146 : decode cX9_fill 146 = .ok (.iaload, 1) := by decide +kernel
theorem dX9_fill_147 : decode cX9_fill 147 = .ok (.iconst 1, 1) := by decide +kernel
theorem dX9_fill_148 : decode cX9_fill 148 = .ok (.iadd, 1) := by decide +kernel
theorem dX9_fill_149 : decode cX9_fill 149 = .ok (.iastore, 1) := by decide +kernel
theorem dX9_fill_150 : decode cX9_fill 150 = .ok (.aload_n 0, 1) := by decide +kernel
theorem dX9_fill_151 : decode cX9_fill 151 = .ok (.getfield 40, 3) := by decide +kernel
theorem dX9_fill_154 : decode cX9_fill 154 = .ok (.iload_n 2, 1) := by decide +kernel
theorem dX9_fill_155 : decode cX9_fill 155 = .ok (.iload_n 3, 1) := by decide +kernel
theorem dX9_fill_156 : decode cX9_fill 156 = .ok (.iastore, 1) := by decide +kernel
theorem dX9_fill_157 : decode cX9_fill 157 = .ok (.iinc 1 1, 3) := by decide +kernel
theorem dX9_fill_160 : decode cX9_fill 160 = .ok (.iinc 2 1, 3) := by decide +kernel
theorem dX9_fill_163 : decode cX9_fill 163 = .ok (.goto (-140), 3) := by decide +kernel
theorem dX9_fill_166 : decode cX9_fill 166 = .ok (.iload_n 1, 1) := by decide +kernel
theorem dX9_fill_167 : decode cX9_fill 167 = .ok (.ireturn, 1) := by decide +kernel
theorem dX9_from_0 : decode cX9_from 0 = .ok (.aload_n 0, 1) := by decide +kernel
theorem dX9_from_1 : decode cX9_from 1 = .ok (.iload_n 1, 1) := by decide +kernel
theorem dX9_from_2 : decode cX9_from 2 = .ok (.invokevirtual 172, 3) := by decide +kernel
theorem dX9_from_5 : decode cX9_from 5 = .ok (.ifCond .eq 12, 3) := by decide +kernel
theorem dX9_from_8 : decode cX9_from 8 = .ok (.aload_n 0, 1) := by decide +kernel
theorem dX9_from_9 : decode cX9_from 9 = .ok (.getfield 40, 3) := by decide +kernel
theorem dX9_from_12 : decode cX9_from 12 = .ok (.iload_n 1, 1) := by decide +kernel
theorem dX9_from_13 : decode cX9_from 13 = .ok (.iaload, 1) := by decide +kernel
theorem dX9_from_14 : decode cX9_from 14 = .ok (.goto 4, 3) := by decide +kernel
theorem dX9_from_17 : decode cX9_from 17 = .ok (.iconst (-1), 1) := by decide +kernel
theorem dX9_from_18 : decode cX9_from 18 = .ok (.ireturn, 1) := by decide +kernel
theorem dX9_struckAt_0 : decode cX9_struckAt 0 = .ok (.iconst 0, 1) := by decide +kernel
theorem dX9_struckAt_1 : decode cX9_struckAt 1 = .ok (.istore_n 2, 1) := by decide +kernel
theorem dX9_struckAt_2 : decode cX9_struckAt 2 = .ok (.iconst 0, 1) := by decide +kernel
theorem dX9_struckAt_3 : decode cX9_struckAt 3 = .ok (.istore_n 3, 1) := by decide +kernel
theorem dX9_struckAt_4 : decode cX9_struckAt 4 = .ok (.iload_n 3, 1) := by decide +kernel
theorem dX9_struckAt_5 : decode cX9_struckAt 5 = .ok (.aload_n 0, 1) := by decide +kernel
theorem dX9_struckAt_6 : decode cX9_struckAt 6 = .ok (.getfield 28, 3) := by decide +kernel
theorem dX9_struckAt_9 : decode cX9_struckAt 9 = .ok (.iload_n 1, 1) := by decide +kernel
theorem dX9_struckAt_10 : decode cX9_struckAt 10 = .ok (.iaload, 1) := by decide +kernel
theorem dX9_struckAt_11 : decode cX9_struckAt 11 = .ok (.if_icmp .ge 31, 3) := by decide +kernel
theorem dX9_struckAt_14 : decode cX9_struckAt 14 = .ok (.iload_n 2, 1) := by decide +kernel
theorem dX9_struckAt_15 : decode cX9_struckAt 15 = .ok (.aload_n 0, 1) := by decide +kernel
theorem dX9_struckAt_16 : decode cX9_struckAt 16 = .ok (.getfield 50, 3) := by decide +kernel
theorem dX9_struckAt_19 : decode cX9_struckAt 19 = .ok (.bipush 12, 2) := by decide +kernel
theorem dX9_struckAt_21 : decode cX9_struckAt 21 = .ok (.iload_n 1, 1) := by decide +kernel
theorem dX9_struckAt_22 : decode cX9_struckAt 22 = .ok (.imul, 1) := by decide +kernel
theorem dX9_struckAt_23 : decode cX9_struckAt 23 = .ok (.iload_n 3, 1) := by decide +kernel
theorem dX9_struckAt_24 : decode cX9_struckAt 24 = .ok (.iadd, 1) := by decide +kernel
theorem dX9_struckAt_25 : decode cX9_struckAt 25 = .ok (.baload, 1) := by decide +kernel
theorem dX9_struckAt_26 : decode cX9_struckAt 26 = .ok (.ifCond .eq 7, 3) := by decide +kernel
theorem dX9_struckAt_29 : decode cX9_struckAt 29 = .ok (.iconst 1, 1) := by decide +kernel
theorem dX9_struckAt_30 : decode cX9_struckAt 30 = .ok (.goto 4, 3) := by decide +kernel
theorem dX9_struckAt_33 : decode cX9_struckAt 33 = .ok (.iconst 0, 1) := by decide +kernel
theorem dX9_struckAt_34 : decode cX9_struckAt 34 = .ok (.iadd, 1) := by decide +kernel
theorem dX9_struckAt_35 : decode cX9_struckAt 35 = .ok (.istore_n 2, 1) := by decide +kernel
theorem dX9_struckAt_36 : decode cX9_struckAt 36 = .ok (.iinc 3 1, 3) := by decide +kernel
theorem dX9_struckAt_39 : decode cX9_struckAt 39 = .ok (.goto (-35), 3) := by decide +kernel
theorem dX9_struckAt_42 : decode cX9_struckAt 42 = .ok (.iload_n 2, 1) := by decide +kernel
theorem dX9_struckAt_43 : decode cX9_struckAt 43 = .ok (.ireturn, 1) := by decide +kernel
theorem dX9_about_0 : decode cX9_about 0 = .ok (.aload_n 0, 1) := by decide +kernel
theorem dX9_about_1 : decode cX9_about 1 = .ok (.iload_n 1, 1) := by decide +kernel
theorem dX9_about_2 : decode cX9_about 2 = .ok (.invokevirtual 172, 3) := by decide +kernel
theorem dX9_about_5 : decode cX9_about 5 = .ok (.ifCond .ne 5, 3) := by decide +kernel
theorem dX9_about_8 : decode cX9_about 8 = .ok (.iconst (-1), 1) := by decide +kernel
theorem dX9_about_9 : decode cX9_about 9 = .ok (.ireturn, 1) := by decide +kernel
theorem dX9_about_10 : decode cX9_about 10 = .ok (.iload_n 2, 1) := by decide +kernel
theorem dX9_about_11 : decode cX9_about 11 = .ok (.tableswitch 86 0 5 #[37, 44, 59, 66, 72, 79], 37) := by decide +kernel
theorem dX9_about_48 : decode cX9_about 48 = .ok (.aload_n 0, 1) := by decide +kernel
theorem dX9_about_49 : decode cX9_about 49 = .ok (.getfield 25, 3) := by decide +kernel
theorem dX9_about_52 : decode cX9_about 52 = .ok (.iload_n 1, 1) := by decide +kernel
theorem dX9_about_53 : decode cX9_about 53 = .ok (.iaload, 1) := by decide +kernel
theorem dX9_about_54 : decode cX9_about 54 = .ok (.ireturn, 1) := by decide +kernel
theorem dX9_about_55 : decode cX9_about 55 = .ok (.aload_n 0, 1) := by decide +kernel
theorem dX9_about_56 : decode cX9_about 56 = .ok (.getfield 46, 3) := by decide +kernel
theorem dX9_about_59 : decode cX9_about 59 = .ok (.iload_n 1, 1) := by decide +kernel
theorem dX9_about_60 : decode cX9_about 60 = .ok (.baload, 1) := by decide +kernel
theorem dX9_about_61 : decode cX9_about 61 = .ok (.ifCond .eq 7, 3) := by decide +kernel
theorem dX9_about_64 : decode cX9_about 64 = .ok (.iconst 1, 1) := by decide +kernel
theorem dX9_about_65 : decode cX9_about 65 = .ok (.goto 4, 3) := by decide +kernel
theorem dX9_about_68 : decode cX9_about 68 = .ok (.iconst 0, 1) := by decide +kernel
theorem dX9_about_69 : decode cX9_about 69 = .ok (.ireturn, 1) := by decide +kernel
theorem dX9_about_70 : decode cX9_about 70 = .ok (.aload_n 0, 1) := by decide +kernel
theorem dX9_about_71 : decode cX9_about 71 = .ok (.getfield 28, 3) := by decide +kernel
theorem dX9_about_74 : decode cX9_about 74 = .ok (.iload_n 1, 1) := by decide +kernel
theorem dX9_about_75 : decode cX9_about 75 = .ok (.iaload, 1) := by decide +kernel
theorem dX9_about_76 : decode cX9_about 76 = .ok (.ireturn, 1) := by decide +kernel
theorem dX9_about_77 : decode cX9_about 77 = .ok (.aload_n 0, 1) := by decide +kernel
theorem dX9_about_78 : decode cX9_about 78 = .ok (.iload_n 1, 1) := by decide +kernel
theorem dX9_about_79 : decode cX9_about 79 = .ok (.invokevirtual 214, 3) := by decide +kernel
theorem dX9_about_82 : decode cX9_about 82 = .ok (.ireturn, 1) := by decide +kernel
theorem dX9_about_83 : decode cX9_about 83 = .ok (.aload_n 0, 1) := by decide +kernel
theorem dX9_about_84 : decode cX9_about 84 = .ok (.getfield 34, 3) := by decide +kernel
theorem dX9_about_87 : decode cX9_about 87 = .ok (.iload_n 1, 1) := by decide +kernel
theorem dX9_about_88 : decode cX9_about 88 = .ok (.iaload, 1) := by decide +kernel
theorem dX9_about_89 : decode cX9_about 89 = .ok (.ireturn, 1) := by decide +kernel
theorem dX9_about_90 : decode cX9_about 90 = .ok (.aload_n 0, 1) := by decide +kernel
theorem dX9_about_91 : decode cX9_about 91 = .ok (.getfield 37, 3) := by decide +kernel
theorem dX9_about_94 : decode cX9_about 94 = .ok (.iload_n 1, 1) := by decide +kernel
theorem dX9_about_95 : decode cX9_about 95 = .ok (.iaload, 1) := by decide +kernel
theorem dX9_about_96 : decode cX9_about 96 = .ok (.ireturn, 1) := by decide +kernel
theorem dX9_about_97 : decode cX9_about 97 = .ok (.iconst (-1), 1) := by decide +kernel
theorem dX9_about_98 : decode cX9_about 98 = .ok (.ireturn, 1) := by decide +kernel
theorem dX9_age_0 : decode cX9_age 0 = .ok (.aload_n 0, 1) := by decide +kernel
theorem dX9_age_1 : decode cX9_age 1 = .ok (.iload_n 1, 1) := by decide +kernel
theorem dX9_age_2 : decode cX9_age 2 = .ok (.invokevirtual 172, 3) := by decide +kernel
theorem dX9_age_5 : decode cX9_age 5 = .ok (.ifCond .eq 26, 3) := by decide +kernel
theorem dX9_age_8 : decode cX9_age 8 = .ok (.aload_n 0, 1) := by decide +kernel
theorem dX9_age_9 : decode cX9_age 9 = .ok (.iload_n 1, 1) := by decide +kernel
theorem dX9_age_10 : decode cX9_age 10 = .ok (.iload_n 2, 1) := by decide +kernel
theorem dX9_age_11 : decode cX9_age 11 = .ok (.invokevirtual 207, 3) := by decide +kernel
theorem dX9_age_14 : decode cX9_age 14 = .ok (.ifCond .eq 17, 3) := by decide +kernel
theorem dX9_age_17 : decode cX9_age 17 = .ok (.aload_n 0, 1) := by decide +kernel
theorem dX9_age_18 : decode cX9_age 18 = .ok (.getfield 31, 3) := by decide +kernel
theorem dX9_age_21 : decode cX9_age 21 = .ok (.bipush 12, 2) := by decide +kernel
theorem dX9_age_23 : decode cX9_age 23 = .ok (.iload_n 1, 1) := by decide +kernel
theorem dX9_age_24 : decode cX9_age 24 = .ok (.imul, 1) := by decide +kernel
theorem dX9_age_25 : decode cX9_age 25 = .ok (.iload_n 2, 1) := by decide +kernel
theorem dX9_age_26 : decode cX9_age 26 = .ok (.iadd, 1) := by decide +kernel
theorem dX9_age_27 : decode cX9_age 27 = .ok (.iaload, 1) := by decide +kernel
theorem dX9_age_28 : decode cX9_age 28 = .ok (.goto 4, 3) := by decide +kernel
theorem dX9_age_31 : decode cX9_age 31 = .ok (.iconst (-1), 1) := by decide +kernel
theorem dX9_age_32 : decode cX9_age 32 = .ok (.ireturn, 1) := by decide +kernel
theorem dX9_bandOf_0 : decode cX9_bandOf 0 = .ok (.iload_n 0, 1) := by decide +kernel
theorem dX9_bandOf_1 : decode cX9_bandOf 1 = .ok (.ifCond .ge 7, 3) := by decide +kernel
theorem dX9_bandOf_4 : decode cX9_bandOf 4 = .ok (.iconst 3, 1) := by decide +kernel
theorem dX9_bandOf_5 : decode cX9_bandOf 5 = .ok (.goto 24, 3) := by decide +kernel
theorem dX9_bandOf_8 : decode cX9_bandOf 8 = .ok (.iload_n 0, 1) := by decide +kernel
theorem dX9_bandOf_9 : decode cX9_bandOf 9 = .ok (.bipush 18, 2) := by decide +kernel
theorem dX9_bandOf_11 : decode cX9_bandOf 11 = .ok (.if_icmp .ge 7, 3) := by decide +kernel
theorem dX9_bandOf_14 : decode cX9_bandOf 14 = .ok (.iconst 0, 1) := by decide +kernel
theorem dX9_bandOf_15 : decode cX9_bandOf 15 = .ok (.goto 14, 3) := by decide +kernel
theorem dX9_bandOf_18 : decode cX9_bandOf 18 = .ok (.iload_n 0, 1) := by decide +kernel
theorem dX9_bandOf_19 : decode cX9_bandOf 19 = .ok (.bipush 65, 2) := by decide +kernel
theorem dX9_bandOf_21 : decode cX9_bandOf 21 = .ok (.if_icmp .ge 7, 3) := by decide +kernel
theorem dX9_bandOf_24 : decode cX9_bandOf 24 = .ok (.iconst 1, 1) := by decide +kernel
theorem dX9_bandOf_25 : decode cX9_bandOf 25 = .ok (.goto 4, 3) := by decide +kernel
theorem dX9_bandOf_28 : decode cX9_bandOf 28 = .ok (.iconst 2, 1) := by decide +kernel
theorem dX9_bandOf_29 : decode cX9_bandOf 29 = .ok (.ireturn, 1) := by decide +kernel
theorem dX9_counted_0 : decode cX9_counted 0 = .ok (.iconst 0, 1) := by decide +kernel
theorem dX9_counted_1 : decode cX9_counted 1 = .ok (.istore 4, 2) := by decide +kernel
theorem dX9_counted_3 : decode cX9_counted 3 = .ok (.iconst 0, 1) := by decide +kernel
theorem dX9_counted_4 : decode cX9_counted 4 = .ok (.istore 5, 2) := by decide +kernel
theorem dX9_counted_6 : decode cX9_counted 6 = .ok (.iload 5, 2) := by decide +kernel
theorem dX9_counted_8 : decode cX9_counted 8 = .ok (.aload_n 0, 1) := by decide +kernel
theorem dX9_counted_9 : decode cX9_counted 9 = .ok (.getfield 139, 3) := by decide +kernel
theorem dX9_counted_12 : decode cX9_counted 12 = .ok (.if_icmp .ge 105, 3) := by decide +kernel
theorem dX9_counted_15 : decode cX9_counted 15 = .ok (.aload_n 0, 1) := by decide +kernel
theorem dX9_counted_16 : decode cX9_counted 16 = .ok (.getfield 7, 3) := by decide +kernel
theorem dX9_counted_19 : decode cX9_counted 19 = .ok (.iload 5, 2) := by decide +kernel
theorem dX9_counted_21 : decode cX9_counted 21 = .ok (.iaload, 1) := by decide +kernel
theorem dX9_counted_22 : decode cX9_counted 22 = .ok (.iload_n 1, 1) := by decide +kernel
theorem dX9_counted_23 : decode cX9_counted 23 = .ok (.if_icmp .ne 88, 3) := by decide +kernel
theorem dX9_counted_26 : decode cX9_counted 26 = .ok (.iload_n 3, 1) := by decide +kernel
theorem dX9_counted_27 : decode cX9_counted 27 = .ok (.ifCond .ne 17, 3) := by decide +kernel
theorem dX9_counted_30 : decode cX9_counted 30 = .ok (.aload_n 0, 1) := by decide +kernel
theorem dX9_counted_31 : decode cX9_counted 31 = .ok (.getfield 25, 3) := by decide +kernel
theorem dX9_counted_34 : decode cX9_counted 34 = .ok (.iload 5, 2) := by decide +kernel
theorem dX9_counted_36 : decode cX9_counted 36 = .ok (.iaload, 1) := by decide +kernel
theorem dX9_counted_37 : decode cX9_counted 37 = .ok (.iconst 4, 1) := by decide +kernel
theorem dX9_counted_38 : decode cX9_counted 38 = .ok (.if_icmp .ne 6, 3) := by decide +kernel
theorem dX9_counted_41 : decode cX9_counted 41 = .ok (.goto 70, 3) := by decide +kernel
theorem dX9_counted_44 : decode cX9_counted 44 = .ok (.iconst 0, 1) := by decide +kernel
theorem dX9_counted_45 : decode cX9_counted 45 = .ok (.istore 6, 2) := by decide +kernel
theorem dX9_counted_47 : decode cX9_counted 47 = .ok (.iload 6, 2) := by decide +kernel
theorem dX9_counted_49 : decode cX9_counted 49 = .ok (.aload_n 0, 1) := by decide +kernel
theorem dX9_counted_50 : decode cX9_counted 50 = .ok (.getfield 28, 3) := by decide +kernel
theorem dX9_counted_53 : decode cX9_counted 53 = .ok (.iload 5, 2) := by decide +kernel
theorem dX9_counted_55 : decode cX9_counted 55 = .ok (.iaload, 1) := by decide +kernel
theorem dX9_counted_56 : decode cX9_counted 56 = .ok (.if_icmp .ge 55, 3) := by decide +kernel
theorem dX9_counted_59 : decode cX9_counted 59 = .ok (.iload 4, 2) := by decide +kernel
theorem dX9_counted_61 : decode cX9_counted 61 = .ok (.aload_n 0, 1) := by decide +kernel
theorem dX9_counted_62 : decode cX9_counted 62 = .ok (.getfield 50, 3) := by decide +kernel
theorem dX9_counted_65 : decode cX9_counted 65 = .ok (.bipush 12, 2) := by decide +kernel
theorem dX9_counted_67 : decode cX9_counted 67 = .ok (.iload 5, 2) := by decide +kernel
theorem dX9_counted_69 : decode cX9_counted 69 = .ok (.imul, 1) := by decide +kernel
theorem dX9_counted_70 : decode cX9_counted 70 = .ok (.iload 6, 2) := by decide +kernel
theorem dX9_counted_72 : decode cX9_counted 72 = .ok (.iadd, 1) := by decide +kernel
theorem dX9_counted_73 : decode cX9_counted 73 = .ok (.baload, 1) := by decide +kernel
theorem dX9_counted_74 : decode cX9_counted 74 = .ok (.ifCond .ne 27, 3) := by decide +kernel
theorem dX9_counted_77 : decode cX9_counted 77 = .ok (.aload_n 0, 1) := by decide +kernel
theorem dX9_counted_78 : decode cX9_counted 78 = .ok (.getfield 31, 3) := by decide +kernel
theorem dX9_counted_81 : decode cX9_counted 81 = .ok (.bipush 12, 2) := by decide +kernel
theorem dX9_counted_83 : decode cX9_counted 83 = .ok (.iload 5, 2) := by decide +kernel
theorem dX9_counted_85 : decode cX9_counted 85 = .ok (.imul, 1) := by decide +kernel
theorem dX9_counted_86 : decode cX9_counted 86 = .ok (.iload 6, 2) := by decide +kernel
theorem dX9_counted_88 : decode cX9_counted 88 = .ok (.iadd, 1) := by decide +kernel
theorem dX9_counted_89 : decode cX9_counted 89 = .ok (.iaload, 1) := by decide +kernel
theorem dX9_counted_90 : decode cX9_counted 90 = .ok (.invokestatic 217, 3) := by decide +kernel
theorem dX9_counted_93 : decode cX9_counted 93 = .ok (.iload_n 2, 1) := by decide +kernel
theorem dX9_counted_94 : decode cX9_counted 94 = .ok (.if_icmp .ne 7, 3) := by decide +kernel
theorem dX9_counted_97 : decode cX9_counted 97 = .ok (.iconst 1, 1) := by decide +kernel
theorem dX9_counted_98 : decode cX9_counted 98 = .ok (.goto 4, 3) := by decide +kernel
theorem dX9_counted_101 : decode cX9_counted 101 = .ok (.iconst 0, 1) := by decide +kernel
theorem dX9_counted_102 : decode cX9_counted 102 = .ok (.iadd, 1) := by decide +kernel
theorem dX9_counted_103 : decode cX9_counted 103 = .ok (.istore 4, 2) := by decide +kernel
theorem dX9_counted_105 : decode cX9_counted 105 = .ok (.iinc 6 1, 3) := by decide +kernel
theorem dX9_counted_108 : decode cX9_counted 108 = .ok (.goto (-61), 3) := by decide +kernel
theorem dX9_counted_111 : decode cX9_counted 111 = .ok (.iinc 5 1, 3) := by decide +kernel
theorem dX9_counted_114 : decode cX9_counted 114 = .ok (.goto (-108), 3) := by decide +kernel
theorem dX9_counted_117 : decode cX9_counted 117 = .ok (.iload 4, 2) := by decide +kernel
theorem dX9_counted_119 : decode cX9_counted 119 = .ok (.ireturn, 1) := by decide +kernel
theorem dX9_count_0 : decode cX9_count 0 = .ok (.iload_n 1, 1) := by decide +kernel
theorem dX9_count_1 : decode cX9_count 1 = .ok (.invokestatic 142, 3) := by decide +kernel
theorem dX9_count_4 : decode cX9_count 4 = .ok (.ifCond .eq 25, 3) := by decide +kernel
theorem dX9_count_7 : decode cX9_count 7 = .ok (.iload_n 2, 1) := by decide +kernel
theorem dX9_count_8 : decode cX9_count 8 = .ok (.i2l, 1) := by decide +kernel
theorem dX9_count_9 : decode cX9_count 9 = .ok (.lconst 0, 1) := by decide +kernel
theorem dX9_count_10 : decode cX9_count 10 = .ok (.ldc2_w 150, 3) := by decide +kernel
theorem dX9_count_13 : decode cX9_count 13 = .ok (.invokestatic 152, 3) := by decide +kernel
theorem dX9_count_16 : decode cX9_count 16 = .ok (.ifCond .eq 13, 3) := by decide +kernel
theorem dX9_count_19 : decode cX9_count 19 = .ok (.aload_n 0, 1) := by decide +kernel
theorem dX9_count_20 : decode cX9_count 20 = .ok (.iload_n 1, 1) := by decide +kernel
theorem dX9_count_21 : decode cX9_count 21 = .ok (.iload_n 2, 1) := by decide +kernel
theorem dX9_count_22 : decode cX9_count 22 = .ok (.iload_n 3, 1) := by decide +kernel
theorem dX9_count_23 : decode cX9_count 23 = .ok (.invokevirtual 220, 3) := by decide +kernel
theorem dX9_count_26 : decode cX9_count 26 = .ok (.goto 4, 3) := by decide +kernel
theorem dX9_count_29 : decode cX9_count 29 = .ok (.iconst (-1), 1) := by decide +kernel
theorem dX9_count_30 : decode cX9_count 30 = .ok (.ireturn, 1) := by decide +kernel
theorem dX9_bestHour_0 : decode cX9_bestHour 0 = .ok (.iload_n 1, 1) := by decide +kernel
theorem dX9_bestHour_1 : decode cX9_bestHour 1 = .ok (.i2l, 1) := by decide +kernel
theorem dX9_bestHour_2 : decode cX9_bestHour 2 = .ok (.lconst 0, 1) := by decide +kernel
theorem dX9_bestHour_3 : decode cX9_bestHour 3 = .ok (.ldc2_w 150, 3) := by decide +kernel
theorem dX9_bestHour_6 : decode cX9_bestHour 6 = .ok (.invokestatic 152, 3) := by decide +kernel
theorem dX9_bestHour_9 : decode cX9_bestHour 9 = .ok (.ifCond .ne 5, 3) := by decide +kernel
theorem dX9_bestHour_12 : decode cX9_bestHour 12 = .ok (.iconst (-1), 1) := by decide +kernel
theorem dX9_bestHour_13 : decode cX9_bestHour 13 = .ok (.ireturn, 1) := by decide +kernel
theorem dX9_bestHour_14 : decode cX9_bestHour 14 = .ok (.iconst 0, 1) := by decide +kernel
theorem dX9_bestHour_15 : decode cX9_bestHour 15 = .ok (.istore_n 2, 1) := by decide +kernel
theorem dX9_bestHour_16 : decode cX9_bestHour 16 = .ok (.iconst 1, 1) := by decide +kernel
theorem dX9_bestHour_17 : decode cX9_bestHour 17 = .ok (.istore_n 3, 1) := by decide +kernel
theorem dX9_bestHour_18 : decode cX9_bestHour 18 = .ok (.iload_n 3, 1) := by decide +kernel
theorem dX9_bestHour_19 : decode cX9_bestHour 19 = .ok (.bipush 10, 2) := by decide +kernel
theorem dX9_bestHour_21 : decode cX9_bestHour 21 = .ok (.if_icmp .ge 76, 3) := by decide +kernel
theorem dX9_bestHour_24 : decode cX9_bestHour 24 = .ok (.aload_n 0, 1) := by decide +kernel
theorem dX9_bestHour_25 : decode cX9_bestHour 25 = .ok (.getfield 78, 3) := by decide +kernel
theorem dX9_bestHour_28 : decode cX9_bestHour 28 = .ok (.bipush 10, 2) := by decide +kernel
theorem dX9_bestHour_30 : decode cX9_bestHour 30 = .ok (.iload_n 1, 1) := by decide +kernel
theorem dX9_bestHour_31 : decode cX9_bestHour 31 = .ok (.imul, 1) := by decide +kernel
theorem dX9_bestHour_32 : decode cX9_bestHour 32 = .ok (.iload_n 3, 1) := by decide +kernel
theorem dX9_bestHour_33 : decode cX9_bestHour 33 = .ok (.iadd, 1) := by decide +kernel
theorem dX9_bestHour_34 : decode cX9_bestHour 34 = .ok (.iaload, 1) := by decide +kernel
theorem dX9_bestHour_35 : decode cX9_bestHour 35 = .ok (.iconst 1, 1) := by decide +kernel
theorem dX9_bestHour_36 : decode cX9_bestHour 36 = .ok (.iadd, 1) := by decide +kernel
theorem dX9_bestHour_37 : decode cX9_bestHour 37 = .ok (.aload_n 0, 1) := by decide +kernel
theorem dX9_bestHour_38 : decode cX9_bestHour 38 = .ok (.getfield 75, 3) := by decide +kernel
theorem dX9_bestHour_41 : decode cX9_bestHour 41 = .ok (.bipush 10, 2) := by decide +kernel
theorem dX9_bestHour_43 : decode cX9_bestHour 43 = .ok (.iload_n 1, 1) := by decide +kernel
theorem dX9_bestHour_44 : decode cX9_bestHour 44 = .ok (.imul, 1) := by decide +kernel
theorem dX9_bestHour_45 : decode cX9_bestHour 45 = .ok (.iload_n 2, 1) := by decide +kernel
theorem dX9_bestHour_46 : decode cX9_bestHour 46 = .ok (.iadd, 1) := by decide +kernel
theorem dX9_bestHour_47 : decode cX9_bestHour 47 = .ok (.iaload, 1) := by decide +kernel
theorem dX9_bestHour_48 : decode cX9_bestHour 48 = .ok (.iconst 2, 1) := by decide +kernel
theorem dX9_bestHour_49 : decode cX9_bestHour 49 = .ok (.iadd, 1) := by decide +kernel
theorem dX9_bestHour_50 : decode cX9_bestHour 50 = .ok (.imul, 1) := by decide +kernel
theorem dX9_bestHour_51 : decode cX9_bestHour 51 = .ok (.istore 4, 2) := by decide +kernel
theorem dX9_bestHour_53 : decode cX9_bestHour 53 = .ok (.aload_n 0, 1) := by decide +kernel
theorem dX9_bestHour_54 : decode cX9_bestHour 54 = .ok (.getfield 78, 3) := by decide +kernel
theorem dX9_bestHour_57 : decode cX9_bestHour 57 = .ok (.bipush 10, 2) := by decide +kernel
theorem dX9_bestHour_59 : decode cX9_bestHour 59 = .ok (.iload_n 1, 1) := by decide +kernel
theorem dX9_bestHour_60 : decode cX9_bestHour 60 = .ok (.imul, 1) := by decide +kernel
theorem dX9_bestHour_61 : decode cX9_bestHour 61 = .ok (.iload_n 2, 1) := by decide +kernel
theorem dX9_bestHour_62 : decode cX9_bestHour 62 = .ok (.iadd, 1) := by decide +kernel
theorem dX9_bestHour_63 : decode cX9_bestHour 63 = .ok (.iaload, 1) := by decide +kernel
theorem dX9_bestHour_64 : decode cX9_bestHour 64 = .ok (.iconst 1, 1) := by decide +kernel
theorem dX9_bestHour_65 : decode cX9_bestHour 65 = .ok (.iadd, 1) := by decide +kernel
theorem dX9_bestHour_66 : decode cX9_bestHour 66 = .ok (.aload_n 0, 1) := by decide +kernel
theorem dX9_bestHour_67 : decode cX9_bestHour 67 = .ok (.getfield 75, 3) := by decide +kernel
theorem dX9_bestHour_70 : decode cX9_bestHour 70 = .ok (.bipush 10, 2) := by decide +kernel
theorem dX9_bestHour_72 : decode cX9_bestHour 72 = .ok (.iload_n 1, 1) := by decide +kernel
theorem dX9_bestHour_73 : decode cX9_bestHour 73 = .ok (.imul, 1) := by decide +kernel
theorem dX9_bestHour_74 : decode cX9_bestHour 74 = .ok (.iload_n 3, 1) := by decide +kernel
theorem dX9_bestHour_75 : decode cX9_bestHour 75 = .ok (.iadd, 1) := by decide +kernel
theorem dX9_bestHour_76 : decode cX9_bestHour 76 = .ok (.iaload, 1) := by decide +kernel
theorem dX9_bestHour_77 : decode cX9_bestHour 77 = .ok (.iconst 2, 1) := by decide +kernel
theorem dX9_bestHour_78 : decode cX9_bestHour 78 = .ok (.iadd, 1) := by decide +kernel
theorem dX9_bestHour_79 : decode cX9_bestHour 79 = .ok (.imul, 1) := by decide +kernel
theorem dX9_bestHour_80 : decode cX9_bestHour 80 = .ok (.istore 5, 2) := by decide +kernel
theorem dX9_bestHour_82 : decode cX9_bestHour 82 = .ok (.iload 4, 2) := by decide +kernel
theorem dX9_bestHour_84 : decode cX9_bestHour 84 = .ok (.iload 5, 2) := by decide +kernel
theorem dX9_bestHour_86 : decode cX9_bestHour 86 = .ok (.if_icmp .le 5, 3) := by decide +kernel
theorem dX9_bestHour_89 : decode cX9_bestHour 89 = .ok (.iload_n 3, 1) := by decide +kernel
theorem dX9_bestHour_90 : decode cX9_bestHour 90 = .ok (.istore_n 2, 1) := by decide +kernel
theorem dX9_bestHour_91 : decode cX9_bestHour 91 = .ok (.iinc 3 1, 3) := by decide +kernel
theorem dX9_bestHour_94 : decode cX9_bestHour 94 = .ok (.goto (-76), 3) := by decide +kernel
theorem dX9_bestHour_97 : decode cX9_bestHour 97 = .ok (.iload_n 2, 1) := by decide +kernel
theorem dX9_bestHour_98 : decode cX9_bestHour 98 = .ok (.ireturn, 1) := by decide +kernel
theorem dX9_hangs_0 : decode cX9_hangs 0 = .ok (.iconst 0, 1) := by decide +kernel
theorem dX9_hangs_1 : decode cX9_hangs 1 = .ok (.istore_n 2, 1) := by decide +kernel
theorem dX9_hangs_2 : decode cX9_hangs 2 = .ok (.iconst 0, 1) := by decide +kernel
theorem dX9_hangs_3 : decode cX9_hangs 3 = .ok (.istore_n 3, 1) := by decide +kernel
theorem dX9_hangs_4 : decode cX9_hangs 4 = .ok (.iconst 0, 1) := by decide +kernel
theorem dX9_hangs_5 : decode cX9_hangs 5 = .ok (.istore 4, 2) := by decide +kernel
theorem dX9_hangs_7 : decode cX9_hangs 7 = .ok (.iload 4, 2) := by decide +kernel
theorem dX9_hangs_9 : decode cX9_hangs 9 = .ok (.aload_n 0, 1) := by decide +kernel
theorem dX9_hangs_10 : decode cX9_hangs 10 = .ok (.getfield 224, 3) := by decide +kernel
theorem dX9_hangs_13 : decode cX9_hangs 13 = .ok (.if_icmp .ge 31, 3) := by decide +kernel
theorem dX9_hangs_16 : decode cX9_hangs 16 = .ok (.iload_n 3, 1) := by decide +kernel
theorem dX9_hangs_17 : decode cX9_hangs 17 = .ok (.aload_n 0, 1) := by decide +kernel
theorem dX9_hangs_18 : decode cX9_hangs 18 = .ok (.getfield 103, 3) := by decide +kernel
theorem dX9_hangs_21 : decode cX9_hangs 21 = .ok (.iload 4, 2) := by decide +kernel
theorem dX9_hangs_23 : decode cX9_hangs 23 = .ok (.iaload, 1) := by decide +kernel
theorem dX9_hangs_24 : decode cX9_hangs 24 = .ok (.iload_n 1, 1) := by decide +kernel
theorem dX9_hangs_25 : decode cX9_hangs 25 = .ok (.if_icmp .ne 10, 3) := by decide +kernel
theorem dX9_hangs_28 : decode cX9_hangs 28 = .ok (.iconst 1, 1) := by decide +kernel
theorem dX9_hangs_29 : decode cX9_hangs 29 = .ok (.iload 4, 2) := by decide +kernel
theorem dX9_hangs_31 : decode cX9_hangs 31 = .ok (.ishl, 1) := by decide +kernel
theorem dX9_hangs_32 : decode cX9_hangs 32 = .ok (.goto 4, 3) := by decide +kernel
theorem dX9_hangs_35 : decode cX9_hangs 35 = .ok (.iconst 0, 1) := by decide +kernel
theorem dX9_hangs_36 : decode cX9_hangs 36 = .ok (.ior, 1) := by decide +kernel
theorem dX9_hangs_37 : decode cX9_hangs 37 = .ok (.istore_n 3, 1) := by decide +kernel
theorem dX9_hangs_38 : decode cX9_hangs 38 = .ok (.iinc 4 1, 3) := by decide +kernel
theorem dX9_hangs_41 : decode cX9_hangs 41 = .ok (.goto (-34), 3) := by decide +kernel
theorem dX9_hangs_44 : decode cX9_hangs 44 = .ok (.iload_n 3, 1) := by decide +kernel
theorem dX9_hangs_45 : decode cX9_hangs 45 = .ok (.iload_n 3, 1) := by decide +kernel
theorem dX9_hangs_46 : decode cX9_hangs 46 = .ok (.ineg, 1) := by decide +kernel
theorem dX9_hangs_47 : decode cX9_hangs 47 = .ok (.iand, 1) := by decide +kernel
theorem dX9_hangs_48 : decode cX9_hangs 48 = .ok (.istore_n 2, 1) := by decide +kernel
theorem dX9_hangs_49 : decode cX9_hangs 49 = .ok (.iconst 1, 1) := by decide +kernel
theorem dX9_hangs_50 : decode cX9_hangs 50 = .ok (.istore 4, 2) := by decide +kernel
theorem dX9_hangs_52 : decode cX9_hangs 52 = .ok (.iload 4, 2) := by decide +kernel
theorem dX9_hangs_54 : decode cX9_hangs 54 = .ok (.ifCond .eq 111, 3) := by decide +kernel
theorem dX9_hangs_57 : decode cX9_hangs 57 = .ok (.iload_n 2, 1) := by decide +kernel
theorem dX9_hangs_58 : decode cX9_hangs 58 = .ok (.istore 5, 2) := by decide +kernel
theorem dX9_hangs_60 : decode cX9_hangs 60 = .ok (.iconst 0, 1) := by decide +kernel
theorem dX9_hangs_61 : decode cX9_hangs 61 = .ok (.istore 6, 2) := by decide +kernel
theorem dX9_hangs_63 : decode cX9_hangs 63 = .ok (.iload 6, 2) := by decide +kernel
theorem dX9_hangs_65 : decode cX9_hangs 65 = .ok (.aload_n 0, 1) := by decide +kernel
theorem dX9_hangs_66 : decode cX9_hangs 66 = .ok (.getfield 224, 3) := by decide +kernel
theorem dX9_hangs_69 : decode cX9_hangs 69 = .ok (.if_icmp .ge 80, 3) := by decide +kernel
theorem dX9_hangs_72 : decode cX9_hangs 72 = .ok (.iconst 0, 1) := by decide +kernel
theorem dX9_hangs_73 : decode cX9_hangs 73 = .ok (.istore 7, 2) := by decide +kernel
theorem dX9_hangs_75 : decode cX9_hangs 75 = .ok (.iload 7, 2) := by decide +kernel
theorem dX9_hangs_77 : decode cX9_hangs 77 = .ok (.aload_n 0, 1) := by decide +kernel
theorem dX9_hangs_78 : decode cX9_hangs 78 = .ok (.getfield 224, 3) := by decide +kernel
theorem dX9_hangs_81 : decode cX9_hangs 81 = .ok (.if_icmp .ge 62, 3) := by decide +kernel
theorem dX9_hangs_84 : decode cX9_hangs 84 = .ok (.iload_n 2, 1) := by decide +kernel
theorem dX9_hangs_85 : decode cX9_hangs 85 = .ok (.iload 6, 2) := by decide +kernel
theorem dX9_hangs_87 : decode cX9_hangs 87 = .ok (.ishr, 1) := by decide +kernel
theorem dX9_hangs_88 : decode cX9_hangs 88 = .ok (.iconst 1, 1) := by decide +kernel
theorem dX9_hangs_89 : decode cX9_hangs 89 = .ok (.iand, 1) := by decide +kernel
theorem dX9_hangs_90 : decode cX9_hangs 90 = .ok (.iconst 1, 1) := by decide +kernel
theorem dX9_hangs_91 : decode cX9_hangs 91 = .ok (.if_icmp .ne 46, 3) := by decide +kernel
theorem dX9_hangs_94 : decode cX9_hangs 94 = .ok (.iload_n 3, 1) := by decide +kernel
theorem dX9_hangs_95 : decode cX9_hangs 95 = .ok (.iload 7, 2) := by decide +kernel
theorem dX9_hangs_97 : decode cX9_hangs 97 = .ok (.ishr, 1) := by decide +kernel
theorem dX9_hangs_98 : decode cX9_hangs 98 = .ok (.iconst 1, 1) := by decide +kernel
theorem dX9_hangs_99 : decode cX9_hangs 99 = .ok (.iand, 1) := by decide +kernel
theorem dX9_hangs_100 : decode cX9_hangs 100 = .ok (.iconst 1, 1) := by decide +kernel
theorem dX9_hangs_101 : decode cX9_hangs 101 = .ok (.if_icmp .ne 36, 3) := by decide +kernel
theorem dX9_hangs_104 : decode cX9_hangs 104 = .ok (.aload_n 0, 1) := by decide +kernel
theorem dX9_hangs_105 : decode cX9_hangs 105 = .ok (.getfield 53, 3) := by decide +kernel
theorem dX9_hangs_108 : decode cX9_hangs 108 = .ok (.bipush 6, 2) := by decide +kernel
theorem dX9_hangs_110 : decode cX9_hangs 110 = .ok (.aload_n 0, 1) := by decide +kernel
theorem dX9_hangs_111 : decode cX9_hangs 111 = .ok (.getfield 100, 3) := by decide +kernel
theorem dX9_hangs_114 : decode cX9_hangs 114 = .ok (.iload 6, 2) := by decide +kernel
theorem dX9_hangs_116 : decode cX9_hangs 116 = .ok (.iaload, 1) := by decide +kernel
theorem dX9_hangs_117 : decode cX9_hangs 117 = .ok (.imul, 1) := by decide +kernel
theorem dX9_hangs_118 : decode cX9_hangs 118 = .ok (.aload_n 0, 1) := by decide +kernel
theorem dX9_hangs_119 : decode cX9_hangs 119 = .ok (.getfield 100, 3) := by decide +kernel
theorem dX9_hangs_122 : decode cX9_hangs 122 = .ok (.iload 7, 2) := by decide +kernel
theorem dX9_hangs_124 : decode cX9_hangs 124 = .ok (.iaload, 1) := by decide +kernel
theorem dX9_hangs_125 : decode cX9_hangs 125 = .ok (.iadd, 1) := by decide +kernel
theorem dX9_hangs_126 : decode cX9_hangs 126 = .ok (.baload, 1) := by decide +kernel
theorem dX9_hangs_127 : decode cX9_hangs 127 = .ok (.ifCond .eq 10, 3) := by decide +kernel
theorem dX9_hangs_130 : decode cX9_hangs 130 = .ok (.iload_n 2, 1) := by decide +kernel
theorem dX9_hangs_131 : decode cX9_hangs 131 = .ok (.iconst 1, 1) := by decide +kernel
theorem dX9_hangs_132 : decode cX9_hangs 132 = .ok (.iload 7, 2) := by decide +kernel
theorem dX9_hangs_134 : decode cX9_hangs 134 = .ok (.ishl, 1) := by decide +kernel
theorem dX9_hangs_135 : decode cX9_hangs 135 = .ok (.ior, 1) := by decide +kernel
theorem dX9_hangs_136 : decode cX9_hangs 136 = .ok (.istore_n 2, 1) := by decide +kernel
theorem dX9_hangs_137 : decode cX9_hangs 137 = .ok (.iinc 7 1, 3) := by decide +kernel
theorem dX9_hangs_140 : decode cX9_hangs 140 = .ok (.goto (-65), 3) := by decide +kernel
theorem dX9_hangs_143 : decode cX9_hangs 143 = .ok (.iinc 6 1, 3) := by decide +kernel
theorem dX9_hangs_146 : decode cX9_hangs 146 = .ok (.goto (-83), 3) := by decide +kernel
theorem dX9_hangs_149 : decode cX9_hangs 149 = .ok (.iload_n 2, 1) := by decide +kernel
theorem dX9_hangs_150 : decode cX9_hangs 150 = .ok (.iload 5, 2) := by decide +kernel
theorem dX9_hangs_152 : decode cX9_hangs 152 = .ok (.if_icmp .eq 7, 3) := by decide +kernel
theorem dX9_hangs_155 : decode cX9_hangs 155 = .ok (.iconst 1, 1) := by decide +kernel
theorem dX9_hangs_156 : decode cX9_hangs 156 = .ok (.goto 4, 3) := by decide +kernel
theorem dX9_hangs_159 : decode cX9_hangs 159 = .ok (.iconst 0, 1) := by decide +kernel
theorem dX9_hangs_160 : decode cX9_hangs 160 = .ok (.istore 4, 2) := by decide +kernel
theorem dX9_hangs_162 : decode cX9_hangs 162 = .ok (.goto (-110), 3) := by decide +kernel
theorem dX9_hangs_165 : decode cX9_hangs 165 = .ok (.iload_n 2, 1) := by decide +kernel
theorem dX9_hangs_166 : decode cX9_hangs 166 = .ok (.iload_n 3, 1) := by decide +kernel
theorem dX9_hangs_167 : decode cX9_hangs 167 = .ok (.if_icmp .ne 7, 3) := by decide +kernel
theorem dX9_hangs_170 : decode cX9_hangs 170 = .ok (.iconst 1, 1) := by decide +kernel
theorem dX9_hangs_171 : decode cX9_hangs 171 = .ok (.goto 4, 3) := by decide +kernel
theorem dX9_hangs_174 : decode cX9_hangs 174 = .ok (.iconst 0, 1) := by decide +kernel
theorem dX9_hangs_175 : decode cX9_hangs 175 = .ok (.ireturn, 1) := by decide +kernel
theorem dX9_greatestWork_0 : decode cX9_greatestWork 0 = .ok (.iconst 0, 1) := by decide +kernel
theorem dX9_greatestWork_1 : decode cX9_greatestWork 1 = .ok (.istore_n 3, 1) := by decide +kernel
theorem dX9_greatestWork_2 : decode cX9_greatestWork 2 = .ok (.iconst 0, 1) := by decide +kernel
theorem dX9_greatestWork_3 : decode cX9_greatestWork 3 = .ok (.istore 4, 2) := by decide +kernel
theorem dX9_greatestWork_5 : decode cX9_greatestWork 5 = .ok (.iload 4, 2) := by decide +kernel
theorem dX9_greatestWork_7 : decode cX9_greatestWork 7 = .ok (.iload_n 2, 1) := by decide +kernel
theorem dX9_greatestWork_8 : decode cX9_greatestWork 8 = .ok (.if_icmp .ge 93, 3) := by decide +kernel
theorem dX9_greatestWork_11 : decode cX9_greatestWork 11 = .ok (.iconst 0, 1) := by decide +kernel
theorem dX9_greatestWork_12 : decode cX9_greatestWork 12 = .ok (.istore 5, 2) := by decide +kernel
theorem dX9_greatestWork_14 : decode cX9_greatestWork 14 = .ok (.iconst 0, 1) := by decide +kernel
theorem dX9_greatestWork_15 : decode cX9_greatestWork 15 = .ok (.istore 6, 2) := by decide +kernel
theorem dX9_greatestWork_17 : decode cX9_greatestWork 17 = .ok (.iload 6, 2) := by decide +kernel
theorem dX9_greatestWork_19 : decode cX9_greatestWork 19 = .ok (.aload_n 0, 1) := by decide +kernel
theorem dX9_greatestWork_20 : decode cX9_greatestWork 20 = .ok (.getfield 224, 3) := by decide +kernel
theorem dX9_greatestWork_23 : decode cX9_greatestWork 23 = .ok (.if_icmp .ge 42, 3) := by decide +kernel
theorem dX9_greatestWork_26 : decode cX9_greatestWork 26 = .ok (.iload 5, 2) := by decide +kernel
theorem dX9_greatestWork_28 : decode cX9_greatestWork 28 = .ok (.aload_n 0, 1) := by decide +kernel
theorem dX9_greatestWork_29 : decode cX9_greatestWork 29 = .ok (.getfield 103, 3) := by decide +kernel
theorem dX9_greatestWork_32 : decode cX9_greatestWork 32 = .ok (.iload 6, 2) := by decide +kernel
theorem dX9_greatestWork_34 : decode cX9_greatestWork 34 = .ok (.iaload, 1) := by decide +kernel
theorem dX9_greatestWork_35 : decode cX9_greatestWork 35 = .ok (.iload 4, 2) := by decide +kernel
theorem dX9_greatestWork_37 : decode cX9_greatestWork 37 = .ok (.if_icmp .ne 18, 3) := by decide +kernel
theorem dX9_greatestWork_40 : decode cX9_greatestWork 40 = .ok (.aload_n 0, 1) := by decide +kernel
theorem dX9_greatestWork_41 : decode cX9_greatestWork 41 = .ok (.getfield 112, 3) := by decide +kernel
theorem dX9_greatestWork_44 : decode cX9_greatestWork 44 = .ok (.aload_n 0, 1) := by decide +kernel
theorem dX9_greatestWork_45 : decode cX9_greatestWork 45 = .ok (.getfield 100, 3) := by decide +kernel
theorem dX9_greatestWork_48 : decode cX9_greatestWork 48 = .ok (.iload 6, 2) := by decide +kernel
theorem dX9_greatestWork_50 : decode cX9_greatestWork 50 = .ok (.iaload, 1) := by decide +kernel
theorem dX9_greatestWork_51 : decode cX9_greatestWork 51 = .ok (.iaload, 1) := by decide +kernel
theorem dX9_greatestWork_52 : decode cX9_greatestWork 52 = .ok (.goto 4, 3) := by decide +kernel
theorem dX9_greatestWork_55 : decode cX9_greatestWork 55 = .ok (.iconst 0, 1) := by decide +kernel
theorem dX9_greatestWork_56 : decode cX9_greatestWork 56 = .ok (.iadd, 1) := by decide +kernel
theorem dX9_greatestWork_57 : decode cX9_greatestWork 57 = .ok (.istore 5, 2) := by decide +kernel
theorem dX9_greatestWork_59 : decode cX9_greatestWork 59 = .ok (.iinc 6 1, 3) := by decide +kernel
theorem dX9_greatestWork_62 : decode cX9_greatestWork 62 = .ok (.goto (-45), 3) := by decide +kernel
theorem dX9_greatestWork_65 : decode cX9_greatestWork 65 = .ok (.iload 5, 2) := by decide +kernel
theorem dX9_greatestWork_67 : decode cX9_greatestWork 67 = .ok (.iload_n 1, 1) := by decide +kernel
theorem dX9_greatestWork_68 : decode cX9_greatestWork 68 = .ok (.if_icmp .gt 12, 3) := by decide +kernel
theorem dX9_greatestWork_71 : decode cX9_greatestWork 71 = .ok (.aload_n 0, 1) := by decide +kernel
theorem dX9_greatestWork_72 : decode cX9_greatestWork 72 = .ok (.iload 4, 2) := by decide +kernel
theorem dX9_greatestWork_74 : decode cX9_greatestWork 74 = .ok (.invokevirtual 227, 3) := by decide +kernel
theorem dX9_greatestWork_77 : decode cX9_greatestWork 77 = .ok (.ifCond .ne 5, 3) := by decide +kernel
theorem dX9_greatestWork_80 : decode cX9_greatestWork 80 = .ok (.iconst (-1), 1) := by decide +kernel
theorem dX9_greatestWork_81 : decode cX9_greatestWork 81 = .ok (.ireturn, 1) := by decide +kernel
theorem dX9_greatestWork_82 : decode cX9_greatestWork 82 = .ok (.iload 5, 2) := by decide +kernel
theorem dX9_greatestWork_84 : decode cX9_greatestWork 84 = .ok (.iload_n 3, 1) := by decide +kernel
theorem dX9_greatestWork_85 : decode cX9_greatestWork 85 = .ok (.if_icmp .le 8, 3) := by decide +kernel
theorem dX9_greatestWork_88 : decode cX9_greatestWork 88 = .ok (.iload 5, 2) := by decide +kernel
theorem dX9_greatestWork_90 : decode cX9_greatestWork 90 = .ok (.goto 4, 3) := by decide +kernel
theorem dX9_greatestWork_93 : decode cX9_greatestWork 93 = .ok (.iload_n 3, 1) := by decide +kernel
theorem dX9_greatestWork_94 : decode cX9_greatestWork 94 = .ok (.istore_n 3, 1) := by decide +kernel
theorem dX9_greatestWork_95 : decode cX9_greatestWork 95 = .ok (.iinc 4 1, 3) := by decide +kernel
theorem dX9_greatestWork_98 : decode cX9_greatestWork 98 = .ok (.goto (-93), 3) := by decide +kernel
theorem dX9_greatestWork_101 : decode cX9_greatestWork 101 = .ok (.iload_n 3, 1) := by decide +kernel
theorem dX9_greatestWork_102 : decode cX9_greatestWork 102 = .ok (.ireturn, 1) := by decide +kernel
theorem dX9_walksUpTo_0 : decode cX9_walksUpTo 0 = .ok (.iconst 0, 1) := by decide +kernel
theorem dX9_walksUpTo_1 : decode cX9_walksUpTo 1 = .ok (.istore_n 2, 1) := by decide +kernel
theorem dX9_walksUpTo_2 : decode cX9_walksUpTo 2 = .ok (.iconst 0, 1) := by decide +kernel
theorem dX9_walksUpTo_3 : decode cX9_walksUpTo 3 = .ok (.istore_n 3, 1) := by decide +kernel
theorem dX9_walksUpTo_4 : decode cX9_walksUpTo 4 = .ok (.iload_n 3, 1) := by decide +kernel
theorem dX9_walksUpTo_5 : decode cX9_walksUpTo 5 = .ok (.iload_n 1, 1) := by decide +kernel
theorem dX9_walksUpTo_6 : decode cX9_walksUpTo 6 = .ok (.if_icmp .ge 34, 3) := by decide +kernel
theorem dX9_walksUpTo_9 : decode cX9_walksUpTo 9 = .ok (.aload_n 0, 1) := by decide +kernel
theorem dX9_walksUpTo_10 : decode cX9_walksUpTo 10 = .ok (.getfield 103, 3) := by decide +kernel
theorem dX9_walksUpTo_13 : decode cX9_walksUpTo 13 = .ok (.iload_n 3, 1) := by decide +kernel
theorem dX9_walksUpTo_14 : decode cX9_walksUpTo 14 = .ok (.iaload, 1) := by decide +kernel
theorem dX9_walksUpTo_15 : decode cX9_walksUpTo 15 = .ok (.iconst 1, 1) := by decide +kernel
theorem dX9_walksUpTo_16 : decode cX9_walksUpTo 16 = .ok (.iadd, 1) := by decide +kernel
theorem dX9_walksUpTo_17 : decode cX9_walksUpTo 17 = .ok (.iload_n 2, 1) := by decide +kernel
theorem dX9_walksUpTo_18 : decode cX9_walksUpTo 18 = .ok (.if_icmp .le 14, 3) := by decide +kernel
theorem dX9_walksUpTo_21 : decode cX9_walksUpTo 21 = .ok (.aload_n 0, 1) := by decide +kernel
theorem dX9_walksUpTo_22 : decode cX9_walksUpTo 22 = .ok (.getfield 103, 3) := by decide +kernel
theorem dX9_walksUpTo_25 : decode cX9_walksUpTo 25 = .ok (.iload_n 3, 1) := by decide +kernel
theorem dX9_walksUpTo_26 : decode cX9_walksUpTo 26 = .ok (.iaload, 1) := by decide +kernel
theorem dX9_walksUpTo_27 : decode cX9_walksUpTo 27 = .ok (.iconst 1, 1) := by decide +kernel
theorem dX9_walksUpTo_28 : decode cX9_walksUpTo 28 = .ok (.iadd, 1) := by decide +kernel
theorem dX9_walksUpTo_29 : decode cX9_walksUpTo 29 = .ok (.goto 4, 3) := by decide +kernel
theorem dX9_walksUpTo_32 : decode cX9_walksUpTo 32 = .ok (.iload_n 2, 1) := by decide +kernel
theorem dX9_walksUpTo_33 : decode cX9_walksUpTo 33 = .ok (.istore_n 2, 1) := by decide +kernel
theorem dX9_walksUpTo_34 : decode cX9_walksUpTo 34 = .ok (.iinc 3 1, 3) := by decide +kernel
theorem dX9_walksUpTo_37 : decode cX9_walksUpTo 37 = .ok (.goto (-33), 3) := by decide +kernel
theorem dX9_walksUpTo_40 : decode cX9_walksUpTo 40 = .ok (.iload_n 2, 1) := by decide +kernel
theorem dX9_walksUpTo_41 : decode cX9_walksUpTo 41 = .ok (.ireturn, 1) := by decide +kernel
theorem dX9_nextWalks_0 : decode cX9_nextWalks 0 = .ok (.aload_n 0, 1) := by decide +kernel
theorem dX9_nextWalks_1 : decode cX9_nextWalks 1 = .ok (.getfield 224, 3) := by decide +kernel
theorem dX9_nextWalks_4 : decode cX9_nextWalks 4 = .ok (.iconst 1, 1) := by decide +kernel
theorem dX9_nextWalks_5 : decode cX9_nextWalks 5 = .ok (.isub, 1) := by decide +kernel
theorem dX9_nextWalks_6 : decode cX9_nextWalks 6 = .ok (.istore_n 1, 1) := by decide +kernel
theorem dX9_nextWalks_7 : decode cX9_nextWalks 7 = .ok (.iload_n 1, 1) := by decide +kernel
theorem dX9_nextWalks_8 : decode cX9_nextWalks 8 = .ok (.ifCond .le 23, 3) := by decide +kernel
theorem dX9_nextWalks_11 : decode cX9_nextWalks 11 = .ok (.aload_n 0, 1) := by decide +kernel
theorem dX9_nextWalks_12 : decode cX9_nextWalks 12 = .ok (.getfield 103, 3) := by decide +kernel
theorem dX9_nextWalks_15 : decode cX9_nextWalks 15 = .ok (.iload_n 1, 1) := by decide +kernel
theorem dX9_nextWalks_16 : decode cX9_nextWalks 16 = .ok (.iaload, 1) := by decide +kernel
theorem dX9_nextWalks_17 : decode cX9_nextWalks 17 = .ok (.aload_n 0, 1) := by decide +kernel
theorem dX9_nextWalks_18 : decode cX9_nextWalks 18 = .ok (.iload_n 1, 1) := by decide +kernel
theorem dX9_nextWalks_19 : decode cX9_nextWalks 19 = .ok (.invokevirtual 230, 3) := by decide +kernel
theorem dX9_nextWalks_22 : decode cX9_nextWalks 22 = .ok (.if_icmp .ne 9, 3) := by decide +kernel
theorem dX9_nextWalks_25 : decode cX9_nextWalks 25 = .ok (.iinc 1 (-1), 3) := by decide +kernel
theorem dX9_nextWalks_28 : decode cX9_nextWalks 28 = .ok (.goto (-21), 3) := by decide +kernel
theorem dX9_nextWalks_31 : decode cX9_nextWalks 31 = .ok (.iload_n 1, 1) := by decide +kernel
theorem dX9_nextWalks_32 : decode cX9_nextWalks 32 = .ok (.ifCond .gt 5, 3) := by decide +kernel
theorem dX9_nextWalks_35 : decode cX9_nextWalks 35 = .ok (.iconst 0, 1) := by decide +kernel
theorem dX9_nextWalks_36 : decode cX9_nextWalks 36 = .ok (.ireturn, 1) := by decide +kernel
theorem dX9_nextWalks_37 : decode cX9_nextWalks 37 = .ok (.aload_n 0, 1) := by decide +kernel
theorem dX9_nextWalks_38 : decode cX9_nextWalks 38 = .ok (.getfield 103, 3) := by decide +kernel
theorem dX9_nextWalks_41 : decode cX9_nextWalks 41 = .ok (.iload_n 1, 1) := by decide +kernel
theorem dX9_nextWalks_42 : decode cX9_nextWalks 42 = .ok (.dup2, 1) := by decide +kernel
theorem dX9_nextWalks_43 : decode cX9_nextWalks 43 = .ok (.iaload, 1) := by decide +kernel
theorem dX9_nextWalks_44 : decode cX9_nextWalks 44 = .ok (.iconst 1, 1) := by decide +kernel
theorem dX9_nextWalks_45 : decode cX9_nextWalks 45 = .ok (.iadd, 1) := by decide +kernel
theorem dX9_nextWalks_46 : decode cX9_nextWalks 46 = .ok (.iastore, 1) := by decide +kernel
theorem dX9_nextWalks_47 : decode cX9_nextWalks 47 = .ok (.iload_n 1, 1) := by decide +kernel
theorem dX9_nextWalks_48 : decode cX9_nextWalks 48 = .ok (.iconst 1, 1) := by decide +kernel
theorem dX9_nextWalks_49 : decode cX9_nextWalks 49 = .ok (.iadd, 1) := by decide +kernel
theorem dX9_nextWalks_50 : decode cX9_nextWalks 50 = .ok (.istore_n 2, 1) := by decide +kernel
theorem dX9_nextWalks_51 : decode cX9_nextWalks 51 = .ok (.iload_n 2, 1) := by decide +kernel
theorem dX9_nextWalks_52 : decode cX9_nextWalks 52 = .ok (.aload_n 0, 1) := by decide +kernel
theorem dX9_nextWalks_53 : decode cX9_nextWalks 53 = .ok (.getfield 224, 3) := by decide +kernel
theorem dX9_nextWalks_56 : decode cX9_nextWalks 56 = .ok (.if_icmp .ge 16, 3) := by decide +kernel
theorem dX9_nextWalks_59 : decode cX9_nextWalks 59 = .ok (.aload_n 0, 1) := by decide +kernel
theorem dX9_nextWalks_60 : decode cX9_nextWalks 60 = .ok (.getfield 103, 3) := by decide +kernel
theorem dX9_nextWalks_63 : decode cX9_nextWalks 63 = .ok (.iload_n 2, 1) := by decide +kernel
theorem dX9_nextWalks_64 : decode cX9_nextWalks 64 = .ok (.iconst 0, 1) := by decide +kernel
theorem dX9_nextWalks_65 : decode cX9_nextWalks 65 = .ok (.iastore, 1) := by decide +kernel
theorem dX9_nextWalks_66 : decode cX9_nextWalks 66 = .ok (.iinc 2 1, 3) := by decide +kernel
theorem dX9_nextWalks_69 : decode cX9_nextWalks 69 = .ok (.goto (-18), 3) := by decide +kernel
theorem dX9_nextWalks_72 : decode cX9_nextWalks 72 = .ok (.iconst 1, 1) := by decide +kernel
theorem dX9_nextWalks_73 : decode cX9_nextWalks 73 = .ok (.ireturn, 1) := by decide +kernel
theorem dX9_cut_0 : decode cX9_cut 0 = .ok (.iload_n 1, 1) := by decide +kernel
theorem dX9_cut_1 : decode cX9_cut 1 = .ok (.i2l, 1) := by decide +kernel
theorem dX9_cut_2 : decode cX9_cut 2 = .ok (.lconst 0, 1) := by decide +kernel
theorem dX9_cut_3 : decode cX9_cut 3 = .ok (.ldc2_w 233, 3) := by decide +kernel
theorem dX9_cut_6 : decode cX9_cut 6 = .ok (.invokestatic 152, 3) := by decide +kernel
theorem dX9_cut_9 : decode cX9_cut 9 = .ok (.ifCond .ne 10, 3) := by decide +kernel
theorem dX9_cut_12 : decode cX9_cut 12 = .ok (.aload_n 0, 1) := by decide +kernel
theorem dX9_cut_13 : decode cX9_cut 13 = .ok (.bipush (-6), 2) := by decide +kernel
theorem dX9_cut_15 : decode cX9_cut 15 = .ok (.invokevirtual 146, 3) := by decide +kernel
theorem dX9_cut_18 : decode cX9_cut 18 = .ok (.ireturn, 1) := by decide +kernel
theorem dX9_cut_19 : decode cX9_cut 19 = .ok (.aload_n 0, 1) := by decide +kernel
theorem dX9_cut_20 : decode cX9_cut 20 = .ok (.iconst 0, 1) := by decide +kernel
theorem dX9_cut_21 : decode cX9_cut 21 = .ok (.putfield 224, 3) := by decide +kernel
theorem dX9_cut_24 : decode cX9_cut 24 = .ok (.iconst 0, 1) := by decide +kernel
theorem dX9_cut_25 : decode cX9_cut 25 = .ok (.istore_n 2, 1) := by decide +kernel
theorem dX9_cut_26 : decode cX9_cut 26 = .ok (.iload_n 2, 1) := by decide +kernel
theorem dX9_cut_27 : decode cX9_cut 27 = .ok (.bipush 6, 2) := by decide +kernel
theorem dX9_cut_29 : decode cX9_cut 29 = .ok (.if_icmp .ge 129, 3) := by decide +kernel
theorem dX9_cut_32 : decode cX9_cut 32 = .ok (.iconst 0, 1) := by decide +kernel
theorem dX9_cut_33 : decode cX9_cut 33 = .ok (.istore_n 3, 1) := by decide +kernel
theorem dX9_cut_34 : decode cX9_cut 34 = .ok (.aload_n 0, 1) := by decide +kernel
theorem dX9_cut_35 : decode cX9_cut 35 = .ok (.getfield 112, 3) := by decide +kernel
theorem dX9_cut_38 : decode cX9_cut 38 = .ok (.iload_n 2, 1) := by decide +kernel
theorem dX9_cut_39 : decode cX9_cut 39 = .ok (.iconst 0, 1) := by decide +kernel
theorem dX9_cut_40 : decode cX9_cut 40 = .ok (.iastore, 1) := by decide +kernel
theorem dX9_cut_41 : decode cX9_cut 41 = .ok (.iconst 0, 1) := by decide +kernel
theorem dX9_cut_42 : decode cX9_cut 42 = .ok (.istore 4, 2) := by decide +kernel
theorem dX9_cut_44 : decode cX9_cut 44 = .ok (.iload 4, 2) := by decide +kernel
theorem dX9_cut_46 : decode cX9_cut 46 = .ok (.aload_n 0, 1) := by decide +kernel
theorem dX9_cut_47 : decode cX9_cut 47 = .ok (.getfield 139, 3) := by decide +kernel
theorem dX9_cut_50 : decode cX9_cut 50 = .ok (.if_icmp .ge 48, 3) := by decide +kernel
theorem dX9_cut_53 : decode cX9_cut 53 = .ok (.aload_n 0, 1) := by decide +kernel
theorem dX9_cut_54 : decode cX9_cut 54 = .ok (.getfield 7, 3) := by decide +kernel
theorem dX9_cut_57 : decode cX9_cut 57 = .ok (.iload 4, 2) := by decide +kernel
theorem dX9_cut_59 : decode cX9_cut 59 = .ok (.iaload, 1) := by decide +kernel
theorem dX9_cut_60 : decode cX9_cut 60 = .ok (.iload_n 2, 1) := by decide +kernel
theorem dX9_cut_61 : decode cX9_cut 61 = .ok (.if_icmp .eq 6, 3) := by decide +kernel
theorem dX9_cut_64 : decode cX9_cut 64 = .ok (.goto 28, 3) := by decide +kernel
theorem dX9_cut_67 : decode cX9_cut 67 = .ok (.iconst 1, 1) := by decide +kernel
theorem dX9_cut_68 : decode cX9_cut 68 = .ok (.istore_n 3, 1) := by decide +kernel
theorem dX9_cut_69 : decode cX9_cut 69 = .ok (.aload_n 0, 1) := by decide +kernel
theorem dX9_cut_70 : decode cX9_cut 70 = .ok (.getfield 112, 3) := by decide +kernel
theorem dX9_cut_73 : decode cX9_cut 73 = .ok (.iload_n 2, 1) := by decide +kernel
theorem dX9_cut_74 : decode cX9_cut 74 = .ok (.dup2, 1) := by decide +kernel
theorem dX9_cut_75 : decode cX9_cut 75 = .ok (.iaload, 1) := by decide +kernel
theorem dX9_cut_76 : decode cX9_cut 76 = .ok (.aload_n 0, 1) := by decide +kernel
theorem dX9_cut_77 : decode cX9_cut 77 = .ok (.iload 4, 2) := by decide +kernel
theorem dX9_cut_79 : decode cX9_cut 79 = .ok (.invokevirtual 196, 3) := by decide +kernel
theorem dX9_cut_82 : decode cX9_cut 82 = .ok (.ifCond .eq 7, 3) := by decide +kernel
theorem dX9_cut_85 : decode cX9_cut 85 = .ok (.iconst 1, 1) := by decide +kernel
theorem dX9_cut_86 : decode cX9_cut 86 = .ok (.goto 4, 3) := by decide +kernel
theorem dX9_cut_89 : decode cX9_cut 89 = .ok (.iconst 0, 1) := by decide +kernel
theorem dX9_cut_90 : decode cX9_cut 90 = .ok (.iadd, 1) := by decide +kernel
theorem dX9_cut_91 : decode cX9_cut 91 = .ok (.iastore, 1) := by decide +kernel
theorem dX9_cut_92 : decode cX9_cut 92 = .ok (.iinc 4 1, 3) := by decide +kernel
theorem dX9_cut_95 : decode cX9_cut 95 = .ok (.goto (-51), 3) := by decide +kernel
theorem dX9_cut_98 : decode cX9_cut 98 = .ok (.aload_n 0, 1) := by decide +kernel
theorem dX9_cut_99 : decode cX9_cut 99 = .ok (.getfield 112, 3) := by decide +kernel
theorem dX9_cut_102 : decode cX9_cut 102 = .ok (.iload_n 2, 1) := by decide +kernel
theorem dX9_cut_103 : decode cX9_cut 103 = .ok (.iaload, 1) := by decide +kernel
theorem dX9_cut_104 : decode cX9_cut 104 = .ok (.iload_n 1, 1) := by decide +kernel
theorem dX9_cut_105 : decode cX9_cut 105 = .ok (.if_icmp .le 10, 3) := by decide +kernel
theorem dX9_cut_108 : decode cX9_cut 108 = .ok (.aload_n 0, 1) := by decide +kernel
theorem dX9_cut_109 : decode cX9_cut 109 = .ok (.bipush (-6), 2) := by decide +kernel
theorem dX9_cut_111 : decode cX9_cut 111 = .ok (.invokevirtual 146, 3) := by decide +kernel
theorem dX9_cut_114 : decode cX9_cut 114 = .ok (.ireturn, 1) := by decide +kernel
theorem dX9_cut_115 : decode cX9_cut 115 = .ok (.iload_n 3, 1) := by decide +kernel
theorem dX9_cut_116 : decode cX9_cut 116 = .ok (.ifCond .ne 6, 3) := by decide +kernel
theorem dX9_cut_119 : decode cX9_cut 119 = .ok (.goto 33, 3) := by decide +kernel
theorem dX9_cut_122 : decode cX9_cut 122 = .ok (.aload_n 0, 1) := by decide +kernel
theorem dX9_cut_123 : decode cX9_cut 123 = .ok (.getfield 100, 3) := by decide +kernel
theorem dX9_cut_126 : decode cX9_cut 126 = .ok (.aload_n 0, 1) := by decide +kernel
theorem dX9_cut_127 : decode cX9_cut 127 = .ok (.getfield 224, 3) := by decide +kernel
theorem dX9_cut_130 : decode cX9_cut 130 = .ok (.iload_n 2, 1) := by decide +kernel
theorem dX9_cut_131 : decode cX9_cut 131 = .ok (.iastore, 1) := by decide +kernel
theorem dX9_cut_132 : decode cX9_cut 132 = .ok (.aload_n 0, 1) := by decide +kernel
theorem dX9_cut_133 : decode cX9_cut 133 = .ok (.getfield 103, 3) := by decide +kernel
theorem dX9_cut_136 : decode cX9_cut 136 = .ok (.aload_n 0, 1) := by decide +kernel
theorem dX9_cut_137 : decode cX9_cut 137 = .ok (.getfield 224, 3) := by decide +kernel
theorem dX9_cut_140 : decode cX9_cut 140 = .ok (.iconst 0, 1) := by decide +kernel
theorem dX9_cut_141 : decode cX9_cut 141 = .ok (.iastore, 1) := by decide +kernel
theorem dX9_cut_142 : decode cX9_cut 142 = .ok (.aload_n 0, 1) := by decide +kernel
theorem dX9_cut_143 : decode cX9_cut 143 = .ok (.dup, 1) := by decide +kernel
theorem dX9_cut_144 : decode cX9_cut 144 = .ok (.getfield 224, 3) := by decide +kernel
theorem dX9_cut_147 : decode cX9_cut 147 = .ok (.iconst 1, 1) := by decide +kernel
theorem dX9_cut_148 : decode cX9_cut 148 = .ok (.iadd, 1) := by decide +kernel
theorem dX9_cut_149 : decode cX9_cut 149 = .ok (.putfield 224, 3) := by decide +kernel
theorem dX9_cut_152 : decode cX9_cut 152 = .ok (.iinc 2 1, 3) := by decide +kernel
theorem dX9_cut_155 : decode cX9_cut 155 = .ok (.goto (-129), 3) := by decide +kernel
theorem dX9_cut_158 : decode cX9_cut 158 = .ok (.bipush 100, 2) := by decide +kernel
theorem dX9_cut_160 : decode cX9_cut 160 = .ok (.istore_n 2, 1) := by decide +kernel
theorem dX9_cut_161 : decode cX9_cut 161 = .ok (.bipush 100, 2) := by decide +kernel
theorem dX9_cut_163 : decode cX9_cut 163 = .ok (.istore_n 3, 1) := by decide +kernel
theorem dX9_cut_164 : decode cX9_cut 164 = .ok (.aload_n 0, 1) := by decide +kernel
theorem dX9_cut_165 : decode cX9_cut 165 = .ok (.getfield 224, 3) := by decide +kernel
theorem dX9_cut_168 : decode cX9_cut 168 = .ok (.ifCond .le 7, 3) := by decide +kernel
theorem dX9_cut_171 : decode cX9_cut 171 = .ok (.iconst 1, 1) := by decide +kernel
theorem dX9_cut_172 : decode cX9_cut 172 = .ok (.goto 4, 3) := by decide +kernel
theorem dX9_cut_175 : decode cX9_cut 175 = .ok (.iconst 0, 1) := by decide +kernel
theorem dX9_cut_176 : decode cX9_cut 176 = .ok (.istore 4, 2) := by decide +kernel
theorem dX9_cut_178 : decode cX9_cut 178 = .ok (.iload 4, 2) := by decide +kernel
theorem dX9_cut_180 : decode cX9_cut 180 = .ok (.ifCond .eq 96, 3) := by decide +kernel
theorem dX9_cut_183 : decode cX9_cut 183 = .ok (.aload_n 0, 1) := by decide +kernel
theorem dX9_cut_184 : decode cX9_cut 184 = .ok (.aload_n 0, 1) := by decide +kernel
theorem dX9_cut_185 : decode cX9_cut 185 = .ok (.getfield 224, 3) := by decide +kernel
theorem dX9_cut_188 : decode cX9_cut 188 = .ok (.invokevirtual 230, 3) := by decide +kernel
theorem dX9_cut_191 : decode cX9_cut 191 = .ok (.istore 5, 2) := by decide +kernel
theorem dX9_cut_193 : decode cX9_cut 193 = .ok (.iload 5, 2) := by decide +kernel
theorem dX9_cut_195 : decode cX9_cut 195 = .ok (.iload_n 2, 1) := by decide +kernel
theorem dX9_cut_196 : decode cX9_cut 196 = .ok (.if_icmp .le 7, 3) := by decide +kernel
theorem dX9_cut_199 : decode cX9_cut 199 = .ok (.iconst (-1), 1) := by decide +kernel
theorem dX9_cut_200 : decode cX9_cut 200 = .ok (.goto 10, 3) := by decide +kernel
theorem dX9_cut_203 : decode cX9_cut 203 = .ok (.aload_n 0, 1) := by decide +kernel
theorem dX9_cut_204 : decode cX9_cut 204 = .ok (.iload_n 1, 1) := by decide +kernel
theorem dX9_cut_205 : decode cX9_cut 205 = .ok (.iload 5, 2) := by decide +kernel
theorem dX9_cut_207 : decode cX9_cut 207 = .ok (.invokevirtual 235, 3) := by decide +kernel
theorem dX9_cut_210 : decode cX9_cut 210 = .ok (.istore 6, 2) := by decide +kernel
theorem dX9_cut_212 : decode cX9_cut 212 = .ok (.iload 6, 2) := by decide +kernel
theorem dX9_cut_214 : decode cX9_cut 214 = .ok (.ifCond .lt 53, 3) := by decide +kernel
theorem dX9_cut_217 : decode cX9_cut 217 = .ok (.iload 5, 2) := by decide +kernel
theorem dX9_cut_219 : decode cX9_cut 219 = .ok (.iload_n 2, 1) := by decide +kernel
theorem dX9_cut_220 : decode cX9_cut 220 = .ok (.if_icmp .lt 9, 3) := by decide +kernel
theorem dX9_cut_223 : decode cX9_cut 223 = .ok (.iload 6, 2) := by decide +kernel
theorem dX9_cut_225 : decode cX9_cut 225 = .ok (.iload_n 3, 1) := by decide +kernel
theorem dX9_cut_226 : decode cX9_cut 226 = .ok (.if_icmp .ge 41, 3) := by decide +kernel
theorem dX9_cut_229 : decode cX9_cut 229 = .ok (.iload 5, 2) := by decide +kernel
theorem dX9_cut_231 : decode cX9_cut 231 = .ok (.istore_n 2, 1) := by decide +kernel
theorem dX9_cut_232 : decode cX9_cut 232 = .ok (.iload 6, 2) := by decide +kernel
theorem dX9_cut_234 : decode cX9_cut 234 = .ok (.istore_n 3, 1) := by decide +kernel
theorem dX9_cut_235 : decode cX9_cut 235 = .ok (.iconst 0, 1) := by decide +kernel
theorem dX9_cut_236 : decode cX9_cut 236 = .ok (.istore 7, 2) := by decide +kernel
theorem dX9_cut_238 : decode cX9_cut 238 = .ok (.iload 7, 2) := by decide +kernel
theorem dX9_cut_240 : decode cX9_cut 240 = .ok (.aload_n 0, 1) := by decide +kernel
theorem dX9_cut_241 : decode cX9_cut 241 = .ok (.getfield 224, 3) := by decide +kernel
theorem dX9_cut_244 : decode cX9_cut 244 = .ok (.if_icmp .ge 23, 3) := by decide +kernel
theorem dX9_cut_247 : decode cX9_cut 247 = .ok (.aload_n 0, 1) := by decide +kernel
theorem dX9_cut_248 : decode cX9_cut 248 = .ok (.getfield 106, 3) := by decide +kernel
theorem dX9_cut_251 : decode cX9_cut 251 = .ok (.iload 7, 2) := by decide +kernel
theorem dX9_cut_253 : decode cX9_cut 253 = .ok (.aload_n 0, 1) := by decide +kernel
theorem dX9_cut_254 : decode cX9_cut 254 = .ok (.getfield 103, 3) := by decide +kernel
theorem dX9_cut_257 : decode cX9_cut 257 = .ok (.iload 7, 2) := by decide +kernel
theorem dX9_cut_259 : decode cX9_cut 259 = .ok (.iaload, 1) := by decide +kernel
theorem dX9_cut_260 : decode cX9_cut 260 = .ok (.iastore, 1) := by decide +kernel
theorem dX9_cut_261 : decode cX9_cut 261 = .ok (.iinc 7 1, 3) := by decide +kernel
theorem dX9_cut_264 : decode cX9_cut 264 = .ok (.goto (-26), 3) := by decide +kernel
theorem dX9_cut_267 : decode cX9_cut 267 = .ok (.aload_n 0, 1) := by decide +kernel
theorem dX9_cut_268 : decode cX9_cut 268 = .ok (.invokevirtual 238, 3) := by decide +kernel
theorem dX9_cut_271 : decode cX9_cut 271 = .ok (.istore 4, 2) := by decide +kernel
theorem dX9_cut_273 : decode cX9_cut 273 = .ok (.goto (-95), 3) := by decide +kernel
theorem dX9_cut_276 : decode cX9_cut 276 = .ok (.iconst 0, 1) := by decide +kernel
theorem dX9_cut_277 : decode cX9_cut 277 = .ok (.istore 5, 2) := by decide +kernel
theorem dX9_cut_279 : decode cX9_cut 279 = .ok (.iload 5, 2) := by decide +kernel
theorem dX9_cut_281 : decode cX9_cut 281 = .ok (.bipush 6, 2) := by decide +kernel
theorem dX9_cut_283 : decode cX9_cut 283 = .ok (.if_icmp .ge 17, 3) := by decide +kernel
theorem dX9_cut_286 : decode cX9_cut 286 = .ok (.aload_n 0, 1) := by decide +kernel
theorem dX9_cut_287 : decode cX9_cut 287 = .ok (.getfield 109, 3) := by decide +kernel
theorem dX9_cut_290 : decode cX9_cut 290 = .ok (.iload 5, 2) := by decide +kernel
theorem dX9_cut_292 : decode cX9_cut 292 = .ok (.iconst (-1), 1) := by decide +kernel
theorem dX9_cut_293 : decode cX9_cut 293 = .ok (.iastore, 1) := by decide +kernel
theorem dX9_cut_294 : decode cX9_cut 294 = .ok (.iinc 5 1, 3) := by decide +kernel
theorem dX9_cut_297 : decode cX9_cut 297 = .ok (.goto (-18), 3) := by decide +kernel
theorem dX9_cut_300 : decode cX9_cut 300 = .ok (.iconst 0, 1) := by decide +kernel
theorem dX9_cut_301 : decode cX9_cut 301 = .ok (.istore 5, 2) := by decide +kernel
theorem dX9_cut_303 : decode cX9_cut 303 = .ok (.iload 5, 2) := by decide +kernel
theorem dX9_cut_305 : decode cX9_cut 305 = .ok (.aload_n 0, 1) := by decide +kernel
theorem dX9_cut_306 : decode cX9_cut 306 = .ok (.getfield 224, 3) := by decide +kernel
theorem dX9_cut_309 : decode cX9_cut 309 = .ok (.if_icmp .ge 28, 3) := by decide +kernel
theorem dX9_cut_312 : decode cX9_cut 312 = .ok (.aload_n 0, 1) := by decide +kernel
theorem dX9_cut_313 : decode cX9_cut 313 = .ok (.getfield 109, 3) := by decide +kernel
theorem dX9_cut_316 : decode cX9_cut 316 = .ok (.aload_n 0, 1) := by decide +kernel
theorem dX9_cut_317 : decode cX9_cut 317 = .ok (.getfield 100, 3) := by decide +kernel
theorem dX9_cut_320 : decode cX9_cut 320 = .ok (.iload 5, 2) := by decide +kernel
theorem dX9_cut_322 : decode cX9_cut 322 = .ok (.iaload, 1) := by decide +kernel
theorem dX9_cut_323 : decode cX9_cut 323 = .ok (.aload_n 0, 1) := by decide +kernel
theorem dX9_cut_324 : decode cX9_cut 324 = .ok (.getfield 106, 3) := by decide +kernel
theorem dX9_cut_327 : decode cX9_cut 327 = .ok (.iload 5, 2) := by decide +kernel
theorem dX9_cut_329 : decode cX9_cut 329 = .ok (.iaload, 1) := by decide +kernel
theorem dX9_cut_330 : decode cX9_cut 330 = .ok (.iastore, 1) := by decide +kernel
theorem dX9_cut_331 : decode cX9_cut 331 = .ok (.iinc 5 1, 3) := by decide +kernel
theorem dX9_cut_334 : decode cX9_cut 334 = .ok (.goto (-31), 3) := by decide +kernel
theorem dX9_cut_337 : decode cX9_cut 337 = .ok (.aload_n 0, 1) := by decide +kernel
theorem dX9_cut_338 : decode cX9_cut 338 = .ok (.getfield 224, 3) := by decide +kernel
theorem dX9_cut_341 : decode cX9_cut 341 = .ok (.ifCond .ne 7, 3) := by decide +kernel
theorem dX9_cut_344 : decode cX9_cut 344 = .ok (.iconst 0, 1) := by decide +kernel
theorem dX9_cut_345 : decode cX9_cut 345 = .ok (.goto 4, 3) := by decide +kernel
theorem dX9_cut_348 : decode cX9_cut 348 = .ok (.iload_n 2, 1) := by decide +kernel
theorem dX9_cut_349 : decode cX9_cut 349 = .ok (.ireturn, 1) := by decide +kernel
