theorem dX9_init_0 : decode cX9_init 0 = .ok (.aload_n 0, 1) := by decide +kernel
theorem dX9_init_1 : decode cX9_init 1 = .ok (.invokespecial 1, 3) := by decide +kernel
theorem dX9_init_4 : decode cX9_init 4 = .ok (.aload_n 0, 1) := by decide +kernel
theorem dX9_init_5 : decode cX9_init 5 = .ok (.bipush 24, 2) := by decide +kernel
theorem dX9_init_7 : decode cX9_init 7 = .ok (.newarray .int, 2) := by decide +kernel
theorem dX9_init_9 : decode cX9_init 9 = .ok (.putfield 7, 3) := by decide +kernel
theorem dX9_init_12 : decode cX9_init 12 = .ok (.aload_n 0, 1) := by decide +kernel
theorem dX9_init_13 : decode cX9_init 13 = .ok (.bipush 24, 2) := by decide +kernel
theorem dX9_init_15 : decode cX9_init 15 = .ok (.newarray .int, 2) := by decide +kernel
theorem dX9_init_17 : decode cX9_init 17 = .ok (.putfield 13, 3) := by decide +kernel
theorem dX9_init_20 : decode cX9_init 20 = .ok (.aload_n 0, 1) := by decide +kernel
theorem dX9_init_21 : decode cX9_init 21 = .ok (.bipush 24, 2) := by decide +kernel
theorem dX9_init_23 : decode cX9_init 23 = .ok (.newarray .int, 2) := by decide +kernel
theorem dX9_init_25 : decode cX9_init 25 = .ok (.putfield 16, 3) := by decide +kernel
theorem dX9_init_28 : decode cX9_init 28 = .ok (.aload_n 0, 1) := by decide +kernel
theorem dX9_init_29 : decode cX9_init 29 = .ok (.bipush 24, 2) := by decide +kernel
theorem dX9_init_31 : decode cX9_init 31 = .ok (.newarray .int, 2) := by decide +kernel
theorem dX9_init_33 : decode cX9_init 33 = .ok (.putfield 19, 3) := by decide +kernel
theorem dX9_init_36 : decode cX9_init 36 = .ok (.aload_n 0, 1) := by decide +kernel
theorem dX9_init_37 : decode cX9_init 37 = .ok (.sipush 288, 3) := by decide +kernel
theorem dX9_init_40 : decode cX9_init 40 = .ok (.newarray .int, 2) := by decide +kernel
theorem dX9_init_42 : decode cX9_init 42 = .ok (.putfield 22, 3) := by decide +kernel
theorem dX9_init_45 : decode cX9_init 45 = .ok (.aload_n 0, 1) := by decide +kernel
theorem dX9_init_46 : decode cX9_init 46 = .ok (.bipush 24, 2) := by decide +kernel
theorem dX9_init_48 : decode cX9_init 48 = .ok (.newarray .int, 2) := by decide +kernel
theorem dX9_init_50 : decode cX9_init 50 = .ok (.putfield 25, 3) := by decide +kernel
theorem dX9_init_53 : decode cX9_init 53 = .ok (.aload_n 0, 1) := by decide +kernel
theorem dX9_init_54 : decode cX9_init 54 = .ok (.bipush 24, 2) := by decide +kernel
theorem dX9_init_56 : decode cX9_init 56 = .ok (.newarray .int, 2) := by decide +kernel
theorem dX9_init_58 : decode cX9_init 58 = .ok (.putfield 28, 3) := by decide +kernel
theorem dX9_init_61 : decode cX9_init 61 = .ok (.aload_n 0, 1) := by decide +kernel
theorem dX9_init_62 : decode cX9_init 62 = .ok (.sipush 288, 3) := by decide +kernel
theorem dX9_init_65 : decode cX9_init 65 = .ok (.newarray .int, 2) := by decide +kernel
theorem dX9_init_67 : decode cX9_init 67 = .ok (.putfield 31, 3) := by decide +kernel
theorem dX9_init_70 : decode cX9_init 70 = .ok (.aload_n 0, 1) := by decide +kernel
theorem dX9_init_71 : decode cX9_init 71 = .ok (.bipush 24, 2) := by decide +kernel
theorem dX9_init_73 : decode cX9_init 73 = .ok (.newarray .int, 2) := by decide +kernel
theorem dX9_init_75 : decode cX9_init 75 = .ok (.putfield 34, 3) := by decide +kernel
theorem dX9_init_78 : decode cX9_init 78 = .ok (.aload_n 0, 1) := by decide +kernel
theorem dX9_init_79 : decode cX9_init 79 = .ok (.bipush 24, 2) := by decide +kernel
theorem dX9_init_81 : decode cX9_init 81 = .ok (.newarray .int, 2) := by decide +kernel
theorem dX9_init_83 : decode cX9_init 83 = .ok (.putfield 37, 3) := by decide +kernel
theorem dX9_init_86 : decode cX9_init 86 = .ok (.aload_n 0, 1) := by decide +kernel
theorem dX9_init_87 : decode cX9_init 87 = .ok (.bipush 24, 2) := by decide +kernel
theorem dX9_init_89 : decode cX9_init 89 = .ok (.newarray .int, 2) := by decide +kernel
theorem dX9_init_91 : decode cX9_init 91 = .ok (.putfield 40, 3) := by decide +kernel
theorem dX9_init_94 : decode cX9_init 94 = .ok (.aload_n 0, 1) := by decide +kernel
theorem dX9_init_95 : decode cX9_init 95 = .ok (.bipush 24, 2) := by decide +kernel
theorem dX9_init_97 : decode cX9_init 97 = .ok (.newarray .int, 2) := by decide +kernel
theorem dX9_init_99 : decode cX9_init 99 = .ok (.putfield 43, 3) := by decide +kernel
theorem dX9_init_102 : decode cX9_init 102 = .ok (.aload_n 0, 1) := by decide +kernel
theorem dX9_init_103 : decode cX9_init 103 = .ok (.bipush 24, 2) := by decide +kernel
theorem dX9_init_105 : decode cX9_init 105 = .ok (.newarray .boolean, 2) := by decide +kernel
theorem dX9_init_107 : decode cX9_init 107 = .ok (.putfield 46, 3) := by decide +kernel
theorem dX9_init_110 : decode cX9_init 110 = .ok (.aload_n 0, 1) := by decide +kernel
theorem dX9_init_111 : decode cX9_init 111 = .ok (.sipush 288, 3) := by decide +kernel
theorem dX9_init_114 : decode cX9_init 114 = .ok (.newarray .boolean, 2) := by decide +kernel
theorem dX9_init_116 : decode cX9_init 116 = .ok (.putfield 50, 3) := by decide +kernel
theorem dX9_init_119 : decode cX9_init 119 = .ok (.aload_n 0, 1) := by decide +kernel
theorem dX9_init_120 : decode cX9_init 120 = .ok (.bipush 36, 2) := by decide +kernel
theorem dX9_init_122 : decode cX9_init 122 = .ok (.newarray .boolean, 2) := by decide +kernel
theorem dX9_init_124 : decode cX9_init 124 = .ok (.putfield 53, 3) := by decide +kernel
theorem dX9_init_127 : decode cX9_init 127 = .ok (.aload_n 0, 1) := by decide +kernel
theorem dX9_init_128 : decode cX9_init 128 = .ok (.bipush 6, 2) := by decide +kernel
theorem dX9_init_130 : decode cX9_init 130 = .ok (.newarray .boolean, 2) := by decide +kernel
theorem dX9_init_132 : decode cX9_init 132 = .ok (.putfield 56, 3) := by decide +kernel
theorem dX9_init_135 : decode cX9_init 135 = .ok (.aload_n 0, 1) := by decide +kernel
theorem dX9_init_136 : decode cX9_init 136 = .ok (.bipush 24, 2) := by decide +kernel
theorem dX9_init_138 : decode cX9_init 138 = .ok (.newarray .boolean, 2) := by decide +kernel
theorem dX9_init_140 : decode cX9_init 140 = .ok (.putfield 59, 3) := by decide +kernel
theorem dX9_init_143 : decode cX9_init 143 = .ok (.aload_n 0, 1) := by decide +kernel
theorem dX9_init_144 : decode cX9_init 144 = .ok (.iconst 3, 1) := by decide +kernel
theorem dX9_init_145 : decode cX9_init 145 = .ok (.putfield 62, 3) := by decide +kernel
theorem dX9_init_148 : decode cX9_init 148 = .ok (.aload_n 0, 1) := by decide +kernel
theorem dX9_init_149 : decode cX9_init 149 = .ok (.iconst 2, 1) := by decide +kernel
theorem dX9_init_150 : decode cX9_init 150 = .ok (.putfield 66, 3) := by decide +kernel
theorem dX9_init_153 : decode cX9_init 153 = .ok (.aload_n 0, 1) := by decide +kernel
theorem dX9_init_154 : decode cX9_init 154 = .ok (.iconst 3, 1) := by decide +kernel
theorem dX9_init_155 : decode cX9_init 155 = .ok (.putfield 69, 3) := by decide +kernel
theorem dX9_init_158 : decode cX9_init 158 = .ok (.aload_n 0, 1) := by decide +kernel
theorem dX9_init_159 : decode cX9_init 159 = .ok (.iconst (-1), 1) := by decide +kernel
theorem dX9_init_160 : decode cX9_init 160 = .ok (.putfield 72, 3) := by decide +kernel
theorem dX9_init_163 : decode cX9_init 163 = .ok (.aload_n 0, 1) := by decide +kernel
theorem dX9_init_164 : decode cX9_init 164 = .ok (.bipush 40, 2) := by decide +kernel
theorem dX9_init_166 : decode cX9_init 166 = .ok (.newarray .int, 2) := by decide +kernel
theorem dX9_init_168 : decode cX9_init 168 = .ok (.putfield 75, 3) := by decide +kernel
theorem dX9_init_171 : decode cX9_init 171 = .ok (.aload_n 0, 1) := by decide +kernel
theorem dX9_init_172 : decode cX9_init 172 = .ok (.bipush 40, 2) := by decide +kernel
theorem dX9_init_174 : decode cX9_init 174 = .ok (.newarray .int, 2) := by decide +kernel
theorem dX9_init_176 : decode cX9_init 176 = .ok (.putfield 78, 3) := by decide +kernel
theorem dX9_init_179 : decode cX9_init 179 = .ok (.aload_n 0, 1) := by decide +kernel
theorem dX9_init_180 : decode cX9_init 180 = .ok (.bipush 8, 2) := by decide +kernel
theorem dX9_init_182 : decode cX9_init 182 = .ok (.newarray .int, 2) := by decide +kernel
theorem dX9_init_184 : decode cX9_init 184 = .ok (.putfield 81, 3) := by decide +kernel
theorem dX9_init_187 : decode cX9_init 187 = .ok (.aload_n 0, 1) := by decide +kernel
theorem dX9_init_188 : decode cX9_init 188 = .ok (.bipush 8, 2) := by decide +kernel
theorem dX9_init_190 : decode cX9_init 190 = .ok (.newarray .int, 2) := by decide +kernel
theorem dX9_init_192 : decode cX9_init 192 = .ok (.putfield 84, 3) := by decide +kernel
theorem dX9_init_195 : decode cX9_init 195 = .ok (.aload_n 0, 1) := by decide +kernel
theorem dX9_init_196 : decode cX9_init 196 = .ok (.bipush 8, 2) := by decide +kernel
theorem dX9_init_198 : decode cX9_init 198 = .ok (.newarray .int, 2) := by decide +kernel
theorem dX9_init_200 : decode cX9_init 200 = .ok (.putfield 87, 3) := by decide +kernel
theorem dX9_init_203 : decode cX9_init 203 = .ok (.aload_n 0, 1) := by decide +kernel
theorem dX9_init_204 : decode cX9_init 204 = .ok (.bipush 8, 2) := by decide +kernel
theorem dX9_init_206 : decode cX9_init 206 = .ok (.newarray .int, 2) := by decide +kernel
theorem dX9_init_208 : decode cX9_init 208 = .ok (.putfield 90, 3) := by decide +kernel
theorem dX9_init_211 : decode cX9_init 211 = .ok (.aload_n 0, 1) := by decide +kernel
theorem dX9_init_212 : decode cX9_init 212 = .ok (.sipush 240, 3) := by decide +kernel
theorem dX9_init_215 : decode cX9_init 215 = .ok (.newarray .long, 2) := by decide +kernel
theorem dX9_init_217 : decode cX9_init 217 = .ok (.putfield 93, 3) := by decide +kernel
theorem dX9_init_220 : decode cX9_init 220 = .ok (.aload_n 0, 1) := by decide +kernel
theorem dX9_init_221 : decode cX9_init 221 = .ok (.bipush 30, 2) := by decide +kernel
theorem dX9_init_223 : decode cX9_init 223 = .ok (.newarray .long, 2) := by decide +kernel
theorem dX9_init_225 : decode cX9_init 225 = .ok (.putfield 97, 3) := by decide +kernel
theorem dX9_init_228 : decode cX9_init 228 = .ok (.aload_n 0, 1) := by decide +kernel
theorem dX9_init_229 : decode cX9_init 229 = .ok (.bipush 6, 2) := by decide +kernel
theorem dX9_init_231 : decode cX9_init 231 = .ok (.newarray .int, 2) := by decide +kernel
theorem dX9_init_233 : decode cX9_init 233 = .ok (.putfield 100, 3) := by decide +kernel
theorem dX9_init_236 : decode cX9_init 236 = .ok (.aload_n 0, 1) := by decide +kernel
theorem dX9_init_237 : decode cX9_init 237 = .ok (.bipush 6, 2) := by decide +kernel
theorem dX9_init_239 : decode cX9_init 239 = .ok (.newarray .int, 2) := by decide +kernel
theorem dX9_init_241 : decode cX9_init 241 = .ok (.putfield 103, 3) := by decide +kernel
theorem dX9_init_244 : decode cX9_init 244 = .ok (.aload_n 0, 1) := by decide +kernel
theorem dX9_init_245 : decode cX9_init 245 = .ok (.bipush 6, 2) := by decide +kernel
theorem dX9_init_247 : decode cX9_init 247 = .ok (.newarray .int, 2) := by decide +kernel
theorem dX9_init_249 : decode cX9_init 249 = .ok (.putfield 106, 3) := by decide +kernel
theorem dX9_init_252 : decode cX9_init 252 = .ok (.aload_n 0, 1) := by decide +kernel
theorem dX9_init_253 : decode cX9_init 253 = .ok (.bipush 6, 2) := by decide +kernel
theorem dX9_init_255 : decode cX9_init 255 = .ok (.newarray .int, 2) := by decide +kernel
theorem dX9_init_257 : decode cX9_init 257 = .ok (.putfield 109, 3) := by decide +kernel
theorem dX9_init_260 : decode cX9_init 260 = .ok (.aload_n 0, 1) := by decide +kernel
theorem dX9_init_261 : decode cX9_init 261 = .ok (.bipush 6, 2) := by decide +kernel
theorem dX9_init_263 : decode cX9_init 263 = .ok (.newarray .int, 2) := by decide +kernel
theorem dX9_init_265 : decode cX9_init 265 = .ok (.putfield 112, 3) := by decide +kernel
theorem dX9_init_268 : decode cX9_init 268 = .ok (.aload_n 0, 1) := by decide +kernel
theorem dX9_init_269 : decode cX9_init 269 = .ok (.bipush 24, 2) := by decide +kernel
theorem dX9_init_271 : decode cX9_init 271 = .ok (.newarray .int, 2) := by decide +kernel
theorem dX9_init_273 : decode cX9_init 273 = .ok (.putfield 115, 3) := by decide +kernel
theorem dX9_init_276 : decode cX9_init 276 = .ok (.aload_n 0, 1) := by decide +kernel
theorem dX9_init_277 : decode cX9_init 277 = .ok (.bipush 24, 2) := by decide +kernel
theorem dX9_init_279 : decode cX9_init 279 = .ok (.newarray .int, 2) := by decide +kernel
theorem dX9_init_281 : decode cX9_init 281 = .ok (.putfield 118, 3) := by decide +kernel
theorem dX9_init_284 : decode cX9_init 284 = .ok (.aload_n 0, 1) := by decide +kernel
theorem dX9_init_285 : decode cX9_init 285 = .ok (.bipush 24, 2) := by decide +kernel
theorem dX9_init_287 : decode cX9_init 287 = .ok (.newarray .int, 2) := by decide +kernel
theorem dX9_init_289 : decode cX9_init 289 = .ok (.putfield 121, 3) := by decide +kernel
theorem dX9_init_292 : decode cX9_init 292 = .ok (.aload_n 0, 1) := by decide +kernel
theorem dX9_init_293 : decode cX9_init 293 = .ok (.bipush 24, 2) := by decide +kernel
theorem dX9_init_295 : decode cX9_init 295 = .ok (.newarray .boolean, 2) := by decide +kernel
theorem dX9_init_297 : decode cX9_init 297 = .ok (.putfield 124, 3) := by decide +kernel
theorem dX9_init_300 : decode cX9_init 300 = .ok (.aload_n 0, 1) := by decide +kernel
theorem dX9_init_301 : decode cX9_init 301 = .ok (.bipush 24, 2) := by decide +kernel
theorem dX9_init_303 : decode cX9_init 303 = .ok (.newarray .boolean, 2) := by decide +kernel
theorem dX9_init_305 : decode cX9_init 305 = .ok (.putfield 127, 3) := by decide +kernel
theorem dX9_init_308 : decode cX9_init 308 = .ok (.aload_n 0, 1) := by decide +kernel
theorem dX9_init_309 : decode cX9_init 309 = .ok (.bipush 10, 2) := by decide +kernel
theorem dX9_init_311 : decode cX9_init 311 = .ok (.newarray .int, 2) := by decide +kernel
theorem dX9_init_313 : decode cX9_init 313 = .ok (.putfield 130, 3) := by decide +kernel
theorem dX9_init_316 : decode cX9_init 316 = .ok (.aload_n 0, 1) := by decide +kernel
theorem dX9_init_317 : decode cX9_init 317 = .ok (.bipush 10, 2) := by decide +kernel
theorem dX9_init_319 : decode cX9_init 319 = .ok (.newarray .int, 2) := by decide +kernel
theorem dX9_init_321 : decode cX9_init 321 = .ok (.putfield 133, 3) := by decide +kernel
theorem dX9_init_324 : decode cX9_init 324 = .ok (.aload_n 0, 1) := by decide +kernel
theorem dX9_init_325 : decode cX9_init 325 = .ok (.iconst 4, 1) := by decide +kernel
theorem dX9_init_326 : decode cX9_init 326 = .ok (.newarray .int, 2) := by decide +kernel
theorem dX9_init_328 : decode cX9_init 328 = .ok (.putfield 136, 3) := by decide +kernel
theorem dX9_init_331 : decode cX9_init 331 = .ok (.iconst 0, 1) := by decide +kernel
theorem dX9_init_332 : decode cX9_init 332 = .ok (.istore_n 1, 1) := by decide +kernel
theorem dX9_init_333 : decode cX9_init 333 = .ok (.iload_n 1, 1) := by decide +kernel
theorem dX9_init_334 : decode cX9_init 334 = .ok (.bipush 6, 2) := by decide +kernel
theorem dX9_init_336 : decode cX9_init 336 = .ok (.if_icmp .ge 16, 3) := by decide +kernel
theorem dX9_init_339 : decode cX9_init 339 = .ok (.aload_n 0, 1) := by decide +kernel
theorem dX9_init_340 : decode cX9_init 340 = .ok (.getfield 109, 3) := by decide +kernel
theorem dX9_init_343 : decode cX9_init 343 = .ok (.iload_n 1, 1) := by decide +kernel
theorem dX9_init_344 : decode cX9_init 344 = .ok (.iconst (-1), 1) := by decide +kernel
theorem dX9_init_345 : decode cX9_init 345 = .ok (.iastore, 1) := by decide +kernel
theorem dX9_init_346 : decode cX9_init 346 = .ok (.iinc 1 1, 3) := by decide +kernel
theorem dX9_init_349 : decode cX9_init 349 = .ok (.goto (-16), 3) := by decide +kernel
theorem dX9_init_352 : decode cX9_init 352 = .ok (.return_, 1) := by decide +kernel
theorem dX9_isIn_0 : decode cX9_isIn 0 = .ok (.lload_n 0, 1) := by decide +kernel
theorem dX9_isIn_1 : decode cX9_isIn 1 = .ok (.lload_n 2, 1) := by decide +kernel
theorem dX9_isIn_2 : decode cX9_isIn 2 = .ok (.lcmp, 1) := by decide +kernel
theorem dX9_isIn_3 : decode cX9_isIn 3 = .ok (.ifCond .lt 14, 3) := by decide +kernel
theorem dX9_isIn_6 : decode cX9_isIn 6 = .ok (.lload_n 0, 1) := by decide +kernel
theorem dX9_isIn_7 : decode cX9_isIn 7 = .ok (.lload 4, 2) := by decide +kernel
theorem dX9_isIn_9 : decode cX9_isIn 9 = .ok (.lcmp, 1) := by decide +kernel
theorem dX9_isIn_10 : decode cX9_isIn 10 = .ok (.ifCond .gt 7, 3) := by decide +kernel
theorem dX9_isIn_13 : decode cX9_isIn 13 = .ok (.iconst 1, 1) := by decide +kernel
theorem dX9_isIn_14 : decode cX9_isIn 14 = .ok (.goto 4, 3) := by decide +kernel
theorem dX9_isIn_17 : decode cX9_isIn 17 = .ok (.iconst 0, 1) := by decide +kernel
theorem dX9_isIn_18 : decode cX9_isIn 18 = .ok (.ireturn, 1) := by decide +kernel
theorem dX9_no_0 : decode cX9_no 0 = .ok (.aload_n 0, 1) := by decide +kernel
theorem dX9_no_1 : decode cX9_no 1 = .ok (.getfield 81, 3) := by decide +kernel
theorem dX9_no_4 : decode cX9_no 4 = .ok (.iload_n 1, 1) := by decide +kernel
theorem dX9_no_5 : decode cX9_no 5 = .ok (.ineg, 1) := by decide +kernel
theorem dX9_no_6 : decode cX9_no 6 = .ok (.dup2, 1) := by decide +kernel
theorem dX9_no_7 : decode cX9_no 7 = .ok (.iaload, 1) := by decide +kernel
theorem dX9_no_8 : decode cX9_no 8 = .ok (.iconst 1, 1) := by decide +kernel
theorem dX9_no_9 : decode cX9_no 9 = .ok (.iadd, 1) := by decide +kernel
theorem dX9_no_10 : decode cX9_no 10 = .ok (.iastore, 1) := by decide +kernel
theorem dX9_no_11 : decode cX9_no 11 = .ok (.iload_n 1, 1) := by decide +kernel
theorem dX9_no_12 : decode cX9_no 12 = .ok (.ireturn, 1) := by decide +kernel
theorem dX9_isBlock_0 : decode cX9_isBlock 0 = .ok (.iload_n 0, 1) := by decide +kernel
theorem dX9_isBlock_1 : decode cX9_isBlock 1 = .ok (.ifCond .lt 13, 3) := by decide +kernel
theorem dX9_isBlock_4 : decode cX9_isBlock 4 = .ok (.iload_n 0, 1) := by decide +kernel
theorem dX9_isBlock_5 : decode cX9_isBlock 5 = .ok (.bipush 6, 2) := by decide +kernel
theorem dX9_isBlock_7 : decode cX9_isBlock 7 = .ok (.if_icmp .ge 7, 3) := by decide +kernel
theorem dX9_isBlock_10 : decode cX9_isBlock 10 = .ok (.iconst 1, 1) := by decide +kernel
theorem dX9_isBlock_11 : decode cX9_isBlock 11 = .ok (.goto 4, 3) := by decide +kernel
theorem dX9_isBlock_14 : decode cX9_isBlock 14 = .ok (.iconst 0, 1) := by decide +kernel
theorem dX9_isBlock_15 : decode cX9_isBlock 15 = .ok (.ireturn, 1) := by decide +kernel
theorem dX9_isDoor_0 : decode cX9_isDoor 0 = .ok (.iload_n 1, 1) := by decide +kernel
theorem dX9_isDoor_1 : decode cX9_isDoor 1 = .ok (.ifCond .lt 15, 3) := by decide +kernel
theorem dX9_isDoor_4 : decode cX9_isDoor 4 = .ok (.iload_n 1, 1) := by decide +kernel
theorem dX9_isDoor_5 : decode cX9_isDoor 5 = .ok (.aload_n 0, 1) := by decide +kernel
theorem dX9_isDoor_6 : decode cX9_isDoor 6 = .ok (.getfield 139, 3) := by decide +kernel
theorem dX9_isDoor_9 : decode cX9_isDoor 9 = .ok (.if_icmp .ge 7, 3) := by decide +kernel
theorem dX9_isDoor_12 : decode cX9_isDoor 12 = .ok (.iconst 1, 1) := by decide +kernel
theorem dX9_isDoor_13 : decode cX9_isDoor 13 = .ok (.goto 4, 3) := by decide +kernel
theorem dX9_isDoor_16 : decode cX9_isDoor 16 = .ok (.iconst 0, 1) := by decide +kernel
theorem dX9_isDoor_17 : decode cX9_isDoor 17 = .ok (.ireturn, 1) := by decide +kernel
theorem dX9_isShelf_0 : decode cX9_isShelf 0 = .ok (.iload_n 0, 1) := by decide +kernel
theorem dX9_isShelf_1 : decode cX9_isShelf 1 = .ok (.ifCond .lt 13, 3) := by decide +kernel
theorem dX9_isShelf_4 : decode cX9_isShelf 4 = .ok (.iload_n 0, 1) := by decide +kernel
theorem dX9_isShelf_5 : decode cX9_isShelf 5 = .ok (.bipush 8, 2) := by decide +kernel
theorem dX9_isShelf_7 : decode cX9_isShelf 7 = .ok (.if_icmp .ge 7, 3) := by decide +kernel
theorem dX9_isShelf_10 : decode cX9_isShelf 10 = .ok (.iconst 1, 1) := by decide +kernel
theorem dX9_isShelf_11 : decode cX9_isShelf 11 = .ok (.goto 4, 3) := by decide +kernel
theorem dX9_isShelf_14 : decode cX9_isShelf 14 = .ok (.iconst 0, 1) := by decide +kernel
theorem dX9_isShelf_15 : decode cX9_isShelf 15 = .ok (.ireturn, 1) := by decide +kernel
theorem dX9_lesser_0 : decode cX9_lesser 0 = .ok (.iload_n 0, 1) := by decide +kernel
theorem dX9_lesser_1 : decode cX9_lesser 1 = .ok (.iload_n 1, 1) := by decide +kernel
theorem dX9_lesser_2 : decode cX9_lesser 2 = .ok (.if_icmp .ge 7, 3) := by decide +kernel
theorem dX9_lesser_5 : decode cX9_lesser 5 = .ok (.iload_n 0, 1) := by decide +kernel
theorem dX9_lesser_6 : decode cX9_lesser 6 = .ok (.goto 4, 3) := by decide +kernel
theorem dX9_lesser_9 : decode cX9_lesser 9 = .ok (.iload_n 1, 1) := by decide +kernel
theorem dX9_lesser_10 : decode cX9_lesser 10 = .ok (.ireturn, 1) := by decide +kernel
theorem dX9_door_0 : decode cX9_door 0 = .ok (.iload_n 1, 1) := by decide +kernel
theorem dX9_door_1 : decode cX9_door 1 = .ok (.invokestatic 142, 3) := by decide +kernel
theorem dX9_door_4 : decode cX9_door 4 = .ok (.ifCond .ne 9, 3) := by decide +kernel
theorem dX9_door_7 : decode cX9_door 7 = .ok (.aload_n 0, 1) := by decide +kernel
theorem dX9_door_8 : decode cX9_door 8 = .ok (.iconst (-1), 1) := by decide +kernel
theorem dX9_door_9 : decode cX9_door 9 = .ok (.invokevirtual 146, 3) := by decide +kernel
theorem dX9_door_12 : decode cX9_door 12 = .ok (.ireturn, 1) := by decide +kernel
theorem dX9_door_13 : decode cX9_door 13 = .ok (.iload_n 2, 1) := by decide +kernel
theorem dX9_door_14 : decode cX9_door 14 = .ok (.i2l, 1) := by decide +kernel
theorem dX9_door_15 : decode cX9_door 15 = .ok (.lconst 0, 1) := by decide +kernel
theorem dX9_door_16 : decode cX9_door 16 = .ok (.ldc2_w 150, 3) := by decide +kernel
theorem dX9_door_19 : decode cX9_door 19 = .ok (.invokestatic 152, 3) := by decide +kernel
theorem dX9_door_22 : decode cX9_door 22 = .ok (.ifCond .eq 22, 3) := by decide +kernel
theorem dX9_door_25 : decode cX9_door 25 = .ok (.iload_n 3, 1) := by decide +kernel
theorem dX9_door_26 : decode cX9_door 26 = .ok (.i2l, 1) := by decide +kernel
theorem dX9_door_27 : decode cX9_door 27 = .ok (.lconst 0, 1) := by decide +kernel
theorem dX9_door_28 : decode cX9_door 28 = .ok (.ldc2_w 156, 3) := by decide +kernel
theorem dX9_door_31 : decode cX9_door 31 = .ok (.invokestatic 152, 3) := by decide +kernel
theorem dX9_door_34 : decode cX9_door 34 = .ok (.ifCond .eq 10, 3) := by decide +kernel
theorem dX9_door_37 : decode cX9_door 37 = .ok (.aload_n 0, 1) := by decide +kernel
theorem dX9_door_38 : decode cX9_door 38 = .ok (.getfield 158, 3) := by decide +kernel
theorem dX9_door_41 : decode cX9_door 41 = .ok (.ifCond .eq 10, 3) := by decide +kernel
theorem dX9_door_44 : decode cX9_door 44 = .ok (.aload_n 0, 1) := by decide +kernel
theorem dX9_door_45 : decode cX9_door 45 = .ok (.bipush (-6), 2) := by decide +kernel
theorem dX9_door_47 : decode cX9_door 47 = .ok (.invokevirtual 146, 3) := by decide +kernel
theorem dX9_door_50 : decode cX9_door 50 = .ok (.ireturn, 1) := by decide +kernel
theorem dX9_door_51 : decode cX9_door 51 = .ok (.aload_n 0, 1) := by decide +kernel
theorem dX9_door_52 : decode cX9_door 52 = .ok (.getfield 139, 3) := by decide +kernel
theorem dX9_door_55 : decode cX9_door 55 = .ok (.bipush 24, 2) := by decide +kernel
theorem dX9_door_57 : decode cX9_door 57 = .ok (.if_icmp .ne 10, 3) := by decide +kernel
theorem dX9_door_60 : decode cX9_door 60 = .ok (.aload_n 0, 1) := by decide +kernel
theorem dX9_door_61 : decode cX9_door 61 = .ok (.bipush (-7), 2) := by decide +kernel
theorem dX9_door_63 : decode cX9_door 63 = .ok (.invokevirtual 146, 3) := by decide +kernel
theorem dX9_door_66 : decode cX9_door 66 = .ok (.ireturn, 1) := by decide +kernel
theorem dX9_door_67 : decode cX9_door 67 = .ok (.aload_n 0, 1) := by decide +kernel
theorem dX9_door_68 : decode cX9_door 68 = .ok (.getfield 7, 3) := by decide +kernel
theorem dX9_door_71 : decode cX9_door 71 = .ok (.aload_n 0, 1) := by decide +kernel
theorem dX9_door_72 : decode cX9_door 72 = .ok (.getfield 139, 3) := by decide +kernel
theorem dX9_door_75 : decode cX9_door 75 = .ok (.iload_n 1, 1) := by decide +kernel
theorem dX9_door_76 : decode cX9_door 76 = .ok (.iastore, 1) := by decide +kernel
theorem dX9_door_77 : decode cX9_door 77 = .ok (.aload_n 0, 1) := by decide +kernel
theorem dX9_door_78 : decode cX9_door 78 = .ok (.getfield 13, 3) := by decide +kernel
theorem dX9_door_81 : decode cX9_door 81 = .ok (.aload_n 0, 1) := by decide +kernel
theorem dX9_door_82 : decode cX9_door 82 = .ok (.getfield 139, 3) := by decide +kernel
theorem dX9_door_85 : decode cX9_door 85 = .ok (.iload_n 2, 1) := by decide +kernel
theorem dX9_door_86 : decode cX9_door 86 = .ok (.iastore, 1) := by decide +kernel
theorem dX9_door_87 : decode cX9_door 87 = .ok (.aload_n 0, 1) := by decide +kernel
theorem dX9_door_88 : decode cX9_door 88 = .ok (.getfield 16, 3) := by decide +kernel
theorem dX9_door_91 : decode cX9_door 91 = .ok (.aload_n 0, 1) := by decide +kernel
theorem dX9_door_92 : decode cX9_door 92 = .ok (.getfield 139, 3) := by decide +kernel
theorem dX9_door_95 : decode cX9_door 95 = .ok (.iload_n 3, 1) := by decide +kernel
theorem dX9_door_96 : decode cX9_door 96 = .ok (.iastore, 1) := by decide +kernel
theorem dX9_door_97 : decode cX9_door 97 = .ok (.aload_n 0, 1) := by decide +kernel
theorem dX9_door_98 : decode cX9_door 98 = .ok (.getfield 40, 3) := by decide +kernel
theorem dX9_door_101 : decode cX9_door 101 = .ok (.aload_n 0, 1) := by decide +kernel
theorem dX9_door_102 : decode cX9_door 102 = .ok (.getfield 139, 3) := by decide +kernel
theorem dX9_door_105 : decode cX9_door 105 = .ok (.iconst (-1), 1) := by decide +kernel
theorem dX9_door_106 : decode cX9_door 106 = .ok (.iastore, 1) := by decide +kernel
theorem dX9_door_107 : decode cX9_door 107 = .ok (.aload_n 0, 1) := by decide +kernel
theorem dX9_door_108 : decode cX9_door 108 = .ok (.dup, 1) := by decide +kernel
theorem dX9_door_109 : decode cX9_door 109 = .ok (.getfield 139, 3) := by decide +kernel
theorem dX9_door_112 : decode cX9_door 112 = .ok (.iconst 1, 1) := by decide +kernel
theorem dX9_door_113 : decode cX9_door 113 = .ok (.iadd, 1) := by decide +kernel
theorem dX9_door_114 : decode cX9_door 114 = .ok (.putfield 139, 3) := by decide +kernel
theorem dX9_door_117 : decode cX9_door 117 = .ok (.aload_n 0, 1) := by decide +kernel
theorem dX9_door_118 : decode cX9_door 118 = .ok (.getfield 139, 3) := by decide +kernel
theorem dX9_door_121 : decode cX9_door 121 = .ok (.iconst 1, 1) := by decide +kernel
theorem dX9_door_122 : decode cX9_door 122 = .ok (.isub, 1) := by decide +kernel
theorem dX9_door_123 : decode cX9_door 123 = .ok (.ireturn, 1) := by decide +kernel
theorem dX9_near_0 : decode cX9_near 0 = .ok (.iload_n 1, 1) := by decide +kernel
theorem dX9_near_1 : decode cX9_near 1 = .ok (.invokestatic 142, 3) := by decide +kernel
theorem dX9_near_4 : decode cX9_near 4 = .ok (.ifCond .eq 10, 3) := by decide +kernel
theorem dX9_near_7 : decode cX9_near 7 = .ok (.iload_n 2, 1) := by decide +kernel
theorem dX9_near_8 : decode cX9_near 8 = .ok (.invokestatic 142, 3) := by decide +kernel
theorem dX9_near_11 : decode cX9_near 11 = .ok (.ifCond .ne 9, 3) := by decide +kernel
theorem dX9_near_14 : decode cX9_near 14 = .ok (.aload_n 0, 1) := by decide +kernel
theorem dX9_near_15 : decode cX9_near 15 = .ok (.iconst (-1), 1) := by decide +kernel
theorem dX9_near_16 : decode cX9_near 16 = .ok (.invokevirtual 146, 3) := by decide +kernel
theorem dX9_near_19 : decode cX9_near 19 = .ok (.ireturn, 1) := by decide +kernel
theorem dX9_near_20 : decode cX9_near 20 = .ok (.iload_n 1, 1) := by decide +kernel
theorem dX9_near_21 : decode cX9_near 21 = .ok (.iload_n 2, 1) := by decide +kernel
theorem dX9_near_22 : decode cX9_near 22 = .ok (.if_icmp .ne 10, 3) := by decide +kernel
theorem dX9_near_25 : decode cX9_near 25 = .ok (.aload_n 0, 1) := by decide +kernel
theorem dX9_near_26 : decode cX9_near 26 = .ok (.bipush (-6), 2) := by decide +kernel
theorem dX9_near_28 : decode cX9_near 28 = .ok (.invokevirtual 146, 3) := by decide +kernel
theorem dX9_near_31 : decode cX9_near 31 = .ok (.ireturn, 1) := by decide +kernel
theorem dX9_near_32 : decode cX9_near 32 = .ok (.aload_n 0, 1) := by decide +kernel
theorem dX9_near_33 : decode cX9_near 33 = .ok (.getfield 53, 3) := by decide +kernel
theorem dX9_near_36 : decode cX9_near 36 = .ok (.bipush 6, 2) := by decide +kernel
theorem dX9_near_38 : decode cX9_near 38 = .ok (.iload_n 1, 1) := by decide +kernel
theorem dX9_near_39 : decode cX9_near 39 = .ok (.imul, 1) := by decide +kernel
theorem dX9_near_40 : decode cX9_near 40 = .ok (.iload_n 2, 1) := by decide +kernel
theorem dX9_near_41 : decode cX9_near 41 = .ok (.iadd, 1) := by decide +kernel
theorem dX9_near_42 : decode cX9_near 42 = .ok (.baload, 1) := by decide +kernel
theorem dX9_near_43 : decode cX9_near 43 = .ok (.ifCond .eq 7, 3) := by decide +kernel
theorem dX9_near_46 : decode cX9_near 46 = .ok (.iconst 0, 1) := by decide +kernel
theorem dX9_near_47 : decode cX9_near 47 = .ok (.goto 4, 3) := by decide +kernel
theorem dX9_near_50 : decode cX9_near 50 = .ok (.iconst 1, 1) := by decide +kernel
theorem dX9_near_51 : decode cX9_near 51 = .ok (.istore_n 3, 1) := by decide +kernel
theorem dX9_near_52 : decode cX9_near 52 = .ok (.aload_n 0, 1) := by decide +kernel
theorem dX9_near_53 : decode cX9_near 53 = .ok (.getfield 53, 3) := by decide +kernel
theorem dX9_near_56 : decode cX9_near 56 = .ok (.bipush 6, 2) := by decide +kernel
theorem dX9_near_58 : decode cX9_near 58 = .ok (.iload_n 1, 1) := by decide +kernel
theorem dX9_near_59 : decode cX9_near 59 = .ok (.imul, 1) := by decide +kernel
theorem dX9_near_60 : decode cX9_near 60 = .ok (.iload_n 2, 1) := by decide +kernel
theorem dX9_near_61 : decode cX9_near 61 = .ok (.iadd, 1) := by decide +kernel
theorem dX9_near_62 : decode cX9_near 62 = .ok (.iconst 1, 1) := by decide +kernel
theorem dX9_near_63 : decode cX9_near 63 = .ok (.bastore, 1) := by decide +kernel
theorem dX9_near_64 : decode cX9_near 64 = .ok (.aload_n 0, 1) := by decide +kernel
theorem dX9_near_65 : decode cX9_near 65 = .ok (.getfield 53, 3) := by decide +kernel
theorem dX9_near_68 : decode cX9_near 68 = .ok (.bipush 6, 2) := by decide +kernel
theorem dX9_near_70 : decode cX9_near 70 = .ok (.iload_n 2, 1) := by decide +kernel
theorem dX9_near_71 : decode cX9_near 71 = .ok (.imul, 1) := by decide +kernel
theorem dX9_near_72 : decode cX9_near 72 = .ok (.iload_n 1, 1) := by decide +kernel
theorem dX9_near_73 : decode cX9_near 73 = .ok (.iadd, 1) := by decide +kernel
theorem dX9_near_74 : decode cX9_near 74 = .ok (.iconst 1, 1) := by decide +kernel
theorem dX9_near_75 : decode cX9_near 75 = .ok (.bastore, 1) := by decide +kernel
theorem dX9_near_76 : decode cX9_near 76 = .ok (.iload_n 3, 1) := by decide +kernel
theorem dX9_near_77 : decode cX9_near 77 = .ok (.ireturn, 1) := by decide +kernel
theorem dX9_fit_0 : decode cX9_fit 0 = .ok (.iload_n 0, 1) := by decide +kernel
theorem dX9_fit_1 : decode cX9_fit 1 = .ok (.ifCond .ne 10, 3) := by decide +kernel
theorem dX9_fit_4 : decode cX9_fit 4 = .ok (.lload_n 1, 1) := by decide +kernel
theorem dX9_fit_5 : decode cX9_fit 5 = .ok (.l2i, 1) := by decide +kernel
theorem dX9_fit_6 : decode cX9_fit 6 = .ok (.i2b, 1) := by decide +kernel
theorem dX9_fit_7 : decode cX9_fit 7 = .ok (.i2l, 1) := by decide +kernel
theorem dX9_fit_8 : decode cX9_fit 8 = .ok (.goto 27, 3) := by decide +kernel
theorem dX9_fit_11 : decode cX9_fit 11 = .ok (.iload_n 0, 1) := by decide +kernel
theorem dX9_fit_12 : decode cX9_fit 12 = .ok (.iconst 1, 1) := by decide +kernel
theorem dX9_fit_13 : decode cX9_fit 13 = .ok (.if_icmp .ne 10, 3) := by decide +kernel
theorem dX9_fit_16 : decode cX9_fit 16 = .ok (.lload_n 1, 1) := by decide +kernel
theorem dX9_fit_17 : decode cX9_fit 17 = .ok (.l2i, 1) := by decide +kernel
theorem dX9_fit_18 : decode cX9_fit 18 = .ok (.i2s, 1) := by decide +kernel
theorem dX9_fit_19 : decode cX9_fit 19 = .ok (.i2l, 1) := by decide +kernel
theorem dX9_fit_20 : decode cX9_fit 20 = .ok (.goto 15, 3) := by decide +kernel
theorem dX9_fit_23 : decode cX9_fit 23 = .ok (.iload_n 0, 1) := by decide +kernel
theorem dX9_fit_24 : decode cX9_fit 24 = .ok (.iconst 2, 1) := by decide +kernel
theorem dX9_fit_25 : decode cX9_fit 25 = .ok (.if_icmp .ne 9, 3) := by decide +kernel
theorem dX9_fit_28 : decode cX9_fit 28 = .ok (.lload_n 1, 1) := by decide +kernel
theorem dX9_fit_29 : decode cX9_fit 29 = .ok (.l2i, 1) := by decide +kernel
theorem dX9_fit_30 : decode cX9_fit 30 = .ok (.i2l, 1) := by decide +kernel
theorem dX9_fit_31 : decode cX9_fit 31 = .ok (.goto 4, 3) := by decide +kernel
theorem dX9_fit_34 : decode cX9_fit 34 = .ok (.lload_n 1, 1) := by decide +kernel
theorem dX9_fit_35 : decode cX9_fit 35 = .ok (.lreturn, 1) := by decide +kernel
theorem dX9_row_0 : decode cX9_row 0 = .ok (.iload_n 1, 1) := by decide +kernel
theorem dX9_row_1 : decode cX9_row 1 = .ok (.invokestatic 162, 3) := by decide +kernel
theorem dX9_row_4 : decode cX9_row 4 = .ok (.ifCond .ne 9, 3) := by decide +kernel
theorem dX9_row_7 : decode cX9_row 7 = .ok (.aload_n 0, 1) := by decide +kernel
theorem dX9_row_8 : decode cX9_row 8 = .ok (.iconst (-1), 1) := by decide +kernel
theorem dX9_row_9 : decode cX9_row 9 = .ok (.invokevirtual 146, 3) := by decide +kernel
theorem dX9_row_12 : decode cX9_row 12 = .ok (.ireturn, 1) := by decide +kernel
theorem dX9_row_13 : decode cX9_row 13 = .ok (.iload_n 3, 1) := by decide +kernel
theorem dX9_row_14 : decode cX9_row 14 = .ok (.ifCond .ge 10, 3) := by decide +kernel
theorem dX9_row_17 : decode cX9_row 17 = .ok (.aload_n 0, 1) := by decide +kernel
theorem dX9_row_18 : decode cX9_row 18 = .ok (.bipush (-4), 2) := by decide +kernel
theorem dX9_row_20 : decode cX9_row 20 = .ok (.invokevirtual 146, 3) := by decide +kernel
theorem dX9_row_23 : decode cX9_row 23 = .ok (.ireturn, 1) := by decide +kernel
theorem dX9_row_24 : decode cX9_row 24 = .ok (.iload_n 2, 1) := by decide +kernel
theorem dX9_row_25 : decode cX9_row 25 = .ok (.i2l, 1) := by decide +kernel
theorem dX9_row_26 : decode cX9_row 26 = .ok (.lconst 0, 1) := by decide +kernel
theorem dX9_row_27 : decode cX9_row 27 = .ok (.ldc2_w 150, 3) := by decide +kernel
theorem dX9_row_30 : decode cX9_row 30 = .ok (.invokestatic 152, 3) := by decide +kernel
theorem dX9_row_33 : decode cX9_row 33 = .ok (.ifCond .ne 10, 3) := by decide +kernel
theorem dX9_row_36 : decode cX9_row 36 = .ok (.aload_n 0, 1) := by decide +kernel
theorem dX9_row_37 : decode cX9_row 37 = .ok (.bipush (-6), 2) := by decide +kernel
theorem dX9_row_39 : decode cX9_row 39 = .ok (.invokevirtual 146, 3) := by decide +kernel
theorem dX9_row_42 : decode cX9_row 42 = .ok (.ireturn, 1) := by decide +kernel
theorem dX9_row_43 : decode cX9_row 43 = .ok (.iload_n 3, 1) := by decide +kernel
theorem dX9_row_44 : decode cX9_row 44 = .ok (.bipush 30, 2) := by decide +kernel
theorem dX9_row_46 : decode cX9_row 46 = .ok (.if_icmp .le 10, 3) := by decide +kernel
theorem dX9_row_49 : decode cX9_row 49 = .ok (.aload_n 0, 1) := by decide +kernel
theorem dX9_row_50 : decode cX9_row 50 = .ok (.bipush (-7), 2) := by decide +kernel
theorem dX9_row_52 : decode cX9_row 52 = .ok (.invokevirtual 146, 3) := by decide +kernel
theorem dX9_row_55 : decode cX9_row 55 = .ok (.ireturn, 1) := by decide +kernel
theorem dX9_row_56 : decode cX9_row 56 = .ok (.aload_n 0, 1) := by decide +kernel
theorem dX9_row_57 : decode cX9_row 57 = .ok (.getfield 84, 3) := by decide +kernel
theorem dX9_row_60 : decode cX9_row 60 = .ok (.iload_n 1, 1) := by decide +kernel
theorem dX9_row_61 : decode cX9_row 61 = .ok (.iconst 1, 1) := by decide +kernel
theorem dX9_row_62 : decode cX9_row 62 = .ok (.iastore, 1) := by decide +kernel
theorem dX9_row_63 : decode cX9_row 63 = .ok (.aload_n 0, 1) := by decide +kernel
theorem dX9_row_64 : decode cX9_row 64 = .ok (.getfield 87, 3) := by decide +kernel
theorem dX9_row_67 : decode cX9_row 67 = .ok (.iload_n 1, 1) := by decide +kernel
theorem dX9_row_68 : decode cX9_row 68 = .ok (.iload_n 2, 1) := by decide +kernel
theorem dX9_row_69 : decode cX9_row 69 = .ok (.iastore, 1) := by decide +kernel
theorem dX9_row_70 : decode cX9_row 70 = .ok (.aload_n 0, 1) := by decide +kernel
theorem dX9_row_71 : decode cX9_row 71 = .ok (.getfield 90, 3) := by decide +kernel
theorem dX9_row_74 : decode cX9_row 74 = .ok (.iload_n 1, 1) := by decide +kernel
theorem dX9_row_75 : decode cX9_row 75 = .ok (.iload_n 3, 1) := by decide +kernel
theorem dX9_row_76 : decode cX9_row 76 = .ok (.iastore, 1) := by decide +kernel
theorem dX9_row_77 : decode cX9_row 77 = .ok (.iconst 0, 1) := by decide +kernel
theorem dX9_row_78 : decode cX9_row 78 = .ok (.istore 4, 2) := by decide +kernel
theorem dX9_row_80 : decode cX9_row 80 = .ok (.iload 4, 2) := by decide +kernel
theorem dX9_row_82 : decode cX9_row 82 = .ok (.bipush 30, 2) := by decide +kernel
theorem dX9_row_84 : decode cX9_row 84 = .ok (.if_icmp .ge 22, 3) := by decide +kernel
theorem dX9_row_87 : decode cX9_row 87 = .ok (.aload_n 0, 1) := by decide +kernel
theorem dX9_row_88 : decode cX9_row 88 = .ok (.getfield 93, 3) := by decide +kernel
theorem dX9_row_91 : decode cX9_row 91 = .ok (.bipush 30, 2) := by decide +kernel
theorem dX9_row_93 : decode cX9_row 93 = .ok (.iload_n 1, 1) := by decide +kernel
theorem dX9_row_94 : decode cX9_row 94 = .ok (.imul, 1) := by decide +kernel
theorem dX9_row_95 : decode cX9_row 95 = .ok (.iload 4, 2) := by decide +kernel
theorem dX9_row_97 : decode cX9_row 97 = .ok (.iadd, 1) := by decide +kernel
theorem dX9_row_98 : decode cX9_row 98 = .ok (.lconst 0, 1) := by decide +kernel
theorem dX9_row_99 : decode cX9_row 99 = .ok (.lastore, 1) := by decide +kernel
theorem dX9_row_100 : decode cX9_row 100 = .ok (.iinc 4 1, 3) := by decide +kernel
theorem dX9_row_103 : decode cX9_row 103 = .ok (.goto (-23), 3) := by decide +kernel
theorem dX9_row_106 : decode cX9_row 106 = .ok (.iconst 1, 1) := by decide +kernel
theorem dX9_row_107 : decode cX9_row 107 = .ok (.ireturn, 1) := by decide +kernel
theorem dX9_notRow_0 : decode cX9_notRow 0 = .ok (.iload_n 1, 1) := by decide +kernel
theorem dX9_notRow_1 : decode cX9_notRow 1 = .ok (.invokestatic 162, 3) := by decide +kernel
theorem dX9_notRow_4 : decode cX9_notRow 4 = .ok (.ifCond .ne 7, 3) := by decide +kernel
theorem dX9_notRow_7 : decode cX9_notRow 7 = .ok (.iconst (-1), 1) := by decide +kernel
theorem dX9_notRow_8 : decode cX9_notRow 8 = .ok (.goto 33, 3) := by decide +kernel
theorem dX9_notRow_11 : decode cX9_notRow 11 = .ok (.aload_n 0, 1) := by decide +kernel
theorem dX9_notRow_12 : decode cX9_notRow 12 = .ok (.getfield 84, 3) := by decide +kernel
theorem dX9_notRow_15 : decode cX9_notRow 15 = .ok (.iload_n 1, 1) := by decide +kernel
theorem dX9_notRow_16 : decode cX9_notRow 16 = .ok (.iaload, 1) := by decide +kernel
theorem dX9_notRow_17 : decode cX9_notRow 17 = .ok (.iconst 2, 1) := by decide +kernel
theorem dX9_notRow_18 : decode cX9_notRow 18 = .ok (.if_icmp .ne 8, 3) := by decide +kernel
theorem dX9_notRow_21 : decode cX9_notRow 21 = .ok (.bipush (-2), 2) := by decide +kernel
theorem dX9_notRow_23 : decode cX9_notRow 23 = .ok (.goto 18, 3) := by decide +kernel
theorem dX9_notRow_26 : decode cX9_notRow 26 = .ok (.aload_n 0, 1) := by decide +kernel
theorem dX9_notRow_27 : decode cX9_notRow 27 = .ok (.getfield 84, 3) := by decide +kernel
theorem dX9_notRow_30 : decode cX9_notRow 30 = .ok (.iload_n 1, 1) := by decide +kernel
theorem dX9_notRow_31 : decode cX9_notRow 31 = .ok (.iaload, 1) := by decide +kernel
theorem dX9_notRow_32 : decode cX9_notRow 32 = .ok (.ifCond .ne 8, 3) := by decide +kernel
theorem dX9_notRow_35 : decode cX9_notRow 35 = .ok (.bipush (-3), 2) := by decide +kernel
theorem dX9_notRow_37 : decode cX9_notRow 37 = .ok (.goto 4, 3) := by decide +kernel
theorem dX9_notRow_40 : decode cX9_notRow 40 = .ok (.iconst 0, 1) := by decide +kernel
theorem dX9_notRow_41 : decode cX9_notRow 41 = .ok (.ireturn, 1) := by decide +kernel
theorem dX9_set_0 : decode cX9_set 0 = .ok (.aload_n 0, 1) := by decide +kernel
theorem dX9_set_1 : decode cX9_set 1 = .ok (.iload_n 1, 1) := by decide +kernel
theorem dX9_set_2 : decode cX9_set 2 = .ok (.invokevirtual 165, 3) := by decide +kernel
theorem dX9_set_5 : decode cX9_set 5 = .ok (.istore 5, 2) := by decide +kernel
theorem dX9_set_7 : decode cX9_set 7 = .ok (.iload 5, 2) := by decide +kernel
theorem dX9_set_9 : decode cX9_set 9 = .ok (.ifCond .ne 25, 3) := by decide +kernel
theorem dX9_set_12 : decode cX9_set 12 = .ok (.iload_n 2, 1) := by decide +kernel
theorem dX9_set_13 : decode cX9_set 13 = .ok (.i2l, 1) := by decide +kernel
theorem dX9_set_14 : decode cX9_set 14 = .ok (.lconst 0, 1) := by decide +kernel
theorem dX9_set_15 : decode cX9_set 15 = .ok (.aload_n 0, 1) := by decide +kernel
theorem dX9_set_16 : decode cX9_set 16 = .ok (.getfield 90, 3) := by decide +kernel
theorem dX9_set_19 : decode cX9_set 19 = .ok (.iload_n 1, 1) := by decide +kernel
theorem dX9_set_20 : decode cX9_set 20 = .ok (.iaload, 1) := by decide +kernel
theorem dX9_set_21 : decode cX9_set 21 = .ok (.iconst 1, 1) := by decide +kernel
theorem dX9_set_22 : decode cX9_set 22 = .ok (.isub, 1) := by decide +kernel
theorem dX9_set_23 : decode cX9_set 23 = .ok (.i2l, 1) := by decide +kernel
theorem dX9_set_24 : decode cX9_set 24 = .ok (.invokestatic 152, 3) := by decide +kernel
theorem dX9_set_27 : decode cX9_set 27 = .ok (.ifCond .ne 7, 3) := by decide +kernel
theorem dX9_set_30 : decode cX9_set 30 = .ok (.bipush (-5), 2) := by decide +kernel
theorem dX9_set_32 : decode cX9_set 32 = .ok (.istore 5, 2) := by decide +kernel
theorem dX9_set_34 : decode cX9_set 34 = .ok (.iload 5, 2) := by decide +kernel
theorem dX9_set_36 : decode cX9_set 36 = .ok (.ifCond .eq 10, 3) := by decide +kernel
theorem dX9_set_39 : decode cX9_set 39 = .ok (.aload_n 0, 1) := by decide +kernel
theorem dX9_set_40 : decode cX9_set 40 = .ok (.iload 5, 2) := by decide +kernel
theorem dX9_set_42 : decode cX9_set 42 = .ok (.invokevirtual 146, 3) := by decide +kernel
theorem dX9_set_45 : decode cX9_set 45 = .ok (.ireturn, 1) := by decide +kernel
theorem dX9_set_46 : decode cX9_set 46 = .ok (.aload_n 0, 1) := by decide +kernel
theorem dX9_set_47 : decode cX9_set 47 = .ok (.getfield 93, 3) := by decide +kernel
theorem dX9_set_50 : decode cX9_set 50 = .ok (.bipush 30, 2) := by decide +kernel
theorem dX9_set_52 : decode cX9_set 52 = .ok (.iload_n 1, 1) := by decide +kernel
theorem dX9_set_53 : decode cX9_set 53 = .ok (.imul, 1) := by decide +kernel
theorem dX9_set_54 : decode cX9_set 54 = .ok (.iload_n 2, 1) := by decide +kernel
theorem dX9_set_55 : decode cX9_set 55 = .ok (.iadd, 1) := by decide +kernel
theorem dX9_set_56 : decode cX9_set 56 = .ok (.aload_n 0, 1) := by decide +kernel
theorem dX9_set_57 : decode cX9_set 57 = .ok (.getfield 87, 3) := by decide +kernel
theorem dX9_set_60 : decode cX9_set 60 = .ok (.iload_n 1, 1) := by decide +kernel
theorem dX9_set_61 : decode cX9_set 61 = .ok (.iaload, 1) := by decide +kernel
theorem dX9_set_62 : decode cX9_set 62 = .ok (.lload_n 3, 1) := by decide +kernel
theorem dX9_set_63 : decode cX9_set 63 = .ok (.invokestatic 168, 3) := by decide +kernel
theorem dX9_set_66 : decode cX9_set 66 = .ok (.lastore, 1) := by decide +kernel
theorem dX9_set_67 : decode cX9_set 67 = .ok (.iconst 1, 1) := by decide +kernel
theorem dX9_set_68 : decode cX9_set 68 = .ok (.ireturn, 1) := by decide +kernel
theorem dX9_copy_0 : decode cX9_copy 0 = .ok (.iload_n 1, 1) := by decide +kernel
theorem dX9_copy_1 : decode cX9_copy 1 = .ok (.invokestatic 162, 3) := by decide +kernel
theorem dX9_copy_4 : decode cX9_copy 4 = .ok (.ifCond .eq 10, 3) := by decide +kernel
theorem dX9_copy_7 : decode cX9_copy 7 = .ok (.iload_n 2, 1) := by decide +kernel
theorem dX9_copy_8 : decode cX9_copy 8 = .ok (.invokestatic 162, 3) := by decide +kernel
theorem dX9_copy_11 : decode cX9_copy 11 = .ok (.ifCond .ne 9, 3) := by decide +kernel
theorem dX9_copy_14 : decode cX9_copy 14 = .ok (.aload_n 0, 1) := by decide +kernel
theorem dX9_copy_15 : decode cX9_copy 15 = .ok (.iconst (-1), 1) := by decide +kernel
theorem dX9_copy_16 : decode cX9_copy 16 = .ok (.invokevirtual 146, 3) := by decide +kernel
theorem dX9_copy_19 : decode cX9_copy 19 = .ok (.ireturn, 1) := by decide +kernel
theorem dX9_copy_20 : decode cX9_copy 20 = .ok (.aload_n 0, 1) := by decide +kernel
theorem dX9_copy_21 : decode cX9_copy 21 = .ok (.getfield 84, 3) := by decide +kernel
theorem dX9_copy_24 : decode cX9_copy 24 = .ok (.iload_n 1, 1) := by decide +kernel
theorem dX9_copy_25 : decode cX9_copy 25 = .ok (.iaload, 1) := by decide +kernel
theorem dX9_copy_26 : decode cX9_copy 26 = .ok (.iconst 2, 1) := by decide +kernel
theorem dX9_copy_27 : decode cX9_copy 27 = .ok (.if_icmp .eq 48, 3) := by decide +kernel
theorem dX9_copy_30 : decode cX9_copy 30 = .ok (.aload_n 0, 1) := by decide +kernel
theorem dX9_copy_31 : decode cX9_copy 31 = .ok (.getfield 84, 3) := by decide +kernel
theorem dX9_copy_34 : decode cX9_copy 34 = .ok (.iload_n 2, 1) := by decide +kernel
theorem dX9_copy_35 : decode cX9_copy 35 = .ok (.iaload, 1) := by decide +kernel
theorem dX9_copy_36 : decode cX9_copy 36 = .ok (.iconst 2, 1) := by decide +kernel
theorem dX9_copy_37 : decode cX9_copy 37 = .ok (.if_icmp .eq 38, 3) := by decide +kernel
theorem dX9_copy_40 : decode cX9_copy 40 = .ok (.aload_n 0, 1) := by decide +kernel
theorem dX9_copy_41 : decode cX9_copy 41 = .ok (.getfield 84, 3) := by decide +kernel
theorem dX9_copy_44 : decode cX9_copy 44 = .ok (.iload_n 1, 1) := by decide +kernel
theorem dX9_copy_45 : decode cX9_copy 45 = .ok (.iaload, 1) := by decide +kernel
theorem dX9_copy_46 : decode cX9_copy 46 = .ok (.iconst 1, 1) := by decide +kernel
theorem dX9_copy_47 : decode cX9_copy 47 = .ok (.if_icmp .ne 35, 3) := by decide +kernel
theorem dX9_copy_50 : decode cX9_copy 50 = .ok (.aload_n 0, 1) := by decide +kernel
theorem dX9_copy_51 : decode cX9_copy 51 = .ok (.getfield 84, 3) := by decide +kernel
theorem dX9_copy_54 : decode cX9_copy 54 = .ok (.iload_n 2, 1) := by decide +kernel
theorem dX9_copy_55 : decode cX9_copy 55 = .ok (.iaload, 1) := by decide +kernel
theorem dX9_copy_56 : decode cX9_copy 56 = .ok (.iconst 1, 1) := by decide +kernel
theorem dX9_copy_57 : decode cX9_copy 57 = .ok (.if_icmp .ne 25, 3) := by decide +kernel
theorem dX9_copy_60 : decode cX9_copy 60 = .ok (.aload_n 0, 1) := by decide +kernel
theorem dX9_copy_61 : decode cX9_copy 61 = .ok (.getfield 87, 3) := by decide +kernel
theorem dX9_copy_64 : decode cX9_copy 64 = .ok (.iload_n 1, 1) := by decide +kernel
theorem dX9_copy_65 : decode cX9_copy 65 = .ok (.iaload, 1) := by decide +kernel
theorem dX9_copy_66 : decode cX9_copy 66 = .ok (.aload_n 0, 1) := by decide +kernel
theorem dX9_copy_67 : decode cX9_copy 67 = .ok (.getfield 87, 3) := by decide +kernel
theorem dX9_copy_70 : decode cX9_copy 70 = .ok (.iload_n 2, 1) := by decide +kernel
theorem dX9_copy_71 : decode cX9_copy 71 = .ok (.iaload, 1) := by decide +kernel
theorem dX9_copy_72 : decode cX9_copy 72 = .ok (.if_icmp .eq 10, 3) := by decide +kernel
theorem dX9_copy_75 : decode cX9_copy 75 = .ok (.aload_n 0, 1) := by decide +kernel
theorem dX9_copy_76 : decode cX9_copy 76 = .ok (.bipush (-2), 2) := by decide +kernel
theorem dX9_copy_78 : decode cX9_copy 78 = .ok (.invokevirtual 146, 3) := by decide +kernel
theorem dX9_copy_81 : decode cX9_copy 81 = .ok (.ireturn, 1) := by decide +kernel
theorem dX9_copy_82 : decode cX9_copy 82 = .ok (.aload_n 0, 1) := by decide +kernel
theorem dX9_copy_83 : decode cX9_copy 83 = .ok (.getfield 84, 3) := by decide +kernel
theorem dX9_copy_86 : decode cX9_copy 86 = .ok (.iload_n 1, 1) := by decide +kernel
theorem dX9_copy_87 : decode cX9_copy 87 = .ok (.iaload, 1) := by decide +kernel
theorem dX9_copy_88 : decode cX9_copy 88 = .ok (.ifCond .eq 12, 3) := by decide +kernel
theorem dX9_copy_91 : decode cX9_copy 91 = .ok (.aload_n 0, 1) := by decide +kernel
theorem dX9_copy_92 : decode cX9_copy 92 = .ok (.getfield 84, 3) := by decide +kernel
theorem dX9_copy_95 : decode cX9_copy 95 = .ok (.iload_n 2, 1) := by decide +kernel
theorem dX9_copy_96 : decode cX9_copy 96 = .ok (.iaload, 1) := by decide +kernel
theorem dX9_copy_97 : decode cX9_copy 97 = .ok (.ifCond .ne 10, 3) := by decide +kernel
theorem dX9_copy_100 : decode cX9_copy 100 = .ok (.aload_n 0, 1) := by decide +kernel
theorem dX9_copy_101 : decode cX9_copy 101 = .ok (.bipush (-3), 2) := by decide +kernel
theorem dX9_copy_103 : decode cX9_copy 103 = .ok (.invokevirtual 146, 3) := by decide +kernel
theorem dX9_copy_106 : decode cX9_copy 106 = .ok (.ireturn, 1) := by decide +kernel
theorem dX9_copy_107 : decode cX9_copy 107 = .ok (.iload 5, 2) := by decide +kernel
theorem dX9_copy_109 : decode cX9_copy 109 = .ok (.ifCond .ge 10, 3) := by decide +kernel
theorem dX9_copy_112 : decode cX9_copy 112 = .ok (.aload_n 0, 1) := by decide +kernel
theorem dX9_copy_113 : decode cX9_copy 113 = .ok (.bipush (-4), 2) := by decide +kernel
theorem dX9_copy_115 : decode cX9_copy 115 = .ok (.invokevirtual 146, 3) := by decide +kernel
theorem dX9_copy_118 : decode cX9_copy 118 = .ok (.ireturn, 1) := by decide +kernel
theorem dX9_copy_119 : decode cX9_copy 119 = .ok (.iload_n 3, 1) := by decide +kernel
theorem dX9_copy_120 : decode cX9_copy 120 = .ok (.ifCond .lt 43, 3) := by decide +kernel
theorem dX9_copy_123 : decode cX9_copy 123 = .ok (.iload 4, 2) := by decide +kernel
theorem dX9_copy_125 : decode cX9_copy 125 = .ok (.ifCond .lt 38, 3) := by decide +kernel
theorem dX9_copy_128 : decode cX9_copy 128 = .ok (.iload_n 3, 1) := by decide +kernel
theorem dX9_copy_129 : decode cX9_copy 129 = .ok (.i2l, 1) := by decide +kernel
theorem dX9_copy_130 : decode cX9_copy 130 = .ok (.iload 5, 2) := by decide +kernel
theorem dX9_copy_132 : decode cX9_copy 132 = .ok (.i2l, 1) := by decide +kernel
theorem dX9_copy_133 : decode cX9_copy 133 = .ok (.ladd, 1) := by decide +kernel
theorem dX9_copy_134 : decode cX9_copy 134 = .ok (.aload_n 0, 1) := by decide +kernel
theorem dX9_copy_135 : decode cX9_copy 135 = .ok (.getfield 90, 3) := by decide +kernel
theorem dX9_copy_138 : decode cX9_copy 138 = .ok (.iload_n 1, 1) := by decide +kernel
theorem dX9_copy_139 : decode cX9_copy 139 = .ok (.iaload, 1) := by decide +kernel
theorem dX9_copy_140 : decode cX9_copy 140 = .ok (.i2l, 1) := by decide +kernel
theorem dX9_copy_141 : decode cX9_copy 141 = .ok (.lcmp, 1) := by decide +kernel
theorem dX9_copy_142 : decode cX9_copy 142 = .ok (.ifCond .gt 21, 3) := by decide +kernel
theorem dX9_copy_145 : decode cX9_copy 145 = .ok (.iload 4, 2) := by decide +kernel
theorem dX9_copy_147 : decode cX9_copy 147 = .ok (.i2l, 1) := by decide +kernel
theorem dX9_copy_148 : decode cX9_copy 148 = .ok (.iload 5, 2) := by decide +kernel
theorem dX9_copy_150 : decode cX9_copy 150 = .ok (.i2l, 1) := by decide +kernel
theorem dX9_copy_151 : decode cX9_copy 151 = .ok (.ladd, 1) := by decide +kernel
theorem dX9_copy_152 : decode cX9_copy 152 = .ok (.aload_n 0, 1) := by decide +kernel
theorem dX9_copy_153 : decode cX9_copy 153 = .ok (.getfield 90, 3) := by decide +kernel
theorem dX9_copy_156 : decode cX9_copy 156 = .ok (.iload_n 2, 1) := by decide +kernel
theorem dX9_copy_157 : decode cX9_copy 157 = .ok (.iaload, 1) := by decide +kernel
theorem dX9_copy_158 : decode cX9_copy 158 = .ok (.i2l, 1) := by decide +kernel
theorem dX9_copy_159 : decode cX9_copy 159 = .ok (.lcmp, 1) := by decide +kernel
theorem dX9_copy_160 : decode cX9_copy 160 = .ok (.ifCond .le 10, 3) := by decide +kernel
theorem dX9_copy_163 : decode cX9_copy 163 = .ok (.aload_n 0, 1) := by decide +kernel
theorem dX9_copy_164 : decode cX9_copy 164 = .ok (.bipush (-5), 2) := by decide +kernel
theorem dX9_copy_166 : decode cX9_copy 166 = .ok (.invokevirtual 146, 3) := by decide +kernel
theorem dX9_copy_169 : decode cX9_copy 169 = .ok (.ireturn, 1) := by decide +kernel
theorem dX9_copy_170 : decode cX9_copy 170 = .ok (.iconst 0, 1) := by decide +kernel
theorem dX9_copy_171 : decode cX9_copy 171 = .ok (.istore 6, 2) := by decide +kernel
theorem dX9_copy_173 : decode cX9_copy 173 = .ok (.iload 6, 2) := by decide +kernel
theorem dX9_copy_175 : decode cX9_copy 175 = .ok (.iload 5, 2) := by decide +kernel
theorem dX9_copy_177 : decode cX9_copy 177 = .ok (.if_icmp .ge 30, 3) := by decide +kernel
theorem dX9_copy_180 : decode cX9_copy 180 = .ok (.aload_n 0, 1) := by decide +kernel
theorem dX9_copy_181 : decode cX9_copy 181 = .ok (.getfield 97, 3) := by decide +kernel
theorem dX9_copy_184 : decode cX9_copy 184 = .ok (.iload 6, 2) := by decide +kernel
theorem dX9_copy_186 : decode cX9_copy 186 = .ok (.aload_n 0, 1) := by decide +kernel
theorem dX9_copy_187 : decode cX9_copy 187 = .ok (.getfield 93, 3) := by decide +kernel
theorem dX9_copy_190 : decode cX9_copy 190 = .ok (.bipush 30, 2) := by decide +kernel
theorem dX9_copy_192 : decode cX9_copy 192 = .ok (.iload_n 1, 1) := by decide +kernel
theorem dX9_copy_193 : decode cX9_copy 193 = .ok (.imul, 1) := by decide +kernel
theorem dX9_copy_194 : decode cX9_copy 194 = .ok (.iload_n 3, 1) := by decide +kernel
theorem dX9_copy_195 : decode cX9_copy 195 = .ok (.iadd, 1) := by decide +kernel
theorem dX9_copy_196 : decode cX9_copy 196 = .ok (.iload 6, 2) := by decide +kernel
theorem dX9_copy_198 : decode cX9_copy 198 = .ok (.iadd, 1) := by decide +kernel
theorem dX9_copy_199 : decode cX9_copy 199 = .ok (.laload, 1) := by decide +kernel
theorem dX9_copy_200 : decode cX9_copy 200 = .ok (.lastore, 1) := by decide +kernel
theorem dX9_copy_201 : decode cX9_copy 201 = .ok (.iinc 6 1, 3) := by decide +kernel
theorem dX9_copy_204 : decode cX9_copy 204 = .ok (.goto (-31), 3) := by decide +kernel
theorem dX9_copy_207 : decode cX9_copy 207 = .ok (.iconst 0, 1) := by decide +kernel
theorem dX9_copy_208 : decode cX9_copy 208 = .ok (.istore 6, 2) := by decide +kernel
theorem dX9_copy_210 : decode cX9_copy 210 = .ok (.iload 6, 2) := by decide +kernel
theorem dX9_copy_212 : decode cX9_copy 212 = .ok (.iload 5, 2) := by decide +kernel
theorem dX9_copy_214 : decode cX9_copy 214 = .ok (.if_icmp .ge 31, 3) := by decide +kernel
theorem dX9_copy_217 : decode cX9_copy 217 = .ok (.aload_n 0, 1) := by decide +kernel
theorem dX9_copy_218 : decode cX9_copy 218 = .ok (.getfield 93, 3) := by decide +kernel
theorem dX9_copy_221 : decode cX9_copy 221 = .ok (.bipush 30, 2) := by decide +kernel
theorem dX9_copy_223 : decode cX9_copy 223 = .ok (.iload_n 2, 1) := by decide +kernel
theorem dX9_copy_224 : decode cX9_copy 224 = .ok (.imul, 1) := by decide +kernel
theorem dX9_copy_225 : decode cX9_copy 225 = .ok (.iload 4, 2) := by decide +kernel
theorem dX9_copy_227 : decode cX9_copy 227 = .ok (.iadd, 1) := by decide +kernel
theorem dX9_copy_228 : decode cX9_copy 228 = .ok (.iload 6, 2) := by decide +kernel
theorem dX9_copy_230 : decode cX9_copy 230 = .ok (.iadd, 1) := by decide +kernel
theorem dX9_copy_231 : decode cX9_copy 231 = .ok (.aload_n 0, 1) := by decide +kernel
theorem dX9_copy_232 : decode cX9_copy 232 = .ok (.getfield 97, 3) := by decide +kernel
theorem dX9_copy_235 : decode cX9_copy 235 = .ok (.iload 6, 2) := by decide +kernel
theorem dX9_copy_237 : decode cX9_copy 237 = .ok (.laload, 1) := by decide +kernel
theorem dX9_copy_238 : decode cX9_copy 238 = .ok (.lastore, 1) := by decide +kernel
theorem dX9_copy_239 : decode cX9_copy 239 = .ok (.iinc 6 1, 3) := by decide +kernel
theorem dX9_copy_242 : decode cX9_copy 242 = .ok (.goto (-32), 3) := by decide +kernel
theorem dX9_copy_245 : decode cX9_copy 245 = .ok (.iconst 1, 1) := by decide +kernel
theorem dX9_copy_246 : decode cX9_copy 246 = .ok (.ireturn, 1) := by decide +kernel
theorem dX9_element_0 : decode cX9_element 0 = .ok (.iload_n 1, 1) := by decide +kernel
theorem dX9_element_1 : decode cX9_element 1 = .ok (.invokestatic 162, 3) := by decide +kernel
theorem dX9_element_4 : decode cX9_element 4 = .ok (.ifCond .eq 45, 3) := by decide +kernel
theorem dX9_element_7 : decode cX9_element 7 = .ok (.aload_n 0, 1) := by decide +kernel
theorem dX9_element_8 : decode cX9_element 8 = .ok (.getfield 84, 3) := by decide +kernel
theorem dX9_element_11 : decode cX9_element 11 = .ok (.iload_n 1, 1) := by decide +kernel
theorem dX9_element_12 : decode cX9_element 12 = .ok (.iaload, 1) := by decide +kernel
theorem dX9_element_13 : decode cX9_element 13 = .ok (.iconst 1, 1) := by decide +kernel
theorem dX9_element_14 : decode cX9_element 14 = .ok (.if_icmp .ne 35, 3) := by decide +kernel
theorem dX9_element_17 : decode cX9_element 17 = .ok (.iload_n 2, 1) := by decide +kernel
theorem dX9_element_18 : decode cX9_element 18 = .ok (.i2l, 1) := by decide +kernel
theorem dX9_element_19 : decode cX9_element 19 = .ok (.lconst 0, 1) := by decide +kernel
theorem dX9_element_20 : decode cX9_element 20 = .ok (.aload_n 0, 1) := by decide +kernel
theorem dX9_element_21 : decode cX9_element 21 = .ok (.getfield 90, 3) := by decide +kernel
theorem dX9_element_24 : decode cX9_element 24 = .ok (.iload_n 1, 1) := by decide +kernel
theorem dX9_element_25 : decode cX9_element 25 = .ok (.iaload, 1) := by decide +kernel
theorem dX9_element_26 : decode cX9_element 26 = .ok (.iconst 1, 1) := by decide +kernel
theorem dX9_element_27 : decode cX9_element 27 = .ok (.isub, 1) := by decide +kernel
theorem dX9_element_28 : decode cX9_element 28 = .ok (.i2l, 1) := by decide +kernel
theorem dX9_element_29 : decode cX9_element 29 = .ok (.invokestatic 152, 3) := by decide +kernel
theorem dX9_element_32 : decode cX9_element 32 = .ok (.ifCond .eq 17, 3) := by decide +kernel
theorem dX9_element_35 : decode cX9_element 35 = .ok (.aload_n 0, 1) := by decide +kernel
theorem dX9_element_36 : decode cX9_element 36 = .ok (.getfield 93, 3) := by decide +kernel
theorem dX9_element_39 : decode cX9_element 39 = .ok (.bipush 30, 2) := by decide +kernel
theorem dX9_element_41 : decode cX9_element 41 = .ok (.iload_n 1, 1) := by decide +kernel
theorem dX9_element_42 : decode cX9_element 42 = .ok (.imul, 1) := by decide +kernel
theorem dX9_element_43 : decode cX9_element 43 = .ok (.iload_n 2, 1) := by decide +kernel
theorem dX9_element_44 : decode cX9_element 44 = .ok (.iadd, 1) := by decide +kernel
theorem dX9_element_45 : decode cX9_element 45 = .ok (.laload, 1) := by decide +kernel
theorem dX9_element_46 : decode cX9_element 46 = .ok (.goto 4, 3) := by decide +kernel
theorem dX9_element_49 : decode cX9_element 49 = .ok (.lconst 0, 1) := by decide +kernel
theorem dX9_element_50 : decode cX9_element 50 = .ok (.lreturn, 1) := by decide +kernel
theorem dX9_show_0 : decode cX9_show 0 = .ok (.iload_n 1, 1) := by decide +kernel
theorem dX9_show_1 : decode cX9_show 1 = .ok (.invokestatic 162, 3) := by decide +kernel
theorem dX9_show_4 : decode cX9_show 4 = .ok (.ifCond .eq 16, 3) := by decide +kernel
theorem dX9_show_7 : decode cX9_show 7 = .ok (.iload_n 2, 1) := by decide +kernel
theorem dX9_show_8 : decode cX9_show 8 = .ok (.iconst (-1), 1) := by decide +kernel
theorem dX9_show_9 : decode cX9_show 9 = .ok (.if_icmp .eq 17, 3) := by decide +kernel
theorem dX9_show_12 : decode cX9_show 12 = .ok (.aload_n 0, 1) := by decide +kernel
theorem dX9_show_13 : decode cX9_show 13 = .ok (.iload_n 2, 1) := by decide +kernel
theorem dX9_show_14 : decode cX9_show 14 = .ok (.invokevirtual 172, 3) := by decide +kernel
theorem dX9_show_17 : decode cX9_show 17 = .ok (.ifCond .ne 9, 3) := by decide +kernel
theorem dX9_show_20 : decode cX9_show 20 = .ok (.aload_n 0, 1) := by decide +kernel
theorem dX9_show_21 : decode cX9_show 21 = .ok (.iconst (-1), 1) := by decide +kernel
theorem dX9_show_22 : decode cX9_show 22 = .ok (.invokevirtual 146, 3) := by decide +kernel
theorem dX9_show_25 : decode cX9_show 25 = .ok (.ireturn, 1) := by decide +kernel
theorem dX9_show_26 : decode cX9_show 26 = .ok (.aload_n 0, 1) := by decide +kernel
theorem dX9_show_27 : decode cX9_show 27 = .ok (.getfield 84, 3) := by decide +kernel
theorem dX9_show_30 : decode cX9_show 30 = .ok (.iload_n 1, 1) := by decide +kernel
theorem dX9_show_31 : decode cX9_show 31 = .ok (.iload_n 2, 1) := by decide +kernel
theorem dX9_show_32 : decode cX9_show 32 = .ok (.iconst (-1), 1) := by decide +kernel
theorem dX9_show_33 : decode cX9_show 33 = .ok (.if_icmp .ne 7, 3) := by decide +kernel
theorem dX9_show_36 : decode cX9_show 36 = .ok (.iconst 0, 1) := by decide +kernel
theorem dX9_show_37 : decode cX9_show 37 = .ok (.goto 4, 3) := by decide +kernel
theorem dX9_show_40 : decode cX9_show 40 = .ok (.iconst 2, 1) := by decide +kernel
theorem dX9_show_41 : decode cX9_show 41 = .ok (.iastore, 1) := by decide +kernel
theorem dX9_show_42 : decode cX9_show 42 = .ok (.aload_n 0, 1) := by decide +kernel
theorem dX9_show_43 : decode cX9_show 43 = .ok (.getfield 87, 3) := by decide +kernel
theorem dX9_show_46 : decode cX9_show 46 = .ok (.iload_n 1, 1) := by decide +kernel
theorem dX9_show_47 : decode cX9_show 47 = .ok (.iload_n 2, 1) := by decide +kernel
theorem dX9_show_48 : decode cX9_show 48 = .ok (.iastore, 1) := by decide +kernel
theorem dX9_show_49 : decode cX9_show 49 = .ok (.iload_n 2, 1) := by decide +kernel
theorem dX9_show_50 : decode cX9_show 50 = .ok (.iconst (-1), 1) := by decide +kernel
theorem dX9_show_51 : decode cX9_show 51 = .ok (.if_icmp .ne 7, 3) := by decide +kernel
theorem dX9_show_54 : decode cX9_show 54 = .ok (.iconst 0, 1) := by decide +kernel
theorem dX9_show_55 : decode cX9_show 55 = .ok (.goto 4, 3) := by decide +kernel
theorem dX9_show_58 : decode cX9_show 58 = .ok (.iconst 1, 1) := by decide +kernel
theorem dX9_show_59 : decode cX9_show 59 = .ok (.ireturn, 1) := by decide +kernel
theorem dX9_holds_0 : decode cX9_holds 0 = .ok (.iload_n 1, 1) := by decide +kernel
theorem dX9_holds_1 : decode cX9_holds 1 = .ok (.invokestatic 162, 3) := by decide +kernel
theorem dX9_holds_4 : decode cX9_holds 4 = .ok (.ifCond .eq 12, 3) := by decide +kernel
theorem dX9_holds_7 : decode cX9_holds 7 = .ok (.aload_n 0, 1) := by decide +kernel
theorem dX9_holds_8 : decode cX9_holds 8 = .ok (.getfield 84, 3) := by decide +kernel
theorem dX9_holds_11 : decode cX9_holds 11 = .ok (.iload_n 1, 1) := by decide +kernel
theorem dX9_holds_12 : decode cX9_holds 12 = .ok (.iaload, 1) := by decide +kernel
theorem dX9_holds_13 : decode cX9_holds 13 = .ok (.ifCond .ne 7, 3) := by decide +kernel
theorem dX9_holds_16 : decode cX9_holds 16 = .ok (.iconst (-1), 1) := by decide +kernel
theorem dX9_holds_17 : decode cX9_holds 17 = .ok (.goto 31, 3) := by decide +kernel
theorem dX9_holds_20 : decode cX9_holds 20 = .ok (.aload_n 0, 1) := by decide +kernel
theorem dX9_holds_21 : decode cX9_holds 21 = .ok (.getfield 84, 3) := by decide +kernel
theorem dX9_holds_24 : decode cX9_holds 24 = .ok (.iload_n 1, 1) := by decide +kernel
theorem dX9_holds_25 : decode cX9_holds 25 = .ok (.iaload, 1) := by decide +kernel
theorem dX9_holds_26 : decode cX9_holds 26 = .ok (.iconst 2, 1) := by decide +kernel
theorem dX9_holds_27 : decode cX9_holds 27 = .ok (.if_icmp .ne 12, 3) := by decide +kernel
theorem dX9_holds_30 : decode cX9_holds 30 = .ok (.aload_n 0, 1) := by decide +kernel
theorem dX9_holds_31 : decode cX9_holds 31 = .ok (.getfield 87, 3) := by decide +kernel
theorem dX9_holds_34 : decode cX9_holds 34 = .ok (.iload_n 1, 1) := by decide +kernel
theorem dX9_holds_35 : decode cX9_holds 35 = .ok (.iaload, 1) := by decide +kernel
theorem dX9_holds_36 : decode cX9_holds 36 = .ok (.goto 12, 3) := by decide +kernel
theorem dX9_holds_39 : decode cX9_holds 39 = .ok (.bipush 100, 2) := by decide +kernel
theorem dX9_holds_41 : decode cX9_holds 41 = .ok (.aload_n 0, 1) := by decide +kernel
theorem dX9_holds_42 : decode cX9_holds 42 = .ok (.getfield 87, 3) := by decide +kernel
theorem dX9_holds_45 : decode cX9_holds 45 = .ok (.iload_n 1, 1) := by decide +kernel
theorem dX9_holds_46 : decode cX9_holds 46 = .ok (.iaload, 1) := by decide +kernel
theorem dX9_holds_47 : decode cX9_holds 47 = .ok (.iadd, 1) := by decide +kernel
theorem dX9_holds_48 : decode cX9_holds 48 = .ok (.ireturn, 1) := by decide +kernel
theorem dX9_blockIn_0 : decode cX9_blockIn 0 = .ok (.iload_n 1, 1) := by decide +kernel
theorem dX9_blockIn_1 : decode cX9_blockIn 1 = .ok (.invokestatic 162, 3) := by decide +kernel
theorem dX9_blockIn_4 : decode cX9_blockIn 4 = .ok (.ifCond .ne 9, 3) := by decide +kernel
theorem dX9_blockIn_7 : decode cX9_blockIn 7 = .ok (.aload_n 0, 1) := by decide +kernel
theorem dX9_blockIn_8 : decode cX9_blockIn 8 = .ok (.iconst (-1), 1) := by decide +kernel
theorem dX9_blockIn_9 : decode cX9_blockIn 9 = .ok (.invokevirtual 146, 3) := by decide +kernel
theorem dX9_blockIn_12 : decode cX9_blockIn 12 = .ok (.ireturn, 1) := by decide +kernel
theorem dX9_blockIn_13 : decode cX9_blockIn 13 = .ok (.aload_n 0, 1) := by decide +kernel
theorem dX9_blockIn_14 : decode cX9_blockIn 14 = .ok (.getfield 84, 3) := by decide +kernel
theorem dX9_blockIn_17 : decode cX9_blockIn 17 = .ok (.iload_n 1, 1) := by decide +kernel
theorem dX9_blockIn_18 : decode cX9_blockIn 18 = .ok (.iaload, 1) := by decide +kernel
theorem dX9_blockIn_19 : decode cX9_blockIn 19 = .ok (.iconst 2, 1) := by decide +kernel
theorem dX9_blockIn_20 : decode cX9_blockIn 20 = .ok (.if_icmp .eq 25, 3) := by decide +kernel
theorem dX9_blockIn_23 : decode cX9_blockIn 23 = .ok (.aload_n 0, 1) := by decide +kernel
theorem dX9_blockIn_24 : decode cX9_blockIn 24 = .ok (.aload_n 0, 1) := by decide +kernel
theorem dX9_blockIn_25 : decode cX9_blockIn 25 = .ok (.getfield 84, 3) := by decide +kernel
theorem dX9_blockIn_28 : decode cX9_blockIn 28 = .ok (.iload_n 1, 1) := by decide +kernel
theorem dX9_blockIn_29 : decode cX9_blockIn 29 = .ok (.iaload, 1) := by decide +kernel
theorem dX9_blockIn_30 : decode cX9_blockIn 30 = .ok (.iconst 1, 1) := by decide +kernel
theorem dX9_blockIn_31 : decode cX9_blockIn 31 = .ok (.if_icmp .ne 8, 3) := by decide +kernel
theorem dX9_blockIn_34 : decode cX9_blockIn 34 = .ok (.bipush (-2), 2) := by decide +kernel
theorem dX9_blockIn_36 : decode cX9_blockIn 36 = .ok (.goto 5, 3) := by decide +kernel
theorem dX9_blockIn_39 : decode cX9_blockIn 39 = .ok (.bipush (-3), 2) := by decide +kernel
theorem dX9_blockIn_41 : decode cX9_blockIn 41 = .ok (.invokevirtual 146, 3) := by decide +kernel
theorem dX9_blockIn_44 : decode cX9_blockIn 44 = .ok (.ireturn, 1) := by decide +kernel
theorem dX9_blockIn_45 : decode cX9_blockIn 45 = .ok (.aload_n 0, 1) := by decide +kernel
theorem dX9_blockIn_46 : decode cX9_blockIn 46 = .ok (.getfield 7, 3) := by decide +kernel
theorem dX9_blockIn_49 : decode cX9_blockIn 49 = .ok (.aload_n 0, 1) := by decide +kernel
theorem dX9_blockIn_50 : decode cX9_blockIn 50 = .ok (.getfield 87, 3) := by decide +kernel
theorem dX9_blockIn_53 : decode cX9_blockIn 53 = .ok (.iload_n 1, 1) := by decide +kernel
theorem dX9_blockIn_54 : decode cX9_blockIn 54 = .ok (.iaload, 1) := by decide +kernel
theorem dX9_blockIn_55 : decode cX9_blockIn 55 = .ok (.iaload, 1) := by decide +kernel
theorem dX9_blockIn_56 : decode cX9_blockIn 56 = .ok (.ireturn, 1) := by decide +kernel
theorem dX9_letter_0 : decode cX9_letter 0 = .ok (.iload_n 2, 1) := by decide +kernel
theorem dX9_letter_1 : decode cX9_letter 1 = .ok (.aload_n 0, 1) := by decide +kernel
theorem dX9_letter_2 : decode cX9_letter 2 = .ok (.getfield 90, 3) := by decide +kernel
theorem dX9_letter_5 : decode cX9_letter 5 = .ok (.iload_n 1, 1) := by decide +kernel
theorem dX9_letter_6 : decode cX9_letter 6 = .ok (.iaload, 1) := by decide +kernel
theorem dX9_letter_7 : decode cX9_letter 7 = .ok (.if_icmp .ge 18, 3) := by decide +kernel
theorem dX9_letter_10 : decode cX9_letter 10 = .ok (.aload_n 0, 1) := by decide +kernel
theorem dX9_letter_11 : decode cX9_letter 11 = .ok (.getfield 93, 3) := by decide +kernel
theorem dX9_letter_14 : decode cX9_letter 14 = .ok (.bipush 30, 2) := by decide +kernel
theorem dX9_letter_16 : decode cX9_letter 16 = .ok (.iload_n 1, 1) := by decide +kernel
theorem dX9_letter_17 : decode cX9_letter 17 = .ok (.imul, 1) := by decide +kernel
theorem dX9_letter_18 : decode cX9_letter 18 = .ok (.iload_n 2, 1) := by decide +kernel
theorem dX9_letter_19 : decode cX9_letter 19 = .ok (.iadd, 1) := by decide +kernel
theorem dX9_letter_20 : decode cX9_letter 20 = .ok (.laload, 1) := by decide +kernel
theorem dX9_letter_21 : decode cX9_letter 21 = .ok (.l2i, 1) := by decide +kernel
theorem dX9_letter_22 : decode cX9_letter 22 = .ok (.goto 4, 3) := by decide +kernel
theorem dX9_letter_25 : decode cX9_letter 25 = .ok (.iconst (-1), 1) := by decide +kernel
theorem dX9_letter_26 : decode cX9_letter 26 = .ok (.ireturn, 1) := by decide +kernel
theorem dX9_broken_0 : decode cX9_broken 0 = .ok (.iconst 0, 1) := by decide +kernel
theorem dX9_broken_1 : decode cX9_broken 1 = .ok (.istore_n 2, 1) := by decide +kernel
theorem dX9_broken_2 : decode cX9_broken 2 = .ok (.iload_n 2, 1) := by decide +kernel
theorem dX9_broken_3 : decode cX9_broken 3 = .ok (.bipush 6, 2) := by decide +kernel
theorem dX9_broken_5 : decode cX9_broken 5 = .ok (.if_icmp .ge 103, 3) := by decide +kernel
theorem dX9_broken_8 : decode cX9_broken 8 = .ok (.aload_n 0, 1) := by decide +kernel
theorem dX9_broken_9 : decode cX9_broken 9 = .ok (.iload_n 1, 1) := by decide +kernel
theorem dX9_broken_10 : decode cX9_broken 10 = .ok (.iload_n 2, 1) := by decide +kernel
theorem dX9_broken_11 : decode cX9_broken 11 = .ok (.invokevirtual 175, 3) := by decide +kernel
theorem dX9_broken_14 : decode cX9_broken 14 = .ok (.istore_n 3, 1) := by decide +kernel
theorem dX9_broken_15 : decode cX9_broken 15 = .ok (.iload_n 2, 1) := by decide +kernel
theorem dX9_broken_16 : decode cX9_broken 16 = .ok (.ifCond .ne 17, 3) := by decide +kernel
theorem dX9_broken_19 : decode cX9_broken 19 = .ok (.iload_n 3, 1) := by decide +kernel
theorem dX9_broken_20 : decode cX9_broken 20 = .ok (.bipush 107, 2) := by decide +kernel
theorem dX9_broken_22 : decode cX9_broken 22 = .ok (.if_icmp .ne 7, 3) := by decide +kernel
theorem dX9_broken_25 : decode cX9_broken 25 = .ok (.iconst 1, 1) := by decide +kernel
theorem dX9_broken_26 : decode cX9_broken 26 = .ok (.goto 67, 3) := by decide +kernel
theorem dX9_broken_29 : decode cX9_broken 29 = .ok (.iconst 0, 1) := by decide +kernel
theorem dX9_broken_30 : decode cX9_broken 30 = .ok (.goto 63, 3) := by decide +kernel
theorem dX9_broken_33 : decode cX9_broken 33 = .ok (.iload_n 2, 1) := by decide +kernel
theorem dX9_broken_34 : decode cX9_broken 34 = .ok (.iconst 2, 1) := by decide +kernel
theorem dX9_broken_35 : decode cX9_broken 35 = .ok (.if_icmp .ne 17, 3) := by decide +kernel
theorem dX9_broken_38 : decode cX9_broken 38 = .ok (.iload_n 3, 1) := by decide +kernel
theorem dX9_broken_39 : decode cX9_broken 39 = .ok (.bipush 112, 2) := by decide +kernel
theorem dX9_broken_41 : decode cX9_broken 41 = .ok (.if_icmp .ne 7, 3) := by decide +kernel
theorem dX9_broken_44 : decode cX9_broken 44 = .ok (.iconst 1, 1) := by decide +kernel
theorem dX9_broken_45 : decode cX9_broken 45 = .ok (.goto 48, 3) := by decide +kernel
theorem dX9_broken_48 : decode cX9_broken 48 = .ok (.iconst 0, 1) := by decide +kernel
theorem dX9_broken_49 : decode cX9_broken 49 = .ok (.goto 44, 3) := by decide +kernel
theorem dX9_broken_52 : decode cX9_broken 52 = .ok (.iload_n 2, 1) := by decide +kernel
theorem dX9_broken_53 : decode cX9_broken 53 = .ok (.iconst 4, 1) := by decide +kernel
theorem dX9_broken_54 : decode cX9_broken 54 = .ok (.if_icmp .ne 17, 3) := by decide +kernel
theorem dX9_broken_57 : decode cX9_broken 57 = .ok (.iload_n 3, 1) := by decide +kernel
theorem dX9_broken_58 : decode cX9_broken 58 = .ok (.bipush 99, 2) := by decide +kernel
theorem dX9_broken_60 : decode cX9_broken 60 = .ok (.if_icmp .ne 7, 3) := by decide +kernel
theorem dX9_broken_63 : decode cX9_broken 63 = .ok (.iconst 1, 1) := by decide +kernel
theorem dX9_broken_64 : decode cX9_broken 64 = .ok (.goto 29, 3) := by decide +kernel
theorem dX9_broken_67 : decode cX9_broken 67 = .ok (.iconst 0, 1) := by decide +kernel
theorem dX9_broken_68 : decode cX9_broken 68 = .ok (.goto 25, 3) := by decide +kernel
theorem dX9_broken_71 : decode cX9_broken 71 = .ok (.iload_n 3, 1) := by decide +kernel
theorem dX9_broken_72 : decode cX9_broken 72 = .ok (.i2l, 1) := by decide +kernel
theorem dX9_broken_73 : decode cX9_broken 73 = .ok (.iload_n 2, 1) := by decide +kernel
theorem dX9_broken_74 : decode cX9_broken 74 = .ok (.iconst 5, 1) := by decide +kernel
theorem dX9_broken_75 : decode cX9_broken 75 = .ok (.if_icmp .ne 9, 3) := by decide +kernel
theorem dX9_broken_78 : decode cX9_broken 78 = .ok (.ldc2_w 179, 3) := by decide +kernel
theorem dX9_broken_81 : decode cX9_broken 81 = .ok (.goto 6, 3) := by decide +kernel
theorem dX9_broken_84 : decode cX9_broken 84 = .ok (.ldc2_w 181, 3) := by decide +kernel
theorem dX9_broken_87 : decode cX9_broken 87 = .ok (.ldc2_w 183, 3) := by decide +kernel
theorem dX9_broken_90 : decode cX9_broken 90 = .ok (.invokestatic 152, 3) := by decide +kernel
theorem dX9_broken_93 : decode cX9_broken 93 = .ok (.istore 4, 2) := by decide +kernel
theorem dX9_broken_95 : decode cX9_broken 95 = .ok (.iload 4, 2) := by decide +kernel
theorem dX9_broken_97 : decode cX9_broken 97 = .ok (.ifCond .ne 5, 3) := by decide +kernel
theorem dX9_broken_100 : decode cX9_broken 100 = .ok (.iload_n 2, 1) := by decide +kernel
theorem dX9_broken_101 : decode cX9_broken 101 = .ok (.ireturn, 1) := by decide +kernel
theorem dX9_broken_102 : decode cX9_broken 102 = .ok (.iinc 2 1, 3) := by decide +kernel
theorem dX9_broken_105 : decode cX9_broken 105 = .ok (.goto (-103), 3) := by decide +kernel
theorem dX9_broken_108 : decode cX9_broken 108 = .ok (.aload_n 0, 1) := by decide +kernel
theorem dX9_broken_109 : decode cX9_broken 109 = .ok (.getfield 90, 3) := by decide +kernel
theorem dX9_broken_112 : decode cX9_broken 112 = .ok (.iload_n 1, 1) := by decide +kernel
theorem dX9_broken_113 : decode cX9_broken 113 = .ok (.iaload, 1) := by decide +kernel
theorem dX9_broken_114 : decode cX9_broken 114 = .ok (.bipush 6, 2) := by decide +kernel
theorem dX9_broken_116 : decode cX9_broken 116 = .ok (.if_icmp .le 8, 3) := by decide +kernel
theorem dX9_broken_119 : decode cX9_broken 119 = .ok (.bipush 6, 2) := by decide +kernel
theorem dX9_broken_121 : decode cX9_broken 121 = .ok (.goto 4, 3) := by decide +kernel
theorem dX9_broken_124 : decode cX9_broken 124 = .ok (.iconst (-1), 1) := by decide +kernel
theorem dX9_broken_125 : decode cX9_broken 125 = .ok (.ireturn, 1) := by decide +kernel
theorem dX9_law_0 : decode cX9_law 0 = .ok (.aload_n 0, 1) := by decide +kernel
theorem dX9_law_1 : decode cX9_law 1 = .ok (.iload_n 1, 1) := by decide +kernel
theorem dX9_law_2 : decode cX9_law 2 = .ok (.invokevirtual 165, 3) := by decide +kernel
theorem dX9_law_5 : decode cX9_law 5 = .ok (.istore_n 2, 1) := by decide +kernel
theorem dX9_law_6 : decode cX9_law 6 = .ok (.iload_n 2, 1) := by decide +kernel
theorem dX9_law_7 : decode cX9_law 7 = .ok (.ifCond .eq 9, 3) := by decide +kernel
theorem dX9_law_10 : decode cX9_law 10 = .ok (.aload_n 0, 1) := by decide +kernel
theorem dX9_law_11 : decode cX9_law 11 = .ok (.iload_n 2, 1) := by decide +kernel
theorem dX9_law_12 : decode cX9_law 12 = .ok (.invokevirtual 146, 3) := by decide +kernel
theorem dX9_law_15 : decode cX9_law 15 = .ok (.ireturn, 1) := by decide +kernel
theorem dX9_law_16 : decode cX9_law 16 = .ok (.aload_n 0, 1) := by decide +kernel
theorem dX9_law_17 : decode cX9_law 17 = .ok (.aload_n 0, 1) := by decide +kernel
theorem dX9_law_18 : decode cX9_law 18 = .ok (.iload_n 1, 1) := by decide +kernel
theorem dX9_law_19 : decode cX9_law 19 = .ok (.invokevirtual 185, 3) := by decide +kernel
theorem dX9_law_22 : decode cX9_law 22 = .ok (.putfield 72, 3) := by decide +kernel
theorem dX9_law_25 : decode cX9_law 25 = .ok (.aload_n 0, 1) := by decide +kernel
theorem dX9_law_26 : decode cX9_law 26 = .ok (.getfield 72, 3) := by decide +kernel
theorem dX9_law_29 : decode cX9_law 29 = .ok (.ifCond .lt 10, 3) := by decide +kernel
theorem dX9_law_32 : decode cX9_law 32 = .ok (.aload_n 0, 1) := by decide +kernel
theorem dX9_law_33 : decode cX9_law 33 = .ok (.bipush (-6), 2) := by decide +kernel
theorem dX9_law_35 : decode cX9_law 35 = .ok (.invokevirtual 146, 3) := by decide +kernel
theorem dX9_law_38 : decode cX9_law 38 = .ok (.ireturn, 1) := by decide +kernel
theorem dX9_law_39 : decode cX9_law 39 = .ok (.aload_n 0, 1) := by decide +kernel
theorem dX9_law_40 : decode cX9_law 40 = .ok (.aload_n 0, 1) := by decide +kernel
theorem dX9_law_41 : decode cX9_law 41 = .ok (.iload_n 1, 1) := by decide +kernel
theorem dX9_law_42 : decode cX9_law 42 = .ok (.iconst 1, 1) := by decide +kernel
theorem dX9_law_43 : decode cX9_law 43 = .ok (.invokevirtual 175, 3) := by decide +kernel
theorem dX9_law_46 : decode cX9_law 46 = .ok (.bipush 48, 2) := by decide +kernel
theorem dX9_law_48 : decode cX9_law 48 = .ok (.isub, 1) := by decide +kernel
theorem dX9_law_49 : decode cX9_law 49 = .ok (.putfield 62, 3) := by decide +kernel
theorem dX9_law_52 : decode cX9_law 52 = .ok (.aload_n 0, 1) := by decide +kernel
theorem dX9_law_53 : decode cX9_law 53 = .ok (.aload_n 0, 1) := by decide +kernel
theorem dX9_law_54 : decode cX9_law 54 = .ok (.iload_n 1, 1) := by decide +kernel
theorem dX9_law_55 : decode cX9_law 55 = .ok (.iconst 3, 1) := by decide +kernel
theorem dX9_law_56 : decode cX9_law 56 = .ok (.invokevirtual 175, 3) := by decide +kernel
theorem dX9_law_59 : decode cX9_law 59 = .ok (.bipush 48, 2) := by decide +kernel
theorem dX9_law_61 : decode cX9_law 61 = .ok (.isub, 1) := by decide +kernel
theorem dX9_law_62 : decode cX9_law 62 = .ok (.putfield 66, 3) := by decide +kernel
theorem dX9_law_65 : decode cX9_law 65 = .ok (.aload_n 0, 1) := by decide +kernel
theorem dX9_law_66 : decode cX9_law 66 = .ok (.aload_n 0, 1) := by decide +kernel
theorem dX9_law_67 : decode cX9_law 67 = .ok (.iload_n 1, 1) := by decide +kernel
theorem dX9_law_68 : decode cX9_law 68 = .ok (.iconst 5, 1) := by decide +kernel
theorem dX9_law_69 : decode cX9_law 69 = .ok (.invokevirtual 175, 3) := by decide +kernel
theorem dX9_law_72 : decode cX9_law 72 = .ok (.bipush 48, 2) := by decide +kernel
theorem dX9_law_74 : decode cX9_law 74 = .ok (.isub, 1) := by decide +kernel
theorem dX9_law_75 : decode cX9_law 75 = .ok (.putfield 69, 3) := by decide +kernel
theorem dX9_law_78 : decode cX9_law 78 = .ok (.iconst 1, 1) := by decide +kernel
theorem dX9_law_79 : decode cX9_law 79 = .ok (.ireturn, 1) := by decide +kernel
theorem dX9_fault_0 : decode cX9_fault 0 = .ok (.aload_n 0, 1) := by decide +kernel
theorem dX9_fault_1 : decode cX9_fault 1 = .ok (.getfield 72, 3) := by decide +kernel
theorem dX9_fault_4 : decode cX9_fault 4 = .ok (.ireturn, 1) := by decide +kernel
theorem dX9_isLeast_0 : decode cX9_isLeast 0 = .ok (.iload_n 0, 1) := by decide +kernel
theorem dX9_isLeast_1 : decode cX9_isLeast 1 = .ok (.iconst 3, 1) := by decide +kernel
theorem dX9_isLeast_2 : decode cX9_isLeast 2 = .ok (.if_icmp .ne 15, 3) := by decide +kernel
theorem dX9_isLeast_5 : decode cX9_isLeast 5 = .ok (.lload_n 1, 1) := by decide +kernel
theorem dX9_isLeast_6 : decode cX9_isLeast 6 = .ok (.ldc2_w 188, 3) := by decide +kernel
theorem dX9_isLeast_9 : decode cX9_isLeast 9 = .ok (.lcmp, 1) := by decide +kernel
theorem dX9_isLeast_10 : decode cX9_isLeast 10 = .ok (.ifCond .ne 7, 3) := by decide +kernel
theorem dX9_isLeast_13 : decode cX9_isLeast 13 = .ok (.iconst 1, 1) := by decide +kernel
theorem dX9_isLeast_14 : decode cX9_isLeast 14 = .ok (.goto 4, 3) := by decide +kernel
theorem dX9_isLeast_17 : decode cX9_isLeast 17 = .ok (.iconst 0, 1) := by decide +kernel
theorem dX9_isLeast_18 : decode cX9_isLeast 18 = .ok (.ireturn, 1) := by decide +kernel
theorem dX9_truth_0 : decode cX9_truth 0 = .ok (.aload_n 0, 1) := by decide +kernel
theorem dX9_truth_1 : decode cX9_truth 1 = .ok (.iload_n 1, 1) := by decide +kernel
theorem dX9_truth_2 : decode cX9_truth 2 = .ok (.invokevirtual 172, 3) := by decide +kernel
theorem dX9_truth_5 : decode cX9_truth 5 = .ok (.ifCond .ne 9, 3) := by decide +kernel
theorem dX9_truth_8 : decode cX9_truth 8 = .ok (.aload_n 0, 1) := by decide +kernel
theorem dX9_truth_9 : decode cX9_truth 9 = .ok (.iconst (-1), 1) := by decide +kernel
theorem dX9_truth_10 : decode cX9_truth 10 = .ok (.invokevirtual 146, 3) := by decide +kernel
theorem dX9_truth_13 : decode cX9_truth 13 = .ok (.ireturn, 1) := by decide +kernel
theorem dX9_truth_14 : decode cX9_truth 14 = .ok (.aload_n 0, 1) := by decide +kernel
theorem dX9_truth_15 : decode cX9_truth 15 = .ok (.iload_n 2, 1) := by decide +kernel
theorem dX9_truth_16 : decode cX9_truth 16 = .ok (.invokevirtual 165, 3) := by decide +kernel
theorem dX9_truth_19 : decode cX9_truth 19 = .ok (.istore_n 3, 1) := by decide +kernel
theorem dX9_truth_20 : decode cX9_truth 20 = .ok (.iload_n 3, 1) := by decide +kernel
theorem dX9_truth_21 : decode cX9_truth 21 = .ok (.ifCond .ne 13, 3) := by decide +kernel
theorem dX9_truth_24 : decode cX9_truth 24 = .ok (.aload_n 0, 1) := by decide +kernel
theorem dX9_truth_25 : decode cX9_truth 25 = .ok (.getfield 158, 3) := by decide +kernel
theorem dX9_truth_28 : decode cX9_truth 28 = .ok (.ifCond .eq 6, 3) := by decide +kernel
theorem dX9_truth_31 : decode cX9_truth 31 = .ok (.bipush (-6), 2) := by decide +kernel
theorem dX9_truth_33 : decode cX9_truth 33 = .ok (.istore_n 3, 1) := by decide +kernel
theorem dX9_truth_34 : decode cX9_truth 34 = .ok (.iload_n 3, 1) := by decide +kernel
theorem dX9_truth_35 : decode cX9_truth 35 = .ok (.ifCond .ne 17, 3) := by decide +kernel
theorem dX9_truth_38 : decode cX9_truth 38 = .ok (.aload_n 0, 1) := by decide +kernel
theorem dX9_truth_39 : decode cX9_truth 39 = .ok (.getfield 90, 3) := by decide +kernel
theorem dX9_truth_42 : decode cX9_truth 42 = .ok (.iload_n 2, 1) := by decide +kernel
theorem dX9_truth_43 : decode cX9_truth 43 = .ok (.iaload, 1) := by decide +kernel
theorem dX9_truth_44 : decode cX9_truth 44 = .ok (.bipush 12, 2) := by decide +kernel
theorem dX9_truth_46 : decode cX9_truth 46 = .ok (.if_icmp .le 6, 3) := by decide +kernel
theorem dX9_truth_49 : decode cX9_truth 49 = .ok (.bipush (-7), 2) := by decide +kernel
theorem dX9_truth_51 : decode cX9_truth 51 = .ok (.istore_n 3, 1) := by decide +kernel
theorem dX9_truth_52 : decode cX9_truth 52 = .ok (.iload_n 3, 1) := by decide +kernel
theorem dX9_truth_53 : decode cX9_truth 53 = .ok (.ifCond .eq 9, 3) := by decide +kernel
theorem dX9_truth_56 : decode cX9_truth 56 = .ok (.aload_n 0, 1) := by decide +kernel
theorem dX9_truth_57 : decode cX9_truth 57 = .ok (.iload_n 3, 1) := by decide +kernel
theorem dX9_truth_58 : decode cX9_truth 58 = .ok (.invokevirtual 146, 3) := by decide +kernel
theorem dX9_truth_61 : decode cX9_truth 61 = .ok (.ireturn, 1) := by decide +kernel
theorem dX9_truth_62 : decode cX9_truth 62 = .ok (.aload_n 0, 1) := by decide +kernel
theorem dX9_truth_63 : decode cX9_truth 63 = .ok (.getfield 19, 3) := by decide +kernel
theorem dX9_truth_66 : decode cX9_truth 66 = .ok (.iload_n 1, 1) := by decide +kernel
theorem dX9_truth_67 : decode cX9_truth 67 = .ok (.aload_n 0, 1) := by decide +kernel
theorem dX9_truth_68 : decode cX9_truth 68 = .ok (.getfield 90, 3) := by decide +kernel
theorem dX9_truth_71 : decode cX9_truth 71 = .ok (.iload_n 2, 1) := by decide +kernel
theorem dX9_truth_72 : decode cX9_truth 72 = .ok (.iaload, 1) := by decide +kernel
theorem dX9_truth_73 : decode cX9_truth 73 = .ok (.iastore, 1) := by decide +kernel
theorem dX9_truth_74 : decode cX9_truth 74 = .ok (.iconst 0, 1) := by decide +kernel
theorem dX9_truth_75 : decode cX9_truth 75 = .ok (.istore 4, 2) := by decide +kernel
theorem dX9_truth_77 : decode cX9_truth 77 = .ok (.iload 4, 2) := by decide +kernel
theorem dX9_truth_79 : decode cX9_truth 79 = .ok (.aload_n 0, 1) := by decide +kernel
theorem dX9_truth_80 : decode cX9_truth 80 = .ok (.getfield 90, 3) := by decide +kernel
theorem dX9_truth_83 : decode cX9_truth 83 = .ok (.iload_n 2, 1) := by decide +kernel
theorem dX9_truth_84 : decode cX9_truth 84 = .ok (.iaload, 1) := by decide +kernel
theorem dX9_truth_85 : decode cX9_truth 85 = .ok (.if_icmp .ge 74, 3) := by decide +kernel
theorem dX9_truth_88 : decode cX9_truth 88 = .ok (.aload_n 0, 1) := by decide +kernel
theorem dX9_truth_89 : decode cX9_truth 89 = .ok (.getfield 93, 3) := by decide +kernel
theorem dX9_truth_92 : decode cX9_truth 92 = .ok (.bipush 30, 2) := by decide +kernel
theorem dX9_truth_94 : decode cX9_truth 94 = .ok (.iload_n 2, 1) := by decide +kernel
theorem dX9_truth_95 : decode cX9_truth 95 = .ok (.imul, 1) := by decide +kernel
theorem dX9_truth_96 : decode cX9_truth 96 = .ok (.iload 4, 2) := by decide +kernel
theorem dX9_truth_98 : decode cX9_truth 98 = .ok (.iadd, 1) := by decide +kernel
theorem dX9_truth_99 : decode cX9_truth 99 = .ok (.laload, 1) := by decide +kernel
theorem dX9_truth_100 : decode cX9_truth 100 = .ok (.lstore 5, 2) := by decide +kernel
theorem dX9_truth_102 : decode cX9_truth 102 = .ok (.lload 5, 2) := by decide +kernel
theorem dX9_truth_104 : decode cX9_truth 104 = .ok (.l2i, 1) := by decide +kernel
theorem dX9_truth_105 : decode cX9_truth 105 = .ok (.istore 7, 2) := by decide +kernel
theorem dX9_truth_107 : decode cX9_truth 107 = .ok (.aload_n 0, 1) := by decide +kernel
theorem dX9_truth_108 : decode cX9_truth 108 = .ok (.getfield 22, 3) := by decide +kernel
theorem dX9_truth_111 : decode cX9_truth 111 = .ok (.bipush 12, 2) := by decide +kernel
theorem dX9_truth_113 : decode cX9_truth 113 = .ok (.iload_n 1, 1) := by decide +kernel
theorem dX9_truth_114 : decode cX9_truth 114 = .ok (.imul, 1) := by decide +kernel
theorem dX9_truth_115 : decode cX9_truth 115 = .ok (.iload 4, 2) := by decide +kernel
theorem dX9_truth_117 : decode cX9_truth 117 = .ok (.iadd, 1) := by decide +kernel
theorem dX9_truth_118 : decode cX9_truth 118 = .ok (.aload_n 0, 1) := by decide +kernel
theorem dX9_truth_119 : decode cX9_truth 119 = .ok (.getfield 87, 3) := by decide +kernel
theorem dX9_truth_122 : decode cX9_truth 122 = .ok (.iload_n 2, 1) := by decide +kernel
theorem dX9_truth_123 : decode cX9_truth 123 = .ok (.iaload, 1) := by decide +kernel
theorem dX9_truth_124 : decode cX9_truth 124 = .ok (.lload 5, 2) := by decide +kernel
theorem dX9_truth_126 : decode cX9_truth 126 = .ok (.invokestatic 190, 3) := by decide +kernel
theorem dX9_truth_129 : decode cX9_truth 129 = .ok (.ifCond .ne 21, 3) := by decide +kernel
theorem dX9_truth_132 : decode cX9_truth 132 = .ok (.iload 7, 2) := by decide +kernel
theorem dX9_truth_134 : decode cX9_truth 134 = .ok (.i2l, 1) := by decide +kernel
theorem dX9_truth_135 : decode cX9_truth 135 = .ok (.lconst 0, 1) := by decide +kernel
theorem dX9_truth_136 : decode cX9_truth 136 = .ok (.ldc2_w 194, 3) := by decide +kernel
theorem dX9_truth_139 : decode cX9_truth 139 = .ok (.invokestatic 152, 3) := by decide +kernel
theorem dX9_truth_142 : decode cX9_truth 142 = .ok (.ifCond .eq 8, 3) := by decide +kernel
theorem dX9_truth_145 : decode cX9_truth 145 = .ok (.iload 7, 2) := by decide +kernel
theorem dX9_truth_147 : decode cX9_truth 147 = .ok (.goto 5, 3) := by decide +kernel
theorem dX9_truth_150 : decode cX9_truth 150 = .ok (.bipush (-2), 2) := by decide +kernel
theorem dX9_truth_152 : decode cX9_truth 152 = .ok (.iastore, 1) := by decide +kernel
theorem dX9_truth_153 : decode cX9_truth 153 = .ok (.iinc 4 1, 3) := by decide +kernel
theorem dX9_truth_156 : decode cX9_truth 156 = .ok (.goto (-79), 3) := by decide +kernel
theorem dX9_truth_159 : decode cX9_truth 159 = .ok (.aload_n 0, 1) := by decide +kernel
theorem dX9_truth_160 : decode cX9_truth 160 = .ok (.getfield 90, 3) := by decide +kernel
theorem dX9_truth_163 : decode cX9_truth 163 = .ok (.iload_n 2, 1) := by decide +kernel
theorem dX9_truth_164 : decode cX9_truth 164 = .ok (.iaload, 1) := by decide +kernel
theorem dX9_truth_165 : decode cX9_truth 165 = .ok (.ireturn, 1) := by decide +kernel
theorem dX9_isToBeAsked_0 : decode cX9_isToBeAsked 0 = .ok (.aload_n 0, 1) := by decide +kernel
theorem dX9_isToBeAsked_1 : decode cX9_isToBeAsked 1 = .ok (.getfield 25, 3) := by decide +kernel
theorem dX9_isToBeAsked_4 : decode cX9_isToBeAsked 4 = .ok (.iload_n 1, 1) := by decide +kernel
theorem dX9_isToBeAsked_5 : decode cX9_isToBeAsked 5 = .ok (.iaload, 1) := by decide +kernel
theorem dX9_isToBeAsked_6 : decode cX9_isToBeAsked 6 = .ok (.ifCond .eq 32, 3) := by decide +kernel
theorem dX9_isToBeAsked_9 : decode cX9_isToBeAsked 9 = .ok (.aload_n 0, 1) := by decide +kernel
theorem dX9_isToBeAsked_10 : decode cX9_isToBeAsked 10 = .ok (.getfield 25, 3) := by decide +kernel
theorem dX9_isToBeAsked_13 : decode cX9_isToBeAsked 13 = .ok (.iload_n 1, 1) := by decide +kernel
theorem dX9_isToBeAsked_14 : decode cX9_isToBeAsked 14 = .ok (.iaload, 1) := by decide +kernel
theorem dX9_isToBeAsked_15 : decode cX9_isToBeAsked 15 = .ok (.iconst 3, 1) := by decide +kernel
theorem dX9_isToBeAsked_16 : decode cX9_isToBeAsked 16 = .ok (.if_icmp .eq 22, 3) := by decide +kernel
theorem dX9_isToBeAsked_19 : decode cX9_isToBeAsked 19 = .ok (.aload_n 0, 1) := by decide +kernel
theorem dX9_isToBeAsked_20 : decode cX9_isToBeAsked 20 = .ok (.getfield 25, 3) := by decide +kernel
theorem dX9_isToBeAsked_23 : decode cX9_isToBeAsked 23 = .ok (.iload_n 1, 1) := by decide +kernel
theorem dX9_isToBeAsked_24 : decode cX9_isToBeAsked 24 = .ok (.iaload, 1) := by decide +kernel
theorem dX9_isToBeAsked_25 : decode cX9_isToBeAsked 25 = .ok (.iconst 1, 1) := by decide +kernel
theorem dX9_isToBeAsked_26 : decode cX9_isToBeAsked 26 = .ok (.if_icmp .ne 16, 3) := by decide +kernel
theorem dX9_isToBeAsked_29 : decode cX9_isToBeAsked 29 = .ok (.aload_n 0, 1) := by decide +kernel
theorem dX9_isToBeAsked_30 : decode cX9_isToBeAsked 30 = .ok (.getfield 46, 3) := by decide +kernel
theorem dX9_isToBeAsked_33 : decode cX9_isToBeAsked 33 = .ok (.iload_n 1, 1) := by decide +kernel
theorem dX9_isToBeAsked_34 : decode cX9_isToBeAsked 34 = .ok (.baload, 1) := by decide +kernel
theorem dX9_isToBeAsked_35 : decode cX9_isToBeAsked 35 = .ok (.ifCond .eq 7, 3) := by decide +kernel
theorem dX9_isToBeAsked_38 : decode cX9_isToBeAsked 38 = .ok (.iconst 1, 1) := by decide +kernel
theorem dX9_isToBeAsked_39 : decode cX9_isToBeAsked 39 = .ok (.goto 4, 3) := by decide +kernel
theorem dX9_isToBeAsked_42 : decode cX9_isToBeAsked 42 = .ok (.iconst 0, 1) := by decide +kernel
theorem dX9_isToBeAsked_43 : decode cX9_isToBeAsked 43 = .ok (.ireturn, 1) := by decide +kernel
theorem dX9_returns_0 : decode cX9_returns 0 = .ok (.aload_n 0, 1) := by decide +kernel
theorem dX9_returns_1 : decode cX9_returns 1 = .ok (.getfield 25, 3) := by decide +kernel
theorem dX9_returns_4 : decode cX9_returns 4 = .ok (.iload_n 1, 1) := by decide +kernel
theorem dX9_returns_5 : decode cX9_returns 5 = .ok (.iload_n 2, 1) := by decide +kernel
theorem dX9_returns_6 : decode cX9_returns 6 = .ok (.iastore, 1) := by decide +kernel
theorem dX9_returns_7 : decode cX9_returns 7 = .ok (.aload_n 0, 1) := by decide +kernel
theorem dX9_returns_8 : decode cX9_returns 8 = .ok (.getfield 28, 3) := by decide +kernel
theorem dX9_returns_11 : decode cX9_returns 11 = .ok (.iload_n 1, 1) := by decide +kernel
theorem dX9_returns_12 : decode cX9_returns 12 = .ok (.iload_n 3, 1) := by decide +kernel
theorem dX9_returns_13 : decode cX9_returns 13 = .ok (.iastore, 1) := by decide +kernel
theorem dX9_returns_14 : decode cX9_returns 14 = .ok (.aload_n 0, 1) := by decide +kernel
theorem dX9_returns_15 : decode cX9_returns 15 = .ok (.getfield 46, 3) := by decide +kernel
theorem dX9_returns_18 : decode cX9_returns 18 = .ok (.iload_n 1, 1) := by decide +kernel
theorem dX9_returns_19 : decode cX9_returns 19 = .ok (.iconst 0, 1) := by decide +kernel
theorem dX9_returns_20 : decode cX9_returns 20 = .ok (.bastore, 1) := by decide +kernel
theorem dX9_returns_21 : decode cX9_returns 21 = .ok (.iconst 0, 1) := by decide +kernel
theorem dX9_returns_22 : decode cX9_returns 22 = .ok (.istore 4, 2) := by decide +kernel
theorem dX9_returns_24 : decode cX9_returns 24 = .ok (.iload 4, 2) := by decide +kernel
theorem dX9_returns_26 : decode cX9_returns 26 = .ok (.bipush 12, 2) := by decide +kernel
theorem dX9_returns_28 : decode cX9_returns 28 = .ok (.if_icmp .ge 36, 3) := by decide +kernel
theorem dX9_returns_31 : decode cX9_returns 31 = .ok (.aload_n 0, 1) := by decide +kernel
theorem dX9_returns_32 : decode cX9_returns 32 = .ok (.getfield 31, 3) := by decide +kernel
theorem dX9_returns_35 : decode cX9_returns 35 = .ok (.bipush 12, 2) := by decide +kernel
theorem dX9_returns_37 : decode cX9_returns 37 = .ok (.iload_n 1, 1) := by decide +kernel
theorem dX9_returns_38 : decode cX9_returns 38 = .ok (.imul, 1) := by decide +kernel
theorem dX9_returns_39 : decode cX9_returns 39 = .ok (.iload 4, 2) := by decide +kernel
theorem dX9_returns_41 : decode cX9_returns 41 = .ok (.iadd, 1) := by decide +kernel
theorem dX9_returns_42 : decode cX9_returns 42 = .ok (.bipush (-2), 2) := by decide +kernel
theorem dX9_returns_44 : decode cX9_returns 44 = .ok (.iastore, 1) := by decide +kernel
theorem dX9_returns_45 : decode cX9_returns 45 = .ok (.aload_n 0, 1) := by decide +kernel
theorem dX9_returns_46 : decode cX9_returns 46 = .ok (.getfield 50, 3) := by decide +kernel
theorem dX9_returns_49 : decode cX9_returns 49 = .ok (.bipush 12, 2) := by decide +kernel
theorem dX9_returns_51 : decode cX9_returns 51 = .ok (.iload_n 1, 1) := by decide +kernel
theorem dX9_returns_52 : decode cX9_returns 52 = .ok (.imul, 1) := by decide +kernel
theorem dX9_returns_53 : decode cX9_returns 53 = .ok (.iload 4, 2) := by decide +kernel
theorem dX9_returns_55 : decode cX9_returns 55 = .ok (.iadd, 1) := by decide +kernel
theorem dX9_returns_56 : decode cX9_returns 56 = .ok (.iconst 0, 1) := by decide +kernel
theorem dX9_returns_57 : decode cX9_returns 57 = .ok (.bastore, 1) := by decide +kernel
theorem dX9_returns_58 : decode cX9_returns 58 = .ok (.iinc 4 1, 3) := by decide +kernel
theorem dX9_returns_61 : decode cX9_returns 61 = .ok (.goto (-37), 3) := by decide +kernel
theorem dX9_returns_64 : decode cX9_returns 64 = .ok (.return_, 1) := by decide +kernel
theorem dX9_paper_0 : decode cX9_paper 0 = .ok (.aload_n 0, 1) := by decide +kernel
theorem dX9_paper_1 : decode cX9_paper 1 = .ok (.iload_n 1, 1) := by decide +kernel
theorem dX9_paper_2 : decode cX9_paper 2 = .ok (.invokevirtual 172, 3) := by decide +kernel
theorem dX9_paper_5 : decode cX9_paper 5 = .ok (.ifCond .ne 9, 3) := by decide +kernel
theorem dX9_paper_8 : decode cX9_paper 8 = .ok (.aload_n 0, 1) := by decide +kernel
theorem dX9_paper_9 : decode cX9_paper 9 = .ok (.iconst (-1), 1) := by decide +kernel
theorem dX9_paper_10 : decode cX9_paper 10 = .ok (.invokevirtual 146, 3) := by decide +kernel
theorem dX9_paper_13 : decode cX9_paper 13 = .ok (.ireturn, 1) := by decide +kernel
theorem dX9_paper_14 : decode cX9_paper 14 = .ok (.aload_n 0, 1) := by decide +kernel
theorem dX9_paper_15 : decode cX9_paper 15 = .ok (.getfield 158, 3) := by decide +kernel
theorem dX9_paper_18 : decode cX9_paper 18 = .ok (.ifCond .ne 21, 3) := by decide +kernel
theorem dX9_paper_21 : decode cX9_paper 21 = .ok (.aload_n 0, 1) := by decide +kernel
theorem dX9_paper_22 : decode cX9_paper 22 = .ok (.iload_n 1, 1) := by decide +kernel
theorem dX9_paper_23 : decode cX9_paper 23 = .ok (.invokevirtual 196, 3) := by decide +kernel
theorem dX9_paper_26 : decode cX9_paper 26 = .ok (.ifCond .eq 13, 3) := by decide +kernel
theorem dX9_paper_29 : decode cX9_paper 29 = .ok (.aload_n 0, 1) := by decide +kernel
theorem dX9_paper_30 : decode cX9_paper 30 = .ok (.getfield 25, 3) := by decide +kernel
theorem dX9_paper_33 : decode cX9_paper 33 = .ok (.iload_n 1, 1) := by decide +kernel
theorem dX9_paper_34 : decode cX9_paper 34 = .ok (.iaload, 1) := by decide +kernel
theorem dX9_paper_35 : decode cX9_paper 35 = .ok (.iconst 1, 1) := by decide +kernel
theorem dX9_paper_36 : decode cX9_paper 36 = .ok (.if_icmp .ne 10, 3) := by decide +kernel
theorem dX9_paper_39 : decode cX9_paper 39 = .ok (.aload_n 0, 1) := by decide +kernel
theorem dX9_paper_40 : decode cX9_paper 40 = .ok (.bipush (-6), 2) := by decide +kernel
theorem dX9_paper_42 : decode cX9_paper 42 = .ok (.invokevirtual 146, 3) := by decide +kernel
theorem dX9_paper_45 : decode cX9_paper 45 = .ok (.ireturn, 1) := by decide +kernel
theorem dX9_paper_46 : decode cX9_paper 46 = .ok (.iconst 0, 1) := by decide +kernel
theorem dX9_paper_47 : decode cX9_paper 47 = .ok (.istore_n 2, 1) := by decide +kernel
theorem dX9_paper_48 : decode cX9_paper 48 = .ok (.iload_n 2, 1) := by decide +kernel
theorem dX9_paper_49 : decode cX9_paper 49 = .ok (.aload_n 0, 1) := by decide +kernel
theorem dX9_paper_50 : decode cX9_paper 50 = .ok (.getfield 19, 3) := by decide +kernel
theorem dX9_paper_53 : decode cX9_paper 53 = .ok (.iload_n 1, 1) := by decide +kernel
theorem dX9_paper_54 : decode cX9_paper 54 = .ok (.iaload, 1) := by decide +kernel
theorem dX9_paper_55 : decode cX9_paper 55 = .ok (.if_icmp .ge 23, 3) := by decide +kernel
theorem dX9_paper_58 : decode cX9_paper 58 = .ok (.aload_n 0, 1) := by decide +kernel
theorem dX9_paper_59 : decode cX9_paper 59 = .ok (.getfield 22, 3) := by decide +kernel
theorem dX9_paper_62 : decode cX9_paper 62 = .ok (.bipush 12, 2) := by decide +kernel
theorem dX9_paper_64 : decode cX9_paper 64 = .ok (.iload_n 1, 1) := by decide +kernel
theorem dX9_paper_65 : decode cX9_paper 65 = .ok (.imul, 1) := by decide +kernel
theorem dX9_paper_66 : decode cX9_paper 66 = .ok (.iload_n 2, 1) := by decide +kernel
theorem dX9_paper_67 : decode cX9_paper 67 = .ok (.iadd, 1) := by decide +kernel
theorem dX9_paper_68 : decode cX9_paper 68 = .ok (.iaload, 1) := by decide +kernel
theorem dX9_paper_69 : decode cX9_paper 69 = .ok (.ifCond .lt 9, 3) := by decide +kernel
theorem dX9_paper_72 : decode cX9_paper 72 = .ok (.iinc 2 1, 3) := by decide +kernel
theorem dX9_paper_75 : decode cX9_paper 75 = .ok (.goto (-27), 3) := by decide +kernel
theorem dX9_paper_78 : decode cX9_paper 78 = .ok (.aload_n 0, 1) := by decide +kernel
theorem dX9_paper_79 : decode cX9_paper 79 = .ok (.iload_n 1, 1) := by decide +kernel
theorem dX9_paper_80 : decode cX9_paper 80 = .ok (.iconst 1, 1) := by decide +kernel
theorem dX9_paper_81 : decode cX9_paper 81 = .ok (.iload_n 2, 1) := by decide +kernel
theorem dX9_paper_82 : decode cX9_paper 82 = .ok (.invokevirtual 199, 3) := by decide +kernel
theorem dX9_paper_85 : decode cX9_paper 85 = .ok (.aload_n 0, 1) := by decide +kernel
theorem dX9_paper_86 : decode cX9_paper 86 = .ok (.getfield 46, 3) := by decide +kernel
theorem dX9_paper_89 : decode cX9_paper 89 = .ok (.iload_n 1, 1) := by decide +kernel
theorem dX9_paper_90 : decode cX9_paper 90 = .ok (.iload_n 2, 1) := by decide +kernel
theorem dX9_paper_91 : decode cX9_paper 91 = .ok (.aload_n 0, 1) := by decide +kernel
theorem dX9_paper_92 : decode cX9_paper 92 = .ok (.getfield 19, 3) := by decide +kernel
theorem dX9_paper_95 : decode cX9_paper 95 = .ok (.iload_n 1, 1) := by decide +kernel
theorem dX9_paper_96 : decode cX9_paper 96 = .ok (.iaload, 1) := by decide +kernel
theorem dX9_paper_97 : decode cX9_paper 97 = .ok (.if_icmp .ge 7, 3) := by decide +kernel
theorem dX9_paper_100 : decode cX9_paper 100 = .ok (.iconst 1, 1) := by decide +kernel
theorem dX9_paper_101 : decode cX9_paper 101 = .ok (.goto 4, 3) := by decide +kernel
