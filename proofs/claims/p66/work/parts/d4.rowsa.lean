/-! what the bytes of the law say -/
theorem dL_at_0 : decode cL_at 0 = .ok (.iload_n 1, 1) := by decide +kernel
theorem dL_at_1 : decode cL_at 1 = .ok (.aload_n 0, 1) := by decide +kernel
theorem dL_at_2 : decode cL_at 2 = .ok (.arraylength, 1) := by decide +kernel
theorem dL_at_3 : decode cL_at 3 = .ok (.if_icmp .ge 9, 3) := by decide +kernel
theorem dL_at_6 : decode cL_at 6 = .ok (.aload_n 0, 1) := by decide +kernel
theorem dL_at_7 : decode cL_at 7 = .ok (.iload_n 1, 1) := by decide +kernel
theorem dL_at_8 : decode cL_at 8 = .ok (.iaload, 1) := by decide +kernel
theorem dL_at_9 : decode cL_at 9 = .ok (.goto 4, 3) := by decide +kernel
theorem dL_at_12 : decode cL_at 12 = .ok (.iconst 0, 1) := by decide +kernel
theorem dL_at_13 : decode cL_at 13 = .ok (.ireturn, 1) := by decide +kernel
theorem dL_put_0 : decode cL_put 0 = .ok (.iconst 0, 1) := by decide +kernel
theorem dL_put_1 : decode cL_put 1 = .ok (.istore_n 2, 1) := by decide +kernel
theorem dL_put_2 : decode cL_put 2 = .ok (.iload_n 2, 1) := by decide +kernel
theorem dL_put_3 : decode cL_put 3 = .ok (.aload_n 1, 1) := by decide +kernel
theorem dL_put_4 : decode cL_put 4 = .ok (.invokevirtual 7, 3) := by decide +kernel
theorem dL_put_7 : decode cL_put 7 = .ok (.if_icmp .ge 19, 3) := by decide +kernel
theorem dL_put_10 : decode cL_put 10 = .ok (.aload_n 0, 1) := by decide +kernel
theorem dL_put_11 : decode cL_put 11 = .ok (.aload_n 1, 1) := by decide +kernel
theorem dL_put_12 : decode cL_put 12 = .ok (.iload_n 2, 1) := by decide +kernel
theorem dL_put_13 : decode cL_put 13 = .ok (.invokevirtual 13, 3) := by decide +kernel
theorem dL_put_16 : decode cL_put 16 = .ok (.invokevirtual 17, 3) := by decide +kernel
theorem dL_put_19 : decode cL_put 19 = .ok (.pop, 1) := by decide +kernel
theorem dL_put_20 : decode cL_put 20 = .ok (.iinc 2 1, 3) := by decide +kernel
theorem dL_put_23 : decode cL_put 23 = .ok (.goto (-21), 3) := by decide +kernel
theorem dL_put_26 : decode cL_put 26 = .ok (.return_, 1) := by decide +kernel
theorem dL_build_0 : decode cL_build 0 = .ok (.new 18, 3) := by decide +kernel
theorem dL_build_3 : decode cL_build 3 = .ok (.dup, 1) := by decide +kernel
theorem dL_build_4 : decode cL_build 4 = .ok (.invokespecial 23, 3) := by decide +kernel
theorem dL_build_7 : decode cL_build 7 = .ok (.astore_n 1, 1) := by decide +kernel
theorem dL_build_8 : decode cL_build 8 = .ok (.aload_n 0, 1) := by decide +kernel
theorem dL_build_9 : decode cL_build 9 = .ok (.iconst 0, 1) := by decide +kernel
theorem dL_build_10 : decode cL_build 10 = .ok (.invokestatic 24, 3) := by decide +kernel
theorem dL_build_13 : decode cL_build 13 = .ok (.istore_n 2, 1) := by decide +kernel
theorem dL_build_14 : decode cL_build 14 = .ok (.iconst 0, 1) := by decide +kernel
theorem dL_build_15 : decode cL_build 15 = .ok (.istore_n 3, 1) := by decide +kernel
theorem dL_build_16 : decode cL_build 16 = .ok (.iload_n 3, 1) := by decide +kernel
theorem dL_build_17 : decode cL_build 17 = .ok (.iload_n 2, 1) := by decide +kernel
theorem dL_build_18 : decode cL_build 18 = .ok (.iconst 3, 1) := by decide +kernel
theorem dL_build_19 : decode cL_build 19 = .ok (.iand, 1) := by decide +kernel
theorem dL_build_20 : decode cL_build 20 = .ok (.if_icmp .ge 31, 3) := by decide +kernel
theorem dL_build_23 : decode cL_build 23 = .ok (.aload_n 1, 1) := by decide +kernel
theorem dL_build_24 : decode cL_build 24 = .ok (.iconst 1, 1) := by decide +kernel
theorem dL_build_25 : decode cL_build 25 = .ok (.iload_n 2, 1) := by decide +kernel
theorem dL_build_26 : decode cL_build 26 = .ok (.iconst 2, 1) := by decide +kernel
theorem dL_build_27 : decode cL_build 27 = .ok (.iconst 4, 1) := by decide +kernel
theorem dL_build_28 : decode cL_build 28 = .ok (.iload_n 3, 1) := by decide +kernel
theorem dL_build_29 : decode cL_build 29 = .ok (.imul, 1) := by decide +kernel
theorem dL_build_30 : decode cL_build 30 = .ok (.iadd, 1) := by decide +kernel
theorem dL_build_31 : decode cL_build 31 = .ok (.ishr, 1) := by decide +kernel
theorem dL_build_32 : decode cL_build 32 = .ok (.bipush 15, 2) := by decide +kernel
theorem dL_build_34 : decode cL_build 34 = .ok (.iand, 1) := by decide +kernel
theorem dL_build_35 : decode cL_build 35 = .ok (.aload_n 1, 1) := by decide +kernel
theorem dL_build_36 : decode cL_build 36 = .ok (.invokevirtual 30, 3) := by decide +kernel
theorem dL_build_39 : decode cL_build 39 = .ok (.irem, 1) := by decide +kernel
theorem dL_build_40 : decode cL_build 40 = .ok (.iconst 0, 1) := by decide +kernel
theorem dL_build_41 : decode cL_build 41 = .ok (.invokestatic 33, 3) := by decide +kernel
theorem dL_build_44 : decode cL_build 44 = .ok (.pop, 1) := by decide +kernel
theorem dL_build_45 : decode cL_build 45 = .ok (.iinc 3 1, 3) := by decide +kernel
theorem dL_build_48 : decode cL_build 48 = .ok (.goto (-32), 3) := by decide +kernel
theorem dL_build_51 : decode cL_build 51 = .ok (.iload_n 2, 1) := by decide +kernel
theorem dL_build_52 : decode cL_build 52 = .ok (.bipush 14, 2) := by decide +kernel
theorem dL_build_54 : decode cL_build 54 = .ok (.ishr, 1) := by decide +kernel
theorem dL_build_55 : decode cL_build 55 = .ok (.iconst 1, 1) := by decide +kernel
theorem dL_build_56 : decode cL_build 56 = .ok (.iand, 1) := by decide +kernel
theorem dL_build_57 : decode cL_build 57 = .ok (.iconst 1, 1) := by decide +kernel
theorem dL_build_58 : decode cL_build 58 = .ok (.if_icmp .ne 21, 3) := by decide +kernel
theorem dL_build_61 : decode cL_build 61 = .ok (.aload_n 1, 1) := by decide +kernel
theorem dL_build_62 : decode cL_build 62 = .ok (.iconst 0, 1) := by decide +kernel
theorem dL_build_63 : decode cL_build 63 = .ok (.ldc 37, 2) := by decide +kernel
theorem dL_build_65 : decode cL_build 65 = .ok (.iload_n 2, 1) := by decide +kernel
theorem dL_build_66 : decode cL_build 66 = .ok (.bipush 15, 2) := by decide +kernel
theorem dL_build_68 : decode cL_build 68 = .ok (.ishr, 1) := by decide +kernel
theorem dL_build_69 : decode cL_build 69 = .ok (.iconst 3, 1) := by decide +kernel
theorem dL_build_70 : decode cL_build 70 = .ok (.iand, 1) := by decide +kernel
theorem dL_build_71 : decode cL_build 71 = .ok (.invokevirtual 13, 3) := by decide +kernel
theorem dL_build_74 : decode cL_build 74 = .ok (.iconst 0, 1) := by decide +kernel
theorem dL_build_75 : decode cL_build 75 = .ok (.invokestatic 33, 3) := by decide +kernel
theorem dL_build_78 : decode cL_build 78 = .ok (.pop, 1) := by decide +kernel
theorem dL_build_79 : decode cL_build 79 = .ok (.iconst 1, 1) := by decide +kernel
theorem dL_build_80 : decode cL_build 80 = .ok (.istore_n 3, 1) := by decide +kernel
theorem dL_build_81 : decode cL_build 81 = .ok (.iload_n 3, 1) := by decide +kernel
theorem dL_build_82 : decode cL_build 82 = .ok (.bipush 13, 2) := by decide +kernel
theorem dL_build_84 : decode cL_build 84 = .ok (.if_icmp .ge 375, 3) := by decide +kernel
theorem dL_build_87 : decode cL_build 87 = .ok (.aload_n 0, 1) := by decide +kernel
theorem dL_build_88 : decode cL_build 88 = .ok (.iload_n 3, 1) := by decide +kernel
theorem dL_build_89 : decode cL_build 89 = .ok (.invokestatic 24, 3) := by decide +kernel
theorem dL_build_92 : decode cL_build 92 = .ok (.istore 4, 2) := by decide +kernel
theorem dL_build_94 : decode cL_build 94 = .ok (.aload_n 1, 1) := by decide +kernel
theorem dL_build_95 : decode cL_build 95 = .ok (.invokevirtual 30, 3) := by decide +kernel
theorem dL_build_98 : decode cL_build 98 = .ok (.istore 5, 2) := by decide +kernel
theorem dL_build_100 : decode cL_build 100 = .ok (.aload_n 1, 1) := by decide +kernel
theorem dL_build_101 : decode cL_build 101 = .ok (.iload 4, 2) := by decide +kernel
theorem dL_build_103 : decode cL_build 103 = .ok (.bipush 15, 2) := by decide +kernel
theorem dL_build_105 : decode cL_build 105 = .ok (.iand, 1) := by decide +kernel
theorem dL_build_106 : decode cL_build 106 = .ok (.iload 5, 2) := by decide +kernel
theorem dL_build_108 : decode cL_build 108 = .ok (.irem, 1) := by decide +kernel
theorem dL_build_109 : decode cL_build 109 = .ok (.iload 4, 2) := by decide +kernel
theorem dL_build_111 : decode cL_build 111 = .ok (.iconst 4, 1) := by decide +kernel
theorem dL_build_112 : decode cL_build 112 = .ok (.ishr, 1) := by decide +kernel
theorem dL_build_113 : decode cL_build 113 = .ok (.bipush 15, 2) := by decide +kernel
theorem dL_build_115 : decode cL_build 115 = .ok (.iand, 1) := by decide +kernel
theorem dL_build_116 : decode cL_build 116 = .ok (.iload 5, 2) := by decide +kernel
theorem dL_build_118 : decode cL_build 118 = .ok (.irem, 1) := by decide +kernel
theorem dL_build_119 : decode cL_build 119 = .ok (.iconst 1, 1) := by decide +kernel
theorem dL_build_120 : decode cL_build 120 = .ok (.iload 4, 2) := by decide +kernel
theorem dL_build_122 : decode cL_build 122 = .ok (.bipush 8, 2) := by decide +kernel
theorem dL_build_124 : decode cL_build 124 = .ok (.ishr, 1) := by decide +kernel
theorem dL_build_125 : decode cL_build 125 = .ok (.bipush 127, 2) := by decide +kernel
theorem dL_build_127 : decode cL_build 127 = .ok (.iand, 1) := by decide +kernel
theorem dL_build_128 : decode cL_build 128 = .ok (.iadd, 1) := by decide +kernel
theorem dL_build_129 : decode cL_build 129 = .ok (.invokestatic 39, 3) := by decide +kernel
theorem dL_build_132 : decode cL_build 132 = .ok (.pop, 1) := by decide +kernel
theorem dL_build_133 : decode cL_build 133 = .ok (.iload 4, 2) := by decide +kernel
theorem dL_build_135 : decode cL_build 135 = .ok (.bipush 15, 2) := by decide +kernel
theorem dL_build_137 : decode cL_build 137 = .ok (.ishr, 1) := by decide +kernel
theorem dL_build_138 : decode cL_build 138 = .ok (.bipush 15, 2) := by decide +kernel
theorem dL_build_140 : decode cL_build 140 = .ok (.iand, 1) := by decide +kernel
theorem dL_build_141 : decode cL_build 141 = .ok (.istore 6, 2) := by decide +kernel
theorem dL_build_143 : decode cL_build 143 = .ok (.iload 4, 2) := by decide +kernel
theorem dL_build_145 : decode cL_build 145 = .ok (.bipush 19, 2) := by decide +kernel
theorem dL_build_147 : decode cL_build 147 = .ok (.ishr, 1) := by decide +kernel
theorem dL_build_148 : decode cL_build 148 = .ok (.bipush 63, 2) := by decide +kernel
theorem dL_build_150 : decode cL_build 150 = .ok (.iand, 1) := by decide +kernel
theorem dL_build_151 : decode cL_build 151 = .ok (.istore 7, 2) := by decide +kernel
theorem dL_build_153 : decode cL_build 153 = .ok (.iload 6, 2) := by decide +kernel
theorem dL_build_155 : decode cL_build 155 = .ok (.iconst 3, 1) := by decide +kernel
theorem dL_build_156 : decode cL_build 156 = .ok (.if_icmp .ge 27, 3) := by decide +kernel
theorem dL_build_159 : decode cL_build 159 = .ok (.aload_n 1, 1) := by decide +kernel
theorem dL_build_160 : decode cL_build 160 = .ok (.bipush 7, 2) := by decide +kernel
theorem dL_build_162 : decode cL_build 162 = .ok (.iconst 1, 1) := by decide +kernel
theorem dL_build_163 : decode cL_build 163 = .ok (.iload 7, 2) := by decide +kernel
theorem dL_build_165 : decode cL_build 165 = .ok (.bipush 15, 2) := by decide +kernel
theorem dL_build_167 : decode cL_build 167 = .ok (.irem, 1) := by decide +kernel
theorem dL_build_168 : decode cL_build 168 = .ok (.iadd, 1) := by decide +kernel
theorem dL_build_169 : decode cL_build 169 = .ok (.iconst 1, 1) := by decide +kernel
theorem dL_build_170 : decode cL_build 170 = .ok (.iload 4, 2) := by decide +kernel
theorem dL_build_172 : decode cL_build 172 = .ok (.bipush 25, 2) := by decide +kernel
theorem dL_build_174 : decode cL_build 174 = .ok (.ishr, 1) := by decide +kernel
theorem dL_build_175 : decode cL_build 175 = .ok (.bipush 15, 2) := by decide +kernel
theorem dL_build_177 : decode cL_build 177 = .ok (.iand, 1) := by decide +kernel
theorem dL_build_178 : decode cL_build 178 = .ok (.iadd, 1) := by decide +kernel
theorem dL_build_179 : decode cL_build 179 = .ok (.invokestatic 33, 3) := by decide +kernel
theorem dL_build_182 : decode cL_build 182 = .ok (.pop, 1) := by decide +kernel
theorem dL_build_183 : decode cL_build 183 = .ok (.iload 6, 2) := by decide +kernel
theorem dL_build_185 : decode cL_build 185 = .ok (.iconst 3, 1) := by decide +kernel
theorem dL_build_186 : decode cL_build 186 = .ok (.if_icmp .eq 9, 3) := by decide +kernel
theorem dL_build_189 : decode cL_build 189 = .ok (.iload 6, 2) := by decide +kernel
theorem dL_build_191 : decode cL_build 191 = .ok (.iconst 4, 1) := by decide +kernel
theorem dL_build_192 : decode cL_build 192 = .ok (.if_icmp .ne 27, 3) := by decide +kernel
theorem dL_build_195 : decode cL_build 195 = .ok (.aload_n 1, 1) := by decide +kernel
theorem dL_build_196 : decode cL_build 196 = .ok (.bipush 8, 2) := by decide +kernel
theorem dL_build_198 : decode cL_build 198 = .ok (.iconst 1, 1) := by decide +kernel
theorem dL_build_199 : decode cL_build 199 = .ok (.iload 7, 2) := by decide +kernel
theorem dL_build_201 : decode cL_build 201 = .ok (.bipush 9, 2) := by decide +kernel
theorem dL_build_203 : decode cL_build 203 = .ok (.irem, 1) := by decide +kernel
theorem dL_build_204 : decode cL_build 204 = .ok (.iadd, 1) := by decide +kernel
theorem dL_build_205 : decode cL_build 205 = .ok (.iconst 1, 1) := by decide +kernel
theorem dL_build_206 : decode cL_build 206 = .ok (.iload 4, 2) := by decide +kernel
theorem dL_build_208 : decode cL_build 208 = .ok (.bipush 25, 2) := by decide +kernel
theorem dL_build_210 : decode cL_build 210 = .ok (.ishr, 1) := by decide +kernel
theorem dL_build_211 : decode cL_build 211 = .ok (.bipush 31, 2) := by decide +kernel
theorem dL_build_213 : decode cL_build 213 = .ok (.iand, 1) := by decide +kernel
theorem dL_build_214 : decode cL_build 214 = .ok (.iadd, 1) := by decide +kernel
theorem dL_build_215 : decode cL_build 215 = .ok (.invokestatic 33, 3) := by decide +kernel
theorem dL_build_218 : decode cL_build 218 = .ok (.pop, 1) := by decide +kernel
theorem dL_build_219 : decode cL_build 219 = .ok (.iload 6, 2) := by decide +kernel
theorem dL_build_221 : decode cL_build 221 = .ok (.iconst 5, 1) := by decide +kernel
theorem dL_build_222 : decode cL_build 222 = .ok (.if_icmp .eq 17, 3) := by decide +kernel
theorem dL_build_225 : decode cL_build 225 = .ok (.iload 6, 2) := by decide +kernel
theorem dL_build_227 : decode cL_build 227 = .ok (.bipush 6, 2) := by decide +kernel
theorem dL_build_229 : decode cL_build 229 = .ok (.if_icmp .eq 10, 3) := by decide +kernel
theorem dL_build_232 : decode cL_build 232 = .ok (.iload 6, 2) := by decide +kernel
theorem dL_build_234 : decode cL_build 234 = .ok (.bipush 7, 2) := by decide +kernel
theorem dL_build_236 : decode cL_build 236 = .ok (.if_icmp .ne 21, 3) := by decide +kernel
theorem dL_build_239 : decode cL_build 239 = .ok (.aload_n 1, 1) := by decide +kernel
theorem dL_build_240 : decode cL_build 240 = .ok (.bipush 9, 2) := by decide +kernel
theorem dL_build_242 : decode cL_build 242 = .ok (.bipush 10, 2) := by decide +kernel
theorem dL_build_244 : decode cL_build 244 = .ok (.iconst 1, 1) := by decide +kernel
theorem dL_build_245 : decode cL_build 245 = .ok (.iload 7, 2) := by decide +kernel
theorem dL_build_247 : decode cL_build 247 = .ok (.bipush 9, 2) := by decide +kernel
theorem dL_build_249 : decode cL_build 249 = .ok (.irem, 1) := by decide +kernel
theorem dL_build_250 : decode cL_build 250 = .ok (.iadd, 1) := by decide +kernel
theorem dL_build_251 : decode cL_build 251 = .ok (.imul, 1) := by decide +kernel
theorem dL_build_252 : decode cL_build 252 = .ok (.iconst 0, 1) := by decide +kernel
theorem dL_build_253 : decode cL_build 253 = .ok (.invokestatic 33, 3) := by decide +kernel
theorem dL_build_256 : decode cL_build 256 = .ok (.pop, 1) := by decide +kernel
theorem dL_build_257 : decode cL_build 257 = .ok (.iload 6, 2) := by decide +kernel
theorem dL_build_259 : decode cL_build 259 = .ok (.bipush 8, 2) := by decide +kernel
theorem dL_build_261 : decode cL_build 261 = .ok (.if_icmp .ne 21, 3) := by decide +kernel
theorem dL_build_264 : decode cL_build 264 = .ok (.aload_n 1, 1) := by decide +kernel
theorem dL_build_265 : decode cL_build 265 = .ok (.bipush 10, 2) := by decide +kernel
theorem dL_build_267 : decode cL_build 267 = .ok (.bipush 10, 2) := by decide +kernel
theorem dL_build_269 : decode cL_build 269 = .ok (.iconst 1, 1) := by decide +kernel
theorem dL_build_270 : decode cL_build 270 = .ok (.iload 7, 2) := by decide +kernel
theorem dL_build_272 : decode cL_build 272 = .ok (.bipush 20, 2) := by decide +kernel
theorem dL_build_274 : decode cL_build 274 = .ok (.irem, 1) := by decide +kernel
theorem dL_build_275 : decode cL_build 275 = .ok (.iadd, 1) := by decide +kernel
theorem dL_build_276 : decode cL_build 276 = .ok (.imul, 1) := by decide +kernel
theorem dL_build_277 : decode cL_build 277 = .ok (.iconst 0, 1) := by decide +kernel
theorem dL_build_278 : decode cL_build 278 = .ok (.invokestatic 33, 3) := by decide +kernel
theorem dL_build_281 : decode cL_build 281 = .ok (.pop, 1) := by decide +kernel
theorem dL_build_282 : decode cL_build 282 = .ok (.iload 6, 2) := by decide +kernel
theorem dL_build_284 : decode cL_build 284 = .ok (.bipush 9, 2) := by decide +kernel
theorem dL_build_286 : decode cL_build 286 = .ok (.if_icmp .ne 15, 3) := by decide +kernel
theorem dL_build_289 : decode cL_build 289 = .ok (.aload_n 1, 1) := by decide +kernel
theorem dL_build_290 : decode cL_build 290 = .ok (.bipush 10, 2) := by decide +kernel
theorem dL_build_292 : decode cL_build 292 = .ok (.iconst 1, 1) := by decide +kernel
theorem dL_build_293 : decode cL_build 293 = .ok (.iload 7, 2) := by decide +kernel
theorem dL_build_295 : decode cL_build 295 = .ok (.iadd, 1) := by decide +kernel
theorem dL_build_296 : decode cL_build 296 = .ok (.iconst 0, 1) := by decide +kernel
theorem dL_build_297 : decode cL_build 297 = .ok (.invokestatic 33, 3) := by decide +kernel
theorem dL_build_300 : decode cL_build 300 = .ok (.pop, 1) := by decide +kernel
theorem dL_build_301 : decode cL_build 301 = .ok (.iload 6, 2) := by decide +kernel
theorem dL_build_303 : decode cL_build 303 = .ok (.bipush 10, 2) := by decide +kernel
theorem dL_build_305 : decode cL_build 305 = .ok (.if_icmp .ne 28, 3) := by decide +kernel
theorem dL_build_308 : decode cL_build 308 = .ok (.aload_n 1, 1) := by decide +kernel
theorem dL_build_309 : decode cL_build 309 = .ok (.invokevirtual 42, 3) := by decide +kernel
theorem dL_build_312 : decode cL_build 312 = .ok (.ifCond .le 21, 3) := by decide +kernel
theorem dL_build_315 : decode cL_build 315 = .ok (.aload_n 1, 1) := by decide +kernel
theorem dL_build_316 : decode cL_build 316 = .ok (.iconst 3, 1) := by decide +kernel
theorem dL_build_317 : decode cL_build 317 = .ok (.aload_n 1, 1) := by decide +kernel
theorem dL_build_318 : decode cL_build 318 = .ok (.iload 7, 2) := by decide +kernel
theorem dL_build_320 : decode cL_build 320 = .ok (.aload_n 1, 1) := by decide +kernel
theorem dL_build_321 : decode cL_build 321 = .ok (.invokevirtual 42, 3) := by decide +kernel
theorem dL_build_324 : decode cL_build 324 = .ok (.irem, 1) := by decide +kernel
theorem dL_build_325 : decode cL_build 325 = .ok (.invokevirtual 45, 3) := by decide +kernel
theorem dL_build_328 : decode cL_build 328 = .ok (.iconst 0, 1) := by decide +kernel
theorem dL_build_329 : decode cL_build 329 = .ok (.invokestatic 33, 3) := by decide +kernel
theorem dL_build_332 : decode cL_build 332 = .ok (.pop, 1) := by decide +kernel
theorem dL_build_333 : decode cL_build 333 = .ok (.iload 6, 2) := by decide +kernel
theorem dL_build_335 : decode cL_build 335 = .ok (.bipush 11, 2) := by decide +kernel
theorem dL_build_337 : decode cL_build 337 = .ok (.if_icmp .ne 12, 3) := by decide +kernel
theorem dL_build_340 : decode cL_build 340 = .ok (.aload_n 1, 1) := by decide +kernel
theorem dL_build_341 : decode cL_build 341 = .ok (.bipush 11, 2) := by decide +kernel
theorem dL_build_343 : decode cL_build 343 = .ok (.iconst 0, 1) := by decide +kernel
theorem dL_build_344 : decode cL_build 344 = .ok (.iconst 0, 1) := by decide +kernel
theorem dL_build_345 : decode cL_build 345 = .ok (.invokestatic 33, 3) := by decide +kernel
theorem dL_build_348 : decode cL_build 348 = .ok (.pop, 1) := by decide +kernel
theorem dL_build_349 : decode cL_build 349 = .ok (.iload 6, 2) := by decide +kernel
theorem dL_build_351 : decode cL_build 351 = .ok (.bipush 12, 2) := by decide +kernel
theorem dL_build_353 : decode cL_build 353 = .ok (.if_icmp .eq 10, 3) := by decide +kernel
theorem dL_build_356 : decode cL_build 356 = .ok (.iload 6, 2) := by decide +kernel
theorem dL_build_358 : decode cL_build 358 = .ok (.bipush 13, 2) := by decide +kernel
theorem dL_build_360 : decode cL_build 360 = .ok (.if_icmp .ne 50, 3) := by decide +kernel
theorem dL_build_363 : decode cL_build 363 = .ok (.aload_n 1, 1) := by decide +kernel
theorem dL_build_364 : decode cL_build 364 = .ok (.iload 4, 2) := by decide +kernel
theorem dL_build_366 : decode cL_build 366 = .ok (.iconst 2, 1) := by decide +kernel
theorem dL_build_367 : decode cL_build 367 = .ok (.ishr, 1) := by decide +kernel
theorem dL_build_368 : decode cL_build 368 = .ok (.bipush 7, 2) := by decide +kernel
theorem dL_build_370 : decode cL_build 370 = .ok (.iand, 1) := by decide +kernel
theorem dL_build_371 : decode cL_build 371 = .ok (.iload 5, 2) := by decide +kernel
theorem dL_build_373 : decode cL_build 373 = .ok (.irem, 1) := by decide +kernel
theorem dL_build_374 : decode cL_build 374 = .ok (.iload 4, 2) := by decide +kernel
theorem dL_build_376 : decode cL_build 376 = .ok (.iconst 5, 1) := by decide +kernel
theorem dL_build_377 : decode cL_build 377 = .ok (.ishr, 1) := by decide +kernel
theorem dL_build_378 : decode cL_build 378 = .ok (.bipush 7, 2) := by decide +kernel
theorem dL_build_380 : decode cL_build 380 = .ok (.iand, 1) := by decide +kernel
theorem dL_build_381 : decode cL_build 381 = .ok (.iload 5, 2) := by decide +kernel
theorem dL_build_383 : decode cL_build 383 = .ok (.irem, 1) := by decide +kernel
theorem dL_build_384 : decode cL_build 384 = .ok (.iconst 1, 1) := by decide +kernel
theorem dL_build_385 : decode cL_build 385 = .ok (.iload 7, 2) := by decide +kernel
theorem dL_build_387 : decode cL_build 387 = .ok (.iadd, 1) := by decide +kernel
theorem dL_build_388 : decode cL_build 388 = .ok (.iconst 1, 1) := by decide +kernel
theorem dL_build_389 : decode cL_build 389 = .ok (.iload 4, 2) := by decide +kernel
theorem dL_build_391 : decode cL_build 391 = .ok (.bipush 25, 2) := by decide +kernel
theorem dL_build_393 : decode cL_build 393 = .ok (.ishr, 1) := by decide +kernel
theorem dL_build_394 : decode cL_build 394 = .ok (.iconst 3, 1) := by decide +kernel
theorem dL_build_395 : decode cL_build 395 = .ok (.iand, 1) := by decide +kernel
theorem dL_build_396 : decode cL_build 396 = .ok (.iadd, 1) := by decide +kernel
theorem dL_build_397 : decode cL_build 397 = .ok (.iconst 1, 1) := by decide +kernel
theorem dL_build_398 : decode cL_build 398 = .ok (.iload 4, 2) := by decide +kernel
theorem dL_build_400 : decode cL_build 400 = .ok (.bipush 27, 2) := by decide +kernel
theorem dL_build_402 : decode cL_build 402 = .ok (.ishr, 1) := by decide +kernel
theorem dL_build_403 : decode cL_build 403 = .ok (.iconst 3, 1) := by decide +kernel
theorem dL_build_404 : decode cL_build 404 = .ok (.iand, 1) := by decide +kernel
theorem dL_build_405 : decode cL_build 405 = .ok (.iadd, 1) := by decide +kernel
theorem dL_build_406 : decode cL_build 406 = .ok (.invokestatic 49, 3) := by decide +kernel
theorem dL_build_409 : decode cL_build 409 = .ok (.pop, 1) := by decide +kernel
theorem dL_build_410 : decode cL_build 410 = .ok (.iload 6, 2) := by decide +kernel
theorem dL_build_412 : decode cL_build 412 = .ok (.bipush 14, 2) := by decide +kernel
theorem dL_build_414 : decode cL_build 414 = .ok (.if_icmp .ne 14, 3) := by decide +kernel
theorem dL_build_417 : decode cL_build 417 = .ok (.aload_n 1, 1) := by decide +kernel
theorem dL_build_418 : decode cL_build 418 = .ok (.iconst 5, 1) := by decide +kernel
theorem dL_build_419 : decode cL_build 419 = .ok (.iload 7, 2) := by decide +kernel
theorem dL_build_421 : decode cL_build 421 = .ok (.iconst 3, 1) := by decide +kernel
theorem dL_build_422 : decode cL_build 422 = .ok (.iand, 1) := by decide +kernel
theorem dL_build_423 : decode cL_build 423 = .ok (.iconst 0, 1) := by decide +kernel
theorem dL_build_424 : decode cL_build 424 = .ok (.invokestatic 33, 3) := by decide +kernel
theorem dL_build_427 : decode cL_build 427 = .ok (.pop, 1) := by decide +kernel
theorem dL_build_428 : decode cL_build 428 = .ok (.iload 4, 2) := by decide +kernel
theorem dL_build_430 : decode cL_build 430 = .ok (.bipush 11, 2) := by decide +kernel
theorem dL_build_432 : decode cL_build 432 = .ok (.ishr, 1) := by decide +kernel
theorem dL_build_433 : decode cL_build 433 = .ok (.iconst 3, 1) := by decide +kernel
theorem dL_build_434 : decode cL_build 434 = .ok (.iand, 1) := by decide +kernel
theorem dL_build_435 : decode cL_build 435 = .ok (.ifCond .ne 18, 3) := by decide +kernel
theorem dL_build_438 : decode cL_build 438 = .ok (.aload_n 1, 1) := by decide +kernel
theorem dL_build_439 : decode cL_build 439 = .ok (.bipush 6, 2) := by decide +kernel
theorem dL_build_441 : decode cL_build 441 = .ok (.iconst 1, 1) := by decide +kernel
theorem dL_build_442 : decode cL_build 442 = .ok (.iload 7, 2) := by decide +kernel
theorem dL_build_444 : decode cL_build 444 = .ok (.bipush 7, 2) := by decide +kernel
theorem dL_build_446 : decode cL_build 446 = .ok (.iand, 1) := by decide +kernel
theorem dL_build_447 : decode cL_build 447 = .ok (.iadd, 1) := by decide +kernel
theorem dL_build_448 : decode cL_build 448 = .ok (.iconst 0, 1) := by decide +kernel
theorem dL_build_449 : decode cL_build 449 = .ok (.invokestatic 33, 3) := by decide +kernel
theorem dL_build_452 : decode cL_build 452 = .ok (.pop, 1) := by decide +kernel
theorem dL_build_453 : decode cL_build 453 = .ok (.iinc 3 1, 3) := by decide +kernel
theorem dL_build_456 : decode cL_build 456 = .ok (.goto (-375), 3) := by decide +kernel
theorem dL_build_459 : decode cL_build 459 = .ok (.aload_n 1, 1) := by decide +kernel
theorem dL_build_460 : decode cL_build 460 = .ok (.areturn, 1) := by decide +kernel
theorem dL_entry_0 : decode cL_entry 0 = .ok (.aload_n 0, 1) := by decide +kernel
theorem dL_entry_1 : decode cL_entry 1 = .ok (.iload_n 1, 1) := by decide +kernel
theorem dL_entry_2 : decode cL_entry 2 = .ok (.iload_n 2, 1) := by decide +kernel
theorem dL_entry_3 : decode cL_entry 3 = .ok (.iload_n 3, 1) := by decide +kernel
theorem dL_entry_4 : decode cL_entry 4 = .ok (.invokevirtual 53, 3) := by decide +kernel
theorem dL_entry_7 : decode cL_entry 7 = .ok (.ireturn, 1) := by decide +kernel
theorem dL_entry_8 : decode cL_entry 8 = .ok (.astore 4, 2) := by decide +kernel
theorem dL_entry_10 : decode cL_entry 10 = .ok (.ldc 59, 2) := by decide +kernel
theorem dL_entry_12 : decode cL_entry 12 = .ok (.ireturn, 1) := by decide +kernel
theorem dL_entry_13 : decode cL_entry 13 = .ok (.astore 4, 2) := by decide +kernel
theorem dL_entry_15 : decode cL_entry 15 = .ok (.ldc 62, 2) := by decide +kernel
theorem dL_entry_17 : decode cL_entry 17 = .ok (.ireturn, 1) := by decide +kernel
theorem dL_prompt_0 : decode cL_prompt 0 = .ok (.aload_n 0, 1) := by decide +kernel
theorem dL_prompt_1 : decode cL_prompt 1 = .ok (.iload_n 1, 1) := by decide +kernel
theorem dL_prompt_2 : decode cL_prompt 2 = .ok (.iload_n 2, 1) := by decide +kernel
theorem dL_prompt_3 : decode cL_prompt 3 = .ok (.iload_n 3, 1) := by decide +kernel
theorem dL_prompt_4 : decode cL_prompt 4 = .ok (.iload 4, 2) := by decide +kernel
theorem dL_prompt_6 : decode cL_prompt 6 = .ok (.iload 5, 2) := by decide +kernel
theorem dL_prompt_8 : decode cL_prompt 8 = .ok (.invokevirtual 63, 3) := by decide +kernel
theorem dL_prompt_11 : decode cL_prompt 11 = .ok (.ireturn, 1) := by decide +kernel
theorem dL_prompt_12 : decode cL_prompt 12 = .ok (.astore 6, 2) := by decide +kernel
theorem dL_prompt_14 : decode cL_prompt 14 = .ok (.ldc 59, 2) := by decide +kernel
theorem dL_prompt_16 : decode cL_prompt 16 = .ok (.ireturn, 1) := by decide +kernel
theorem dL_prompt_17 : decode cL_prompt 17 = .ok (.astore 6, 2) := by decide +kernel
theorem dL_prompt_19 : decode cL_prompt 19 = .ok (.ldc 62, 2) := by decide +kernel
theorem dL_prompt_21 : decode cL_prompt 21 = .ok (.ireturn, 1) := by decide +kernel
theorem dL_prompt_22 : decode cL_prompt 22 = .ok (.astore 6, 2) := by decide +kernel
theorem dL_prompt_24 : decode cL_prompt 24 = .ok (.ldc 68, 2) := by decide +kernel
theorem dL_prompt_26 : decode cL_prompt 26 = .ok (.ireturn, 1) := by decide +kernel
theorem dL_act_0 : decode cL_act 0 = .ok (.iload_n 1, 1) := by decide +kernel
theorem dL_act_1 : decode cL_act 1 = .ok (.tableswitch 204 0 18 #[91, 98, 204, 104, 204, 110, 116, 122, 129, 136, 142, 148, 153, 159, 165, 171, 177, 192, 198], 91) := by decide +kernel
theorem dL_act_92 : decode cL_act 92 = .ok (.aload_n 0, 1) := by decide +kernel
theorem dL_act_93 : decode cL_act 93 = .ok (.iload_n 2, 1) := by decide +kernel
theorem dL_act_94 : decode cL_act 94 = .ok (.i2c, 1) := by decide +kernel
theorem dL_act_95 : decode cL_act 95 = .ok (.invokevirtual 69, 3) := by decide +kernel
theorem dL_act_98 : decode cL_act 98 = .ok (.ireturn, 1) := by decide +kernel
theorem dL_act_99 : decode cL_act 99 = .ok (.aload_n 0, 1) := by decide +kernel
theorem dL_act_100 : decode cL_act 100 = .ok (.iload_n 2, 1) := by decide +kernel
theorem dL_act_101 : decode cL_act 101 = .ok (.invokevirtual 72, 3) := by decide +kernel
theorem dL_act_104 : decode cL_act 104 = .ok (.ireturn, 1) := by decide +kernel
theorem dL_act_105 : decode cL_act 105 = .ok (.aload_n 0, 1) := by decide +kernel
theorem dL_act_106 : decode cL_act 106 = .ok (.iload_n 2, 1) := by decide +kernel
theorem dL_act_107 : decode cL_act 107 = .ok (.invokevirtual 75, 3) := by decide +kernel
theorem dL_act_110 : decode cL_act 110 = .ok (.ireturn, 1) := by decide +kernel
theorem dL_act_111 : decode cL_act 111 = .ok (.aload_n 0, 1) := by decide +kernel
theorem dL_act_112 : decode cL_act 112 = .ok (.iload_n 2, 1) := by decide +kernel
theorem dL_act_113 : decode cL_act 113 = .ok (.invokevirtual 78, 3) := by decide +kernel
theorem dL_act_116 : decode cL_act 116 = .ok (.ireturn, 1) := by decide +kernel
theorem dL_act_117 : decode cL_act 117 = .ok (.aload_n 0, 1) := by decide +kernel
theorem dL_act_118 : decode cL_act 118 = .ok (.iload_n 2, 1) := by decide +kernel
theorem dL_act_119 : decode cL_act 119 = .ok (.invokevirtual 81, 3) := by decide +kernel
theorem dL_act_122 : decode cL_act 122 = .ok (.ireturn, 1) := by decide +kernel
theorem dL_act_123 : decode cL_act 123 = .ok (.aload_n 0, 1) := by decide +kernel
theorem dL_act_124 : decode cL_act 124 = .ok (.iload_n 2, 1) := by decide +kernel
theorem dL_act_125 : decode cL_act 125 = .ok (.iload_n 3, 1) := by decide +kernel
theorem dL_act_126 : decode cL_act 126 = .ok (.invokevirtual 84, 3) := by decide +kernel
theorem dL_act_129 : decode cL_act 129 = .ok (.ireturn, 1) := by decide +kernel
theorem dL_act_130 : decode cL_act 130 = .ok (.aload_n 0, 1) := by decide +kernel
theorem dL_act_131 : decode cL_act 131 = .ok (.iload_n 2, 1) := by decide +kernel
theorem dL_act_132 : decode cL_act 132 = .ok (.iload_n 3, 1) := by decide +kernel
theorem dL_act_133 : decode cL_act 133 = .ok (.invokevirtual 88, 3) := by decide +kernel
theorem dL_act_136 : decode cL_act 136 = .ok (.ireturn, 1) := by decide +kernel
theorem dL_act_137 : decode cL_act 137 = .ok (.aload_n 0, 1) := by decide +kernel
theorem dL_act_138 : decode cL_act 138 = .ok (.iload_n 2, 1) := by decide +kernel
theorem dL_act_139 : decode cL_act 139 = .ok (.invokevirtual 91, 3) := by decide +kernel
theorem dL_act_142 : decode cL_act 142 = .ok (.ireturn, 1) := by decide +kernel
theorem dL_act_143 : decode cL_act 143 = .ok (.aload_n 0, 1) := by decide +kernel
theorem dL_act_144 : decode cL_act 144 = .ok (.iload_n 2, 1) := by decide +kernel
theorem dL_act_145 : decode cL_act 145 = .ok (.invokevirtual 94, 3) := by decide +kernel
theorem dL_act_148 : decode cL_act 148 = .ok (.ireturn, 1) := by decide +kernel
theorem dL_act_149 : decode cL_act 149 = .ok (.aload_n 0, 1) := by decide +kernel
theorem dL_act_150 : decode cL_act 150 = .ok (.invokevirtual 97, 3) := by decide +kernel
theorem dL_act_153 : decode cL_act 153 = .ok (.ireturn, 1) := by decide +kernel
theorem dL_act_154 : decode cL_act 154 = .ok (.aload_n 0, 1) := by decide +kernel
theorem dL_act_155 : decode cL_act 155 = .ok (.iload_n 2, 1) := by decide +kernel
theorem dL_act_156 : decode cL_act 156 = .ok (.invokevirtual 100, 3) := by decide +kernel
theorem dL_act_159 : decode cL_act 159 = .ok (.ireturn, 1) := by decide +kernel
theorem dL_act_160 : decode cL_act 160 = .ok (.aload_n 0, 1) := by decide +kernel
theorem dL_act_161 : decode cL_act 161 = .ok (.iload_n 2, 1) := by decide +kernel
theorem dL_act_162 : decode cL_act 162 = .ok (.invokevirtual 103, 3) := by decide +kernel
theorem dL_act_165 : decode cL_act 165 = .ok (.ireturn, 1) := by decide +kernel
theorem dL_act_166 : decode cL_act 166 = .ok (.aload_n 0, 1) := by decide +kernel
theorem dL_act_167 : decode cL_act 167 = .ok (.iload_n 2, 1) := by decide +kernel
theorem dL_act_168 : decode cL_act 168 = .ok (.invokevirtual 106, 3) := by decide +kernel
theorem dL_act_171 : decode cL_act 171 = .ok (.ireturn, 1) := by decide +kernel
theorem dL_act_172 : decode cL_act 172 = .ok (.aload_n 0, 1) := by decide +kernel
theorem dL_act_173 : decode cL_act 173 = .ok (.iload_n 2, 1) := by decide +kernel
theorem dL_act_174 : decode cL_act 174 = .ok (.invokevirtual 109, 3) := by decide +kernel
theorem dL_act_177 : decode cL_act 177 = .ok (.ireturn, 1) := by decide +kernel
theorem dL_act_178 : decode cL_act 178 = .ok (.aload_n 0, 1) := by decide +kernel
theorem dL_act_179 : decode cL_act 179 = .ok (.iload_n 2, 1) := by decide +kernel
theorem dL_act_180 : decode cL_act 180 = .ok (.iload_n 3, 1) := by decide +kernel
theorem dL_act_181 : decode cL_act 181 = .ok (.invokevirtual 112, 3) := by decide +kernel
theorem dL_act_184 : decode cL_act 184 = .ok (.ifCond .eq 7, 3) := by decide +kernel
theorem dL_act_187 : decode cL_act 187 = .ok (.iconst 1, 1) := by decide +kernel
theorem dL_act_188 : decode cL_act 188 = .ok (.goto 4, 3) := by decide +kernel
theorem dL_act_191 : decode cL_act 191 = .ok (.iconst 0, 1) := by decide +kernel
theorem dL_act_192 : decode cL_act 192 = .ok (.ireturn, 1) := by decide +kernel
theorem dL_act_193 : decode cL_act 193 = .ok (.aload_n 0, 1) := by decide +kernel
theorem dL_act_194 : decode cL_act 194 = .ok (.iload_n 2, 1) := by decide +kernel
theorem dL_act_195 : decode cL_act 195 = .ok (.invokevirtual 116, 3) := by decide +kernel
theorem dL_act_198 : decode cL_act 198 = .ok (.ireturn, 1) := by decide +kernel
theorem dL_act_199 : decode cL_act 199 = .ok (.aload_n 0, 1) := by decide +kernel
theorem dL_act_200 : decode cL_act 200 = .ok (.iload_n 2, 1) := by decide +kernel
theorem dL_act_201 : decode cL_act 201 = .ok (.invokevirtual 119, 3) := by decide +kernel
theorem dL_act_204 : decode cL_act 204 = .ok (.ireturn, 1) := by decide +kernel
theorem dL_act_205 : decode cL_act 205 = .ok (.aload_n 0, 1) := by decide +kernel
theorem dL_act_206 : decode cL_act 206 = .ok (.iload_n 2, 1) := by decide +kernel
theorem dL_act_207 : decode cL_act 207 = .ok (.invokevirtual 122, 3) := by decide +kernel
theorem dL_act_210 : decode cL_act 210 = .ok (.ifCond .eq 7, 3) := by decide +kernel
theorem dL_act_213 : decode cL_act 213 = .ok (.iconst 1, 1) := by decide +kernel
theorem dL_act_214 : decode cL_act 214 = .ok (.goto 4, 3) := by decide +kernel
theorem dL_act_217 : decode cL_act 217 = .ok (.iconst 0, 1) := by decide +kernel
theorem dL_act_218 : decode cL_act 218 = .ok (.ireturn, 1) := by decide +kernel
theorem dL_act_219 : decode cL_act 219 = .ok (.astore 4, 2) := by decide +kernel
theorem dL_act_221 : decode cL_act 221 = .ok (.ldc 59, 2) := by decide +kernel
theorem dL_act_223 : decode cL_act 223 = .ok (.ireturn, 1) := by decide +kernel
theorem dL_act_224 : decode cL_act 224 = .ok (.astore 4, 2) := by decide +kernel
theorem dL_act_226 : decode cL_act 226 = .ok (.ldc 62, 2) := by decide +kernel
theorem dL_act_228 : decode cL_act 228 = .ok (.ireturn, 1) := by decide +kernel
theorem dL_act_229 : decode cL_act 229 = .ok (.astore 4, 2) := by decide +kernel
theorem dL_act_231 : decode cL_act 231 = .ok (.ldc 68, 2) := by decide +kernel
theorem dL_act_233 : decode cL_act 233 = .ok (.ireturn, 1) := by decide +kernel
theorem dL_act_234 : decode cL_act 234 = .ok (.astore 4, 2) := by decide +kernel
theorem dL_act_236 : decode cL_act 236 = .ok (.ldc 128, 2) := by decide +kernel
theorem dL_act_238 : decode cL_act 238 = .ok (.ireturn, 1) := by decide +kernel
theorem dL_act_239 : decode cL_act 239 = .ok (.astore 4, 2) := by decide +kernel
theorem dL_act_241 : decode cL_act 241 = .ok (.ldc 131, 2) := by decide +kernel
theorem dL_act_243 : decode cL_act 243 = .ok (.ireturn, 1) := by decide +kernel
theorem dL_state_0 : decode cL_state 0 = .ok (.bipush 31, 2) := by decide +kernel
theorem dL_state_2 : decode cL_state 2 = .ok (.bipush 31, 2) := by decide +kernel
theorem dL_state_4 : decode cL_state 4 = .ok (.bipush 31, 2) := by decide +kernel
theorem dL_state_6 : decode cL_state 6 = .ok (.aload_n 0, 1) := by decide +kernel
theorem dL_state_7 : decode cL_state 7 = .ok (.invokevirtual 132, 3) := by decide +kernel
theorem dL_state_10 : decode cL_state 10 = .ok (.imul, 1) := by decide +kernel
theorem dL_state_11 : decode cL_state 11 = .ok (.aload_n 0, 1) := by decide +kernel
theorem dL_state_12 : decode cL_state 12 = .ok (.invokevirtual 135, 3) := by decide +kernel
theorem dL_state_15 : decode cL_state 15 = .ok (.iadd, 1) := by decide +kernel
theorem dL_state_16 : decode cL_state 16 = .ok (.imul, 1) := by decide +kernel
theorem dL_state_17 : decode cL_state 17 = .ok (.aload_n 0, 1) := by decide +kernel
theorem dL_state_18 : decode cL_state 18 = .ok (.invokevirtual 138, 3) := by decide +kernel
theorem dL_state_21 : decode cL_state 21 = .ok (.iadd, 1) := by decide +kernel
theorem dL_state_22 : decode cL_state 22 = .ok (.imul, 1) := by decide +kernel
theorem dL_state_23 : decode cL_state 23 = .ok (.aload_n 0, 1) := by decide +kernel
theorem dL_state_24 : decode cL_state 24 = .ok (.invokevirtual 141, 3) := by decide +kernel
theorem dL_state_27 : decode cL_state 27 = .ok (.iadd, 1) := by decide +kernel
theorem dL_state_28 : decode cL_state 28 = .ok (.istore_n 1, 1) := by decide +kernel
theorem dL_state_29 : decode cL_state 29 = .ok (.iconst 0, 1) := by decide +kernel
theorem dL_state_30 : decode cL_state 30 = .ok (.istore_n 2, 1) := by decide +kernel
theorem dL_state_31 : decode cL_state 31 = .ok (.iload_n 2, 1) := by decide +kernel
theorem dL_state_32 : decode cL_state 32 = .ok (.aload_n 0, 1) := by decide +kernel
theorem dL_state_33 : decode cL_state 33 = .ok (.invokevirtual 30, 3) := by decide +kernel
theorem dL_state_36 : decode cL_state 36 = .ok (.if_icmp .ge 52, 3) := by decide +kernel
theorem dL_state_39 : decode cL_state 39 = .ok (.bipush 31, 2) := by decide +kernel
theorem dL_state_41 : decode cL_state 41 = .ok (.bipush 31, 2) := by decide +kernel
theorem dL_state_43 : decode cL_state 43 = .ok (.bipush 31, 2) := by decide +kernel
theorem dL_state_45 : decode cL_state 45 = .ok (.bipush 31, 2) := by decide +kernel
theorem dL_state_47 : decode cL_state 47 = .ok (.iload_n 1, 1) := by decide +kernel
theorem dL_state_48 : decode cL_state 48 = .ok (.imul, 1) := by decide +kernel
theorem dL_state_49 : decode cL_state 49 = .ok (.aload_n 0, 1) := by decide +kernel
theorem dL_state_50 : decode cL_state 50 = .ok (.iload_n 2, 1) := by decide +kernel
theorem dL_state_51 : decode cL_state 51 = .ok (.invokevirtual 144, 3) := by decide +kernel
theorem dL_state_54 : decode cL_state 54 = .ok (.iadd, 1) := by decide +kernel
theorem dL_state_55 : decode cL_state 55 = .ok (.imul, 1) := by decide +kernel
theorem dL_state_56 : decode cL_state 56 = .ok (.aload_n 0, 1) := by decide +kernel
theorem dL_state_57 : decode cL_state 57 = .ok (.bipush 12, 2) := by decide +kernel
theorem dL_state_59 : decode cL_state 59 = .ok (.iload_n 2, 1) := by decide +kernel
theorem dL_state_60 : decode cL_state 60 = .ok (.iconst 0, 1) := by decide +kernel
theorem dL_state_61 : decode cL_state 61 = .ok (.invokestatic 33, 3) := by decide +kernel
theorem dL_state_64 : decode cL_state 64 = .ok (.iadd, 1) := by decide +kernel
theorem dL_state_65 : decode cL_state 65 = .ok (.imul, 1) := by decide +kernel
theorem dL_state_66 : decode cL_state 66 = .ok (.aload_n 0, 1) := by decide +kernel
theorem dL_state_67 : decode cL_state 67 = .ok (.iload_n 2, 1) := by decide +kernel
theorem dL_state_68 : decode cL_state 68 = .ok (.invokevirtual 147, 3) := by decide +kernel
theorem dL_state_71 : decode cL_state 71 = .ok (.l2i, 1) := by decide +kernel
theorem dL_state_72 : decode cL_state 72 = .ok (.iadd, 1) := by decide +kernel
theorem dL_state_73 : decode cL_state 73 = .ok (.imul, 1) := by decide +kernel
theorem dL_state_74 : decode cL_state 74 = .ok (.aload_n 0, 1) := by decide +kernel
theorem dL_state_75 : decode cL_state 75 = .ok (.iload_n 2, 1) := by decide +kernel
theorem dL_state_76 : decode cL_state 76 = .ok (.invokevirtual 151, 3) := by decide +kernel
theorem dL_state_79 : decode cL_state 79 = .ok (.l2i, 1) := by decide +kernel
theorem dL_state_80 : decode cL_state 80 = .ok (.iadd, 1) := by decide +kernel
theorem dL_state_81 : decode cL_state 81 = .ok (.istore_n 1, 1) := by decide +kernel
theorem dL_state_82 : decode cL_state 82 = .ok (.iinc 2 1, 3) := by decide +kernel
theorem dL_state_85 : decode cL_state 85 = .ok (.goto (-54), 3) := by decide +kernel
theorem dL_state_88 : decode cL_state 88 = .ok (.iconst 0, 1) := by decide +kernel
theorem dL_state_89 : decode cL_state 89 = .ok (.istore_n 2, 1) := by decide +kernel
theorem dL_state_90 : decode cL_state 90 = .ok (.iload_n 2, 1) := by decide +kernel
theorem dL_state_91 : decode cL_state 91 = .ok (.aload_n 0, 1) := by decide +kernel
theorem dL_state_92 : decode cL_state 92 = .ok (.invokevirtual 42, 3) := by decide +kernel
theorem dL_state_95 : decode cL_state 95 = .ok (.if_icmp .ge 78, 3) := by decide +kernel
theorem dL_state_98 : decode cL_state 98 = .ok (.aload_n 0, 1) := by decide +kernel
theorem dL_state_99 : decode cL_state 99 = .ok (.iload_n 2, 1) := by decide +kernel
theorem dL_state_100 : decode cL_state 100 = .ok (.invokevirtual 45, 3) := by decide +kernel
theorem dL_state_103 : decode cL_state 103 = .ok (.istore_n 3, 1) := by decide +kernel
theorem dL_state_104 : decode cL_state 104 = .ok (.bipush 31, 2) := by decide +kernel
theorem dL_state_106 : decode cL_state 106 = .ok (.bipush 31, 2) := by decide +kernel
theorem dL_state_108 : decode cL_state 108 = .ok (.bipush 31, 2) := by decide +kernel
theorem dL_state_110 : decode cL_state 110 = .ok (.bipush 31, 2) := by decide +kernel
theorem dL_state_112 : decode cL_state 112 = .ok (.iload_n 1, 1) := by decide +kernel
theorem dL_state_113 : decode cL_state 113 = .ok (.imul, 1) := by decide +kernel
theorem dL_state_114 : decode cL_state 114 = .ok (.iload_n 3, 1) := by decide +kernel
theorem dL_state_115 : decode cL_state 115 = .ok (.iadd, 1) := by decide +kernel
theorem dL_state_116 : decode cL_state 116 = .ok (.imul, 1) := by decide +kernel
theorem dL_state_117 : decode cL_state 117 = .ok (.aload_n 0, 1) := by decide +kernel
theorem dL_state_118 : decode cL_state 118 = .ok (.iload_n 3, 1) := by decide +kernel
theorem dL_state_119 : decode cL_state 119 = .ok (.invokevirtual 119, 3) := by decide +kernel
theorem dL_state_122 : decode cL_state 122 = .ok (.iadd, 1) := by decide +kernel
theorem dL_state_123 : decode cL_state 123 = .ok (.imul, 1) := by decide +kernel
theorem dL_state_124 : decode cL_state 124 = .ok (.aload_n 0, 1) := by decide +kernel
theorem dL_state_125 : decode cL_state 125 = .ok (.iload_n 3, 1) := by decide +kernel
theorem dL_state_126 : decode cL_state 126 = .ok (.invokevirtual 154, 3) := by decide +kernel
theorem dL_state_129 : decode cL_state 129 = .ok (.iadd, 1) := by decide +kernel
theorem dL_state_130 : decode cL_state 130 = .ok (.imul, 1) := by decide +kernel
theorem dL_state_131 : decode cL_state 131 = .ok (.aload_n 0, 1) := by decide +kernel
theorem dL_state_132 : decode cL_state 132 = .ok (.iload_n 3, 1) := by decide +kernel
theorem dL_state_133 : decode cL_state 133 = .ok (.invokevirtual 157, 3) := by decide +kernel
theorem dL_state_136 : decode cL_state 136 = .ok (.l2i, 1) := by decide +kernel
theorem dL_state_137 : decode cL_state 137 = .ok (.iadd, 1) := by decide +kernel
theorem dL_state_138 : decode cL_state 138 = .ok (.istore_n 1, 1) := by decide +kernel
theorem dL_state_139 : decode cL_state 139 = .ok (.bipush 31, 2) := by decide +kernel
theorem dL_state_141 : decode cL_state 141 = .ok (.bipush 31, 2) := by decide +kernel
theorem dL_state_143 : decode cL_state 143 = .ok (.iload_n 1, 1) := by decide +kernel
theorem dL_state_144 : decode cL_state 144 = .ok (.imul, 1) := by decide +kernel
theorem dL_state_145 : decode cL_state 145 = .ok (.aload_n 0, 1) := by decide +kernel
theorem dL_state_146 : decode cL_state 146 = .ok (.iload_n 3, 1) := by decide +kernel
theorem dL_state_147 : decode cL_state 147 = .ok (.invokevirtual 160, 3) := by decide +kernel
theorem dL_state_150 : decode cL_state 150 = .ok (.iadd, 1) := by decide +kernel
theorem dL_state_151 : decode cL_state 151 = .ok (.imul, 1) := by decide +kernel
theorem dL_state_152 : decode cL_state 152 = .ok (.aload_n 0, 1) := by decide +kernel
theorem dL_state_153 : decode cL_state 153 = .ok (.iload_n 3, 1) := by decide +kernel
theorem dL_state_154 : decode cL_state 154 = .ok (.invokevirtual 122, 3) := by decide +kernel
theorem dL_state_157 : decode cL_state 157 = .ok (.ifCond .eq 7, 3) := by decide +kernel
theorem dL_state_160 : decode cL_state 160 = .ok (.iconst 1, 1) := by decide +kernel
theorem dL_state_161 : decode cL_state 161 = .ok (.goto 4, 3) := by decide +kernel
theorem dL_state_164 : decode cL_state 164 = .ok (.iconst 0, 1) := by decide +kernel
theorem dL_state_165 : decode cL_state 165 = .ok (.iadd, 1) := by decide +kernel
theorem dL_state_166 : decode cL_state 166 = .ok (.istore_n 1, 1) := by decide +kernel
theorem dL_state_167 : decode cL_state 167 = .ok (.iinc 2 1, 3) := by decide +kernel
theorem dL_state_170 : decode cL_state 170 = .ok (.goto (-80), 3) := by decide +kernel
theorem dL_state_173 : decode cL_state 173 = .ok (.iconst 0, 1) := by decide +kernel
theorem dL_state_174 : decode cL_state 174 = .ok (.istore_n 2, 1) := by decide +kernel
theorem dL_state_175 : decode cL_state 175 = .ok (.iload_n 2, 1) := by decide +kernel
theorem dL_state_176 : decode cL_state 176 = .ok (.aload_n 0, 1) := by decide +kernel
theorem dL_state_177 : decode cL_state 177 = .ok (.invokevirtual 163, 3) := by decide +kernel
theorem dL_state_180 : decode cL_state 180 = .ok (.if_icmp .ge 29, 3) := by decide +kernel
theorem dL_state_183 : decode cL_state 183 = .ok (.bipush 31, 2) := by decide +kernel
theorem dL_state_185 : decode cL_state 185 = .ok (.bipush 31, 2) := by decide +kernel
theorem dL_state_187 : decode cL_state 187 = .ok (.iload_n 1, 1) := by decide +kernel
theorem dL_state_188 : decode cL_state 188 = .ok (.imul, 1) := by decide +kernel
theorem dL_state_189 : decode cL_state 189 = .ok (.aload_n 0, 1) := by decide +kernel
theorem dL_state_190 : decode cL_state 190 = .ok (.iload_n 2, 1) := by decide +kernel
theorem dL_state_191 : decode cL_state 191 = .ok (.invokevirtual 166, 3) := by decide +kernel
theorem dL_state_194 : decode cL_state 194 = .ok (.iadd, 1) := by decide +kernel
theorem dL_state_195 : decode cL_state 195 = .ok (.imul, 1) := by decide +kernel
theorem dL_state_196 : decode cL_state 196 = .ok (.aload_n 0, 1) := by decide +kernel
theorem dL_state_197 : decode cL_state 197 = .ok (.iload_n 2, 1) := by decide +kernel
theorem dL_state_198 : decode cL_state 198 = .ok (.invokevirtual 169, 3) := by decide +kernel
theorem dL_state_201 : decode cL_state 201 = .ok (.iadd, 1) := by decide +kernel
theorem dL_state_202 : decode cL_state 202 = .ok (.istore_n 1, 1) := by decide +kernel
theorem dL_state_203 : decode cL_state 203 = .ok (.iinc 2 1, 3) := by decide +kernel
theorem dL_state_206 : decode cL_state 206 = .ok (.goto (-31), 3) := by decide +kernel
theorem dL_state_209 : decode cL_state 209 = .ok (.iconst 1, 1) := by decide +kernel
theorem dL_state_210 : decode cL_state 210 = .ok (.istore_n 2, 1) := by decide +kernel
theorem dL_state_211 : decode cL_state 211 = .ok (.iload_n 2, 1) := by decide +kernel
theorem dL_state_212 : decode cL_state 212 = .ok (.bipush 21, 2) := by decide +kernel
theorem dL_state_214 : decode cL_state 214 = .ok (.if_icmp .ge 23, 3) := by decide +kernel
theorem dL_state_217 : decode cL_state 217 = .ok (.bipush 31, 2) := by decide +kernel
theorem dL_state_219 : decode cL_state 219 = .ok (.iload_n 1, 1) := by decide +kernel
theorem dL_state_220 : decode cL_state 220 = .ok (.imul, 1) := by decide +kernel
theorem dL_state_221 : decode cL_state 221 = .ok (.aload_n 0, 1) := by decide +kernel
theorem dL_state_222 : decode cL_state 222 = .ok (.bipush 13, 2) := by decide +kernel
theorem dL_state_224 : decode cL_state 224 = .ok (.iload_n 2, 1) := by decide +kernel
theorem dL_state_225 : decode cL_state 225 = .ok (.iconst 0, 1) := by decide +kernel
theorem dL_state_226 : decode cL_state 226 = .ok (.invokestatic 33, 3) := by decide +kernel
theorem dL_state_229 : decode cL_state 229 = .ok (.iadd, 1) := by decide +kernel
theorem dL_state_230 : decode cL_state 230 = .ok (.istore_n 1, 1) := by decide +kernel
theorem dL_state_231 : decode cL_state 231 = .ok (.iinc 2 1, 3) := by decide +kernel
theorem dL_state_234 : decode cL_state 234 = .ok (.goto (-23), 3) := by decide +kernel
theorem dL_state_237 : decode cL_state 237 = .ok (.iconst 0, 1) := by decide +kernel
theorem dL_state_238 : decode cL_state 238 = .ok (.istore_n 2, 1) := by decide +kernel
theorem dL_state_239 : decode cL_state 239 = .ok (.iload_n 2, 1) := by decide +kernel
theorem dL_state_240 : decode cL_state 240 = .ok (.aload_n 0, 1) := by decide +kernel
theorem dL_state_241 : decode cL_state 241 = .ok (.invokevirtual 172, 3) := by decide +kernel
theorem dL_state_244 : decode cL_state 244 = .ok (.if_icmp .ge 33, 3) := by decide +kernel
theorem dL_state_247 : decode cL_state 247 = .ok (.bipush 31, 2) := by decide +kernel
theorem dL_state_249 : decode cL_state 249 = .ok (.bipush 31, 2) := by decide +kernel
theorem dL_state_251 : decode cL_state 251 = .ok (.iload_n 1, 1) := by decide +kernel
theorem dL_state_252 : decode cL_state 252 = .ok (.imul, 1) := by decide +kernel
theorem dL_state_253 : decode cL_state 253 = .ok (.aload_n 0, 1) := by decide +kernel
theorem dL_state_254 : decode cL_state 254 = .ok (.iload_n 2, 1) := by decide +kernel
theorem dL_state_255 : decode cL_state 255 = .ok (.invokevirtual 175, 3) := by decide +kernel
theorem dL_state_258 : decode cL_state 258 = .ok (.iadd, 1) := by decide +kernel
theorem dL_state_259 : decode cL_state 259 = .ok (.imul, 1) := by decide +kernel
theorem dL_state_260 : decode cL_state 260 = .ok (.aload_n 0, 1) := by decide +kernel
theorem dL_state_261 : decode cL_state 261 = .ok (.aload_n 0, 1) := by decide +kernel
theorem dL_state_262 : decode cL_state 262 = .ok (.iload_n 2, 1) := by decide +kernel
theorem dL_state_263 : decode cL_state 263 = .ok (.invokevirtual 175, 3) := by decide +kernel
theorem dL_state_266 : decode cL_state 266 = .ok (.invokevirtual 116, 3) := by decide +kernel
theorem dL_state_269 : decode cL_state 269 = .ok (.iadd, 1) := by decide +kernel
theorem dL_state_270 : decode cL_state 270 = .ok (.istore_n 1, 1) := by decide +kernel
theorem dL_state_271 : decode cL_state 271 = .ok (.iinc 2 1, 3) := by decide +kernel
theorem dL_state_274 : decode cL_state 274 = .ok (.goto (-35), 3) := by decide +kernel
theorem dL_state_277 : decode cL_state 277 = .ok (.iload_n 1, 1) := by decide +kernel
theorem dL_state_278 : decode cL_state 278 = .ok (.ireturn, 1) := by decide +kernel
theorem dL_isOutput_0 : decode cL_isOutput 0 = .ok (.iload_n 1, 1) := by decide +kernel
theorem dL_isOutput_1 : decode cL_isOutput 1 = .ok (.aload_n 2, 1) := by decide +kernel
theorem dL_isOutput_2 : decode cL_isOutput 2 = .ok (.invokevirtual 7, 3) := by decide +kernel
theorem dL_isOutput_5 : decode cL_isOutput 5 = .ok (.if_icmp .eq 5, 3) := by decide +kernel
theorem dL_isOutput_8 : decode cL_isOutput 8 = .ok (.iconst 0, 1) := by decide +kernel
theorem dL_isOutput_9 : decode cL_isOutput 9 = .ok (.ireturn, 1) := by decide +kernel
theorem dL_isOutput_10 : decode cL_isOutput 10 = .ok (.iconst 0, 1) := by decide +kernel
theorem dL_isOutput_11 : decode cL_isOutput 11 = .ok (.istore_n 3, 1) := by decide +kernel
theorem dL_isOutput_12 : decode cL_isOutput 12 = .ok (.iload_n 3, 1) := by decide +kernel
theorem dL_isOutput_13 : decode cL_isOutput 13 = .ok (.iload_n 1, 1) := by decide +kernel
theorem dL_isOutput_14 : decode cL_isOutput 14 = .ok (.if_icmp .ge 24, 3) := by decide +kernel
theorem dL_isOutput_17 : decode cL_isOutput 17 = .ok (.aload_n 0, 1) := by decide +kernel
theorem dL_isOutput_18 : decode cL_isOutput 18 = .ok (.iload_n 3, 1) := by decide +kernel
theorem dL_isOutput_19 : decode cL_isOutput 19 = .ok (.invokevirtual 331, 3) := by decide +kernel
theorem dL_isOutput_22 : decode cL_isOutput 22 = .ok (.aload_n 2, 1) := by decide +kernel
theorem dL_isOutput_23 : decode cL_isOutput 23 = .ok (.iload_n 3, 1) := by decide +kernel
theorem dL_isOutput_24 : decode cL_isOutput 24 = .ok (.invokevirtual 13, 3) := by decide +kernel
theorem dL_isOutput_27 : decode cL_isOutput 27 = .ok (.if_icmp .eq 5, 3) := by decide +kernel
theorem dL_isOutput_30 : decode cL_isOutput 30 = .ok (.iconst 0, 1) := by decide +kernel
theorem dL_isOutput_31 : decode cL_isOutput 31 = .ok (.ireturn, 1) := by decide +kernel
theorem dL_isOutput_32 : decode cL_isOutput 32 = .ok (.iinc 3 1, 3) := by decide +kernel
theorem dL_isOutput_35 : decode cL_isOutput 35 = .ok (.goto (-23), 3) := by decide +kernel
theorem dL_isOutput_38 : decode cL_isOutput 38 = .ok (.iconst 1, 1) := by decide +kernel
theorem dL_isOutput_39 : decode cL_isOutput 39 = .ok (.ireturn, 1) := by decide +kernel
theorem dL_runs_0 : decode cL_runs 0 = .ok (.aload_n 0, 1) := by decide +kernel
theorem dL_runs_1 : decode cL_runs 1 = .ok (.invokevirtual 195, 3) := by decide +kernel
theorem dL_runs_4 : decode cL_runs 4 = .ok (.ireturn, 1) := by decide +kernel
theorem dL_runs_5 : decode cL_runs 5 = .ok (.astore_n 1, 1) := by decide +kernel
theorem dL_runs_6 : decode cL_runs 6 = .ok (.iconst (-1), 1) := by decide +kernel
theorem dL_runs_7 : decode cL_runs 7 = .ok (.ireturn, 1) := by decide +kernel
theorem dL_runs_8 : decode cL_runs 8 = .ok (.astore_n 1, 1) := by decide +kernel
theorem dL_runs_9 : decode cL_runs 9 = .ok (.bipush (-2), 2) := by decide +kernel
theorem dL_runs_11 : decode cL_runs 11 = .ok (.ireturn, 1) := by decide +kernel
theorem dL_fails_0 : decode cL_fails 0 = .ok (.aload_n 0, 1) := by decide +kernel
theorem dL_fails_1 : decode cL_fails 1 = .ok (.aload_n 1, 1) := by decide +kernel
theorem dL_fails_2 : decode cL_fails 2 = .ok (.invokestatic 191, 3) := by decide +kernel
theorem dL_fails_5 : decode cL_fails 5 = .ok (.aload_n 0, 1) := by decide +kernel
theorem dL_fails_6 : decode cL_fails 6 = .ok (.invokestatic 204, 3) := by decide +kernel
theorem dL_fails_9 : decode cL_fails 9 = .ok (.iconst (-1), 1) := by decide +kernel
theorem dL_fails_10 : decode cL_fails 10 = .ok (.if_icmp .ne 15, 3) := by decide +kernel
theorem dL_fails_13 : decode cL_fails 13 = .ok (.aload_n 0, 1) := by decide +kernel
theorem dL_fails_14 : decode cL_fails 14 = .ok (.invokevirtual 334, 3) := by decide +kernel
theorem dL_fails_17 : decode cL_fails 17 = .ok (.iload_n 2, 1) := by decide +kernel
theorem dL_fails_18 : decode cL_fails 18 = .ok (.if_icmp .ne 7, 3) := by decide +kernel
theorem dL_fails_21 : decode cL_fails 21 = .ok (.iconst 1, 1) := by decide +kernel
theorem dL_fails_22 : decode cL_fails 22 = .ok (.goto 4, 3) := by decide +kernel
theorem dL_fails_25 : decode cL_fails 25 = .ok (.iconst 0, 1) := by decide +kernel
theorem dL_fails_26 : decode cL_fails 26 = .ok (.ireturn, 1) := by decide +kernel
