theorem dL_areAppendsSo_75 : decode cL_areAppendsSo 75 = .ok (.iload 5, 2) := by decide +kernel
theorem dL_areAppendsSo_77 : decode cL_areAppendsSo 77 = .ok (.iconst 2, 1) := by decide +kernel
theorem dL_areAppendsSo_78 : decode cL_areAppendsSo 78 = .ok (.if_icmp .ne 7, 3) := by decide +kernel
theorem dL_areAppendsSo_81 : decode cL_areAppendsSo 81 = .ok (.iconst 1, 1) := by decide +kernel
theorem dL_areAppendsSo_82 : decode cL_areAppendsSo 82 = .ok (.goto 4, 3) := by decide +kernel
theorem dL_areAppendsSo_85 : decode cL_areAppendsSo 85 = .ok (.iconst 0, 1) := by decide +kernel
theorem dL_areAppendsSo_86 : decode cL_areAppendsSo 86 = .ok (.iload 7, 2) := by decide +kernel
theorem dL_areAppendsSo_88 : decode cL_areAppendsSo 88 = .ok (.bipush (-5), 2) := by decide +kernel
theorem dL_areAppendsSo_90 : decode cL_areAppendsSo 90 = .ok (.if_icmp .ne 7, 3) := by decide +kernel
theorem dL_areAppendsSo_93 : decode cL_areAppendsSo 93 = .ok (.iconst 1, 1) := by decide +kernel
theorem dL_areAppendsSo_94 : decode cL_areAppendsSo 94 = .ok (.goto 4, 3) := by decide +kernel
theorem dL_areAppendsSo_97 : decode cL_areAppendsSo 97 = .ok (.iconst 0, 1) := by decide +kernel
theorem dL_areAppendsSo_98 : decode cL_areAppendsSo 98 = .ok (.if_icmp .eq 35, 3) := by decide +kernel
theorem dL_areAppendsSo_101 : decode cL_areAppendsSo 101 = .ok (.iload 5, 2) := by decide +kernel
theorem dL_areAppendsSo_103 : decode cL_areAppendsSo 103 = .ok (.iconst 3, 1) := by decide +kernel
theorem dL_areAppendsSo_104 : decode cL_areAppendsSo 104 = .ok (.if_icmp .ne 7, 3) := by decide +kernel
theorem dL_areAppendsSo_107 : decode cL_areAppendsSo 107 = .ok (.iconst 1, 1) := by decide +kernel
theorem dL_areAppendsSo_108 : decode cL_areAppendsSo 108 = .ok (.goto 4, 3) := by decide +kernel
theorem dL_areAppendsSo_111 : decode cL_areAppendsSo 111 = .ok (.iconst 0, 1) := by decide +kernel
theorem dL_areAppendsSo_112 : decode cL_areAppendsSo 112 = .ok (.aload_n 0, 1) := by decide +kernel
theorem dL_areAppendsSo_113 : decode cL_areAppendsSo 113 = .ok (.iload 4, 2) := by decide +kernel
theorem dL_areAppendsSo_115 : decode cL_areAppendsSo 115 = .ok (.bipush 6, 2) := by decide +kernel
theorem dL_areAppendsSo_117 : decode cL_areAppendsSo 117 = .ok (.invokevirtual 52, 3) := by decide +kernel
theorem dL_areAppendsSo_120 : decode cL_areAppendsSo 120 = .ok (.bipush (-5), 2) := by decide +kernel
theorem dL_areAppendsSo_122 : decode cL_areAppendsSo 122 = .ok (.if_icmp .ne 7, 3) := by decide +kernel
theorem dL_areAppendsSo_125 : decode cL_areAppendsSo 125 = .ok (.iconst 1, 1) := by decide +kernel
theorem dL_areAppendsSo_126 : decode cL_areAppendsSo 126 = .ok (.goto 4, 3) := by decide +kernel
theorem dL_areAppendsSo_129 : decode cL_areAppendsSo 129 = .ok (.iconst 0, 1) := by decide +kernel
theorem dL_areAppendsSo_130 : decode cL_areAppendsSo 130 = .ok (.if_icmp .ne 5, 3) := by decide +kernel
theorem dL_areAppendsSo_133 : decode cL_areAppendsSo 133 = .ok (.iconst 0, 1) := by decide +kernel
theorem dL_areAppendsSo_134 : decode cL_areAppendsSo 134 = .ok (.ireturn, 1) := by decide +kernel
theorem dL_areAppendsSo_135 : decode cL_areAppendsSo 135 = .ok (.iload 5, 2) := by decide +kernel
theorem dL_areAppendsSo_137 : decode cL_areAppendsSo 137 = .ok (.iconst 2, 1) := by decide +kernel
theorem dL_areAppendsSo_138 : decode cL_areAppendsSo 138 = .ok (.if_icmp .ne 41, 3) := by decide +kernel
theorem dL_areAppendsSo_141 : decode cL_areAppendsSo 141 = .ok (.aload_n 0, 1) := by decide +kernel
theorem dL_areAppendsSo_142 : decode cL_areAppendsSo 142 = .ok (.iload 4, 2) := by decide +kernel
theorem dL_areAppendsSo_144 : decode cL_areAppendsSo 144 = .ok (.bipush 7, 2) := by decide +kernel
theorem dL_areAppendsSo_146 : decode cL_areAppendsSo 146 = .ok (.invokevirtual 52, 3) := by decide +kernel
theorem dL_areAppendsSo_149 : decode cL_areAppendsSo 149 = .ok (.aload_n 0, 1) := by decide +kernel
theorem dL_areAppendsSo_150 : decode cL_areAppendsSo 150 = .ok (.iload 6, 2) := by decide +kernel
theorem dL_areAppendsSo_152 : decode cL_areAppendsSo 152 = .ok (.iconst 4, 1) := by decide +kernel
theorem dL_areAppendsSo_153 : decode cL_areAppendsSo 153 = .ok (.invokevirtual 43, 3) := by decide +kernel
theorem dL_areAppendsSo_156 : decode cL_areAppendsSo 156 = .ok (.if_icmp .ne 23, 3) := by decide +kernel
theorem dL_areAppendsSo_159 : decode cL_areAppendsSo 159 = .ok (.aload_n 0, 1) := by decide +kernel
theorem dL_areAppendsSo_160 : decode cL_areAppendsSo 160 = .ok (.iload 6, 2) := by decide +kernel
theorem dL_areAppendsSo_162 : decode cL_areAppendsSo 162 = .ok (.iload 7, 2) := by decide +kernel
theorem dL_areAppendsSo_164 : decode cL_areAppendsSo 164 = .ok (.invokevirtual 46, 3) := by decide +kernel
theorem dL_areAppendsSo_167 : decode cL_areAppendsSo 167 = .ok (.aload_n 0, 1) := by decide +kernel
theorem dL_areAppendsSo_168 : decode cL_areAppendsSo 168 = .ok (.iload 4, 2) := by decide +kernel
theorem dL_areAppendsSo_170 : decode cL_areAppendsSo 170 = .ok (.iconst 2, 1) := by decide +kernel
theorem dL_areAppendsSo_171 : decode cL_areAppendsSo 171 = .ok (.invokevirtual 52, 3) := by decide +kernel
theorem dL_areAppendsSo_174 : decode cL_areAppendsSo 174 = .ok (.if_icmp .eq 5, 3) := by decide +kernel
theorem dL_areAppendsSo_177 : decode cL_areAppendsSo 177 = .ok (.iconst 0, 1) := by decide +kernel
theorem dL_areAppendsSo_178 : decode cL_areAppendsSo 178 = .ok (.ireturn, 1) := by decide +kernel
theorem dL_areAppendsSo_179 : decode cL_areAppendsSo 179 = .ok (.iinc 4 1, 3) := by decide +kernel
theorem dL_areAppendsSo_182 : decode cL_areAppendsSo 182 = .ok (.goto (-168), 3) := by decide +kernel
theorem dL_areAppendsSo_185 : decode cL_areAppendsSo 185 = .ok (.iconst 0, 1) := by decide +kernel
theorem dL_areAppendsSo_186 : decode cL_areAppendsSo 186 = .ok (.istore 4, 2) := by decide +kernel
theorem dL_areAppendsSo_188 : decode cL_areAppendsSo 188 = .ok (.iconst 0, 1) := by decide +kernel
theorem dL_areAppendsSo_189 : decode cL_areAppendsSo 189 = .ok (.istore 5, 2) := by decide +kernel
theorem dL_areAppendsSo_191 : decode cL_areAppendsSo 191 = .ok (.iload 5, 2) := by decide +kernel
theorem dL_areAppendsSo_193 : decode cL_areAppendsSo 193 = .ok (.iload_n 2, 1) := by decide +kernel
theorem dL_areAppendsSo_194 : decode cL_areAppendsSo 194 = .ok (.if_icmp .ge 45, 3) := by decide +kernel
theorem dL_areAppendsSo_197 : decode cL_areAppendsSo 197 = .ok (.aload_n 0, 1) := by decide +kernel
theorem dL_areAppendsSo_198 : decode cL_areAppendsSo 198 = .ok (.iload 5, 2) := by decide +kernel
theorem dL_areAppendsSo_200 : decode cL_areAppendsSo 200 = .ok (.invokevirtual 55, 3) := by decide +kernel
theorem dL_areAppendsSo_203 : decode cL_areAppendsSo 203 = .ok (.istore 6, 2) := by decide +kernel
theorem dL_areAppendsSo_205 : decode cL_areAppendsSo 205 = .ok (.iload 6, 2) := by decide +kernel
theorem dL_areAppendsSo_207 : decode cL_areAppendsSo 207 = .ok (.ifCond .lt 15, 3) := by decide +kernel
theorem dL_areAppendsSo_210 : decode cL_areAppendsSo 210 = .ok (.aload_n 0, 1) := by decide +kernel
theorem dL_areAppendsSo_211 : decode cL_areAppendsSo 211 = .ok (.iload 6, 2) := by decide +kernel
theorem dL_areAppendsSo_213 : decode cL_areAppendsSo 213 = .ok (.iconst 5, 1) := by decide +kernel
theorem dL_areAppendsSo_214 : decode cL_areAppendsSo 214 = .ok (.invokevirtual 52, 3) := by decide +kernel
theorem dL_areAppendsSo_217 : decode cL_areAppendsSo 217 = .ok (.iload 4, 2) := by decide +kernel
theorem dL_areAppendsSo_219 : decode cL_areAppendsSo 219 = .ok (.if_icmp .ge 5, 3) := by decide +kernel
theorem dL_areAppendsSo_222 : decode cL_areAppendsSo 222 = .ok (.iconst 0, 1) := by decide +kernel
theorem dL_areAppendsSo_223 : decode cL_areAppendsSo 223 = .ok (.ireturn, 1) := by decide +kernel
theorem dL_areAppendsSo_224 : decode cL_areAppendsSo 224 = .ok (.aload_n 0, 1) := by decide +kernel
theorem dL_areAppendsSo_225 : decode cL_areAppendsSo 225 = .ok (.iload 6, 2) := by decide +kernel
theorem dL_areAppendsSo_227 : decode cL_areAppendsSo 227 = .ok (.iconst 5, 1) := by decide +kernel
theorem dL_areAppendsSo_228 : decode cL_areAppendsSo 228 = .ok (.invokevirtual 52, 3) := by decide +kernel
theorem dL_areAppendsSo_231 : decode cL_areAppendsSo 231 = .ok (.istore 4, 2) := by decide +kernel
theorem dL_areAppendsSo_233 : decode cL_areAppendsSo 233 = .ok (.iinc 5 1, 3) := by decide +kernel
theorem dL_areAppendsSo_236 : decode cL_areAppendsSo 236 = .ok (.goto (-45), 3) := by decide +kernel
theorem dL_areAppendsSo_239 : decode cL_areAppendsSo 239 = .ok (.iconst 0, 1) := by decide +kernel
theorem dL_areAppendsSo_240 : decode cL_areAppendsSo 240 = .ok (.istore 5, 2) := by decide +kernel
theorem dL_areAppendsSo_242 : decode cL_areAppendsSo 242 = .ok (.iconst 0, 1) := by decide +kernel
theorem dL_areAppendsSo_243 : decode cL_areAppendsSo 243 = .ok (.istore 6, 2) := by decide +kernel
theorem dL_areAppendsSo_245 : decode cL_areAppendsSo 245 = .ok (.iload 6, 2) := by decide +kernel
theorem dL_areAppendsSo_247 : decode cL_areAppendsSo 247 = .ok (.iconst 4, 1) := by decide +kernel
theorem dL_areAppendsSo_248 : decode cL_areAppendsSo 248 = .ok (.if_icmp .ge 45, 3) := by decide +kernel
theorem dL_areAppendsSo_251 : decode cL_areAppendsSo 251 = .ok (.iload 5, 2) := by decide +kernel
theorem dL_areAppendsSo_253 : decode cL_areAppendsSo 253 = .ok (.aload_n 0, 1) := by decide +kernel
theorem dL_areAppendsSo_254 : decode cL_areAppendsSo 254 = .ok (.iload 6, 2) := by decide +kernel
theorem dL_areAppendsSo_256 : decode cL_areAppendsSo 256 = .ok (.iconst 1, 1) := by decide +kernel
theorem dL_areAppendsSo_257 : decode cL_areAppendsSo 257 = .ok (.invokevirtual 58, 3) := by decide +kernel
theorem dL_areAppendsSo_260 : decode cL_areAppendsSo 260 = .ok (.aload_n 0, 1) := by decide +kernel
theorem dL_areAppendsSo_261 : decode cL_areAppendsSo 261 = .ok (.iload 6, 2) := by decide +kernel
theorem dL_areAppendsSo_263 : decode cL_areAppendsSo 263 = .ok (.iconst 2, 1) := by decide +kernel
theorem dL_areAppendsSo_264 : decode cL_areAppendsSo 264 = .ok (.invokevirtual 58, 3) := by decide +kernel
theorem dL_areAppendsSo_267 : decode cL_areAppendsSo 267 = .ok (.iadd, 1) := by decide +kernel
theorem dL_areAppendsSo_268 : decode cL_areAppendsSo 268 = .ok (.aload_n 0, 1) := by decide +kernel
theorem dL_areAppendsSo_269 : decode cL_areAppendsSo 269 = .ok (.iload 6, 2) := by decide +kernel
theorem dL_areAppendsSo_271 : decode cL_areAppendsSo 271 = .ok (.iconst 3, 1) := by decide +kernel
theorem dL_areAppendsSo_272 : decode cL_areAppendsSo 272 = .ok (.invokevirtual 58, 3) := by decide +kernel
theorem dL_areAppendsSo_275 : decode cL_areAppendsSo 275 = .ok (.iadd, 1) := by decide +kernel
theorem dL_areAppendsSo_276 : decode cL_areAppendsSo 276 = .ok (.aload_n 0, 1) := by decide +kernel
theorem dL_areAppendsSo_277 : decode cL_areAppendsSo 277 = .ok (.iload 6, 2) := by decide +kernel
theorem dL_areAppendsSo_279 : decode cL_areAppendsSo 279 = .ok (.iconst 4, 1) := by decide +kernel
theorem dL_areAppendsSo_280 : decode cL_areAppendsSo 280 = .ok (.invokevirtual 58, 3) := by decide +kernel
theorem dL_areAppendsSo_283 : decode cL_areAppendsSo 283 = .ok (.iadd, 1) := by decide +kernel
theorem dL_areAppendsSo_284 : decode cL_areAppendsSo 284 = .ok (.iadd, 1) := by decide +kernel
theorem dL_areAppendsSo_285 : decode cL_areAppendsSo 285 = .ok (.istore 5, 2) := by decide +kernel
theorem dL_areAppendsSo_287 : decode cL_areAppendsSo 287 = .ok (.iinc 6 1, 3) := by decide +kernel
theorem dL_areAppendsSo_290 : decode cL_areAppendsSo 290 = .ok (.goto (-45), 3) := by decide +kernel
theorem dL_areAppendsSo_293 : decode cL_areAppendsSo 293 = .ok (.iload 5, 2) := by decide +kernel
theorem dL_areAppendsSo_295 : decode cL_areAppendsSo 295 = .ok (.iload_n 1, 1) := by decide +kernel
theorem dL_areAppendsSo_296 : decode cL_areAppendsSo 296 = .ok (.if_icmp .ne 58, 3) := by decide +kernel
theorem dL_areAppendsSo_299 : decode cL_areAppendsSo 299 = .ok (.iload_n 2, 1) := by decide +kernel
theorem dL_areAppendsSo_300 : decode cL_areAppendsSo 300 = .ok (.aload_n 0, 1) := by decide +kernel
theorem dL_areAppendsSo_301 : decode cL_areAppendsSo 301 = .ok (.bipush 10, 2) := by decide +kernel
theorem dL_areAppendsSo_303 : decode cL_areAppendsSo 303 = .ok (.invokevirtual 49, 3) := by decide +kernel
theorem dL_areAppendsSo_306 : decode cL_areAppendsSo 306 = .ok (.if_icmp .ne 48, 3) := by decide +kernel
theorem dL_areAppendsSo_309 : decode cL_areAppendsSo 309 = .ok (.iload_n 3, 1) := by decide +kernel
theorem dL_areAppendsSo_310 : decode cL_areAppendsSo 310 = .ok (.aload_n 0, 1) := by decide +kernel
theorem dL_areAppendsSo_311 : decode cL_areAppendsSo 311 = .ok (.bipush 11, 2) := by decide +kernel
theorem dL_areAppendsSo_313 : decode cL_areAppendsSo 313 = .ok (.invokevirtual 49, 3) := by decide +kernel
theorem dL_areAppendsSo_316 : decode cL_areAppendsSo 316 = .ok (.if_icmp .ne 38, 3) := by decide +kernel
theorem dL_areAppendsSo_319 : decode cL_areAppendsSo 319 = .ok (.aload_n 0, 1) := by decide +kernel
theorem dL_areAppendsSo_320 : decode cL_areAppendsSo 320 = .ok (.bipush 8, 2) := by decide +kernel
theorem dL_areAppendsSo_322 : decode cL_areAppendsSo 322 = .ok (.invokevirtual 49, 3) := by decide +kernel
theorem dL_areAppendsSo_325 : decode cL_areAppendsSo 325 = .ok (.aload_n 0, 1) := by decide +kernel
theorem dL_areAppendsSo_326 : decode cL_areAppendsSo 326 = .ok (.bipush 9, 2) := by decide +kernel
theorem dL_areAppendsSo_328 : decode cL_areAppendsSo 328 = .ok (.invokevirtual 49, 3) := by decide +kernel
theorem dL_areAppendsSo_331 : decode cL_areAppendsSo 331 = .ok (.iadd, 1) := by decide +kernel
theorem dL_areAppendsSo_332 : decode cL_areAppendsSo 332 = .ok (.iload_n 2, 1) := by decide +kernel
theorem dL_areAppendsSo_333 : decode cL_areAppendsSo 333 = .ok (.iadd, 1) := by decide +kernel
theorem dL_areAppendsSo_334 : decode cL_areAppendsSo 334 = .ok (.iload_n 3, 1) := by decide +kernel
theorem dL_areAppendsSo_335 : decode cL_areAppendsSo 335 = .ok (.iadd, 1) := by decide +kernel
theorem dL_areAppendsSo_336 : decode cL_areAppendsSo 336 = .ok (.iload_n 1, 1) := by decide +kernel
theorem dL_areAppendsSo_337 : decode cL_areAppendsSo 337 = .ok (.if_icmp .ne 17, 3) := by decide +kernel
theorem dL_areAppendsSo_340 : decode cL_areAppendsSo 340 = .ok (.aload_n 0, 1) := by decide +kernel
theorem dL_areAppendsSo_341 : decode cL_areAppendsSo 341 = .ok (.iload_n 2, 1) := by decide +kernel
theorem dL_areAppendsSo_342 : decode cL_areAppendsSo 342 = .ok (.invokevirtual 55, 3) := by decide +kernel
theorem dL_areAppendsSo_345 : decode cL_areAppendsSo 345 = .ok (.bipush (-5), 2) := by decide +kernel
theorem dL_areAppendsSo_347 : decode cL_areAppendsSo 347 = .ok (.if_icmp .ne 7, 3) := by decide +kernel
theorem dL_areAppendsSo_350 : decode cL_areAppendsSo 350 = .ok (.iconst 1, 1) := by decide +kernel
theorem dL_areAppendsSo_351 : decode cL_areAppendsSo 351 = .ok (.goto 4, 3) := by decide +kernel
theorem dL_areAppendsSo_354 : decode cL_areAppendsSo 354 = .ok (.iconst 0, 1) := by decide +kernel
theorem dL_areAppendsSo_355 : decode cL_areAppendsSo 355 = .ok (.ireturn, 1) := by decide +kernel
theorem dL_isToldSo_0 : decode cL_isToldSo 0 = .ok (.iload_n 2, 1) := by decide +kernel
theorem dL_isToldSo_1 : decode cL_isToldSo 1 = .ok (.iconst 1, 1) := by decide +kernel
theorem dL_isToldSo_2 : decode cL_isToldSo 2 = .ok (.if_icmp .lt 9, 3) := by decide +kernel
theorem dL_isToldSo_5 : decode cL_isToldSo 5 = .ok (.iload_n 2, 1) := by decide +kernel
theorem dL_isToldSo_6 : decode cL_isToldSo 6 = .ok (.bipush 99, 2) := by decide +kernel
theorem dL_isToldSo_8 : decode cL_isToldSo 8 = .ok (.if_icmp .le 21, 3) := by decide +kernel
theorem dL_isToldSo_11 : decode cL_isToldSo 11 = .ok (.iload_n 2, 1) := by decide +kernel
theorem dL_isToldSo_12 : decode cL_isToldSo 12 = .ok (.bipush 99, 2) := by decide +kernel
theorem dL_isToldSo_14 : decode cL_isToldSo 14 = .ok (.if_icmp .gt 9, 3) := by decide +kernel
theorem dL_isToldSo_17 : decode cL_isToldSo 17 = .ok (.iload_n 2, 1) := by decide +kernel
theorem dL_isToldSo_18 : decode cL_isToldSo 18 = .ok (.bipush (-5), 2) := by decide +kernel
theorem dL_isToldSo_20 : decode cL_isToldSo 20 = .ok (.if_icmp .ne 7, 3) := by decide +kernel
theorem dL_isToldSo_23 : decode cL_isToldSo 23 = .ok (.iconst 1, 1) := by decide +kernel
theorem dL_isToldSo_24 : decode cL_isToldSo 24 = .ok (.goto 4, 3) := by decide +kernel
theorem dL_isToldSo_27 : decode cL_isToldSo 27 = .ok (.iconst 0, 1) := by decide +kernel
theorem dL_isToldSo_28 : decode cL_isToldSo 28 = .ok (.ireturn, 1) := by decide +kernel
theorem dL_isToldSo_29 : decode cL_isToldSo 29 = .ok (.aload_n 0, 1) := by decide +kernel
theorem dL_isToldSo_30 : decode cL_isToldSo 30 = .ok (.iload_n 2, 1) := by decide +kernel
theorem dL_isToldSo_31 : decode cL_isToldSo 31 = .ok (.invokevirtual 40, 3) := by decide +kernel
theorem dL_isToldSo_34 : decode cL_isToldSo 34 = .ok (.pop, 1) := by decide +kernel
theorem dL_isToldSo_35 : decode cL_isToldSo 35 = .ok (.aload_n 0, 1) := by decide +kernel
theorem dL_isToldSo_36 : decode cL_isToldSo 36 = .ok (.iload_n 1, 1) := by decide +kernel
theorem dL_isToldSo_37 : decode cL_isToldSo 37 = .ok (.iconst 3, 1) := by decide +kernel
theorem dL_isToldSo_38 : decode cL_isToldSo 38 = .ok (.invokevirtual 52, 3) := by decide +kernel
theorem dL_isToldSo_41 : decode cL_isToldSo 41 = .ok (.iconst 2, 1) := by decide +kernel
theorem dL_isToldSo_42 : decode cL_isToldSo 42 = .ok (.if_icmp .ne 23, 3) := by decide +kernel
theorem dL_isToldSo_45 : decode cL_isToldSo 45 = .ok (.aload_n 0, 1) := by decide +kernel
theorem dL_isToldSo_46 : decode cL_isToldSo 46 = .ok (.iload_n 1, 1) := by decide +kernel
theorem dL_isToldSo_47 : decode cL_isToldSo 47 = .ok (.iconst 5, 1) := by decide +kernel
theorem dL_isToldSo_48 : decode cL_isToldSo 48 = .ok (.invokevirtual 52, 3) := by decide +kernel
theorem dL_isToldSo_51 : decode cL_isToldSo 51 = .ok (.aload_n 0, 1) := by decide +kernel
theorem dL_isToldSo_52 : decode cL_isToldSo 52 = .ok (.iconst 0, 1) := by decide +kernel
theorem dL_isToldSo_53 : decode cL_isToldSo 53 = .ok (.invokevirtual 49, 3) := by decide +kernel
theorem dL_isToldSo_56 : decode cL_isToldSo 56 = .ok (.iconst 1, 1) := by decide +kernel
theorem dL_isToldSo_57 : decode cL_isToldSo 57 = .ok (.isub, 1) := by decide +kernel
theorem dL_isToldSo_58 : decode cL_isToldSo 58 = .ok (.if_icmp .ne 7, 3) := by decide +kernel
theorem dL_isToldSo_61 : decode cL_isToldSo 61 = .ok (.iconst 1, 1) := by decide +kernel
theorem dL_isToldSo_62 : decode cL_isToldSo 62 = .ok (.goto 4, 3) := by decide +kernel
theorem dL_isToldSo_65 : decode cL_isToldSo 65 = .ok (.iconst 0, 1) := by decide +kernel
theorem dL_isToldSo_66 : decode cL_isToldSo 66 = .ok (.istore_n 3, 1) := by decide +kernel
theorem dL_isToldSo_67 : decode cL_isToldSo 67 = .ok (.aload_n 0, 1) := by decide +kernel
theorem dL_isToldSo_68 : decode cL_isToldSo 68 = .ok (.invokevirtual 61, 3) := by decide +kernel
theorem dL_isToldSo_71 : decode cL_isToldSo 71 = .ok (.pop, 1) := by decide +kernel
theorem dL_isToldSo_72 : decode cL_isToldSo 72 = .ok (.iload_n 2, 1) := by decide +kernel
theorem dL_isToldSo_73 : decode cL_isToldSo 73 = .ok (.iconst 1, 1) := by decide +kernel
theorem dL_isToldSo_74 : decode cL_isToldSo 74 = .ok (.if_icmp .le 36, 3) := by decide +kernel
theorem dL_isToldSo_77 : decode cL_isToldSo 77 = .ok (.aload_n 0, 1) := by decide +kernel
theorem dL_isToldSo_78 : decode cL_isToldSo 78 = .ok (.iload_n 2, 1) := by decide +kernel
theorem dL_isToldSo_79 : decode cL_isToldSo 79 = .ok (.iconst 1, 1) := by decide +kernel
theorem dL_isToldSo_80 : decode cL_isToldSo 80 = .ok (.isub, 1) := by decide +kernel
theorem dL_isToldSo_81 : decode cL_isToldSo 81 = .ok (.invokevirtual 40, 3) := by decide +kernel
theorem dL_isToldSo_84 : decode cL_isToldSo 84 = .ok (.pop, 1) := by decide +kernel
theorem dL_isToldSo_85 : decode cL_isToldSo 85 = .ok (.iload_n 3, 1) := by decide +kernel
theorem dL_isToldSo_86 : decode cL_isToldSo 86 = .ok (.ifCond .eq 17, 3) := by decide +kernel
theorem dL_isToldSo_89 : decode cL_isToldSo 89 = .ok (.aload_n 0, 1) := by decide +kernel
theorem dL_isToldSo_90 : decode cL_isToldSo 90 = .ok (.iload_n 1, 1) := by decide +kernel
theorem dL_isToldSo_91 : decode cL_isToldSo 91 = .ok (.iconst 3, 1) := by decide +kernel
theorem dL_isToldSo_92 : decode cL_isToldSo 92 = .ok (.invokevirtual 52, 3) := by decide +kernel
theorem dL_isToldSo_95 : decode cL_isToldSo 95 = .ok (.iconst 2, 1) := by decide +kernel
theorem dL_isToldSo_96 : decode cL_isToldSo 96 = .ok (.if_icmp .ge 7, 3) := by decide +kernel
theorem dL_isToldSo_99 : decode cL_isToldSo 99 = .ok (.iconst 1, 1) := by decide +kernel
theorem dL_isToldSo_100 : decode cL_isToldSo 100 = .ok (.goto 4, 3) := by decide +kernel
theorem dL_isToldSo_103 : decode cL_isToldSo 103 = .ok (.iconst 0, 1) := by decide +kernel
theorem dL_isToldSo_104 : decode cL_isToldSo 104 = .ok (.istore_n 3, 1) := by decide +kernel
theorem dL_isToldSo_105 : decode cL_isToldSo 105 = .ok (.aload_n 0, 1) := by decide +kernel
theorem dL_isToldSo_106 : decode cL_isToldSo 106 = .ok (.invokevirtual 61, 3) := by decide +kernel
theorem dL_isToldSo_109 : decode cL_isToldSo 109 = .ok (.pop, 1) := by decide +kernel
theorem dL_isToldSo_110 : decode cL_isToldSo 110 = .ok (.iload_n 3, 1) := by decide +kernel
theorem dL_isToldSo_111 : decode cL_isToldSo 111 = .ok (.ireturn, 1) := by decide +kernel
theorem dL_isWouldSo_0 : decode cL_isWouldSo 0 = .ok (.aload_n 0, 1) := by decide +kernel
theorem dL_isWouldSo_1 : decode cL_isWouldSo 1 = .ok (.iload_n 2, 1) := by decide +kernel
theorem dL_isWouldSo_2 : decode cL_isWouldSo 2 = .ok (.iconst 0, 1) := by decide +kernel
theorem dL_isWouldSo_3 : decode cL_isWouldSo 3 = .ok (.invokevirtual 65, 3) := by decide +kernel
theorem dL_isWouldSo_6 : decode cL_isWouldSo 6 = .ok (.istore_n 3, 1) := by decide +kernel
theorem dL_isWouldSo_7 : decode cL_isWouldSo 7 = .ok (.aload_n 0, 1) := by decide +kernel
theorem dL_isWouldSo_8 : decode cL_isWouldSo 8 = .ok (.iload_n 2, 1) := by decide +kernel
theorem dL_isWouldSo_9 : decode cL_isWouldSo 9 = .ok (.iconst 1, 1) := by decide +kernel
theorem dL_isWouldSo_10 : decode cL_isWouldSo 10 = .ok (.invokevirtual 65, 3) := by decide +kernel
theorem dL_isWouldSo_13 : decode cL_isWouldSo 13 = .ok (.istore 4, 2) := by decide +kernel
theorem dL_isWouldSo_15 : decode cL_isWouldSo 15 = .ok (.aload_n 0, 1) := by decide +kernel
theorem dL_isWouldSo_16 : decode cL_isWouldSo 16 = .ok (.iload_n 1, 1) := by decide +kernel
theorem dL_isWouldSo_17 : decode cL_isWouldSo 17 = .ok (.iload_n 2, 1) := by decide +kernel
theorem dL_isWouldSo_18 : decode cL_isWouldSo 18 = .ok (.bipush 7, 2) := by decide +kernel
theorem dL_isWouldSo_20 : decode cL_isWouldSo 20 = .ok (.invokevirtual 14, 3) := by decide +kernel
theorem dL_isWouldSo_23 : decode cL_isWouldSo 23 = .ok (.istore 5, 2) := by decide +kernel
theorem dL_isWouldSo_25 : decode cL_isWouldSo 25 = .ok (.iload 5, 2) := by decide +kernel
theorem dL_isWouldSo_27 : decode cL_isWouldSo 27 = .ok (.ifCond .ge 16, 3) := by decide +kernel
theorem dL_isWouldSo_30 : decode cL_isWouldSo 30 = .ok (.iload 5, 2) := by decide +kernel
theorem dL_isWouldSo_32 : decode cL_isWouldSo 32 = .ok (.bipush (-3), 2) := by decide +kernel
theorem dL_isWouldSo_34 : decode cL_isWouldSo 34 = .ok (.if_icmp .ne 7, 3) := by decide +kernel
theorem dL_isWouldSo_37 : decode cL_isWouldSo 37 = .ok (.iconst 1, 1) := by decide +kernel
theorem dL_isWouldSo_38 : decode cL_isWouldSo 38 = .ok (.goto 4, 3) := by decide +kernel
theorem dL_isWouldSo_41 : decode cL_isWouldSo 41 = .ok (.iconst 0, 1) := by decide +kernel
theorem dL_isWouldSo_42 : decode cL_isWouldSo 42 = .ok (.ireturn, 1) := by decide +kernel
theorem dL_isWouldSo_43 : decode cL_isWouldSo 43 = .ok (.iload_n 3, 1) := by decide +kernel
theorem dL_isWouldSo_44 : decode cL_isWouldSo 44 = .ok (.bipush (-5), 2) := by decide +kernel
theorem dL_isWouldSo_46 : decode cL_isWouldSo 46 = .ok (.if_icmp .ne 7, 3) := by decide +kernel
theorem dL_isWouldSo_49 : decode cL_isWouldSo 49 = .ok (.iconst 1, 1) := by decide +kernel
theorem dL_isWouldSo_50 : decode cL_isWouldSo 50 = .ok (.goto 4, 3) := by decide +kernel
theorem dL_isWouldSo_53 : decode cL_isWouldSo 53 = .ok (.iconst 0, 1) := by decide +kernel
theorem dL_isWouldSo_54 : decode cL_isWouldSo 54 = .ok (.iload 4, 2) := by decide +kernel
theorem dL_isWouldSo_56 : decode cL_isWouldSo 56 = .ok (.bipush (-5), 2) := by decide +kernel
theorem dL_isWouldSo_58 : decode cL_isWouldSo 58 = .ok (.if_icmp .ne 7, 3) := by decide +kernel
theorem dL_isWouldSo_61 : decode cL_isWouldSo 61 = .ok (.iconst 1, 1) := by decide +kernel
theorem dL_isWouldSo_62 : decode cL_isWouldSo 62 = .ok (.goto 4, 3) := by decide +kernel
theorem dL_isWouldSo_65 : decode cL_isWouldSo 65 = .ok (.iconst 0, 1) := by decide +kernel
theorem dL_isWouldSo_66 : decode cL_isWouldSo 66 = .ok (.if_icmp .ne 18, 3) := by decide +kernel
theorem dL_isWouldSo_69 : decode cL_isWouldSo 69 = .ok (.aload_n 0, 1) := by decide +kernel
theorem dL_isWouldSo_70 : decode cL_isWouldSo 70 = .ok (.iload 5, 2) := by decide +kernel
theorem dL_isWouldSo_72 : decode cL_isWouldSo 72 = .ok (.invokevirtual 68, 3) := by decide +kernel
theorem dL_isWouldSo_75 : decode cL_isWouldSo 75 = .ok (.iload 4, 2) := by decide +kernel
theorem dL_isWouldSo_77 : decode cL_isWouldSo 77 = .ok (.if_icmp .ne 7, 3) := by decide +kernel
theorem dL_isWouldSo_80 : decode cL_isWouldSo 80 = .ok (.iconst 1, 1) := by decide +kernel
theorem dL_isWouldSo_81 : decode cL_isWouldSo 81 = .ok (.goto 4, 3) := by decide +kernel
theorem dL_isWouldSo_84 : decode cL_isWouldSo 84 = .ok (.iconst 0, 1) := by decide +kernel
theorem dL_isWouldSo_85 : decode cL_isWouldSo 85 = .ok (.istore 6, 2) := by decide +kernel
theorem dL_isWouldSo_87 : decode cL_isWouldSo 87 = .ok (.iload 4, 2) := by decide +kernel
theorem dL_isWouldSo_89 : decode cL_isWouldSo 89 = .ok (.ifCond .le 45, 3) := by decide +kernel
theorem dL_isWouldSo_92 : decode cL_isWouldSo 92 = .ok (.iload 4, 2) := by decide +kernel
theorem dL_isWouldSo_94 : decode cL_isWouldSo 94 = .ok (.bipush 99, 2) := by decide +kernel
theorem dL_isWouldSo_96 : decode cL_isWouldSo 96 = .ok (.if_icmp .gt 38, 3) := by decide +kernel
theorem dL_isWouldSo_99 : decode cL_isWouldSo 99 = .ok (.aload_n 0, 1) := by decide +kernel
theorem dL_isWouldSo_100 : decode cL_isWouldSo 100 = .ok (.iload 4, 2) := by decide +kernel
theorem dL_isWouldSo_102 : decode cL_isWouldSo 102 = .ok (.invokevirtual 40, 3) := by decide +kernel
theorem dL_isWouldSo_105 : decode cL_isWouldSo 105 = .ok (.pop, 1) := by decide +kernel
theorem dL_isWouldSo_106 : decode cL_isWouldSo 106 = .ok (.iload 6, 2) := by decide +kernel
theorem dL_isWouldSo_108 : decode cL_isWouldSo 108 = .ok (.ifCond .eq 18, 3) := by decide +kernel
theorem dL_isWouldSo_111 : decode cL_isWouldSo 111 = .ok (.aload_n 0, 1) := by decide +kernel
theorem dL_isWouldSo_112 : decode cL_isWouldSo 112 = .ok (.iload 5, 2) := by decide +kernel
theorem dL_isWouldSo_114 : decode cL_isWouldSo 114 = .ok (.iconst 4, 1) := by decide +kernel
theorem dL_isWouldSo_115 : decode cL_isWouldSo 115 = .ok (.invokevirtual 52, 3) := by decide +kernel
theorem dL_isWouldSo_118 : decode cL_isWouldSo 118 = .ok (.iload_n 3, 1) := by decide +kernel
theorem dL_isWouldSo_119 : decode cL_isWouldSo 119 = .ok (.if_icmp .ne 7, 3) := by decide +kernel
theorem dL_isWouldSo_122 : decode cL_isWouldSo 122 = .ok (.iconst 1, 1) := by decide +kernel
theorem dL_isWouldSo_123 : decode cL_isWouldSo 123 = .ok (.goto 4, 3) := by decide +kernel
theorem dL_isWouldSo_126 : decode cL_isWouldSo 126 = .ok (.iconst 0, 1) := by decide +kernel
theorem dL_isWouldSo_127 : decode cL_isWouldSo 127 = .ok (.istore 6, 2) := by decide +kernel
theorem dL_isWouldSo_129 : decode cL_isWouldSo 129 = .ok (.aload_n 0, 1) := by decide +kernel
theorem dL_isWouldSo_130 : decode cL_isWouldSo 130 = .ok (.invokevirtual 61, 3) := by decide +kernel
theorem dL_isWouldSo_133 : decode cL_isWouldSo 133 = .ok (.pop, 1) := by decide +kernel
theorem dL_isWouldSo_134 : decode cL_isWouldSo 134 = .ok (.aload_n 0, 1) := by decide +kernel
theorem dL_isWouldSo_135 : decode cL_isWouldSo 135 = .ok (.invokevirtual 61, 3) := by decide +kernel
theorem dL_isWouldSo_138 : decode cL_isWouldSo 138 = .ok (.pop, 1) := by decide +kernel
theorem dL_isWouldSo_139 : decode cL_isWouldSo 139 = .ok (.iload 6, 2) := by decide +kernel
theorem dL_isWouldSo_141 : decode cL_isWouldSo 141 = .ok (.ireturn, 1) := by decide +kernel
theorem dL_law_0 : decode cL_law 0 = .ok (.new 15, 3) := by decide +kernel
theorem dL_law_3 : decode cL_law 3 = .ok (.dup, 1) := by decide +kernel
theorem dL_law_4 : decode cL_law 4 = .ok (.invokespecial 71, 3) := by decide +kernel
theorem dL_law_7 : decode cL_law 7 = .ok (.astore_n 1, 1) := by decide +kernel
theorem dL_law_8 : decode cL_law 8 = .ok (.iconst 0, 1) := by decide +kernel
theorem dL_law_9 : decode cL_law 9 = .ok (.istore_n 2, 1) := by decide +kernel
theorem dL_law_10 : decode cL_law 10 = .ok (.iload_n 2, 1) := by decide +kernel
theorem dL_law_11 : decode cL_law 11 = .ok (.bipush 56, 2) := by decide +kernel
theorem dL_law_13 : decode cL_law 13 = .ok (.if_icmp .ge 187, 3) := by decide +kernel
theorem dL_law_16 : decode cL_law 16 = .ok (.aload_n 0, 1) := by decide +kernel
theorem dL_law_17 : decode cL_law 17 = .ok (.iload_n 2, 1) := by decide +kernel
theorem dL_law_18 : decode cL_law 18 = .ok (.invokestatic 72, 3) := by decide +kernel
theorem dL_law_21 : decode cL_law 21 = .ok (.istore_n 3, 1) := by decide +kernel
theorem dL_law_22 : decode cL_law 22 = .ok (.aload_n 1, 1) := by decide +kernel
theorem dL_law_23 : decode cL_law 23 = .ok (.bipush 9, 2) := by decide +kernel
theorem dL_law_25 : decode cL_law 25 = .ok (.invokevirtual 49, 3) := by decide +kernel
theorem dL_law_28 : decode cL_law 28 = .ok (.istore 4, 2) := by decide +kernel
theorem dL_law_30 : decode cL_law 30 = .ok (.aload_n 1, 1) := by decide +kernel
theorem dL_law_31 : decode cL_law 31 = .ok (.iload_n 3, 1) := by decide +kernel
theorem dL_law_32 : decode cL_law 32 = .ok (.invokestatic 76, 3) := by decide +kernel
theorem dL_law_35 : decode cL_law 35 = .ok (.istore 5, 2) := by decide +kernel
theorem dL_law_37 : decode cL_law 37 = .ok (.iload 5, 2) := by decide +kernel
theorem dL_law_39 : decode cL_law 39 = .ok (.bipush (-5), 2) := by decide +kernel
theorem dL_law_41 : decode cL_law 41 = .ok (.if_icmp .lt 35, 3) := by decide +kernel
theorem dL_law_44 : decode cL_law 44 = .ok (.aload_n 1, 1) := by decide +kernel
theorem dL_law_45 : decode cL_law 45 = .ok (.bipush 9, 2) := by decide +kernel
theorem dL_law_47 : decode cL_law 47 = .ok (.invokevirtual 49, 3) := by decide +kernel
theorem dL_law_50 : decode cL_law 50 = .ok (.iload 4, 2) := by decide +kernel
theorem dL_law_52 : decode cL_law 52 = .ok (.if_icmp .le 17, 3) := by decide +kernel
theorem dL_law_55 : decode cL_law 55 = .ok (.aload_n 1, 1) := by decide +kernel
theorem dL_law_56 : decode cL_law 56 = .ok (.bipush 9, 2) := by decide +kernel
theorem dL_law_58 : decode cL_law 58 = .ok (.invokevirtual 49, 3) := by decide +kernel
theorem dL_law_61 : decode cL_law 61 = .ok (.aload_n 1, 1) := by decide +kernel
theorem dL_law_62 : decode cL_law 62 = .ok (.iconst 3, 1) := by decide +kernel
theorem dL_law_63 : decode cL_law 63 = .ok (.invokevirtual 49, 3) := by decide +kernel
theorem dL_law_66 : decode cL_law 66 = .ok (.if_icmp .gt 10, 3) := by decide +kernel
theorem dL_law_69 : decode cL_law 69 = .ok (.aload_n 1, 1) := by decide +kernel
theorem dL_law_70 : decode cL_law 70 = .ok (.invokestatic 80, 3) := by decide +kernel
theorem dL_law_73 : decode cL_law 73 = .ok (.ifCond .ne 5, 3) := by decide +kernel
theorem dL_law_76 : decode cL_law 76 = .ok (.iconst 0, 1) := by decide +kernel
theorem dL_law_77 : decode cL_law 77 = .ok (.ireturn, 1) := by decide +kernel
theorem dL_law_78 : decode cL_law 78 = .ok (.iload_n 2, 1) := by decide +kernel
theorem dL_law_79 : decode cL_law 79 = .ok (.iconst 4, 1) := by decide +kernel
theorem dL_law_80 : decode cL_law 80 = .ok (.irem, 1) := by decide +kernel
theorem dL_law_81 : decode cL_law 81 = .ok (.iconst 3, 1) := by decide +kernel
theorem dL_law_82 : decode cL_law 82 = .ok (.if_icmp .ne 30, 3) := by decide +kernel
theorem dL_law_85 : decode cL_law 85 = .ok (.aload_n 1, 1) := by decide +kernel
theorem dL_law_86 : decode cL_law 86 = .ok (.invokestatic 84, 3) := by decide +kernel
theorem dL_law_89 : decode cL_law 89 = .ok (.ifCond .eq 21, 3) := by decide +kernel
theorem dL_law_92 : decode cL_law 92 = .ok (.aload_n 1, 1) := by decide +kernel
theorem dL_law_93 : decode cL_law 93 = .ok (.iload_n 3, 1) := by decide +kernel
theorem dL_law_94 : decode cL_law 94 = .ok (.iconst 5, 1) := by decide +kernel
theorem dL_law_95 : decode cL_law 95 = .ok (.ishr, 1) := by decide +kernel
theorem dL_law_96 : decode cL_law 96 = .ok (.iconst 3, 1) := by decide +kernel
theorem dL_law_97 : decode cL_law 97 = .ok (.iand, 1) := by decide +kernel
theorem dL_law_98 : decode cL_law 98 = .ok (.iload_n 3, 1) := by decide +kernel
theorem dL_law_99 : decode cL_law 99 = .ok (.bipush 7, 2) := by decide +kernel
theorem dL_law_101 : decode cL_law 101 = .ok (.ishr, 1) := by decide +kernel
theorem dL_law_102 : decode cL_law 102 = .ok (.iconst 3, 1) := by decide +kernel
theorem dL_law_103 : decode cL_law 103 = .ok (.iand, 1) := by decide +kernel
theorem dL_law_104 : decode cL_law 104 = .ok (.invokestatic 87, 3) := by decide +kernel
theorem dL_law_107 : decode cL_law 107 = .ok (.ifCond .ne 5, 3) := by decide +kernel
theorem dL_law_110 : decode cL_law 110 = .ok (.iconst 0, 1) := by decide +kernel
theorem dL_law_111 : decode cL_law 111 = .ok (.ireturn, 1) := by decide +kernel
theorem dL_law_112 : decode cL_law 112 = .ok (.aload_n 1, 1) := by decide +kernel
theorem dL_law_113 : decode cL_law 113 = .ok (.bipush 7, 2) := by decide +kernel
theorem dL_law_115 : decode cL_law 115 = .ok (.invokevirtual 49, 3) := by decide +kernel
theorem dL_law_118 : decode cL_law 118 = .ok (.istore 6, 2) := by decide +kernel
theorem dL_law_120 : decode cL_law 120 = .ok (.iload 6, 2) := by decide +kernel
theorem dL_law_122 : decode cL_law 122 = .ok (.ifCond .ne 7, 3) := by decide +kernel
theorem dL_law_125 : decode cL_law 125 = .ok (.iconst 0, 1) := by decide +kernel
theorem dL_law_126 : decode cL_law 126 = .ok (.goto 12, 3) := by decide +kernel
theorem dL_law_129 : decode cL_law 129 = .ok (.iload_n 3, 1) := by decide +kernel
theorem dL_law_130 : decode cL_law 130 = .ok (.bipush 9, 2) := by decide +kernel
theorem dL_law_132 : decode cL_law 132 = .ok (.ishr, 1) := by decide +kernel
theorem dL_law_133 : decode cL_law 133 = .ok (.iload 6, 2) := by decide +kernel
theorem dL_law_135 : decode cL_law 135 = .ok (.invokestatic 8, 3) := by decide +kernel
theorem dL_law_138 : decode cL_law 138 = .ok (.istore 7, 2) := by decide +kernel
theorem dL_law_140 : decode cL_law 140 = .ok (.iload 6, 2) := by decide +kernel
theorem dL_law_142 : decode cL_law 142 = .ok (.ifCond .le 52, 3) := by decide +kernel
theorem dL_law_145 : decode cL_law 145 = .ok (.iload_n 2, 1) := by decide +kernel
theorem dL_law_146 : decode cL_law 146 = .ok (.iconst 3, 1) := by decide +kernel
theorem dL_law_147 : decode cL_law 147 = .ok (.irem, 1) := by decide +kernel
theorem dL_law_148 : decode cL_law 148 = .ok (.iconst 1, 1) := by decide +kernel
theorem dL_law_149 : decode cL_law 149 = .ok (.if_icmp .ne 45, 3) := by decide +kernel
theorem dL_law_152 : decode cL_law 152 = .ok (.aload_n 1, 1) := by decide +kernel
theorem dL_law_153 : decode cL_law 153 = .ok (.iload 7, 2) := by decide +kernel
theorem dL_law_155 : decode cL_law 155 = .ok (.iconst 3, 1) := by decide +kernel
theorem dL_law_156 : decode cL_law 156 = .ok (.invokevirtual 52, 3) := by decide +kernel
theorem dL_law_159 : decode cL_law 159 = .ok (.iconst 1, 1) := by decide +kernel
theorem dL_law_160 : decode cL_law 160 = .ok (.if_icmp .le 17, 3) := by decide +kernel
theorem dL_law_163 : decode cL_law 163 = .ok (.aload_n 1, 1) := by decide +kernel
theorem dL_law_164 : decode cL_law 164 = .ok (.iload 7, 2) := by decide +kernel
theorem dL_law_166 : decode cL_law 166 = .ok (.invokevirtual 68, 3) := by decide +kernel
theorem dL_law_169 : decode cL_law 169 = .ok (.bipush (-4), 2) := by decide +kernel
theorem dL_law_171 : decode cL_law 171 = .ok (.if_icmp .eq 23, 3) := by decide +kernel
theorem dL_law_174 : decode cL_law 174 = .ok (.goto 18, 3) := by decide +kernel
theorem dL_law_177 : decode cL_law 177 = .ok (.aload_n 1, 1) := by decide +kernel
theorem dL_law_178 : decode cL_law 178 = .ok (.iload 7, 2) := by decide +kernel
theorem dL_law_180 : decode cL_law 180 = .ok (.aload_n 1, 1) := by decide +kernel
theorem dL_law_181 : decode cL_law 181 = .ok (.iload 7, 2) := by decide +kernel
theorem dL_law_183 : decode cL_law 183 = .ok (.invokevirtual 68, 3) := by decide +kernel
theorem dL_law_186 : decode cL_law 186 = .ok (.invokestatic 91, 3) := by decide +kernel
theorem dL_law_189 : decode cL_law 189 = .ok (.ifCond .ne 5, 3) := by decide +kernel
theorem dL_law_192 : decode cL_law 192 = .ok (.iconst 0, 1) := by decide +kernel
theorem dL_law_193 : decode cL_law 193 = .ok (.ireturn, 1) := by decide +kernel
theorem dL_law_194 : decode cL_law 194 = .ok (.iinc 2 1, 3) := by decide +kernel
theorem dL_law_197 : decode cL_law 197 = .ok (.goto (-187), 3) := by decide +kernel
theorem dL_law_200 : decode cL_law 200 = .ok (.iconst 1, 1) := by decide +kernel
theorem dL_law_201 : decode cL_law 201 = .ok (.ireturn, 1) := by decide +kernel
