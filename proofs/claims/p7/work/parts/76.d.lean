/-! the reference as formulas: constant, task, put, pull, init_, turn, children, lib, library, nameToken, letRoutines, declaration, beginBlock, labelsOf, goesTo -/
theorem dX12_constant_0 : decode cX12_constant 0 = .ok (.aload_n 0, 1) := by decide +kernel
theorem dX12_constant_1 : decode cX12_constant 1 = .ok (.aload_n 0, 1) := by decide +kernel
theorem dX12_constant_2 : decode cX12_constant 2 = .ok (.iload_n 1, 1) := by decide +kernel
theorem dX12_constant_3 : decode cX12_constant 3 = .ok (.invokevirtual 632, 3) := by decide +kernel
theorem dX12_constant_6 : decode cX12_constant 6 = .ok (.putfield 187, 3) := by decide +kernel
theorem dX12_constant_9 : decode cX12_constant 9 = .ok (.aload_n 0, 1) := by decide +kernel
theorem dX12_constant_10 : decode cX12_constant 10 = .ok (.iconst 0, 1) := by decide +kernel
theorem dX12_constant_11 : decode cX12_constant 11 = .ok (.putfield 191, 3) := by decide +kernel
theorem dX12_constant_14 : decode cX12_constant 14 = .ok (.aload_n 0, 1) := by decide +kernel
theorem dX12_constant_15 : decode cX12_constant 15 = .ok (.getfield 187, 3) := by decide +kernel
theorem dX12_constant_18 : decode cX12_constant 18 = .ok (.ifCond .ne 4, 3) := by decide +kernel
theorem dX12_constant_21 : decode cX12_constant 21 = .ok (.return_, 1) := by decide +kernel
theorem dX12_constant_22 : decode cX12_constant 22 = .ok (.iconst 1, 1) := by decide +kernel
theorem dX12_constant_23 : decode cX12_constant 23 = .ok (.istore_n 2, 1) := by decide +kernel
theorem dX12_constant_24 : decode cX12_constant 24 = .ok (.iconst 0, 1) := by decide +kernel
theorem dX12_constant_25 : decode cX12_constant 25 = .ok (.istore_n 3, 1) := by decide +kernel
theorem dX12_constant_26 : decode cX12_constant 26 = .ok (.aload_n 0, 1) := by decide +kernel
theorem dX12_constant_27 : decode cX12_constant 27 = .ok (.getfield 194, 3) := by decide +kernel
theorem dX12_constant_30 : decode cX12_constant 30 = .ok (.iconst 0, 1) := by decide +kernel
theorem dX12_constant_31 : decode cX12_constant 31 = .ok (.iload_n 1, 1) := by decide +kernel
theorem dX12_constant_32 : decode cX12_constant 32 = .ok (.iastore, 1) := by decide +kernel
theorem dX12_constant_33 : decode cX12_constant 33 = .ok (.aload_n 0, 1) := by decide +kernel
theorem dX12_constant_34 : decode cX12_constant 34 = .ok (.getfield 197, 3) := by decide +kernel
theorem dX12_constant_37 : decode cX12_constant 37 = .ok (.iconst 0, 1) := by decide +kernel
theorem dX12_constant_38 : decode cX12_constant 38 = .ok (.iconst 0, 1) := by decide +kernel
theorem dX12_constant_39 : decode cX12_constant 39 = .ok (.iastore, 1) := by decide +kernel
theorem dX12_constant_40 : decode cX12_constant 40 = .ok (.iload_n 2, 1) := by decide +kernel
theorem dX12_constant_41 : decode cX12_constant 41 = .ok (.ifCond .le 593, 3) := by decide +kernel
theorem dX12_constant_44 : decode cX12_constant 44 = .ok (.iinc 2 (-1), 3) := by decide +kernel
theorem dX12_constant_47 : decode cX12_constant 47 = .ok (.aload_n 0, 1) := by decide +kernel
theorem dX12_constant_48 : decode cX12_constant 48 = .ok (.getfield 194, 3) := by decide +kernel
theorem dX12_constant_51 : decode cX12_constant 51 = .ok (.iload_n 2, 1) := by decide +kernel
theorem dX12_constant_52 : decode cX12_constant 52 = .ok (.iaload, 1) := by decide +kernel
theorem dX12_constant_53 : decode cX12_constant 53 = .ok (.istore 4, 2) := by decide +kernel
theorem dX12_constant_55 : decode cX12_constant 55 = .ok (.aload_n 0, 1) := by decide +kernel
theorem dX12_constant_56 : decode cX12_constant 56 = .ok (.getfield 197, 3) := by decide +kernel
theorem dX12_constant_59 : decode cX12_constant 59 = .ok (.iload_n 2, 1) := by decide +kernel
theorem dX12_constant_60 : decode cX12_constant 60 = .ok (.iaload, 1) := by decide +kernel
theorem dX12_constant_61 : decode cX12_constant 61 = .ok (.istore 5, 2) := by decide +kernel
theorem dX12_constant_63 : decode cX12_constant 63 = .ok (.aload_n 0, 1) := by decide +kernel
theorem dX12_constant_64 : decode cX12_constant 64 = .ok (.getfield 87, 3) := by decide +kernel
theorem dX12_constant_67 : decode cX12_constant 67 = .ok (.iload 4, 2) := by decide +kernel
theorem dX12_constant_69 : decode cX12_constant 69 = .ok (.baload, 1) := by decide +kernel
theorem dX12_constant_70 : decode cX12_constant 70 = .ok (.istore 6, 2) := by decide +kernel
theorem dX12_constant_72 : decode cX12_constant 72 = .ok (.iload 6, 2) := by decide +kernel
theorem dX12_constant_74 : decode cX12_constant 74 = .ok (.iconst 2, 1) := by decide +kernel
theorem dX12_constant_75 : decode cX12_constant 75 = .ok (.if_icmp .eq 9, 3) := by decide +kernel
theorem dX12_constant_78 : decode cX12_constant 78 = .ok (.iload 6, 2) := by decide +kernel
theorem dX12_constant_80 : decode cX12_constant 80 = .ok (.iconst 1, 1) := by decide +kernel
theorem dX12_constant_81 : decode cX12_constant 81 = .ok (.if_icmp .ne 47, 3) := by decide +kernel
theorem dX12_constant_84 : decode cX12_constant 84 = .ok (.aload_n 0, 1) := by decide +kernel
theorem dX12_constant_85 : decode cX12_constant 85 = .ok (.getfield 200, 3) := by decide +kernel
theorem dX12_constant_88 : decode cX12_constant 88 = .ok (.iload_n 3, 1) := by decide +kernel
theorem dX12_constant_89 : decode cX12_constant 89 = .ok (.iload 6, 2) := by decide +kernel
theorem dX12_constant_91 : decode cX12_constant 91 = .ok (.iconst 2, 1) := by decide +kernel
theorem dX12_constant_92 : decode cX12_constant 92 = .ok (.if_icmp .ne 13, 3) := by decide +kernel
theorem dX12_constant_95 : decode cX12_constant 95 = .ok (.aload_n 0, 1) := by decide +kernel
theorem dX12_constant_96 : decode cX12_constant 96 = .ok (.getfield 99, 3) := by decide +kernel
theorem dX12_constant_99 : decode cX12_constant 99 = .ok (.iload 4, 2) := by decide +kernel
theorem dX12_constant_101 : decode cX12_constant 101 = .ok (.iaload, 1) := by decide +kernel
theorem dX12_constant_102 : decode cX12_constant 102 = .ok (.goto 19, 3) := by decide +kernel
theorem dX12_constant_105 : decode cX12_constant 105 = .ok (.aload_n 0, 1) := by decide +kernel
theorem dX12_constant_106 : decode cX12_constant 106 = .ok (.getfield 169, 3) := by decide +kernel
theorem dX12_constant_109 : decode cX12_constant 109 = .ok (.aload_n 0, 1) := by decide +kernel
theorem dX12_constant_110 : decode cX12_constant 110 = .ok (.aload_n 0, 1) := by decide +kernel
theorem dX12_constant_111 : decode cX12_constant 111 = .ok (.getfield 99, 3) := by decide +kernel
theorem dX12_constant_114 : decode cX12_constant 114 = .ok (.iload 4, 2) := by decide +kernel
theorem dX12_constant_116 : decode cX12_constant 116 = .ok (.iaload, 1) := by decide +kernel
theorem dX12_constant_117 : decode cX12_constant 117 = .ok (.invokevirtual 619, 3) := by decide +kernel
theorem dX12_constant_120 : decode cX12_constant 120 = .ok (.iaload, 1) := by decide +kernel
theorem dX12_constant_121 : decode cX12_constant 121 = .ok (.iastore, 1) := by decide +kernel
theorem dX12_constant_122 : decode cX12_constant 122 = .ok (.iinc 3 1, 3) := by decide +kernel
theorem dX12_constant_125 : decode cX12_constant 125 = .ok (.goto 506, 3) := by decide +kernel
theorem dX12_constant_128 : decode cX12_constant 128 = .ok (.iload 6, 2) := by decide +kernel
theorem dX12_constant_130 : decode cX12_constant 130 = .ok (.bipush 12, 2) := by decide +kernel
theorem dX12_constant_132 : decode cX12_constant 132 = .ok (.if_icmp .ne 80, 3) := by decide +kernel
theorem dX12_constant_135 : decode cX12_constant 135 = .ok (.iload 5, 2) := by decide +kernel
theorem dX12_constant_137 : decode cX12_constant 137 = .ok (.ifCond .ne 28, 3) := by decide +kernel
theorem dX12_constant_140 : decode cX12_constant 140 = .ok (.aload_n 0, 1) := by decide +kernel
theorem dX12_constant_141 : decode cX12_constant 141 = .ok (.getfield 197, 3) := by decide +kernel
theorem dX12_constant_144 : decode cX12_constant 144 = .ok (.iload_n 2, 1) := by decide +kernel
theorem dX12_constant_145 : decode cX12_constant 145 = .ok (.iconst 1, 1) := by decide +kernel
theorem dX12_constant_146 : decode cX12_constant 146 = .ok (.iastore, 1) := by decide +kernel
theorem dX12_constant_147 : decode cX12_constant 147 = .ok (.aload_n 0, 1) := by decide +kernel
theorem dX12_constant_148 : decode cX12_constant 148 = .ok (.iload_n 2, 1) := by decide +kernel
theorem dX12_constant_149 : decode cX12_constant 149 = .ok (.iconst 1, 1) := by decide +kernel
theorem dX12_constant_150 : decode cX12_constant 150 = .ok (.iadd, 1) := by decide +kernel
theorem dX12_constant_151 : decode cX12_constant 151 = .ok (.aload_n 0, 1) := by decide +kernel
theorem dX12_constant_152 : decode cX12_constant 152 = .ok (.getfield 93, 3) := by decide +kernel
theorem dX12_constant_155 : decode cX12_constant 155 = .ok (.iload 4, 2) := by decide +kernel
theorem dX12_constant_157 : decode cX12_constant 157 = .ok (.iaload, 1) := by decide +kernel
theorem dX12_constant_158 : decode cX12_constant 158 = .ok (.invokevirtual 635, 3) := by decide +kernel
theorem dX12_constant_161 : decode cX12_constant 161 = .ok (.istore_n 2, 1) := by decide +kernel
theorem dX12_constant_162 : decode cX12_constant 162 = .ok (.goto 469, 3) := by decide +kernel
theorem dX12_constant_165 : decode cX12_constant 165 = .ok (.iinc 3 (-1), 3) := by decide +kernel
theorem dX12_constant_168 : decode cX12_constant 168 = .ok (.aload_n 0, 1) := by decide +kernel
theorem dX12_constant_169 : decode cX12_constant 169 = .ok (.getfield 96, 3) := by decide +kernel
theorem dX12_constant_172 : decode cX12_constant 172 = .ok (.aload_n 0, 1) := by decide +kernel
theorem dX12_constant_173 : decode cX12_constant 173 = .ok (.getfield 93, 3) := by decide +kernel
theorem dX12_constant_176 : decode cX12_constant 176 = .ok (.iload 4, 2) := by decide +kernel
theorem dX12_constant_178 : decode cX12_constant 178 = .ok (.iaload, 1) := by decide +kernel
theorem dX12_constant_179 : decode cX12_constant 179 = .ok (.iaload, 1) := by decide +kernel
theorem dX12_constant_180 : decode cX12_constant 180 = .ok (.istore 7, 2) := by decide +kernel
theorem dX12_constant_182 : decode cX12_constant 182 = .ok (.aload_n 0, 1) := by decide +kernel
theorem dX12_constant_183 : decode cX12_constant 183 = .ok (.iload_n 2, 1) := by decide +kernel
theorem dX12_constant_184 : decode cX12_constant 184 = .ok (.aload_n 0, 1) := by decide +kernel
theorem dX12_constant_185 : decode cX12_constant 185 = .ok (.getfield 200, 3) := by decide +kernel
theorem dX12_constant_188 : decode cX12_constant 188 = .ok (.iload_n 3, 1) := by decide +kernel
theorem dX12_constant_189 : decode cX12_constant 189 = .ok (.iaload, 1) := by decide +kernel
theorem dX12_constant_190 : decode cX12_constant 190 = .ok (.ifCond .eq 8, 3) := by decide +kernel
theorem dX12_constant_193 : decode cX12_constant 193 = .ok (.iload 7, 2) := by decide +kernel
theorem dX12_constant_195 : decode cX12_constant 195 = .ok (.goto 10, 3) := by decide +kernel
theorem dX12_constant_198 : decode cX12_constant 198 = .ok (.aload_n 0, 1) := by decide +kernel
theorem dX12_constant_199 : decode cX12_constant 199 = .ok (.getfield 96, 3) := by decide +kernel
theorem dX12_constant_202 : decode cX12_constant 202 = .ok (.iload 7, 2) := by decide +kernel
theorem dX12_constant_204 : decode cX12_constant 204 = .ok (.iaload, 1) := by decide +kernel
theorem dX12_constant_205 : decode cX12_constant 205 = .ok (.invokevirtual 635, 3) := by decide +kernel
theorem dX12_constant_208 : decode cX12_constant 208 = .ok (.istore_n 2, 1) := by decide +kernel
theorem dX12_constant_209 : decode cX12_constant 209 = .ok (.goto 422, 3) := by decide +kernel
theorem dX12_constant_212 : decode cX12_constant 212 = .ok (.iload 6, 2) := by decide +kernel
theorem dX12_constant_214 : decode cX12_constant 214 = .ok (.bipush 10, 2) := by decide +kernel
theorem dX12_constant_216 : decode cX12_constant 216 = .ok (.if_icmp .ne 62, 3) := by decide +kernel
theorem dX12_constant_219 : decode cX12_constant 219 = .ok (.iload 5, 2) := by decide +kernel
theorem dX12_constant_221 : decode cX12_constant 221 = .ok (.ifCond .ne 28, 3) := by decide +kernel
theorem dX12_constant_224 : decode cX12_constant 224 = .ok (.aload_n 0, 1) := by decide +kernel
theorem dX12_constant_225 : decode cX12_constant 225 = .ok (.getfield 197, 3) := by decide +kernel
theorem dX12_constant_228 : decode cX12_constant 228 = .ok (.iload_n 2, 1) := by decide +kernel
theorem dX12_constant_229 : decode cX12_constant 229 = .ok (.iconst 1, 1) := by decide +kernel
theorem dX12_constant_230 : decode cX12_constant 230 = .ok (.iastore, 1) := by decide +kernel
theorem dX12_constant_231 : decode cX12_constant 231 = .ok (.aload_n 0, 1) := by decide +kernel
theorem dX12_constant_232 : decode cX12_constant 232 = .ok (.iload_n 2, 1) := by decide +kernel
theorem dX12_constant_233 : decode cX12_constant 233 = .ok (.iconst 1, 1) := by decide +kernel
theorem dX12_constant_234 : decode cX12_constant 234 = .ok (.iadd, 1) := by decide +kernel
theorem dX12_constant_235 : decode cX12_constant 235 = .ok (.aload_n 0, 1) := by decide +kernel
theorem dX12_constant_236 : decode cX12_constant 236 = .ok (.getfield 93, 3) := by decide +kernel
theorem dX12_constant_239 : decode cX12_constant 239 = .ok (.iload 4, 2) := by decide +kernel
theorem dX12_constant_241 : decode cX12_constant 241 = .ok (.iaload, 1) := by decide +kernel
theorem dX12_constant_242 : decode cX12_constant 242 = .ok (.invokevirtual 635, 3) := by decide +kernel
theorem dX12_constant_245 : decode cX12_constant 245 = .ok (.istore_n 2, 1) := by decide +kernel
theorem dX12_constant_246 : decode cX12_constant 246 = .ok (.goto 385, 3) := by decide +kernel
theorem dX12_constant_249 : decode cX12_constant 249 = .ok (.aload_n 0, 1) := by decide +kernel
theorem dX12_constant_250 : decode cX12_constant 250 = .ok (.getfield 200, 3) := by decide +kernel
theorem dX12_constant_253 : decode cX12_constant 253 = .ok (.iload_n 3, 1) := by decide +kernel
theorem dX12_constant_254 : decode cX12_constant 254 = .ok (.iconst 1, 1) := by decide +kernel
theorem dX12_constant_255 : decode cX12_constant 255 = .ok (.isub, 1) := by decide +kernel
theorem dX12_constant_256 : decode cX12_constant 256 = .ok (.aload_n 0, 1) := by decide +kernel
theorem dX12_constant_257 : decode cX12_constant 257 = .ok (.getfield 99, 3) := by decide +kernel
theorem dX12_constant_260 : decode cX12_constant 260 = .ok (.iload 4, 2) := by decide +kernel
theorem dX12_constant_262 : decode cX12_constant 262 = .ok (.iaload, 1) := by decide +kernel
theorem dX12_constant_263 : decode cX12_constant 263 = .ok (.aload_n 0, 1) := by decide +kernel
theorem dX12_constant_264 : decode cX12_constant 264 = .ok (.getfield 200, 3) := by decide +kernel
theorem dX12_constant_267 : decode cX12_constant 267 = .ok (.iload_n 3, 1) := by decide +kernel
theorem dX12_constant_268 : decode cX12_constant 268 = .ok (.iconst 1, 1) := by decide +kernel
theorem dX12_constant_269 : decode cX12_constant 269 = .ok (.isub, 1) := by decide +kernel
theorem dX12_constant_270 : decode cX12_constant 270 = .ok (.iaload, 1) := by decide +kernel
theorem dX12_constant_271 : decode cX12_constant 271 = .ok (.invokestatic 638, 3) := by decide +kernel
theorem dX12_constant_274 : decode cX12_constant 274 = .ok (.iastore, 1) := by decide +kernel
theorem dX12_constant_275 : decode cX12_constant 275 = .ok (.goto 356, 3) := by decide +kernel
theorem dX12_constant_278 : decode cX12_constant 278 = .ok (.iload 6, 2) := by decide +kernel
theorem dX12_constant_280 : decode cX12_constant 280 = .ok (.bipush 11, 2) := by decide +kernel
theorem dX12_constant_282 : decode cX12_constant 282 = .ok (.if_icmp .ne 204, 3) := by decide +kernel
theorem dX12_constant_285 : decode cX12_constant 285 = .ok (.aload_n 0, 1) := by decide +kernel
theorem dX12_constant_286 : decode cX12_constant 286 = .ok (.getfield 93, 3) := by decide +kernel
theorem dX12_constant_289 : decode cX12_constant 289 = .ok (.iload 4, 2) := by decide +kernel
theorem dX12_constant_291 : decode cX12_constant 291 = .ok (.iaload, 1) := by decide +kernel
theorem dX12_constant_292 : decode cX12_constant 292 = .ok (.istore 7, 2) := by decide +kernel
theorem dX12_constant_294 : decode cX12_constant 294 = .ok (.iconst 0, 1) := by decide +kernel
theorem dX12_constant_295 : decode cX12_constant 295 = .ok (.istore 8, 2) := by decide +kernel
theorem dX12_constant_297 : decode cX12_constant 297 = .ok (.iload 8, 2) := by decide +kernel
theorem dX12_constant_299 : decode cX12_constant 299 = .ok (.iload 5, 2) := by decide +kernel
theorem dX12_constant_301 : decode cX12_constant 301 = .ok (.if_icmp .ge 18, 3) := by decide +kernel
theorem dX12_constant_304 : decode cX12_constant 304 = .ok (.aload_n 0, 1) := by decide +kernel
theorem dX12_constant_305 : decode cX12_constant 305 = .ok (.getfield 96, 3) := by decide +kernel
theorem dX12_constant_308 : decode cX12_constant 308 = .ok (.iload 7, 2) := by decide +kernel
theorem dX12_constant_310 : decode cX12_constant 310 = .ok (.iaload, 1) := by decide +kernel
theorem dX12_constant_311 : decode cX12_constant 311 = .ok (.istore 7, 2) := by decide +kernel
theorem dX12_constant_313 : decode cX12_constant 313 = .ok (.iinc 8 1, 3) := by decide +kernel
theorem dX12_constant_316 : decode cX12_constant 316 = .ok (.goto (-19), 3) := by decide +kernel
theorem dX12_constant_319 : decode cX12_constant 319 = .ok (.iload 5, 2) := by decide +kernel
theorem dX12_constant_321 : decode cX12_constant 321 = .ok (.iconst 2, 1) := by decide +kernel
theorem dX12_constant_322 : decode cX12_constant 322 = .ok (.if_icmp .ge 26, 3) := by decide +kernel
theorem dX12_constant_325 : decode cX12_constant 325 = .ok (.aload_n 0, 1) := by decide +kernel
theorem dX12_constant_326 : decode cX12_constant 326 = .ok (.getfield 197, 3) := by decide +kernel
theorem dX12_constant_329 : decode cX12_constant 329 = .ok (.iload_n 2, 1) := by decide +kernel
theorem dX12_constant_330 : decode cX12_constant 330 = .ok (.iload 5, 2) := by decide +kernel
theorem dX12_constant_332 : decode cX12_constant 332 = .ok (.iconst 1, 1) := by decide +kernel
theorem dX12_constant_333 : decode cX12_constant 333 = .ok (.iadd, 1) := by decide +kernel
theorem dX12_constant_334 : decode cX12_constant 334 = .ok (.iastore, 1) := by decide +kernel
theorem dX12_constant_335 : decode cX12_constant 335 = .ok (.aload_n 0, 1) := by decide +kernel
theorem dX12_constant_336 : decode cX12_constant 336 = .ok (.iload_n 2, 1) := by decide +kernel
theorem dX12_constant_337 : decode cX12_constant 337 = .ok (.iconst 1, 1) := by decide +kernel
theorem dX12_constant_338 : decode cX12_constant 338 = .ok (.iadd, 1) := by decide +kernel
theorem dX12_constant_339 : decode cX12_constant 339 = .ok (.iload 7, 2) := by decide +kernel
theorem dX12_constant_341 : decode cX12_constant 341 = .ok (.invokevirtual 635, 3) := by decide +kernel
theorem dX12_constant_344 : decode cX12_constant 344 = .ok (.istore_n 2, 1) := by decide +kernel
theorem dX12_constant_345 : decode cX12_constant 345 = .ok (.goto 138, 3) := by decide +kernel
theorem dX12_constant_348 : decode cX12_constant 348 = .ok (.aload_n 0, 1) := by decide +kernel
theorem dX12_constant_349 : decode cX12_constant 349 = .ok (.getfield 93, 3) := by decide +kernel
theorem dX12_constant_352 : decode cX12_constant 352 = .ok (.iload 4, 2) := by decide +kernel
theorem dX12_constant_354 : decode cX12_constant 354 = .ok (.iaload, 1) := by decide +kernel
theorem dX12_constant_355 : decode cX12_constant 355 = .ok (.istore 8, 2) := by decide +kernel
theorem dX12_constant_357 : decode cX12_constant 357 = .ok (.iconst 1, 1) := by decide +kernel
theorem dX12_constant_358 : decode cX12_constant 358 = .ok (.istore 9, 2) := by decide +kernel
theorem dX12_constant_360 : decode cX12_constant 360 = .ok (.iload 9, 2) := by decide +kernel
theorem dX12_constant_362 : decode cX12_constant 362 = .ok (.iload 5, 2) := by decide +kernel
theorem dX12_constant_364 : decode cX12_constant 364 = .ok (.if_icmp .ge 18, 3) := by decide +kernel
theorem dX12_constant_367 : decode cX12_constant 367 = .ok (.aload_n 0, 1) := by decide +kernel
theorem dX12_constant_368 : decode cX12_constant 368 = .ok (.getfield 96, 3) := by decide +kernel
theorem dX12_constant_371 : decode cX12_constant 371 = .ok (.iload 8, 2) := by decide +kernel
theorem dX12_constant_373 : decode cX12_constant 373 = .ok (.iaload, 1) := by decide +kernel
theorem dX12_constant_374 : decode cX12_constant 374 = .ok (.istore 8, 2) := by decide +kernel
theorem dX12_constant_376 : decode cX12_constant 376 = .ok (.iinc 9 1, 3) := by decide +kernel
theorem dX12_constant_379 : decode cX12_constant 379 = .ok (.goto (-19), 3) := by decide +kernel
theorem dX12_constant_382 : decode cX12_constant 382 = .ok (.aload_n 0, 1) := by decide +kernel
theorem dX12_constant_383 : decode cX12_constant 383 = .ok (.getfield 111, 3) := by decide +kernel
theorem dX12_constant_386 : decode cX12_constant 386 = .ok (.iload 8, 2) := by decide +kernel
theorem dX12_constant_388 : decode cX12_constant 388 = .ok (.iaload, 1) := by decide +kernel
theorem dX12_constant_389 : decode cX12_constant 389 = .ok (.aload_n 0, 1) := by decide +kernel
theorem dX12_constant_390 : decode cX12_constant 390 = .ok (.getfield 200, 3) := by decide +kernel
theorem dX12_constant_393 : decode cX12_constant 393 = .ok (.iload_n 3, 1) := by decide +kernel
theorem dX12_constant_394 : decode cX12_constant 394 = .ok (.iconst 2, 1) := by decide +kernel
theorem dX12_constant_395 : decode cX12_constant 395 = .ok (.isub, 1) := by decide +kernel
theorem dX12_constant_396 : decode cX12_constant 396 = .ok (.iaload, 1) := by decide +kernel
theorem dX12_constant_397 : decode cX12_constant 397 = .ok (.aload_n 0, 1) := by decide +kernel
theorem dX12_constant_398 : decode cX12_constant 398 = .ok (.getfield 200, 3) := by decide +kernel
theorem dX12_constant_401 : decode cX12_constant 401 = .ok (.iload_n 3, 1) := by decide +kernel
theorem dX12_constant_402 : decode cX12_constant 402 = .ok (.iconst 1, 1) := by decide +kernel
theorem dX12_constant_403 : decode cX12_constant 403 = .ok (.isub, 1) := by decide +kernel
theorem dX12_constant_404 : decode cX12_constant 404 = .ok (.iaload, 1) := by decide +kernel
theorem dX12_constant_405 : decode cX12_constant 405 = .ok (.invokestatic 641, 3) := by decide +kernel
theorem dX12_constant_408 : decode cX12_constant 408 = .ok (.istore 9, 2) := by decide +kernel
theorem dX12_constant_410 : decode cX12_constant 410 = .ok (.iload 9, 2) := by decide +kernel
theorem dX12_constant_412 : decode cX12_constant 412 = .ok (.ifCond .eq 50, 3) := by decide +kernel
theorem dX12_constant_415 : decode cX12_constant 415 = .ok (.iload 7, 2) := by decide +kernel
theorem dX12_constant_417 : decode cX12_constant 417 = .ok (.ifCond .lt 45, 3) := by decide +kernel
theorem dX12_constant_420 : decode cX12_constant 420 = .ok (.aload_n 0, 1) := by decide +kernel
theorem dX12_constant_421 : decode cX12_constant 421 = .ok (.getfield 200, 3) := by decide +kernel
theorem dX12_constant_424 : decode cX12_constant 424 = .ok (.iload_n 3, 1) := by decide +kernel
theorem dX12_constant_425 : decode cX12_constant 425 = .ok (.iconst 2, 1) := by decide +kernel
theorem dX12_constant_426 : decode cX12_constant 426 = .ok (.isub, 1) := by decide +kernel
theorem dX12_constant_427 : decode cX12_constant 427 = .ok (.aload_n 0, 1) := by decide +kernel
theorem dX12_constant_428 : decode cX12_constant 428 = .ok (.getfield 200, 3) := by decide +kernel
theorem dX12_constant_431 : decode cX12_constant 431 = .ok (.iload_n 3, 1) := by decide +kernel
theorem dX12_constant_432 : decode cX12_constant 432 = .ok (.iconst 1, 1) := by decide +kernel
theorem dX12_constant_433 : decode cX12_constant 433 = .ok (.isub, 1) := by decide +kernel
theorem dX12_constant_434 : decode cX12_constant 434 = .ok (.iaload, 1) := by decide +kernel
theorem dX12_constant_435 : decode cX12_constant 435 = .ok (.iastore, 1) := by decide +kernel
theorem dX12_constant_436 : decode cX12_constant 436 = .ok (.iinc 3 (-1), 3) := by decide +kernel
theorem dX12_constant_439 : decode cX12_constant 439 = .ok (.aload_n 0, 1) := by decide +kernel
theorem dX12_constant_440 : decode cX12_constant 440 = .ok (.getfield 197, 3) := by decide +kernel
theorem dX12_constant_443 : decode cX12_constant 443 = .ok (.iload_n 2, 1) := by decide +kernel
theorem dX12_constant_444 : decode cX12_constant 444 = .ok (.iload 5, 2) := by decide +kernel
theorem dX12_constant_446 : decode cX12_constant 446 = .ok (.iconst 1, 1) := by decide +kernel
theorem dX12_constant_447 : decode cX12_constant 447 = .ok (.iadd, 1) := by decide +kernel
theorem dX12_constant_448 : decode cX12_constant 448 = .ok (.iastore, 1) := by decide +kernel
theorem dX12_constant_449 : decode cX12_constant 449 = .ok (.aload_n 0, 1) := by decide +kernel
theorem dX12_constant_450 : decode cX12_constant 450 = .ok (.iload_n 2, 1) := by decide +kernel
theorem dX12_constant_451 : decode cX12_constant 451 = .ok (.iconst 1, 1) := by decide +kernel
theorem dX12_constant_452 : decode cX12_constant 452 = .ok (.iadd, 1) := by decide +kernel
theorem dX12_constant_453 : decode cX12_constant 453 = .ok (.iload 7, 2) := by decide +kernel
theorem dX12_constant_455 : decode cX12_constant 455 = .ok (.invokevirtual 635, 3) := by decide +kernel
theorem dX12_constant_458 : decode cX12_constant 458 = .ok (.istore_n 2, 1) := by decide +kernel
theorem dX12_constant_459 : decode cX12_constant 459 = .ok (.goto 24, 3) := by decide +kernel
theorem dX12_constant_462 : decode cX12_constant 462 = .ok (.iinc 3 (-1), 3) := by decide +kernel
theorem dX12_constant_465 : decode cX12_constant 465 = .ok (.aload_n 0, 1) := by decide +kernel
theorem dX12_constant_466 : decode cX12_constant 466 = .ok (.getfield 200, 3) := by decide +kernel
theorem dX12_constant_469 : decode cX12_constant 469 = .ok (.iload_n 3, 1) := by decide +kernel
theorem dX12_constant_470 : decode cX12_constant 470 = .ok (.iconst 1, 1) := by decide +kernel
theorem dX12_constant_471 : decode cX12_constant 471 = .ok (.isub, 1) := by decide +kernel
theorem dX12_constant_472 : decode cX12_constant 472 = .ok (.iload 9, 2) := by decide +kernel
theorem dX12_constant_474 : decode cX12_constant 474 = .ok (.ifCond .eq 7, 3) := by decide +kernel
theorem dX12_constant_477 : decode cX12_constant 477 = .ok (.iconst (-1), 1) := by decide +kernel
theorem dX12_constant_478 : decode cX12_constant 478 = .ok (.goto 4, 3) := by decide +kernel
theorem dX12_constant_481 : decode cX12_constant 481 = .ok (.iconst 0, 1) := by decide +kernel
theorem dX12_constant_482 : decode cX12_constant 482 = .ok (.iastore, 1) := by decide +kernel
theorem dX12_constant_483 : decode cX12_constant 483 = .ok (.goto 148, 3) := by decide +kernel
theorem dX12_constant_486 : decode cX12_constant 486 = .ok (.iload 5, 2) := by decide +kernel
theorem dX12_constant_488 : decode cX12_constant 488 = .ok (.iconst 2, 1) := by decide +kernel
theorem dX12_constant_489 : decode cX12_constant 489 = .ok (.if_icmp .ge 51, 3) := by decide +kernel
theorem dX12_constant_492 : decode cX12_constant 492 = .ok (.aload_n 0, 1) := by decide +kernel
theorem dX12_constant_493 : decode cX12_constant 493 = .ok (.getfield 197, 3) := by decide +kernel
theorem dX12_constant_496 : decode cX12_constant 496 = .ok (.iload_n 2, 1) := by decide +kernel
theorem dX12_constant_497 : decode cX12_constant 497 = .ok (.iload 5, 2) := by decide +kernel
theorem dX12_constant_499 : decode cX12_constant 499 = .ok (.iconst 1, 1) := by decide +kernel
theorem dX12_constant_500 : decode cX12_constant 500 = .ok (.iadd, 1) := by decide +kernel
theorem dX12_constant_501 : decode cX12_constant 501 = .ok (.iastore, 1) := by decide +kernel
theorem dX12_constant_502 : decode cX12_constant 502 = .ok (.aload_n 0, 1) := by decide +kernel
theorem dX12_constant_503 : decode cX12_constant 503 = .ok (.iload_n 2, 1) := by decide +kernel
theorem dX12_constant_504 : decode cX12_constant 504 = .ok (.iconst 1, 1) := by decide +kernel
theorem dX12_constant_505 : decode cX12_constant 505 = .ok (.iadd, 1) := by decide +kernel
theorem dX12_constant_506 : decode cX12_constant 506 = .ok (.iload 5, 2) := by decide +kernel
theorem dX12_constant_508 : decode cX12_constant 508 = .ok (.ifCond .ne 13, 3) := by decide +kernel
theorem dX12_constant_511 : decode cX12_constant 511 = .ok (.aload_n 0, 1) := by decide +kernel
theorem dX12_constant_512 : decode cX12_constant 512 = .ok (.getfield 93, 3) := by decide +kernel
theorem dX12_constant_515 : decode cX12_constant 515 = .ok (.iload 4, 2) := by decide +kernel
theorem dX12_constant_517 : decode cX12_constant 517 = .ok (.iaload, 1) := by decide +kernel
theorem dX12_constant_518 : decode cX12_constant 518 = .ok (.goto 15, 3) := by decide +kernel
theorem dX12_constant_521 : decode cX12_constant 521 = .ok (.aload_n 0, 1) := by decide +kernel
theorem dX12_constant_522 : decode cX12_constant 522 = .ok (.getfield 96, 3) := by decide +kernel
theorem dX12_constant_525 : decode cX12_constant 525 = .ok (.aload_n 0, 1) := by decide +kernel
theorem dX12_constant_526 : decode cX12_constant 526 = .ok (.getfield 93, 3) := by decide +kernel
theorem dX12_constant_529 : decode cX12_constant 529 = .ok (.iload 4, 2) := by decide +kernel
theorem dX12_constant_531 : decode cX12_constant 531 = .ok (.iaload, 1) := by decide +kernel
theorem dX12_constant_532 : decode cX12_constant 532 = .ok (.iaload, 1) := by decide +kernel
theorem dX12_constant_533 : decode cX12_constant 533 = .ok (.invokevirtual 635, 3) := by decide +kernel
theorem dX12_constant_536 : decode cX12_constant 536 = .ok (.istore_n 2, 1) := by decide +kernel
theorem dX12_constant_537 : decode cX12_constant 537 = .ok (.goto 94, 3) := by decide +kernel
theorem dX12_constant_540 : decode cX12_constant 540 = .ok (.iinc 3 (-1), 3) := by decide +kernel
theorem dX12_constant_543 : decode cX12_constant 543 = .ok (.aload_n 0, 1) := by decide +kernel
theorem dX12_constant_544 : decode cX12_constant 544 = .ok (.getfield 99, 3) := by decide +kernel
theorem dX12_constant_547 : decode cX12_constant 547 = .ok (.iload 4, 2) := by decide +kernel
theorem dX12_constant_549 : decode cX12_constant 549 = .ok (.iaload, 1) := by decide +kernel
theorem dX12_constant_550 : decode cX12_constant 550 = .ok (.bipush 24, 2) := by decide +kernel
theorem dX12_constant_552 : decode cX12_constant 552 = .ok (.if_icmp .eq 15, 3) := by decide +kernel
theorem dX12_constant_555 : decode cX12_constant 555 = .ok (.aload_n 0, 1) := by decide +kernel
theorem dX12_constant_556 : decode cX12_constant 556 = .ok (.getfield 99, 3) := by decide +kernel
theorem dX12_constant_559 : decode cX12_constant 559 = .ok (.iload 4, 2) := by decide +kernel
theorem dX12_constant_561 : decode cX12_constant 561 = .ok (.iaload, 1) := by decide +kernel
theorem dX12_constant_562 : decode cX12_constant 562 = .ok (.bipush 73, 2) := by decide +kernel
theorem dX12_constant_564 : decode cX12_constant 564 = .ok (.if_icmp .ne 35, 3) := by decide +kernel
theorem dX12_constant_567 : decode cX12_constant 567 = .ok (.aload_n 0, 1) := by decide +kernel
theorem dX12_constant_568 : decode cX12_constant 568 = .ok (.getfield 200, 3) := by decide +kernel
theorem dX12_constant_571 : decode cX12_constant 571 = .ok (.iload_n 3, 1) := by decide +kernel
theorem dX12_constant_572 : decode cX12_constant 572 = .ok (.iaload, 1) := by decide +kernel
theorem dX12_constant_573 : decode cX12_constant 573 = .ok (.ifCond .ne 26, 3) := by decide +kernel
theorem dX12_constant_576 : decode cX12_constant 576 = .ok (.aload_n 0, 1) := by decide +kernel
theorem dX12_constant_577 : decode cX12_constant 577 = .ok (.bipush 6, 2) := by decide +kernel
theorem dX12_constant_579 : decode cX12_constant 579 = .ok (.aload_n 0, 1) := by decide +kernel
theorem dX12_constant_580 : decode cX12_constant 580 = .ok (.aload_n 0, 1) := by decide +kernel
theorem dX12_constant_581 : decode cX12_constant 581 = .ok (.getfield 90, 3) := by decide +kernel
theorem dX12_constant_584 : decode cX12_constant 584 = .ok (.iload 4, 2) := by decide +kernel
theorem dX12_constant_586 : decode cX12_constant 586 = .ok (.iaload, 1) := by decide +kernel
theorem dX12_constant_587 : decode cX12_constant 587 = .ok (.invokevirtual 613, 3) := by decide +kernel
theorem dX12_constant_590 : decode cX12_constant 590 = .ok (.invokevirtual 605, 3) := by decide +kernel
theorem dX12_constant_593 : decode cX12_constant 593 = .ok (.aload_n 0, 1) := by decide +kernel
theorem dX12_constant_594 : decode cX12_constant 594 = .ok (.iconst 0, 1) := by decide +kernel
theorem dX12_constant_595 : decode cX12_constant 595 = .ok (.putfield 187, 3) := by decide +kernel
theorem dX12_constant_598 : decode cX12_constant 598 = .ok (.return_, 1) := by decide +kernel
theorem dX12_constant_599 : decode cX12_constant 599 = .ok (.aload_n 0, 1) := by decide +kernel
theorem dX12_constant_600 : decode cX12_constant 600 = .ok (.getfield 200, 3) := by decide +kernel
theorem dX12_constant_603 : decode cX12_constant 603 = .ok (.iload_n 3, 1) := by decide +kernel
theorem dX12_constant_604 : decode cX12_constant 604 = .ok (.iconst 1, 1) := by decide +kernel
theorem dX12_constant_605 : decode cX12_constant 605 = .ok (.isub, 1) := by decide +kernel
theorem dX12_constant_606 : decode cX12_constant 606 = .ok (.aload_n 0, 1) := by decide +kernel
theorem dX12_constant_607 : decode cX12_constant 607 = .ok (.getfield 99, 3) := by decide +kernel
theorem dX12_constant_610 : decode cX12_constant 610 = .ok (.iload 4, 2) := by decide +kernel
theorem dX12_constant_612 : decode cX12_constant 612 = .ok (.iaload, 1) := by decide +kernel
theorem dX12_constant_613 : decode cX12_constant 613 = .ok (.aload_n 0, 1) := by decide +kernel
theorem dX12_constant_614 : decode cX12_constant 614 = .ok (.getfield 200, 3) := by decide +kernel
theorem dX12_constant_617 : decode cX12_constant 617 = .ok (.iload_n 3, 1) := by decide +kernel
theorem dX12_constant_618 : decode cX12_constant 618 = .ok (.iconst 1, 1) := by decide +kernel
theorem dX12_constant_619 : decode cX12_constant 619 = .ok (.isub, 1) := by decide +kernel
theorem dX12_constant_620 : decode cX12_constant 620 = .ok (.iaload, 1) := by decide +kernel
theorem dX12_constant_621 : decode cX12_constant 621 = .ok (.aload_n 0, 1) := by decide +kernel
theorem dX12_constant_622 : decode cX12_constant 622 = .ok (.getfield 200, 3) := by decide +kernel
theorem dX12_constant_625 : decode cX12_constant 625 = .ok (.iload_n 3, 1) := by decide +kernel
theorem dX12_constant_626 : decode cX12_constant 626 = .ok (.iaload, 1) := by decide +kernel
theorem dX12_constant_627 : decode cX12_constant 627 = .ok (.invokestatic 644, 3) := by decide +kernel
theorem dX12_constant_630 : decode cX12_constant 630 = .ok (.iastore, 1) := by decide +kernel
theorem dX12_constant_631 : decode cX12_constant 631 = .ok (.goto (-591), 3) := by decide +kernel
theorem dX12_constant_634 : decode cX12_constant 634 = .ok (.aload_n 0, 1) := by decide +kernel
theorem dX12_constant_635 : decode cX12_constant 635 = .ok (.aload_n 0, 1) := by decide +kernel
theorem dX12_constant_636 : decode cX12_constant 636 = .ok (.getfield 200, 3) := by decide +kernel
theorem dX12_constant_639 : decode cX12_constant 639 = .ok (.iconst 0, 1) := by decide +kernel
theorem dX12_constant_640 : decode cX12_constant 640 = .ok (.iaload, 1) := by decide +kernel
theorem dX12_constant_641 : decode cX12_constant 641 = .ok (.putfield 191, 3) := by decide +kernel
theorem dX12_constant_644 : decode cX12_constant 644 = .ok (.return_, 1) := by decide +kernel
def wr_constant_84 (Q : zS → Prop) (k40 : zS → Int → Int → Prop) (s0 : zS) (x2 : Int) (x3 : Int) (x4 : Int) (x6 : Int) : Prop :=
  ((¬ x6 = 2 → (0 ≤ x4) ∧ (x4 < 26000) ∧ wr_means s0 (za s0 29 (Int.toNat x4)) (fun r7 s8 => (0 ≤ r7) ∧ (r7 < 9000) ∧ (0 ≤ x3) ∧ (x3 < 26000) ∧ (zR (x3 + 1)) ∧ k40 (zpa s8 62 (Int.toNat x3) (za s8 52 (Int.toNat r7))) x2 (x3 + 1))) ∧ (x6 = 2 → (0 ≤ x4) ∧ (x4 < 26000) ∧ (0 ≤ x3) ∧ (x3 < 26000) ∧ (zR (x3 + 1)) ∧ k40 (zpa s0 62 (Int.toNat x3) (za s0 29 (Int.toNat x4))) x2 (x3 + 1)))
def wr_constant_567 (Q : zS → Prop) (k40 : zS → Int → Int → Prop) (s0 : zS) (x2 : Int) (x3 : Int) (x4 : Int) : Prop :=
  (0 ≤ x3) ∧ (x3 < 26000) ∧ ((¬ (za s0 62 (Int.toNat x3)) = 0 → (0 ≤ x4) ∧ (x4 < 26000) ∧ (0 ≤ (x3 - 1)) ∧ ((x3 - 1) < 26000) ∧ (0 ≤ x3) ∧ (x3 < 26000) ∧ wr_worked s0 (za s0 29 (Int.toNat x4)) (za s0 62 (Int.toNat (x3 - 1))) (za s0 62 (Int.toNat x3)) (fun r19 s20 => (0 ≤ (x3 - 1)) ∧ ((x3 - 1) < 26000) ∧ k40 (zpa s20 62 (Int.toNat (x3 - 1)) r19) x2 x3)) ∧ ((za s0 62 (Int.toNat x3)) = 0 → (0 ≤ x4) ∧ (x4 < 26000) ∧ wr_place s0 (za s0 26 (Int.toNat x4)) (fun r36 s37 => wr_fault s37 6 r36 (fun s43 => Q (zpv s43 58 0)))))
def wr_constant_360B (Q : zS → Prop) (k40 : zS → Int → Int → Prop) (k360 : zS → Int → Int → Int → Int → Int → Int → Prop) (s0 : zS) (x2 : Int) (x3 : Int) (x5 : Int) (x7 : Int) (x8 : Int) (x9 : Int) : Prop :=
  ((x5 ≤ x9 → (0 ≤ x8) ∧ (x8 < 26000) ∧ (0 ≤ (x3 - 2)) ∧ ((x3 - 2) < 26000) ∧ (0 ≤ (x3 - 1)) ∧ ((x3 - 1) < 26000) ∧ wr_related s0 (za s0 33 (Int.toNat x8)) (za s0 62 (Int.toNat (x3 - 2))) (za s0 62 (Int.toNat (x3 - 1))) (fun r15 s16 => ((r15 = 0 → ((r15 = 0 → (0 ≤ ((x3 + (-1)) - 1)) ∧ (((x3 + (-1)) - 1) < 26000) ∧ (zR (x3 + (-1))) ∧ k40 (zpa s16 62 (Int.toNat ((x3 + (-1)) - 1)) 0) x2 (x3 + (-1))) ∧ (¬ r15 = 0 → (0 ≤ ((x3 + (-1)) - 1)) ∧ (((x3 + (-1)) - 1) < 26000) ∧ (zR (x3 + (-1))) ∧ k40 (zpa s16 62 (Int.toNat ((x3 + (-1)) - 1)) (-1)) x2 (x3 + (-1))))) ∧ (¬ r15 = 0 → ((x7 < 0 → ((r15 = 0 → (0 ≤ ((x3 + (-1)) - 1)) ∧ (((x3 + (-1)) - 1) < 26000) ∧ (zR (x3 + (-1))) ∧ k40 (zpa s16 62 (Int.toNat ((x3 + (-1)) - 1)) 0) x2 (x3 + (-1))) ∧ (¬ r15 = 0 → (0 ≤ ((x3 + (-1)) - 1)) ∧ (((x3 + (-1)) - 1) < 26000) ∧ (zR (x3 + (-1))) ∧ k40 (zpa s16 62 (Int.toNat ((x3 + (-1)) - 1)) (-1)) x2 (x3 + (-1))))) ∧ (¬ x7 < 0 → (0 ≤ (x3 - 1)) ∧ ((x3 - 1) < 26000) ∧ (0 ≤ (x3 - 2)) ∧ ((x3 - 2) < 26000) ∧ (0 ≤ x2) ∧ (x2 < 26000) ∧ (zR (x5 + 1)) ∧ (zR (x2 + 1)) ∧ wr_later (zpa (zpa s16 62 (Int.toNat (x3 - 2)) (za s16 62 (Int.toNat (x3 - 1)))) 61 (Int.toNat x2) (x5 + 1)) (x2 + 1) x7 (fun r85 s86 => (zR (x3 + (-1))) ∧ k40 s86 r85 (x3 + (-1))))))))) ∧ (¬ x5 ≤ x9 → (0 ≤ x8) ∧ (x8 < 26000) ∧ (zR (x9 + 1)) ∧ k360 s0 x2 x3 x5 x7 (za s0 28 (Int.toNat x8)) (x9 + 1)))
def wr_constant_360 (Q : zS → Prop) (k40 : zS → Int → Int → Prop) : Nat → zS → Int → Int → Int → Int → Int → Int → Prop
  | 0 => fun _ _ _ _ _ _ _ => False
  | m + 1 => fun s0 x2 x3 x5 x7 x8 x9 => wr_constant_360B Q k40 (wr_constant_360 Q k40 m) s0 x2 x3 x5 x7 x8 x9
def wr_constant_297B (Q : zS → Prop) (k40 : zS → Int → Int → Prop) (k297 : zS → Int → Int → Int → Int → Int → Int → Prop) (s0 : zS) (x2 : Int) (x3 : Int) (x4 : Int) (x5 : Int) (x7 : Int) (x8 : Int) : Prop :=
  ((x5 ≤ x8 → ((2 ≤ x5 → (0 ≤ x4) ∧ (x4 < 26000) ∧ ∃ n, wr_constant_360 Q k40 n s0 x2 x3 x5 x7 (za s0 27 (Int.toNat x4)) 1) ∧ (¬ 2 ≤ x5 → (0 ≤ x2) ∧ (x2 < 26000) ∧ (zR (x5 + 1)) ∧ (zR (x2 + 1)) ∧ wr_later (zpa s0 61 (Int.toNat x2) (x5 + 1)) (x2 + 1) x7 (fun r22 s23 => k40 s23 r22 x3)))) ∧ (¬ x5 ≤ x8 → (0 ≤ x7) ∧ (x7 < 26000) ∧ (zR (x8 + 1)) ∧ k297 s0 x2 x3 x4 x5 (za s0 28 (Int.toNat x7)) (x8 + 1)))
def wr_constant_297 (Q : zS → Prop) (k40 : zS → Int → Int → Prop) : Nat → zS → Int → Int → Int → Int → Int → Int → Prop
  | 0 => fun _ _ _ _ _ _ _ => False
  | m + 1 => fun s0 x2 x3 x4 x5 x7 x8 => wr_constant_297B Q k40 (wr_constant_297 Q k40 m) s0 x2 x3 x4 x5 x7 x8
def wr_constant_40B (Q : zS → Prop) (k40 : zS → Int → Int → Prop) (s0 : zS) (x2 : Int) (x3 : Int) : Prop :=
  ((x2 ≤ 0 → Q (zpv s0 59 (za s0 62 (Int.toNat 0)))) ∧ (¬ x2 ≤ 0 → (0 ≤ (x2 + (-1))) ∧ ((x2 + (-1)) < 26000) ∧ (0 ≤ (x2 + (-1))) ∧ ((x2 + (-1)) < 26000) ∧ (0 ≤ (za s0 60 (Int.toNat (x2 + (-1))))) ∧ ((za s0 60 (Int.toNat (x2 + (-1)))) < 26000) ∧ (((za s0 25 (Int.toNat (za s0 60 (Int.toNat (x2 + (-1)))))) = 2 → wr_constant_84 Q k40 s0 (x2 + (-1)) x3 (za s0 60 (Int.toNat (x2 + (-1)))) (za s0 25 (Int.toNat (za s0 60 (Int.toNat (x2 + (-1))))))) ∧ (¬ (za s0 25 (Int.toNat (za s0 60 (Int.toNat (x2 + (-1)))))) = 2 → ((¬ (za s0 25 (Int.toNat (za s0 60 (Int.toNat (x2 + (-1)))))) = 1 → ((¬ (za s0 25 (Int.toNat (za s0 60 (Int.toNat (x2 + (-1)))))) = 12 → ((¬ (za s0 25 (Int.toNat (za s0 60 (Int.toNat (x2 + (-1)))))) = 10 → ((¬ (za s0 25 (Int.toNat (za s0 60 (Int.toNat (x2 + (-1)))))) = 11 → ((2 ≤ (za s0 61 (Int.toNat (x2 + (-1)))) → (0 ≤ (za s0 60 (Int.toNat (x2 + (-1))))) ∧ ((za s0 60 (Int.toNat (x2 + (-1)))) < 26000) ∧ (((za s0 29 (Int.toNat (za s0 60 (Int.toNat (x2 + (-1)))))) = 24 → (zR (x3 + (-1))) ∧ wr_constant_567 Q k40 s0 (x2 + (-1)) (x3 + (-1)) (za s0 60 (Int.toNat (x2 + (-1))))) ∧ (¬ (za s0 29 (Int.toNat (za s0 60 (Int.toNat (x2 + (-1)))))) = 24 → (0 ≤ (za s0 60 (Int.toNat (x2 + (-1))))) ∧ ((za s0 60 (Int.toNat (x2 + (-1)))) < 26000) ∧ ((¬ (za s0 29 (Int.toNat (za s0 60 (Int.toNat (x2 + (-1)))))) = 73 → (0 ≤ (za s0 60 (Int.toNat (x2 + (-1))))) ∧ ((za s0 60 (Int.toNat (x2 + (-1)))) < 26000) ∧ (0 ≤ ((x3 + (-1)) - 1)) ∧ (((x3 + (-1)) - 1) < 26000) ∧ (0 ≤ (x3 + (-1))) ∧ ((x3 + (-1)) < 26000) ∧ wr_worked s0 (za s0 29 (Int.toNat (za s0 60 (Int.toNat (x2 + (-1)))))) (za s0 62 (Int.toNat ((x3 + (-1)) - 1))) (za s0 62 (Int.toNat (x3 + (-1)))) (fun r58 s59 => (0 ≤ ((x3 + (-1)) - 1)) ∧ (((x3 + (-1)) - 1) < 26000) ∧ k40 (zpa s59 62 (Int.toNat ((x3 + (-1)) - 1)) r58) (x2 + (-1)) (x3 + (-1)))) ∧ ((za s0 29 (Int.toNat (za s0 60 (Int.toNat (x2 + (-1)))))) = 73 → (zR (x3 + (-1))) ∧ wr_constant_567 Q k40 s0 (x2 + (-1)) (x3 + (-1)) (za s0 60 (Int.toNat (x2 + (-1))))))))) ∧ (¬ 2 ≤ (za s0 61 (Int.toNat (x2 + (-1)))) → (0 ≤ (x2 + (-1))) ∧ ((x2 + (-1)) < 26000) ∧ (zR ((za s0 61 (Int.toNat (x2 + (-1)))) + 1)) ∧ ((¬ (za s0 61 (Int.toNat (x2 + (-1)))) = 0 → (0 ≤ (za s0 60 (Int.toNat (x2 + (-1))))) ∧ ((za s0 60 (Int.toNat (x2 + (-1)))) < 26000) ∧ (0 ≤ (za s0 27 (Int.toNat (za s0 60 (Int.toNat (x2 + (-1))))))) ∧ ((za s0 27 (Int.toNat (za s0 60 (Int.toNat (x2 + (-1)))))) < 26000) ∧ (zR ((x2 + (-1)) + 1)) ∧ wr_later (zpa s0 61 (Int.toNat (x2 + (-1))) ((za s0 61 (Int.toNat (x2 + (-1)))) + 1)) ((x2 + (-1)) + 1) (za s0 28 (Int.toNat (za s0 27 (Int.toNat (za s0 60 (Int.toNat (x2 + (-1)))))))) (fun r94 s95 => k40 s95 r94 x3)) ∧ ((za s0 61 (Int.toNat (x2 + (-1)))) = 0 → (0 ≤ (za s0 60 (Int.toNat (x2 + (-1))))) ∧ ((za s0 60 (Int.toNat (x2 + (-1)))) < 26000) ∧ (zR ((x2 + (-1)) + 1)) ∧ wr_later (zpa s0 61 (Int.toNat (x2 + (-1))) ((za s0 61 (Int.toNat (x2 + (-1)))) + 1)) ((x2 + (-1)) + 1) (za s0 27 (Int.toNat (za s0 60 (Int.toNat (x2 + (-1)))))) (fun r107 s108 => k40 s108 r107 x3)))))) ∧ ((za s0 25 (Int.toNat (za s0 60 (Int.toNat (x2 + (-1)))))) = 11 → (0 ≤ (za s0 60 (Int.toNat (x2 + (-1))))) ∧ ((za s0 60 (Int.toNat (x2 + (-1)))) < 26000) ∧ ∃ n, wr_constant_297 Q k40 n s0 (x2 + (-1)) x3 (za s0 60 (Int.toNat (x2 + (-1)))) (za s0 61 (Int.toNat (x2 + (-1)))) (za s0 27 (Int.toNat (za s0 60 (Int.toNat (x2 + (-1)))))) 0))) ∧ ((za s0 25 (Int.toNat (za s0 60 (Int.toNat (x2 + (-1)))))) = 10 → ((¬ (za s0 61 (Int.toNat (x2 + (-1)))) = 0 → (0 ≤ (za s0 60 (Int.toNat (x2 + (-1))))) ∧ ((za s0 60 (Int.toNat (x2 + (-1)))) < 26000) ∧ (0 ≤ (x3 - 1)) ∧ ((x3 - 1) < 26000) ∧ wr_signed s0 (za s0 29 (Int.toNat (za s0 60 (Int.toNat (x2 + (-1)))))) (za s0 62 (Int.toNat (x3 - 1))) (fun r131 s132 => (0 ≤ (x3 - 1)) ∧ ((x3 - 1) < 26000) ∧ k40 (zpa s132 62 (Int.toNat (x3 - 1)) r131) (x2 + (-1)) x3)) ∧ ((za s0 61 (Int.toNat (x2 + (-1)))) = 0 → (0 ≤ (x2 + (-1))) ∧ ((x2 + (-1)) < 26000) ∧ (0 ≤ (za s0 60 (Int.toNat (x2 + (-1))))) ∧ ((za s0 60 (Int.toNat (x2 + (-1)))) < 26000) ∧ (zR ((x2 + (-1)) + 1)) ∧ wr_later (zpa s0 61 (Int.toNat (x2 + (-1))) 1) ((x2 + (-1)) + 1) (za s0 27 (Int.toNat (za s0 60 (Int.toNat (x2 + (-1)))))) (fun r156 s157 => k40 s157 r156 x3)))))) ∧ ((za s0 25 (Int.toNat (za s0 60 (Int.toNat (x2 + (-1)))))) = 12 → ((¬ (za s0 61 (Int.toNat (x2 + (-1)))) = 0 → (0 ≤ (za s0 60 (Int.toNat (x2 + (-1))))) ∧ ((za s0 60 (Int.toNat (x2 + (-1)))) < 26000) ∧ (0 ≤ (za s0 27 (Int.toNat (za s0 60 (Int.toNat (x2 + (-1))))))) ∧ ((za s0 27 (Int.toNat (za s0 60 (Int.toNat (x2 + (-1)))))) < 26000) ∧ (0 ≤ (x3 + (-1))) ∧ ((x3 + (-1)) < 26000) ∧ (((za s0 62 (Int.toNat (x3 + (-1)))) = 0 → (0 ≤ (za s0 28 (Int.toNat (za s0 27 (Int.toNat (za s0 60 (Int.toNat (x2 + (-1))))))))) ∧ ((za s0 28 (Int.toNat (za s0 27 (Int.toNat (za s0 60 (Int.toNat (x2 + (-1)))))))) < 26000) ∧ wr_later s0 (x2 + (-1)) (za s0 28 (Int.toNat (za s0 28 (Int.toNat (za s0 27 (Int.toNat (za s0 60 (Int.toNat (x2 + (-1)))))))))) (fun r183 s184 => k40 s184 r183 (x3 + (-1)))) ∧ (¬ (za s0 62 (Int.toNat (x3 + (-1)))) = 0 → wr_later s0 (x2 + (-1)) (za s0 28 (Int.toNat (za s0 27 (Int.toNat (za s0 60 (Int.toNat (x2 + (-1)))))))) (fun r190 s191 => k40 s191 r190 (x3 + (-1)))))) ∧ ((za s0 61 (Int.toNat (x2 + (-1)))) = 0 → (0 ≤ (x2 + (-1))) ∧ ((x2 + (-1)) < 26000) ∧ (0 ≤ (za s0 60 (Int.toNat (x2 + (-1))))) ∧ ((za s0 60 (Int.toNat (x2 + (-1)))) < 26000) ∧ (zR ((x2 + (-1)) + 1)) ∧ wr_later (zpa s0 61 (Int.toNat (x2 + (-1))) 1) ((x2 + (-1)) + 1) (za s0 27 (Int.toNat (za s0 60 (Int.toNat (x2 + (-1)))))) (fun r209 s210 => k40 s210 r209 x3)))))) ∧ ((za s0 25 (Int.toNat (za s0 60 (Int.toNat (x2 + (-1)))))) = 1 → wr_constant_84 Q k40 s0 (x2 + (-1)) x3 (za s0 60 (Int.toNat (x2 + (-1)))) (za s0 25 (Int.toNat (za s0 60 (Int.toNat (x2 + (-1))))))))))))
def wr_constant_40 (Q : zS → Prop)  : Nat → zS → Int → Int → Prop
  | 0 => fun _ _ _ => False
  | m + 1 => fun s0 x2 x3 => wr_constant_40B Q  (wr_constant_40 Q  m) s0 x2 x3
def wr_constant (s0 : zS) (a0 : Int) (Q : zS → Prop) : Prop :=
  wr_isK s0 a0 (fun r1 s2 => (r1 = 0 ∨ r1 = 1) ∧ ((¬ r1 = 0 → ∃ n, wr_constant_40 Q  n (zpa (zpa (zpv (zpv s2 58 r1) 59 0) 60 (Int.toNat 0) a0) 61 (Int.toNat 0) 0) 1 0) ∧ (r1 = 0 → Q (zpv (zpv s2 58 r1) 59 0))))
set_option maxHeartbeats 4000000 in
set_option maxRecDepth 100000 in
theorem rj_constant_84 {X : gX} {d : gD} {b t : Nat} {T : Nat → Nat} {F0 : gM} (hC : gC RX12 cX12_constant 10 none "constant" (gR 3 0 0) d b X) {Q : zS → Prop} {k40 : zS → Int → Int → Prop} (hk40 : ∀ (F : gM) (s0 : zS) (x2 : Int) (x3 : Int), zR x2 → zR x3 → zZ d t T F0 F s0 → k40 s0 x2 x3 → gG X d b (zQv X d b t T F0 Q) F 0 0 40 [some (.ref t), none, some (.int (zI x2)), some (.int (zI x3)), none, none, none, none, none, none] []) {F : gM} {s0 : zS} {x2 : Int} {x3 : Int} {x4 : Int} {x6 : Int} (Rx2 : zR x2) (Rx3 : zR x3) (Rx4 : zR x4) (Rx6 : zR x6) (hZ : zZ d t T F0 F s0) (hw : wr_constant_84 Q k40 s0 x2 x3 x4 x6) : gG X d b (zQv X d b t T F0 Q) F 0 0 84 [some (.ref t), none, some (.int (zI x2)), some (.int (zI x3)), some (.int (zI x4)), none, some (.int (zI x6)), none, none, none] [] := by
  unfold wr_constant_84 at hw
  refine g_aload_n hC dX12_constant_84 rfl ?_
  refine zr_geta hC hZ fl_X12_200 zb_62 (by decide) dX12_constant_85 ?_
  refine g_iload_n hC dX12_constant_88 rfl ?_
  refine g_iload hC dX12_constant_89 rfl ?_
  refine g_iconst (v := zI 2) hC dX12_constant_91 rfl ?_
  refine zr_icmp_ne (tgt := 105) hC Rx6 (by decide) dX12_constant_92 (by decide) (fun c1 => ?_) (fun c1 => ?_)
  · have h2 := hw.1 c1
    refine g_aload_n hC dX12_constant_105 rfl ?_
    refine zr_geta hC hZ fl_X12_169 zb_52 (by decide) dX12_constant_106 ?_
    refine g_aload_n hC dX12_constant_109 rfl ?_
    refine g_aload_n hC dX12_constant_110 rfl ?_
    refine zr_geta hC hZ fl_X12_99 zb_29 (by decide) dX12_constant_111 ?_
    refine g_iload hC dX12_constant_114 rfl ?_
    obtain ⟨o3, h4⟩ := h2
    obtain ⟨o5, h6⟩ := h4
    refine zr_iald (v := (za s0 29 (Int.toNat x4))) hC hZ zk_29 zb_29 zn_29 (by decide) o3 o5 rfl dX12_constant_116 ?_
    refine zr_callVi (As := [.int (zI (za s0 29 (Int.toNat x4)))]) hC hZ rfl (rm_means X.la d b (hZ.ra 29 _) hZ.rf h6) cl_X12_619 rfl rfl (Nat.le_of_ble_eq_true rfl) ⟨Nat.le_of_ble_eq_true rfl, Nat.le_of_ble_eq_true rfl⟩ dX12_constant_117 (fun r7 s8 F9 R10 hZ11 h12 => ?_)
    obtain ⟨o13, h14⟩ := h12
    obtain ⟨o15, h16⟩ := h14
    refine zr_iald (v := (za s8 52 (Int.toNat r7))) hC hZ11 zk_52 zb_52 zn_52 (by decide) o13 o15 rfl dX12_constant_120 ?_
    obtain ⟨o17, h18⟩ := h16
    obtain ⟨o19, h20⟩ := h18
    refine zr_iast hC hZ11 zk_62 zb_62 zn_62 (by decide) o17 o19 (hZ11.ra 52 _) dX12_constant_121 (fun F21 hZ22 => ?_)
    refine zr_iinc (x := x3) (lv' := [some (.ref t), none, some (.int (zI x2)), some (.int (zI (x3 + 1))), some (.int (zI x4)), none, some (.int (zI x6)), none, none, none]) hC dX12_constant_122 rfl rfl rfl ?_
    refine g_goto (tgt := 631) hC dX12_constant_125 (by decide) ?_
    refine g_goto (tgt := 40) hC dX12_constant_631 (by decide) ?_
    obtain ⟨o23, h24⟩ := h20
    refine g_lv (lv' := [some (.ref t), none, some (.int (zI x2)), some (.int (zI (x3 + 1))), none, none, none, none, none, none]) ⟨rfl, rfl, rfl, trivial⟩ ?_
    exact hk40 _ _ _ _ Rx2 o23 hZ22 h24
  · have h25 := hw.2 c1
    refine g_aload_n hC dX12_constant_95 rfl ?_
    refine zr_geta hC hZ fl_X12_99 zb_29 (by decide) dX12_constant_96 ?_
    refine g_iload hC dX12_constant_99 rfl ?_
    obtain ⟨o26, h27⟩ := h25
    obtain ⟨o28, h29⟩ := h27
    refine zr_iald (v := (za s0 29 (Int.toNat x4))) hC hZ zk_29 zb_29 zn_29 (by decide) o26 o28 rfl dX12_constant_101 ?_
    refine g_goto (tgt := 121) hC dX12_constant_102 (by decide) ?_
    obtain ⟨o30, h31⟩ := h29
    obtain ⟨o32, h33⟩ := h31
    refine zr_iast hC hZ zk_62 zb_62 zn_62 (by decide) o30 o32 (hZ.ra 29 _) dX12_constant_121 (fun F34 hZ35 => ?_)
    refine zr_iinc (x := x3) (lv' := [some (.ref t), none, some (.int (zI x2)), some (.int (zI (x3 + 1))), some (.int (zI x4)), none, some (.int (zI x6)), none, none, none]) hC dX12_constant_122 rfl rfl rfl ?_
    refine g_goto (tgt := 631) hC dX12_constant_125 (by decide) ?_
    refine g_goto (tgt := 40) hC dX12_constant_631 (by decide) ?_
    obtain ⟨o36, h37⟩ := h33
    refine g_lv (lv' := [some (.ref t), none, some (.int (zI x2)), some (.int (zI (x3 + 1))), none, none, none, none, none, none]) ⟨rfl, rfl, rfl, trivial⟩ ?_
    exact hk40 _ _ _ _ Rx2 o36 hZ35 h37
set_option maxHeartbeats 4000000 in
set_option maxRecDepth 100000 in
theorem rj_constant_567 {X : gX} {d : gD} {b t : Nat} {T : Nat → Nat} {F0 : gM} (hC : gC RX12 cX12_constant 10 none "constant" (gR 3 0 0) d b X) {Q : zS → Prop} {k40 : zS → Int → Int → Prop} (hk40 : ∀ (F : gM) (s0 : zS) (x2 : Int) (x3 : Int), zR x2 → zR x3 → zZ d t T F0 F s0 → k40 s0 x2 x3 → gG X d b (zQv X d b t T F0 Q) F 0 0 40 [some (.ref t), none, some (.int (zI x2)), some (.int (zI x3)), none, none, none, none, none, none] []) {F : gM} {s0 : zS} {x2 : Int} {x3 : Int} {x4 : Int} (Rx2 : zR x2) (Rx3 : zR x3) (Rx4 : zR x4) (hZ : zZ d t T F0 F s0) (hw : wr_constant_567 Q k40 s0 x2 x3 x4) : gG X d b (zQv X d b t T F0 Q) F 0 0 567 [some (.ref t), none, some (.int (zI x2)), some (.int (zI x3)), some (.int (zI x4)), none, none, none, none, none] [] := by
  unfold wr_constant_567 at hw
  refine g_aload_n hC dX12_constant_567 rfl ?_
  refine zr_geta hC hZ fl_X12_200 zb_62 (by decide) dX12_constant_568 ?_
  refine g_iload_n hC dX12_constant_571 rfl ?_
  obtain ⟨o1, h2⟩ := hw
  obtain ⟨o3, h4⟩ := h2
  refine zr_iald (v := (za s0 62 (Int.toNat x3))) hC hZ zk_62 zb_62 zn_62 (by decide) o1 o3 rfl dX12_constant_572 ?_
  refine zr_if_ne (tgt := 599) hC (hZ.ra 62 _) dX12_constant_573 (by decide) (fun c5 => ?_) (fun c5 => ?_)
  · have h6 := h4.1 c5
    refine g_aload_n hC dX12_constant_599 rfl ?_
    refine zr_geta hC hZ fl_X12_200 zb_62 (by decide) dX12_constant_600 ?_
    refine g_iload_n hC dX12_constant_603 rfl ?_
    refine g_iconst (v := zI 1) hC dX12_constant_604 rfl ?_
    refine zr_isub hC dX12_constant_605 ?_
    refine g_aload_n hC dX12_constant_606 rfl ?_
    refine zr_geta hC hZ fl_X12_99 zb_29 (by decide) dX12_constant_607 ?_
    refine g_iload hC dX12_constant_610 rfl ?_
    obtain ⟨o7, h8⟩ := h6
    obtain ⟨o9, h10⟩ := h8
    refine zr_iald (v := (za s0 29 (Int.toNat x4))) hC hZ zk_29 zb_29 zn_29 (by decide) o7 o9 rfl dX12_constant_612 ?_
    refine g_aload_n hC dX12_constant_613 rfl ?_
    refine zr_geta hC hZ fl_X12_200 zb_62 (by decide) dX12_constant_614 ?_
    refine g_iload_n hC dX12_constant_617 rfl ?_
    refine g_iconst (v := zI 1) hC dX12_constant_618 rfl ?_
    refine zr_isub hC dX12_constant_619 ?_
    obtain ⟨o11, h12⟩ := h10
    obtain ⟨o13, h14⟩ := h12
    refine zr_iald (v := (za s0 62 (Int.toNat (x3 - 1)))) hC hZ zk_62 zb_62 zn_62 (by decide) o11 o13 rfl dX12_constant_620 ?_
    refine g_aload_n hC dX12_constant_621 rfl ?_
    refine zr_geta hC hZ fl_X12_200 zb_62 (by decide) dX12_constant_622 ?_
    refine g_iload_n hC dX12_constant_625 rfl ?_
    obtain ⟨o15, h16⟩ := h14
    obtain ⟨o17, h18⟩ := h16
    refine zr_iald (v := (za s0 62 (Int.toNat x3))) hC hZ zk_62 zb_62 zn_62 (by decide) o15 o17 rfl dX12_constant_626 ?_
    refine zr_callSi (As := [.int (zI (za s0 29 (Int.toNat x4))), .int (zI (za s0 62 (Int.toNat (x3 - 1)))), .int (zI (za s0 62 (Int.toNat x3)))]) hC hZ (rm_worked X.la d b (hZ.ra 29 _) (hZ.ra 62 _) (hZ.ra 62 _) hZ.rf h18) cl_X12_644 rfl rfl (Nat.le_of_ble_eq_true rfl) ⟨Nat.le_of_ble_eq_true rfl, Nat.le_of_ble_eq_true rfl⟩ dX12_constant_627 (fun r19 s20 F21 R22 hZ23 h24 => ?_)
    obtain ⟨o25, h26⟩ := h24
    obtain ⟨o27, h28⟩ := h26
    refine zr_iast hC hZ23 zk_62 zb_62 zn_62 (by decide) o25 o27 R22 dX12_constant_630 (fun F29 hZ30 => ?_)
    refine g_goto (tgt := 40) hC dX12_constant_631 (by decide) ?_
    refine g_lv (lv' := [some (.ref t), none, some (.int (zI x2)), some (.int (zI x3)), none, none, none, none, none, none]) ⟨rfl, rfl, rfl, trivial⟩ ?_
    exact hk40 _ _ _ _ Rx2 Rx3 hZ30 h28
  · have h31 := h4.2 c5
    refine g_aload_n hC dX12_constant_576 rfl ?_
    refine g_bipush (v := zI 6) hC dX12_constant_577 rfl ?_
    refine g_aload_n hC dX12_constant_579 rfl ?_
    refine g_aload_n hC dX12_constant_580 rfl ?_
    refine zr_geta hC hZ fl_X12_90 zb_26 (by decide) dX12_constant_581 ?_
    refine g_iload hC dX12_constant_584 rfl ?_
    obtain ⟨o32, h33⟩ := h31
    obtain ⟨o34, h35⟩ := h33
    refine zr_iald (v := (za s0 26 (Int.toNat x4))) hC hZ zk_26 zb_26 zn_26 (by decide) o32 o34 rfl dX12_constant_586 ?_
    refine zr_callVi (As := [.int (zI (za s0 26 (Int.toNat x4)))]) hC hZ rfl (rm_place X.la d b (hZ.ra 26 _) hZ.rf h35) cl_X12_613 rfl rfl (Nat.le_of_ble_eq_true rfl) ⟨Nat.le_of_ble_eq_true rfl, Nat.le_of_ble_eq_true rfl⟩ dX12_constant_587 (fun r36 s37 F38 R39 hZ40 h41 => ?_)
    refine zr_callVv (As := [.int (zI 6), .int (zI r36)]) hC hZ40 rfl (rm_fault X.la d b (by decide) R39 hZ40.rf h41) cl_X12_605 rfl rfl (Nat.le_of_ble_eq_true rfl) ⟨Nat.le_of_ble_eq_true rfl, Nat.le_of_ble_eq_true rfl⟩ dX12_constant_590 (fun s43 F44 hZ46 h47 => ?_)
    refine g_aload_n hC dX12_constant_593 rfl ?_
    refine g_iconst (v := zI 0) hC dX12_constant_594 rfl ?_
    refine zr_putZ hC hZ46 fl_X12_187 zb_58 (by decide) (Or.inl rfl) dX12_constant_595 (fun F48 hZ49 => ?_)
    exact zr_vret hC hZ49 h47 dX12_constant_598
set_option maxHeartbeats 4000000 in
set_option maxRecDepth 100000 in
theorem rb_constant_360 {X : gX} {d : gD} {b t : Nat} {T : Nat → Nat} {F0 : gM} (hC : gC RX12 cX12_constant 10 none "constant" (gR 3 0 0) d b X) {Q : zS → Prop} {k40 : zS → Int → Int → Prop} {k360 : zS → Int → Int → Int → Int → Int → Int → Prop} (hk40 : ∀ (F : gM) (s0 : zS) (x2 : Int) (x3 : Int), zR x2 → zR x3 → zZ d t T F0 F s0 → k40 s0 x2 x3 → gG X d b (zQv X d b t T F0 Q) F 0 0 40 [some (.ref t), none, some (.int (zI x2)), some (.int (zI x3)), none, none, none, none, none, none] []) (hk360 : ∀ (F : gM) (s0 : zS) (x2 : Int) (x3 : Int) (x5 : Int) (x7 : Int) (x8 : Int) (x9 : Int), zR x2 → zR x3 → zR x5 → zR x7 → zR x8 → zR x9 → zZ d t T F0 F s0 → k360 s0 x2 x3 x5 x7 x8 x9 → gG X d b (zQv X d b t T F0 Q) F 0 0 360 [some (.ref t), none, some (.int (zI x2)), some (.int (zI x3)), none, some (.int (zI x5)), none, some (.int (zI x7)), some (.int (zI x8)), some (.int (zI x9))] []) {F : gM} {s0 : zS} {x2 : Int} {x3 : Int} {x5 : Int} {x7 : Int} {x8 : Int} {x9 : Int} (Rx2 : zR x2) (Rx3 : zR x3) (Rx5 : zR x5) (Rx7 : zR x7) (Rx8 : zR x8) (Rx9 : zR x9) (hZ : zZ d t T F0 F s0) (hw : wr_constant_360B Q k40 k360 s0 x2 x3 x5 x7 x8 x9) : gG X d b (zQv X d b t T F0 Q) F 0 0 360 [some (.ref t), none, some (.int (zI x2)), some (.int (zI x3)), none, some (.int (zI x5)), none, some (.int (zI x7)), some (.int (zI x8)), some (.int (zI x9))] [] := by
  unfold wr_constant_360B at hw
  refine g_iload hC dX12_constant_360 rfl ?_
  refine g_iload hC dX12_constant_362 rfl ?_
  refine zr_icmp_ge (tgt := 382) hC Rx9 Rx5 dX12_constant_364 (by decide) (fun c1 => ?_) (fun c1 => ?_)
  · have h2 := hw.1 c1
    refine g_aload_n hC dX12_constant_382 rfl ?_
    refine zr_geta hC hZ fl_X12_111 zb_33 (by decide) dX12_constant_383 ?_
    refine g_iload hC dX12_constant_386 rfl ?_
    obtain ⟨o3, h4⟩ := h2
    obtain ⟨o5, h6⟩ := h4
    refine zr_iald (v := (za s0 33 (Int.toNat x8))) hC hZ zk_33 zb_33 zn_33 (by decide) o3 o5 rfl dX12_constant_388 ?_
    refine g_aload_n hC dX12_constant_389 rfl ?_
    refine zr_geta hC hZ fl_X12_200 zb_62 (by decide) dX12_constant_390 ?_
    refine g_iload_n hC dX12_constant_393 rfl ?_
    refine g_iconst (v := zI 2) hC dX12_constant_394 rfl ?_
    refine zr_isub hC dX12_constant_395 ?_
    obtain ⟨o7, h8⟩ := h6
    obtain ⟨o9, h10⟩ := h8
    refine zr_iald (v := (za s0 62 (Int.toNat (x3 - 2)))) hC hZ zk_62 zb_62 zn_62 (by decide) o7 o9 rfl dX12_constant_396 ?_
    refine g_aload_n hC dX12_constant_397 rfl ?_
    refine zr_geta hC hZ fl_X12_200 zb_62 (by decide) dX12_constant_398 ?_
    refine g_iload_n hC dX12_constant_401 rfl ?_
    refine g_iconst (v := zI 1) hC dX12_constant_402 rfl ?_
    refine zr_isub hC dX12_constant_403 ?_
    obtain ⟨o11, h12⟩ := h10
    obtain ⟨o13, h14⟩ := h12
    refine zr_iald (v := (za s0 62 (Int.toNat (x3 - 1)))) hC hZ zk_62 zb_62 zn_62 (by decide) o11 o13 rfl dX12_constant_404 ?_
    refine zr_callSi (As := [.int (zI (za s0 33 (Int.toNat x8))), .int (zI (za s0 62 (Int.toNat (x3 - 2)))), .int (zI (za s0 62 (Int.toNat (x3 - 1))))]) hC hZ (rm_related X.la d b (hZ.ra 33 _) (hZ.ra 62 _) (hZ.ra 62 _) hZ.rf h14) cl_X12_641 rfl rfl (Nat.le_of_ble_eq_true rfl) ⟨Nat.le_of_ble_eq_true rfl, Nat.le_of_ble_eq_true rfl⟩ dX12_constant_405 (fun r15 s16 F17 R18 hZ19 h20 => ?_)
    refine g_istore (lv' := [some (.ref t), none, some (.int (zI x2)), some (.int (zI x3)), none, some (.int (zI x5)), none, some (.int (zI x7)), some (.int (zI x8)), some (.int (zI r15))]) hC dX12_constant_408 (Nat.le_of_ble_eq_true rfl) rfl rfl ?_
    refine g_iload hC dX12_constant_410 rfl ?_
    refine zr_if_eq (tgt := 462) hC R18 dX12_constant_412 (by decide) (fun c21 => ?_) (fun c21 => ?_)
    · have h22 := h20.1 c21
      refine zr_iinc (x := x3) (lv' := [some (.ref t), none, some (.int (zI x2)), some (.int (zI (x3 + (-1)))), none, some (.int (zI x5)), none, some (.int (zI x7)), some (.int (zI x8)), some (.int (zI r15))]) hC dX12_constant_462 rfl rfl rfl ?_
      refine g_aload_n hC dX12_constant_465 rfl ?_
      refine zr_geta hC hZ19 fl_X12_200 zb_62 (by decide) dX12_constant_466 ?_
      refine g_iload_n hC dX12_constant_469 rfl ?_
      refine g_iconst (v := zI 1) hC dX12_constant_470 rfl ?_
      refine zr_isub hC dX12_constant_471 ?_
      refine g_iload hC dX12_constant_472 rfl ?_
      refine zr_if_eq (tgt := 481) hC R18 dX12_constant_474 (by decide) (fun c23 => ?_) (fun c23 => ?_)
      · have h24 := h22.1 c23
        refine g_iconst (v := zI 0) hC dX12_constant_481 rfl ?_
        obtain ⟨o25, h26⟩ := h24
        obtain ⟨o27, h28⟩ := h26
        refine zr_iast hC hZ19 zk_62 zb_62 zn_62 (by decide) o25 o27 (by decide) dX12_constant_482 (fun F29 hZ30 => ?_)
        refine g_goto (tgt := 631) hC dX12_constant_483 (by decide) ?_
        refine g_goto (tgt := 40) hC dX12_constant_631 (by decide) ?_
        obtain ⟨o31, h32⟩ := h28
        refine g_lv (lv' := [some (.ref t), none, some (.int (zI x2)), some (.int (zI (x3 + (-1)))), none, none, none, none, none, none]) ⟨rfl, rfl, rfl, trivial⟩ ?_
        exact hk40 _ _ _ _ Rx2 o31 hZ30 h32
      · have h33 := h22.2 c23
        refine g_iconst (v := zI (-1)) hC dX12_constant_477 rfl ?_
        refine g_goto (tgt := 482) hC dX12_constant_478 (by decide) ?_
        obtain ⟨o34, h35⟩ := h33
        obtain ⟨o36, h37⟩ := h35
        refine zr_iast hC hZ19 zk_62 zb_62 zn_62 (by decide) o34 o36 (by decide) dX12_constant_482 (fun F38 hZ39 => ?_)
        refine g_goto (tgt := 631) hC dX12_constant_483 (by decide) ?_
        refine g_goto (tgt := 40) hC dX12_constant_631 (by decide) ?_
        obtain ⟨o40, h41⟩ := h37
        refine g_lv (lv' := [some (.ref t), none, some (.int (zI x2)), some (.int (zI (x3 + (-1)))), none, none, none, none, none, none]) ⟨rfl, rfl, rfl, trivial⟩ ?_
        exact hk40 _ _ _ _ Rx2 o40 hZ39 h41
    · have h42 := h20.2 c21
      refine g_iload hC dX12_constant_415 rfl ?_
      refine zr_if_lt (tgt := 462) hC Rx7 dX12_constant_417 (by decide) (fun c43 => ?_) (fun c43 => ?_)
      · have h44 := h42.1 c43
        refine zr_iinc (x := x3) (lv' := [some (.ref t), none, some (.int (zI x2)), some (.int (zI (x3 + (-1)))), none, some (.int (zI x5)), none, some (.int (zI x7)), some (.int (zI x8)), some (.int (zI r15))]) hC dX12_constant_462 rfl rfl rfl ?_
        refine g_aload_n hC dX12_constant_465 rfl ?_
        refine zr_geta hC hZ19 fl_X12_200 zb_62 (by decide) dX12_constant_466 ?_
        refine g_iload_n hC dX12_constant_469 rfl ?_
        refine g_iconst (v := zI 1) hC dX12_constant_470 rfl ?_
        refine zr_isub hC dX12_constant_471 ?_
        refine g_iload hC dX12_constant_472 rfl ?_
        refine zr_if_eq (tgt := 481) hC R18 dX12_constant_474 (by decide) (fun c45 => ?_) (fun c45 => ?_)
        · have h46 := h44.1 c45
          refine g_iconst (v := zI 0) hC dX12_constant_481 rfl ?_
          obtain ⟨o47, h48⟩ := h46
          obtain ⟨o49, h50⟩ := h48
          refine zr_iast hC hZ19 zk_62 zb_62 zn_62 (by decide) o47 o49 (by decide) dX12_constant_482 (fun F51 hZ52 => ?_)
          refine g_goto (tgt := 631) hC dX12_constant_483 (by decide) ?_
          refine g_goto (tgt := 40) hC dX12_constant_631 (by decide) ?_
          obtain ⟨o53, h54⟩ := h50
          refine g_lv (lv' := [some (.ref t), none, some (.int (zI x2)), some (.int (zI (x3 + (-1)))), none, none, none, none, none, none]) ⟨rfl, rfl, rfl, trivial⟩ ?_
          exact hk40 _ _ _ _ Rx2 o53 hZ52 h54
        · have h55 := h44.2 c45
          refine g_iconst (v := zI (-1)) hC dX12_constant_477 rfl ?_
          refine g_goto (tgt := 482) hC dX12_constant_478 (by decide) ?_
          obtain ⟨o56, h57⟩ := h55
          obtain ⟨o58, h59⟩ := h57
          refine zr_iast hC hZ19 zk_62 zb_62 zn_62 (by decide) o56 o58 (by decide) dX12_constant_482 (fun F60 hZ61 => ?_)
          refine g_goto (tgt := 631) hC dX12_constant_483 (by decide) ?_
          refine g_goto (tgt := 40) hC dX12_constant_631 (by decide) ?_
          obtain ⟨o62, h63⟩ := h59
          refine g_lv (lv' := [some (.ref t), none, some (.int (zI x2)), some (.int (zI (x3 + (-1)))), none, none, none, none, none, none]) ⟨rfl, rfl, rfl, trivial⟩ ?_
          exact hk40 _ _ _ _ Rx2 o62 hZ61 h63
      · have h64 := h42.2 c43
        refine g_aload_n hC dX12_constant_420 rfl ?_
        refine zr_geta hC hZ19 fl_X12_200 zb_62 (by decide) dX12_constant_421 ?_
        refine g_iload_n hC dX12_constant_424 rfl ?_
        refine g_iconst (v := zI 2) hC dX12_constant_425 rfl ?_
        refine zr_isub hC dX12_constant_426 ?_
        refine g_aload_n hC dX12_constant_427 rfl ?_
        refine zr_geta hC hZ19 fl_X12_200 zb_62 (by decide) dX12_constant_428 ?_
        refine g_iload_n hC dX12_constant_431 rfl ?_
        refine g_iconst (v := zI 1) hC dX12_constant_432 rfl ?_
        refine zr_isub hC dX12_constant_433 ?_
        obtain ⟨o65, h66⟩ := h64
        obtain ⟨o67, h68⟩ := h66
        refine zr_iald (v := (za s16 62 (Int.toNat (x3 - 1)))) hC hZ19 zk_62 zb_62 zn_62 (by decide) o65 o67 rfl dX12_constant_434 ?_
        obtain ⟨o69, h70⟩ := h68
        obtain ⟨o71, h72⟩ := h70
        refine zr_iast hC hZ19 zk_62 zb_62 zn_62 (by decide) o69 o71 (hZ19.ra 62 _) dX12_constant_435 (fun F73 hZ74 => ?_)
        refine zr_iinc (x := x3) (lv' := [some (.ref t), none, some (.int (zI x2)), some (.int (zI (x3 + (-1)))), none, some (.int (zI x5)), none, some (.int (zI x7)), some (.int (zI x8)), some (.int (zI r15))]) hC dX12_constant_436 rfl rfl rfl ?_
        refine g_aload_n hC dX12_constant_439 rfl ?_
        refine zr_geta hC hZ74 fl_X12_197 zb_61 (by decide) dX12_constant_440 ?_
        refine g_iload_n hC dX12_constant_443 rfl ?_
        refine g_iload hC dX12_constant_444 rfl ?_
        refine g_iconst (v := zI 1) hC dX12_constant_446 rfl ?_
        refine zr_iadd hC dX12_constant_447 ?_
        obtain ⟨o75, h76⟩ := h72
        obtain ⟨o77, h78⟩ := h76
        obtain ⟨o79, h80⟩ := h78
        refine zr_iast hC hZ74 zk_61 zb_61 zn_61 (by decide) o75 o77 o79 dX12_constant_448 (fun F81 hZ82 => ?_)
        refine g_aload_n hC dX12_constant_449 rfl ?_
        refine g_iload_n hC dX12_constant_450 rfl ?_
        refine g_iconst (v := zI 1) hC dX12_constant_451 rfl ?_
        refine zr_iadd hC dX12_constant_452 ?_
        refine g_iload hC dX12_constant_453 rfl ?_
        obtain ⟨o83, h84⟩ := h80
        refine zr_callVi (As := [.int (zI (x2 + 1)), .int (zI x7)]) hC hZ82 rfl (rm_later X.la d b o83 Rx7 hZ82.rf h84) cl_X12_635 rfl rfl (Nat.le_of_ble_eq_true rfl) ⟨Nat.le_of_ble_eq_true rfl, Nat.le_of_ble_eq_true rfl⟩ dX12_constant_455 (fun r85 s86 F87 R88 hZ89 h90 => ?_)
        refine g_istore_n (lv' := [some (.ref t), none, some (.int (zI r85)), some (.int (zI (x3 + (-1)))), none, some (.int (zI x5)), none, some (.int (zI x7)), some (.int (zI x8)), some (.int (zI r15))]) hC dX12_constant_458 (Nat.le_of_ble_eq_true rfl) rfl rfl ?_
        refine g_goto (tgt := 483) hC dX12_constant_459 (by decide) ?_
        refine g_goto (tgt := 631) hC dX12_constant_483 (by decide) ?_
        refine g_goto (tgt := 40) hC dX12_constant_631 (by decide) ?_
        obtain ⟨o91, h92⟩ := h90
        refine g_lv (lv' := [some (.ref t), none, some (.int (zI r85)), some (.int (zI (x3 + (-1)))), none, none, none, none, none, none]) ⟨rfl, rfl, rfl, trivial⟩ ?_
        exact hk40 _ _ _ _ R88 o91 hZ89 h92
  · have h93 := hw.2 c1
    refine g_aload_n hC dX12_constant_367 rfl ?_
    refine zr_geta hC hZ fl_X12_96 zb_28 (by decide) dX12_constant_368 ?_
    refine g_iload hC dX12_constant_371 rfl ?_
    obtain ⟨o94, h95⟩ := h93
    obtain ⟨o96, h97⟩ := h95
    refine zr_iald (v := (za s0 28 (Int.toNat x8))) hC hZ zk_28 zb_28 zn_28 (by decide) o94 o96 rfl dX12_constant_373 ?_
    refine g_istore (lv' := [some (.ref t), none, some (.int (zI x2)), some (.int (zI x3)), none, some (.int (zI x5)), none, some (.int (zI x7)), some (.int (zI (za s0 28 (Int.toNat x8)))), some (.int (zI x9))]) hC dX12_constant_374 (Nat.le_of_ble_eq_true rfl) rfl rfl ?_
    refine zr_iinc (x := x9) (lv' := [some (.ref t), none, some (.int (zI x2)), some (.int (zI x3)), none, some (.int (zI x5)), none, some (.int (zI x7)), some (.int (zI (za s0 28 (Int.toNat x8)))), some (.int (zI (x9 + 1)))]) hC dX12_constant_376 rfl rfl rfl ?_
    refine g_goto (tgt := 360) hC dX12_constant_379 (by decide) ?_
    obtain ⟨o98, h99⟩ := h97
    exact hk360 _ _ _ _ _ _ _ _ Rx2 Rx3 Rx5 Rx7 (hZ.ra 28 _) o98 hZ h99
theorem rl_constant_360 {X : gX} {d : gD} {b t : Nat} {T : Nat → Nat} {F0 : gM} (hC : gC RX12 cX12_constant 10 none "constant" (gR 3 0 0) d b X) {Q : zS → Prop} {k40 : zS → Int → Int → Prop} (hk40 : ∀ (F : gM) (s0 : zS) (x2 : Int) (x3 : Int), zR x2 → zR x3 → zZ d t T F0 F s0 → k40 s0 x2 x3 → gG X d b (zQv X d b t T F0 Q) F 0 0 40 [some (.ref t), none, some (.int (zI x2)), some (.int (zI x3)), none, none, none, none, none, none] []) : ∀ (m : Nat) (F : gM) (s0 : zS) (x2 : Int) (x3 : Int) (x5 : Int) (x7 : Int) (x8 : Int) (x9 : Int), zR x2 → zR x3 → zR x5 → zR x7 → zR x8 → zR x9 → zZ d t T F0 F s0 → wr_constant_360 Q k40 m s0 x2 x3 x5 x7 x8 x9 → gG X d b (zQv X d b t T F0 Q) F 0 0 360 [some (.ref t), none, some (.int (zI x2)), some (.int (zI x3)), none, some (.int (zI x5)), none, some (.int (zI x7)), some (.int (zI x8)), some (.int (zI x9))] [] := by
  intro m
  induction m with
  | zero => intro F s0 x2 x3 x5 x7 x8 x9 Rx2 Rx3 Rx5 Rx7 Rx8 Rx9 hZ hw; exact False.elim hw
  | succ m ih => intro F s0 x2 x3 x5 x7 x8 x9 Rx2 Rx3 Rx5 Rx7 Rx8 Rx9 hZ hw; exact rb_constant_360 hC hk40 ih Rx2 Rx3 Rx5 Rx7 Rx8 Rx9 hZ hw
set_option maxHeartbeats 4000000 in
set_option maxRecDepth 100000 in
theorem rb_constant_297 {X : gX} {d : gD} {b t : Nat} {T : Nat → Nat} {F0 : gM} (hC : gC RX12 cX12_constant 10 none "constant" (gR 3 0 0) d b X) {Q : zS → Prop} {k40 : zS → Int → Int → Prop} {k297 : zS → Int → Int → Int → Int → Int → Int → Prop} (hk40 : ∀ (F : gM) (s0 : zS) (x2 : Int) (x3 : Int), zR x2 → zR x3 → zZ d t T F0 F s0 → k40 s0 x2 x3 → gG X d b (zQv X d b t T F0 Q) F 0 0 40 [some (.ref t), none, some (.int (zI x2)), some (.int (zI x3)), none, none, none, none, none, none] []) (hk297 : ∀ (F : gM) (s0 : zS) (x2 : Int) (x3 : Int) (x4 : Int) (x5 : Int) (x7 : Int) (x8 : Int), zR x2 → zR x3 → zR x4 → zR x5 → zR x7 → zR x8 → zZ d t T F0 F s0 → k297 s0 x2 x3 x4 x5 x7 x8 → gG X d b (zQv X d b t T F0 Q) F 0 0 297 [some (.ref t), none, some (.int (zI x2)), some (.int (zI x3)), some (.int (zI x4)), some (.int (zI x5)), none, some (.int (zI x7)), some (.int (zI x8)), none] []) {F : gM} {s0 : zS} {x2 : Int} {x3 : Int} {x4 : Int} {x5 : Int} {x7 : Int} {x8 : Int} (Rx2 : zR x2) (Rx3 : zR x3) (Rx4 : zR x4) (Rx5 : zR x5) (Rx7 : zR x7) (Rx8 : zR x8) (hZ : zZ d t T F0 F s0) (hw : wr_constant_297B Q k40 k297 s0 x2 x3 x4 x5 x7 x8) : gG X d b (zQv X d b t T F0 Q) F 0 0 297 [some (.ref t), none, some (.int (zI x2)), some (.int (zI x3)), some (.int (zI x4)), some (.int (zI x5)), none, some (.int (zI x7)), some (.int (zI x8)), none] [] := by
  unfold wr_constant_297B at hw
  refine g_iload hC dX12_constant_297 rfl ?_
  refine g_iload hC dX12_constant_299 rfl ?_
  refine zr_icmp_ge (tgt := 319) hC Rx8 Rx5 dX12_constant_301 (by decide) (fun c1 => ?_) (fun c1 => ?_)
  · have h2 := hw.1 c1
    refine g_iload hC dX12_constant_319 rfl ?_
    refine g_iconst (v := zI 2) hC dX12_constant_321 rfl ?_
    refine zr_icmp_ge (tgt := 348) hC Rx5 (by decide) dX12_constant_322 (by decide) (fun c3 => ?_) (fun c3 => ?_)
    · have h4 := h2.1 c3
      refine g_aload_n hC dX12_constant_348 rfl ?_
      refine zr_geta hC hZ fl_X12_93 zb_27 (by decide) dX12_constant_349 ?_
      refine g_iload hC dX12_constant_352 rfl ?_
      obtain ⟨o5, h6⟩ := h4
      obtain ⟨o7, h8⟩ := h6
      refine zr_iald (v := (za s0 27 (Int.toNat x4))) hC hZ zk_27 zb_27 zn_27 (by decide) o5 o7 rfl dX12_constant_354 ?_
      refine g_istore (lv' := [some (.ref t), none, some (.int (zI x2)), some (.int (zI x3)), some (.int (zI x4)), some (.int (zI x5)), none, some (.int (zI x7)), some (.int (zI (za s0 27 (Int.toNat x4)))), none]) hC dX12_constant_355 (Nat.le_of_ble_eq_true rfl) rfl rfl ?_
      refine g_iconst (v := zI 1) hC dX12_constant_357 rfl ?_
      refine g_istore (lv' := [some (.ref t), none, some (.int (zI x2)), some (.int (zI x3)), some (.int (zI x4)), some (.int (zI x5)), none, some (.int (zI x7)), some (.int (zI (za s0 27 (Int.toNat x4)))), some (.int (zI 1))]) hC dX12_constant_358 (Nat.le_of_ble_eq_true rfl) rfl rfl ?_
      refine g_lv (lv' := [some (.ref t), none, some (.int (zI x2)), some (.int (zI x3)), none, some (.int (zI x5)), none, some (.int (zI x7)), some (.int (zI (za s0 27 (Int.toNat x4)))), some (.int (zI 1))]) ⟨rfl, rfl, rfl, rfl, rfl, rfl, rfl, trivial⟩ ?_
      obtain ⟨m9, h10⟩ := h8
      exact rl_constant_360 hC hk40 m9 _ _ _ _ _ _ _ _ Rx2 Rx3 Rx5 Rx7 (hZ.ra 27 _) (by decide) hZ h10
    · have h11 := h2.2 c3
      refine g_aload_n hC dX12_constant_325 rfl ?_
      refine zr_geta hC hZ fl_X12_197 zb_61 (by decide) dX12_constant_326 ?_
      refine g_iload_n hC dX12_constant_329 rfl ?_
      refine g_iload hC dX12_constant_330 rfl ?_
      refine g_iconst (v := zI 1) hC dX12_constant_332 rfl ?_
      refine zr_iadd hC dX12_constant_333 ?_
      obtain ⟨o12, h13⟩ := h11
      obtain ⟨o14, h15⟩ := h13
      obtain ⟨o16, h17⟩ := h15
      refine zr_iast hC hZ zk_61 zb_61 zn_61 (by decide) o12 o14 o16 dX12_constant_334 (fun F18 hZ19 => ?_)
      refine g_aload_n hC dX12_constant_335 rfl ?_
      refine g_iload_n hC dX12_constant_336 rfl ?_
      refine g_iconst (v := zI 1) hC dX12_constant_337 rfl ?_
      refine zr_iadd hC dX12_constant_338 ?_
      refine g_iload hC dX12_constant_339 rfl ?_
      obtain ⟨o20, h21⟩ := h17
      refine zr_callVi (As := [.int (zI (x2 + 1)), .int (zI x7)]) hC hZ19 rfl (rm_later X.la d b o20 Rx7 hZ19.rf h21) cl_X12_635 rfl rfl (Nat.le_of_ble_eq_true rfl) ⟨Nat.le_of_ble_eq_true rfl, Nat.le_of_ble_eq_true rfl⟩ dX12_constant_341 (fun r22 s23 F24 R25 hZ26 h27 => ?_)
      refine g_istore_n (lv' := [some (.ref t), none, some (.int (zI r22)), some (.int (zI x3)), some (.int (zI x4)), some (.int (zI x5)), none, some (.int (zI x7)), some (.int (zI x8)), none]) hC dX12_constant_344 (Nat.le_of_ble_eq_true rfl) rfl rfl ?_
      refine g_goto (tgt := 483) hC dX12_constant_345 (by decide) ?_
      refine g_goto (tgt := 631) hC dX12_constant_483 (by decide) ?_
      refine g_goto (tgt := 40) hC dX12_constant_631 (by decide) ?_
      refine g_lv (lv' := [some (.ref t), none, some (.int (zI r22)), some (.int (zI x3)), none, none, none, none, none, none]) ⟨rfl, rfl, rfl, trivial⟩ ?_
      exact hk40 _ _ _ _ R25 Rx3 hZ26 h27
  · have h28 := hw.2 c1
    refine g_aload_n hC dX12_constant_304 rfl ?_
    refine zr_geta hC hZ fl_X12_96 zb_28 (by decide) dX12_constant_305 ?_
    refine g_iload hC dX12_constant_308 rfl ?_
    obtain ⟨o29, h30⟩ := h28
    obtain ⟨o31, h32⟩ := h30
    refine zr_iald (v := (za s0 28 (Int.toNat x7))) hC hZ zk_28 zb_28 zn_28 (by decide) o29 o31 rfl dX12_constant_310 ?_
    refine g_istore (lv' := [some (.ref t), none, some (.int (zI x2)), some (.int (zI x3)), some (.int (zI x4)), some (.int (zI x5)), none, some (.int (zI (za s0 28 (Int.toNat x7)))), some (.int (zI x8)), none]) hC dX12_constant_311 (Nat.le_of_ble_eq_true rfl) rfl rfl ?_
    refine zr_iinc (x := x8) (lv' := [some (.ref t), none, some (.int (zI x2)), some (.int (zI x3)), some (.int (zI x4)), some (.int (zI x5)), none, some (.int (zI (za s0 28 (Int.toNat x7)))), some (.int (zI (x8 + 1))), none]) hC dX12_constant_313 rfl rfl rfl ?_
    refine g_goto (tgt := 297) hC dX12_constant_316 (by decide) ?_
    obtain ⟨o33, h34⟩ := h32
    exact hk297 _ _ _ _ _ _ _ _ Rx2 Rx3 Rx4 Rx5 (hZ.ra 28 _) o33 hZ h34
theorem rl_constant_297 {X : gX} {d : gD} {b t : Nat} {T : Nat → Nat} {F0 : gM} (hC : gC RX12 cX12_constant 10 none "constant" (gR 3 0 0) d b X) {Q : zS → Prop} {k40 : zS → Int → Int → Prop} (hk40 : ∀ (F : gM) (s0 : zS) (x2 : Int) (x3 : Int), zR x2 → zR x3 → zZ d t T F0 F s0 → k40 s0 x2 x3 → gG X d b (zQv X d b t T F0 Q) F 0 0 40 [some (.ref t), none, some (.int (zI x2)), some (.int (zI x3)), none, none, none, none, none, none] []) : ∀ (m : Nat) (F : gM) (s0 : zS) (x2 : Int) (x3 : Int) (x4 : Int) (x5 : Int) (x7 : Int) (x8 : Int), zR x2 → zR x3 → zR x4 → zR x5 → zR x7 → zR x8 → zZ d t T F0 F s0 → wr_constant_297 Q k40 m s0 x2 x3 x4 x5 x7 x8 → gG X d b (zQv X d b t T F0 Q) F 0 0 297 [some (.ref t), none, some (.int (zI x2)), some (.int (zI x3)), some (.int (zI x4)), some (.int (zI x5)), none, some (.int (zI x7)), some (.int (zI x8)), none] [] := by
  intro m
  induction m with
  | zero => intro F s0 x2 x3 x4 x5 x7 x8 Rx2 Rx3 Rx4 Rx5 Rx7 Rx8 hZ hw; exact False.elim hw
  | succ m ih => intro F s0 x2 x3 x4 x5 x7 x8 Rx2 Rx3 Rx4 Rx5 Rx7 Rx8 hZ hw; exact rb_constant_297 hC hk40 ih Rx2 Rx3 Rx4 Rx5 Rx7 Rx8 hZ hw
set_option maxHeartbeats 4000000 in
set_option maxRecDepth 100000 in
theorem rb_constant_40 {X : gX} {d : gD} {b t : Nat} {T : Nat → Nat} {F0 : gM} (hC : gC RX12 cX12_constant 10 none "constant" (gR 3 0 0) d b X) {Q : zS → Prop} {k40 : zS → Int → Int → Prop} (hk40 : ∀ (F : gM) (s0 : zS) (x2 : Int) (x3 : Int), zR x2 → zR x3 → zZ d t T F0 F s0 → k40 s0 x2 x3 → gG X d b (zQv X d b t T F0 Q) F 0 0 40 [some (.ref t), none, some (.int (zI x2)), some (.int (zI x3)), none, none, none, none, none, none] []) {F : gM} {s0 : zS} {x2 : Int} {x3 : Int} (Rx2 : zR x2) (Rx3 : zR x3) (hZ : zZ d t T F0 F s0) (hw : wr_constant_40B Q k40 s0 x2 x3) : gG X d b (zQv X d b t T F0 Q) F 0 0 40 [some (.ref t), none, some (.int (zI x2)), some (.int (zI x3)), none, none, none, none, none, none] [] := by
  unfold wr_constant_40B at hw
  refine g_iload_n hC dX12_constant_40 rfl ?_
  refine zr_if_le (tgt := 634) hC Rx2 dX12_constant_41 (by decide) (fun c1 => ?_) (fun c1 => ?_)
  · have h2 := hw.1 c1
    refine g_aload_n hC dX12_constant_634 rfl ?_
    refine g_aload_n hC dX12_constant_635 rfl ?_
    refine zr_geta hC hZ fl_X12_200 zb_62 (by decide) dX12_constant_636 ?_
    refine g_iconst (v := zI 0) hC dX12_constant_639 rfl ?_
    refine zr_iald (v := (za s0 62 (Int.toNat 0))) hC hZ zk_62 zb_62 zn_62 (by decide) (by decide) (by decide) rfl dX12_constant_640 ?_
    refine zr_put hC hZ fl_X12_191 zb_59 (by decide) (hZ.ra 62 _) dX12_constant_641 (fun F3 hZ4 => ?_)
    exact zr_vret hC hZ4 h2 dX12_constant_644
  · have h5 := hw.2 c1
    refine zr_iinc (x := x2) (lv' := [some (.ref t), none, some (.int (zI (x2 + (-1)))), some (.int (zI x3)), none, none, none, none, none, none]) hC dX12_constant_44 rfl rfl rfl ?_
    refine g_aload_n hC dX12_constant_47 rfl ?_
    refine zr_geta hC hZ fl_X12_194 zb_60 (by decide) dX12_constant_48 ?_
    refine g_iload_n hC dX12_constant_51 rfl ?_
    obtain ⟨o6, h7⟩ := h5
    obtain ⟨o8, h9⟩ := h7
    refine zr_iald (v := (za s0 60 (Int.toNat (x2 + (-1))))) hC hZ zk_60 zb_60 zn_60 (by decide) o6 o8 rfl dX12_constant_52 ?_
    refine g_istore (lv' := [some (.ref t), none, some (.int (zI (x2 + (-1)))), some (.int (zI x3)), some (.int (zI (za s0 60 (Int.toNat (x2 + (-1)))))), none, none, none, none, none]) hC dX12_constant_53 (Nat.le_of_ble_eq_true rfl) rfl rfl ?_
    refine g_aload_n hC dX12_constant_55 rfl ?_
    refine zr_geta hC hZ fl_X12_197 zb_61 (by decide) dX12_constant_56 ?_
    refine g_iload_n hC dX12_constant_59 rfl ?_
    obtain ⟨o10, h11⟩ := h9
    obtain ⟨o12, h13⟩ := h11
    refine zr_iald (v := (za s0 61 (Int.toNat (x2 + (-1))))) hC hZ zk_61 zb_61 zn_61 (by decide) o10 o12 rfl dX12_constant_60 ?_
    refine g_istore (lv' := [some (.ref t), none, some (.int (zI (x2 + (-1)))), some (.int (zI x3)), some (.int (zI (za s0 60 (Int.toNat (x2 + (-1)))))), some (.int (zI (za s0 61 (Int.toNat (x2 + (-1)))))), none, none, none, none]) hC dX12_constant_61 (Nat.le_of_ble_eq_true rfl) rfl rfl ?_
    refine g_aload_n hC dX12_constant_63 rfl ?_
    refine zr_geta hC hZ fl_X12_87 zb_25 (by decide) dX12_constant_64 ?_
    refine g_iload hC dX12_constant_67 rfl ?_
    obtain ⟨o14, h15⟩ := h13
    obtain ⟨o16, h17⟩ := h15
    refine zr_bald (v := (za s0 25 (Int.toNat (za s0 60 (Int.toNat (x2 + (-1))))))) hC hZ zk_25 zb_25 zn_25 (by decide) o14 o16 rfl dX12_constant_69 ?_
    refine g_istore (lv' := [some (.ref t), none, some (.int (zI (x2 + (-1)))), some (.int (zI x3)), some (.int (zI (za s0 60 (Int.toNat (x2 + (-1)))))), some (.int (zI (za s0 61 (Int.toNat (x2 + (-1)))))), some (.int (zI (za s0 25 (Int.toNat (za s0 60 (Int.toNat (x2 + (-1)))))))), none, none, none]) hC dX12_constant_70 (Nat.le_of_ble_eq_true rfl) rfl rfl ?_
    refine g_iload hC dX12_constant_72 rfl ?_
    refine g_iconst (v := zI 2) hC dX12_constant_74 rfl ?_
    refine zr_icmp_eq (tgt := 84) hC (hZ.ra 25 _) (by decide) dX12_constant_75 (by decide) (fun c18 => ?_) (fun c18 => ?_)
    · have h19 := h17.1 c18
      refine g_lv (lv' := [some (.ref t), none, some (.int (zI (x2 + (-1)))), some (.int (zI x3)), some (.int (zI (za s0 60 (Int.toNat (x2 + (-1)))))), none, some (.int (zI (za s0 25 (Int.toNat (za s0 60 (Int.toNat (x2 + (-1)))))))), none, none, none]) ⟨rfl, rfl, rfl, rfl, rfl, trivial⟩ ?_
      exact rj_constant_84 hC hk40 ⟨by omega, by omega⟩ Rx3 (hZ.ra 60 _) (hZ.ra 25 _) hZ h19
    · have h20 := h17.2 c18
      refine g_iload hC dX12_constant_78 rfl ?_
      refine g_iconst (v := zI 1) hC dX12_constant_80 rfl ?_
      refine zr_icmp_ne (tgt := 128) hC (hZ.ra 25 _) (by decide) dX12_constant_81 (by decide) (fun c21 => ?_) (fun c21 => ?_)
      · have h22 := h20.1 c21
        refine g_iload hC dX12_constant_128 rfl ?_
        refine g_bipush (v := zI 12) hC dX12_constant_130 rfl ?_
        refine zr_icmp_ne (tgt := 212) hC (hZ.ra 25 _) (by decide) dX12_constant_132 (by decide) (fun c23 => ?_) (fun c23 => ?_)
        · have h24 := h22.1 c23
          refine g_iload hC dX12_constant_212 rfl ?_
          refine g_bipush (v := zI 10) hC dX12_constant_214 rfl ?_
          refine zr_icmp_ne (tgt := 278) hC (hZ.ra 25 _) (by decide) dX12_constant_216 (by decide) (fun c25 => ?_) (fun c25 => ?_)
          · have h26 := h24.1 c25
            refine g_iload hC dX12_constant_278 rfl ?_
            refine g_bipush (v := zI 11) hC dX12_constant_280 rfl ?_
            refine zr_icmp_ne (tgt := 486) hC (hZ.ra 25 _) (by decide) dX12_constant_282 (by decide) (fun c27 => ?_) (fun c27 => ?_)
            · have h28 := h26.1 c27
              refine g_iload hC dX12_constant_486 rfl ?_
              refine g_iconst (v := zI 2) hC dX12_constant_488 rfl ?_
              refine zr_icmp_ge (tgt := 540) hC (hZ.ra 61 _) (by decide) dX12_constant_489 (by decide) (fun c29 => ?_) (fun c29 => ?_)
              · have h30 := h28.1 c29
                refine zr_iinc (x := x3) (lv' := [some (.ref t), none, some (.int (zI (x2 + (-1)))), some (.int (zI (x3 + (-1)))), some (.int (zI (za s0 60 (Int.toNat (x2 + (-1)))))), some (.int (zI (za s0 61 (Int.toNat (x2 + (-1)))))), some (.int (zI (za s0 25 (Int.toNat (za s0 60 (Int.toNat (x2 + (-1)))))))), none, none, none]) hC dX12_constant_540 rfl rfl rfl ?_
                refine g_aload_n hC dX12_constant_543 rfl ?_
                refine zr_geta hC hZ fl_X12_99 zb_29 (by decide) dX12_constant_544 ?_
                refine g_iload hC dX12_constant_547 rfl ?_
                obtain ⟨o31, h32⟩ := h30
                obtain ⟨o33, h34⟩ := h32
                refine zr_iald (v := (za s0 29 (Int.toNat (za s0 60 (Int.toNat (x2 + (-1))))))) hC hZ zk_29 zb_29 zn_29 (by decide) o31 o33 rfl dX12_constant_549 ?_
                refine g_bipush (v := zI 24) hC dX12_constant_550 rfl ?_
                refine zr_icmp_eq (tgt := 567) hC (hZ.ra 29 _) (by decide) dX12_constant_552 (by decide) (fun c35 => ?_) (fun c35 => ?_)
                · have h36 := h34.1 c35
                  obtain ⟨o37, h38⟩ := h36
                  refine g_lv (lv' := [some (.ref t), none, some (.int (zI (x2 + (-1)))), some (.int (zI (x3 + (-1)))), some (.int (zI (za s0 60 (Int.toNat (x2 + (-1)))))), none, none, none, none, none]) ⟨rfl, rfl, rfl, rfl, trivial⟩ ?_
                  exact rj_constant_567 hC hk40 ⟨by omega, by omega⟩ o37 (hZ.ra 60 _) hZ h38
                · have h39 := h34.2 c35
                  refine g_aload_n hC dX12_constant_555 rfl ?_
                  refine zr_geta hC hZ fl_X12_99 zb_29 (by decide) dX12_constant_556 ?_
                  refine g_iload hC dX12_constant_559 rfl ?_
                  obtain ⟨o40, h41⟩ := h39
                  obtain ⟨o42, h43⟩ := h41
                  refine zr_iald (v := (za s0 29 (Int.toNat (za s0 60 (Int.toNat (x2 + (-1))))))) hC hZ zk_29 zb_29 zn_29 (by decide) o40 o42 rfl dX12_constant_561 ?_
                  refine g_bipush (v := zI 73) hC dX12_constant_562 rfl ?_
                  refine zr_icmp_ne (tgt := 599) hC (hZ.ra 29 _) (by decide) dX12_constant_564 (by decide) (fun c44 => ?_) (fun c44 => ?_)
                  · have h45 := h43.1 c44
                    refine g_aload_n hC dX12_constant_599 rfl ?_
                    refine zr_geta hC hZ fl_X12_200 zb_62 (by decide) dX12_constant_600 ?_
                    refine g_iload_n hC dX12_constant_603 rfl ?_
                    refine g_iconst (v := zI 1) hC dX12_constant_604 rfl ?_
                    refine zr_isub hC dX12_constant_605 ?_
                    refine g_aload_n hC dX12_constant_606 rfl ?_
                    refine zr_geta hC hZ fl_X12_99 zb_29 (by decide) dX12_constant_607 ?_
                    refine g_iload hC dX12_constant_610 rfl ?_
                    obtain ⟨o46, h47⟩ := h45
                    obtain ⟨o48, h49⟩ := h47
                    refine zr_iald (v := (za s0 29 (Int.toNat (za s0 60 (Int.toNat (x2 + (-1))))))) hC hZ zk_29 zb_29 zn_29 (by decide) o46 o48 rfl dX12_constant_612 ?_
                    refine g_aload_n hC dX12_constant_613 rfl ?_
                    refine zr_geta hC hZ fl_X12_200 zb_62 (by decide) dX12_constant_614 ?_
                    refine g_iload_n hC dX12_constant_617 rfl ?_
                    refine g_iconst (v := zI 1) hC dX12_constant_618 rfl ?_
                    refine zr_isub hC dX12_constant_619 ?_
                    obtain ⟨o50, h51⟩ := h49
                    obtain ⟨o52, h53⟩ := h51
                    refine zr_iald (v := (za s0 62 (Int.toNat ((x3 + (-1)) - 1)))) hC hZ zk_62 zb_62 zn_62 (by decide) o50 o52 rfl dX12_constant_620 ?_
                    refine g_aload_n hC dX12_constant_621 rfl ?_
                    refine zr_geta hC hZ fl_X12_200 zb_62 (by decide) dX12_constant_622 ?_
                    refine g_iload_n hC dX12_constant_625 rfl ?_
                    obtain ⟨o54, h55⟩ := h53
                    obtain ⟨o56, h57⟩ := h55
                    refine zr_iald (v := (za s0 62 (Int.toNat (x3 + (-1))))) hC hZ zk_62 zb_62 zn_62 (by decide) o54 o56 rfl dX12_constant_626 ?_
                    refine zr_callSi (As := [.int (zI (za s0 29 (Int.toNat (za s0 60 (Int.toNat (x2 + (-1))))))), .int (zI (za s0 62 (Int.toNat ((x3 + (-1)) - 1)))), .int (zI (za s0 62 (Int.toNat (x3 + (-1)))))]) hC hZ (rm_worked X.la d b (hZ.ra 29 _) (hZ.ra 62 _) (hZ.ra 62 _) hZ.rf h57) cl_X12_644 rfl rfl (Nat.le_of_ble_eq_true rfl) ⟨Nat.le_of_ble_eq_true rfl, Nat.le_of_ble_eq_true rfl⟩ dX12_constant_627 (fun r58 s59 F60 R61 hZ62 h63 => ?_)
                    obtain ⟨o64, h65⟩ := h63
                    obtain ⟨o66, h67⟩ := h65
                    refine zr_iast hC hZ62 zk_62 zb_62 zn_62 (by decide) o64 o66 R61 dX12_constant_630 (fun F68 hZ69 => ?_)
                    refine g_goto (tgt := 40) hC dX12_constant_631 (by decide) ?_
                    refine g_lv (lv' := [some (.ref t), none, some (.int (zI (x2 + (-1)))), some (.int (zI (x3 + (-1)))), none, none, none, none, none, none]) ⟨rfl, rfl, rfl, trivial⟩ ?_
                    exact hk40 _ _ _ _ ⟨by omega, by omega⟩ ⟨by omega, by omega⟩ hZ69 h67
                  · have h70 := h43.2 c44
                    obtain ⟨o71, h72⟩ := h70
                    refine g_lv (lv' := [some (.ref t), none, some (.int (zI (x2 + (-1)))), some (.int (zI (x3 + (-1)))), some (.int (zI (za s0 60 (Int.toNat (x2 + (-1)))))), none, none, none, none, none]) ⟨rfl, rfl, rfl, rfl, trivial⟩ ?_
                    exact rj_constant_567 hC hk40 ⟨by omega, by omega⟩ o71 (hZ.ra 60 _) hZ h72
              · have h73 := h28.2 c29
                refine g_aload_n hC dX12_constant_492 rfl ?_
                refine zr_geta hC hZ fl_X12_197 zb_61 (by decide) dX12_constant_493 ?_
                refine g_iload_n hC dX12_constant_496 rfl ?_
                refine g_iload hC dX12_constant_497 rfl ?_
                refine g_iconst (v := zI 1) hC dX12_constant_499 rfl ?_
                refine zr_iadd hC dX12_constant_500 ?_
                obtain ⟨o74, h75⟩ := h73
                obtain ⟨o76, h77⟩ := h75
                obtain ⟨o78, h79⟩ := h77
                refine zr_iast hC hZ zk_61 zb_61 zn_61 (by decide) o74 o76 o78 dX12_constant_501 (fun F80 hZ81 => ?_)
                refine g_aload_n hC dX12_constant_502 rfl ?_
                refine g_iload_n hC dX12_constant_503 rfl ?_
                refine g_iconst (v := zI 1) hC dX12_constant_504 rfl ?_
                refine zr_iadd hC dX12_constant_505 ?_
                refine g_iload hC dX12_constant_506 rfl ?_
                refine zr_if_ne (tgt := 521) hC (hZ.ra 61 _) dX12_constant_508 (by decide) (fun c82 => ?_) (fun c82 => ?_)
                · have h83 := h79.1 c82
                  refine g_aload_n hC dX12_constant_521 rfl ?_
                  refine zr_geta hC hZ81 fl_X12_96 zb_28 (by decide) dX12_constant_522 ?_
                  refine g_aload_n hC dX12_constant_525 rfl ?_
                  refine zr_geta hC hZ81 fl_X12_93 zb_27 (by decide) dX12_constant_526 ?_
                  refine g_iload hC dX12_constant_529 rfl ?_
                  obtain ⟨o84, h85⟩ := h83
                  obtain ⟨o86, h87⟩ := h85
                  refine zr_iald (v := (za s0 27 (Int.toNat (za s0 60 (Int.toNat (x2 + (-1))))))) hC hZ81 zk_27 zb_27 zn_27 (by decide) o84 o86 rfl dX12_constant_531 ?_
                  obtain ⟨o88, h89⟩ := h87
                  obtain ⟨o90, h91⟩ := h89
                  refine zr_iald (v := (za s0 28 (Int.toNat (za s0 27 (Int.toNat (za s0 60 (Int.toNat (x2 + (-1))))))))) hC hZ81 zk_28 zb_28 zn_28 (by decide) o88 o90 rfl dX12_constant_532 ?_
                  obtain ⟨o92, h93⟩ := h91
                  refine zr_callVi (As := [.int (zI ((x2 + (-1)) + 1)), .int (zI (za s0 28 (Int.toNat (za s0 27 (Int.toNat (za s0 60 (Int.toNat (x2 + (-1)))))))))]) hC hZ81 rfl (rm_later X.la d b o92 (hZ.ra 28 _) hZ81.rf h93) cl_X12_635 rfl rfl (Nat.le_of_ble_eq_true rfl) ⟨Nat.le_of_ble_eq_true rfl, Nat.le_of_ble_eq_true rfl⟩ dX12_constant_533 (fun r94 s95 F96 R97 hZ98 h99 => ?_)
                  refine g_istore_n (lv' := [some (.ref t), none, some (.int (zI r94)), some (.int (zI x3)), some (.int (zI (za s0 60 (Int.toNat (x2 + (-1)))))), some (.int (zI (za s0 61 (Int.toNat (x2 + (-1)))))), some (.int (zI (za s0 25 (Int.toNat (za s0 60 (Int.toNat (x2 + (-1)))))))), none, none, none]) hC dX12_constant_536 (Nat.le_of_ble_eq_true rfl) rfl rfl ?_
                  refine g_goto (tgt := 631) hC dX12_constant_537 (by decide) ?_
                  refine g_goto (tgt := 40) hC dX12_constant_631 (by decide) ?_
                  refine g_lv (lv' := [some (.ref t), none, some (.int (zI r94)), some (.int (zI x3)), none, none, none, none, none, none]) ⟨rfl, rfl, rfl, trivial⟩ ?_
                  exact hk40 _ _ _ _ R97 Rx3 hZ98 h99
                · have h100 := h79.2 c82
                  refine g_aload_n hC dX12_constant_511 rfl ?_
                  refine zr_geta hC hZ81 fl_X12_93 zb_27 (by decide) dX12_constant_512 ?_
                  refine g_iload hC dX12_constant_515 rfl ?_
                  obtain ⟨o101, h102⟩ := h100
                  obtain ⟨o103, h104⟩ := h102
                  refine zr_iald (v := (za s0 27 (Int.toNat (za s0 60 (Int.toNat (x2 + (-1))))))) hC hZ81 zk_27 zb_27 zn_27 (by decide) o101 o103 rfl dX12_constant_517 ?_
                  refine g_goto (tgt := 533) hC dX12_constant_518 (by decide) ?_
                  obtain ⟨o105, h106⟩ := h104
                  refine zr_callVi (As := [.int (zI ((x2 + (-1)) + 1)), .int (zI (za s0 27 (Int.toNat (za s0 60 (Int.toNat (x2 + (-1)))))))]) hC hZ81 rfl (rm_later X.la d b o105 (hZ.ra 27 _) hZ81.rf h106) cl_X12_635 rfl rfl (Nat.le_of_ble_eq_true rfl) ⟨Nat.le_of_ble_eq_true rfl, Nat.le_of_ble_eq_true rfl⟩ dX12_constant_533 (fun r107 s108 F109 R110 hZ111 h112 => ?_)
                  refine g_istore_n (lv' := [some (.ref t), none, some (.int (zI r107)), some (.int (zI x3)), some (.int (zI (za s0 60 (Int.toNat (x2 + (-1)))))), some (.int (zI (za s0 61 (Int.toNat (x2 + (-1)))))), some (.int (zI (za s0 25 (Int.toNat (za s0 60 (Int.toNat (x2 + (-1)))))))), none, none, none]) hC dX12_constant_536 (Nat.le_of_ble_eq_true rfl) rfl rfl ?_
                  refine g_goto (tgt := 631) hC dX12_constant_537 (by decide) ?_
                  refine g_goto (tgt := 40) hC dX12_constant_631 (by decide) ?_
                  refine g_lv (lv' := [some (.ref t), none, some (.int (zI r107)), some (.int (zI x3)), none, none, none, none, none, none]) ⟨rfl, rfl, rfl, trivial⟩ ?_
                  exact hk40 _ _ _ _ R110 Rx3 hZ111 h112
            · have h113 := h26.2 c27
              refine g_aload_n hC dX12_constant_285 rfl ?_
              refine zr_geta hC hZ fl_X12_93 zb_27 (by decide) dX12_constant_286 ?_
              refine g_iload hC dX12_constant_289 rfl ?_
              obtain ⟨o114, h115⟩ := h113
              obtain ⟨o116, h117⟩ := h115
              refine zr_iald (v := (za s0 27 (Int.toNat (za s0 60 (Int.toNat (x2 + (-1))))))) hC hZ zk_27 zb_27 zn_27 (by decide) o114 o116 rfl dX12_constant_291 ?_
              refine g_istore (lv' := [some (.ref t), none, some (.int (zI (x2 + (-1)))), some (.int (zI x3)), some (.int (zI (za s0 60 (Int.toNat (x2 + (-1)))))), some (.int (zI (za s0 61 (Int.toNat (x2 + (-1)))))), some (.int (zI (za s0 25 (Int.toNat (za s0 60 (Int.toNat (x2 + (-1)))))))), some (.int (zI (za s0 27 (Int.toNat (za s0 60 (Int.toNat (x2 + (-1)))))))), none, none]) hC dX12_constant_292 (Nat.le_of_ble_eq_true rfl) rfl rfl ?_
              refine g_iconst (v := zI 0) hC dX12_constant_294 rfl ?_
              refine g_istore (lv' := [some (.ref t), none, some (.int (zI (x2 + (-1)))), some (.int (zI x3)), some (.int (zI (za s0 60 (Int.toNat (x2 + (-1)))))), some (.int (zI (za s0 61 (Int.toNat (x2 + (-1)))))), some (.int (zI (za s0 25 (Int.toNat (za s0 60 (Int.toNat (x2 + (-1)))))))), some (.int (zI (za s0 27 (Int.toNat (za s0 60 (Int.toNat (x2 + (-1)))))))), some (.int (zI 0)), none]) hC dX12_constant_295 (Nat.le_of_ble_eq_true rfl) rfl rfl ?_
              refine g_lv (lv' := [some (.ref t), none, some (.int (zI (x2 + (-1)))), some (.int (zI x3)), some (.int (zI (za s0 60 (Int.toNat (x2 + (-1)))))), some (.int (zI (za s0 61 (Int.toNat (x2 + (-1)))))), none, some (.int (zI (za s0 27 (Int.toNat (za s0 60 (Int.toNat (x2 + (-1)))))))), some (.int (zI 0)), none]) ⟨rfl, rfl, rfl, rfl, rfl, rfl, rfl, trivial⟩ ?_
              obtain ⟨m118, h119⟩ := h117
              exact rl_constant_297 hC hk40 m118 _ _ _ _ _ _ _ _ ⟨by omega, by omega⟩ Rx3 (hZ.ra 60 _) (hZ.ra 61 _) (hZ.ra 27 _) (by decide) hZ h119
          · have h120 := h24.2 c25
            refine g_iload hC dX12_constant_219 rfl ?_
            refine zr_if_ne (tgt := 249) hC (hZ.ra 61 _) dX12_constant_221 (by decide) (fun c121 => ?_) (fun c121 => ?_)
            · have h122 := h120.1 c121
              refine g_aload_n hC dX12_constant_249 rfl ?_
              refine zr_geta hC hZ fl_X12_200 zb_62 (by decide) dX12_constant_250 ?_
              refine g_iload_n hC dX12_constant_253 rfl ?_
              refine g_iconst (v := zI 1) hC dX12_constant_254 rfl ?_
              refine zr_isub hC dX12_constant_255 ?_
              refine g_aload_n hC dX12_constant_256 rfl ?_
              refine zr_geta hC hZ fl_X12_99 zb_29 (by decide) dX12_constant_257 ?_
              refine g_iload hC dX12_constant_260 rfl ?_
              obtain ⟨o123, h124⟩ := h122
              obtain ⟨o125, h126⟩ := h124
              refine zr_iald (v := (za s0 29 (Int.toNat (za s0 60 (Int.toNat (x2 + (-1))))))) hC hZ zk_29 zb_29 zn_29 (by decide) o123 o125 rfl dX12_constant_262 ?_
              refine g_aload_n hC dX12_constant_263 rfl ?_
              refine zr_geta hC hZ fl_X12_200 zb_62 (by decide) dX12_constant_264 ?_
              refine g_iload_n hC dX12_constant_267 rfl ?_
              refine g_iconst (v := zI 1) hC dX12_constant_268 rfl ?_
              refine zr_isub hC dX12_constant_269 ?_
              obtain ⟨o127, h128⟩ := h126
              obtain ⟨o129, h130⟩ := h128
              refine zr_iald (v := (za s0 62 (Int.toNat (x3 - 1)))) hC hZ zk_62 zb_62 zn_62 (by decide) o127 o129 rfl dX12_constant_270 ?_
              refine zr_callSi (As := [.int (zI (za s0 29 (Int.toNat (za s0 60 (Int.toNat (x2 + (-1))))))), .int (zI (za s0 62 (Int.toNat (x3 - 1))))]) hC hZ (rm_signed X.la d b (hZ.ra 29 _) (hZ.ra 62 _) hZ.rf h130) cl_X12_638 rfl rfl (Nat.le_of_ble_eq_true rfl) ⟨Nat.le_of_ble_eq_true rfl, Nat.le_of_ble_eq_true rfl⟩ dX12_constant_271 (fun r131 s132 F133 R134 hZ135 h136 => ?_)
              obtain ⟨o137, h138⟩ := h136
              obtain ⟨o139, h140⟩ := h138
              refine zr_iast hC hZ135 zk_62 zb_62 zn_62 (by decide) o137 o139 R134 dX12_constant_274 (fun F141 hZ142 => ?_)
              refine g_goto (tgt := 631) hC dX12_constant_275 (by decide) ?_
              refine g_goto (tgt := 40) hC dX12_constant_631 (by decide) ?_
              refine g_lv (lv' := [some (.ref t), none, some (.int (zI (x2 + (-1)))), some (.int (zI x3)), none, none, none, none, none, none]) ⟨rfl, rfl, rfl, trivial⟩ ?_
              exact hk40 _ _ _ _ ⟨by omega, by omega⟩ Rx3 hZ142 h140
            · have h143 := h120.2 c121
              refine g_aload_n hC dX12_constant_224 rfl ?_
              refine zr_geta hC hZ fl_X12_197 zb_61 (by decide) dX12_constant_225 ?_
              refine g_iload_n hC dX12_constant_228 rfl ?_
              refine g_iconst (v := zI 1) hC dX12_constant_229 rfl ?_
              obtain ⟨o144, h145⟩ := h143
              obtain ⟨o146, h147⟩ := h145
              refine zr_iast hC hZ zk_61 zb_61 zn_61 (by decide) o144 o146 (by decide) dX12_constant_230 (fun F148 hZ149 => ?_)
              refine g_aload_n hC dX12_constant_231 rfl ?_
              refine g_iload_n hC dX12_constant_232 rfl ?_
              refine g_iconst (v := zI 1) hC dX12_constant_233 rfl ?_
              refine zr_iadd hC dX12_constant_234 ?_
              refine g_aload_n hC dX12_constant_235 rfl ?_
              refine zr_geta hC hZ149 fl_X12_93 zb_27 (by decide) dX12_constant_236 ?_
              refine g_iload hC dX12_constant_239 rfl ?_
              obtain ⟨o150, h151⟩ := h147
              obtain ⟨o152, h153⟩ := h151
              refine zr_iald (v := (za s0 27 (Int.toNat (za s0 60 (Int.toNat (x2 + (-1))))))) hC hZ149 zk_27 zb_27 zn_27 (by decide) o150 o152 rfl dX12_constant_241 ?_
              obtain ⟨o154, h155⟩ := h153
              refine zr_callVi (As := [.int (zI ((x2 + (-1)) + 1)), .int (zI (za s0 27 (Int.toNat (za s0 60 (Int.toNat (x2 + (-1)))))))]) hC hZ149 rfl (rm_later X.la d b o154 (hZ.ra 27 _) hZ149.rf h155) cl_X12_635 rfl rfl (Nat.le_of_ble_eq_true rfl) ⟨Nat.le_of_ble_eq_true rfl, Nat.le_of_ble_eq_true rfl⟩ dX12_constant_242 (fun r156 s157 F158 R159 hZ160 h161 => ?_)
              refine g_istore_n (lv' := [some (.ref t), none, some (.int (zI r156)), some (.int (zI x3)), some (.int (zI (za s0 60 (Int.toNat (x2 + (-1)))))), some (.int (zI (za s0 61 (Int.toNat (x2 + (-1)))))), some (.int (zI (za s0 25 (Int.toNat (za s0 60 (Int.toNat (x2 + (-1)))))))), none, none, none]) hC dX12_constant_245 (Nat.le_of_ble_eq_true rfl) rfl rfl ?_
              refine g_goto (tgt := 631) hC dX12_constant_246 (by decide) ?_
              refine g_goto (tgt := 40) hC dX12_constant_631 (by decide) ?_
              refine g_lv (lv' := [some (.ref t), none, some (.int (zI r156)), some (.int (zI x3)), none, none, none, none, none, none]) ⟨rfl, rfl, rfl, trivial⟩ ?_
              exact hk40 _ _ _ _ R159 Rx3 hZ160 h161
        · have h162 := h22.2 c23
          refine g_iload hC dX12_constant_135 rfl ?_
          refine zr_if_ne (tgt := 165) hC (hZ.ra 61 _) dX12_constant_137 (by decide) (fun c163 => ?_) (fun c163 => ?_)
          · have h164 := h162.1 c163
            refine zr_iinc (x := x3) (lv' := [some (.ref t), none, some (.int (zI (x2 + (-1)))), some (.int (zI (x3 + (-1)))), some (.int (zI (za s0 60 (Int.toNat (x2 + (-1)))))), some (.int (zI (za s0 61 (Int.toNat (x2 + (-1)))))), some (.int (zI (za s0 25 (Int.toNat (za s0 60 (Int.toNat (x2 + (-1)))))))), none, none, none]) hC dX12_constant_165 rfl rfl rfl ?_
            refine g_aload_n hC dX12_constant_168 rfl ?_
            refine zr_geta hC hZ fl_X12_96 zb_28 (by decide) dX12_constant_169 ?_
            refine g_aload_n hC dX12_constant_172 rfl ?_
            refine zr_geta hC hZ fl_X12_93 zb_27 (by decide) dX12_constant_173 ?_
            refine g_iload hC dX12_constant_176 rfl ?_
            obtain ⟨o165, h166⟩ := h164
            obtain ⟨o167, h168⟩ := h166
            refine zr_iald (v := (za s0 27 (Int.toNat (za s0 60 (Int.toNat (x2 + (-1))))))) hC hZ zk_27 zb_27 zn_27 (by decide) o165 o167 rfl dX12_constant_178 ?_
            obtain ⟨o169, h170⟩ := h168
            obtain ⟨o171, h172⟩ := h170
            refine zr_iald (v := (za s0 28 (Int.toNat (za s0 27 (Int.toNat (za s0 60 (Int.toNat (x2 + (-1))))))))) hC hZ zk_28 zb_28 zn_28 (by decide) o169 o171 rfl dX12_constant_179 ?_
            refine g_istore (lv' := [some (.ref t), none, some (.int (zI (x2 + (-1)))), some (.int (zI (x3 + (-1)))), some (.int (zI (za s0 60 (Int.toNat (x2 + (-1)))))), some (.int (zI (za s0 61 (Int.toNat (x2 + (-1)))))), some (.int (zI (za s0 25 (Int.toNat (za s0 60 (Int.toNat (x2 + (-1)))))))), some (.int (zI (za s0 28 (Int.toNat (za s0 27 (Int.toNat (za s0 60 (Int.toNat (x2 + (-1)))))))))), none, none]) hC dX12_constant_180 (Nat.le_of_ble_eq_true rfl) rfl rfl ?_
            refine g_aload_n hC dX12_constant_182 rfl ?_
            refine g_iload_n hC dX12_constant_183 rfl ?_
            refine g_aload_n hC dX12_constant_184 rfl ?_
            refine zr_geta hC hZ fl_X12_200 zb_62 (by decide) dX12_constant_185 ?_
            refine g_iload_n hC dX12_constant_188 rfl ?_
            obtain ⟨o173, h174⟩ := h172
            obtain ⟨o175, h176⟩ := h174
            refine zr_iald (v := (za s0 62 (Int.toNat (x3 + (-1))))) hC hZ zk_62 zb_62 zn_62 (by decide) o173 o175 rfl dX12_constant_189 ?_
            refine zr_if_eq (tgt := 198) hC (hZ.ra 62 _) dX12_constant_190 (by decide) (fun c177 => ?_) (fun c177 => ?_)
            · have h178 := h176.1 c177
              refine g_aload_n hC dX12_constant_198 rfl ?_
              refine zr_geta hC hZ fl_X12_96 zb_28 (by decide) dX12_constant_199 ?_
              refine g_iload hC dX12_constant_202 rfl ?_
              obtain ⟨o179, h180⟩ := h178
              obtain ⟨o181, h182⟩ := h180
              refine zr_iald (v := (za s0 28 (Int.toNat (za s0 28 (Int.toNat (za s0 27 (Int.toNat (za s0 60 (Int.toNat (x2 + (-1))))))))))) hC hZ zk_28 zb_28 zn_28 (by decide) o179 o181 rfl dX12_constant_204 ?_
              refine zr_callVi (As := [.int (zI (x2 + (-1))), .int (zI (za s0 28 (Int.toNat (za s0 28 (Int.toNat (za s0 27 (Int.toNat (za s0 60 (Int.toNat (x2 + (-1)))))))))))]) hC hZ rfl (rm_later X.la d b ⟨by omega, by omega⟩ (hZ.ra 28 _) hZ.rf h182) cl_X12_635 rfl rfl (Nat.le_of_ble_eq_true rfl) ⟨Nat.le_of_ble_eq_true rfl, Nat.le_of_ble_eq_true rfl⟩ dX12_constant_205 (fun r183 s184 F185 R186 hZ187 h188 => ?_)
              refine g_istore_n (lv' := [some (.ref t), none, some (.int (zI r183)), some (.int (zI (x3 + (-1)))), some (.int (zI (za s0 60 (Int.toNat (x2 + (-1)))))), some (.int (zI (za s0 61 (Int.toNat (x2 + (-1)))))), some (.int (zI (za s0 25 (Int.toNat (za s0 60 (Int.toNat (x2 + (-1)))))))), some (.int (zI (za s0 28 (Int.toNat (za s0 27 (Int.toNat (za s0 60 (Int.toNat (x2 + (-1)))))))))), none, none]) hC dX12_constant_208 (Nat.le_of_ble_eq_true rfl) rfl rfl ?_
              refine g_goto (tgt := 631) hC dX12_constant_209 (by decide) ?_
              refine g_goto (tgt := 40) hC dX12_constant_631 (by decide) ?_
              refine g_lv (lv' := [some (.ref t), none, some (.int (zI r183)), some (.int (zI (x3 + (-1)))), none, none, none, none, none, none]) ⟨rfl, rfl, rfl, trivial⟩ ?_
              exact hk40 _ _ _ _ R186 ⟨by omega, by omega⟩ hZ187 h188
            · have h189 := h176.2 c177
              refine g_iload hC dX12_constant_193 rfl ?_
              refine g_goto (tgt := 205) hC dX12_constant_195 (by decide) ?_
              refine zr_callVi (As := [.int (zI (x2 + (-1))), .int (zI (za s0 28 (Int.toNat (za s0 27 (Int.toNat (za s0 60 (Int.toNat (x2 + (-1)))))))))]) hC hZ rfl (rm_later X.la d b ⟨by omega, by omega⟩ (hZ.ra 28 _) hZ.rf h189) cl_X12_635 rfl rfl (Nat.le_of_ble_eq_true rfl) ⟨Nat.le_of_ble_eq_true rfl, Nat.le_of_ble_eq_true rfl⟩ dX12_constant_205 (fun r190 s191 F192 R193 hZ194 h195 => ?_)
              refine g_istore_n (lv' := [some (.ref t), none, some (.int (zI r190)), some (.int (zI (x3 + (-1)))), some (.int (zI (za s0 60 (Int.toNat (x2 + (-1)))))), some (.int (zI (za s0 61 (Int.toNat (x2 + (-1)))))), some (.int (zI (za s0 25 (Int.toNat (za s0 60 (Int.toNat (x2 + (-1)))))))), some (.int (zI (za s0 28 (Int.toNat (za s0 27 (Int.toNat (za s0 60 (Int.toNat (x2 + (-1)))))))))), none, none]) hC dX12_constant_208 (Nat.le_of_ble_eq_true rfl) rfl rfl ?_
              refine g_goto (tgt := 631) hC dX12_constant_209 (by decide) ?_
              refine g_goto (tgt := 40) hC dX12_constant_631 (by decide) ?_
              refine g_lv (lv' := [some (.ref t), none, some (.int (zI r190)), some (.int (zI (x3 + (-1)))), none, none, none, none, none, none]) ⟨rfl, rfl, rfl, trivial⟩ ?_
              exact hk40 _ _ _ _ R193 ⟨by omega, by omega⟩ hZ194 h195
          · have h196 := h162.2 c163
            refine g_aload_n hC dX12_constant_140 rfl ?_
            refine zr_geta hC hZ fl_X12_197 zb_61 (by decide) dX12_constant_141 ?_
            refine g_iload_n hC dX12_constant_144 rfl ?_
            refine g_iconst (v := zI 1) hC dX12_constant_145 rfl ?_
            obtain ⟨o197, h198⟩ := h196
            obtain ⟨o199, h200⟩ := h198
            refine zr_iast hC hZ zk_61 zb_61 zn_61 (by decide) o197 o199 (by decide) dX12_constant_146 (fun F201 hZ202 => ?_)
            refine g_aload_n hC dX12_constant_147 rfl ?_
            refine g_iload_n hC dX12_constant_148 rfl ?_
            refine g_iconst (v := zI 1) hC dX12_constant_149 rfl ?_
            refine zr_iadd hC dX12_constant_150 ?_
            refine g_aload_n hC dX12_constant_151 rfl ?_
            refine zr_geta hC hZ202 fl_X12_93 zb_27 (by decide) dX12_constant_152 ?_
            refine g_iload hC dX12_constant_155 rfl ?_
            obtain ⟨o203, h204⟩ := h200
            obtain ⟨o205, h206⟩ := h204
            refine zr_iald (v := (za s0 27 (Int.toNat (za s0 60 (Int.toNat (x2 + (-1))))))) hC hZ202 zk_27 zb_27 zn_27 (by decide) o203 o205 rfl dX12_constant_157 ?_
            obtain ⟨o207, h208⟩ := h206
            refine zr_callVi (As := [.int (zI ((x2 + (-1)) + 1)), .int (zI (za s0 27 (Int.toNat (za s0 60 (Int.toNat (x2 + (-1)))))))]) hC hZ202 rfl (rm_later X.la d b o207 (hZ.ra 27 _) hZ202.rf h208) cl_X12_635 rfl rfl (Nat.le_of_ble_eq_true rfl) ⟨Nat.le_of_ble_eq_true rfl, Nat.le_of_ble_eq_true rfl⟩ dX12_constant_158 (fun r209 s210 F211 R212 hZ213 h214 => ?_)
            refine g_istore_n (lv' := [some (.ref t), none, some (.int (zI r209)), some (.int (zI x3)), some (.int (zI (za s0 60 (Int.toNat (x2 + (-1)))))), some (.int (zI (za s0 61 (Int.toNat (x2 + (-1)))))), some (.int (zI (za s0 25 (Int.toNat (za s0 60 (Int.toNat (x2 + (-1)))))))), none, none, none]) hC dX12_constant_161 (Nat.le_of_ble_eq_true rfl) rfl rfl ?_
            refine g_goto (tgt := 631) hC dX12_constant_162 (by decide) ?_
            refine g_goto (tgt := 40) hC dX12_constant_631 (by decide) ?_
            refine g_lv (lv' := [some (.ref t), none, some (.int (zI r209)), some (.int (zI x3)), none, none, none, none, none, none]) ⟨rfl, rfl, rfl, trivial⟩ ?_
            exact hk40 _ _ _ _ R212 Rx3 hZ213 h214
      · have h215 := h20.2 c21
        refine g_lv (lv' := [some (.ref t), none, some (.int (zI (x2 + (-1)))), some (.int (zI x3)), some (.int (zI (za s0 60 (Int.toNat (x2 + (-1)))))), none, some (.int (zI (za s0 25 (Int.toNat (za s0 60 (Int.toNat (x2 + (-1)))))))), none, none, none]) ⟨rfl, rfl, rfl, rfl, rfl, trivial⟩ ?_
        exact rj_constant_84 hC hk40 ⟨by omega, by omega⟩ Rx3 (hZ.ra 60 _) (hZ.ra 25 _) hZ h215
theorem rl_constant_40 {X : gX} {d : gD} {b t : Nat} {T : Nat → Nat} {F0 : gM} (hC : gC RX12 cX12_constant 10 none "constant" (gR 3 0 0) d b X) {Q : zS → Prop}   : ∀ (m : Nat) (F : gM) (s0 : zS) (x2 : Int) (x3 : Int), zR x2 → zR x3 → zZ d t T F0 F s0 → wr_constant_40 Q  m s0 x2 x3 → gG X d b (zQv X d b t T F0 Q) F 0 0 40 [some (.ref t), none, some (.int (zI x2)), some (.int (zI x3)), none, none, none, none, none, none] [] := by
  intro m
  induction m with
  | zero => intro F s0 x2 x3 Rx2 Rx3 hZ hw; exact False.elim hw
  | succ m ih => intro F s0 x2 x3 Rx2 Rx3 hZ hw; exact rb_constant_40 hC  ih Rx2 Rx3 hZ hw
set_option maxHeartbeats 4000000 in
set_option maxRecDepth 100000 in
theorem rm_constant (l : Launch) (d : gD) (b : Nat) {t : Nat} {T : Nat → Nat} {F : gM} {s0 : zS} {a0 : Int} (Ra0 : zR a0) {Q : zS → Prop} (hZ : zZ d t T F F s0) (hw : wr_constant s0 a0 Q) : gMv l d b yX12_constant cX12_constant 10 3 0 0 F [.ref t, .int (zI a0)] (zPv d t T F Q) := by
  refine gM_of2 rfl (nL := 10) (Nat.le_of_ble_eq_true rfl) ?_
  intro X hX hC; subst hX
  show gG X d b (zQv X d b t T F Q) F 0 0 0 [some (.ref t), some (.int (zI a0)), none, none, none, none, none, none, none, none] []
  unfold wr_constant at hw
  refine g_aload_n hC dX12_constant_0 rfl ?_
  refine g_aload_n hC dX12_constant_1 rfl ?_
  refine g_iload_n hC dX12_constant_2 rfl ?_
  refine zr_callVi (As := [.int (zI a0)]) hC hZ rfl (rm_isK X.la d b Ra0 hZ.rf hw) cl_X12_632 rfl rfl (Nat.le_of_ble_eq_true rfl) ⟨Nat.le_of_ble_eq_true rfl, Nat.le_of_ble_eq_true rfl⟩ dX12_constant_3 (fun r1 s2 F3 R4 hZ5 h6 => ?_)
  obtain ⟨o7, h8⟩ := h6
  refine zr_putZ hC hZ5 fl_X12_187 zb_58 (by decide) o7 dX12_constant_6 (fun F9 hZ10 => ?_)
  refine g_aload_n hC dX12_constant_9 rfl ?_
  refine g_iconst (v := zI 0) hC dX12_constant_10 rfl ?_
  refine zr_put hC hZ10 fl_X12_191 zb_59 (by decide) (by decide) dX12_constant_11 (fun F11 hZ12 => ?_)
  refine g_aload_n hC dX12_constant_14 rfl ?_
  refine zr_get (e := r1) hC hZ12 fl_X12_187 zb_58 (by decide) rfl dX12_constant_15 ?_
  refine zr_if_ne (tgt := 22) hC R4 dX12_constant_18 (by decide) (fun c13 => ?_) (fun c13 => ?_)
  · have h14 := h8.1 c13
    refine g_iconst (v := zI 1) hC dX12_constant_22 rfl ?_
    refine g_istore_n (lv' := [some (.ref t), some (.int (zI a0)), some (.int (zI 1)), none, none, none, none, none, none, none]) hC dX12_constant_23 (Nat.le_of_ble_eq_true rfl) rfl rfl ?_
    refine g_iconst (v := zI 0) hC dX12_constant_24 rfl ?_
    refine g_istore_n (lv' := [some (.ref t), some (.int (zI a0)), some (.int (zI 1)), some (.int (zI 0)), none, none, none, none, none, none]) hC dX12_constant_25 (Nat.le_of_ble_eq_true rfl) rfl rfl ?_
    refine g_aload_n hC dX12_constant_26 rfl ?_
    refine zr_geta hC hZ12 fl_X12_194 zb_60 (by decide) dX12_constant_27 ?_
    refine g_iconst (v := zI 0) hC dX12_constant_30 rfl ?_
    refine g_iload_n hC dX12_constant_31 rfl ?_
    refine zr_iast hC hZ12 zk_60 zb_60 zn_60 (by decide) (by decide) (by decide) Ra0 dX12_constant_32 (fun F15 hZ16 => ?_)
    refine g_aload_n hC dX12_constant_33 rfl ?_
    refine zr_geta hC hZ16 fl_X12_197 zb_61 (by decide) dX12_constant_34 ?_
    refine g_iconst (v := zI 0) hC dX12_constant_37 rfl ?_
    refine g_iconst (v := zI 0) hC dX12_constant_38 rfl ?_
    refine zr_iast hC hZ16 zk_61 zb_61 zn_61 (by decide) (by decide) (by decide) (by decide) dX12_constant_39 (fun F17 hZ18 => ?_)
    refine g_lv (lv' := [some (.ref t), none, some (.int (zI 1)), some (.int (zI 0)), none, none, none, none, none, none]) ⟨rfl, rfl, rfl, trivial⟩ ?_
    obtain ⟨m19, h20⟩ := h14
    exact rl_constant_40 hC  m19 _ _ _ _ (by decide) (by decide) hZ18 h20
  · have h21 := h8.2 c13
    exact zr_vret hC hZ12 h21 dX12_constant_21
theorem dX12_task_0 : decode cX12_task 0 = .ok (.aload_n 0, 1) := by decide +kernel
theorem dX12_task_1 : decode cX12_task 1 = .ok (.getfield 206, 3) := by decide +kernel
theorem dX12_task_4 : decode cX12_task 4 = .ok (.aload_n 0, 1) := by decide +kernel
theorem dX12_task_5 : decode cX12_task 5 = .ok (.getfield 203, 3) := by decide +kernel
theorem dX12_task_8 : decode cX12_task 8 = .ok (.iload_n 1, 1) := by decide +kernel
theorem dX12_task_9 : decode cX12_task 9 = .ok (.iastore, 1) := by decide +kernel
theorem dX12_task_10 : decode cX12_task 10 = .ok (.aload_n 0, 1) := by decide +kernel
theorem dX12_task_11 : decode cX12_task 11 = .ok (.getfield 209, 3) := by decide +kernel
theorem dX12_task_14 : decode cX12_task 14 = .ok (.aload_n 0, 1) := by decide +kernel
theorem dX12_task_15 : decode cX12_task 15 = .ok (.getfield 203, 3) := by decide +kernel
theorem dX12_task_18 : decode cX12_task 18 = .ok (.iload_n 2, 1) := by decide +kernel
theorem dX12_task_19 : decode cX12_task 19 = .ok (.iastore, 1) := by decide +kernel
theorem dX12_task_20 : decode cX12_task 20 = .ok (.aload_n 0, 1) := by decide +kernel
theorem dX12_task_21 : decode cX12_task 21 = .ok (.getfield 212, 3) := by decide +kernel
theorem dX12_task_24 : decode cX12_task 24 = .ok (.aload_n 0, 1) := by decide +kernel
theorem dX12_task_25 : decode cX12_task 25 = .ok (.getfield 203, 3) := by decide +kernel
theorem dX12_task_28 : decode cX12_task 28 = .ok (.iload_n 3, 1) := by decide +kernel
theorem dX12_task_29 : decode cX12_task 29 = .ok (.iastore, 1) := by decide +kernel
theorem dX12_task_30 : decode cX12_task 30 = .ok (.aload_n 0, 1) := by decide +kernel
theorem dX12_task_31 : decode cX12_task 31 = .ok (.dup, 1) := by decide +kernel
theorem dX12_task_32 : decode cX12_task 32 = .ok (.getfield 203, 3) := by decide +kernel
theorem dX12_task_35 : decode cX12_task 35 = .ok (.iconst 1, 1) := by decide +kernel
theorem dX12_task_36 : decode cX12_task 36 = .ok (.iadd, 1) := by decide +kernel
theorem dX12_task_37 : decode cX12_task 37 = .ok (.putfield 203, 3) := by decide +kernel
theorem dX12_task_40 : decode cX12_task 40 = .ok (.return_, 1) := by decide +kernel
def wr_task (s0 : zS) (a0 : Int) (a1 : Int) (a2 : Int) (Q : zS → Prop) : Prop :=
  (0 ≤ (zv s0 63)) ∧ ((zv s0 63) < 26000) ∧ (0 ≤ (zv s0 63)) ∧ ((zv s0 63) < 26000) ∧ (0 ≤ (zv s0 63)) ∧ ((zv s0 63) < 26000) ∧ (zR ((zv s0 63) + 1)) ∧ Q (zpv (zpa (zpa (zpa s0 64 (Int.toNat (zv s0 63)) a0) 65 (Int.toNat (zv s0 63)) a1) 66 (Int.toNat (zv s0 63)) a2) 63 ((zv s0 63) + 1))
set_option maxHeartbeats 4000000 in
set_option maxRecDepth 100000 in
theorem rm_task (l : Launch) (d : gD) (b : Nat) {t : Nat} {T : Nat → Nat} {F : gM} {s0 : zS} {a0 : Int} {a1 : Int} {a2 : Int} (Ra0 : zR a0) (Ra1 : zR a1) (Ra2 : zR a2) {Q : zS → Prop} (hZ : zZ d t T F F s0) (hw : wr_task s0 a0 a1 a2 Q) : gMv l d b yX12_task cX12_task 4 0 0 0 F [.ref t, .int (zI a0), .int (zI a1), .int (zI a2)] (zPv d t T F Q) := by
  refine gM_of2 rfl (nL := 4) (Nat.le_of_ble_eq_true rfl) ?_
  intro X hX hC; subst hX
  show gG X d b (zQv X d b t T F Q) F 0 0 0 [some (.ref t), some (.int (zI a0)), some (.int (zI a1)), some (.int (zI a2))] []
  unfold wr_task at hw
  refine g_aload_n hC dX12_task_0 rfl ?_
  refine zr_geta hC hZ fl_X12_206 zb_64 (by decide) dX12_task_1 ?_
  refine g_aload_n hC dX12_task_4 rfl ?_
  refine zr_get (e := (zv s0 63)) hC hZ fl_X12_203 zb_63 (by decide) rfl dX12_task_5 ?_
  refine g_iload_n hC dX12_task_8 rfl ?_
  obtain ⟨o1, h2⟩ := hw
  obtain ⟨o3, h4⟩ := h2
  refine zr_iast hC hZ zk_64 zb_64 zn_64 (by decide) o1 o3 Ra0 dX12_task_9 (fun F5 hZ6 => ?_)
  refine g_aload_n hC dX12_task_10 rfl ?_
  refine zr_geta hC hZ6 fl_X12_209 zb_65 (by decide) dX12_task_11 ?_
  refine g_aload_n hC dX12_task_14 rfl ?_
  refine zr_get (e := (zv s0 63)) hC hZ6 fl_X12_203 zb_63 (by decide) rfl dX12_task_15 ?_
  refine g_iload_n hC dX12_task_18 rfl ?_
  obtain ⟨o7, h8⟩ := h4
  obtain ⟨o9, h10⟩ := h8
  refine zr_iast hC hZ6 zk_65 zb_65 zn_65 (by decide) o7 o9 Ra1 dX12_task_19 (fun F11 hZ12 => ?_)
  refine g_aload_n hC dX12_task_20 rfl ?_
  refine zr_geta hC hZ12 fl_X12_212 zb_66 (by decide) dX12_task_21 ?_
  refine g_aload_n hC dX12_task_24 rfl ?_
  refine zr_get (e := (zv s0 63)) hC hZ12 fl_X12_203 zb_63 (by decide) rfl dX12_task_25 ?_
  refine g_iload_n hC dX12_task_28 rfl ?_
  obtain ⟨o13, h14⟩ := h10
  obtain ⟨o15, h16⟩ := h14
  refine zr_iast hC hZ12 zk_66 zb_66 zn_66 (by decide) o13 o15 Ra2 dX12_task_29 (fun F17 hZ18 => ?_)
  refine g_aload_n hC dX12_task_30 rfl ?_
  refine g_dup hC dX12_task_31 rfl ?_
  refine zr_get (e := (zv s0 63)) hC hZ18 fl_X12_203 zb_63 (by decide) rfl dX12_task_32 ?_
  refine g_iconst (v := zI 1) hC dX12_task_35 rfl ?_
  refine zr_iadd hC dX12_task_36 ?_
  obtain ⟨o19, h20⟩ := h16
  refine zr_put hC hZ18 fl_X12_203 zb_63 (by decide) o19 dX12_task_37 (fun F21 hZ22 => ?_)
  exact zr_vret hC hZ22 h20 dX12_task_40
theorem dX12_put_0 : decode cX12_put 0 = .ok (.aload_n 0, 1) := by decide +kernel
theorem dX12_put_1 : decode cX12_put 1 = .ok (.getfield 219, 3) := by decide +kernel
theorem dX12_put_4 : decode cX12_put 4 = .ok (.aload_n 0, 1) := by decide +kernel
theorem dX12_put_5 : decode cX12_put 5 = .ok (.getfield 215, 3) := by decide +kernel
theorem dX12_put_8 : decode cX12_put 8 = .ok (.iload_n 1, 1) := by decide +kernel
theorem dX12_put_9 : decode cX12_put 9 = .ok (.iastore, 1) := by decide +kernel
theorem dX12_put_10 : decode cX12_put 10 = .ok (.aload_n 0, 1) := by decide +kernel
theorem dX12_put_11 : decode cX12_put 11 = .ok (.dup, 1) := by decide +kernel
theorem dX12_put_12 : decode cX12_put 12 = .ok (.getfield 215, 3) := by decide +kernel
theorem dX12_put_15 : decode cX12_put 15 = .ok (.iconst 1, 1) := by decide +kernel
theorem dX12_put_16 : decode cX12_put 16 = .ok (.iadd, 1) := by decide +kernel
theorem dX12_put_17 : decode cX12_put 17 = .ok (.putfield 215, 3) := by decide +kernel
theorem dX12_put_20 : decode cX12_put 20 = .ok (.return_, 1) := by decide +kernel
def wr_put (s0 : zS) (a0 : Int) (Q : zS → Prop) : Prop :=
  (0 ≤ (zv s0 67)) ∧ ((zv s0 67) < 60000) ∧ (zR ((zv s0 67) + 1)) ∧ Q (zpv (zpa s0 68 (Int.toNat (zv s0 67)) a0) 67 ((zv s0 67) + 1))
set_option maxHeartbeats 4000000 in
set_option maxRecDepth 100000 in
theorem rm_put (l : Launch) (d : gD) (b : Nat) {t : Nat} {T : Nat → Nat} {F : gM} {s0 : zS} {a0 : Int} (Ra0 : zR a0) {Q : zS → Prop} (hZ : zZ d t T F F s0) (hw : wr_put s0 a0 Q) : gMv l d b yX12_put cX12_put 2 0 0 0 F [.ref t, .int (zI a0)] (zPv d t T F Q) := by
  refine gM_of2 rfl (nL := 2) (Nat.le_of_ble_eq_true rfl) ?_
  intro X hX hC; subst hX
  show gG X d b (zQv X d b t T F Q) F 0 0 0 [some (.ref t), some (.int (zI a0))] []
  unfold wr_put at hw
  refine g_aload_n hC dX12_put_0 rfl ?_
  refine zr_geta hC hZ fl_X12_219 zb_68 (by decide) dX12_put_1 ?_
  refine g_aload_n hC dX12_put_4 rfl ?_
  refine zr_get (e := (zv s0 67)) hC hZ fl_X12_215 zb_67 (by decide) rfl dX12_put_5 ?_
  refine g_iload_n hC dX12_put_8 rfl ?_
  obtain ⟨o1, h2⟩ := hw
  obtain ⟨o3, h4⟩ := h2
  refine zr_iast hC hZ zk_68 zb_68 zn_68 (by decide) o1 o3 Ra0 dX12_put_9 (fun F5 hZ6 => ?_)
  refine g_aload_n hC dX12_put_10 rfl ?_
  refine g_dup hC dX12_put_11 rfl ?_
  refine zr_get (e := (zv s0 67)) hC hZ6 fl_X12_215 zb_67 (by decide) rfl dX12_put_12 ?_
  refine g_iconst (v := zI 1) hC dX12_put_15 rfl ?_
  refine zr_iadd hC dX12_put_16 ?_
  obtain ⟨o7, h8⟩ := h4
  refine zr_put hC hZ6 fl_X12_215 zb_67 (by decide) o7 dX12_put_17 (fun F9 hZ10 => ?_)
  exact zr_vret hC hZ10 h8 dX12_put_20
theorem dX12_pull_0 : decode cX12_pull 0 = .ok (.aload_n 0, 1) := by decide +kernel
theorem dX12_pull_1 : decode cX12_pull 1 = .ok (.dup, 1) := by decide +kernel
theorem dX12_pull_2 : decode cX12_pull 2 = .ok (.getfield 215, 3) := by decide +kernel
theorem dX12_pull_5 : decode cX12_pull 5 = .ok (.iconst 1, 1) := by decide +kernel
theorem dX12_pull_6 : decode cX12_pull 6 = .ok (.isub, 1) := by decide +kernel
theorem dX12_pull_7 : decode cX12_pull 7 = .ok (.putfield 215, 3) := by decide +kernel
theorem dX12_pull_10 : decode cX12_pull 10 = .ok (.aload_n 0, 1) := by decide +kernel
theorem dX12_pull_11 : decode cX12_pull 11 = .ok (.getfield 219, 3) := by decide +kernel
theorem dX12_pull_14 : decode cX12_pull 14 = .ok (.aload_n 0, 1) := by decide +kernel
theorem dX12_pull_15 : decode cX12_pull 15 = .ok (.getfield 215, 3) := by decide +kernel
theorem dX12_pull_18 : decode cX12_pull 18 = .ok (.iaload, 1) := by decide +kernel
theorem dX12_pull_19 : decode cX12_pull 19 = .ok (.ireturn, 1) := by decide +kernel
def wr_pull (s0 : zS)  (Q : Int → zS → Prop) : Prop :=
  (zR ((zv s0 67) - 1)) ∧ (0 ≤ ((zv s0 67) - 1)) ∧ (((zv s0 67) - 1) < 60000) ∧ Q (za s0 68 (Int.toNat ((zv s0 67) - 1))) (zpv s0 67 ((zv s0 67) - 1))
set_option maxHeartbeats 4000000 in
set_option maxRecDepth 100000 in
theorem rm_pull (l : Launch) (d : gD) (b : Nat) {t : Nat} {T : Nat → Nat} {F : gM} {s0 : zS}   {Q : Int → zS → Prop} (hZ : zZ d t T F F s0) (hw : wr_pull s0  Q) : gMi l d b yX12_pull cX12_pull 1 .int 0 0 0 F [.ref t] (zPi d t T F Q) := by
  refine gM_of2 rfl (nL := 1) (Nat.le_of_ble_eq_true rfl) ?_
  intro X hX hC; subst hX
  show gG X d b (zQi X d b t T F Q) F 0 0 0 [some (.ref t)] []
  unfold wr_pull at hw
  refine g_aload_n hC dX12_pull_0 rfl ?_
  refine g_dup hC dX12_pull_1 rfl ?_
  refine zr_get (e := (zv s0 67)) hC hZ fl_X12_215 zb_67 (by decide) rfl dX12_pull_2 ?_
  refine g_iconst (v := zI 1) hC dX12_pull_5 rfl ?_
  refine zr_isub hC dX12_pull_6 ?_
  obtain ⟨o1, h2⟩ := hw
  refine zr_put hC hZ fl_X12_215 zb_67 (by decide) o1 dX12_pull_7 (fun F3 hZ4 => ?_)
  refine g_aload_n hC dX12_pull_10 rfl ?_
  refine zr_geta hC hZ4 fl_X12_219 zb_68 (by decide) dX12_pull_11 ?_
  refine g_aload_n hC dX12_pull_14 rfl ?_
  refine zr_get (e := ((zv s0 67) - 1)) hC hZ4 fl_X12_215 zb_67 (by decide) rfl dX12_pull_15 ?_
  obtain ⟨o5, h6⟩ := h2
  obtain ⟨o7, h8⟩ := h6
  refine zr_iald (v := (za s0 68 (Int.toNat ((zv s0 67) - 1)))) hC hZ4 zk_68 zb_68 zn_68 (by decide) o5 o7 rfl dX12_pull_18 ?_
  exact zr_iret hC hZ4 (hZ.ra 68 _) h8 dX12_pull_19
theorem dX12_init__0 : decode cX12_init_ 0 = .ok (.aload_n 0, 1) := by decide +kernel
theorem dX12_init__1 : decode cX12_init_ 1 = .ok (.getfield 267, 3) := by decide +kernel
theorem dX12_init__4 : decode cX12_init_ 4 = .ok (.sipush 9000, 3) := by decide +kernel
theorem dX12_init__7 : decode cX12_init_ 7 = .ok (.if_icmp .ne 4, 3) := by decide +kernel
theorem dX12_init__10 : decode cX12_init_ 10 = .ok (.return_, 1) := by decide +kernel
theorem dX12_init__11 : decode cX12_init_ 11 = .ok (.aload_n 0, 1) := by decide +kernel
theorem dX12_init__12 : decode cX12_init_ 12 = .ok (.getfield 270, 3) := by decide +kernel
theorem dX12_init__15 : decode cX12_init_ 15 = .ok (.aload_n 0, 1) := by decide +kernel
theorem dX12_init__16 : decode cX12_init_ 16 = .ok (.getfield 267, 3) := by decide +kernel
theorem dX12_init__19 : decode cX12_init_ 19 = .ok (.iload_n 1, 1) := by decide +kernel
theorem dX12_init__20 : decode cX12_init_ 20 = .ok (.iastore, 1) := by decide +kernel
theorem dX12_init__21 : decode cX12_init_ 21 = .ok (.aload_n 0, 1) := by decide +kernel
theorem dX12_init__22 : decode cX12_init_ 22 = .ok (.getfield 273, 3) := by decide +kernel
theorem dX12_init__25 : decode cX12_init_ 25 = .ok (.aload_n 0, 1) := by decide +kernel
theorem dX12_init__26 : decode cX12_init_ 26 = .ok (.getfield 267, 3) := by decide +kernel
theorem dX12_init__29 : decode cX12_init_ 29 = .ok (.iload_n 2, 1) := by decide +kernel
theorem dX12_init__30 : decode cX12_init_ 30 = .ok (.iastore, 1) := by decide +kernel
theorem dX12_init__31 : decode cX12_init_ 31 = .ok (.aload_n 0, 1) := by decide +kernel
theorem dX12_init__32 : decode cX12_init_ 32 = .ok (.dup, 1) := by decide +kernel
theorem dX12_init__33 : decode cX12_init_ 33 = .ok (.getfield 267, 3) := by decide +kernel
theorem dX12_init__36 : decode cX12_init_ 36 = .ok (.iconst 1, 1) := by decide +kernel
theorem dX12_init__37 : decode cX12_init_ 37 = .ok (.iadd, 1) := by decide +kernel
theorem dX12_init__38 : decode cX12_init_ 38 = .ok (.putfield 267, 3) := by decide +kernel
theorem dX12_init__41 : decode cX12_init_ 41 = .ok (.return_, 1) := by decide +kernel
def wr_init_ (s0 : zS) (a0 : Int) (a1 : Int) (Q : zS → Prop) : Prop :=
  ((¬ (zv s0 84) = 9000 → (0 ≤ (zv s0 84)) ∧ ((zv s0 84) < 9000) ∧ (0 ≤ (zv s0 84)) ∧ ((zv s0 84) < 9000) ∧ (zR ((zv s0 84) + 1)) ∧ Q (zpv (zpa (zpa s0 85 (Int.toNat (zv s0 84)) a0) 86 (Int.toNat (zv s0 84)) a1) 84 ((zv s0 84) + 1))) ∧ ((zv s0 84) = 9000 → Q s0))
set_option maxHeartbeats 4000000 in
set_option maxRecDepth 100000 in
theorem rm_init_ (l : Launch) (d : gD) (b : Nat) {t : Nat} {T : Nat → Nat} {F : gM} {s0 : zS} {a0 : Int} {a1 : Int} (Ra0 : zR a0) (Ra1 : zR a1) {Q : zS → Prop} (hZ : zZ d t T F F s0) (hw : wr_init_ s0 a0 a1 Q) : gMv l d b yX12_init_ cX12_init_ 3 0 0 0 F [.ref t, .int (zI a0), .int (zI a1)] (zPv d t T F Q) := by
  refine gM_of2 rfl (nL := 3) (Nat.le_of_ble_eq_true rfl) ?_
  intro X hX hC; subst hX
  show gG X d b (zQv X d b t T F Q) F 0 0 0 [some (.ref t), some (.int (zI a0)), some (.int (zI a1))] []
  unfold wr_init_ at hw
  refine g_aload_n hC dX12_init__0 rfl ?_
  refine zr_get (e := (zv s0 84)) hC hZ fl_X12_267 zb_84 (by decide) rfl dX12_init__1 ?_
  refine g_sipush (v := zI 9000) hC dX12_init__4 rfl ?_
  refine zr_icmp_ne (tgt := 11) hC (hZ.rv 84) (by decide) dX12_init__7 (by decide) (fun c1 => ?_) (fun c1 => ?_)
  · have h2 := hw.1 c1
    refine g_aload_n hC dX12_init__11 rfl ?_
    refine zr_geta hC hZ fl_X12_270 zb_85 (by decide) dX12_init__12 ?_
    refine g_aload_n hC dX12_init__15 rfl ?_
    refine zr_get (e := (zv s0 84)) hC hZ fl_X12_267 zb_84 (by decide) rfl dX12_init__16 ?_
    refine g_iload_n hC dX12_init__19 rfl ?_
    obtain ⟨o3, h4⟩ := h2
    obtain ⟨o5, h6⟩ := h4
    refine zr_iast hC hZ zk_85 zb_85 zn_85 (by decide) o3 o5 Ra0 dX12_init__20 (fun F7 hZ8 => ?_)
    refine g_aload_n hC dX12_init__21 rfl ?_
    refine zr_geta hC hZ8 fl_X12_273 zb_86 (by decide) dX12_init__22 ?_
    refine g_aload_n hC dX12_init__25 rfl ?_
    refine zr_get (e := (zv s0 84)) hC hZ8 fl_X12_267 zb_84 (by decide) rfl dX12_init__26 ?_
    refine g_iload_n hC dX12_init__29 rfl ?_
    obtain ⟨o9, h10⟩ := h6
    obtain ⟨o11, h12⟩ := h10
    refine zr_iast hC hZ8 zk_86 zb_86 zn_86 (by decide) o9 o11 Ra1 dX12_init__30 (fun F13 hZ14 => ?_)
    refine g_aload_n hC dX12_init__31 rfl ?_
    refine g_dup hC dX12_init__32 rfl ?_
    refine zr_get (e := (zv s0 84)) hC hZ14 fl_X12_267 zb_84 (by decide) rfl dX12_init__33 ?_
    refine g_iconst (v := zI 1) hC dX12_init__36 rfl ?_
    refine zr_iadd hC dX12_init__37 ?_
    obtain ⟨o15, h16⟩ := h12
    refine zr_put hC hZ14 fl_X12_267 zb_84 (by decide) o15 dX12_init__38 (fun F17 hZ18 => ?_)
    exact zr_vret hC hZ18 h16 dX12_init__41
  · have h19 := hw.2 c1
    exact zr_vret hC hZ h19 dX12_init__10
theorem dX12_turn_0 : decode cX12_turn 0 = .ok (.iload_n 1, 1) := by decide +kernel
theorem dX12_turn_1 : decode cX12_turn 1 = .ok (.istore_n 2, 1) := by decide +kernel
theorem dX12_turn_2 : decode cX12_turn 2 = .ok (.aload_n 0, 1) := by decide +kernel
theorem dX12_turn_3 : decode cX12_turn 3 = .ok (.getfield 203, 3) := by decide +kernel
theorem dX12_turn_6 : decode cX12_turn 6 = .ok (.iconst 1, 1) := by decide +kernel
theorem dX12_turn_7 : decode cX12_turn 7 = .ok (.isub, 1) := by decide +kernel
theorem dX12_turn_8 : decode cX12_turn 8 = .ok (.istore_n 3, 1) := by decide +kernel
theorem dX12_turn_9 : decode cX12_turn 9 = .ok (.iload_n 2, 1) := by decide +kernel
theorem dX12_turn_10 : decode cX12_turn 10 = .ok (.iload_n 3, 1) := by decide +kernel
theorem dX12_turn_11 : decode cX12_turn 11 = .ok (.if_icmp .ge 96, 3) := by decide +kernel
theorem dX12_turn_14 : decode cX12_turn 14 = .ok (.aload_n 0, 1) := by decide +kernel
theorem dX12_turn_15 : decode cX12_turn 15 = .ok (.getfield 206, 3) := by decide +kernel
theorem dX12_turn_18 : decode cX12_turn 18 = .ok (.iload_n 2, 1) := by decide +kernel
theorem dX12_turn_19 : decode cX12_turn 19 = .ok (.iaload, 1) := by decide +kernel
theorem dX12_turn_20 : decode cX12_turn 20 = .ok (.istore 4, 2) := by decide +kernel
theorem dX12_turn_22 : decode cX12_turn 22 = .ok (.aload_n 0, 1) := by decide +kernel
theorem dX12_turn_23 : decode cX12_turn 23 = .ok (.getfield 209, 3) := by decide +kernel
theorem dX12_turn_26 : decode cX12_turn 26 = .ok (.iload_n 2, 1) := by decide +kernel
theorem dX12_turn_27 : decode cX12_turn 27 = .ok (.iaload, 1) := by decide +kernel
theorem dX12_turn_28 : decode cX12_turn 28 = .ok (.istore 5, 2) := by decide +kernel
theorem dX12_turn_30 : decode cX12_turn 30 = .ok (.aload_n 0, 1) := by decide +kernel
theorem dX12_turn_31 : decode cX12_turn 31 = .ok (.getfield 212, 3) := by decide +kernel
theorem dX12_turn_34 : decode cX12_turn 34 = .ok (.iload_n 2, 1) := by decide +kernel
theorem dX12_turn_35 : decode cX12_turn 35 = .ok (.iaload, 1) := by decide +kernel
theorem dX12_turn_36 : decode cX12_turn 36 = .ok (.istore 6, 2) := by decide +kernel
theorem dX12_turn_38 : decode cX12_turn 38 = .ok (.aload_n 0, 1) := by decide +kernel
theorem dX12_turn_39 : decode cX12_turn 39 = .ok (.getfield 206, 3) := by decide +kernel
theorem dX12_turn_42 : decode cX12_turn 42 = .ok (.iload_n 2, 1) := by decide +kernel
theorem dX12_turn_43 : decode cX12_turn 43 = .ok (.aload_n 0, 1) := by decide +kernel
theorem dX12_turn_44 : decode cX12_turn 44 = .ok (.getfield 206, 3) := by decide +kernel
theorem dX12_turn_47 : decode cX12_turn 47 = .ok (.iload_n 3, 1) := by decide +kernel
theorem dX12_turn_48 : decode cX12_turn 48 = .ok (.iaload, 1) := by decide +kernel
theorem dX12_turn_49 : decode cX12_turn 49 = .ok (.iastore, 1) := by decide +kernel
theorem dX12_turn_50 : decode cX12_turn 50 = .ok (.aload_n 0, 1) := by decide +kernel
theorem dX12_turn_51 : decode cX12_turn 51 = .ok (.getfield 209, 3) := by decide +kernel
theorem dX12_turn_54 : decode cX12_turn 54 = .ok (.iload_n 2, 1) := by decide +kernel
theorem dX12_turn_55 : decode cX12_turn 55 = .ok (.aload_n 0, 1) := by decide +kernel
theorem dX12_turn_56 : decode cX12_turn 56 = .ok (.getfield 209, 3) := by decide +kernel
theorem dX12_turn_59 : decode cX12_turn 59 = .ok (.iload_n 3, 1) := by decide +kernel
theorem dX12_turn_60 : decode cX12_turn 60 = .ok (.iaload, 1) := by decide +kernel
theorem dX12_turn_61 : decode cX12_turn 61 = .ok (.iastore, 1) := by decide +kernel
theorem dX12_turn_62 : decode cX12_turn 62 = .ok (.aload_n 0, 1) := by decide +kernel
theorem dX12_turn_63 : decode cX12_turn 63 = .ok (.getfield 212, 3) := by decide +kernel
theorem dX12_turn_66 : decode cX12_turn 66 = .ok (.iload_n 2, 1) := by decide +kernel
theorem dX12_turn_67 : decode cX12_turn 67 = .ok (.aload_n 0, 1) := by decide +kernel
theorem dX12_turn_68 : decode cX12_turn 68 = .ok (.getfield 212, 3) := by decide +kernel
theorem dX12_turn_71 : decode cX12_turn 71 = .ok (.iload_n 3, 1) := by decide +kernel
theorem dX12_turn_72 : decode cX12_turn 72 = .ok (.iaload, 1) := by decide +kernel
theorem dX12_turn_73 : decode cX12_turn 73 = .ok (.iastore, 1) := by decide +kernel
theorem dX12_turn_74 : decode cX12_turn 74 = .ok (.aload_n 0, 1) := by decide +kernel
theorem dX12_turn_75 : decode cX12_turn 75 = .ok (.getfield 206, 3) := by decide +kernel
theorem dX12_turn_78 : decode cX12_turn 78 = .ok (.iload_n 3, 1) := by decide +kernel
theorem dX12_turn_79 : decode cX12_turn 79 = .ok (.iload 4, 2) := by decide +kernel
theorem dX12_turn_81 : decode cX12_turn 81 = .ok (.iastore, 1) := by decide +kernel
theorem dX12_turn_82 : decode cX12_turn 82 = .ok (.aload_n 0, 1) := by decide +kernel
theorem dX12_turn_83 : decode cX12_turn 83 = .ok (.getfield 209, 3) := by decide +kernel
theorem dX12_turn_86 : decode cX12_turn 86 = .ok (.iload_n 3, 1) := by decide +kernel
theorem dX12_turn_87 : decode cX12_turn 87 = .ok (.iload 5, 2) := by decide +kernel
theorem dX12_turn_89 : decode cX12_turn 89 = .ok (.iastore, 1) := by decide +kernel
theorem dX12_turn_90 : decode cX12_turn 90 = .ok (.aload_n 0, 1) := by decide +kernel
theorem dX12_turn_91 : decode cX12_turn 91 = .ok (.getfield 212, 3) := by decide +kernel
theorem dX12_turn_94 : decode cX12_turn 94 = .ok (.iload_n 3, 1) := by decide +kernel
theorem dX12_turn_95 : decode cX12_turn 95 = .ok (.iload 6, 2) := by decide +kernel
theorem dX12_turn_97 : decode cX12_turn 97 = .ok (.iastore, 1) := by decide +kernel
theorem dX12_turn_98 : decode cX12_turn 98 = .ok (.iinc 2 1, 3) := by decide +kernel
theorem dX12_turn_101 : decode cX12_turn 101 = .ok (.iinc 3 (-1), 3) := by decide +kernel
theorem dX12_turn_104 : decode cX12_turn 104 = .ok (.goto (-95), 3) := by decide +kernel
theorem dX12_turn_107 : decode cX12_turn 107 = .ok (.return_, 1) := by decide +kernel
def wr_turn_9B (Q : zS → Prop) (k9 : zS → Int → Int → Prop) (s0 : zS) (x2 : Int) (x3 : Int) : Prop :=
  ((x3 ≤ x2 → Q s0) ∧ (¬ x3 ≤ x2 → (0 ≤ x2) ∧ (x2 < 26000) ∧ (0 ≤ x2) ∧ (x2 < 26000) ∧ (0 ≤ x2) ∧ (x2 < 26000) ∧ (0 ≤ x3) ∧ (x3 < 26000) ∧ (0 ≤ x2) ∧ (x2 < 26000) ∧ (0 ≤ x3) ∧ (x3 < 26000) ∧ (0 ≤ x2) ∧ (x2 < 26000) ∧ (0 ≤ x3) ∧ (x3 < 26000) ∧ (0 ≤ x2) ∧ (x2 < 26000) ∧ (0 ≤ x3) ∧ (x3 < 26000) ∧ (0 ≤ x3) ∧ (x3 < 26000) ∧ (0 ≤ x3) ∧ (x3 < 26000) ∧ (zR (x2 + 1)) ∧ (zR (x3 + (-1))) ∧ k9 (zpa (zpa (zpa (zpa (zpa (zpa s0 64 (Int.toNat x2) (za s0 64 (Int.toNat x3))) 65 (Int.toNat x2) (za s0 65 (Int.toNat x3))) 66 (Int.toNat x2) (za s0 66 (Int.toNat x3))) 64 (Int.toNat x3) (za s0 64 (Int.toNat x2))) 65 (Int.toNat x3) (za s0 65 (Int.toNat x2))) 66 (Int.toNat x3) (za s0 66 (Int.toNat x2))) (x2 + 1) (x3 + (-1))))
def wr_turn_9 (Q : zS → Prop)  : Nat → zS → Int → Int → Prop
  | 0 => fun _ _ _ => False
  | m + 1 => fun s0 x2 x3 => wr_turn_9B Q  (wr_turn_9 Q  m) s0 x2 x3
def wr_turn (s0 : zS) (a0 : Int) (Q : zS → Prop) : Prop :=
  (zR ((zv s0 63) - 1)) ∧ ∃ n, wr_turn_9 Q  n s0 a0 ((zv s0 63) - 1)
set_option maxHeartbeats 4000000 in
set_option maxRecDepth 100000 in
theorem rb_turn_9 {X : gX} {d : gD} {b t : Nat} {T : Nat → Nat} {F0 : gM} (hC : gC RX12 cX12_turn 7 none "turn" (gR 0 0 0) d b X) {Q : zS → Prop} {k9 : zS → Int → Int → Prop} (hk9 : ∀ (F : gM) (s0 : zS) (x2 : Int) (x3 : Int), zR x2 → zR x3 → zZ d t T F0 F s0 → k9 s0 x2 x3 → gG X d b (zQv X d b t T F0 Q) F 0 0 9 [some (.ref t), none, some (.int (zI x2)), some (.int (zI x3)), none, none, none] []) {F : gM} {s0 : zS} {x2 : Int} {x3 : Int} (Rx2 : zR x2) (Rx3 : zR x3) (hZ : zZ d t T F0 F s0) (hw : wr_turn_9B Q k9 s0 x2 x3) : gG X d b (zQv X d b t T F0 Q) F 0 0 9 [some (.ref t), none, some (.int (zI x2)), some (.int (zI x3)), none, none, none] [] := by
  unfold wr_turn_9B at hw
  refine g_iload_n hC dX12_turn_9 rfl ?_
  refine g_iload_n hC dX12_turn_10 rfl ?_
  refine zr_icmp_ge (tgt := 107) hC Rx2 Rx3 dX12_turn_11 (by decide) (fun c1 => ?_) (fun c1 => ?_)
  · have h2 := hw.1 c1
    exact zr_vret hC hZ h2 dX12_turn_107
  · have h3 := hw.2 c1
    refine g_aload_n hC dX12_turn_14 rfl ?_
    refine zr_geta hC hZ fl_X12_206 zb_64 (by decide) dX12_turn_15 ?_
    refine g_iload_n hC dX12_turn_18 rfl ?_
    obtain ⟨o4, h5⟩ := h3
    obtain ⟨o6, h7⟩ := h5
    refine zr_iald (v := (za s0 64 (Int.toNat x2))) hC hZ zk_64 zb_64 zn_64 (by decide) o4 o6 rfl dX12_turn_19 ?_
    refine g_istore (lv' := [some (.ref t), none, some (.int (zI x2)), some (.int (zI x3)), some (.int (zI (za s0 64 (Int.toNat x2)))), none, none]) hC dX12_turn_20 (Nat.le_of_ble_eq_true rfl) rfl rfl ?_
    refine g_aload_n hC dX12_turn_22 rfl ?_
    refine zr_geta hC hZ fl_X12_209 zb_65 (by decide) dX12_turn_23 ?_
    refine g_iload_n hC dX12_turn_26 rfl ?_
    obtain ⟨o8, h9⟩ := h7
    obtain ⟨o10, h11⟩ := h9
    refine zr_iald (v := (za s0 65 (Int.toNat x2))) hC hZ zk_65 zb_65 zn_65 (by decide) o8 o10 rfl dX12_turn_27 ?_
    refine g_istore (lv' := [some (.ref t), none, some (.int (zI x2)), some (.int (zI x3)), some (.int (zI (za s0 64 (Int.toNat x2)))), some (.int (zI (za s0 65 (Int.toNat x2)))), none]) hC dX12_turn_28 (Nat.le_of_ble_eq_true rfl) rfl rfl ?_
    refine g_aload_n hC dX12_turn_30 rfl ?_
    refine zr_geta hC hZ fl_X12_212 zb_66 (by decide) dX12_turn_31 ?_
    refine g_iload_n hC dX12_turn_34 rfl ?_
    obtain ⟨o12, h13⟩ := h11
    obtain ⟨o14, h15⟩ := h13
    refine zr_iald (v := (za s0 66 (Int.toNat x2))) hC hZ zk_66 zb_66 zn_66 (by decide) o12 o14 rfl dX12_turn_35 ?_
    refine g_istore (lv' := [some (.ref t), none, some (.int (zI x2)), some (.int (zI x3)), some (.int (zI (za s0 64 (Int.toNat x2)))), some (.int (zI (za s0 65 (Int.toNat x2)))), some (.int (zI (za s0 66 (Int.toNat x2))))]) hC dX12_turn_36 (Nat.le_of_ble_eq_true rfl) rfl rfl ?_
    refine g_aload_n hC dX12_turn_38 rfl ?_
    refine zr_geta hC hZ fl_X12_206 zb_64 (by decide) dX12_turn_39 ?_
    refine g_iload_n hC dX12_turn_42 rfl ?_
    refine g_aload_n hC dX12_turn_43 rfl ?_
    refine zr_geta hC hZ fl_X12_206 zb_64 (by decide) dX12_turn_44 ?_
    refine g_iload_n hC dX12_turn_47 rfl ?_
    obtain ⟨o16, h17⟩ := h15
    obtain ⟨o18, h19⟩ := h17
    refine zr_iald (v := (za s0 64 (Int.toNat x3))) hC hZ zk_64 zb_64 zn_64 (by decide) o16 o18 rfl dX12_turn_48 ?_
    obtain ⟨o20, h21⟩ := h19
    obtain ⟨o22, h23⟩ := h21
    refine zr_iast hC hZ zk_64 zb_64 zn_64 (by decide) o20 o22 (hZ.ra 64 _) dX12_turn_49 (fun F24 hZ25 => ?_)
    refine g_aload_n hC dX12_turn_50 rfl ?_
    refine zr_geta hC hZ25 fl_X12_209 zb_65 (by decide) dX12_turn_51 ?_
    refine g_iload_n hC dX12_turn_54 rfl ?_
    refine g_aload_n hC dX12_turn_55 rfl ?_
    refine zr_geta hC hZ25 fl_X12_209 zb_65 (by decide) dX12_turn_56 ?_
    refine g_iload_n hC dX12_turn_59 rfl ?_
    obtain ⟨o26, h27⟩ := h23
    obtain ⟨o28, h29⟩ := h27
    refine zr_iald (v := (za s0 65 (Int.toNat x3))) hC hZ25 zk_65 zb_65 zn_65 (by decide) o26 o28 rfl dX12_turn_60 ?_
    obtain ⟨o30, h31⟩ := h29
    obtain ⟨o32, h33⟩ := h31
    refine zr_iast hC hZ25 zk_65 zb_65 zn_65 (by decide) o30 o32 (hZ.ra 65 _) dX12_turn_61 (fun F34 hZ35 => ?_)
    refine g_aload_n hC dX12_turn_62 rfl ?_
    refine zr_geta hC hZ35 fl_X12_212 zb_66 (by decide) dX12_turn_63 ?_
    refine g_iload_n hC dX12_turn_66 rfl ?_
    refine g_aload_n hC dX12_turn_67 rfl ?_
    refine zr_geta hC hZ35 fl_X12_212 zb_66 (by decide) dX12_turn_68 ?_
    refine g_iload_n hC dX12_turn_71 rfl ?_
    obtain ⟨o36, h37⟩ := h33
    obtain ⟨o38, h39⟩ := h37
    refine zr_iald (v := (za s0 66 (Int.toNat x3))) hC hZ35 zk_66 zb_66 zn_66 (by decide) o36 o38 rfl dX12_turn_72 ?_
    obtain ⟨o40, h41⟩ := h39
    obtain ⟨o42, h43⟩ := h41
    refine zr_iast hC hZ35 zk_66 zb_66 zn_66 (by decide) o40 o42 (hZ.ra 66 _) dX12_turn_73 (fun F44 hZ45 => ?_)
    refine g_aload_n hC dX12_turn_74 rfl ?_
    refine zr_geta hC hZ45 fl_X12_206 zb_64 (by decide) dX12_turn_75 ?_
    refine g_iload_n hC dX12_turn_78 rfl ?_
    refine g_iload hC dX12_turn_79 rfl ?_
    obtain ⟨o46, h47⟩ := h43
    obtain ⟨o48, h49⟩ := h47
    refine zr_iast hC hZ45 zk_64 zb_64 zn_64 (by decide) o46 o48 (hZ.ra 64 _) dX12_turn_81 (fun F50 hZ51 => ?_)
    refine g_aload_n hC dX12_turn_82 rfl ?_
    refine zr_geta hC hZ51 fl_X12_209 zb_65 (by decide) dX12_turn_83 ?_
    refine g_iload_n hC dX12_turn_86 rfl ?_
    refine g_iload hC dX12_turn_87 rfl ?_
    obtain ⟨o52, h53⟩ := h49
    obtain ⟨o54, h55⟩ := h53
    refine zr_iast hC hZ51 zk_65 zb_65 zn_65 (by decide) o52 o54 (hZ.ra 65 _) dX12_turn_89 (fun F56 hZ57 => ?_)
    refine g_aload_n hC dX12_turn_90 rfl ?_
    refine zr_geta hC hZ57 fl_X12_212 zb_66 (by decide) dX12_turn_91 ?_
    refine g_iload_n hC dX12_turn_94 rfl ?_
    refine g_iload hC dX12_turn_95 rfl ?_
    obtain ⟨o58, h59⟩ := h55
    obtain ⟨o60, h61⟩ := h59
    refine zr_iast hC hZ57 zk_66 zb_66 zn_66 (by decide) o58 o60 (hZ.ra 66 _) dX12_turn_97 (fun F62 hZ63 => ?_)
    refine zr_iinc (x := x2) (lv' := [some (.ref t), none, some (.int (zI (x2 + 1))), some (.int (zI x3)), some (.int (zI (za s0 64 (Int.toNat x2)))), some (.int (zI (za s0 65 (Int.toNat x2)))), some (.int (zI (za s0 66 (Int.toNat x2))))]) hC dX12_turn_98 rfl rfl rfl ?_
    refine zr_iinc (x := x3) (lv' := [some (.ref t), none, some (.int (zI (x2 + 1))), some (.int (zI (x3 + (-1)))), some (.int (zI (za s0 64 (Int.toNat x2)))), some (.int (zI (za s0 65 (Int.toNat x2)))), some (.int (zI (za s0 66 (Int.toNat x2))))]) hC dX12_turn_101 rfl rfl rfl ?_
    refine g_goto (tgt := 9) hC dX12_turn_104 (by decide) ?_
    obtain ⟨o64, h65⟩ := h61
    obtain ⟨o66, h67⟩ := h65
    refine g_lv (lv' := [some (.ref t), none, some (.int (zI (x2 + 1))), some (.int (zI (x3 + (-1)))), none, none, none]) ⟨rfl, rfl, rfl, trivial⟩ ?_
    exact hk9 _ _ _ _ o64 o66 hZ63 h67
theorem rl_turn_9 {X : gX} {d : gD} {b t : Nat} {T : Nat → Nat} {F0 : gM} (hC : gC RX12 cX12_turn 7 none "turn" (gR 0 0 0) d b X) {Q : zS → Prop}   : ∀ (m : Nat) (F : gM) (s0 : zS) (x2 : Int) (x3 : Int), zR x2 → zR x3 → zZ d t T F0 F s0 → wr_turn_9 Q  m s0 x2 x3 → gG X d b (zQv X d b t T F0 Q) F 0 0 9 [some (.ref t), none, some (.int (zI x2)), some (.int (zI x3)), none, none, none] [] := by
  intro m
  induction m with
  | zero => intro F s0 x2 x3 Rx2 Rx3 hZ hw; exact False.elim hw
  | succ m ih => intro F s0 x2 x3 Rx2 Rx3 hZ hw; exact rb_turn_9 hC  ih Rx2 Rx3 hZ hw
set_option maxHeartbeats 4000000 in
set_option maxRecDepth 100000 in
theorem rm_turn (l : Launch) (d : gD) (b : Nat) {t : Nat} {T : Nat → Nat} {F : gM} {s0 : zS} {a0 : Int} (Ra0 : zR a0) {Q : zS → Prop} (hZ : zZ d t T F F s0) (hw : wr_turn s0 a0 Q) : gMv l d b yX12_turn cX12_turn 7 0 0 0 F [.ref t, .int (zI a0)] (zPv d t T F Q) := by
  refine gM_of2 rfl (nL := 7) (Nat.le_of_ble_eq_true rfl) ?_
  intro X hX hC; subst hX
  show gG X d b (zQv X d b t T F Q) F 0 0 0 [some (.ref t), some (.int (zI a0)), none, none, none, none, none] []
  unfold wr_turn at hw
  refine g_iload_n hC dX12_turn_0 rfl ?_
  refine g_istore_n (lv' := [some (.ref t), some (.int (zI a0)), some (.int (zI a0)), none, none, none, none]) hC dX12_turn_1 (Nat.le_of_ble_eq_true rfl) rfl rfl ?_
  refine g_aload_n hC dX12_turn_2 rfl ?_
  refine zr_get (e := (zv s0 63)) hC hZ fl_X12_203 zb_63 (by decide) rfl dX12_turn_3 ?_
  refine g_iconst (v := zI 1) hC dX12_turn_6 rfl ?_
  refine zr_isub hC dX12_turn_7 ?_
  refine g_istore_n (lv' := [some (.ref t), some (.int (zI a0)), some (.int (zI a0)), some (.int (zI ((zv s0 63) - 1))), none, none, none]) hC dX12_turn_8 (Nat.le_of_ble_eq_true rfl) rfl rfl ?_
  obtain ⟨o1, h2⟩ := hw
  refine g_lv (lv' := [some (.ref t), none, some (.int (zI a0)), some (.int (zI ((zv s0 63) - 1))), none, none, none]) ⟨rfl, rfl, rfl, trivial⟩ ?_
  obtain ⟨m3, h4⟩ := h2
  exact rl_turn_9 hC  m3 _ _ _ _ Ra0 o1 hZ h4
theorem dX12_children_0 : decode cX12_children 0 = .ok (.aload_n 0, 1) := by decide +kernel
theorem dX12_children_1 : decode cX12_children 1 = .ok (.getfield 203, 3) := by decide +kernel
theorem dX12_children_4 : decode cX12_children 4 = .ok (.istore_n 3, 1) := by decide +kernel
theorem dX12_children_5 : decode cX12_children 5 = .ok (.aload_n 0, 1) := by decide +kernel
theorem dX12_children_6 : decode cX12_children 6 = .ok (.getfield 93, 3) := by decide +kernel
theorem dX12_children_9 : decode cX12_children 9 = .ok (.iload_n 1, 1) := by decide +kernel
theorem dX12_children_10 : decode cX12_children 10 = .ok (.iaload, 1) := by decide +kernel
theorem dX12_children_11 : decode cX12_children 11 = .ok (.istore 4, 2) := by decide +kernel
theorem dX12_children_13 : decode cX12_children 13 = .ok (.iload 4, 2) := by decide +kernel
theorem dX12_children_15 : decode cX12_children 15 = .ok (.ifCond .lt 23, 3) := by decide +kernel
theorem dX12_children_18 : decode cX12_children 18 = .ok (.aload_n 0, 1) := by decide +kernel
theorem dX12_children_19 : decode cX12_children 19 = .ok (.iload_n 2, 1) := by decide +kernel
theorem dX12_children_20 : decode cX12_children 20 = .ok (.iload 4, 2) := by decide +kernel
theorem dX12_children_22 : decode cX12_children 22 = .ok (.iconst 0, 1) := by decide +kernel
theorem dX12_children_23 : decode cX12_children 23 = .ok (.invokevirtual 647, 3) := by decide +kernel
theorem dX12_children_26 : decode cX12_children 26 = .ok (.aload_n 0, 1) := by decide +kernel
theorem dX12_children_27 : decode cX12_children 27 = .ok (.getfield 96, 3) := by decide +kernel
theorem dX12_children_30 : decode cX12_children 30 = .ok (.iload 4, 2) := by decide +kernel
theorem dX12_children_32 : decode cX12_children 32 = .ok (.iaload, 1) := by decide +kernel
theorem dX12_children_33 : decode cX12_children 33 = .ok (.istore 4, 2) := by decide +kernel
theorem dX12_children_35 : decode cX12_children 35 = .ok (.goto (-22), 3) := by decide +kernel
theorem dX12_children_38 : decode cX12_children 38 = .ok (.aload_n 0, 1) := by decide +kernel
theorem dX12_children_39 : decode cX12_children 39 = .ok (.iload_n 3, 1) := by decide +kernel
theorem dX12_children_40 : decode cX12_children 40 = .ok (.invokevirtual 650, 3) := by decide +kernel
theorem dX12_children_43 : decode cX12_children 43 = .ok (.return_, 1) := by decide +kernel
def wr_children_13B (Q : zS → Prop) (k13 : zS → Int → Int → Int → Prop) (s0 : zS) (x2 : Int) (x3 : Int) (x4 : Int) : Prop :=
  ((x4 < 0 → wr_turn s0 x3 (fun s4 => Q s4)) ∧ (¬ x4 < 0 → wr_task s0 x2 x4 0 (fun s11 => (0 ≤ x4) ∧ (x4 < 26000) ∧ k13 s11 x2 x3 (za s11 28 (Int.toNat x4)))))
def wr_children_13 (Q : zS → Prop)  : Nat → zS → Int → Int → Int → Prop
  | 0 => fun _ _ _ _ => False
  | m + 1 => fun s0 x2 x3 x4 => wr_children_13B Q  (wr_children_13 Q  m) s0 x2 x3 x4
def wr_children (s0 : zS) (a0 : Int) (a1 : Int) (Q : zS → Prop) : Prop :=
  (0 ≤ a0) ∧ (a0 < 26000) ∧ ∃ n, wr_children_13 Q  n s0 a1 (zv s0 63) (za s0 27 (Int.toNat a0))
set_option maxHeartbeats 4000000 in
set_option maxRecDepth 100000 in
theorem rb_children_13 {X : gX} {d : gD} {b t : Nat} {T : Nat → Nat} {F0 : gM} (hC : gC RX12 cX12_children 5 none "children" (gR 1 0 0) d b X) {Q : zS → Prop} {k13 : zS → Int → Int → Int → Prop} (hk13 : ∀ (F : gM) (s0 : zS) (x2 : Int) (x3 : Int) (x4 : Int), zR x2 → zR x3 → zR x4 → zZ d t T F0 F s0 → k13 s0 x2 x3 x4 → gG X d b (zQv X d b t T F0 Q) F 0 0 13 [some (.ref t), none, some (.int (zI x2)), some (.int (zI x3)), some (.int (zI x4))] []) {F : gM} {s0 : zS} {x2 : Int} {x3 : Int} {x4 : Int} (Rx2 : zR x2) (Rx3 : zR x3) (Rx4 : zR x4) (hZ : zZ d t T F0 F s0) (hw : wr_children_13B Q k13 s0 x2 x3 x4) : gG X d b (zQv X d b t T F0 Q) F 0 0 13 [some (.ref t), none, some (.int (zI x2)), some (.int (zI x3)), some (.int (zI x4))] [] := by
  unfold wr_children_13B at hw
  refine g_iload hC dX12_children_13 rfl ?_
  refine zr_if_lt (tgt := 38) hC Rx4 dX12_children_15 (by decide) (fun c1 => ?_) (fun c1 => ?_)
  · have h2 := hw.1 c1
    refine g_aload_n hC dX12_children_38 rfl ?_
    refine g_iload_n hC dX12_children_39 rfl ?_
    refine zr_callVv (As := [.int (zI x3)]) hC hZ rfl (rm_turn X.la d b Rx3 hZ.rf h2) cl_X12_650 rfl rfl (Nat.le_of_ble_eq_true rfl) ⟨Nat.le_of_ble_eq_true rfl, Nat.le_of_ble_eq_true rfl⟩ dX12_children_40 (fun s4 F5 hZ7 h8 => ?_)
    exact zr_vret hC hZ7 h8 dX12_children_43
  · have h9 := hw.2 c1
    refine g_aload_n hC dX12_children_18 rfl ?_
    refine g_iload_n hC dX12_children_19 rfl ?_
    refine g_iload hC dX12_children_20 rfl ?_
    refine g_iconst (v := zI 0) hC dX12_children_22 rfl ?_
    refine zr_callVv (As := [.int (zI x2), .int (zI x4), .int (zI 0)]) hC hZ rfl (rm_task X.la d b Rx2 Rx4 (by decide) hZ.rf h9) cl_X12_647 rfl rfl (Nat.le_of_ble_eq_true rfl) ⟨Nat.le_of_ble_eq_true rfl, Nat.le_of_ble_eq_true rfl⟩ dX12_children_23 (fun s11 F12 hZ14 h15 => ?_)
    refine g_aload_n hC dX12_children_26 rfl ?_
    refine zr_geta hC hZ14 fl_X12_96 zb_28 (by decide) dX12_children_27 ?_
    refine g_iload hC dX12_children_30 rfl ?_
    obtain ⟨o16, h17⟩ := h15
    obtain ⟨o18, h19⟩ := h17
    refine zr_iald (v := (za s11 28 (Int.toNat x4))) hC hZ14 zk_28 zb_28 zn_28 (by decide) o16 o18 rfl dX12_children_32 ?_
    refine g_istore (lv' := [some (.ref t), none, some (.int (zI x2)), some (.int (zI x3)), some (.int (zI (za s11 28 (Int.toNat x4))))]) hC dX12_children_33 (Nat.le_of_ble_eq_true rfl) rfl rfl ?_
    refine g_goto (tgt := 13) hC dX12_children_35 (by decide) ?_
    exact hk13 _ _ _ _ _ Rx2 Rx3 (hZ14.ra 28 _) hZ14 h19
theorem rl_children_13 {X : gX} {d : gD} {b t : Nat} {T : Nat → Nat} {F0 : gM} (hC : gC RX12 cX12_children 5 none "children" (gR 1 0 0) d b X) {Q : zS → Prop}   : ∀ (m : Nat) (F : gM) (s0 : zS) (x2 : Int) (x3 : Int) (x4 : Int), zR x2 → zR x3 → zR x4 → zZ d t T F0 F s0 → wr_children_13 Q  m s0 x2 x3 x4 → gG X d b (zQv X d b t T F0 Q) F 0 0 13 [some (.ref t), none, some (.int (zI x2)), some (.int (zI x3)), some (.int (zI x4))] [] := by
  intro m
  induction m with
  | zero => intro F s0 x2 x3 x4 Rx2 Rx3 Rx4 hZ hw; exact False.elim hw
  | succ m ih => intro F s0 x2 x3 x4 Rx2 Rx3 Rx4 hZ hw; exact rb_children_13 hC  ih Rx2 Rx3 Rx4 hZ hw
set_option maxHeartbeats 4000000 in
set_option maxRecDepth 100000 in
theorem rm_children (l : Launch) (d : gD) (b : Nat) {t : Nat} {T : Nat → Nat} {F : gM} {s0 : zS} {a0 : Int} {a1 : Int} (Ra0 : zR a0) (Ra1 : zR a1) {Q : zS → Prop} (hZ : zZ d t T F F s0) (hw : wr_children s0 a0 a1 Q) : gMv l d b yX12_children cX12_children 5 1 0 0 F [.ref t, .int (zI a0), .int (zI a1)] (zPv d t T F Q) := by
  refine gM_of2 rfl (nL := 5) (Nat.le_of_ble_eq_true rfl) ?_
  intro X hX hC; subst hX
  show gG X d b (zQv X d b t T F Q) F 0 0 0 [some (.ref t), some (.int (zI a0)), some (.int (zI a1)), none, none] []
  unfold wr_children at hw
  refine g_aload_n hC dX12_children_0 rfl ?_
  refine zr_get (e := (zv s0 63)) hC hZ fl_X12_203 zb_63 (by decide) rfl dX12_children_1 ?_
  refine g_istore_n (lv' := [some (.ref t), some (.int (zI a0)), some (.int (zI a1)), some (.int (zI (zv s0 63))), none]) hC dX12_children_4 (Nat.le_of_ble_eq_true rfl) rfl rfl ?_
  refine g_aload_n hC dX12_children_5 rfl ?_
  refine zr_geta hC hZ fl_X12_93 zb_27 (by decide) dX12_children_6 ?_
  refine g_iload_n hC dX12_children_9 rfl ?_
  obtain ⟨o1, h2⟩ := hw
  obtain ⟨o3, h4⟩ := h2
  refine zr_iald (v := (za s0 27 (Int.toNat a0))) hC hZ zk_27 zb_27 zn_27 (by decide) o1 o3 rfl dX12_children_10 ?_
  refine g_istore (lv' := [some (.ref t), some (.int (zI a0)), some (.int (zI a1)), some (.int (zI (zv s0 63))), some (.int (zI (za s0 27 (Int.toNat a0))))]) hC dX12_children_11 (Nat.le_of_ble_eq_true rfl) rfl rfl ?_
  refine g_lv (lv' := [some (.ref t), none, some (.int (zI a1)), some (.int (zI (zv s0 63))), some (.int (zI (za s0 27 (Int.toNat a0))))]) ⟨rfl, rfl, rfl, rfl, trivial⟩ ?_
  obtain ⟨m5, h6⟩ := h4
  exact rl_children_13 hC  m5 _ _ _ _ _ Ra1 (hZ.rv 63) (hZ.ra 27 _) hZ h6
theorem dX12_lib_0 : decode cX12_lib 0 = .ok (.iconst (-1), 1) := by decide +kernel
theorem dX12_lib_1 : decode cX12_lib 1 = .ok (.istore 6, 2) := by decide +kernel
theorem dX12_lib_3 : decode cX12_lib 3 = .ok (.iconst 0, 1) := by decide +kernel
theorem dX12_lib_4 : decode cX12_lib 4 = .ok (.istore 7, 2) := by decide +kernel
theorem dX12_lib_6 : decode cX12_lib 6 = .ok (.iload 7, 2) := by decide +kernel
theorem dX12_lib_8 : decode cX12_lib 8 = .ok (.aload_n 0, 1) := by decide +kernel
theorem dX12_lib_9 : decode cX12_lib 9 = .ok (.getfield 26, 3) := by decide +kernel
theorem dX12_lib_12 : decode cX12_lib 12 = .ok (.if_icmp .ge 36, 3) := by decide +kernel
theorem dX12_lib_15 : decode cX12_lib 15 = .ok (.aload_n 0, 1) := by decide +kernel
theorem dX12_lib_16 : decode cX12_lib 16 = .ok (.aload_n 0, 1) := by decide +kernel
theorem dX12_lib_17 : decode cX12_lib 17 = .ok (.getfield 29, 3) := by decide +kernel
theorem dX12_lib_20 : decode cX12_lib 20 = .ok (.iload 7, 2) := by decide +kernel
theorem dX12_lib_22 : decode cX12_lib 22 = .ok (.iaload, 1) := by decide +kernel
theorem dX12_lib_23 : decode cX12_lib 23 = .ok (.aload_n 0, 1) := by decide +kernel
theorem dX12_lib_24 : decode cX12_lib 24 = .ok (.getfield 33, 3) := by decide +kernel
theorem dX12_lib_27 : decode cX12_lib 27 = .ok (.iload 7, 2) := by decide +kernel
theorem dX12_lib_29 : decode cX12_lib 29 = .ok (.iaload, 1) := by decide +kernel
theorem dX12_lib_30 : decode cX12_lib 30 = .ok (.lload_n 1, 1) := by decide +kernel
theorem dX12_lib_31 : decode cX12_lib 31 = .ok (.lload_n 3, 1) := by decide +kernel
theorem dX12_lib_32 : decode cX12_lib 32 = .ok (.invokevirtual 377, 3) := by decide +kernel
theorem dX12_lib_35 : decode cX12_lib 35 = .ok (.ifCond .eq 7, 3) := by decide +kernel
theorem dX12_lib_38 : decode cX12_lib 38 = .ok (.iload 7, 2) := by decide +kernel
theorem dX12_lib_40 : decode cX12_lib 40 = .ok (.istore 6, 2) := by decide +kernel
theorem dX12_lib_42 : decode cX12_lib 42 = .ok (.iinc 7 1, 3) := by decide +kernel
theorem dX12_lib_45 : decode cX12_lib 45 = .ok (.goto (-39), 3) := by decide +kernel
theorem dX12_lib_48 : decode cX12_lib 48 = .ok (.iload 6, 2) := by decide +kernel
theorem dX12_lib_50 : decode cX12_lib 50 = .ok (.ifCond .lt 20, 3) := by decide +kernel
theorem dX12_lib_53 : decode cX12_lib 53 = .ok (.aload_n 0, 1) := by decide +kernel
theorem dX12_lib_54 : decode cX12_lib 54 = .ok (.iload 6, 2) := by decide +kernel
theorem dX12_lib_56 : decode cX12_lib 56 = .ok (.bipush 6, 2) := by decide +kernel
theorem dX12_lib_58 : decode cX12_lib 58 = .ok (.ldc_w 697, 3) := by decide +kernel
theorem dX12_lib_61 : decode cX12_lib 61 = .ok (.iload 5, 2) := by decide +kernel
theorem dX12_lib_63 : decode cX12_lib 63 = .ok (.iadd, 1) := by decide +kernel
theorem dX12_lib_64 : decode cX12_lib 64 = .ok (.iconst 0, 1) := by decide +kernel
theorem dX12_lib_65 : decode cX12_lib 65 = .ok (.iconst 0, 1) := by decide +kernel
theorem dX12_lib_66 : decode cX12_lib 66 = .ok (.invokevirtual 609, 3) := by decide +kernel
theorem dX12_lib_69 : decode cX12_lib 69 = .ok (.pop, 1) := by decide +kernel
theorem dX12_lib_70 : decode cX12_lib 70 = .ok (.return_, 1) := by decide +kernel
def wr_lib_6B (Q : zS → Prop) (k6 : zS → Int → Int → Int → Int → Int → Prop) (s0 : zS) (x1 : Int) (x3 : Int) (x5 : Int) (x6 : Int) (x7 : Int) : Prop :=
  (((zv s0 5) ≤ x7 → ((x6 < 0 → Q s0) ∧ (¬ x6 < 0 → (zR (2000000 + x5)) ∧ wr_entry s0 x6 6 (2000000 + x5) 0 0 (fun r8 s9 => Q s9)))) ∧ (¬ (zv s0 5) ≤ x7 → (0 ≤ x7) ∧ (x7 < 3100) ∧ (0 ≤ x7) ∧ (x7 < 3100) ∧ wr_isText s0 (za s0 6 (Int.toNat x7)) (za s0 7 (Int.toNat x7)) x1 x3 (fun r23 s24 => ((r23 = 0 → (zR (x7 + 1)) ∧ k6 s24 x1 x3 x5 x6 (x7 + 1)) ∧ (¬ r23 = 0 → (zR (x7 + 1)) ∧ k6 s24 x1 x3 x5 x7 (x7 + 1))))))
def wr_lib_6 (Q : zS → Prop)  : Nat → zS → Int → Int → Int → Int → Int → Prop
  | 0 => fun _ _ _ _ _ _ => False
  | m + 1 => fun s0 x1 x3 x5 x6 x7 => wr_lib_6B Q  (wr_lib_6 Q  m) s0 x1 x3 x5 x6 x7
def wr_lib (s0 : zS) (a0 : Int) (a1 : Int) (a2 : Int) (Q : zS → Prop) : Prop :=
  ∃ n, wr_lib_6 Q  n s0 a0 a1 a2 (-1) 0
set_option maxHeartbeats 4000000 in
set_option maxRecDepth 100000 in
theorem rb_lib_6 {X : gX} {d : gD} {b t : Nat} {T : Nat → Nat} {F0 : gM} (hC : gC RX12 cX12_lib 8 none "lib" (gR 1 0 0) d b X) {Q : zS → Prop} {k6 : zS → Int → Int → Int → Int → Int → Prop} (hk6 : ∀ (F : gM) (s0 : zS) (x1 : Int) (x3 : Int) (x5 : Int) (x6 : Int) (x7 : Int), zL x1 → zL x3 → zR x5 → zR x6 → zR x7 → zZ d t T F0 F s0 → k6 s0 x1 x3 x5 x6 x7 → gG X d b (zQv X d b t T F0 Q) F 0 0 6 [some (.ref t), some (.long (zJ x1)), none, some (.long (zJ x3)), none, some (.int (zI x5)), some (.int (zI x6)), some (.int (zI x7))] []) {F : gM} {s0 : zS} {x1 : Int} {x3 : Int} {x5 : Int} {x6 : Int} {x7 : Int} (Rx1 : zL x1) (Rx3 : zL x3) (Rx5 : zR x5) (Rx6 : zR x6) (Rx7 : zR x7) (hZ : zZ d t T F0 F s0) (hw : wr_lib_6B Q k6 s0 x1 x3 x5 x6 x7) : gG X d b (zQv X d b t T F0 Q) F 0 0 6 [some (.ref t), some (.long (zJ x1)), none, some (.long (zJ x3)), none, some (.int (zI x5)), some (.int (zI x6)), some (.int (zI x7))] [] := by
  unfold wr_lib_6B at hw
  refine g_iload hC dX12_lib_6 rfl ?_
  refine g_aload_n hC dX12_lib_8 rfl ?_
  refine zr_get (e := (zv s0 5)) hC hZ fl_X12_26 zb_5 (by decide) rfl dX12_lib_9 ?_
  refine zr_icmp_ge (tgt := 48) hC Rx7 (hZ.rv 5) dX12_lib_12 (by decide) (fun c1 => ?_) (fun c1 => ?_)
  · have h2 := hw.1 c1
    refine g_iload hC dX12_lib_48 rfl ?_
    refine zr_if_lt (tgt := 70) hC Rx6 dX12_lib_50 (by decide) (fun c3 => ?_) (fun c3 => ?_)
    · have h4 := h2.1 c3
      exact zr_vret hC hZ h4 dX12_lib_70
    · have h5 := h2.2 c3
      refine g_aload_n hC dX12_lib_53 rfl ?_
      refine g_iload hC dX12_lib_54 rfl ?_
      refine g_bipush (v := zI 6) hC dX12_lib_56 rfl ?_
      refine zr_ldcw (e := 2000000) hC dX12_lib_58 kw_2552 (by decide) ?_
      refine g_iload hC dX12_lib_61 rfl ?_
      refine zr_iadd hC dX12_lib_63 ?_
      refine g_iconst (v := zI 0) hC dX12_lib_64 rfl ?_
      refine g_iconst (v := zI 0) hC dX12_lib_65 rfl ?_
      obtain ⟨o6, h7⟩ := h5
      refine zr_callVi (As := [.int (zI x6), .int (zI 6), .int (zI (2000000 + x5)), .int (zI 0), .int (zI 0)]) hC hZ rfl (rm_entry X.la d b Rx6 (by decide) o6 (by decide) (by decide) hZ.rf h7) cl_X12_609 rfl rfl (Nat.le_of_ble_eq_true rfl) ⟨Nat.le_of_ble_eq_true rfl, Nat.le_of_ble_eq_true rfl⟩ dX12_lib_66 (fun r8 s9 F10 R11 hZ12 h13 => ?_)
      refine g_pop hC dX12_lib_69 rfl ?_
      exact zr_vret hC hZ12 h13 dX12_lib_70
  · have h14 := hw.2 c1
    refine g_aload_n hC dX12_lib_15 rfl ?_
    refine g_aload_n hC dX12_lib_16 rfl ?_
    refine zr_geta hC hZ fl_X12_29 zb_6 (by decide) dX12_lib_17 ?_
    refine g_iload hC dX12_lib_20 rfl ?_
    obtain ⟨o15, h16⟩ := h14
    obtain ⟨o17, h18⟩ := h16
    refine zr_iald (v := (za s0 6 (Int.toNat x7))) hC hZ zk_6 zb_6 zn_6 (by decide) o15 o17 rfl dX12_lib_22 ?_
    refine g_aload_n hC dX12_lib_23 rfl ?_
    refine zr_geta hC hZ fl_X12_33 zb_7 (by decide) dX12_lib_24 ?_
    refine g_iload hC dX12_lib_27 rfl ?_
    obtain ⟨o19, h20⟩ := h18
    obtain ⟨o21, h22⟩ := h20
    refine zr_iald (v := (za s0 7 (Int.toNat x7))) hC hZ zk_7 zb_7 zn_7 (by decide) o19 o21 rfl dX12_lib_29 ?_
    refine g_lload_n hC dX12_lib_30 rfl ?_
    refine g_lload_n hC dX12_lib_31 rfl ?_
    refine zr_callVi (As := [.int (zI (za s0 6 (Int.toNat x7))), .int (zI (za s0 7 (Int.toNat x7))), .long (zJ x1), .long (zJ x3)]) hC hZ rfl (rm_isText X.la d b (hZ.ra 6 _) (hZ.ra 7 _) Rx1 Rx3 hZ.rf h22) cl_X12_377 rfl rfl (Nat.le_of_ble_eq_true rfl) ⟨Nat.le_of_ble_eq_true rfl, Nat.le_of_ble_eq_true rfl⟩ dX12_lib_32 (fun r23 s24 F25 R26 hZ27 h28 => ?_)
    refine zr_if_eq (tgt := 42) hC R26 dX12_lib_35 (by decide) (fun c29 => ?_) (fun c29 => ?_)
    · have h30 := h28.1 c29
      refine zr_iinc (x := x7) (lv' := [some (.ref t), some (.long (zJ x1)), none, some (.long (zJ x3)), none, some (.int (zI x5)), some (.int (zI x6)), some (.int (zI (x7 + 1)))]) hC dX12_lib_42 rfl rfl rfl ?_
      refine g_goto (tgt := 6) hC dX12_lib_45 (by decide) ?_
      obtain ⟨o31, h32⟩ := h30
      exact hk6 _ _ _ _ _ _ _ Rx1 Rx3 Rx5 Rx6 o31 hZ27 h32
    · have h33 := h28.2 c29
      refine g_iload hC dX12_lib_38 rfl ?_
      refine g_istore (lv' := [some (.ref t), some (.long (zJ x1)), none, some (.long (zJ x3)), none, some (.int (zI x5)), some (.int (zI x7)), some (.int (zI x7))]) hC dX12_lib_40 (Nat.le_of_ble_eq_true rfl) rfl rfl ?_
      refine zr_iinc (x := x7) (lv' := [some (.ref t), some (.long (zJ x1)), none, some (.long (zJ x3)), none, some (.int (zI x5)), some (.int (zI x7)), some (.int (zI (x7 + 1)))]) hC dX12_lib_42 rfl rfl rfl ?_
      refine g_goto (tgt := 6) hC dX12_lib_45 (by decide) ?_
      obtain ⟨o34, h35⟩ := h33
      exact hk6 _ _ _ _ _ _ _ Rx1 Rx3 Rx5 Rx7 o34 hZ27 h35
theorem rl_lib_6 {X : gX} {d : gD} {b t : Nat} {T : Nat → Nat} {F0 : gM} (hC : gC RX12 cX12_lib 8 none "lib" (gR 1 0 0) d b X) {Q : zS → Prop}   : ∀ (m : Nat) (F : gM) (s0 : zS) (x1 : Int) (x3 : Int) (x5 : Int) (x6 : Int) (x7 : Int), zL x1 → zL x3 → zR x5 → zR x6 → zR x7 → zZ d t T F0 F s0 → wr_lib_6 Q  m s0 x1 x3 x5 x6 x7 → gG X d b (zQv X d b t T F0 Q) F 0 0 6 [some (.ref t), some (.long (zJ x1)), none, some (.long (zJ x3)), none, some (.int (zI x5)), some (.int (zI x6)), some (.int (zI x7))] [] := by
  intro m
  induction m with
  | zero => intro F s0 x1 x3 x5 x6 x7 Rx1 Rx3 Rx5 Rx6 Rx7 hZ hw; exact False.elim hw
  | succ m ih => intro F s0 x1 x3 x5 x6 x7 Rx1 Rx3 Rx5 Rx6 Rx7 hZ hw; exact rb_lib_6 hC  ih Rx1 Rx3 Rx5 Rx6 Rx7 hZ hw
set_option maxHeartbeats 4000000 in
set_option maxRecDepth 100000 in
theorem rm_lib (l : Launch) (d : gD) (b : Nat) {t : Nat} {T : Nat → Nat} {F : gM} {s0 : zS} {a0 : Int} {a1 : Int} {a2 : Int} (Ra0 : zL a0) (Ra1 : zL a1) (Ra2 : zR a2) {Q : zS → Prop} (hZ : zZ d t T F F s0) (hw : wr_lib s0 a0 a1 a2 Q) : gMv l d b yX12_lib cX12_lib 8 1 0 0 F [.ref t, .long (zJ a0), .long (zJ a1), .int (zI a2)] (zPv d t T F Q) := by
  refine gM_of2 rfl (nL := 8) (Nat.le_of_ble_eq_true rfl) ?_
  intro X hX hC; subst hX
  show gG X d b (zQv X d b t T F Q) F 0 0 0 [some (.ref t), some (.long (zJ a0)), none, some (.long (zJ a1)), none, some (.int (zI a2)), none, none] []
  unfold wr_lib at hw
  refine g_iconst (v := zI (-1)) hC dX12_lib_0 rfl ?_
  refine g_istore (lv' := [some (.ref t), some (.long (zJ a0)), none, some (.long (zJ a1)), none, some (.int (zI a2)), some (.int (zI (-1))), none]) hC dX12_lib_1 (Nat.le_of_ble_eq_true rfl) rfl rfl ?_
  refine g_iconst (v := zI 0) hC dX12_lib_3 rfl ?_
  refine g_istore (lv' := [some (.ref t), some (.long (zJ a0)), none, some (.long (zJ a1)), none, some (.int (zI a2)), some (.int (zI (-1))), some (.int (zI 0))]) hC dX12_lib_4 (Nat.le_of_ble_eq_true rfl) rfl rfl ?_
  obtain ⟨m1, h2⟩ := hw
  exact rl_lib_6 hC  m1 _ _ _ _ _ _ _ Ra0 Ra1 Ra2 (by decide) (by decide) hZ h2
theorem dX12_library_0 : decode cX12_library 0 = .ok (.aload_n 0, 1) := by decide +kernel
theorem dX12_library_1 : decode cX12_library 1 = .ok (.iconst 0, 1) := by decide +kernel
theorem dX12_library_2 : decode cX12_library 2 = .ok (.putfield 160, 3) := by decide +kernel
theorem dX12_library_5 : decode cX12_library 5 = .ok (.aload_n 0, 1) := by decide +kernel
theorem dX12_library_6 : decode cX12_library 6 = .ok (.ldc2_w 653, 3) := by decide +kernel
theorem dX12_library_9 : decode cX12_library 9 = .ok (.lconst 0, 1) := by decide +kernel
theorem dX12_library_10 : decode cX12_library 10 = .ok (.iconst 0, 1) := by decide +kernel
theorem dX12_library_11 : decode cX12_library 11 = .ok (.invokevirtual 655, 3) := by decide +kernel
theorem dX12_library_14 : decode cX12_library 14 = .ok (.aload_n 0, 1) := by decide +kernel
theorem dX12_library_15 : decode cX12_library 15 = .ok (.ldc2_w 659, 3) := by decide +kernel
theorem dX12_library_18 : decode cX12_library 18 = .ok (.lconst 0, 1) := by decide +kernel
theorem dX12_library_19 : decode cX12_library 19 = .ok (.iconst 1, 1) := by decide +kernel
theorem dX12_library_20 : decode cX12_library 20 = .ok (.invokevirtual 655, 3) := by decide +kernel
theorem dX12_library_23 : decode cX12_library 23 = .ok (.aload_n 0, 1) := by decide +kernel
theorem dX12_library_24 : decode cX12_library 24 = .ok (.ldc2_w 661, 3) := by decide +kernel
theorem dX12_library_27 : decode cX12_library 27 = .ok (.lconst 0, 1) := by decide +kernel
theorem dX12_library_28 : decode cX12_library 28 = .ok (.iconst 2, 1) := by decide +kernel
theorem dX12_library_29 : decode cX12_library 29 = .ok (.invokevirtual 655, 3) := by decide +kernel
theorem dX12_library_32 : decode cX12_library 32 = .ok (.aload_n 0, 1) := by decide +kernel
theorem dX12_library_33 : decode cX12_library 33 = .ok (.ldc2_w 663, 3) := by decide +kernel
theorem dX12_library_36 : decode cX12_library 36 = .ok (.lconst 0, 1) := by decide +kernel
theorem dX12_library_37 : decode cX12_library 37 = .ok (.iconst 3, 1) := by decide +kernel
theorem dX12_library_38 : decode cX12_library 38 = .ok (.invokevirtual 655, 3) := by decide +kernel
theorem dX12_library_41 : decode cX12_library 41 = .ok (.aload_n 0, 1) := by decide +kernel
theorem dX12_library_42 : decode cX12_library 42 = .ok (.ldc2_w 665, 3) := by decide +kernel
theorem dX12_library_45 : decode cX12_library 45 = .ok (.lconst 0, 1) := by decide +kernel
theorem dX12_library_46 : decode cX12_library 46 = .ok (.iconst 4, 1) := by decide +kernel
theorem dX12_library_47 : decode cX12_library 47 = .ok (.invokevirtual 655, 3) := by decide +kernel
theorem dX12_library_50 : decode cX12_library 50 = .ok (.aload_n 0, 1) := by decide +kernel
theorem dX12_library_51 : decode cX12_library 51 = .ok (.ldc2_w 667, 3) := by decide +kernel
theorem dX12_library_54 : decode cX12_library 54 = .ok (.lconst 0, 1) := by decide +kernel
theorem dX12_library_55 : decode cX12_library 55 = .ok (.iconst 5, 1) := by decide +kernel
theorem dX12_library_56 : decode cX12_library 56 = .ok (.invokevirtual 655, 3) := by decide +kernel
theorem dX12_library_59 : decode cX12_library 59 = .ok (.aload_n 0, 1) := by decide +kernel
theorem dX12_library_60 : decode cX12_library 60 = .ok (.ldc2_w 669, 3) := by decide +kernel
theorem dX12_library_63 : decode cX12_library 63 = .ok (.lconst 0, 1) := by decide +kernel
theorem dX12_library_64 : decode cX12_library 64 = .ok (.bipush 6, 2) := by decide +kernel
theorem dX12_library_66 : decode cX12_library 66 = .ok (.invokevirtual 655, 3) := by decide +kernel
theorem dX12_library_69 : decode cX12_library 69 = .ok (.aload_n 0, 1) := by decide +kernel
theorem dX12_library_70 : decode cX12_library 70 = .ok (.ldc2_w 671, 3) := by decide +kernel
theorem dX12_library_73 : decode cX12_library 73 = .ok (.lconst 0, 1) := by decide +kernel
theorem dX12_library_74 : decode cX12_library 74 = .ok (.bipush 7, 2) := by decide +kernel
theorem dX12_library_76 : decode cX12_library 76 = .ok (.invokevirtual 655, 3) := by decide +kernel
theorem dX12_library_79 : decode cX12_library 79 = .ok (.aload_n 0, 1) := by decide +kernel
theorem dX12_library_80 : decode cX12_library 80 = .ok (.ldc2_w 673, 3) := by decide +kernel
theorem dX12_library_83 : decode cX12_library 83 = .ok (.ldc2_w 675, 3) := by decide +kernel
theorem dX12_library_86 : decode cX12_library 86 = .ok (.bipush 8, 2) := by decide +kernel
theorem dX12_library_88 : decode cX12_library 88 = .ok (.invokevirtual 655, 3) := by decide +kernel
theorem dX12_library_91 : decode cX12_library 91 = .ok (.aload_n 0, 1) := by decide +kernel
theorem dX12_library_92 : decode cX12_library 92 = .ok (.ldc2_w 677, 3) := by decide +kernel
theorem dX12_library_95 : decode cX12_library 95 = .ok (.ldc2_w 679, 3) := by decide +kernel
theorem dX12_library_98 : decode cX12_library 98 = .ok (.bipush 9, 2) := by decide +kernel
theorem dX12_library_100 : decode cX12_library 100 = .ok (.invokevirtual 655, 3) := by decide +kernel
theorem dX12_library_103 : decode cX12_library 103 = .ok (.aload_n 0, 1) := by decide +kernel
theorem dX12_library_104 : decode cX12_library 104 = .ok (.ldc2_w 681, 3) := by decide +kernel
theorem dX12_library_107 : decode cX12_library 107 = .ok (.lconst 0, 1) := by decide +kernel
theorem dX12_library_108 : decode cX12_library 108 = .ok (.bipush 10, 2) := by decide +kernel
theorem dX12_library_110 : decode cX12_library 110 = .ok (.invokevirtual 655, 3) := by decide +kernel
theorem dX12_library_113 : decode cX12_library 113 = .ok (.aload_n 0, 1) := by decide +kernel
theorem dX12_library_114 : decode cX12_library 114 = .ok (.ldc2_w 683, 3) := by decide +kernel
theorem dX12_library_117 : decode cX12_library 117 = .ok (.lconst 0, 1) := by decide +kernel
theorem dX12_library_118 : decode cX12_library 118 = .ok (.bipush 11, 2) := by decide +kernel
theorem dX12_library_120 : decode cX12_library 120 = .ok (.invokevirtual 655, 3) := by decide +kernel
theorem dX12_library_123 : decode cX12_library 123 = .ok (.aload_n 0, 1) := by decide +kernel
theorem dX12_library_124 : decode cX12_library 124 = .ok (.ldc2_w 685, 3) := by decide +kernel
theorem dX12_library_127 : decode cX12_library 127 = .ok (.lconst 0, 1) := by decide +kernel
theorem dX12_library_128 : decode cX12_library 128 = .ok (.bipush 12, 2) := by decide +kernel
theorem dX12_library_130 : decode cX12_library 130 = .ok (.invokevirtual 655, 3) := by decide +kernel
theorem dX12_library_133 : decode cX12_library 133 = .ok (.aload_n 0, 1) := by decide +kernel
theorem dX12_library_134 : decode cX12_library 134 = .ok (.ldc2_w 687, 3) := by decide +kernel
theorem dX12_library_137 : decode cX12_library 137 = .ok (.lconst 0, 1) := by decide +kernel
theorem dX12_library_138 : decode cX12_library 138 = .ok (.bipush 13, 2) := by decide +kernel
theorem dX12_library_140 : decode cX12_library 140 = .ok (.invokevirtual 655, 3) := by decide +kernel
theorem dX12_library_143 : decode cX12_library 143 = .ok (.aload_n 0, 1) := by decide +kernel
theorem dX12_library_144 : decode cX12_library 144 = .ok (.ldc2_w 689, 3) := by decide +kernel
theorem dX12_library_147 : decode cX12_library 147 = .ok (.lconst 0, 1) := by decide +kernel
theorem dX12_library_148 : decode cX12_library 148 = .ok (.bipush 14, 2) := by decide +kernel
theorem dX12_library_150 : decode cX12_library 150 = .ok (.invokevirtual 655, 3) := by decide +kernel
theorem dX12_library_153 : decode cX12_library 153 = .ok (.aload_n 0, 1) := by decide +kernel
theorem dX12_library_154 : decode cX12_library 154 = .ok (.ldc2_w 691, 3) := by decide +kernel
theorem dX12_library_157 : decode cX12_library 157 = .ok (.lconst 0, 1) := by decide +kernel
theorem dX12_library_158 : decode cX12_library 158 = .ok (.bipush 15, 2) := by decide +kernel
theorem dX12_library_160 : decode cX12_library 160 = .ok (.invokevirtual 655, 3) := by decide +kernel
theorem dX12_library_163 : decode cX12_library 163 = .ok (.aload_n 0, 1) := by decide +kernel
theorem dX12_library_164 : decode cX12_library 164 = .ok (.ldc2_w 693, 3) := by decide +kernel
theorem dX12_library_167 : decode cX12_library 167 = .ok (.lconst 0, 1) := by decide +kernel
theorem dX12_library_168 : decode cX12_library 168 = .ok (.bipush 16, 2) := by decide +kernel
theorem dX12_library_170 : decode cX12_library 170 = .ok (.invokevirtual 655, 3) := by decide +kernel
theorem dX12_library_173 : decode cX12_library 173 = .ok (.aload_n 0, 1) := by decide +kernel
theorem dX12_library_174 : decode cX12_library 174 = .ok (.ldc2_w 695, 3) := by decide +kernel
theorem dX12_library_177 : decode cX12_library 177 = .ok (.lconst 0, 1) := by decide +kernel
theorem dX12_library_178 : decode cX12_library 178 = .ok (.bipush 17, 2) := by decide +kernel
theorem dX12_library_180 : decode cX12_library 180 = .ok (.invokevirtual 655, 3) := by decide +kernel
theorem dX12_library_183 : decode cX12_library 183 = .ok (.return_, 1) := by decide +kernel
def wr_library (s0 : zS)  (Q : zS → Prop) : Prop :=
  wr_lib (zpv s0 49 0) 96010929194318 0 0 (fun s4 => wr_lib s4 96010929194323 0 1 (fun s10 => wr_lib s10 1465008968 0 2 (fun s16 => wr_lib s16 22031289427775045 0 3 (fun s22 => wr_lib s22 1380205384 0 4 (fun s28 => wr_lib s28 1398034256 0 5 (fun s34 => wr_lib s34 4276819 0 6 (fun s40 => wr_lib s40 93794876015432 0 7 (fun s46 => wr_lib s46 6000285938907105614 5264724 8 (fun s52 => wr_lib s52 6000285938907107157 1414550868 9 (fun s58 => wr_lib s58 90457770643012 0 10 (fun s64 => wr_lib s64 78363093255491 0 11 (fun s70 => wr_lib s70 19793705839248707 0 12 (fun s76 => wr_lib s76 18384196524721475 0 13 (fun s82 => wr_lib s82 85028747102550 0 14 (fun s88 => wr_lib s88 96010929194308 0 15 (fun s94 => wr_lib s94 6292172255678448984 0 16 (fun s100 => wr_lib s100 353349223502 0 17 (fun s106 => Q s106))))))))))))))))))
set_option maxHeartbeats 4000000 in
set_option maxRecDepth 100000 in
theorem rm_library (l : Launch) (d : gD) (b : Nat) {t : Nat} {T : Nat → Nat} {F : gM} {s0 : zS}   {Q : zS → Prop} (hZ : zZ d t T F F s0) (hw : wr_library s0  Q) : gMv l d b yX12_library cX12_library 1 2 0 0 F [.ref t] (zPv d t T F Q) := by
  refine gM_of2 rfl (nL := 1) (Nat.le_of_ble_eq_true rfl) ?_
  intro X hX hC; subst hX
  show gG X d b (zQv X d b t T F Q) F 0 0 0 [some (.ref t)] []
  unfold wr_library at hw
  refine g_aload_n hC dX12_library_0 rfl ?_
  refine g_iconst (v := zI 0) hC dX12_library_1 rfl ?_
  refine zr_put hC hZ fl_X12_160 zb_49 (by decide) (by decide) dX12_library_2 (fun F1 hZ2 => ?_)
  refine g_aload_n hC dX12_library_5 rfl ?_
  refine zr_ldc2 (e := 96010929194318) hC dX12_library_6 kw_2547 (by decide) ?_
  refine g_lconst (v := zJ 0) hC dX12_library_9 rfl ?_
  refine g_iconst (v := zI 0) hC dX12_library_10 rfl ?_
  refine zr_callVv (As := [.long (zJ 96010929194318), .long (zJ 0), .int (zI 0)]) hC hZ2 rfl (rm_lib X.la d b (by decide) (by decide) (by decide) hZ2.rf hw) cl_X12_655 rfl rfl (Nat.le_of_ble_eq_true rfl) ⟨Nat.le_of_ble_eq_true rfl, Nat.le_of_ble_eq_true rfl⟩ dX12_library_11 (fun s4 F5 hZ7 h8 => ?_)
  refine g_aload_n hC dX12_library_14 rfl ?_
  refine zr_ldc2 (e := 96010929194323) hC dX12_library_15 kw_2557 (by decide) ?_
  refine g_lconst (v := zJ 0) hC dX12_library_18 rfl ?_
  refine g_iconst (v := zI 1) hC dX12_library_19 rfl ?_
  refine zr_callVv (As := [.long (zJ 96010929194323), .long (zJ 0), .int (zI 1)]) hC hZ7 rfl (rm_lib X.la d b (by decide) (by decide) (by decide) hZ7.rf h8) cl_X12_655 rfl rfl (Nat.le_of_ble_eq_true rfl) ⟨Nat.le_of_ble_eq_true rfl, Nat.le_of_ble_eq_true rfl⟩ dX12_library_20 (fun s10 F11 hZ13 h14 => ?_)
  refine g_aload_n hC dX12_library_23 rfl ?_
  refine zr_ldc2 (e := 1465008968) hC dX12_library_24 kw_2558 (by decide) ?_
  refine g_lconst (v := zJ 0) hC dX12_library_27 rfl ?_
  refine g_iconst (v := zI 2) hC dX12_library_28 rfl ?_
  refine zr_callVv (As := [.long (zJ 1465008968), .long (zJ 0), .int (zI 2)]) hC hZ13 rfl (rm_lib X.la d b (by decide) (by decide) (by decide) hZ13.rf h14) cl_X12_655 rfl rfl (Nat.le_of_ble_eq_true rfl) ⟨Nat.le_of_ble_eq_true rfl, Nat.le_of_ble_eq_true rfl⟩ dX12_library_29 (fun s16 F17 hZ19 h20 => ?_)
  refine g_aload_n hC dX12_library_32 rfl ?_
  refine zr_ldc2 (e := 22031289427775045) hC dX12_library_33 kw_2559 (by decide) ?_
  refine g_lconst (v := zJ 0) hC dX12_library_36 rfl ?_
  refine g_iconst (v := zI 3) hC dX12_library_37 rfl ?_
  refine zr_callVv (As := [.long (zJ 22031289427775045), .long (zJ 0), .int (zI 3)]) hC hZ19 rfl (rm_lib X.la d b (by decide) (by decide) (by decide) hZ19.rf h20) cl_X12_655 rfl rfl (Nat.le_of_ble_eq_true rfl) ⟨Nat.le_of_ble_eq_true rfl, Nat.le_of_ble_eq_true rfl⟩ dX12_library_38 (fun s22 F23 hZ25 h26 => ?_)
  refine g_aload_n hC dX12_library_41 rfl ?_
  refine zr_ldc2 (e := 1380205384) hC dX12_library_42 kw_2560 (by decide) ?_
  refine g_lconst (v := zJ 0) hC dX12_library_45 rfl ?_
  refine g_iconst (v := zI 4) hC dX12_library_46 rfl ?_
  refine zr_callVv (As := [.long (zJ 1380205384), .long (zJ 0), .int (zI 4)]) hC hZ25 rfl (rm_lib X.la d b (by decide) (by decide) (by decide) hZ25.rf h26) cl_X12_655 rfl rfl (Nat.le_of_ble_eq_true rfl) ⟨Nat.le_of_ble_eq_true rfl, Nat.le_of_ble_eq_true rfl⟩ dX12_library_47 (fun s28 F29 hZ31 h32 => ?_)
  refine g_aload_n hC dX12_library_50 rfl ?_
  refine zr_ldc2 (e := 1398034256) hC dX12_library_51 kw_2561 (by decide) ?_
  refine g_lconst (v := zJ 0) hC dX12_library_54 rfl ?_
  refine g_iconst (v := zI 5) hC dX12_library_55 rfl ?_
  refine zr_callVv (As := [.long (zJ 1398034256), .long (zJ 0), .int (zI 5)]) hC hZ31 rfl (rm_lib X.la d b (by decide) (by decide) (by decide) hZ31.rf h32) cl_X12_655 rfl rfl (Nat.le_of_ble_eq_true rfl) ⟨Nat.le_of_ble_eq_true rfl, Nat.le_of_ble_eq_true rfl⟩ dX12_library_56 (fun s34 F35 hZ37 h38 => ?_)
  refine g_aload_n hC dX12_library_59 rfl ?_
  refine zr_ldc2 (e := 4276819) hC dX12_library_60 kw_2562 (by decide) ?_
  refine g_lconst (v := zJ 0) hC dX12_library_63 rfl ?_
  refine g_bipush (v := zI 6) hC dX12_library_64 rfl ?_
  refine zr_callVv (As := [.long (zJ 4276819), .long (zJ 0), .int (zI 6)]) hC hZ37 rfl (rm_lib X.la d b (by decide) (by decide) (by decide) hZ37.rf h38) cl_X12_655 rfl rfl (Nat.le_of_ble_eq_true rfl) ⟨Nat.le_of_ble_eq_true rfl, Nat.le_of_ble_eq_true rfl⟩ dX12_library_66 (fun s40 F41 hZ43 h44 => ?_)
  refine g_aload_n hC dX12_library_69 rfl ?_
  refine zr_ldc2 (e := 93794876015432) hC dX12_library_70 kw_2563 (by decide) ?_
  refine g_lconst (v := zJ 0) hC dX12_library_73 rfl ?_
  refine g_bipush (v := zI 7) hC dX12_library_74 rfl ?_
  refine zr_callVv (As := [.long (zJ 93794876015432), .long (zJ 0), .int (zI 7)]) hC hZ43 rfl (rm_lib X.la d b (by decide) (by decide) (by decide) hZ43.rf h44) cl_X12_655 rfl rfl (Nat.le_of_ble_eq_true rfl) ⟨Nat.le_of_ble_eq_true rfl, Nat.le_of_ble_eq_true rfl⟩ dX12_library_76 (fun s46 F47 hZ49 h50 => ?_)
  refine g_aload_n hC dX12_library_79 rfl ?_
  refine zr_ldc2 (e := 6000285938907105614) hC dX12_library_80 kw_2564 (by decide) ?_
  refine zr_ldc2 (e := 5264724) hC dX12_library_83 kw_2565 (by decide) ?_
  refine g_bipush (v := zI 8) hC dX12_library_86 rfl ?_
  refine zr_callVv (As := [.long (zJ 6000285938907105614), .long (zJ 5264724), .int (zI 8)]) hC hZ49 rfl (rm_lib X.la d b (by decide) (by decide) (by decide) hZ49.rf h50) cl_X12_655 rfl rfl (Nat.le_of_ble_eq_true rfl) ⟨Nat.le_of_ble_eq_true rfl, Nat.le_of_ble_eq_true rfl⟩ dX12_library_88 (fun s52 F53 hZ55 h56 => ?_)
  refine g_aload_n hC dX12_library_91 rfl ?_
  refine zr_ldc2 (e := 6000285938907107157) hC dX12_library_92 kw_2566 (by decide) ?_
  refine zr_ldc2 (e := 1414550868) hC dX12_library_95 kw_2567 (by decide) ?_
  refine g_bipush (v := zI 9) hC dX12_library_98 rfl ?_
  refine zr_callVv (As := [.long (zJ 6000285938907107157), .long (zJ 1414550868), .int (zI 9)]) hC hZ55 rfl (rm_lib X.la d b (by decide) (by decide) (by decide) hZ55.rf h56) cl_X12_655 rfl rfl (Nat.le_of_ble_eq_true rfl) ⟨Nat.le_of_ble_eq_true rfl, Nat.le_of_ble_eq_true rfl⟩ dX12_library_100 (fun s58 F59 hZ61 h62 => ?_)
  refine g_aload_n hC dX12_library_103 rfl ?_
  refine zr_ldc2 (e := 90457770643012) hC dX12_library_104 kw_2568 (by decide) ?_
  refine g_lconst (v := zJ 0) hC dX12_library_107 rfl ?_
  refine g_bipush (v := zI 10) hC dX12_library_108 rfl ?_
  refine zr_callVv (As := [.long (zJ 90457770643012), .long (zJ 0), .int (zI 10)]) hC hZ61 rfl (rm_lib X.la d b (by decide) (by decide) (by decide) hZ61.rf h62) cl_X12_655 rfl rfl (Nat.le_of_ble_eq_true rfl) ⟨Nat.le_of_ble_eq_true rfl, Nat.le_of_ble_eq_true rfl⟩ dX12_library_110 (fun s64 F65 hZ67 h68 => ?_)
  refine g_aload_n hC dX12_library_113 rfl ?_
  refine zr_ldc2 (e := 78363093255491) hC dX12_library_114 kw_2569 (by decide) ?_
  refine g_lconst (v := zJ 0) hC dX12_library_117 rfl ?_
  refine g_bipush (v := zI 11) hC dX12_library_118 rfl ?_
  refine zr_callVv (As := [.long (zJ 78363093255491), .long (zJ 0), .int (zI 11)]) hC hZ67 rfl (rm_lib X.la d b (by decide) (by decide) (by decide) hZ67.rf h68) cl_X12_655 rfl rfl (Nat.le_of_ble_eq_true rfl) ⟨Nat.le_of_ble_eq_true rfl, Nat.le_of_ble_eq_true rfl⟩ dX12_library_120 (fun s70 F71 hZ73 h74 => ?_)
  refine g_aload_n hC dX12_library_123 rfl ?_
  refine zr_ldc2 (e := 19793705839248707) hC dX12_library_124 kw_2570 (by decide) ?_
  refine g_lconst (v := zJ 0) hC dX12_library_127 rfl ?_
  refine g_bipush (v := zI 12) hC dX12_library_128 rfl ?_
  refine zr_callVv (As := [.long (zJ 19793705839248707), .long (zJ 0), .int (zI 12)]) hC hZ73 rfl (rm_lib X.la d b (by decide) (by decide) (by decide) hZ73.rf h74) cl_X12_655 rfl rfl (Nat.le_of_ble_eq_true rfl) ⟨Nat.le_of_ble_eq_true rfl, Nat.le_of_ble_eq_true rfl⟩ dX12_library_130 (fun s76 F77 hZ79 h80 => ?_)
  refine g_aload_n hC dX12_library_133 rfl ?_
  refine zr_ldc2 (e := 18384196524721475) hC dX12_library_134 kw_2571 (by decide) ?_
  refine g_lconst (v := zJ 0) hC dX12_library_137 rfl ?_
  refine g_bipush (v := zI 13) hC dX12_library_138 rfl ?_
  refine zr_callVv (As := [.long (zJ 18384196524721475), .long (zJ 0), .int (zI 13)]) hC hZ79 rfl (rm_lib X.la d b (by decide) (by decide) (by decide) hZ79.rf h80) cl_X12_655 rfl rfl (Nat.le_of_ble_eq_true rfl) ⟨Nat.le_of_ble_eq_true rfl, Nat.le_of_ble_eq_true rfl⟩ dX12_library_140 (fun s82 F83 hZ85 h86 => ?_)
  refine g_aload_n hC dX12_library_143 rfl ?_
  refine zr_ldc2 (e := 85028747102550) hC dX12_library_144 kw_2572 (by decide) ?_
  refine g_lconst (v := zJ 0) hC dX12_library_147 rfl ?_
  refine g_bipush (v := zI 14) hC dX12_library_148 rfl ?_
  refine zr_callVv (As := [.long (zJ 85028747102550), .long (zJ 0), .int (zI 14)]) hC hZ85 rfl (rm_lib X.la d b (by decide) (by decide) (by decide) hZ85.rf h86) cl_X12_655 rfl rfl (Nat.le_of_ble_eq_true rfl) ⟨Nat.le_of_ble_eq_true rfl, Nat.le_of_ble_eq_true rfl⟩ dX12_library_150 (fun s88 F89 hZ91 h92 => ?_)
  refine g_aload_n hC dX12_library_153 rfl ?_
  refine zr_ldc2 (e := 96010929194308) hC dX12_library_154 kw_2573 (by decide) ?_
  refine g_lconst (v := zJ 0) hC dX12_library_157 rfl ?_
  refine g_bipush (v := zI 15) hC dX12_library_158 rfl ?_
  refine zr_callVv (As := [.long (zJ 96010929194308), .long (zJ 0), .int (zI 15)]) hC hZ91 rfl (rm_lib X.la d b (by decide) (by decide) (by decide) hZ91.rf h92) cl_X12_655 rfl rfl (Nat.le_of_ble_eq_true rfl) ⟨Nat.le_of_ble_eq_true rfl, Nat.le_of_ble_eq_true rfl⟩ dX12_library_160 (fun s94 F95 hZ97 h98 => ?_)
  refine g_aload_n hC dX12_library_163 rfl ?_
  refine zr_ldc2 (e := 6292172255678448984) hC dX12_library_164 kw_2574 (by decide) ?_
  refine g_lconst (v := zJ 0) hC dX12_library_167 rfl ?_
  refine g_bipush (v := zI 16) hC dX12_library_168 rfl ?_
  refine zr_callVv (As := [.long (zJ 6292172255678448984), .long (zJ 0), .int (zI 16)]) hC hZ97 rfl (rm_lib X.la d b (by decide) (by decide) (by decide) hZ97.rf h98) cl_X12_655 rfl rfl (Nat.le_of_ble_eq_true rfl) ⟨Nat.le_of_ble_eq_true rfl, Nat.le_of_ble_eq_true rfl⟩ dX12_library_170 (fun s100 F101 hZ103 h104 => ?_)
  refine g_aload_n hC dX12_library_173 rfl ?_
  refine zr_ldc2 (e := 353349223502) hC dX12_library_174 kw_2575 (by decide) ?_
  refine g_lconst (v := zJ 0) hC dX12_library_177 rfl ?_
  refine g_bipush (v := zI 17) hC dX12_library_178 rfl ?_
  refine zr_callVv (As := [.long (zJ 353349223502), .long (zJ 0), .int (zI 17)]) hC hZ103 rfl (rm_lib X.la d b (by decide) (by decide) (by decide) hZ103.rf h104) cl_X12_655 rfl rfl (Nat.le_of_ble_eq_true rfl) ⟨Nat.le_of_ble_eq_true rfl, Nat.le_of_ble_eq_true rfl⟩ dX12_library_180 (fun s106 F107 hZ109 h110 => ?_)
  exact zr_vret hC hZ109 h110 dX12_library_183
theorem dX12_nameToken_0 : decode cX12_nameToken 0 = .ok (.aload_n 0, 1) := by decide +kernel
theorem dX12_nameToken_1 : decode cX12_nameToken 1 = .ok (.getfield 45, 3) := by decide +kernel
theorem dX12_nameToken_4 : decode cX12_nameToken 4 = .ok (.aload_n 0, 1) := by decide +kernel
theorem dX12_nameToken_5 : decode cX12_nameToken 5 = .ok (.getfield 90, 3) := by decide +kernel
theorem dX12_nameToken_8 : decode cX12_nameToken 8 = .ok (.iload_n 1, 1) := by decide +kernel
theorem dX12_nameToken_9 : decode cX12_nameToken 9 = .ok (.iaload, 1) := by decide +kernel
theorem dX12_nameToken_10 : decode cX12_nameToken 10 = .ok (.iaload, 1) := by decide +kernel
theorem dX12_nameToken_11 : decode cX12_nameToken 11 = .ok (.ireturn, 1) := by decide +kernel
def wr_nameToken (s0 : zS) (a0 : Int) (Q : Int → zS → Prop) : Prop :=
  (0 ≤ a0) ∧ (a0 < 26000) ∧ (0 ≤ (za s0 26 (Int.toNat a0))) ∧ ((za s0 26 (Int.toNat a0)) < 12100) ∧ Q (za s0 11 (Int.toNat (za s0 26 (Int.toNat a0)))) s0
set_option maxHeartbeats 4000000 in
set_option maxRecDepth 100000 in
theorem rm_nameToken (l : Launch) (d : gD) (b : Nat) {t : Nat} {T : Nat → Nat} {F : gM} {s0 : zS} {a0 : Int} (Ra0 : zR a0) {Q : Int → zS → Prop} (hZ : zZ d t T F F s0) (hw : wr_nameToken s0 a0 Q) : gMi l d b yX12_nameToken cX12_nameToken 2 .int 0 0 0 F [.ref t, .int (zI a0)] (zPi d t T F Q) := by
  refine gM_of2 rfl (nL := 2) (Nat.le_of_ble_eq_true rfl) ?_
  intro X hX hC; subst hX
  show gG X d b (zQi X d b t T F Q) F 0 0 0 [some (.ref t), some (.int (zI a0))] []
  unfold wr_nameToken at hw
  refine g_aload_n hC dX12_nameToken_0 rfl ?_
  refine zr_geta hC hZ fl_X12_45 zb_11 (by decide) dX12_nameToken_1 ?_
  refine g_aload_n hC dX12_nameToken_4 rfl ?_
  refine zr_geta hC hZ fl_X12_90 zb_26 (by decide) dX12_nameToken_5 ?_
  refine g_iload_n hC dX12_nameToken_8 rfl ?_
  obtain ⟨o1, h2⟩ := hw
  obtain ⟨o3, h4⟩ := h2
  refine zr_iald (v := (za s0 26 (Int.toNat a0))) hC hZ zk_26 zb_26 zn_26 (by decide) o1 o3 rfl dX12_nameToken_9 ?_
  obtain ⟨o5, h6⟩ := h4
  obtain ⟨o7, h8⟩ := h6
  refine zr_iald (v := (za s0 11 (Int.toNat (za s0 26 (Int.toNat a0))))) hC hZ zk_11 zb_11 zn_11 (by decide) o5 o7 rfl dX12_nameToken_10 ?_
  exact zr_iret hC hZ (hZ.ra 11 _) h8 dX12_nameToken_11
theorem dX12_letRoutines_0 : decode cX12_letRoutines 0 = .ok (.aload_n 0, 1) := by decide +kernel
theorem dX12_letRoutines_1 : decode cX12_letRoutines 1 = .ok (.getfield 234, 3) := by decide +kernel
theorem dX12_letRoutines_4 : decode cX12_letRoutines 4 = .ok (.ifCond .ge 7, 3) := by decide +kernel
theorem dX12_letRoutines_7 : decode cX12_letRoutines 7 = .ok (.iconst 1, 1) := by decide +kernel
theorem dX12_letRoutines_8 : decode cX12_letRoutines 8 = .ok (.goto 4, 3) := by decide +kernel
theorem dX12_letRoutines_11 : decode cX12_letRoutines 11 = .ok (.iconst 0, 1) := by decide +kernel
theorem dX12_letRoutines_12 : decode cX12_letRoutines 12 = .ok (.istore_n 2, 1) := by decide +kernel
theorem dX12_letRoutines_13 : decode cX12_letRoutines 13 = .ok (.aload_n 0, 1) := by decide +kernel
theorem dX12_letRoutines_14 : decode cX12_letRoutines 14 = .ok (.getfield 93, 3) := by decide +kernel
theorem dX12_letRoutines_17 : decode cX12_letRoutines 17 = .ok (.iload_n 1, 1) := by decide +kernel
theorem dX12_letRoutines_18 : decode cX12_letRoutines 18 = .ok (.iaload, 1) := by decide +kernel
theorem dX12_letRoutines_19 : decode cX12_letRoutines 19 = .ok (.istore_n 3, 1) := by decide +kernel
theorem dX12_letRoutines_20 : decode cX12_letRoutines 20 = .ok (.iload_n 3, 1) := by decide +kernel
theorem dX12_letRoutines_21 : decode cX12_letRoutines 21 = .ok (.ifCond .lt 148, 3) := by decide +kernel
theorem dX12_letRoutines_24 : decode cX12_letRoutines 24 = .ok (.aload_n 0, 1) := by decide +kernel
theorem dX12_letRoutines_25 : decode cX12_letRoutines 25 = .ok (.iload_n 3, 1) := by decide +kernel
theorem dX12_letRoutines_26 : decode cX12_letRoutines 26 = .ok (.invokevirtual 749, 3) := by decide +kernel
theorem dX12_letRoutines_29 : decode cX12_letRoutines 29 = .ok (.istore 4, 2) := by decide +kernel
theorem dX12_letRoutines_31 : decode cX12_letRoutines 31 = .ok (.iload_n 2, 1) := by decide +kernel
theorem dX12_letRoutines_32 : decode cX12_letRoutines 32 = .ok (.ifCond .eq 12, 3) := by decide +kernel
theorem dX12_letRoutines_35 : decode cX12_letRoutines 35 = .ok (.aload_n 0, 1) := by decide +kernel
theorem dX12_letRoutines_36 : decode cX12_letRoutines 36 = .ok (.iload 4, 2) := by decide +kernel
theorem dX12_letRoutines_38 : decode cX12_letRoutines 38 = .ok (.invokevirtual 619, 3) := by decide +kernel
theorem dX12_letRoutines_41 : decode cX12_letRoutines 41 = .ok (.goto 4, 3) := by decide +kernel
theorem dX12_letRoutines_44 : decode cX12_letRoutines 44 = .ok (.iconst (-1), 1) := by decide +kernel
theorem dX12_letRoutines_45 : decode cX12_letRoutines 45 = .ok (.istore 5, 2) := by decide +kernel
theorem dX12_letRoutines_47 : decode cX12_letRoutines 47 = .ok (.aload_n 0, 1) := by decide +kernel
theorem dX12_letRoutines_48 : decode cX12_letRoutines 48 = .ok (.getfield 102, 3) := by decide +kernel
theorem dX12_letRoutines_51 : decode cX12_letRoutines 51 = .ok (.iload_n 3, 1) := by decide +kernel
theorem dX12_letRoutines_52 : decode cX12_letRoutines 52 = .ok (.iconst 0, 1) := by decide +kernel
theorem dX12_letRoutines_53 : decode cX12_letRoutines 53 = .ok (.iastore, 1) := by decide +kernel
theorem dX12_letRoutines_54 : decode cX12_letRoutines 54 = .ok (.iload 5, 2) := by decide +kernel
theorem dX12_letRoutines_56 : decode cX12_letRoutines 56 = .ok (.ifCond .lt 61, 3) := by decide +kernel
theorem dX12_letRoutines_59 : decode cX12_letRoutines 59 = .ok (.aload_n 0, 1) := by decide +kernel
theorem dX12_letRoutines_60 : decode cX12_letRoutines 60 = .ok (.getfield 166, 3) := by decide +kernel
theorem dX12_letRoutines_63 : decode cX12_letRoutines 63 = .ok (.iload 5, 2) := by decide +kernel
theorem dX12_letRoutines_65 : decode cX12_letRoutines 65 = .ok (.iaload, 1) := by decide +kernel
theorem dX12_letRoutines_66 : decode cX12_letRoutines 66 = .ok (.iconst 1, 1) := by decide +kernel
theorem dX12_letRoutines_67 : decode cX12_letRoutines 67 = .ok (.if_icmp .ne 50, 3) := by decide +kernel
theorem dX12_letRoutines_70 : decode cX12_letRoutines 70 = .ok (.aload_n 0, 1) := by decide +kernel
theorem dX12_letRoutines_71 : decode cX12_letRoutines 71 = .ok (.getfield 175, 3) := by decide +kernel
theorem dX12_letRoutines_74 : decode cX12_letRoutines 74 = .ok (.iload 5, 2) := by decide +kernel
theorem dX12_letRoutines_76 : decode cX12_letRoutines 76 = .ok (.iaload, 1) := by decide +kernel
theorem dX12_letRoutines_77 : decode cX12_letRoutines 77 = .ok (.iconst 1, 1) := by decide +kernel
theorem dX12_letRoutines_78 : decode cX12_letRoutines 78 = .ok (.if_icmp .ne 18, 3) := by decide +kernel
theorem dX12_letRoutines_81 : decode cX12_letRoutines 81 = .ok (.aload_n 0, 1) := by decide +kernel
theorem dX12_letRoutines_82 : decode cX12_letRoutines 82 = .ok (.iconst 4, 1) := by decide +kernel
theorem dX12_letRoutines_83 : decode cX12_letRoutines 83 = .ok (.aload_n 0, 1) := by decide +kernel
theorem dX12_letRoutines_84 : decode cX12_letRoutines 84 = .ok (.aload_n 0, 1) := by decide +kernel
theorem dX12_letRoutines_85 : decode cX12_letRoutines 85 = .ok (.getfield 90, 3) := by decide +kernel
theorem dX12_letRoutines_88 : decode cX12_letRoutines 88 = .ok (.iload_n 3, 1) := by decide +kernel
theorem dX12_letRoutines_89 : decode cX12_letRoutines 89 = .ok (.iaload, 1) := by decide +kernel
theorem dX12_letRoutines_90 : decode cX12_letRoutines 90 = .ok (.invokevirtual 613, 3) := by decide +kernel
theorem dX12_letRoutines_93 : decode cX12_letRoutines 93 = .ok (.invokevirtual 605, 3) := by decide +kernel
theorem dX12_letRoutines_96 : decode cX12_letRoutines 96 = .ok (.aload_n 0, 1) := by decide +kernel
theorem dX12_letRoutines_97 : decode cX12_letRoutines 97 = .ok (.getfield 175, 3) := by decide +kernel
theorem dX12_letRoutines_100 : decode cX12_letRoutines 100 = .ok (.iload 5, 2) := by decide +kernel
theorem dX12_letRoutines_102 : decode cX12_letRoutines 102 = .ok (.iconst 1, 1) := by decide +kernel
theorem dX12_letRoutines_103 : decode cX12_letRoutines 103 = .ok (.iastore, 1) := by decide +kernel
theorem dX12_letRoutines_104 : decode cX12_letRoutines 104 = .ok (.aload_n 0, 1) := by decide +kernel
theorem dX12_letRoutines_105 : decode cX12_letRoutines 105 = .ok (.getfield 102, 3) := by decide +kernel
theorem dX12_letRoutines_108 : decode cX12_letRoutines 108 = .ok (.iload_n 3, 1) := by decide +kernel
theorem dX12_letRoutines_109 : decode cX12_letRoutines 109 = .ok (.iconst 1, 1) := by decide +kernel
theorem dX12_letRoutines_110 : decode cX12_letRoutines 110 = .ok (.iload 5, 2) := by decide +kernel
theorem dX12_letRoutines_112 : decode cX12_letRoutines 112 = .ok (.iadd, 1) := by decide +kernel
theorem dX12_letRoutines_113 : decode cX12_letRoutines 113 = .ok (.iastore, 1) := by decide +kernel
theorem dX12_letRoutines_114 : decode cX12_letRoutines 114 = .ok (.goto 20, 3) := by decide +kernel
theorem dX12_letRoutines_117 : decode cX12_letRoutines 117 = .ok (.aload_n 0, 1) := by decide +kernel
theorem dX12_letRoutines_118 : decode cX12_letRoutines 118 = .ok (.iload 4, 2) := by decide +kernel
theorem dX12_letRoutines_120 : decode cX12_letRoutines 120 = .ok (.aload_n 0, 1) := by decide +kernel
theorem dX12_letRoutines_121 : decode cX12_letRoutines 121 = .ok (.getfield 90, 3) := by decide +kernel
theorem dX12_letRoutines_124 : decode cX12_letRoutines 124 = .ok (.iload_n 3, 1) := by decide +kernel
theorem dX12_letRoutines_125 : decode cX12_letRoutines 125 = .ok (.iaload, 1) := by decide +kernel
theorem dX12_letRoutines_126 : decode cX12_letRoutines 126 = .ok (.iconst 3, 1) := by decide +kernel
theorem dX12_letRoutines_127 : decode cX12_letRoutines 127 = .ok (.iload_n 3, 1) := by decide +kernel
theorem dX12_letRoutines_128 : decode cX12_letRoutines 128 = .ok (.iconst 0, 1) := by decide +kernel
theorem dX12_letRoutines_129 : decode cX12_letRoutines 129 = .ok (.iconst 0, 1) := by decide +kernel
theorem dX12_letRoutines_130 : decode cX12_letRoutines 130 = .ok (.invokevirtual 752, 3) := by decide +kernel
theorem dX12_letRoutines_133 : decode cX12_letRoutines 133 = .ok (.pop, 1) := by decide +kernel
theorem dX12_letRoutines_134 : decode cX12_letRoutines 134 = .ok (.iload_n 2, 1) := by decide +kernel
theorem dX12_letRoutines_135 : decode cX12_letRoutines 135 = .ok (.ifCond .eq 24, 3) := by decide +kernel
theorem dX12_letRoutines_138 : decode cX12_letRoutines 138 = .ok (.iload 4, 2) := by decide +kernel
theorem dX12_letRoutines_140 : decode cX12_letRoutines 140 = .ok (.aload_n 0, 1) := by decide +kernel
theorem dX12_letRoutines_141 : decode cX12_letRoutines 141 = .ok (.getfield 264, 3) := by decide +kernel
theorem dX12_letRoutines_144 : decode cX12_letRoutines 144 = .ok (.if_icmp .ne 15, 3) := by decide +kernel
theorem dX12_letRoutines_147 : decode cX12_letRoutines 147 = .ok (.aload_n 0, 1) := by decide +kernel
theorem dX12_letRoutines_148 : decode cX12_letRoutines 148 = .ok (.getfield 261, 3) := by decide +kernel
theorem dX12_letRoutines_151 : decode cX12_letRoutines 151 = .ok (.ifCond .ge 8, 3) := by decide +kernel
theorem dX12_letRoutines_154 : decode cX12_letRoutines 154 = .ok (.aload_n 0, 1) := by decide +kernel
theorem dX12_letRoutines_155 : decode cX12_letRoutines 155 = .ok (.iload_n 3, 1) := by decide +kernel
theorem dX12_letRoutines_156 : decode cX12_letRoutines 156 = .ok (.putfield 261, 3) := by decide +kernel
theorem dX12_letRoutines_159 : decode cX12_letRoutines 159 = .ok (.aload_n 0, 1) := by decide +kernel
theorem dX12_letRoutines_160 : decode cX12_letRoutines 160 = .ok (.getfield 96, 3) := by decide +kernel
theorem dX12_letRoutines_163 : decode cX12_letRoutines 163 = .ok (.iload_n 3, 1) := by decide +kernel
theorem dX12_letRoutines_164 : decode cX12_letRoutines 164 = .ok (.iaload, 1) := by decide +kernel
theorem dX12_letRoutines_165 : decode cX12_letRoutines 165 = .ok (.istore_n 3, 1) := by decide +kernel
theorem dX12_letRoutines_166 : decode cX12_letRoutines 166 = .ok (.goto (-146), 3) := by decide +kernel
theorem dX12_letRoutines_169 : decode cX12_letRoutines 169 = .ok (.aload_n 0, 1) := by decide +kernel
theorem dX12_letRoutines_170 : decode cX12_letRoutines 170 = .ok (.iload_n 1, 1) := by decide +kernel
theorem dX12_letRoutines_171 : decode cX12_letRoutines 171 = .ok (.bipush 6, 2) := by decide +kernel
theorem dX12_letRoutines_173 : decode cX12_letRoutines 173 = .ok (.invokevirtual 703, 3) := by decide +kernel
theorem dX12_letRoutines_176 : decode cX12_letRoutines 176 = .ok (.return_, 1) := by decide +kernel
def wr_letRoutines_134 (Q : zS → Prop) (k20 : zS → Int → Int → Int → Prop) (s0 : zS) (x1 : Int) (x2 : Int) (x3 : Int) (x4 : Int) : Prop :=
  ((x2 = 0 → (0 ≤ x3) ∧ (x3 < 26000) ∧ k20 s0 x1 x2 (za s0 28 (Int.toNat x3))) ∧ (¬ x2 = 0 → ((¬ x4 = (zv s0 83) → (0 ≤ x3) ∧ (x3 < 26000) ∧ k20 s0 x1 x2 (za s0 28 (Int.toNat x3))) ∧ (x4 = (zv s0 83) → ((0 ≤ (zv s0 82) → (0 ≤ x3) ∧ (x3 < 26000) ∧ k20 s0 x1 x2 (za s0 28 (Int.toNat x3))) ∧ (¬ 0 ≤ (zv s0 82) → (0 ≤ x3) ∧ (x3 < 26000) ∧ k20 (zpv s0 82 x3) x1 x2 (za s0 28 (Int.toNat x3))))))))
def wr_letRoutines_45 (Q : zS → Prop) (k20 : zS → Int → Int → Int → Prop) (s0 : zS) (x1 : Int) (x2 : Int) (x3 : Int) (x4 : Int) (y0 : Int) : Prop :=
  (0 ≤ x3) ∧ (x3 < 26000) ∧ ((y0 < 0 → (0 ≤ x3) ∧ (x3 < 26000) ∧ wr_declare (zpa s0 30 (Int.toNat x3) 0) x4 (za s0 26 (Int.toNat x3)) 3 x3 0 0 (fun r13 s14 => wr_letRoutines_134 Q k20 s14 x1 x2 x3 x4)) ∧ (¬ y0 < 0 → (0 ≤ y0) ∧ (y0 < 9000) ∧ ((¬ (za s0 51 (Int.toNat y0)) = 1 → (0 ≤ x3) ∧ (x3 < 26000) ∧ wr_declare (zpa s0 30 (Int.toNat x3) 0) x4 (za s0 26 (Int.toNat x3)) 3 x3 0 0 (fun r30 s31 => wr_letRoutines_134 Q k20 s31 x1 x2 x3 x4)) ∧ ((za s0 51 (Int.toNat y0)) = 1 → (0 ≤ y0) ∧ (y0 < 9000) ∧ ((¬ (za s0 54 (Int.toNat y0)) = 1 → (0 ≤ y0) ∧ (y0 < 9000) ∧ (0 ≤ x3) ∧ (x3 < 26000) ∧ (zR (1 + y0)) ∧ wr_letRoutines_134 Q k20 (zpa (zpa (zpa s0 30 (Int.toNat x3) 0) 54 (Int.toNat y0) 1) 30 (Int.toNat x3) (1 + y0)) x1 x2 x3 x4) ∧ ((za s0 54 (Int.toNat y0)) = 1 → (0 ≤ x3) ∧ (x3 < 26000) ∧ wr_place (zpa s0 30 (Int.toNat x3) 0) (za s0 26 (Int.toNat x3)) (fun r62 s63 => wr_fault s63 4 r62 (fun s69 => (0 ≤ y0) ∧ (y0 < 9000) ∧ (0 ≤ x3) ∧ (x3 < 26000) ∧ (zR (1 + y0)) ∧ wr_letRoutines_134 Q k20 (zpa (zpa s69 54 (Int.toNat y0) 1) 30 (Int.toNat x3) (1 + y0)) x1 x2 x3 x4))))))))
def wr_letRoutines_20B (Q : zS → Prop) (k20 : zS → Int → Int → Int → Prop) (s0 : zS) (x1 : Int) (x2 : Int) (x3 : Int) : Prop :=
  ((x3 < 0 → wr_children s0 x1 6 (fun s4 => Q s4)) ∧ (¬ x3 < 0 → wr_nameToken s0 x3 (fun r10 s11 => ((x2 = 0 → wr_letRoutines_45 Q k20 s11 x1 x2 x3 r10 (-1)) ∧ (¬ x2 = 0 → wr_means s11 r10 (fun r19 s20 => wr_letRoutines_45 Q k20 s20 x1 x2 x3 r10 r19))))))
def wr_letRoutines_20 (Q : zS → Prop)  : Nat → zS → Int → Int → Int → Prop
  | 0 => fun _ _ _ _ => False
  | m + 1 => fun s0 x1 x2 x3 => wr_letRoutines_20B Q  (wr_letRoutines_20 Q  m) s0 x1 x2 x3
def wr_letRoutines (s0 : zS) (a0 : Int) (Q : zS → Prop) : Prop :=
  ((0 ≤ (zv s0 73) → (0 ≤ a0) ∧ (a0 < 26000) ∧ ∃ n, wr_letRoutines_20 Q  n s0 a0 0 (za s0 27 (Int.toNat a0))) ∧ (¬ 0 ≤ (zv s0 73) → (0 ≤ a0) ∧ (a0 < 26000) ∧ ∃ n, wr_letRoutines_20 Q  n s0 a0 1 (za s0 27 (Int.toNat a0))))
set_option maxHeartbeats 4000000 in
set_option maxRecDepth 100000 in
theorem rj_letRoutines_134 {X : gX} {d : gD} {b t : Nat} {T : Nat → Nat} {F0 : gM} (hC : gC RX12 cX12_letRoutines 6 none "letRoutines" (gR 3 0 0) d b X) {Q : zS → Prop} {k20 : zS → Int → Int → Int → Prop} (hk20 : ∀ (F : gM) (s0 : zS) (x1 : Int) (x2 : Int) (x3 : Int), zR x1 → zR x2 → zR x3 → zZ d t T F0 F s0 → k20 s0 x1 x2 x3 → gG X d b (zQv X d b t T F0 Q) F 0 0 20 [some (.ref t), some (.int (zI x1)), some (.int (zI x2)), some (.int (zI x3)), none, none] []) {F : gM} {s0 : zS} {x1 : Int} {x2 : Int} {x3 : Int} {x4 : Int} (Rx1 : zR x1) (Rx2 : zR x2) (Rx3 : zR x3) (Rx4 : zR x4) (hZ : zZ d t T F0 F s0) (hw : wr_letRoutines_134 Q k20 s0 x1 x2 x3 x4) : gG X d b (zQv X d b t T F0 Q) F 0 0 134 [some (.ref t), some (.int (zI x1)), some (.int (zI x2)), some (.int (zI x3)), some (.int (zI x4)), none] [] := by
  unfold wr_letRoutines_134 at hw
  refine g_iload_n hC dX12_letRoutines_134 rfl ?_
  refine zr_if_eq (tgt := 159) hC Rx2 dX12_letRoutines_135 (by decide) (fun c1 => ?_) (fun c1 => ?_)
  · have h2 := hw.1 c1
    refine g_aload_n hC dX12_letRoutines_159 rfl ?_
    refine zr_geta hC hZ fl_X12_96 zb_28 (by decide) dX12_letRoutines_160 ?_
    refine g_iload_n hC dX12_letRoutines_163 rfl ?_
    obtain ⟨o3, h4⟩ := h2
    obtain ⟨o5, h6⟩ := h4
    refine zr_iald (v := (za s0 28 (Int.toNat x3))) hC hZ zk_28 zb_28 zn_28 (by decide) o3 o5 rfl dX12_letRoutines_164 ?_
    refine g_istore_n (lv' := [some (.ref t), some (.int (zI x1)), some (.int (zI x2)), some (.int (zI (za s0 28 (Int.toNat x3)))), some (.int (zI x4)), none]) hC dX12_letRoutines_165 (Nat.le_of_ble_eq_true rfl) rfl rfl ?_
    refine g_goto (tgt := 20) hC dX12_letRoutines_166 (by decide) ?_
    refine g_lv (lv' := [some (.ref t), some (.int (zI x1)), some (.int (zI x2)), some (.int (zI (za s0 28 (Int.toNat x3)))), none, none]) ⟨rfl, rfl, rfl, rfl, trivial⟩ ?_
    exact hk20 _ _ _ _ _ Rx1 Rx2 (hZ.ra 28 _) hZ h6
  · have h7 := hw.2 c1
    refine g_iload hC dX12_letRoutines_138 rfl ?_
    refine g_aload_n hC dX12_letRoutines_140 rfl ?_
    refine zr_get (e := (zv s0 83)) hC hZ fl_X12_264 zb_83 (by decide) rfl dX12_letRoutines_141 ?_
    refine zr_icmp_ne (tgt := 159) hC Rx4 (hZ.rv 83) dX12_letRoutines_144 (by decide) (fun c8 => ?_) (fun c8 => ?_)
    · have h9 := h7.1 c8
      refine g_aload_n hC dX12_letRoutines_159 rfl ?_
      refine zr_geta hC hZ fl_X12_96 zb_28 (by decide) dX12_letRoutines_160 ?_
      refine g_iload_n hC dX12_letRoutines_163 rfl ?_
      obtain ⟨o10, h11⟩ := h9
      obtain ⟨o12, h13⟩ := h11
      refine zr_iald (v := (za s0 28 (Int.toNat x3))) hC hZ zk_28 zb_28 zn_28 (by decide) o10 o12 rfl dX12_letRoutines_164 ?_
      refine g_istore_n (lv' := [some (.ref t), some (.int (zI x1)), some (.int (zI x2)), some (.int (zI (za s0 28 (Int.toNat x3)))), some (.int (zI x4)), none]) hC dX12_letRoutines_165 (Nat.le_of_ble_eq_true rfl) rfl rfl ?_
      refine g_goto (tgt := 20) hC dX12_letRoutines_166 (by decide) ?_
      refine g_lv (lv' := [some (.ref t), some (.int (zI x1)), some (.int (zI x2)), some (.int (zI (za s0 28 (Int.toNat x3)))), none, none]) ⟨rfl, rfl, rfl, rfl, trivial⟩ ?_
      exact hk20 _ _ _ _ _ Rx1 Rx2 (hZ.ra 28 _) hZ h13
    · have h14 := h7.2 c8
      refine g_aload_n hC dX12_letRoutines_147 rfl ?_
      refine zr_get (e := (zv s0 82)) hC hZ fl_X12_261 zb_82 (by decide) rfl dX12_letRoutines_148 ?_
      refine zr_if_ge (tgt := 159) hC (hZ.rv 82) dX12_letRoutines_151 (by decide) (fun c15 => ?_) (fun c15 => ?_)
      · have h16 := h14.1 c15
        refine g_aload_n hC dX12_letRoutines_159 rfl ?_
        refine zr_geta hC hZ fl_X12_96 zb_28 (by decide) dX12_letRoutines_160 ?_
        refine g_iload_n hC dX12_letRoutines_163 rfl ?_
        obtain ⟨o17, h18⟩ := h16
        obtain ⟨o19, h20⟩ := h18
        refine zr_iald (v := (za s0 28 (Int.toNat x3))) hC hZ zk_28 zb_28 zn_28 (by decide) o17 o19 rfl dX12_letRoutines_164 ?_
        refine g_istore_n (lv' := [some (.ref t), some (.int (zI x1)), some (.int (zI x2)), some (.int (zI (za s0 28 (Int.toNat x3)))), some (.int (zI x4)), none]) hC dX12_letRoutines_165 (Nat.le_of_ble_eq_true rfl) rfl rfl ?_
        refine g_goto (tgt := 20) hC dX12_letRoutines_166 (by decide) ?_
        refine g_lv (lv' := [some (.ref t), some (.int (zI x1)), some (.int (zI x2)), some (.int (zI (za s0 28 (Int.toNat x3)))), none, none]) ⟨rfl, rfl, rfl, rfl, trivial⟩ ?_
        exact hk20 _ _ _ _ _ Rx1 Rx2 (hZ.ra 28 _) hZ h20
      · have h21 := h14.2 c15
        refine g_aload_n hC dX12_letRoutines_154 rfl ?_
        refine g_iload_n hC dX12_letRoutines_155 rfl ?_
        refine zr_put hC hZ fl_X12_261 zb_82 (by decide) Rx3 dX12_letRoutines_156 (fun F22 hZ23 => ?_)
        refine g_aload_n hC dX12_letRoutines_159 rfl ?_
        refine zr_geta hC hZ23 fl_X12_96 zb_28 (by decide) dX12_letRoutines_160 ?_
        refine g_iload_n hC dX12_letRoutines_163 rfl ?_
        obtain ⟨o24, h25⟩ := h21
        obtain ⟨o26, h27⟩ := h25
        refine zr_iald (v := (za s0 28 (Int.toNat x3))) hC hZ23 zk_28 zb_28 zn_28 (by decide) o24 o26 rfl dX12_letRoutines_164 ?_
        refine g_istore_n (lv' := [some (.ref t), some (.int (zI x1)), some (.int (zI x2)), some (.int (zI (za s0 28 (Int.toNat x3)))), some (.int (zI x4)), none]) hC dX12_letRoutines_165 (Nat.le_of_ble_eq_true rfl) rfl rfl ?_
        refine g_goto (tgt := 20) hC dX12_letRoutines_166 (by decide) ?_
        refine g_lv (lv' := [some (.ref t), some (.int (zI x1)), some (.int (zI x2)), some (.int (zI (za s0 28 (Int.toNat x3)))), none, none]) ⟨rfl, rfl, rfl, rfl, trivial⟩ ?_
        exact hk20 _ _ _ _ _ Rx1 Rx2 (hZ.ra 28 _) hZ23 h27
set_option maxHeartbeats 4000000 in
set_option maxRecDepth 100000 in
theorem rj_letRoutines_45 {X : gX} {d : gD} {b t : Nat} {T : Nat → Nat} {F0 : gM} (hC : gC RX12 cX12_letRoutines 6 none "letRoutines" (gR 3 0 0) d b X) {Q : zS → Prop} {k20 : zS → Int → Int → Int → Prop} (hk20 : ∀ (F : gM) (s0 : zS) (x1 : Int) (x2 : Int) (x3 : Int), zR x1 → zR x2 → zR x3 → zZ d t T F0 F s0 → k20 s0 x1 x2 x3 → gG X d b (zQv X d b t T F0 Q) F 0 0 20 [some (.ref t), some (.int (zI x1)), some (.int (zI x2)), some (.int (zI x3)), none, none] []) {F : gM} {s0 : zS} {x1 : Int} {x2 : Int} {x3 : Int} {x4 : Int} {y0 : Int} (Rx1 : zR x1) (Rx2 : zR x2) (Rx3 : zR x3) (Rx4 : zR x4) (Ry0 : zR y0) (hZ : zZ d t T F0 F s0) (hw : wr_letRoutines_45 Q k20 s0 x1 x2 x3 x4 y0) : gG X d b (zQv X d b t T F0 Q) F 0 0 45 [some (.ref t), some (.int (zI x1)), some (.int (zI x2)), some (.int (zI x3)), some (.int (zI x4)), none] [.int (zI y0)] := by
  unfold wr_letRoutines_45 at hw
  refine g_istore (lv' := [some (.ref t), some (.int (zI x1)), some (.int (zI x2)), some (.int (zI x3)), some (.int (zI x4)), some (.int (zI y0))]) hC dX12_letRoutines_45 (Nat.le_of_ble_eq_true rfl) rfl rfl ?_
  refine g_aload_n hC dX12_letRoutines_47 rfl ?_
  refine zr_geta hC hZ fl_X12_102 zb_30 (by decide) dX12_letRoutines_48 ?_
  refine g_iload_n hC dX12_letRoutines_51 rfl ?_
  refine g_iconst (v := zI 0) hC dX12_letRoutines_52 rfl ?_
  obtain ⟨o1, h2⟩ := hw
  obtain ⟨o3, h4⟩ := h2
  refine zr_iast hC hZ zk_30 zb_30 zn_30 (by decide) o1 o3 (by decide) dX12_letRoutines_53 (fun F5 hZ6 => ?_)
  refine g_iload hC dX12_letRoutines_54 rfl ?_
  refine zr_if_lt (tgt := 117) hC Ry0 dX12_letRoutines_56 (by decide) (fun c7 => ?_) (fun c7 => ?_)
  · have h8 := h4.1 c7
    refine g_aload_n hC dX12_letRoutines_117 rfl ?_
    refine g_iload hC dX12_letRoutines_118 rfl ?_
    refine g_aload_n hC dX12_letRoutines_120 rfl ?_
    refine zr_geta hC hZ6 fl_X12_90 zb_26 (by decide) dX12_letRoutines_121 ?_
    refine g_iload_n hC dX12_letRoutines_124 rfl ?_
    obtain ⟨o9, h10⟩ := h8
    obtain ⟨o11, h12⟩ := h10
    refine zr_iald (v := (za s0 26 (Int.toNat x3))) hC hZ6 zk_26 zb_26 zn_26 (by decide) o9 o11 rfl dX12_letRoutines_125 ?_
    refine g_iconst (v := zI 3) hC dX12_letRoutines_126 rfl ?_
    refine g_iload_n hC dX12_letRoutines_127 rfl ?_
    refine g_iconst (v := zI 0) hC dX12_letRoutines_128 rfl ?_
    refine g_iconst (v := zI 0) hC dX12_letRoutines_129 rfl ?_
    refine zr_callVi (As := [.int (zI x4), .int (zI (za s0 26 (Int.toNat x3))), .int (zI 3), .int (zI x3), .int (zI 0), .int (zI 0)]) hC hZ6 rfl (rm_declare X.la d b Rx4 (hZ.ra 26 _) (by decide) Rx3 (by decide) (by decide) hZ6.rf h12) cl_X12_752 rfl rfl (Nat.le_of_ble_eq_true rfl) ⟨Nat.le_of_ble_eq_true rfl, Nat.le_of_ble_eq_true rfl⟩ dX12_letRoutines_130 (fun r13 s14 F15 R16 hZ17 h18 => ?_)
    refine g_pop hC dX12_letRoutines_133 rfl ?_
    refine g_lv (lv' := [some (.ref t), some (.int (zI x1)), some (.int (zI x2)), some (.int (zI x3)), some (.int (zI x4)), none]) ⟨rfl, rfl, rfl, rfl, rfl, trivial⟩ ?_
    exact rj_letRoutines_134 hC hk20 Rx1 Rx2 Rx3 Rx4 hZ17 h18
  · have h19 := h4.2 c7
    refine g_aload_n hC dX12_letRoutines_59 rfl ?_
    refine zr_geta hC hZ6 fl_X12_166 zb_51 (by decide) dX12_letRoutines_60 ?_
    refine g_iload hC dX12_letRoutines_63 rfl ?_
    obtain ⟨o20, h21⟩ := h19
    obtain ⟨o22, h23⟩ := h21
    refine zr_iald (v := (za s0 51 (Int.toNat y0))) hC hZ6 zk_51 zb_51 zn_51 (by decide) o20 o22 rfl dX12_letRoutines_65 ?_
    refine g_iconst (v := zI 1) hC dX12_letRoutines_66 rfl ?_
    refine zr_icmp_ne (tgt := 117) hC (hZ.ra 51 _) (by decide) dX12_letRoutines_67 (by decide) (fun c24 => ?_) (fun c24 => ?_)
    · have h25 := h23.1 c24
      refine g_aload_n hC dX12_letRoutines_117 rfl ?_
      refine g_iload hC dX12_letRoutines_118 rfl ?_
      refine g_aload_n hC dX12_letRoutines_120 rfl ?_
      refine zr_geta hC hZ6 fl_X12_90 zb_26 (by decide) dX12_letRoutines_121 ?_
      refine g_iload_n hC dX12_letRoutines_124 rfl ?_
      obtain ⟨o26, h27⟩ := h25
      obtain ⟨o28, h29⟩ := h27
      refine zr_iald (v := (za s0 26 (Int.toNat x3))) hC hZ6 zk_26 zb_26 zn_26 (by decide) o26 o28 rfl dX12_letRoutines_125 ?_
      refine g_iconst (v := zI 3) hC dX12_letRoutines_126 rfl ?_
      refine g_iload_n hC dX12_letRoutines_127 rfl ?_
      refine g_iconst (v := zI 0) hC dX12_letRoutines_128 rfl ?_
      refine g_iconst (v := zI 0) hC dX12_letRoutines_129 rfl ?_
      refine zr_callVi (As := [.int (zI x4), .int (zI (za s0 26 (Int.toNat x3))), .int (zI 3), .int (zI x3), .int (zI 0), .int (zI 0)]) hC hZ6 rfl (rm_declare X.la d b Rx4 (hZ.ra 26 _) (by decide) Rx3 (by decide) (by decide) hZ6.rf h29) cl_X12_752 rfl rfl (Nat.le_of_ble_eq_true rfl) ⟨Nat.le_of_ble_eq_true rfl, Nat.le_of_ble_eq_true rfl⟩ dX12_letRoutines_130 (fun r30 s31 F32 R33 hZ34 h35 => ?_)
      refine g_pop hC dX12_letRoutines_133 rfl ?_
      refine g_lv (lv' := [some (.ref t), some (.int (zI x1)), some (.int (zI x2)), some (.int (zI x3)), some (.int (zI x4)), none]) ⟨rfl, rfl, rfl, rfl, rfl, trivial⟩ ?_
      exact rj_letRoutines_134 hC hk20 Rx1 Rx2 Rx3 Rx4 hZ34 h35
    · have h36 := h23.2 c24
      refine g_aload_n hC dX12_letRoutines_70 rfl ?_
      refine zr_geta hC hZ6 fl_X12_175 zb_54 (by decide) dX12_letRoutines_71 ?_
      refine g_iload hC dX12_letRoutines_74 rfl ?_
      obtain ⟨o37, h38⟩ := h36
      obtain ⟨o39, h40⟩ := h38
      refine zr_iald (v := (za s0 54 (Int.toNat y0))) hC hZ6 zk_54 zb_54 zn_54 (by decide) o37 o39 rfl dX12_letRoutines_76 ?_
      refine g_iconst (v := zI 1) hC dX12_letRoutines_77 rfl ?_
      refine zr_icmp_ne (tgt := 96) hC (hZ.ra 54 _) (by decide) dX12_letRoutines_78 (by decide) (fun c41 => ?_) (fun c41 => ?_)
      · have h42 := h40.1 c41
        refine g_aload_n hC dX12_letRoutines_96 rfl ?_
        refine zr_geta hC hZ6 fl_X12_175 zb_54 (by decide) dX12_letRoutines_97 ?_
        refine g_iload hC dX12_letRoutines_100 rfl ?_
        refine g_iconst (v := zI 1) hC dX12_letRoutines_102 rfl ?_
        obtain ⟨o43, h44⟩ := h42
        obtain ⟨o45, h46⟩ := h44
        refine zr_iast hC hZ6 zk_54 zb_54 zn_54 (by decide) o43 o45 (by decide) dX12_letRoutines_103 (fun F47 hZ48 => ?_)
        refine g_aload_n hC dX12_letRoutines_104 rfl ?_
        refine zr_geta hC hZ48 fl_X12_102 zb_30 (by decide) dX12_letRoutines_105 ?_
        refine g_iload_n hC dX12_letRoutines_108 rfl ?_
        refine g_iconst (v := zI 1) hC dX12_letRoutines_109 rfl ?_
        refine g_iload hC dX12_letRoutines_110 rfl ?_
        refine zr_iadd hC dX12_letRoutines_112 ?_
        obtain ⟨o49, h50⟩ := h46
        obtain ⟨o51, h52⟩ := h50
        obtain ⟨o53, h54⟩ := h52
        refine zr_iast hC hZ48 zk_30 zb_30 zn_30 (by decide) o49 o51 o53 dX12_letRoutines_113 (fun F55 hZ56 => ?_)
        refine g_goto (tgt := 134) hC dX12_letRoutines_114 (by decide) ?_
        refine g_lv (lv' := [some (.ref t), some (.int (zI x1)), some (.int (zI x2)), some (.int (zI x3)), some (.int (zI x4)), none]) ⟨rfl, rfl, rfl, rfl, rfl, trivial⟩ ?_
        exact rj_letRoutines_134 hC hk20 Rx1 Rx2 Rx3 Rx4 hZ56 h54
      · have h57 := h40.2 c41
        refine g_aload_n hC dX12_letRoutines_81 rfl ?_
        refine g_iconst (v := zI 4) hC dX12_letRoutines_82 rfl ?_
        refine g_aload_n hC dX12_letRoutines_83 rfl ?_
        refine g_aload_n hC dX12_letRoutines_84 rfl ?_
        refine zr_geta hC hZ6 fl_X12_90 zb_26 (by decide) dX12_letRoutines_85 ?_
        refine g_iload_n hC dX12_letRoutines_88 rfl ?_
        obtain ⟨o58, h59⟩ := h57
        obtain ⟨o60, h61⟩ := h59
        refine zr_iald (v := (za s0 26 (Int.toNat x3))) hC hZ6 zk_26 zb_26 zn_26 (by decide) o58 o60 rfl dX12_letRoutines_89 ?_
        refine zr_callVi (As := [.int (zI (za s0 26 (Int.toNat x3)))]) hC hZ6 rfl (rm_place X.la d b (hZ.ra 26 _) hZ6.rf h61) cl_X12_613 rfl rfl (Nat.le_of_ble_eq_true rfl) ⟨Nat.le_of_ble_eq_true rfl, Nat.le_of_ble_eq_true rfl⟩ dX12_letRoutines_90 (fun r62 s63 F64 R65 hZ66 h67 => ?_)
        refine zr_callVv (As := [.int (zI 4), .int (zI r62)]) hC hZ66 rfl (rm_fault X.la d b (by decide) R65 hZ66.rf h67) cl_X12_605 rfl rfl (Nat.le_of_ble_eq_true rfl) ⟨Nat.le_of_ble_eq_true rfl, Nat.le_of_ble_eq_true rfl⟩ dX12_letRoutines_93 (fun s69 F70 hZ72 h73 => ?_)
        refine g_aload_n hC dX12_letRoutines_96 rfl ?_
        refine zr_geta hC hZ72 fl_X12_175 zb_54 (by decide) dX12_letRoutines_97 ?_
        refine g_iload hC dX12_letRoutines_100 rfl ?_
        refine g_iconst (v := zI 1) hC dX12_letRoutines_102 rfl ?_
        obtain ⟨o74, h75⟩ := h73
        obtain ⟨o76, h77⟩ := h75
        refine zr_iast hC hZ72 zk_54 zb_54 zn_54 (by decide) o74 o76 (by decide) dX12_letRoutines_103 (fun F78 hZ79 => ?_)
        refine g_aload_n hC dX12_letRoutines_104 rfl ?_
        refine zr_geta hC hZ79 fl_X12_102 zb_30 (by decide) dX12_letRoutines_105 ?_
        refine g_iload_n hC dX12_letRoutines_108 rfl ?_
        refine g_iconst (v := zI 1) hC dX12_letRoutines_109 rfl ?_
        refine g_iload hC dX12_letRoutines_110 rfl ?_
        refine zr_iadd hC dX12_letRoutines_112 ?_
        obtain ⟨o80, h81⟩ := h77
        obtain ⟨o82, h83⟩ := h81
        obtain ⟨o84, h85⟩ := h83
        refine zr_iast hC hZ79 zk_30 zb_30 zn_30 (by decide) o80 o82 o84 dX12_letRoutines_113 (fun F86 hZ87 => ?_)
        refine g_goto (tgt := 134) hC dX12_letRoutines_114 (by decide) ?_
        refine g_lv (lv' := [some (.ref t), some (.int (zI x1)), some (.int (zI x2)), some (.int (zI x3)), some (.int (zI x4)), none]) ⟨rfl, rfl, rfl, rfl, rfl, trivial⟩ ?_
        exact rj_letRoutines_134 hC hk20 Rx1 Rx2 Rx3 Rx4 hZ87 h85
set_option maxHeartbeats 4000000 in
set_option maxRecDepth 100000 in
theorem rb_letRoutines_20 {X : gX} {d : gD} {b t : Nat} {T : Nat → Nat} {F0 : gM} (hC : gC RX12 cX12_letRoutines 6 none "letRoutines" (gR 3 0 0) d b X) {Q : zS → Prop} {k20 : zS → Int → Int → Int → Prop} (hk20 : ∀ (F : gM) (s0 : zS) (x1 : Int) (x2 : Int) (x3 : Int), zR x1 → zR x2 → zR x3 → zZ d t T F0 F s0 → k20 s0 x1 x2 x3 → gG X d b (zQv X d b t T F0 Q) F 0 0 20 [some (.ref t), some (.int (zI x1)), some (.int (zI x2)), some (.int (zI x3)), none, none] []) {F : gM} {s0 : zS} {x1 : Int} {x2 : Int} {x3 : Int} (Rx1 : zR x1) (Rx2 : zR x2) (Rx3 : zR x3) (hZ : zZ d t T F0 F s0) (hw : wr_letRoutines_20B Q k20 s0 x1 x2 x3) : gG X d b (zQv X d b t T F0 Q) F 0 0 20 [some (.ref t), some (.int (zI x1)), some (.int (zI x2)), some (.int (zI x3)), none, none] [] := by
  unfold wr_letRoutines_20B at hw
  refine g_iload_n hC dX12_letRoutines_20 rfl ?_
  refine zr_if_lt (tgt := 169) hC Rx3 dX12_letRoutines_21 (by decide) (fun c1 => ?_) (fun c1 => ?_)
  · have h2 := hw.1 c1
    refine g_aload_n hC dX12_letRoutines_169 rfl ?_
    refine g_iload_n hC dX12_letRoutines_170 rfl ?_
    refine g_bipush (v := zI 6) hC dX12_letRoutines_171 rfl ?_
    refine zr_callVv (As := [.int (zI x1), .int (zI 6)]) hC hZ rfl (rm_children X.la d b Rx1 (by decide) hZ.rf h2) cl_X12_703 rfl rfl (Nat.le_of_ble_eq_true rfl) ⟨Nat.le_of_ble_eq_true rfl, Nat.le_of_ble_eq_true rfl⟩ dX12_letRoutines_173 (fun s4 F5 hZ7 h8 => ?_)
    exact zr_vret hC hZ7 h8 dX12_letRoutines_176
  · have h9 := hw.2 c1
    refine g_aload_n hC dX12_letRoutines_24 rfl ?_
    refine g_iload_n hC dX12_letRoutines_25 rfl ?_
    refine zr_callVi (As := [.int (zI x3)]) hC hZ rfl (rm_nameToken X.la d b Rx3 hZ.rf h9) cl_X12_749 rfl rfl (Nat.le_of_ble_eq_true rfl) ⟨Nat.le_of_ble_eq_true rfl, Nat.le_of_ble_eq_true rfl⟩ dX12_letRoutines_26 (fun r10 s11 F12 R13 hZ14 h15 => ?_)
    refine g_istore (lv' := [some (.ref t), some (.int (zI x1)), some (.int (zI x2)), some (.int (zI x3)), some (.int (zI r10)), none]) hC dX12_letRoutines_29 (Nat.le_of_ble_eq_true rfl) rfl rfl ?_
    refine g_iload_n hC dX12_letRoutines_31 rfl ?_
    refine zr_if_eq (tgt := 44) hC Rx2 dX12_letRoutines_32 (by decide) (fun c16 => ?_) (fun c16 => ?_)
    · have h17 := h15.1 c16
      refine g_iconst (v := zI (-1)) hC dX12_letRoutines_44 rfl ?_
      exact rj_letRoutines_45 hC hk20 Rx1 Rx2 Rx3 R13 (by decide) hZ14 h17
    · have h18 := h15.2 c16
      refine g_aload_n hC dX12_letRoutines_35 rfl ?_
      refine g_iload hC dX12_letRoutines_36 rfl ?_
      refine zr_callVi (As := [.int (zI r10)]) hC hZ14 rfl (rm_means X.la d b R13 hZ14.rf h18) cl_X12_619 rfl rfl (Nat.le_of_ble_eq_true rfl) ⟨Nat.le_of_ble_eq_true rfl, Nat.le_of_ble_eq_true rfl⟩ dX12_letRoutines_38 (fun r19 s20 F21 R22 hZ23 h24 => ?_)
      refine g_goto (tgt := 45) hC dX12_letRoutines_41 (by decide) ?_
      exact rj_letRoutines_45 hC hk20 Rx1 Rx2 Rx3 R13 R22 hZ23 h24
theorem rl_letRoutines_20 {X : gX} {d : gD} {b t : Nat} {T : Nat → Nat} {F0 : gM} (hC : gC RX12 cX12_letRoutines 6 none "letRoutines" (gR 3 0 0) d b X) {Q : zS → Prop}   : ∀ (m : Nat) (F : gM) (s0 : zS) (x1 : Int) (x2 : Int) (x3 : Int), zR x1 → zR x2 → zR x3 → zZ d t T F0 F s0 → wr_letRoutines_20 Q  m s0 x1 x2 x3 → gG X d b (zQv X d b t T F0 Q) F 0 0 20 [some (.ref t), some (.int (zI x1)), some (.int (zI x2)), some (.int (zI x3)), none, none] [] := by
  intro m
  induction m with
  | zero => intro F s0 x1 x2 x3 Rx1 Rx2 Rx3 hZ hw; exact False.elim hw
  | succ m ih => intro F s0 x1 x2 x3 Rx1 Rx2 Rx3 hZ hw; exact rb_letRoutines_20 hC  ih Rx1 Rx2 Rx3 hZ hw
set_option maxHeartbeats 4000000 in
set_option maxRecDepth 100000 in
theorem rm_letRoutines (l : Launch) (d : gD) (b : Nat) {t : Nat} {T : Nat → Nat} {F : gM} {s0 : zS} {a0 : Int} (Ra0 : zR a0) {Q : zS → Prop} (hZ : zZ d t T F F s0) (hw : wr_letRoutines s0 a0 Q) : gMv l d b yX12_letRoutines cX12_letRoutines 6 3 0 0 F [.ref t, .int (zI a0)] (zPv d t T F Q) := by
  refine gM_of2 rfl (nL := 6) (Nat.le_of_ble_eq_true rfl) ?_
  intro X hX hC; subst hX
  show gG X d b (zQv X d b t T F Q) F 0 0 0 [some (.ref t), some (.int (zI a0)), none, none, none, none] []
  unfold wr_letRoutines at hw
  refine g_aload_n hC dX12_letRoutines_0 rfl ?_
  refine zr_get (e := (zv s0 73)) hC hZ fl_X12_234 zb_73 (by decide) rfl dX12_letRoutines_1 ?_
  refine zr_if_ge (tgt := 11) hC (hZ.rv 73) dX12_letRoutines_4 (by decide) (fun c1 => ?_) (fun c1 => ?_)
  · have h2 := hw.1 c1
    refine g_iconst (v := zI 0) hC dX12_letRoutines_11 rfl ?_
    refine g_istore_n (lv' := [some (.ref t), some (.int (zI a0)), some (.int (zI 0)), none, none, none]) hC dX12_letRoutines_12 (Nat.le_of_ble_eq_true rfl) rfl rfl ?_
    refine g_aload_n hC dX12_letRoutines_13 rfl ?_
    refine zr_geta hC hZ fl_X12_93 zb_27 (by decide) dX12_letRoutines_14 ?_
    refine g_iload_n hC dX12_letRoutines_17 rfl ?_
    obtain ⟨o3, h4⟩ := h2
    obtain ⟨o5, h6⟩ := h4
    refine zr_iald (v := (za s0 27 (Int.toNat a0))) hC hZ zk_27 zb_27 zn_27 (by decide) o3 o5 rfl dX12_letRoutines_18 ?_
    refine g_istore_n (lv' := [some (.ref t), some (.int (zI a0)), some (.int (zI 0)), some (.int (zI (za s0 27 (Int.toNat a0)))), none, none]) hC dX12_letRoutines_19 (Nat.le_of_ble_eq_true rfl) rfl rfl ?_
    obtain ⟨m7, h8⟩ := h6
    exact rl_letRoutines_20 hC  m7 _ _ _ _ _ Ra0 (by decide) (hZ.ra 27 _) hZ h8
  · have h9 := hw.2 c1
    refine g_iconst (v := zI 1) hC dX12_letRoutines_7 rfl ?_
    refine g_goto (tgt := 12) hC dX12_letRoutines_8 (by decide) ?_
    refine g_istore_n (lv' := [some (.ref t), some (.int (zI a0)), some (.int (zI 1)), none, none, none]) hC dX12_letRoutines_12 (Nat.le_of_ble_eq_true rfl) rfl rfl ?_
    refine g_aload_n hC dX12_letRoutines_13 rfl ?_
    refine zr_geta hC hZ fl_X12_93 zb_27 (by decide) dX12_letRoutines_14 ?_
    refine g_iload_n hC dX12_letRoutines_17 rfl ?_
    obtain ⟨o10, h11⟩ := h9
    obtain ⟨o12, h13⟩ := h11
    refine zr_iald (v := (za s0 27 (Int.toNat a0))) hC hZ zk_27 zb_27 zn_27 (by decide) o10 o12 rfl dX12_letRoutines_18 ?_
    refine g_istore_n (lv' := [some (.ref t), some (.int (zI a0)), some (.int (zI 1)), some (.int (zI (za s0 27 (Int.toNat a0)))), none, none]) hC dX12_letRoutines_19 (Nat.le_of_ble_eq_true rfl) rfl rfl ?_
    obtain ⟨m14, h15⟩ := h13
    exact rl_letRoutines_20 hC  m14 _ _ _ _ _ Ra0 (by decide) (hZ.ra 27 _) hZ h15
theorem dX12_declaration_0 : decode cX12_declaration 0 = .ok (.aload_n 0, 1) := by decide +kernel
theorem dX12_declaration_1 : decode cX12_declaration 1 = .ok (.getfield 87, 3) := by decide +kernel
theorem dX12_declaration_4 : decode cX12_declaration 4 = .ok (.iload_n 1, 1) := by decide +kernel
theorem dX12_declaration_5 : decode cX12_declaration 5 = .ok (.baload, 1) := by decide +kernel
theorem dX12_declaration_6 : decode cX12_declaration 6 = .ok (.istore_n 2, 1) := by decide +kernel
theorem dX12_declaration_7 : decode cX12_declaration 7 = .ok (.iload_n 2, 1) := by decide +kernel
theorem dX12_declaration_8 : decode cX12_declaration 8 = .ok (.bipush 53, 2) := by decide +kernel
theorem dX12_declaration_10 : decode cX12_declaration 10 = .ok (.if_icmp .ne 116, 3) := by decide +kernel
theorem dX12_declaration_13 : decode cX12_declaration 13 = .ok (.aload_n 0, 1) := by decide +kernel
theorem dX12_declaration_14 : decode cX12_declaration 14 = .ok (.getfield 87, 3) := by decide +kernel
theorem dX12_declaration_17 : decode cX12_declaration 17 = .ok (.aload_n 0, 1) := by decide +kernel
theorem dX12_declaration_18 : decode cX12_declaration 18 = .ok (.getfield 93, 3) := by decide +kernel
theorem dX12_declaration_21 : decode cX12_declaration 21 = .ok (.iload_n 1, 1) := by decide +kernel
theorem dX12_declaration_22 : decode cX12_declaration 22 = .ok (.iaload, 1) := by decide +kernel
theorem dX12_declaration_23 : decode cX12_declaration 23 = .ok (.baload, 1) := by decide +kernel
theorem dX12_declaration_24 : decode cX12_declaration 24 = .ok (.bipush 55, 2) := by decide +kernel
theorem dX12_declaration_26 : decode cX12_declaration 26 = .ok (.if_icmp .ne 94, 3) := by decide +kernel
theorem dX12_declaration_29 : decode cX12_declaration 29 = .ok (.aload_n 0, 1) := by decide +kernel
theorem dX12_declaration_30 : decode cX12_declaration 30 = .ok (.bipush 8, 2) := by decide +kernel
theorem dX12_declaration_32 : decode cX12_declaration 32 = .ok (.aload_n 0, 1) := by decide +kernel
theorem dX12_declaration_33 : decode cX12_declaration 33 = .ok (.getfield 93, 3) := by decide +kernel
theorem dX12_declaration_36 : decode cX12_declaration 36 = .ok (.iload_n 1, 1) := by decide +kernel
theorem dX12_declaration_37 : decode cX12_declaration 37 = .ok (.iaload, 1) := by decide +kernel
theorem dX12_declaration_38 : decode cX12_declaration 38 = .ok (.iconst 0, 1) := by decide +kernel
theorem dX12_declaration_39 : decode cX12_declaration 39 = .ok (.invokevirtual 647, 3) := by decide +kernel
theorem dX12_declaration_42 : decode cX12_declaration 42 = .ok (.aload_n 0, 1) := by decide +kernel
theorem dX12_declaration_43 : decode cX12_declaration 43 = .ok (.getfield 203, 3) := by decide +kernel
theorem dX12_declaration_46 : decode cX12_declaration 46 = .ok (.istore_n 3, 1) := by decide +kernel
theorem dX12_declaration_47 : decode cX12_declaration 47 = .ok (.aload_n 0, 1) := by decide +kernel
theorem dX12_declaration_48 : decode cX12_declaration 48 = .ok (.getfield 93, 3) := by decide +kernel
theorem dX12_declaration_51 : decode cX12_declaration 51 = .ok (.aload_n 0, 1) := by decide +kernel
theorem dX12_declaration_52 : decode cX12_declaration 52 = .ok (.getfield 93, 3) := by decide +kernel
theorem dX12_declaration_55 : decode cX12_declaration 55 = .ok (.iload_n 1, 1) := by decide +kernel
theorem dX12_declaration_56 : decode cX12_declaration 56 = .ok (.iaload, 1) := by decide +kernel
theorem dX12_declaration_57 : decode cX12_declaration 57 = .ok (.iaload, 1) := by decide +kernel
theorem dX12_declaration_58 : decode cX12_declaration 58 = .ok (.istore 4, 2) := by decide +kernel
theorem dX12_declaration_60 : decode cX12_declaration 60 = .ok (.iload 4, 2) := by decide +kernel
theorem dX12_declaration_62 : decode cX12_declaration 62 = .ok (.ifCond .lt 52, 3) := by decide +kernel
theorem dX12_declaration_65 : decode cX12_declaration 65 = .ok (.aload_n 0, 1) := by decide +kernel
theorem dX12_declaration_66 : decode cX12_declaration 66 = .ok (.getfield 87, 3) := by decide +kernel
theorem dX12_declaration_69 : decode cX12_declaration 69 = .ok (.iload 4, 2) := by decide +kernel
theorem dX12_declaration_71 : decode cX12_declaration 71 = .ok (.baload, 1) := by decide +kernel
theorem dX12_declaration_72 : decode cX12_declaration 72 = .ok (.bipush 58, 2) := by decide +kernel
theorem dX12_declaration_74 : decode cX12_declaration 74 = .ok (.if_icmp .eq 28, 3) := by decide +kernel
theorem dX12_declaration_77 : decode cX12_declaration 77 = .ok (.aload_n 0, 1) := by decide +kernel
theorem dX12_declaration_78 : decode cX12_declaration 78 = .ok (.aload_n 0, 1) := by decide +kernel
theorem dX12_declaration_79 : decode cX12_declaration 79 = .ok (.getfield 87, 3) := by decide +kernel
theorem dX12_declaration_82 : decode cX12_declaration 82 = .ok (.iload 4, 2) := by decide +kernel
theorem dX12_declaration_84 : decode cX12_declaration 84 = .ok (.baload, 1) := by decide +kernel
theorem dX12_declaration_85 : decode cX12_declaration 85 = .ok (.bipush 59, 2) := by decide +kernel
theorem dX12_declaration_87 : decode cX12_declaration 87 = .ok (.if_icmp .ne 8, 3) := by decide +kernel
theorem dX12_declaration_90 : decode cX12_declaration 90 = .ok (.bipush 11, 2) := by decide +kernel
theorem dX12_declaration_92 : decode cX12_declaration 92 = .ok (.goto 4, 3) := by decide +kernel
theorem dX12_declaration_95 : decode cX12_declaration 95 = .ok (.iconst 3, 1) := by decide +kernel
theorem dX12_declaration_96 : decode cX12_declaration 96 = .ok (.iload 4, 2) := by decide +kernel
theorem dX12_declaration_98 : decode cX12_declaration 98 = .ok (.iconst 0, 1) := by decide +kernel
theorem dX12_declaration_99 : decode cX12_declaration 99 = .ok (.invokevirtual 647, 3) := by decide +kernel
theorem dX12_declaration_102 : decode cX12_declaration 102 = .ok (.aload_n 0, 1) := by decide +kernel
theorem dX12_declaration_103 : decode cX12_declaration 103 = .ok (.getfield 96, 3) := by decide +kernel
theorem dX12_declaration_106 : decode cX12_declaration 106 = .ok (.iload 4, 2) := by decide +kernel
theorem dX12_declaration_108 : decode cX12_declaration 108 = .ok (.iaload, 1) := by decide +kernel
theorem dX12_declaration_109 : decode cX12_declaration 109 = .ok (.istore 4, 2) := by decide +kernel
theorem dX12_declaration_111 : decode cX12_declaration 111 = .ok (.goto (-51), 3) := by decide +kernel
theorem dX12_declaration_114 : decode cX12_declaration 114 = .ok (.aload_n 0, 1) := by decide +kernel
theorem dX12_declaration_115 : decode cX12_declaration 115 = .ok (.iload_n 3, 1) := by decide +kernel
theorem dX12_declaration_116 : decode cX12_declaration 116 = .ok (.invokevirtual 650, 3) := by decide +kernel
theorem dX12_declaration_119 : decode cX12_declaration 119 = .ok (.return_, 1) := by decide +kernel
theorem dX12_declaration_120 : decode cX12_declaration 120 = .ok (.aload_n 0, 1) := by decide +kernel
theorem dX12_declaration_121 : decode cX12_declaration 121 = .ok (.iload_n 1, 1) := by decide +kernel
theorem dX12_declaration_122 : decode cX12_declaration 122 = .ok (.invokevirtual 746, 3) := by decide +kernel
theorem dX12_declaration_125 : decode cX12_declaration 125 = .ok (.return_, 1) := by decide +kernel
theorem dX12_declaration_126 : decode cX12_declaration 126 = .ok (.aload_n 0, 1) := by decide +kernel
theorem dX12_declaration_127 : decode cX12_declaration 127 = .ok (.getfield 93, 3) := by decide +kernel
theorem dX12_declaration_130 : decode cX12_declaration 130 = .ok (.iload_n 1, 1) := by decide +kernel
theorem dX12_declaration_131 : decode cX12_declaration 131 = .ok (.iaload, 1) := by decide +kernel
theorem dX12_declaration_132 : decode cX12_declaration 132 = .ok (.istore_n 3, 1) := by decide +kernel
theorem dX12_declaration_133 : decode cX12_declaration 133 = .ok (.iload_n 3, 1) := by decide +kernel
theorem dX12_declaration_134 : decode cX12_declaration 134 = .ok (.ifCond .lt 72, 3) := by decide +kernel
theorem dX12_declaration_137 : decode cX12_declaration 137 = .ok (.iload_n 2, 1) := by decide +kernel
theorem dX12_declaration_138 : decode cX12_declaration 138 = .ok (.bipush 50, 2) := by decide +kernel
theorem dX12_declaration_140 : decode cX12_declaration 140 = .ok (.if_icmp .ne 7, 3) := by decide +kernel
theorem dX12_declaration_143 : decode cX12_declaration 143 = .ok (.iconst 1, 1) := by decide +kernel
theorem dX12_declaration_144 : decode cX12_declaration 144 = .ok (.goto 14, 3) := by decide +kernel
theorem dX12_declaration_147 : decode cX12_declaration 147 = .ok (.iload_n 2, 1) := by decide +kernel
theorem dX12_declaration_148 : decode cX12_declaration 148 = .ok (.bipush 51, 2) := by decide +kernel
theorem dX12_declaration_150 : decode cX12_declaration 150 = .ok (.if_icmp .ne 7, 3) := by decide +kernel
theorem dX12_declaration_153 : decode cX12_declaration 153 = .ok (.iconst 2, 1) := by decide +kernel
theorem dX12_declaration_154 : decode cX12_declaration 154 = .ok (.goto 4, 3) := by decide +kernel
theorem dX12_declaration_157 : decode cX12_declaration 157 = .ok (.iconst 3, 1) := by decide +kernel
theorem dX12_declaration_158 : decode cX12_declaration 158 = .ok (.istore 4, 2) := by decide +kernel
theorem dX12_declaration_160 : decode cX12_declaration 160 = .ok (.aload_n 0, 1) := by decide +kernel
theorem dX12_declaration_161 : decode cX12_declaration 161 = .ok (.getfield 102, 3) := by decide +kernel
theorem dX12_declaration_164 : decode cX12_declaration 164 = .ok (.iload_n 3, 1) := by decide +kernel
theorem dX12_declaration_165 : decode cX12_declaration 165 = .ok (.aload_n 0, 1) := by decide +kernel
theorem dX12_declaration_166 : decode cX12_declaration 166 = .ok (.aload_n 0, 1) := by decide +kernel
theorem dX12_declaration_167 : decode cX12_declaration 167 = .ok (.iload_n 3, 1) := by decide +kernel
theorem dX12_declaration_168 : decode cX12_declaration 168 = .ok (.invokevirtual 749, 3) := by decide +kernel
theorem dX12_declaration_171 : decode cX12_declaration 171 = .ok (.aload_n 0, 1) := by decide +kernel
theorem dX12_declaration_172 : decode cX12_declaration 172 = .ok (.getfield 90, 3) := by decide +kernel
theorem dX12_declaration_175 : decode cX12_declaration 175 = .ok (.iload_n 3, 1) := by decide +kernel
theorem dX12_declaration_176 : decode cX12_declaration 176 = .ok (.iaload, 1) := by decide +kernel
theorem dX12_declaration_177 : decode cX12_declaration 177 = .ok (.iload 4, 2) := by decide +kernel
theorem dX12_declaration_179 : decode cX12_declaration 179 = .ok (.iload_n 2, 1) := by decide +kernel
theorem dX12_declaration_180 : decode cX12_declaration 180 = .ok (.bipush 52, 2) := by decide +kernel
theorem dX12_declaration_182 : decode cX12_declaration 182 = .ok (.if_icmp .ne 7, 3) := by decide +kernel
theorem dX12_declaration_185 : decode cX12_declaration 185 = .ok (.iload_n 3, 1) := by decide +kernel
theorem dX12_declaration_186 : decode cX12_declaration 186 = .ok (.goto 4, 3) := by decide +kernel
theorem dX12_declaration_189 : decode cX12_declaration 189 = .ok (.iconst 0, 1) := by decide +kernel
theorem dX12_declaration_190 : decode cX12_declaration 190 = .ok (.iconst 0, 1) := by decide +kernel
theorem dX12_declaration_191 : decode cX12_declaration 191 = .ok (.iconst 0, 1) := by decide +kernel
theorem dX12_declaration_192 : decode cX12_declaration 192 = .ok (.invokevirtual 752, 3) := by decide +kernel
theorem dX12_declaration_195 : decode cX12_declaration 195 = .ok (.iastore, 1) := by decide +kernel
theorem dX12_declaration_196 : decode cX12_declaration 196 = .ok (.aload_n 0, 1) := by decide +kernel
theorem dX12_declaration_197 : decode cX12_declaration 197 = .ok (.getfield 96, 3) := by decide +kernel
theorem dX12_declaration_200 : decode cX12_declaration 200 = .ok (.iload_n 3, 1) := by decide +kernel
theorem dX12_declaration_201 : decode cX12_declaration 201 = .ok (.iaload, 1) := by decide +kernel
theorem dX12_declaration_202 : decode cX12_declaration 202 = .ok (.istore_n 3, 1) := by decide +kernel
theorem dX12_declaration_203 : decode cX12_declaration 203 = .ok (.goto (-70), 3) := by decide +kernel
theorem dX12_declaration_206 : decode cX12_declaration 206 = .ok (.aload_n 0, 1) := by decide +kernel
theorem dX12_declaration_207 : decode cX12_declaration 207 = .ok (.getfield 93, 3) := by decide +kernel
theorem dX12_declaration_210 : decode cX12_declaration 210 = .ok (.iload_n 1, 1) := by decide +kernel
theorem dX12_declaration_211 : decode cX12_declaration 211 = .ok (.iaload, 1) := by decide +kernel
theorem dX12_declaration_212 : decode cX12_declaration 212 = .ok (.istore_n 3, 1) := by decide +kernel
theorem dX12_declaration_213 : decode cX12_declaration 213 = .ok (.iload_n 3, 1) := by decide +kernel
theorem dX12_declaration_214 : decode cX12_declaration 214 = .ok (.ifCond .lt 193, 3) := by decide +kernel
theorem dX12_declaration_217 : decode cX12_declaration 217 = .ok (.aload_n 0, 1) := by decide +kernel
theorem dX12_declaration_218 : decode cX12_declaration 218 = .ok (.aload_n 0, 1) := by decide +kernel
theorem dX12_declaration_219 : decode cX12_declaration 219 = .ok (.getfield 93, 3) := by decide +kernel
theorem dX12_declaration_222 : decode cX12_declaration 222 = .ok (.iload_n 3, 1) := by decide +kernel
theorem dX12_declaration_223 : decode cX12_declaration 223 = .ok (.iaload, 1) := by decide +kernel
theorem dX12_declaration_224 : decode cX12_declaration 224 = .ok (.invokevirtual 756, 3) := by decide +kernel
theorem dX12_declaration_227 : decode cX12_declaration 227 = .ok (.aload_n 0, 1) := by decide +kernel
theorem dX12_declaration_228 : decode cX12_declaration 228 = .ok (.getfield 102, 3) := by decide +kernel
theorem dX12_declaration_231 : decode cX12_declaration 231 = .ok (.iload_n 3, 1) := by decide +kernel
theorem dX12_declaration_232 : decode cX12_declaration 232 = .ok (.iaload, 1) := by decide +kernel
theorem dX12_declaration_233 : decode cX12_declaration 233 = .ok (.istore 4, 2) := by decide +kernel
theorem dX12_declaration_235 : decode cX12_declaration 235 = .ok (.iload_n 2, 1) := by decide +kernel
theorem dX12_declaration_236 : decode cX12_declaration 236 = .ok (.bipush 52, 2) := by decide +kernel
theorem dX12_declaration_238 : decode cX12_declaration 238 = .ok (.if_icmp .ne 38, 3) := by decide +kernel
theorem dX12_declaration_241 : decode cX12_declaration 241 = .ok (.aload_n 0, 1) := by decide +kernel
theorem dX12_declaration_242 : decode cX12_declaration 242 = .ok (.getfield 105, 3) := by decide +kernel
theorem dX12_declaration_245 : decode cX12_declaration 245 = .ok (.iload_n 3, 1) := by decide +kernel
theorem dX12_declaration_246 : decode cX12_declaration 246 = .ok (.aload_n 0, 1) := by decide +kernel
theorem dX12_declaration_247 : decode cX12_declaration 247 = .ok (.getfield 258, 3) := by decide +kernel
theorem dX12_declaration_250 : decode cX12_declaration 250 = .ok (.iastore, 1) := by decide +kernel
theorem dX12_declaration_251 : decode cX12_declaration 251 = .ok (.aload_n 0, 1) := by decide +kernel
theorem dX12_declaration_252 : decode cX12_declaration 252 = .ok (.aload_n 0, 1) := by decide +kernel
theorem dX12_declaration_253 : decode cX12_declaration 253 = .ok (.getfield 258, 3) := by decide +kernel
theorem dX12_declaration_256 : decode cX12_declaration 256 = .ok (.aload_n 0, 1) := by decide +kernel
theorem dX12_declaration_257 : decode cX12_declaration 257 = .ok (.getfield 191, 3) := by decide +kernel
theorem dX12_declaration_260 : decode cX12_declaration 260 = .ok (.invokevirtual 759, 3) := by decide +kernel
theorem dX12_declaration_263 : decode cX12_declaration 263 = .ok (.aload_n 0, 1) := by decide +kernel
theorem dX12_declaration_264 : decode cX12_declaration 264 = .ok (.dup, 1) := by decide +kernel
theorem dX12_declaration_265 : decode cX12_declaration 265 = .ok (.getfield 258, 3) := by decide +kernel
theorem dX12_declaration_268 : decode cX12_declaration 268 = .ok (.iconst 1, 1) := by decide +kernel
theorem dX12_declaration_269 : decode cX12_declaration 269 = .ok (.iadd, 1) := by decide +kernel
theorem dX12_declaration_270 : decode cX12_declaration 270 = .ok (.putfield 258, 3) := by decide +kernel
theorem dX12_declaration_273 : decode cX12_declaration 273 = .ok (.goto 124, 3) := by decide +kernel
theorem dX12_declaration_276 : decode cX12_declaration 276 = .ok (.iload_n 2, 1) := by decide +kernel
theorem dX12_declaration_277 : decode cX12_declaration 277 = .ok (.bipush 51, 2) := by decide +kernel
theorem dX12_declaration_279 : decode cX12_declaration 279 = .ok (.if_icmp .ne 36, 3) := by decide +kernel
theorem dX12_declaration_282 : decode cX12_declaration 282 = .ok (.aload_n 0, 1) := by decide +kernel
theorem dX12_declaration_283 : decode cX12_declaration 283 = .ok (.getfield 172, 3) := by decide +kernel
theorem dX12_declaration_286 : decode cX12_declaration 286 = .ok (.iload 4, 2) := by decide +kernel
theorem dX12_declaration_288 : decode cX12_declaration 288 = .ok (.aload_n 0, 1) := by decide +kernel
theorem dX12_declaration_289 : decode cX12_declaration 289 = .ok (.getfield 187, 3) := by decide +kernel
theorem dX12_declaration_292 : decode cX12_declaration 292 = .ok (.ifCond .eq 7, 3) := by decide +kernel
theorem dX12_declaration_295 : decode cX12_declaration 295 = .ok (.iconst 2, 1) := by decide +kernel
theorem dX12_declaration_296 : decode cX12_declaration 296 = .ok (.goto 4, 3) := by decide +kernel
theorem dX12_declaration_299 : decode cX12_declaration 299 = .ok (.iconst 1, 1) := by decide +kernel
theorem dX12_declaration_300 : decode cX12_declaration 300 = .ok (.iastore, 1) := by decide +kernel
theorem dX12_declaration_301 : decode cX12_declaration 301 = .ok (.aload_n 0, 1) := by decide +kernel
theorem dX12_declaration_302 : decode cX12_declaration 302 = .ok (.getfield 169, 3) := by decide +kernel
theorem dX12_declaration_305 : decode cX12_declaration 305 = .ok (.iload 4, 2) := by decide +kernel
theorem dX12_declaration_307 : decode cX12_declaration 307 = .ok (.aload_n 0, 1) := by decide +kernel
theorem dX12_declaration_308 : decode cX12_declaration 308 = .ok (.getfield 191, 3) := by decide +kernel
theorem dX12_declaration_311 : decode cX12_declaration 311 = .ok (.iastore, 1) := by decide +kernel
theorem dX12_declaration_312 : decode cX12_declaration 312 = .ok (.goto 85, 3) := by decide +kernel
theorem dX12_declaration_315 : decode cX12_declaration 315 = .ok (.aload_n 0, 1) := by decide +kernel
theorem dX12_declaration_316 : decode cX12_declaration 316 = .ok (.getfield 187, 3) := by decide +kernel
theorem dX12_declaration_319 : decode cX12_declaration 319 = .ok (.ifCond .eq 40, 3) := by decide +kernel
theorem dX12_declaration_322 : decode cX12_declaration 322 = .ok (.aload_n 0, 1) := by decide +kernel
theorem dX12_declaration_323 : decode cX12_declaration 323 = .ok (.getfield 191, 3) := by decide +kernel
theorem dX12_declaration_326 : decode cX12_declaration 326 = .ok (.ifCond .lt 12, 3) := by decide +kernel
theorem dX12_declaration_329 : decode cX12_declaration 329 = .ok (.aload_n 0, 1) := by decide +kernel
theorem dX12_declaration_330 : decode cX12_declaration 330 = .ok (.getfield 191, 3) := by decide +kernel
theorem dX12_declaration_333 : decode cX12_declaration 333 = .ok (.bipush 99, 2) := by decide +kernel
theorem dX12_declaration_335 : decode cX12_declaration 335 = .ok (.if_icmp .le 24, 3) := by decide +kernel
theorem dX12_declaration_338 : decode cX12_declaration 338 = .ok (.aload_n 0, 1) := by decide +kernel
theorem dX12_declaration_339 : decode cX12_declaration 339 = .ok (.bipush 6, 2) := by decide +kernel
theorem dX12_declaration_341 : decode cX12_declaration 341 = .ok (.aload_n 0, 1) := by decide +kernel
theorem dX12_declaration_342 : decode cX12_declaration 342 = .ok (.aload_n 0, 1) := by decide +kernel
theorem dX12_declaration_343 : decode cX12_declaration 343 = .ok (.getfield 114, 3) := by decide +kernel
theorem dX12_declaration_346 : decode cX12_declaration 346 = .ok (.aload_n 0, 1) := by decide +kernel
theorem dX12_declaration_347 : decode cX12_declaration 347 = .ok (.getfield 93, 3) := by decide +kernel
theorem dX12_declaration_350 : decode cX12_declaration 350 = .ok (.iload_n 3, 1) := by decide +kernel
theorem dX12_declaration_351 : decode cX12_declaration 351 = .ok (.iaload, 1) := by decide +kernel
theorem dX12_declaration_352 : decode cX12_declaration 352 = .ok (.iaload, 1) := by decide +kernel
theorem dX12_declaration_353 : decode cX12_declaration 353 = .ok (.invokevirtual 613, 3) := by decide +kernel
theorem dX12_declaration_356 : decode cX12_declaration 356 = .ok (.invokevirtual 605, 3) := by decide +kernel
theorem dX12_declaration_359 : decode cX12_declaration 359 = .ok (.aload_n 0, 1) := by decide +kernel
theorem dX12_declaration_360 : decode cX12_declaration 360 = .ok (.getfield 169, 3) := by decide +kernel
theorem dX12_declaration_363 : decode cX12_declaration 363 = .ok (.iload 4, 2) := by decide +kernel
theorem dX12_declaration_365 : decode cX12_declaration 365 = .ok (.aload_n 0, 1) := by decide +kernel
theorem dX12_declaration_366 : decode cX12_declaration 366 = .ok (.getfield 187, 3) := by decide +kernel
theorem dX12_declaration_369 : decode cX12_declaration 369 = .ok (.ifCond .eq 26, 3) := by decide +kernel
theorem dX12_declaration_372 : decode cX12_declaration 372 = .ok (.aload_n 0, 1) := by decide +kernel
theorem dX12_declaration_373 : decode cX12_declaration 373 = .ok (.getfield 191, 3) := by decide +kernel
theorem dX12_declaration_376 : decode cX12_declaration 376 = .ok (.ifCond .lt 19, 3) := by decide +kernel
theorem dX12_declaration_379 : decode cX12_declaration 379 = .ok (.aload_n 0, 1) := by decide +kernel
theorem dX12_declaration_380 : decode cX12_declaration 380 = .ok (.getfield 191, 3) := by decide +kernel
theorem dX12_declaration_383 : decode cX12_declaration 383 = .ok (.bipush 100, 2) := by decide +kernel
theorem dX12_declaration_385 : decode cX12_declaration 385 = .ok (.if_icmp .ge 10, 3) := by decide +kernel
theorem dX12_declaration_388 : decode cX12_declaration 388 = .ok (.aload_n 0, 1) := by decide +kernel
theorem dX12_declaration_389 : decode cX12_declaration 389 = .ok (.getfield 191, 3) := by decide +kernel
theorem dX12_declaration_392 : decode cX12_declaration 392 = .ok (.goto 4, 3) := by decide +kernel
theorem dX12_declaration_395 : decode cX12_declaration 395 = .ok (.iconst 0, 1) := by decide +kernel
theorem dX12_declaration_396 : decode cX12_declaration 396 = .ok (.iastore, 1) := by decide +kernel
theorem dX12_declaration_397 : decode cX12_declaration 397 = .ok (.aload_n 0, 1) := by decide +kernel
theorem dX12_declaration_398 : decode cX12_declaration 398 = .ok (.getfield 96, 3) := by decide +kernel
theorem dX12_declaration_401 : decode cX12_declaration 401 = .ok (.iload_n 3, 1) := by decide +kernel
theorem dX12_declaration_402 : decode cX12_declaration 402 = .ok (.iaload, 1) := by decide +kernel
theorem dX12_declaration_403 : decode cX12_declaration 403 = .ok (.istore_n 3, 1) := by decide +kernel
theorem dX12_declaration_404 : decode cX12_declaration 404 = .ok (.goto (-191), 3) := by decide +kernel
theorem dX12_declaration_407 : decode cX12_declaration 407 = .ok (.return_, 1) := by decide +kernel
def wr_declaration_359 (Q : zS → Prop) (k213 : zS → Int → Int → Prop) (s0 : zS) (x2 : Int) (x3 : Int) (x4 : Int) : Prop :=
  (((zv s0 58) = 0 → (0 ≤ x4) ∧ (x4 < 9000) ∧ (0 ≤ x3) ∧ (x3 < 26000) ∧ k213 (zpa s0 52 (Int.toNat x4) 0) x2 (za s0 28 (Int.toNat x3))) ∧ (¬ (zv s0 58) = 0 → (((zv s0 59) < 0 → (0 ≤ x4) ∧ (x4 < 9000) ∧ (0 ≤ x3) ∧ (x3 < 26000) ∧ k213 (zpa s0 52 (Int.toNat x4) 0) x2 (za s0 28 (Int.toNat x3))) ∧ (¬ (zv s0 59) < 0 → ((100 ≤ (zv s0 59) → (0 ≤ x4) ∧ (x4 < 9000) ∧ (0 ≤ x3) ∧ (x3 < 26000) ∧ k213 (zpa s0 52 (Int.toNat x4) 0) x2 (za s0 28 (Int.toNat x3))) ∧ (¬ 100 ≤ (zv s0 59) → (0 ≤ x4) ∧ (x4 < 9000) ∧ (0 ≤ x3) ∧ (x3 < 26000) ∧ k213 (zpa s0 52 (Int.toNat x4) (zv s0 59)) x2 (za s0 28 (Int.toNat x3))))))))
def wr_declaration_213B (Q : zS → Prop) (k213 : zS → Int → Int → Prop) (s0 : zS) (x2 : Int) (x3 : Int) : Prop :=
  ((x3 < 0 → Q s0) ∧ (¬ x3 < 0 → (0 ≤ x3) ∧ (x3 < 26000) ∧ wr_constant s0 (za s0 27 (Int.toNat x3)) (fun s9 => (0 ≤ x3) ∧ (x3 < 26000) ∧ ((¬ x2 = 52 → ((¬ x2 = 51 → (((zv s9 58) = 0 → wr_declaration_359 Q k213 s9 x2 x3 (za s9 30 (Int.toNat x3))) ∧ (¬ (zv s9 58) = 0 → (((zv s9 59) < 0 → (0 ≤ x3) ∧ (x3 < 26000) ∧ (0 ≤ (za s9 27 (Int.toNat x3))) ∧ ((za s9 27 (Int.toNat x3)) < 26000) ∧ wr_place s9 (za s9 34 (Int.toNat (za s9 27 (Int.toNat x3)))) (fun r35 s36 => wr_fault s36 6 r35 (fun s42 => wr_declaration_359 Q k213 s42 x2 x3 (za s9 30 (Int.toNat x3))))) ∧ (¬ (zv s9 59) < 0 → (((zv s9 59) ≤ 99 → wr_declaration_359 Q k213 s9 x2 x3 (za s9 30 (Int.toNat x3))) ∧ (¬ (zv s9 59) ≤ 99 → (0 ≤ x3) ∧ (x3 < 26000) ∧ (0 ≤ (za s9 27 (Int.toNat x3))) ∧ ((za s9 27 (Int.toNat x3)) < 26000) ∧ wr_place s9 (za s9 34 (Int.toNat (za s9 27 (Int.toNat x3)))) (fun r59 s60 => wr_fault s60 6 r59 (fun s66 => wr_declaration_359 Q k213 s66 x2 x3 (za s9 30 (Int.toNat x3))))))))))) ∧ (x2 = 51 → (((zv s9 58) = 0 → (0 ≤ (za s9 30 (Int.toNat x3))) ∧ ((za s9 30 (Int.toNat x3)) < 9000) ∧ (0 ≤ (za s9 30 (Int.toNat x3))) ∧ ((za s9 30 (Int.toNat x3)) < 9000) ∧ (0 ≤ x3) ∧ (x3 < 26000) ∧ k213 (zpa (zpa s9 53 (Int.toNat (za s9 30 (Int.toNat x3))) 1) 52 (Int.toNat (za s9 30 (Int.toNat x3))) (zv s9 59)) x2 (za s9 28 (Int.toNat x3))) ∧ (¬ (zv s9 58) = 0 → (0 ≤ (za s9 30 (Int.toNat x3))) ∧ ((za s9 30 (Int.toNat x3)) < 9000) ∧ (0 ≤ (za s9 30 (Int.toNat x3))) ∧ ((za s9 30 (Int.toNat x3)) < 9000) ∧ (0 ≤ x3) ∧ (x3 < 26000) ∧ k213 (zpa (zpa s9 53 (Int.toNat (za s9 30 (Int.toNat x3))) 2) 52 (Int.toNat (za s9 30 (Int.toNat x3))) (zv s9 59)) x2 (za s9 28 (Int.toNat x3))))))) ∧ (x2 = 52 → (0 ≤ x3) ∧ (x3 < 26000) ∧ wr_init_ (zpa s9 31 (Int.toNat x3) (zv s9 81)) (zv s9 81) (zv s9 59) (fun s115 => (zR ((zv s115 81) + 1)) ∧ (0 ≤ x3) ∧ (x3 < 26000) ∧ k213 (zpv s115 81 ((zv s115 81) + 1)) x2 (za s115 28 (Int.toNat x3))))))))
def wr_declaration_213 (Q : zS → Prop)  : Nat → zS → Int → Int → Prop
  | 0 => fun _ _ _ => False
  | m + 1 => fun s0 x2 x3 => wr_declaration_213B Q  (wr_declaration_213 Q  m) s0 x2 x3
def wr_declaration_158 (Q : zS → Prop) (k133 : zS → Int → Int → Int → Prop) (s0 : zS) (x1 : Int) (x2 : Int) (x3 : Int) (y0 : Int) : Prop :=
  wr_nameToken s0 x3 (fun r1 s2 => (0 ≤ x3) ∧ (x3 < 26000) ∧ ((¬ x2 = 52 → wr_declare s2 r1 (za s2 26 (Int.toNat x3)) y0 0 0 0 (fun r13 s14 => (0 ≤ x3) ∧ (x3 < 26000) ∧ (0 ≤ x3) ∧ (x3 < 26000) ∧ k133 (zpa s14 30 (Int.toNat x3) r13) x1 x2 (za s14 28 (Int.toNat x3)))) ∧ (x2 = 52 → wr_declare s2 r1 (za s2 26 (Int.toNat x3)) y0 x3 0 0 (fun r30 s31 => (0 ≤ x3) ∧ (x3 < 26000) ∧ (0 ≤ x3) ∧ (x3 < 26000) ∧ k133 (zpa s31 30 (Int.toNat x3) r30) x1 x2 (za s31 28 (Int.toNat x3))))))
def wr_declaration_133B (Q : zS → Prop) (k133 : zS → Int → Int → Int → Prop) (s0 : zS) (x1 : Int) (x2 : Int) (x3 : Int) : Prop :=
  ((x3 < 0 → (0 ≤ x1) ∧ (x1 < 26000) ∧ ∃ n, wr_declaration_213 Q  n s0 x2 (za s0 27 (Int.toNat x1))) ∧ (¬ x3 < 0 → ((¬ x2 = 50 → ((¬ x2 = 51 → wr_declaration_158 Q k133 s0 x1 x2 x3 3) ∧ (x2 = 51 → wr_declaration_158 Q k133 s0 x1 x2 x3 2))) ∧ (x2 = 50 → wr_declaration_158 Q k133 s0 x1 x2 x3 1))))
def wr_declaration_133 (Q : zS → Prop)  : Nat → zS → Int → Int → Int → Prop
  | 0 => fun _ _ _ _ => False
  | m + 1 => fun s0 x1 x2 x3 => wr_declaration_133B Q  (wr_declaration_133 Q  m) s0 x1 x2 x3
def wr_declaration_60B (Q : zS → Prop) (k60 : zS → Int → Int → Prop) (s0 : zS) (x3 : Int) (x4 : Int) : Prop :=
  ((x4 < 0 → wr_turn s0 x3 (fun s4 => Q s4)) ∧ (¬ x4 < 0 → (0 ≤ x4) ∧ (x4 < 26000) ∧ (((za s0 25 (Int.toNat x4)) = 58 → (0 ≤ x4) ∧ (x4 < 26000) ∧ k60 s0 x3 (za s0 28 (Int.toNat x4))) ∧ (¬ (za s0 25 (Int.toNat x4)) = 58 → (0 ≤ x4) ∧ (x4 < 26000) ∧ ((¬ (za s0 25 (Int.toNat x4)) = 59 → wr_task s0 3 x4 0 (fun s28 => (0 ≤ x4) ∧ (x4 < 26000) ∧ k60 s28 x3 (za s28 28 (Int.toNat x4)))) ∧ ((za s0 25 (Int.toNat x4)) = 59 → wr_task s0 11 x4 0 (fun s39 => (0 ≤ x4) ∧ (x4 < 26000) ∧ k60 s39 x3 (za s39 28 (Int.toNat x4)))))))))
def wr_declaration_60 (Q : zS → Prop)  : Nat → zS → Int → Int → Prop
  | 0 => fun _ _ _ => False
  | m + 1 => fun s0 x3 x4 => wr_declaration_60B Q  (wr_declaration_60 Q  m) s0 x3 x4
def wr_declaration (s0 : zS) (a0 : Int) (Q : zS → Prop) : Prop :=
  (0 ≤ a0) ∧ (a0 < 26000) ∧ ((¬ (za s0 25 (Int.toNat a0)) = 53 → (0 ≤ a0) ∧ (a0 < 26000) ∧ ∃ n, wr_declaration_133 Q  n s0 a0 (za s0 25 (Int.toNat a0)) (za s0 27 (Int.toNat a0))) ∧ ((za s0 25 (Int.toNat a0)) = 53 → (0 ≤ a0) ∧ (a0 < 26000) ∧ (0 ≤ (za s0 27 (Int.toNat a0))) ∧ ((za s0 27 (Int.toNat a0)) < 26000) ∧ ((¬ (za s0 25 (Int.toNat (za s0 27 (Int.toNat a0)))) = 55 → wr_letRoutines s0 a0 (fun s25 => Q s25)) ∧ ((za s0 25 (Int.toNat (za s0 27 (Int.toNat a0)))) = 55 → (0 ≤ a0) ∧ (a0 < 26000) ∧ wr_task s0 8 (za s0 27 (Int.toNat a0)) 0 (fun s36 => (0 ≤ a0) ∧ (a0 < 26000) ∧ (0 ≤ (za s36 27 (Int.toNat a0))) ∧ ((za s36 27 (Int.toNat a0)) < 26000) ∧ ∃ n, wr_declaration_60 Q  n s36 (zv s36 63) (za s36 27 (Int.toNat (za s36 27 (Int.toNat a0)))))))))
set_option maxHeartbeats 4000000 in
set_option maxRecDepth 100000 in
theorem rj_declaration_359 {X : gX} {d : gD} {b t : Nat} {T : Nat → Nat} {F0 : gM} (hC : gC RX12 cX12_declaration 5 none "declaration" (gR 4 0 0) d b X) {Q : zS → Prop} {k213 : zS → Int → Int → Prop} (hk213 : ∀ (F : gM) (s0 : zS) (x2 : Int) (x3 : Int), zR x2 → zR x3 → zZ d t T F0 F s0 → k213 s0 x2 x3 → gG X d b (zQv X d b t T F0 Q) F 0 0 213 [some (.ref t), none, some (.int (zI x2)), some (.int (zI x3)), none] []) {F : gM} {s0 : zS} {x2 : Int} {x3 : Int} {x4 : Int} (Rx2 : zR x2) (Rx3 : zR x3) (Rx4 : zR x4) (hZ : zZ d t T F0 F s0) (hw : wr_declaration_359 Q k213 s0 x2 x3 x4) : gG X d b (zQv X d b t T F0 Q) F 0 0 359 [some (.ref t), none, some (.int (zI x2)), some (.int (zI x3)), some (.int (zI x4))] [] := by
  unfold wr_declaration_359 at hw
  refine g_aload_n hC dX12_declaration_359 rfl ?_
  refine zr_geta hC hZ fl_X12_169 zb_52 (by decide) dX12_declaration_360 ?_
  refine g_iload hC dX12_declaration_363 rfl ?_
  refine g_aload_n hC dX12_declaration_365 rfl ?_
  refine zr_get (e := (zv s0 58)) hC hZ fl_X12_187 zb_58 (by decide) rfl dX12_declaration_366 ?_
  refine zr_if_eq (tgt := 395) hC (hZ.rv 58) dX12_declaration_369 (by decide) (fun c1 => ?_) (fun c1 => ?_)
  · have h2 := hw.1 c1
    refine g_iconst (v := zI 0) hC dX12_declaration_395 rfl ?_
    obtain ⟨o3, h4⟩ := h2
    obtain ⟨o5, h6⟩ := h4
    refine zr_iast hC hZ zk_52 zb_52 zn_52 (by decide) o3 o5 (by decide) dX12_declaration_396 (fun F7 hZ8 => ?_)
    refine g_aload_n hC dX12_declaration_397 rfl ?_
    refine zr_geta hC hZ8 fl_X12_96 zb_28 (by decide) dX12_declaration_398 ?_
    refine g_iload_n hC dX12_declaration_401 rfl ?_
    obtain ⟨o9, h10⟩ := h6
    obtain ⟨o11, h12⟩ := h10
    refine zr_iald (v := (za s0 28 (Int.toNat x3))) hC hZ8 zk_28 zb_28 zn_28 (by decide) o9 o11 rfl dX12_declaration_402 ?_
    refine g_istore_n (lv' := [some (.ref t), none, some (.int (zI x2)), some (.int (zI (za s0 28 (Int.toNat x3)))), some (.int (zI x4))]) hC dX12_declaration_403 (Nat.le_of_ble_eq_true rfl) rfl rfl ?_
    refine g_goto (tgt := 213) hC dX12_declaration_404 (by decide) ?_
    refine g_lv (lv' := [some (.ref t), none, some (.int (zI x2)), some (.int (zI (za s0 28 (Int.toNat x3)))), none]) ⟨rfl, rfl, rfl, trivial⟩ ?_
    exact hk213 _ _ _ _ Rx2 (hZ.ra 28 _) hZ8 h12
  · have h13 := hw.2 c1
    refine g_aload_n hC dX12_declaration_372 rfl ?_
    refine zr_get (e := (zv s0 59)) hC hZ fl_X12_191 zb_59 (by decide) rfl dX12_declaration_373 ?_
    refine zr_if_lt (tgt := 395) hC (hZ.rv 59) dX12_declaration_376 (by decide) (fun c14 => ?_) (fun c14 => ?_)
    · have h15 := h13.1 c14
      refine g_iconst (v := zI 0) hC dX12_declaration_395 rfl ?_
      obtain ⟨o16, h17⟩ := h15
      obtain ⟨o18, h19⟩ := h17
      refine zr_iast hC hZ zk_52 zb_52 zn_52 (by decide) o16 o18 (by decide) dX12_declaration_396 (fun F20 hZ21 => ?_)
      refine g_aload_n hC dX12_declaration_397 rfl ?_
      refine zr_geta hC hZ21 fl_X12_96 zb_28 (by decide) dX12_declaration_398 ?_
      refine g_iload_n hC dX12_declaration_401 rfl ?_
      obtain ⟨o22, h23⟩ := h19
      obtain ⟨o24, h25⟩ := h23
      refine zr_iald (v := (za s0 28 (Int.toNat x3))) hC hZ21 zk_28 zb_28 zn_28 (by decide) o22 o24 rfl dX12_declaration_402 ?_
      refine g_istore_n (lv' := [some (.ref t), none, some (.int (zI x2)), some (.int (zI (za s0 28 (Int.toNat x3)))), some (.int (zI x4))]) hC dX12_declaration_403 (Nat.le_of_ble_eq_true rfl) rfl rfl ?_
      refine g_goto (tgt := 213) hC dX12_declaration_404 (by decide) ?_
      refine g_lv (lv' := [some (.ref t), none, some (.int (zI x2)), some (.int (zI (za s0 28 (Int.toNat x3)))), none]) ⟨rfl, rfl, rfl, trivial⟩ ?_
      exact hk213 _ _ _ _ Rx2 (hZ.ra 28 _) hZ21 h25
    · have h26 := h13.2 c14
      refine g_aload_n hC dX12_declaration_379 rfl ?_
      refine zr_get (e := (zv s0 59)) hC hZ fl_X12_191 zb_59 (by decide) rfl dX12_declaration_380 ?_
      refine g_bipush (v := zI 100) hC dX12_declaration_383 rfl ?_
      refine zr_icmp_ge (tgt := 395) hC (hZ.rv 59) (by decide) dX12_declaration_385 (by decide) (fun c27 => ?_) (fun c27 => ?_)
      · have h28 := h26.1 c27
        refine g_iconst (v := zI 0) hC dX12_declaration_395 rfl ?_
        obtain ⟨o29, h30⟩ := h28
        obtain ⟨o31, h32⟩ := h30
        refine zr_iast hC hZ zk_52 zb_52 zn_52 (by decide) o29 o31 (by decide) dX12_declaration_396 (fun F33 hZ34 => ?_)
        refine g_aload_n hC dX12_declaration_397 rfl ?_
        refine zr_geta hC hZ34 fl_X12_96 zb_28 (by decide) dX12_declaration_398 ?_
        refine g_iload_n hC dX12_declaration_401 rfl ?_
        obtain ⟨o35, h36⟩ := h32
        obtain ⟨o37, h38⟩ := h36
        refine zr_iald (v := (za s0 28 (Int.toNat x3))) hC hZ34 zk_28 zb_28 zn_28 (by decide) o35 o37 rfl dX12_declaration_402 ?_
        refine g_istore_n (lv' := [some (.ref t), none, some (.int (zI x2)), some (.int (zI (za s0 28 (Int.toNat x3)))), some (.int (zI x4))]) hC dX12_declaration_403 (Nat.le_of_ble_eq_true rfl) rfl rfl ?_
        refine g_goto (tgt := 213) hC dX12_declaration_404 (by decide) ?_
        refine g_lv (lv' := [some (.ref t), none, some (.int (zI x2)), some (.int (zI (za s0 28 (Int.toNat x3)))), none]) ⟨rfl, rfl, rfl, trivial⟩ ?_
        exact hk213 _ _ _ _ Rx2 (hZ.ra 28 _) hZ34 h38
      · have h39 := h26.2 c27
        refine g_aload_n hC dX12_declaration_388 rfl ?_
        refine zr_get (e := (zv s0 59)) hC hZ fl_X12_191 zb_59 (by decide) rfl dX12_declaration_389 ?_
        refine g_goto (tgt := 396) hC dX12_declaration_392 (by decide) ?_
        obtain ⟨o40, h41⟩ := h39
        obtain ⟨o42, h43⟩ := h41
        refine zr_iast hC hZ zk_52 zb_52 zn_52 (by decide) o40 o42 (hZ.rv 59) dX12_declaration_396 (fun F44 hZ45 => ?_)
        refine g_aload_n hC dX12_declaration_397 rfl ?_
        refine zr_geta hC hZ45 fl_X12_96 zb_28 (by decide) dX12_declaration_398 ?_
        refine g_iload_n hC dX12_declaration_401 rfl ?_
        obtain ⟨o46, h47⟩ := h43
        obtain ⟨o48, h49⟩ := h47
        refine zr_iald (v := (za s0 28 (Int.toNat x3))) hC hZ45 zk_28 zb_28 zn_28 (by decide) o46 o48 rfl dX12_declaration_402 ?_
        refine g_istore_n (lv' := [some (.ref t), none, some (.int (zI x2)), some (.int (zI (za s0 28 (Int.toNat x3)))), some (.int (zI x4))]) hC dX12_declaration_403 (Nat.le_of_ble_eq_true rfl) rfl rfl ?_
        refine g_goto (tgt := 213) hC dX12_declaration_404 (by decide) ?_
        refine g_lv (lv' := [some (.ref t), none, some (.int (zI x2)), some (.int (zI (za s0 28 (Int.toNat x3)))), none]) ⟨rfl, rfl, rfl, trivial⟩ ?_
        exact hk213 _ _ _ _ Rx2 (hZ.ra 28 _) hZ45 h49
set_option maxHeartbeats 4000000 in
set_option maxRecDepth 100000 in
theorem rb_declaration_213 {X : gX} {d : gD} {b t : Nat} {T : Nat → Nat} {F0 : gM} (hC : gC RX12 cX12_declaration 5 none "declaration" (gR 4 0 0) d b X) {Q : zS → Prop} {k213 : zS → Int → Int → Prop} (hk213 : ∀ (F : gM) (s0 : zS) (x2 : Int) (x3 : Int), zR x2 → zR x3 → zZ d t T F0 F s0 → k213 s0 x2 x3 → gG X d b (zQv X d b t T F0 Q) F 0 0 213 [some (.ref t), none, some (.int (zI x2)), some (.int (zI x3)), none] []) {F : gM} {s0 : zS} {x2 : Int} {x3 : Int} (Rx2 : zR x2) (Rx3 : zR x3) (hZ : zZ d t T F0 F s0) (hw : wr_declaration_213B Q k213 s0 x2 x3) : gG X d b (zQv X d b t T F0 Q) F 0 0 213 [some (.ref t), none, some (.int (zI x2)), some (.int (zI x3)), none] [] := by
  unfold wr_declaration_213B at hw
  refine g_iload_n hC dX12_declaration_213 rfl ?_
  refine zr_if_lt (tgt := 407) hC Rx3 dX12_declaration_214 (by decide) (fun c1 => ?_) (fun c1 => ?_)
  · have h2 := hw.1 c1
    exact zr_vret hC hZ h2 dX12_declaration_407
  · have h3 := hw.2 c1
    refine g_aload_n hC dX12_declaration_217 rfl ?_
    refine g_aload_n hC dX12_declaration_218 rfl ?_
    refine zr_geta hC hZ fl_X12_93 zb_27 (by decide) dX12_declaration_219 ?_
    refine g_iload_n hC dX12_declaration_222 rfl ?_
    obtain ⟨o4, h5⟩ := h3
    obtain ⟨o6, h7⟩ := h5
    refine zr_iald (v := (za s0 27 (Int.toNat x3))) hC hZ zk_27 zb_27 zn_27 (by decide) o4 o6 rfl dX12_declaration_223 ?_
    refine zr_callVv (As := [.int (zI (za s0 27 (Int.toNat x3)))]) hC hZ rfl (rm_constant X.la d b (hZ.ra 27 _) hZ.rf h7) cl_X12_756 rfl rfl (Nat.le_of_ble_eq_true rfl) ⟨Nat.le_of_ble_eq_true rfl, Nat.le_of_ble_eq_true rfl⟩ dX12_declaration_224 (fun s9 F10 hZ12 h13 => ?_)
    refine g_aload_n hC dX12_declaration_227 rfl ?_
    refine zr_geta hC hZ12 fl_X12_102 zb_30 (by decide) dX12_declaration_228 ?_
    refine g_iload_n hC dX12_declaration_231 rfl ?_
    obtain ⟨o14, h15⟩ := h13
    obtain ⟨o16, h17⟩ := h15
    refine zr_iald (v := (za s9 30 (Int.toNat x3))) hC hZ12 zk_30 zb_30 zn_30 (by decide) o14 o16 rfl dX12_declaration_232 ?_
    refine g_istore (lv' := [some (.ref t), none, some (.int (zI x2)), some (.int (zI x3)), some (.int (zI (za s9 30 (Int.toNat x3))))]) hC dX12_declaration_233 (Nat.le_of_ble_eq_true rfl) rfl rfl ?_
    refine g_iload_n hC dX12_declaration_235 rfl ?_
    refine g_bipush (v := zI 52) hC dX12_declaration_236 rfl ?_
    refine zr_icmp_ne (tgt := 276) hC Rx2 (by decide) dX12_declaration_238 (by decide) (fun c18 => ?_) (fun c18 => ?_)
    · have h19 := h17.1 c18
      refine g_iload_n hC dX12_declaration_276 rfl ?_
      refine g_bipush (v := zI 51) hC dX12_declaration_277 rfl ?_
      refine zr_icmp_ne (tgt := 315) hC Rx2 (by decide) dX12_declaration_279 (by decide) (fun c20 => ?_) (fun c20 => ?_)
      · have h21 := h19.1 c20
        refine g_aload_n hC dX12_declaration_315 rfl ?_
        refine zr_get (e := (zv s9 58)) hC hZ12 fl_X12_187 zb_58 (by decide) rfl dX12_declaration_316 ?_
        refine zr_if_eq (tgt := 359) hC (hZ12.rv 58) dX12_declaration_319 (by decide) (fun c22 => ?_) (fun c22 => ?_)
        · have h23 := h21.1 c22
          exact rj_declaration_359 hC hk213 Rx2 Rx3 (hZ12.ra 30 _) hZ12 h23
        · have h24 := h21.2 c22
          refine g_aload_n hC dX12_declaration_322 rfl ?_
          refine zr_get (e := (zv s9 59)) hC hZ12 fl_X12_191 zb_59 (by decide) rfl dX12_declaration_323 ?_
          refine zr_if_lt (tgt := 338) hC (hZ12.rv 59) dX12_declaration_326 (by decide) (fun c25 => ?_) (fun c25 => ?_)
          · have h26 := h24.1 c25
            refine g_aload_n hC dX12_declaration_338 rfl ?_
            refine g_bipush (v := zI 6) hC dX12_declaration_339 rfl ?_
            refine g_aload_n hC dX12_declaration_341 rfl ?_
            refine g_aload_n hC dX12_declaration_342 rfl ?_
            refine zr_geta hC hZ12 fl_X12_114 zb_34 (by decide) dX12_declaration_343 ?_
            refine g_aload_n hC dX12_declaration_346 rfl ?_
            refine zr_geta hC hZ12 fl_X12_93 zb_27 (by decide) dX12_declaration_347 ?_
            refine g_iload_n hC dX12_declaration_350 rfl ?_
            obtain ⟨o27, h28⟩ := h26
            obtain ⟨o29, h30⟩ := h28
            refine zr_iald (v := (za s9 27 (Int.toNat x3))) hC hZ12 zk_27 zb_27 zn_27 (by decide) o27 o29 rfl dX12_declaration_351 ?_
            obtain ⟨o31, h32⟩ := h30
            obtain ⟨o33, h34⟩ := h32
            refine zr_iald (v := (za s9 34 (Int.toNat (za s9 27 (Int.toNat x3))))) hC hZ12 zk_34 zb_34 zn_34 (by decide) o31 o33 rfl dX12_declaration_352 ?_
            refine zr_callVi (As := [.int (zI (za s9 34 (Int.toNat (za s9 27 (Int.toNat x3)))))]) hC hZ12 rfl (rm_place X.la d b (hZ12.ra 34 _) hZ12.rf h34) cl_X12_613 rfl rfl (Nat.le_of_ble_eq_true rfl) ⟨Nat.le_of_ble_eq_true rfl, Nat.le_of_ble_eq_true rfl⟩ dX12_declaration_353 (fun r35 s36 F37 R38 hZ39 h40 => ?_)
            refine zr_callVv (As := [.int (zI 6), .int (zI r35)]) hC hZ39 rfl (rm_fault X.la d b (by decide) R38 hZ39.rf h40) cl_X12_605 rfl rfl (Nat.le_of_ble_eq_true rfl) ⟨Nat.le_of_ble_eq_true rfl, Nat.le_of_ble_eq_true rfl⟩ dX12_declaration_356 (fun s42 F43 hZ45 h46 => ?_)
            exact rj_declaration_359 hC hk213 Rx2 Rx3 (hZ12.ra 30 _) hZ45 h46
          · have h47 := h24.2 c25
            refine g_aload_n hC dX12_declaration_329 rfl ?_
            refine zr_get (e := (zv s9 59)) hC hZ12 fl_X12_191 zb_59 (by decide) rfl dX12_declaration_330 ?_
            refine g_bipush (v := zI 99) hC dX12_declaration_333 rfl ?_
            refine zr_icmp_le (tgt := 359) hC (hZ12.rv 59) (by decide) dX12_declaration_335 (by decide) (fun c48 => ?_) (fun c48 => ?_)
            · have h49 := h47.1 c48
              exact rj_declaration_359 hC hk213 Rx2 Rx3 (hZ12.ra 30 _) hZ12 h49
            · have h50 := h47.2 c48
              refine g_aload_n hC dX12_declaration_338 rfl ?_
              refine g_bipush (v := zI 6) hC dX12_declaration_339 rfl ?_
              refine g_aload_n hC dX12_declaration_341 rfl ?_
              refine g_aload_n hC dX12_declaration_342 rfl ?_
              refine zr_geta hC hZ12 fl_X12_114 zb_34 (by decide) dX12_declaration_343 ?_
              refine g_aload_n hC dX12_declaration_346 rfl ?_
              refine zr_geta hC hZ12 fl_X12_93 zb_27 (by decide) dX12_declaration_347 ?_
              refine g_iload_n hC dX12_declaration_350 rfl ?_
              obtain ⟨o51, h52⟩ := h50
              obtain ⟨o53, h54⟩ := h52
              refine zr_iald (v := (za s9 27 (Int.toNat x3))) hC hZ12 zk_27 zb_27 zn_27 (by decide) o51 o53 rfl dX12_declaration_351 ?_
              obtain ⟨o55, h56⟩ := h54
              obtain ⟨o57, h58⟩ := h56
              refine zr_iald (v := (za s9 34 (Int.toNat (za s9 27 (Int.toNat x3))))) hC hZ12 zk_34 zb_34 zn_34 (by decide) o55 o57 rfl dX12_declaration_352 ?_
              refine zr_callVi (As := [.int (zI (za s9 34 (Int.toNat (za s9 27 (Int.toNat x3)))))]) hC hZ12 rfl (rm_place X.la d b (hZ12.ra 34 _) hZ12.rf h58) cl_X12_613 rfl rfl (Nat.le_of_ble_eq_true rfl) ⟨Nat.le_of_ble_eq_true rfl, Nat.le_of_ble_eq_true rfl⟩ dX12_declaration_353 (fun r59 s60 F61 R62 hZ63 h64 => ?_)
              refine zr_callVv (As := [.int (zI 6), .int (zI r59)]) hC hZ63 rfl (rm_fault X.la d b (by decide) R62 hZ63.rf h64) cl_X12_605 rfl rfl (Nat.le_of_ble_eq_true rfl) ⟨Nat.le_of_ble_eq_true rfl, Nat.le_of_ble_eq_true rfl⟩ dX12_declaration_356 (fun s66 F67 hZ69 h70 => ?_)
              exact rj_declaration_359 hC hk213 Rx2 Rx3 (hZ12.ra 30 _) hZ69 h70
      · have h71 := h19.2 c20
        refine g_aload_n hC dX12_declaration_282 rfl ?_
        refine zr_geta hC hZ12 fl_X12_172 zb_53 (by decide) dX12_declaration_283 ?_
        refine g_iload hC dX12_declaration_286 rfl ?_
        refine g_aload_n hC dX12_declaration_288 rfl ?_
        refine zr_get (e := (zv s9 58)) hC hZ12 fl_X12_187 zb_58 (by decide) rfl dX12_declaration_289 ?_
        refine zr_if_eq (tgt := 299) hC (hZ12.rv 58) dX12_declaration_292 (by decide) (fun c72 => ?_) (fun c72 => ?_)
        · have h73 := h71.1 c72
          refine g_iconst (v := zI 1) hC dX12_declaration_299 rfl ?_
          obtain ⟨o74, h75⟩ := h73
          obtain ⟨o76, h77⟩ := h75
          refine zr_iast hC hZ12 zk_53 zb_53 zn_53 (by decide) o74 o76 (by decide) dX12_declaration_300 (fun F78 hZ79 => ?_)
          refine g_aload_n hC dX12_declaration_301 rfl ?_
          refine zr_geta hC hZ79 fl_X12_169 zb_52 (by decide) dX12_declaration_302 ?_
          refine g_iload hC dX12_declaration_305 rfl ?_
          refine g_aload_n hC dX12_declaration_307 rfl ?_
          refine zr_get (e := (zv s9 59)) hC hZ79 fl_X12_191 zb_59 (by decide) rfl dX12_declaration_308 ?_
          obtain ⟨o80, h81⟩ := h77
          obtain ⟨o82, h83⟩ := h81
          refine zr_iast hC hZ79 zk_52 zb_52 zn_52 (by decide) o80 o82 (hZ12.rv 59) dX12_declaration_311 (fun F84 hZ85 => ?_)
          refine g_goto (tgt := 397) hC dX12_declaration_312 (by decide) ?_
          refine g_aload_n hC dX12_declaration_397 rfl ?_
          refine zr_geta hC hZ85 fl_X12_96 zb_28 (by decide) dX12_declaration_398 ?_
          refine g_iload_n hC dX12_declaration_401 rfl ?_
          obtain ⟨o86, h87⟩ := h83
          obtain ⟨o88, h89⟩ := h87
          refine zr_iald (v := (za s9 28 (Int.toNat x3))) hC hZ85 zk_28 zb_28 zn_28 (by decide) o86 o88 rfl dX12_declaration_402 ?_
          refine g_istore_n (lv' := [some (.ref t), none, some (.int (zI x2)), some (.int (zI (za s9 28 (Int.toNat x3)))), some (.int (zI (za s9 30 (Int.toNat x3))))]) hC dX12_declaration_403 (Nat.le_of_ble_eq_true rfl) rfl rfl ?_
          refine g_goto (tgt := 213) hC dX12_declaration_404 (by decide) ?_
          refine g_lv (lv' := [some (.ref t), none, some (.int (zI x2)), some (.int (zI (za s9 28 (Int.toNat x3)))), none]) ⟨rfl, rfl, rfl, trivial⟩ ?_
          exact hk213 _ _ _ _ Rx2 (hZ12.ra 28 _) hZ85 h89
        · have h90 := h71.2 c72
          refine g_iconst (v := zI 2) hC dX12_declaration_295 rfl ?_
          refine g_goto (tgt := 300) hC dX12_declaration_296 (by decide) ?_
          obtain ⟨o91, h92⟩ := h90
          obtain ⟨o93, h94⟩ := h92
          refine zr_iast hC hZ12 zk_53 zb_53 zn_53 (by decide) o91 o93 (by decide) dX12_declaration_300 (fun F95 hZ96 => ?_)
          refine g_aload_n hC dX12_declaration_301 rfl ?_
          refine zr_geta hC hZ96 fl_X12_169 zb_52 (by decide) dX12_declaration_302 ?_
          refine g_iload hC dX12_declaration_305 rfl ?_
          refine g_aload_n hC dX12_declaration_307 rfl ?_
          refine zr_get (e := (zv s9 59)) hC hZ96 fl_X12_191 zb_59 (by decide) rfl dX12_declaration_308 ?_
          obtain ⟨o97, h98⟩ := h94
          obtain ⟨o99, h100⟩ := h98
          refine zr_iast hC hZ96 zk_52 zb_52 zn_52 (by decide) o97 o99 (hZ12.rv 59) dX12_declaration_311 (fun F101 hZ102 => ?_)
          refine g_goto (tgt := 397) hC dX12_declaration_312 (by decide) ?_
          refine g_aload_n hC dX12_declaration_397 rfl ?_
          refine zr_geta hC hZ102 fl_X12_96 zb_28 (by decide) dX12_declaration_398 ?_
          refine g_iload_n hC dX12_declaration_401 rfl ?_
          obtain ⟨o103, h104⟩ := h100
          obtain ⟨o105, h106⟩ := h104
          refine zr_iald (v := (za s9 28 (Int.toNat x3))) hC hZ102 zk_28 zb_28 zn_28 (by decide) o103 o105 rfl dX12_declaration_402 ?_
          refine g_istore_n (lv' := [some (.ref t), none, some (.int (zI x2)), some (.int (zI (za s9 28 (Int.toNat x3)))), some (.int (zI (za s9 30 (Int.toNat x3))))]) hC dX12_declaration_403 (Nat.le_of_ble_eq_true rfl) rfl rfl ?_
          refine g_goto (tgt := 213) hC dX12_declaration_404 (by decide) ?_
          refine g_lv (lv' := [some (.ref t), none, some (.int (zI x2)), some (.int (zI (za s9 28 (Int.toNat x3)))), none]) ⟨rfl, rfl, rfl, trivial⟩ ?_
          exact hk213 _ _ _ _ Rx2 (hZ12.ra 28 _) hZ102 h106
    · have h107 := h17.2 c18
      refine g_aload_n hC dX12_declaration_241 rfl ?_
      refine zr_geta hC hZ12 fl_X12_105 zb_31 (by decide) dX12_declaration_242 ?_
      refine g_iload_n hC dX12_declaration_245 rfl ?_
      refine g_aload_n hC dX12_declaration_246 rfl ?_
      refine zr_get (e := (zv s9 81)) hC hZ12 fl_X12_258 zb_81 (by decide) rfl dX12_declaration_247 ?_
      obtain ⟨o108, h109⟩ := h107
      obtain ⟨o110, h111⟩ := h109
      refine zr_iast hC hZ12 zk_31 zb_31 zn_31 (by decide) o108 o110 (hZ12.rv 81) dX12_declaration_250 (fun F112 hZ113 => ?_)
      refine g_aload_n hC dX12_declaration_251 rfl ?_
      refine g_aload_n hC dX12_declaration_252 rfl ?_
      refine zr_get (e := (zv s9 81)) hC hZ113 fl_X12_258 zb_81 (by decide) rfl dX12_declaration_253 ?_
      refine g_aload_n hC dX12_declaration_256 rfl ?_
      refine zr_get (e := (zv s9 59)) hC hZ113 fl_X12_191 zb_59 (by decide) rfl dX12_declaration_257 ?_
      refine zr_callVv (As := [.int (zI (zv s9 81)), .int (zI (zv s9 59))]) hC hZ113 rfl (rm_init_ X.la d b (hZ12.rv 81) (hZ12.rv 59) hZ113.rf h111) cl_X12_759 rfl rfl (Nat.le_of_ble_eq_true rfl) ⟨Nat.le_of_ble_eq_true rfl, Nat.le_of_ble_eq_true rfl⟩ dX12_declaration_260 (fun s115 F116 hZ118 h119 => ?_)
      refine g_aload_n hC dX12_declaration_263 rfl ?_
      refine g_dup hC dX12_declaration_264 rfl ?_
      refine zr_get (e := (zv s115 81)) hC hZ118 fl_X12_258 zb_81 (by decide) rfl dX12_declaration_265 ?_
      refine g_iconst (v := zI 1) hC dX12_declaration_268 rfl ?_
      refine zr_iadd hC dX12_declaration_269 ?_
      obtain ⟨o120, h121⟩ := h119
      refine zr_put hC hZ118 fl_X12_258 zb_81 (by decide) o120 dX12_declaration_270 (fun F122 hZ123 => ?_)
      refine g_goto (tgt := 397) hC dX12_declaration_273 (by decide) ?_
      refine g_aload_n hC dX12_declaration_397 rfl ?_
      refine zr_geta hC hZ123 fl_X12_96 zb_28 (by decide) dX12_declaration_398 ?_
      refine g_iload_n hC dX12_declaration_401 rfl ?_
      obtain ⟨o124, h125⟩ := h121
      obtain ⟨o126, h127⟩ := h125
      refine zr_iald (v := (za s115 28 (Int.toNat x3))) hC hZ123 zk_28 zb_28 zn_28 (by decide) o124 o126 rfl dX12_declaration_402 ?_
      refine g_istore_n (lv' := [some (.ref t), none, some (.int (zI x2)), some (.int (zI (za s115 28 (Int.toNat x3)))), some (.int (zI (za s9 30 (Int.toNat x3))))]) hC dX12_declaration_403 (Nat.le_of_ble_eq_true rfl) rfl rfl ?_
      refine g_goto (tgt := 213) hC dX12_declaration_404 (by decide) ?_
      refine g_lv (lv' := [some (.ref t), none, some (.int (zI x2)), some (.int (zI (za s115 28 (Int.toNat x3)))), none]) ⟨rfl, rfl, rfl, trivial⟩ ?_
      exact hk213 _ _ _ _ Rx2 (hZ118.ra 28 _) hZ123 h127
theorem rl_declaration_213 {X : gX} {d : gD} {b t : Nat} {T : Nat → Nat} {F0 : gM} (hC : gC RX12 cX12_declaration 5 none "declaration" (gR 4 0 0) d b X) {Q : zS → Prop}   : ∀ (m : Nat) (F : gM) (s0 : zS) (x2 : Int) (x3 : Int), zR x2 → zR x3 → zZ d t T F0 F s0 → wr_declaration_213 Q  m s0 x2 x3 → gG X d b (zQv X d b t T F0 Q) F 0 0 213 [some (.ref t), none, some (.int (zI x2)), some (.int (zI x3)), none] [] := by
  intro m
  induction m with
  | zero => intro F s0 x2 x3 Rx2 Rx3 hZ hw; exact False.elim hw
  | succ m ih => intro F s0 x2 x3 Rx2 Rx3 hZ hw; exact rb_declaration_213 hC  ih Rx2 Rx3 hZ hw
set_option maxHeartbeats 4000000 in
set_option maxRecDepth 100000 in
theorem rj_declaration_158 {X : gX} {d : gD} {b t : Nat} {T : Nat → Nat} {F0 : gM} (hC : gC RX12 cX12_declaration 5 none "declaration" (gR 4 0 0) d b X) {Q : zS → Prop} {k133 : zS → Int → Int → Int → Prop} (hk133 : ∀ (F : gM) (s0 : zS) (x1 : Int) (x2 : Int) (x3 : Int), zR x1 → zR x2 → zR x3 → zZ d t T F0 F s0 → k133 s0 x1 x2 x3 → gG X d b (zQv X d b t T F0 Q) F 0 0 133 [some (.ref t), some (.int (zI x1)), some (.int (zI x2)), some (.int (zI x3)), none] []) {F : gM} {s0 : zS} {x1 : Int} {x2 : Int} {x3 : Int} {y0 : Int} (Rx1 : zR x1) (Rx2 : zR x2) (Rx3 : zR x3) (Ry0 : zR y0) (hZ : zZ d t T F0 F s0) (hw : wr_declaration_158 Q k133 s0 x1 x2 x3 y0) : gG X d b (zQv X d b t T F0 Q) F 0 0 158 [some (.ref t), some (.int (zI x1)), some (.int (zI x2)), some (.int (zI x3)), none] [.int (zI y0)] := by
  unfold wr_declaration_158 at hw
  refine g_istore (lv' := [some (.ref t), some (.int (zI x1)), some (.int (zI x2)), some (.int (zI x3)), some (.int (zI y0))]) hC dX12_declaration_158 (Nat.le_of_ble_eq_true rfl) rfl rfl ?_
  refine g_aload_n hC dX12_declaration_160 rfl ?_
  refine zr_geta hC hZ fl_X12_102 zb_30 (by decide) dX12_declaration_161 ?_
  refine g_iload_n hC dX12_declaration_164 rfl ?_
  refine g_aload_n hC dX12_declaration_165 rfl ?_
  refine g_aload_n hC dX12_declaration_166 rfl ?_
  refine g_iload_n hC dX12_declaration_167 rfl ?_
  refine zr_callVi (As := [.int (zI x3)]) hC hZ rfl (rm_nameToken X.la d b Rx3 hZ.rf hw) cl_X12_749 rfl rfl (Nat.le_of_ble_eq_true rfl) ⟨Nat.le_of_ble_eq_true rfl, Nat.le_of_ble_eq_true rfl⟩ dX12_declaration_168 (fun r1 s2 F3 R4 hZ5 h6 => ?_)
  refine g_aload_n hC dX12_declaration_171 rfl ?_
  refine zr_geta hC hZ5 fl_X12_90 zb_26 (by decide) dX12_declaration_172 ?_
  refine g_iload_n hC dX12_declaration_175 rfl ?_
  obtain ⟨o7, h8⟩ := h6
  obtain ⟨o9, h10⟩ := h8
  refine zr_iald (v := (za s2 26 (Int.toNat x3))) hC hZ5 zk_26 zb_26 zn_26 (by decide) o7 o9 rfl dX12_declaration_176 ?_
  refine g_iload hC dX12_declaration_177 rfl ?_
  refine g_iload_n hC dX12_declaration_179 rfl ?_
  refine g_bipush (v := zI 52) hC dX12_declaration_180 rfl ?_
  refine zr_icmp_ne (tgt := 189) hC Rx2 (by decide) dX12_declaration_182 (by decide) (fun c11 => ?_) (fun c11 => ?_)
  · have h12 := h10.1 c11
    refine g_iconst (v := zI 0) hC dX12_declaration_189 rfl ?_
    refine g_iconst (v := zI 0) hC dX12_declaration_190 rfl ?_
    refine g_iconst (v := zI 0) hC dX12_declaration_191 rfl ?_
    refine zr_callVi (As := [.int (zI r1), .int (zI (za s2 26 (Int.toNat x3))), .int (zI y0), .int (zI 0), .int (zI 0), .int (zI 0)]) hC hZ5 rfl (rm_declare X.la d b R4 (hZ5.ra 26 _) Ry0 (by decide) (by decide) (by decide) hZ5.rf h12) cl_X12_752 rfl rfl (Nat.le_of_ble_eq_true rfl) ⟨Nat.le_of_ble_eq_true rfl, Nat.le_of_ble_eq_true rfl⟩ dX12_declaration_192 (fun r13 s14 F15 R16 hZ17 h18 => ?_)
    obtain ⟨o19, h20⟩ := h18
    obtain ⟨o21, h22⟩ := h20
    refine zr_iast hC hZ17 zk_30 zb_30 zn_30 (by decide) o19 o21 R16 dX12_declaration_195 (fun F23 hZ24 => ?_)
    refine g_aload_n hC dX12_declaration_196 rfl ?_
    refine zr_geta hC hZ24 fl_X12_96 zb_28 (by decide) dX12_declaration_197 ?_
    refine g_iload_n hC dX12_declaration_200 rfl ?_
    obtain ⟨o25, h26⟩ := h22
    obtain ⟨o27, h28⟩ := h26
    refine zr_iald (v := (za s14 28 (Int.toNat x3))) hC hZ24 zk_28 zb_28 zn_28 (by decide) o25 o27 rfl dX12_declaration_201 ?_
    refine g_istore_n (lv' := [some (.ref t), some (.int (zI x1)), some (.int (zI x2)), some (.int (zI (za s14 28 (Int.toNat x3)))), some (.int (zI y0))]) hC dX12_declaration_202 (Nat.le_of_ble_eq_true rfl) rfl rfl ?_
    refine g_goto (tgt := 133) hC dX12_declaration_203 (by decide) ?_
    refine g_lv (lv' := [some (.ref t), some (.int (zI x1)), some (.int (zI x2)), some (.int (zI (za s14 28 (Int.toNat x3)))), none]) ⟨rfl, rfl, rfl, rfl, trivial⟩ ?_
    exact hk133 _ _ _ _ _ Rx1 Rx2 (hZ17.ra 28 _) hZ24 h28
  · have h29 := h10.2 c11
    refine g_iload_n hC dX12_declaration_185 rfl ?_
    refine g_goto (tgt := 190) hC dX12_declaration_186 (by decide) ?_
    refine g_iconst (v := zI 0) hC dX12_declaration_190 rfl ?_
    refine g_iconst (v := zI 0) hC dX12_declaration_191 rfl ?_
    refine zr_callVi (As := [.int (zI r1), .int (zI (za s2 26 (Int.toNat x3))), .int (zI y0), .int (zI x3), .int (zI 0), .int (zI 0)]) hC hZ5 rfl (rm_declare X.la d b R4 (hZ5.ra 26 _) Ry0 Rx3 (by decide) (by decide) hZ5.rf h29) cl_X12_752 rfl rfl (Nat.le_of_ble_eq_true rfl) ⟨Nat.le_of_ble_eq_true rfl, Nat.le_of_ble_eq_true rfl⟩ dX12_declaration_192 (fun r30 s31 F32 R33 hZ34 h35 => ?_)
    obtain ⟨o36, h37⟩ := h35
    obtain ⟨o38, h39⟩ := h37
    refine zr_iast hC hZ34 zk_30 zb_30 zn_30 (by decide) o36 o38 R33 dX12_declaration_195 (fun F40 hZ41 => ?_)
    refine g_aload_n hC dX12_declaration_196 rfl ?_
    refine zr_geta hC hZ41 fl_X12_96 zb_28 (by decide) dX12_declaration_197 ?_
    refine g_iload_n hC dX12_declaration_200 rfl ?_
    obtain ⟨o42, h43⟩ := h39
    obtain ⟨o44, h45⟩ := h43
    refine zr_iald (v := (za s31 28 (Int.toNat x3))) hC hZ41 zk_28 zb_28 zn_28 (by decide) o42 o44 rfl dX12_declaration_201 ?_
    refine g_istore_n (lv' := [some (.ref t), some (.int (zI x1)), some (.int (zI x2)), some (.int (zI (za s31 28 (Int.toNat x3)))), some (.int (zI y0))]) hC dX12_declaration_202 (Nat.le_of_ble_eq_true rfl) rfl rfl ?_
    refine g_goto (tgt := 133) hC dX12_declaration_203 (by decide) ?_
    refine g_lv (lv' := [some (.ref t), some (.int (zI x1)), some (.int (zI x2)), some (.int (zI (za s31 28 (Int.toNat x3)))), none]) ⟨rfl, rfl, rfl, rfl, trivial⟩ ?_
    exact hk133 _ _ _ _ _ Rx1 Rx2 (hZ34.ra 28 _) hZ41 h45
set_option maxHeartbeats 4000000 in
set_option maxRecDepth 100000 in
theorem rb_declaration_133 {X : gX} {d : gD} {b t : Nat} {T : Nat → Nat} {F0 : gM} (hC : gC RX12 cX12_declaration 5 none "declaration" (gR 4 0 0) d b X) {Q : zS → Prop} {k133 : zS → Int → Int → Int → Prop} (hk133 : ∀ (F : gM) (s0 : zS) (x1 : Int) (x2 : Int) (x3 : Int), zR x1 → zR x2 → zR x3 → zZ d t T F0 F s0 → k133 s0 x1 x2 x3 → gG X d b (zQv X d b t T F0 Q) F 0 0 133 [some (.ref t), some (.int (zI x1)), some (.int (zI x2)), some (.int (zI x3)), none] []) {F : gM} {s0 : zS} {x1 : Int} {x2 : Int} {x3 : Int} (Rx1 : zR x1) (Rx2 : zR x2) (Rx3 : zR x3) (hZ : zZ d t T F0 F s0) (hw : wr_declaration_133B Q k133 s0 x1 x2 x3) : gG X d b (zQv X d b t T F0 Q) F 0 0 133 [some (.ref t), some (.int (zI x1)), some (.int (zI x2)), some (.int (zI x3)), none] [] := by
  unfold wr_declaration_133B at hw
  refine g_iload_n hC dX12_declaration_133 rfl ?_
  refine zr_if_lt (tgt := 206) hC Rx3 dX12_declaration_134 (by decide) (fun c1 => ?_) (fun c1 => ?_)
  · have h2 := hw.1 c1
    refine g_aload_n hC dX12_declaration_206 rfl ?_
    refine zr_geta hC hZ fl_X12_93 zb_27 (by decide) dX12_declaration_207 ?_
    refine g_iload_n hC dX12_declaration_210 rfl ?_
    obtain ⟨o3, h4⟩ := h2
    obtain ⟨o5, h6⟩ := h4
    refine zr_iald (v := (za s0 27 (Int.toNat x1))) hC hZ zk_27 zb_27 zn_27 (by decide) o3 o5 rfl dX12_declaration_211 ?_
    refine g_istore_n (lv' := [some (.ref t), some (.int (zI x1)), some (.int (zI x2)), some (.int (zI (za s0 27 (Int.toNat x1)))), none]) hC dX12_declaration_212 (Nat.le_of_ble_eq_true rfl) rfl rfl ?_
    refine g_lv (lv' := [some (.ref t), none, some (.int (zI x2)), some (.int (zI (za s0 27 (Int.toNat x1)))), none]) ⟨rfl, rfl, rfl, trivial⟩ ?_
    obtain ⟨m7, h8⟩ := h6
    exact rl_declaration_213 hC  m7 _ _ _ _ Rx2 (hZ.ra 27 _) hZ h8
  · have h9 := hw.2 c1
    refine g_iload_n hC dX12_declaration_137 rfl ?_
    refine g_bipush (v := zI 50) hC dX12_declaration_138 rfl ?_
    refine zr_icmp_ne (tgt := 147) hC Rx2 (by decide) dX12_declaration_140 (by decide) (fun c10 => ?_) (fun c10 => ?_)
    · have h11 := h9.1 c10
      refine g_iload_n hC dX12_declaration_147 rfl ?_
      refine g_bipush (v := zI 51) hC dX12_declaration_148 rfl ?_
      refine zr_icmp_ne (tgt := 157) hC Rx2 (by decide) dX12_declaration_150 (by decide) (fun c12 => ?_) (fun c12 => ?_)
      · have h13 := h11.1 c12
        refine g_iconst (v := zI 3) hC dX12_declaration_157 rfl ?_
        exact rj_declaration_158 hC hk133 Rx1 Rx2 Rx3 (by decide) hZ h13
      · have h14 := h11.2 c12
        refine g_iconst (v := zI 2) hC dX12_declaration_153 rfl ?_
        refine g_goto (tgt := 158) hC dX12_declaration_154 (by decide) ?_
        exact rj_declaration_158 hC hk133 Rx1 Rx2 Rx3 (by decide) hZ h14
    · have h15 := h9.2 c10
      refine g_iconst (v := zI 1) hC dX12_declaration_143 rfl ?_
      refine g_goto (tgt := 158) hC dX12_declaration_144 (by decide) ?_
      exact rj_declaration_158 hC hk133 Rx1 Rx2 Rx3 (by decide) hZ h15
theorem rl_declaration_133 {X : gX} {d : gD} {b t : Nat} {T : Nat → Nat} {F0 : gM} (hC : gC RX12 cX12_declaration 5 none "declaration" (gR 4 0 0) d b X) {Q : zS → Prop}   : ∀ (m : Nat) (F : gM) (s0 : zS) (x1 : Int) (x2 : Int) (x3 : Int), zR x1 → zR x2 → zR x3 → zZ d t T F0 F s0 → wr_declaration_133 Q  m s0 x1 x2 x3 → gG X d b (zQv X d b t T F0 Q) F 0 0 133 [some (.ref t), some (.int (zI x1)), some (.int (zI x2)), some (.int (zI x3)), none] [] := by
  intro m
  induction m with
  | zero => intro F s0 x1 x2 x3 Rx1 Rx2 Rx3 hZ hw; exact False.elim hw
  | succ m ih => intro F s0 x1 x2 x3 Rx1 Rx2 Rx3 hZ hw; exact rb_declaration_133 hC  ih Rx1 Rx2 Rx3 hZ hw
set_option maxHeartbeats 4000000 in
set_option maxRecDepth 100000 in
theorem rb_declaration_60 {X : gX} {d : gD} {b t : Nat} {T : Nat → Nat} {F0 : gM} (hC : gC RX12 cX12_declaration 5 none "declaration" (gR 4 0 0) d b X) {Q : zS → Prop} {k60 : zS → Int → Int → Prop} (hk60 : ∀ (F : gM) (s0 : zS) (x3 : Int) (x4 : Int), zR x3 → zR x4 → zZ d t T F0 F s0 → k60 s0 x3 x4 → gG X d b (zQv X d b t T F0 Q) F 0 0 60 [some (.ref t), none, none, some (.int (zI x3)), some (.int (zI x4))] []) {F : gM} {s0 : zS} {x3 : Int} {x4 : Int} (Rx3 : zR x3) (Rx4 : zR x4) (hZ : zZ d t T F0 F s0) (hw : wr_declaration_60B Q k60 s0 x3 x4) : gG X d b (zQv X d b t T F0 Q) F 0 0 60 [some (.ref t), none, none, some (.int (zI x3)), some (.int (zI x4))] [] := by
  unfold wr_declaration_60B at hw
  refine g_iload hC dX12_declaration_60 rfl ?_
  refine zr_if_lt (tgt := 114) hC Rx4 dX12_declaration_62 (by decide) (fun c1 => ?_) (fun c1 => ?_)
  · have h2 := hw.1 c1
    refine g_aload_n hC dX12_declaration_114 rfl ?_
    refine g_iload_n hC dX12_declaration_115 rfl ?_
    refine zr_callVv (As := [.int (zI x3)]) hC hZ rfl (rm_turn X.la d b Rx3 hZ.rf h2) cl_X12_650 rfl rfl (Nat.le_of_ble_eq_true rfl) ⟨Nat.le_of_ble_eq_true rfl, Nat.le_of_ble_eq_true rfl⟩ dX12_declaration_116 (fun s4 F5 hZ7 h8 => ?_)
    exact zr_vret hC hZ7 h8 dX12_declaration_119
  · have h9 := hw.2 c1
    refine g_aload_n hC dX12_declaration_65 rfl ?_
    refine zr_geta hC hZ fl_X12_87 zb_25 (by decide) dX12_declaration_66 ?_
    refine g_iload hC dX12_declaration_69 rfl ?_
    obtain ⟨o10, h11⟩ := h9
    obtain ⟨o12, h13⟩ := h11
    refine zr_bald (v := (za s0 25 (Int.toNat x4))) hC hZ zk_25 zb_25 zn_25 (by decide) o10 o12 rfl dX12_declaration_71 ?_
    refine g_bipush (v := zI 58) hC dX12_declaration_72 rfl ?_
    refine zr_icmp_eq (tgt := 102) hC (hZ.ra 25 _) (by decide) dX12_declaration_74 (by decide) (fun c14 => ?_) (fun c14 => ?_)
    · have h15 := h13.1 c14
      refine g_aload_n hC dX12_declaration_102 rfl ?_
      refine zr_geta hC hZ fl_X12_96 zb_28 (by decide) dX12_declaration_103 ?_
      refine g_iload hC dX12_declaration_106 rfl ?_
      obtain ⟨o16, h17⟩ := h15
      obtain ⟨o18, h19⟩ := h17
      refine zr_iald (v := (za s0 28 (Int.toNat x4))) hC hZ zk_28 zb_28 zn_28 (by decide) o16 o18 rfl dX12_declaration_108 ?_
      refine g_istore (lv' := [some (.ref t), none, none, some (.int (zI x3)), some (.int (zI (za s0 28 (Int.toNat x4))))]) hC dX12_declaration_109 (Nat.le_of_ble_eq_true rfl) rfl rfl ?_
      refine g_goto (tgt := 60) hC dX12_declaration_111 (by decide) ?_
      exact hk60 _ _ _ _ Rx3 (hZ.ra 28 _) hZ h19
    · have h20 := h13.2 c14
      refine g_aload_n hC dX12_declaration_77 rfl ?_
      refine g_aload_n hC dX12_declaration_78 rfl ?_
      refine zr_geta hC hZ fl_X12_87 zb_25 (by decide) dX12_declaration_79 ?_
      refine g_iload hC dX12_declaration_82 rfl ?_
      obtain ⟨o21, h22⟩ := h20
      obtain ⟨o23, h24⟩ := h22
      refine zr_bald (v := (za s0 25 (Int.toNat x4))) hC hZ zk_25 zb_25 zn_25 (by decide) o21 o23 rfl dX12_declaration_84 ?_
      refine g_bipush (v := zI 59) hC dX12_declaration_85 rfl ?_
      refine zr_icmp_ne (tgt := 95) hC (hZ.ra 25 _) (by decide) dX12_declaration_87 (by decide) (fun c25 => ?_) (fun c25 => ?_)
      · have h26 := h24.1 c25
        refine g_iconst (v := zI 3) hC dX12_declaration_95 rfl ?_
        refine g_iload hC dX12_declaration_96 rfl ?_
        refine g_iconst (v := zI 0) hC dX12_declaration_98 rfl ?_
        refine zr_callVv (As := [.int (zI 3), .int (zI x4), .int (zI 0)]) hC hZ rfl (rm_task X.la d b (by decide) Rx4 (by decide) hZ.rf h26) cl_X12_647 rfl rfl (Nat.le_of_ble_eq_true rfl) ⟨Nat.le_of_ble_eq_true rfl, Nat.le_of_ble_eq_true rfl⟩ dX12_declaration_99 (fun s28 F29 hZ31 h32 => ?_)
        refine g_aload_n hC dX12_declaration_102 rfl ?_
        refine zr_geta hC hZ31 fl_X12_96 zb_28 (by decide) dX12_declaration_103 ?_
        refine g_iload hC dX12_declaration_106 rfl ?_
        obtain ⟨o33, h34⟩ := h32
        obtain ⟨o35, h36⟩ := h34
        refine zr_iald (v := (za s28 28 (Int.toNat x4))) hC hZ31 zk_28 zb_28 zn_28 (by decide) o33 o35 rfl dX12_declaration_108 ?_
        refine g_istore (lv' := [some (.ref t), none, none, some (.int (zI x3)), some (.int (zI (za s28 28 (Int.toNat x4))))]) hC dX12_declaration_109 (Nat.le_of_ble_eq_true rfl) rfl rfl ?_
        refine g_goto (tgt := 60) hC dX12_declaration_111 (by decide) ?_
        exact hk60 _ _ _ _ Rx3 (hZ31.ra 28 _) hZ31 h36
      · have h37 := h24.2 c25
        refine g_bipush (v := zI 11) hC dX12_declaration_90 rfl ?_
        refine g_goto (tgt := 96) hC dX12_declaration_92 (by decide) ?_
        refine g_iload hC dX12_declaration_96 rfl ?_
        refine g_iconst (v := zI 0) hC dX12_declaration_98 rfl ?_
        refine zr_callVv (As := [.int (zI 11), .int (zI x4), .int (zI 0)]) hC hZ rfl (rm_task X.la d b (by decide) Rx4 (by decide) hZ.rf h37) cl_X12_647 rfl rfl (Nat.le_of_ble_eq_true rfl) ⟨Nat.le_of_ble_eq_true rfl, Nat.le_of_ble_eq_true rfl⟩ dX12_declaration_99 (fun s39 F40 hZ42 h43 => ?_)
        refine g_aload_n hC dX12_declaration_102 rfl ?_
        refine zr_geta hC hZ42 fl_X12_96 zb_28 (by decide) dX12_declaration_103 ?_
        refine g_iload hC dX12_declaration_106 rfl ?_
        obtain ⟨o44, h45⟩ := h43
        obtain ⟨o46, h47⟩ := h45
        refine zr_iald (v := (za s39 28 (Int.toNat x4))) hC hZ42 zk_28 zb_28 zn_28 (by decide) o44 o46 rfl dX12_declaration_108 ?_
        refine g_istore (lv' := [some (.ref t), none, none, some (.int (zI x3)), some (.int (zI (za s39 28 (Int.toNat x4))))]) hC dX12_declaration_109 (Nat.le_of_ble_eq_true rfl) rfl rfl ?_
        refine g_goto (tgt := 60) hC dX12_declaration_111 (by decide) ?_
        exact hk60 _ _ _ _ Rx3 (hZ42.ra 28 _) hZ42 h47
theorem rl_declaration_60 {X : gX} {d : gD} {b t : Nat} {T : Nat → Nat} {F0 : gM} (hC : gC RX12 cX12_declaration 5 none "declaration" (gR 4 0 0) d b X) {Q : zS → Prop}   : ∀ (m : Nat) (F : gM) (s0 : zS) (x3 : Int) (x4 : Int), zR x3 → zR x4 → zZ d t T F0 F s0 → wr_declaration_60 Q  m s0 x3 x4 → gG X d b (zQv X d b t T F0 Q) F 0 0 60 [some (.ref t), none, none, some (.int (zI x3)), some (.int (zI x4))] [] := by
  intro m
  induction m with
  | zero => intro F s0 x3 x4 Rx3 Rx4 hZ hw; exact False.elim hw
  | succ m ih => intro F s0 x3 x4 Rx3 Rx4 hZ hw; exact rb_declaration_60 hC  ih Rx3 Rx4 hZ hw
set_option maxHeartbeats 4000000 in
set_option maxRecDepth 100000 in
theorem rm_declaration (l : Launch) (d : gD) (b : Nat) {t : Nat} {T : Nat → Nat} {F : gM} {s0 : zS} {a0 : Int} (Ra0 : zR a0) {Q : zS → Prop} (hZ : zZ d t T F F s0) (hw : wr_declaration s0 a0 Q) : gMv l d b yX12_declaration cX12_declaration 5 4 0 0 F [.ref t, .int (zI a0)] (zPv d t T F Q) := by
  refine gM_of2 rfl (nL := 5) (Nat.le_of_ble_eq_true rfl) ?_
  intro X hX hC; subst hX
  show gG X d b (zQv X d b t T F Q) F 0 0 0 [some (.ref t), some (.int (zI a0)), none, none, none] []
  unfold wr_declaration at hw
  refine g_aload_n hC dX12_declaration_0 rfl ?_
  refine zr_geta hC hZ fl_X12_87 zb_25 (by decide) dX12_declaration_1 ?_
  refine g_iload_n hC dX12_declaration_4 rfl ?_
  obtain ⟨o1, h2⟩ := hw
  obtain ⟨o3, h4⟩ := h2
  refine zr_bald (v := (za s0 25 (Int.toNat a0))) hC hZ zk_25 zb_25 zn_25 (by decide) o1 o3 rfl dX12_declaration_5 ?_
  refine g_istore_n (lv' := [some (.ref t), some (.int (zI a0)), some (.int (zI (za s0 25 (Int.toNat a0)))), none, none]) hC dX12_declaration_6 (Nat.le_of_ble_eq_true rfl) rfl rfl ?_
  refine g_iload_n hC dX12_declaration_7 rfl ?_
  refine g_bipush (v := zI 53) hC dX12_declaration_8 rfl ?_
  refine zr_icmp_ne (tgt := 126) hC (hZ.ra 25 _) (by decide) dX12_declaration_10 (by decide) (fun c5 => ?_) (fun c5 => ?_)
  · have h6 := h4.1 c5
    refine g_aload_n hC dX12_declaration_126 rfl ?_
    refine zr_geta hC hZ fl_X12_93 zb_27 (by decide) dX12_declaration_127 ?_
    refine g_iload_n hC dX12_declaration_130 rfl ?_
    obtain ⟨o7, h8⟩ := h6
    obtain ⟨o9, h10⟩ := h8
    refine zr_iald (v := (za s0 27 (Int.toNat a0))) hC hZ zk_27 zb_27 zn_27 (by decide) o7 o9 rfl dX12_declaration_131 ?_
    refine g_istore_n (lv' := [some (.ref t), some (.int (zI a0)), some (.int (zI (za s0 25 (Int.toNat a0)))), some (.int (zI (za s0 27 (Int.toNat a0)))), none]) hC dX12_declaration_132 (Nat.le_of_ble_eq_true rfl) rfl rfl ?_
    obtain ⟨m11, h12⟩ := h10
    exact rl_declaration_133 hC  m11 _ _ _ _ _ Ra0 (hZ.ra 25 _) (hZ.ra 27 _) hZ h12
  · have h13 := h4.2 c5
    refine g_aload_n hC dX12_declaration_13 rfl ?_
    refine zr_geta hC hZ fl_X12_87 zb_25 (by decide) dX12_declaration_14 ?_
    refine g_aload_n hC dX12_declaration_17 rfl ?_
    refine zr_geta hC hZ fl_X12_93 zb_27 (by decide) dX12_declaration_18 ?_
    refine g_iload_n hC dX12_declaration_21 rfl ?_
    obtain ⟨o14, h15⟩ := h13
    obtain ⟨o16, h17⟩ := h15
    refine zr_iald (v := (za s0 27 (Int.toNat a0))) hC hZ zk_27 zb_27 zn_27 (by decide) o14 o16 rfl dX12_declaration_22 ?_
    obtain ⟨o18, h19⟩ := h17
    obtain ⟨o20, h21⟩ := h19
    refine zr_bald (v := (za s0 25 (Int.toNat (za s0 27 (Int.toNat a0))))) hC hZ zk_25 zb_25 zn_25 (by decide) o18 o20 rfl dX12_declaration_23 ?_
    refine g_bipush (v := zI 55) hC dX12_declaration_24 rfl ?_
    refine zr_icmp_ne (tgt := 120) hC (hZ.ra 25 _) (by decide) dX12_declaration_26 (by decide) (fun c22 => ?_) (fun c22 => ?_)
    · have h23 := h21.1 c22
      refine g_aload_n hC dX12_declaration_120 rfl ?_
      refine g_iload_n hC dX12_declaration_121 rfl ?_
      refine zr_callVv (As := [.int (zI a0)]) hC hZ rfl (rm_letRoutines X.la d b Ra0 hZ.rf h23) cl_X12_746 rfl rfl (Nat.le_of_ble_eq_true rfl) ⟨Nat.le_of_ble_eq_true rfl, Nat.le_of_ble_eq_true rfl⟩ dX12_declaration_122 (fun s25 F26 hZ28 h29 => ?_)
      exact zr_vret hC hZ28 h29 dX12_declaration_125
    · have h30 := h21.2 c22
      refine g_aload_n hC dX12_declaration_29 rfl ?_
      refine g_bipush (v := zI 8) hC dX12_declaration_30 rfl ?_
      refine g_aload_n hC dX12_declaration_32 rfl ?_
      refine zr_geta hC hZ fl_X12_93 zb_27 (by decide) dX12_declaration_33 ?_
      refine g_iload_n hC dX12_declaration_36 rfl ?_
      obtain ⟨o31, h32⟩ := h30
      obtain ⟨o33, h34⟩ := h32
      refine zr_iald (v := (za s0 27 (Int.toNat a0))) hC hZ zk_27 zb_27 zn_27 (by decide) o31 o33 rfl dX12_declaration_37 ?_
      refine g_iconst (v := zI 0) hC dX12_declaration_38 rfl ?_
      refine zr_callVv (As := [.int (zI 8), .int (zI (za s0 27 (Int.toNat a0))), .int (zI 0)]) hC hZ rfl (rm_task X.la d b (by decide) (hZ.ra 27 _) (by decide) hZ.rf h34) cl_X12_647 rfl rfl (Nat.le_of_ble_eq_true rfl) ⟨Nat.le_of_ble_eq_true rfl, Nat.le_of_ble_eq_true rfl⟩ dX12_declaration_39 (fun s36 F37 hZ39 h40 => ?_)
      refine g_aload_n hC dX12_declaration_42 rfl ?_
      refine zr_get (e := (zv s36 63)) hC hZ39 fl_X12_203 zb_63 (by decide) rfl dX12_declaration_43 ?_
      refine g_istore_n (lv' := [some (.ref t), some (.int (zI a0)), some (.int (zI (za s0 25 (Int.toNat a0)))), some (.int (zI (zv s36 63))), none]) hC dX12_declaration_46 (Nat.le_of_ble_eq_true rfl) rfl rfl ?_
      refine g_aload_n hC dX12_declaration_47 rfl ?_
      refine zr_geta hC hZ39 fl_X12_93 zb_27 (by decide) dX12_declaration_48 ?_
      refine g_aload_n hC dX12_declaration_51 rfl ?_
      refine zr_geta hC hZ39 fl_X12_93 zb_27 (by decide) dX12_declaration_52 ?_
      refine g_iload_n hC dX12_declaration_55 rfl ?_
      obtain ⟨o41, h42⟩ := h40
      obtain ⟨o43, h44⟩ := h42
      refine zr_iald (v := (za s36 27 (Int.toNat a0))) hC hZ39 zk_27 zb_27 zn_27 (by decide) o41 o43 rfl dX12_declaration_56 ?_
      obtain ⟨o45, h46⟩ := h44
      obtain ⟨o47, h48⟩ := h46
      refine zr_iald (v := (za s36 27 (Int.toNat (za s36 27 (Int.toNat a0))))) hC hZ39 zk_27 zb_27 zn_27 (by decide) o45 o47 rfl dX12_declaration_57 ?_
      refine g_istore (lv' := [some (.ref t), some (.int (zI a0)), some (.int (zI (za s0 25 (Int.toNat a0)))), some (.int (zI (zv s36 63))), some (.int (zI (za s36 27 (Int.toNat (za s36 27 (Int.toNat a0))))))]) hC dX12_declaration_58 (Nat.le_of_ble_eq_true rfl) rfl rfl ?_
      refine g_lv (lv' := [some (.ref t), none, none, some (.int (zI (zv s36 63))), some (.int (zI (za s36 27 (Int.toNat (za s36 27 (Int.toNat a0))))))]) ⟨rfl, rfl, rfl, trivial⟩ ?_
      obtain ⟨m49, h50⟩ := h48
      exact rl_declaration_60 hC  m49 _ _ _ _ (hZ39.rv 63) (hZ39.ra 27 _) hZ39 h50
theorem dX12_beginBlock_0 : decode cX12_beginBlock 0 = .ok (.aload_n 0, 1) := by decide +kernel
theorem dX12_beginBlock_1 : decode cX12_beginBlock 1 = .ok (.aload_n 0, 1) := by decide +kernel
theorem dX12_beginBlock_2 : decode cX12_beginBlock 2 = .ok (.getfield 237, 3) := by decide +kernel
theorem dX12_beginBlock_5 : decode cX12_beginBlock 5 = .ok (.invokevirtual 763, 3) := by decide +kernel
theorem dX12_beginBlock_8 : decode cX12_beginBlock 8 = .ok (.aload_n 0, 1) := by decide +kernel
theorem dX12_beginBlock_9 : decode cX12_beginBlock 9 = .ok (.aload_n 0, 1) := by decide +kernel
theorem dX12_beginBlock_10 : decode cX12_beginBlock 10 = .ok (.getfield 178, 3) := by decide +kernel
theorem dX12_beginBlock_13 : decode cX12_beginBlock 13 = .ok (.invokevirtual 763, 3) := by decide +kernel
theorem dX12_beginBlock_16 : decode cX12_beginBlock 16 = .ok (.aload_n 0, 1) := by decide +kernel
theorem dX12_beginBlock_17 : decode cX12_beginBlock 17 = .ok (.aload_n 0, 1) := by decide +kernel
theorem dX12_beginBlock_18 : decode cX12_beginBlock 18 = .ok (.getfield 160, 3) := by decide +kernel
theorem dX12_beginBlock_21 : decode cX12_beginBlock 21 = .ok (.invokevirtual 763, 3) := by decide +kernel
theorem dX12_beginBlock_24 : decode cX12_beginBlock 24 = .ok (.aload_n 0, 1) := by decide +kernel
theorem dX12_beginBlock_25 : decode cX12_beginBlock 25 = .ok (.aload_n 0, 1) := by decide +kernel
theorem dX12_beginBlock_26 : decode cX12_beginBlock 26 = .ok (.getfield 160, 3) := by decide +kernel
theorem dX12_beginBlock_29 : decode cX12_beginBlock 29 = .ok (.putfield 178, 3) := by decide +kernel
theorem dX12_beginBlock_32 : decode cX12_beginBlock 32 = .ok (.return_, 1) := by decide +kernel
def wr_beginBlock (s0 : zS)  (Q : zS → Prop) : Prop :=
  wr_put s0 (zv s0 74) (fun s2 => wr_put s2 (zv s2 55) (fun s8 => wr_put s8 (zv s8 49) (fun s14 => Q (zpv s14 55 (zv s14 49)))))
set_option maxHeartbeats 4000000 in
set_option maxRecDepth 100000 in
theorem rm_beginBlock (l : Launch) (d : gD) (b : Nat) {t : Nat} {T : Nat → Nat} {F : gM} {s0 : zS}   {Q : zS → Prop} (hZ : zZ d t T F F s0) (hw : wr_beginBlock s0  Q) : gMv l d b yX12_beginBlock cX12_beginBlock 1 1 0 0 F [.ref t] (zPv d t T F Q) := by
  refine gM_of2 rfl (nL := 1) (Nat.le_of_ble_eq_true rfl) ?_
  intro X hX hC; subst hX
  show gG X d b (zQv X d b t T F Q) F 0 0 0 [some (.ref t)] []
  unfold wr_beginBlock at hw
  refine g_aload_n hC dX12_beginBlock_0 rfl ?_
  refine g_aload_n hC dX12_beginBlock_1 rfl ?_
  refine zr_get (e := (zv s0 74)) hC hZ fl_X12_237 zb_74 (by decide) rfl dX12_beginBlock_2 ?_
  refine zr_callVv (As := [.int (zI (zv s0 74))]) hC hZ rfl (rm_put X.la d b (hZ.rv 74) hZ.rf hw) cl_X12_763 rfl rfl (Nat.le_of_ble_eq_true rfl) ⟨Nat.le_of_ble_eq_true rfl, Nat.le_of_ble_eq_true rfl⟩ dX12_beginBlock_5 (fun s2 F3 hZ5 h6 => ?_)
  refine g_aload_n hC dX12_beginBlock_8 rfl ?_
  refine g_aload_n hC dX12_beginBlock_9 rfl ?_
  refine zr_get (e := (zv s2 55)) hC hZ5 fl_X12_178 zb_55 (by decide) rfl dX12_beginBlock_10 ?_
  refine zr_callVv (As := [.int (zI (zv s2 55))]) hC hZ5 rfl (rm_put X.la d b (hZ5.rv 55) hZ5.rf h6) cl_X12_763 rfl rfl (Nat.le_of_ble_eq_true rfl) ⟨Nat.le_of_ble_eq_true rfl, Nat.le_of_ble_eq_true rfl⟩ dX12_beginBlock_13 (fun s8 F9 hZ11 h12 => ?_)
  refine g_aload_n hC dX12_beginBlock_16 rfl ?_
  refine g_aload_n hC dX12_beginBlock_17 rfl ?_
  refine zr_get (e := (zv s8 49)) hC hZ11 fl_X12_160 zb_49 (by decide) rfl dX12_beginBlock_18 ?_
  refine zr_callVv (As := [.int (zI (zv s8 49))]) hC hZ11 rfl (rm_put X.la d b (hZ11.rv 49) hZ11.rf h12) cl_X12_763 rfl rfl (Nat.le_of_ble_eq_true rfl) ⟨Nat.le_of_ble_eq_true rfl, Nat.le_of_ble_eq_true rfl⟩ dX12_beginBlock_21 (fun s14 F15 hZ17 h18 => ?_)
  refine g_aload_n hC dX12_beginBlock_24 rfl ?_
  refine g_aload_n hC dX12_beginBlock_25 rfl ?_
  refine zr_get (e := (zv s14 49)) hC hZ17 fl_X12_160 zb_49 (by decide) rfl dX12_beginBlock_26 ?_
  refine zr_put hC hZ17 fl_X12_178 zb_55 (by decide) (hZ17.rv 49) dX12_beginBlock_29 (fun F19 hZ20 => ?_)
  exact zr_vret hC hZ20 h18 dX12_beginBlock_32
theorem dX12_labelsOf_0 : decode cX12_labelsOf 0 = .ok (.aload_n 0, 1) := by decide +kernel
theorem dX12_labelsOf_1 : decode cX12_labelsOf 1 = .ok (.getfield 93, 3) := by decide +kernel
theorem dX12_labelsOf_4 : decode cX12_labelsOf 4 = .ok (.iload_n 1, 1) := by decide +kernel
theorem dX12_labelsOf_5 : decode cX12_labelsOf 5 = .ok (.iaload, 1) := by decide +kernel
theorem dX12_labelsOf_6 : decode cX12_labelsOf 6 = .ok (.istore_n 2, 1) := by decide +kernel
theorem dX12_labelsOf_7 : decode cX12_labelsOf 7 = .ok (.iload_n 2, 1) := by decide +kernel
theorem dX12_labelsOf_8 : decode cX12_labelsOf 8 = .ok (.ifCond .lt 93, 3) := by decide +kernel
theorem dX12_labelsOf_11 : decode cX12_labelsOf 11 = .ok (.aload_n 0, 1) := by decide +kernel
theorem dX12_labelsOf_12 : decode cX12_labelsOf 12 = .ok (.getfield 87, 3) := by decide +kernel
theorem dX12_labelsOf_15 : decode cX12_labelsOf 15 = .ok (.iload_n 2, 1) := by decide +kernel
theorem dX12_labelsOf_16 : decode cX12_labelsOf 16 = .ok (.baload, 1) := by decide +kernel
theorem dX12_labelsOf_17 : decode cX12_labelsOf 17 = .ok (.bipush 41, 2) := by decide +kernel
theorem dX12_labelsOf_19 : decode cX12_labelsOf 19 = .ok (.if_icmp .eq 6, 3) := by decide +kernel
theorem dX12_labelsOf_22 : decode cX12_labelsOf 22 = .ok (.goto 69, 3) := by decide +kernel
theorem dX12_labelsOf_25 : decode cX12_labelsOf 25 = .ok (.aload_n 0, 1) := by decide +kernel
theorem dX12_labelsOf_26 : decode cX12_labelsOf 26 = .ok (.getfield 102, 3) := by decide +kernel
theorem dX12_labelsOf_29 : decode cX12_labelsOf 29 = .ok (.iload_n 2, 1) := by decide +kernel
theorem dX12_labelsOf_30 : decode cX12_labelsOf 30 = .ok (.iload_n 1, 1) := by decide +kernel
theorem dX12_labelsOf_31 : decode cX12_labelsOf 31 = .ok (.iastore, 1) := by decide +kernel
theorem dX12_labelsOf_32 : decode cX12_labelsOf 32 = .ok (.aload_n 0, 1) := by decide +kernel
theorem dX12_labelsOf_33 : decode cX12_labelsOf 33 = .ok (.getfield 93, 3) := by decide +kernel
theorem dX12_labelsOf_36 : decode cX12_labelsOf 36 = .ok (.iload_n 2, 1) := by decide +kernel
theorem dX12_labelsOf_37 : decode cX12_labelsOf 37 = .ok (.iaload, 1) := by decide +kernel
theorem dX12_labelsOf_38 : decode cX12_labelsOf 38 = .ok (.istore_n 3, 1) := by decide +kernel
theorem dX12_labelsOf_39 : decode cX12_labelsOf 39 = .ok (.iload_n 3, 1) := by decide +kernel
theorem dX12_labelsOf_40 : decode cX12_labelsOf 40 = .ok (.ifCond .lt 51, 3) := by decide +kernel
theorem dX12_labelsOf_43 : decode cX12_labelsOf 43 = .ok (.aload_n 0, 1) := by decide +kernel
theorem dX12_labelsOf_44 : decode cX12_labelsOf 44 = .ok (.getfield 87, 3) := by decide +kernel
theorem dX12_labelsOf_47 : decode cX12_labelsOf 47 = .ok (.iload_n 3, 1) := by decide +kernel
theorem dX12_labelsOf_48 : decode cX12_labelsOf 48 = .ok (.baload, 1) := by decide +kernel
theorem dX12_labelsOf_49 : decode cX12_labelsOf 49 = .ok (.bipush 42, 2) := by decide +kernel
theorem dX12_labelsOf_51 : decode cX12_labelsOf 51 = .ok (.if_icmp .ne 30, 3) := by decide +kernel
theorem dX12_labelsOf_54 : decode cX12_labelsOf 54 = .ok (.aload_n 0, 1) := by decide +kernel
theorem dX12_labelsOf_55 : decode cX12_labelsOf 55 = .ok (.aload_n 0, 1) := by decide +kernel
theorem dX12_labelsOf_56 : decode cX12_labelsOf 56 = .ok (.getfield 99, 3) := by decide +kernel
theorem dX12_labelsOf_59 : decode cX12_labelsOf 59 = .ok (.iload_n 3, 1) := by decide +kernel
theorem dX12_labelsOf_60 : decode cX12_labelsOf 60 = .ok (.iaload, 1) := by decide +kernel
theorem dX12_labelsOf_61 : decode cX12_labelsOf 61 = .ok (.aload_n 0, 1) := by decide +kernel
theorem dX12_labelsOf_62 : decode cX12_labelsOf 62 = .ok (.getfield 90, 3) := by decide +kernel
theorem dX12_labelsOf_65 : decode cX12_labelsOf 65 = .ok (.iload_n 3, 1) := by decide +kernel
theorem dX12_labelsOf_66 : decode cX12_labelsOf 66 = .ok (.iaload, 1) := by decide +kernel
theorem dX12_labelsOf_67 : decode cX12_labelsOf 67 = .ok (.iconst 5, 1) := by decide +kernel
theorem dX12_labelsOf_68 : decode cX12_labelsOf 68 = .ok (.iload_n 2, 1) := by decide +kernel
theorem dX12_labelsOf_69 : decode cX12_labelsOf 69 = .ok (.aload_n 0, 1) := by decide +kernel
theorem dX12_labelsOf_70 : decode cX12_labelsOf 70 = .ok (.getfield 234, 3) := by decide +kernel
theorem dX12_labelsOf_73 : decode cX12_labelsOf 73 = .ok (.aload_n 0, 1) := by decide +kernel
theorem dX12_labelsOf_74 : decode cX12_labelsOf 74 = .ok (.getfield 246, 3) := by decide +kernel
theorem dX12_labelsOf_77 : decode cX12_labelsOf 77 = .ok (.invokevirtual 752, 3) := by decide +kernel
theorem dX12_labelsOf_80 : decode cX12_labelsOf 80 = .ok (.pop, 1) := by decide +kernel
theorem dX12_labelsOf_81 : decode cX12_labelsOf 81 = .ok (.aload_n 0, 1) := by decide +kernel
theorem dX12_labelsOf_82 : decode cX12_labelsOf 82 = .ok (.getfield 96, 3) := by decide +kernel
theorem dX12_labelsOf_85 : decode cX12_labelsOf 85 = .ok (.iload_n 3, 1) := by decide +kernel
theorem dX12_labelsOf_86 : decode cX12_labelsOf 86 = .ok (.iaload, 1) := by decide +kernel
theorem dX12_labelsOf_87 : decode cX12_labelsOf 87 = .ok (.istore_n 3, 1) := by decide +kernel
theorem dX12_labelsOf_88 : decode cX12_labelsOf 88 = .ok (.goto (-49), 3) := by decide +kernel
theorem dX12_labelsOf_91 : decode cX12_labelsOf 91 = .ok (.aload_n 0, 1) := by decide +kernel
theorem dX12_labelsOf_92 : decode cX12_labelsOf 92 = .ok (.getfield 96, 3) := by decide +kernel
theorem dX12_labelsOf_95 : decode cX12_labelsOf 95 = .ok (.iload_n 2, 1) := by decide +kernel
theorem dX12_labelsOf_96 : decode cX12_labelsOf 96 = .ok (.iaload, 1) := by decide +kernel
theorem dX12_labelsOf_97 : decode cX12_labelsOf 97 = .ok (.istore_n 2, 1) := by decide +kernel
theorem dX12_labelsOf_98 : decode cX12_labelsOf 98 = .ok (.goto (-91), 3) := by decide +kernel
theorem dX12_labelsOf_101 : decode cX12_labelsOf 101 = .ok (.return_, 1) := by decide +kernel
def wr_labelsOf_39B (Q : zS → Prop) (k7 : zS → Int → Int → Prop) (k39 : zS → Int → Int → Int → Prop) (s0 : zS) (x1 : Int) (x2 : Int) (x3 : Int) : Prop :=
  ((x3 < 0 → (0 ≤ x2) ∧ (x2 < 26000) ∧ k7 s0 x1 (za s0 28 (Int.toNat x2))) ∧ (¬ x3 < 0 → (0 ≤ x3) ∧ (x3 < 26000) ∧ ((¬ (za s0 25 (Int.toNat x3)) = 42 → (0 ≤ x3) ∧ (x3 < 26000) ∧ k39 s0 x1 x2 (za s0 28 (Int.toNat x3))) ∧ ((za s0 25 (Int.toNat x3)) = 42 → (0 ≤ x3) ∧ (x3 < 26000) ∧ (0 ≤ x3) ∧ (x3 < 26000) ∧ wr_declare s0 (za s0 29 (Int.toNat x3)) (za s0 26 (Int.toNat x3)) 5 x2 (zv s0 73) (zv s0 77) (fun r27 s28 => (0 ≤ x3) ∧ (x3 < 26000) ∧ k39 s28 x1 x2 (za s28 28 (Int.toNat x3)))))))
def wr_labelsOf_39 (Q : zS → Prop) (k7 : zS → Int → Int → Prop) : Nat → zS → Int → Int → Int → Prop
  | 0 => fun _ _ _ _ => False
  | m + 1 => fun s0 x1 x2 x3 => wr_labelsOf_39B Q k7 (wr_labelsOf_39 Q k7 m) s0 x1 x2 x3
def wr_labelsOf_7B (Q : zS → Prop) (k7 : zS → Int → Int → Prop) (s0 : zS) (x1 : Int) (x2 : Int) : Prop :=
  ((x2 < 0 → Q s0) ∧ (¬ x2 < 0 → (0 ≤ x2) ∧ (x2 < 26000) ∧ (((za s0 25 (Int.toNat x2)) = 41 → (0 ≤ x2) ∧ (x2 < 26000) ∧ (0 ≤ x2) ∧ (x2 < 26000) ∧ ∃ n, wr_labelsOf_39 Q k7 n (zpa s0 30 (Int.toNat x2) x1) x1 x2 (za s0 27 (Int.toNat x2))) ∧ (¬ (za s0 25 (Int.toNat x2)) = 41 → (0 ≤ x2) ∧ (x2 < 26000) ∧ k7 s0 x1 (za s0 28 (Int.toNat x2))))))
def wr_labelsOf_7 (Q : zS → Prop)  : Nat → zS → Int → Int → Prop
  | 0 => fun _ _ _ => False
  | m + 1 => fun s0 x1 x2 => wr_labelsOf_7B Q  (wr_labelsOf_7 Q  m) s0 x1 x2
def wr_labelsOf (s0 : zS) (a0 : Int) (Q : zS → Prop) : Prop :=
  (0 ≤ a0) ∧ (a0 < 26000) ∧ ∃ n, wr_labelsOf_7 Q  n s0 a0 (za s0 27 (Int.toNat a0))
set_option maxHeartbeats 4000000 in
set_option maxRecDepth 100000 in
theorem rb_labelsOf_39 {X : gX} {d : gD} {b t : Nat} {T : Nat → Nat} {F0 : gM} (hC : gC RX12 cX12_labelsOf 4 none "labelsOf" (gR 3 0 0) d b X) {Q : zS → Prop} {k7 : zS → Int → Int → Prop} {k39 : zS → Int → Int → Int → Prop} (hk7 : ∀ (F : gM) (s0 : zS) (x1 : Int) (x2 : Int), zR x1 → zR x2 → zZ d t T F0 F s0 → k7 s0 x1 x2 → gG X d b (zQv X d b t T F0 Q) F 0 0 7 [some (.ref t), some (.int (zI x1)), some (.int (zI x2)), none] []) (hk39 : ∀ (F : gM) (s0 : zS) (x1 : Int) (x2 : Int) (x3 : Int), zR x1 → zR x2 → zR x3 → zZ d t T F0 F s0 → k39 s0 x1 x2 x3 → gG X d b (zQv X d b t T F0 Q) F 0 0 39 [some (.ref t), some (.int (zI x1)), some (.int (zI x2)), some (.int (zI x3))] []) {F : gM} {s0 : zS} {x1 : Int} {x2 : Int} {x3 : Int} (Rx1 : zR x1) (Rx2 : zR x2) (Rx3 : zR x3) (hZ : zZ d t T F0 F s0) (hw : wr_labelsOf_39B Q k7 k39 s0 x1 x2 x3) : gG X d b (zQv X d b t T F0 Q) F 0 0 39 [some (.ref t), some (.int (zI x1)), some (.int (zI x2)), some (.int (zI x3))] [] := by
  unfold wr_labelsOf_39B at hw
  refine g_iload_n hC dX12_labelsOf_39 rfl ?_
  refine zr_if_lt (tgt := 91) hC Rx3 dX12_labelsOf_40 (by decide) (fun c1 => ?_) (fun c1 => ?_)
  · have h2 := hw.1 c1
    refine g_aload_n hC dX12_labelsOf_91 rfl ?_
    refine zr_geta hC hZ fl_X12_96 zb_28 (by decide) dX12_labelsOf_92 ?_
    refine g_iload_n hC dX12_labelsOf_95 rfl ?_
    obtain ⟨o3, h4⟩ := h2
    obtain ⟨o5, h6⟩ := h4
    refine zr_iald (v := (za s0 28 (Int.toNat x2))) hC hZ zk_28 zb_28 zn_28 (by decide) o3 o5 rfl dX12_labelsOf_96 ?_
    refine g_istore_n (lv' := [some (.ref t), some (.int (zI x1)), some (.int (zI (za s0 28 (Int.toNat x2)))), some (.int (zI x3))]) hC dX12_labelsOf_97 (Nat.le_of_ble_eq_true rfl) rfl rfl ?_
    refine g_goto (tgt := 7) hC dX12_labelsOf_98 (by decide) ?_
    refine g_lv (lv' := [some (.ref t), some (.int (zI x1)), some (.int (zI (za s0 28 (Int.toNat x2)))), none]) ⟨rfl, rfl, rfl, trivial⟩ ?_
    exact hk7 _ _ _ _ Rx1 (hZ.ra 28 _) hZ h6
  · have h7 := hw.2 c1
    refine g_aload_n hC dX12_labelsOf_43 rfl ?_
    refine zr_geta hC hZ fl_X12_87 zb_25 (by decide) dX12_labelsOf_44 ?_
    refine g_iload_n hC dX12_labelsOf_47 rfl ?_
    obtain ⟨o8, h9⟩ := h7
    obtain ⟨o10, h11⟩ := h9
    refine zr_bald (v := (za s0 25 (Int.toNat x3))) hC hZ zk_25 zb_25 zn_25 (by decide) o8 o10 rfl dX12_labelsOf_48 ?_
    refine g_bipush (v := zI 42) hC dX12_labelsOf_49 rfl ?_
    refine zr_icmp_ne (tgt := 81) hC (hZ.ra 25 _) (by decide) dX12_labelsOf_51 (by decide) (fun c12 => ?_) (fun c12 => ?_)
    · have h13 := h11.1 c12
      refine g_aload_n hC dX12_labelsOf_81 rfl ?_
      refine zr_geta hC hZ fl_X12_96 zb_28 (by decide) dX12_labelsOf_82 ?_
      refine g_iload_n hC dX12_labelsOf_85 rfl ?_
      obtain ⟨o14, h15⟩ := h13
      obtain ⟨o16, h17⟩ := h15
      refine zr_iald (v := (za s0 28 (Int.toNat x3))) hC hZ zk_28 zb_28 zn_28 (by decide) o14 o16 rfl dX12_labelsOf_86 ?_
      refine g_istore_n (lv' := [some (.ref t), some (.int (zI x1)), some (.int (zI x2)), some (.int (zI (za s0 28 (Int.toNat x3))))]) hC dX12_labelsOf_87 (Nat.le_of_ble_eq_true rfl) rfl rfl ?_
      refine g_goto (tgt := 39) hC dX12_labelsOf_88 (by decide) ?_
      exact hk39 _ _ _ _ _ Rx1 Rx2 (hZ.ra 28 _) hZ h17
    · have h18 := h11.2 c12
      refine g_aload_n hC dX12_labelsOf_54 rfl ?_
      refine g_aload_n hC dX12_labelsOf_55 rfl ?_
      refine zr_geta hC hZ fl_X12_99 zb_29 (by decide) dX12_labelsOf_56 ?_
      refine g_iload_n hC dX12_labelsOf_59 rfl ?_
      obtain ⟨o19, h20⟩ := h18
      obtain ⟨o21, h22⟩ := h20
      refine zr_iald (v := (za s0 29 (Int.toNat x3))) hC hZ zk_29 zb_29 zn_29 (by decide) o19 o21 rfl dX12_labelsOf_60 ?_
      refine g_aload_n hC dX12_labelsOf_61 rfl ?_
      refine zr_geta hC hZ fl_X12_90 zb_26 (by decide) dX12_labelsOf_62 ?_
      refine g_iload_n hC dX12_labelsOf_65 rfl ?_
      obtain ⟨o23, h24⟩ := h22
      obtain ⟨o25, h26⟩ := h24
      refine zr_iald (v := (za s0 26 (Int.toNat x3))) hC hZ zk_26 zb_26 zn_26 (by decide) o23 o25 rfl dX12_labelsOf_66 ?_
      refine g_iconst (v := zI 5) hC dX12_labelsOf_67 rfl ?_
      refine g_iload_n hC dX12_labelsOf_68 rfl ?_
      refine g_aload_n hC dX12_labelsOf_69 rfl ?_
      refine zr_get (e := (zv s0 73)) hC hZ fl_X12_234 zb_73 (by decide) rfl dX12_labelsOf_70 ?_
      refine g_aload_n hC dX12_labelsOf_73 rfl ?_
      refine zr_get (e := (zv s0 77)) hC hZ fl_X12_246 zb_77 (by decide) rfl dX12_labelsOf_74 ?_
      refine zr_callVi (As := [.int (zI (za s0 29 (Int.toNat x3))), .int (zI (za s0 26 (Int.toNat x3))), .int (zI 5), .int (zI x2), .int (zI (zv s0 73)), .int (zI (zv s0 77))]) hC hZ rfl (rm_declare X.la d b (hZ.ra 29 _) (hZ.ra 26 _) (by decide) Rx2 (hZ.rv 73) (hZ.rv 77) hZ.rf h26) cl_X12_752 rfl rfl (Nat.le_of_ble_eq_true rfl) ⟨Nat.le_of_ble_eq_true rfl, Nat.le_of_ble_eq_true rfl⟩ dX12_labelsOf_77 (fun r27 s28 F29 R30 hZ31 h32 => ?_)
      refine g_pop hC dX12_labelsOf_80 rfl ?_
      refine g_aload_n hC dX12_labelsOf_81 rfl ?_
      refine zr_geta hC hZ31 fl_X12_96 zb_28 (by decide) dX12_labelsOf_82 ?_
      refine g_iload_n hC dX12_labelsOf_85 rfl ?_
      obtain ⟨o33, h34⟩ := h32
      obtain ⟨o35, h36⟩ := h34
      refine zr_iald (v := (za s28 28 (Int.toNat x3))) hC hZ31 zk_28 zb_28 zn_28 (by decide) o33 o35 rfl dX12_labelsOf_86 ?_
      refine g_istore_n (lv' := [some (.ref t), some (.int (zI x1)), some (.int (zI x2)), some (.int (zI (za s28 28 (Int.toNat x3))))]) hC dX12_labelsOf_87 (Nat.le_of_ble_eq_true rfl) rfl rfl ?_
      refine g_goto (tgt := 39) hC dX12_labelsOf_88 (by decide) ?_
      exact hk39 _ _ _ _ _ Rx1 Rx2 (hZ31.ra 28 _) hZ31 h36
theorem rl_labelsOf_39 {X : gX} {d : gD} {b t : Nat} {T : Nat → Nat} {F0 : gM} (hC : gC RX12 cX12_labelsOf 4 none "labelsOf" (gR 3 0 0) d b X) {Q : zS → Prop} {k7 : zS → Int → Int → Prop} (hk7 : ∀ (F : gM) (s0 : zS) (x1 : Int) (x2 : Int), zR x1 → zR x2 → zZ d t T F0 F s0 → k7 s0 x1 x2 → gG X d b (zQv X d b t T F0 Q) F 0 0 7 [some (.ref t), some (.int (zI x1)), some (.int (zI x2)), none] []) : ∀ (m : Nat) (F : gM) (s0 : zS) (x1 : Int) (x2 : Int) (x3 : Int), zR x1 → zR x2 → zR x3 → zZ d t T F0 F s0 → wr_labelsOf_39 Q k7 m s0 x1 x2 x3 → gG X d b (zQv X d b t T F0 Q) F 0 0 39 [some (.ref t), some (.int (zI x1)), some (.int (zI x2)), some (.int (zI x3))] [] := by
  intro m
  induction m with
  | zero => intro F s0 x1 x2 x3 Rx1 Rx2 Rx3 hZ hw; exact False.elim hw
  | succ m ih => intro F s0 x1 x2 x3 Rx1 Rx2 Rx3 hZ hw; exact rb_labelsOf_39 hC hk7 ih Rx1 Rx2 Rx3 hZ hw
set_option maxHeartbeats 4000000 in
set_option maxRecDepth 100000 in
theorem rb_labelsOf_7 {X : gX} {d : gD} {b t : Nat} {T : Nat → Nat} {F0 : gM} (hC : gC RX12 cX12_labelsOf 4 none "labelsOf" (gR 3 0 0) d b X) {Q : zS → Prop} {k7 : zS → Int → Int → Prop} (hk7 : ∀ (F : gM) (s0 : zS) (x1 : Int) (x2 : Int), zR x1 → zR x2 → zZ d t T F0 F s0 → k7 s0 x1 x2 → gG X d b (zQv X d b t T F0 Q) F 0 0 7 [some (.ref t), some (.int (zI x1)), some (.int (zI x2)), none] []) {F : gM} {s0 : zS} {x1 : Int} {x2 : Int} (Rx1 : zR x1) (Rx2 : zR x2) (hZ : zZ d t T F0 F s0) (hw : wr_labelsOf_7B Q k7 s0 x1 x2) : gG X d b (zQv X d b t T F0 Q) F 0 0 7 [some (.ref t), some (.int (zI x1)), some (.int (zI x2)), none] [] := by
  unfold wr_labelsOf_7B at hw
  refine g_iload_n hC dX12_labelsOf_7 rfl ?_
  refine zr_if_lt (tgt := 101) hC Rx2 dX12_labelsOf_8 (by decide) (fun c1 => ?_) (fun c1 => ?_)
  · have h2 := hw.1 c1
    exact zr_vret hC hZ h2 dX12_labelsOf_101
  · have h3 := hw.2 c1
    refine g_aload_n hC dX12_labelsOf_11 rfl ?_
    refine zr_geta hC hZ fl_X12_87 zb_25 (by decide) dX12_labelsOf_12 ?_
    refine g_iload_n hC dX12_labelsOf_15 rfl ?_
    obtain ⟨o4, h5⟩ := h3
    obtain ⟨o6, h7⟩ := h5
    refine zr_bald (v := (za s0 25 (Int.toNat x2))) hC hZ zk_25 zb_25 zn_25 (by decide) o4 o6 rfl dX12_labelsOf_16 ?_
    refine g_bipush (v := zI 41) hC dX12_labelsOf_17 rfl ?_
    refine zr_icmp_eq (tgt := 25) hC (hZ.ra 25 _) (by decide) dX12_labelsOf_19 (by decide) (fun c8 => ?_) (fun c8 => ?_)
    · have h9 := h7.1 c8
      refine g_aload_n hC dX12_labelsOf_25 rfl ?_
      refine zr_geta hC hZ fl_X12_102 zb_30 (by decide) dX12_labelsOf_26 ?_
      refine g_iload_n hC dX12_labelsOf_29 rfl ?_
      refine g_iload_n hC dX12_labelsOf_30 rfl ?_
      obtain ⟨o10, h11⟩ := h9
      obtain ⟨o12, h13⟩ := h11
      refine zr_iast hC hZ zk_30 zb_30 zn_30 (by decide) o10 o12 Rx1 dX12_labelsOf_31 (fun F14 hZ15 => ?_)
      refine g_aload_n hC dX12_labelsOf_32 rfl ?_
      refine zr_geta hC hZ15 fl_X12_93 zb_27 (by decide) dX12_labelsOf_33 ?_
      refine g_iload_n hC dX12_labelsOf_36 rfl ?_
      obtain ⟨o16, h17⟩ := h13
      obtain ⟨o18, h19⟩ := h17
      refine zr_iald (v := (za s0 27 (Int.toNat x2))) hC hZ15 zk_27 zb_27 zn_27 (by decide) o16 o18 rfl dX12_labelsOf_37 ?_
      refine g_istore_n (lv' := [some (.ref t), some (.int (zI x1)), some (.int (zI x2)), some (.int (zI (za s0 27 (Int.toNat x2))))]) hC dX12_labelsOf_38 (Nat.le_of_ble_eq_true rfl) rfl rfl ?_
      obtain ⟨m20, h21⟩ := h19
      exact rl_labelsOf_39 hC hk7 m20 _ _ _ _ _ Rx1 Rx2 (hZ.ra 27 _) hZ15 h21
    · have h22 := h7.2 c8
      refine g_goto (tgt := 91) hC dX12_labelsOf_22 (by decide) ?_
      refine g_aload_n hC dX12_labelsOf_91 rfl ?_
      refine zr_geta hC hZ fl_X12_96 zb_28 (by decide) dX12_labelsOf_92 ?_
      refine g_iload_n hC dX12_labelsOf_95 rfl ?_
      obtain ⟨o23, h24⟩ := h22
      obtain ⟨o25, h26⟩ := h24
      refine zr_iald (v := (za s0 28 (Int.toNat x2))) hC hZ zk_28 zb_28 zn_28 (by decide) o23 o25 rfl dX12_labelsOf_96 ?_
      refine g_istore_n (lv' := [some (.ref t), some (.int (zI x1)), some (.int (zI (za s0 28 (Int.toNat x2)))), none]) hC dX12_labelsOf_97 (Nat.le_of_ble_eq_true rfl) rfl rfl ?_
      refine g_goto (tgt := 7) hC dX12_labelsOf_98 (by decide) ?_
      exact hk7 _ _ _ _ Rx1 (hZ.ra 28 _) hZ h26
theorem rl_labelsOf_7 {X : gX} {d : gD} {b t : Nat} {T : Nat → Nat} {F0 : gM} (hC : gC RX12 cX12_labelsOf 4 none "labelsOf" (gR 3 0 0) d b X) {Q : zS → Prop}   : ∀ (m : Nat) (F : gM) (s0 : zS) (x1 : Int) (x2 : Int), zR x1 → zR x2 → zZ d t T F0 F s0 → wr_labelsOf_7 Q  m s0 x1 x2 → gG X d b (zQv X d b t T F0 Q) F 0 0 7 [some (.ref t), some (.int (zI x1)), some (.int (zI x2)), none] [] := by
  intro m
  induction m with
  | zero => intro F s0 x1 x2 Rx1 Rx2 hZ hw; exact False.elim hw
  | succ m ih => intro F s0 x1 x2 Rx1 Rx2 hZ hw; exact rb_labelsOf_7 hC  ih Rx1 Rx2 hZ hw
set_option maxHeartbeats 4000000 in
set_option maxRecDepth 100000 in
theorem rm_labelsOf (l : Launch) (d : gD) (b : Nat) {t : Nat} {T : Nat → Nat} {F : gM} {s0 : zS} {a0 : Int} (Ra0 : zR a0) {Q : zS → Prop} (hZ : zZ d t T F F s0) (hw : wr_labelsOf s0 a0 Q) : gMv l d b yX12_labelsOf cX12_labelsOf 4 3 0 0 F [.ref t, .int (zI a0)] (zPv d t T F Q) := by
  refine gM_of2 rfl (nL := 4) (Nat.le_of_ble_eq_true rfl) ?_
  intro X hX hC; subst hX
  show gG X d b (zQv X d b t T F Q) F 0 0 0 [some (.ref t), some (.int (zI a0)), none, none] []
  unfold wr_labelsOf at hw
  refine g_aload_n hC dX12_labelsOf_0 rfl ?_
  refine zr_geta hC hZ fl_X12_93 zb_27 (by decide) dX12_labelsOf_1 ?_
  refine g_iload_n hC dX12_labelsOf_4 rfl ?_
  obtain ⟨o1, h2⟩ := hw
  obtain ⟨o3, h4⟩ := h2
  refine zr_iald (v := (za s0 27 (Int.toNat a0))) hC hZ zk_27 zb_27 zn_27 (by decide) o1 o3 rfl dX12_labelsOf_5 ?_
  refine g_istore_n (lv' := [some (.ref t), some (.int (zI a0)), some (.int (zI (za s0 27 (Int.toNat a0)))), none]) hC dX12_labelsOf_6 (Nat.le_of_ble_eq_true rfl) rfl rfl ?_
  obtain ⟨m5, h6⟩ := h4
  exact rl_labelsOf_7 hC  m5 _ _ _ _ Ra0 (hZ.ra 27 _) hZ h6
theorem dX12_goesTo_0 : decode cX12_goesTo 0 = .ok (.aload_n 0, 1) := by decide +kernel
theorem dX12_goesTo_1 : decode cX12_goesTo 1 = .ok (.aload_n 0, 1) := by decide +kernel
theorem dX12_goesTo_2 : decode cX12_goesTo 2 = .ok (.getfield 99, 3) := by decide +kernel
theorem dX12_goesTo_5 : decode cX12_goesTo 5 = .ok (.iload_n 1, 1) := by decide +kernel
theorem dX12_goesTo_6 : decode cX12_goesTo 6 = .ok (.iaload, 1) := by decide +kernel
theorem dX12_goesTo_7 : decode cX12_goesTo 7 = .ok (.invokevirtual 619, 3) := by decide +kernel
theorem dX12_goesTo_10 : decode cX12_goesTo 10 = .ok (.istore_n 2, 1) := by decide +kernel
theorem dX12_goesTo_11 : decode cX12_goesTo 11 = .ok (.aload_n 0, 1) := by decide +kernel
theorem dX12_goesTo_12 : decode cX12_goesTo 12 = .ok (.getfield 105, 3) := by decide +kernel
theorem dX12_goesTo_15 : decode cX12_goesTo 15 = .ok (.iload_n 1, 1) := by decide +kernel
theorem dX12_goesTo_16 : decode cX12_goesTo 16 = .ok (.iconst (-1), 1) := by decide +kernel
theorem dX12_goesTo_17 : decode cX12_goesTo 17 = .ok (.iastore, 1) := by decide +kernel
theorem dX12_goesTo_18 : decode cX12_goesTo 18 = .ok (.iload_n 2, 1) := by decide +kernel
theorem dX12_goesTo_19 : decode cX12_goesTo 19 = .ok (.ifCond .ge 19, 3) := by decide +kernel
theorem dX12_goesTo_22 : decode cX12_goesTo 22 = .ok (.aload_n 0, 1) := by decide +kernel
theorem dX12_goesTo_23 : decode cX12_goesTo 23 = .ok (.iconst 3, 1) := by decide +kernel
theorem dX12_goesTo_24 : decode cX12_goesTo 24 = .ok (.aload_n 0, 1) := by decide +kernel
theorem dX12_goesTo_25 : decode cX12_goesTo 25 = .ok (.aload_n 0, 1) := by decide +kernel
theorem dX12_goesTo_26 : decode cX12_goesTo 26 = .ok (.getfield 90, 3) := by decide +kernel
theorem dX12_goesTo_29 : decode cX12_goesTo 29 = .ok (.iload_n 1, 1) := by decide +kernel
theorem dX12_goesTo_30 : decode cX12_goesTo 30 = .ok (.iaload, 1) := by decide +kernel
theorem dX12_goesTo_31 : decode cX12_goesTo 31 = .ok (.invokevirtual 613, 3) := by decide +kernel
theorem dX12_goesTo_34 : decode cX12_goesTo 34 = .ok (.invokevirtual 605, 3) := by decide +kernel
theorem dX12_goesTo_37 : decode cX12_goesTo 37 = .ok (.return_, 1) := by decide +kernel
theorem dX12_goesTo_38 : decode cX12_goesTo 38 = .ok (.aload_n 0, 1) := by decide +kernel
theorem dX12_goesTo_39 : decode cX12_goesTo 39 = .ok (.getfield 166, 3) := by decide +kernel
theorem dX12_goesTo_42 : decode cX12_goesTo 42 = .ok (.iload_n 2, 1) := by decide +kernel
theorem dX12_goesTo_43 : decode cX12_goesTo 43 = .ok (.iaload, 1) := by decide +kernel
theorem dX12_goesTo_44 : decode cX12_goesTo 44 = .ok (.iconst 5, 1) := by decide +kernel
theorem dX12_goesTo_45 : decode cX12_goesTo 45 = .ok (.if_icmp .ne 29, 3) := by decide +kernel
theorem dX12_goesTo_48 : decode cX12_goesTo 48 = .ok (.aload_n 0, 1) := by decide +kernel
theorem dX12_goesTo_49 : decode cX12_goesTo 49 = .ok (.getfield 172, 3) := by decide +kernel
theorem dX12_goesTo_52 : decode cX12_goesTo 52 = .ok (.iload_n 2, 1) := by decide +kernel
theorem dX12_goesTo_53 : decode cX12_goesTo 53 = .ok (.iaload, 1) := by decide +kernel
theorem dX12_goesTo_54 : decode cX12_goesTo 54 = .ok (.aload_n 0, 1) := by decide +kernel
theorem dX12_goesTo_55 : decode cX12_goesTo 55 = .ok (.getfield 234, 3) := by decide +kernel
theorem dX12_goesTo_58 : decode cX12_goesTo 58 = .ok (.if_icmp .ne 16, 3) := by decide +kernel
theorem dX12_goesTo_61 : decode cX12_goesTo 61 = .ok (.aload_n 0, 1) := by decide +kernel
theorem dX12_goesTo_62 : decode cX12_goesTo 62 = .ok (.getfield 175, 3) := by decide +kernel
theorem dX12_goesTo_65 : decode cX12_goesTo 65 = .ok (.iload_n 2, 1) := by decide +kernel
theorem dX12_goesTo_66 : decode cX12_goesTo 66 = .ok (.iaload, 1) := by decide +kernel
theorem dX12_goesTo_67 : decode cX12_goesTo 67 = .ok (.aload_n 0, 1) := by decide +kernel
theorem dX12_goesTo_68 : decode cX12_goesTo 68 = .ok (.getfield 246, 3) := by decide +kernel
theorem dX12_goesTo_71 : decode cX12_goesTo 71 = .ok (.if_icmp .eq 19, 3) := by decide +kernel
theorem dX12_goesTo_74 : decode cX12_goesTo 74 = .ok (.aload_n 0, 1) := by decide +kernel
theorem dX12_goesTo_75 : decode cX12_goesTo 75 = .ok (.bipush 6, 2) := by decide +kernel
theorem dX12_goesTo_77 : decode cX12_goesTo 77 = .ok (.aload_n 0, 1) := by decide +kernel
theorem dX12_goesTo_78 : decode cX12_goesTo 78 = .ok (.aload_n 0, 1) := by decide +kernel
theorem dX12_goesTo_79 : decode cX12_goesTo 79 = .ok (.getfield 90, 3) := by decide +kernel
theorem dX12_goesTo_82 : decode cX12_goesTo 82 = .ok (.iload_n 1, 1) := by decide +kernel
theorem dX12_goesTo_83 : decode cX12_goesTo 83 = .ok (.iaload, 1) := by decide +kernel
theorem dX12_goesTo_84 : decode cX12_goesTo 84 = .ok (.invokevirtual 613, 3) := by decide +kernel
theorem dX12_goesTo_87 : decode cX12_goesTo 87 = .ok (.invokevirtual 605, 3) := by decide +kernel
theorem dX12_goesTo_90 : decode cX12_goesTo 90 = .ok (.aload_n 0, 1) := by decide +kernel
theorem dX12_goesTo_91 : decode cX12_goesTo 91 = .ok (.getfield 105, 3) := by decide +kernel
theorem dX12_goesTo_94 : decode cX12_goesTo 94 = .ok (.iload_n 1, 1) := by decide +kernel
theorem dX12_goesTo_95 : decode cX12_goesTo 95 = .ok (.aload_n 0, 1) := by decide +kernel
theorem dX12_goesTo_96 : decode cX12_goesTo 96 = .ok (.getfield 169, 3) := by decide +kernel
theorem dX12_goesTo_99 : decode cX12_goesTo 99 = .ok (.iload_n 2, 1) := by decide +kernel
theorem dX12_goesTo_100 : decode cX12_goesTo 100 = .ok (.iaload, 1) := by decide +kernel
theorem dX12_goesTo_101 : decode cX12_goesTo 101 = .ok (.iastore, 1) := by decide +kernel
theorem dX12_goesTo_102 : decode cX12_goesTo 102 = .ok (.return_, 1) := by decide +kernel
def wr_goesTo_74 (Q : zS → Prop)  (s0 : zS) (x1 : Int) (x2 : Int) : Prop :=
  (0 ≤ x1) ∧ (x1 < 26000) ∧ wr_place s0 (za s0 26 (Int.toNat x1)) (fun r5 s6 => wr_fault s6 6 r5 (fun s12 => (0 ≤ x2) ∧ (x2 < 9000) ∧ (0 ≤ x1) ∧ (x1 < 26000) ∧ Q (zpa s12 31 (Int.toNat x1) (za s12 52 (Int.toNat x2)))))
def wr_goesTo (s0 : zS) (a0 : Int) (Q : zS → Prop) : Prop :=
  (0 ≤ a0) ∧ (a0 < 26000) ∧ wr_means s0 (za s0 29 (Int.toNat a0)) (fun r5 s6 => (0 ≤ a0) ∧ (a0 < 26000) ∧ ((0 ≤ r5 → (0 ≤ r5) ∧ (r5 < 9000) ∧ ((¬ (za s6 51 (Int.toNat r5)) = 5 → wr_goesTo_74 Q  (zpa s6 31 (Int.toNat a0) (-1)) a0 r5) ∧ ((za s6 51 (Int.toNat r5)) = 5 → (0 ≤ r5) ∧ (r5 < 9000) ∧ ((¬ (za s6 53 (Int.toNat r5)) = (zv s6 73) → wr_goesTo_74 Q  (zpa s6 31 (Int.toNat a0) (-1)) a0 r5) ∧ ((za s6 53 (Int.toNat r5)) = (zv s6 73) → (0 ≤ r5) ∧ (r5 < 9000) ∧ (((za s6 54 (Int.toNat r5)) = (zv s6 77) → (0 ≤ r5) ∧ (r5 < 9000) ∧ (0 ≤ a0) ∧ (a0 < 26000) ∧ Q (zpa (zpa s6 31 (Int.toNat a0) (-1)) 31 (Int.toNat a0) (za s6 52 (Int.toNat r5)))) ∧ (¬ (za s6 54 (Int.toNat r5)) = (zv s6 77) → wr_goesTo_74 Q  (zpa s6 31 (Int.toNat a0) (-1)) a0 r5))))))) ∧ (¬ 0 ≤ r5 → (0 ≤ a0) ∧ (a0 < 26000) ∧ wr_place (zpa s6 31 (Int.toNat a0) (-1)) (za s6 26 (Int.toNat a0)) (fun r55 s56 => wr_fault s56 3 r55 (fun s62 => Q s62)))))
set_option maxHeartbeats 4000000 in
set_option maxRecDepth 100000 in
theorem rj_goesTo_74 {X : gX} {d : gD} {b t : Nat} {T : Nat → Nat} {F0 : gM} (hC : gC RX12 cX12_goesTo 3 none "goesTo" (gR 1 0 0) d b X) {Q : zS → Prop}   {F : gM} {s0 : zS} {x1 : Int} {x2 : Int} (Rx1 : zR x1) (Rx2 : zR x2) (hZ : zZ d t T F0 F s0) (hw : wr_goesTo_74 Q  s0 x1 x2) : gG X d b (zQv X d b t T F0 Q) F 0 0 74 [some (.ref t), some (.int (zI x1)), some (.int (zI x2))] [] := by
  unfold wr_goesTo_74 at hw
  refine g_aload_n hC dX12_goesTo_74 rfl ?_
  refine g_bipush (v := zI 6) hC dX12_goesTo_75 rfl ?_
  refine g_aload_n hC dX12_goesTo_77 rfl ?_
  refine g_aload_n hC dX12_goesTo_78 rfl ?_
  refine zr_geta hC hZ fl_X12_90 zb_26 (by decide) dX12_goesTo_79 ?_
  refine g_iload_n hC dX12_goesTo_82 rfl ?_
  obtain ⟨o1, h2⟩ := hw
  obtain ⟨o3, h4⟩ := h2
  refine zr_iald (v := (za s0 26 (Int.toNat x1))) hC hZ zk_26 zb_26 zn_26 (by decide) o1 o3 rfl dX12_goesTo_83 ?_
  refine zr_callVi (As := [.int (zI (za s0 26 (Int.toNat x1)))]) hC hZ rfl (rm_place X.la d b (hZ.ra 26 _) hZ.rf h4) cl_X12_613 rfl rfl (Nat.le_of_ble_eq_true rfl) ⟨Nat.le_of_ble_eq_true rfl, Nat.le_of_ble_eq_true rfl⟩ dX12_goesTo_84 (fun r5 s6 F7 R8 hZ9 h10 => ?_)
  refine zr_callVv (As := [.int (zI 6), .int (zI r5)]) hC hZ9 rfl (rm_fault X.la d b (by decide) R8 hZ9.rf h10) cl_X12_605 rfl rfl (Nat.le_of_ble_eq_true rfl) ⟨Nat.le_of_ble_eq_true rfl, Nat.le_of_ble_eq_true rfl⟩ dX12_goesTo_87 (fun s12 F13 hZ15 h16 => ?_)
  refine g_aload_n hC dX12_goesTo_90 rfl ?_
  refine zr_geta hC hZ15 fl_X12_105 zb_31 (by decide) dX12_goesTo_91 ?_
  refine g_iload_n hC dX12_goesTo_94 rfl ?_
  refine g_aload_n hC dX12_goesTo_95 rfl ?_
  refine zr_geta hC hZ15 fl_X12_169 zb_52 (by decide) dX12_goesTo_96 ?_
  refine g_iload_n hC dX12_goesTo_99 rfl ?_
  obtain ⟨o17, h18⟩ := h16
  obtain ⟨o19, h20⟩ := h18
  refine zr_iald (v := (za s12 52 (Int.toNat x2))) hC hZ15 zk_52 zb_52 zn_52 (by decide) o17 o19 rfl dX12_goesTo_100 ?_
  obtain ⟨o21, h22⟩ := h20
  obtain ⟨o23, h24⟩ := h22
  refine zr_iast hC hZ15 zk_31 zb_31 zn_31 (by decide) o21 o23 (hZ15.ra 52 _) dX12_goesTo_101 (fun F25 hZ26 => ?_)
  exact zr_vret hC hZ26 h24 dX12_goesTo_102
set_option maxHeartbeats 4000000 in
set_option maxRecDepth 100000 in
theorem rm_goesTo (l : Launch) (d : gD) (b : Nat) {t : Nat} {T : Nat → Nat} {F : gM} {s0 : zS} {a0 : Int} (Ra0 : zR a0) {Q : zS → Prop} (hZ : zZ d t T F F s0) (hw : wr_goesTo s0 a0 Q) : gMv l d b yX12_goesTo cX12_goesTo 3 1 0 0 F [.ref t, .int (zI a0)] (zPv d t T F Q) := by
  refine gM_of2 rfl (nL := 3) (Nat.le_of_ble_eq_true rfl) ?_
  intro X hX hC; subst hX
  show gG X d b (zQv X d b t T F Q) F 0 0 0 [some (.ref t), some (.int (zI a0)), none] []
  unfold wr_goesTo at hw
  refine g_aload_n hC dX12_goesTo_0 rfl ?_
  refine g_aload_n hC dX12_goesTo_1 rfl ?_
  refine zr_geta hC hZ fl_X12_99 zb_29 (by decide) dX12_goesTo_2 ?_
  refine g_iload_n hC dX12_goesTo_5 rfl ?_
  obtain ⟨o1, h2⟩ := hw
  obtain ⟨o3, h4⟩ := h2
  refine zr_iald (v := (za s0 29 (Int.toNat a0))) hC hZ zk_29 zb_29 zn_29 (by decide) o1 o3 rfl dX12_goesTo_6 ?_
  refine zr_callVi (As := [.int (zI (za s0 29 (Int.toNat a0)))]) hC hZ rfl (rm_means X.la d b (hZ.ra 29 _) hZ.rf h4) cl_X12_619 rfl rfl (Nat.le_of_ble_eq_true rfl) ⟨Nat.le_of_ble_eq_true rfl, Nat.le_of_ble_eq_true rfl⟩ dX12_goesTo_7 (fun r5 s6 F7 R8 hZ9 h10 => ?_)
  refine g_istore_n (lv' := [some (.ref t), some (.int (zI a0)), some (.int (zI r5))]) hC dX12_goesTo_10 (Nat.le_of_ble_eq_true rfl) rfl rfl ?_
  refine g_aload_n hC dX12_goesTo_11 rfl ?_
  refine zr_geta hC hZ9 fl_X12_105 zb_31 (by decide) dX12_goesTo_12 ?_
  refine g_iload_n hC dX12_goesTo_15 rfl ?_
  refine g_iconst (v := zI (-1)) hC dX12_goesTo_16 rfl ?_
  obtain ⟨o11, h12⟩ := h10
  obtain ⟨o13, h14⟩ := h12
  refine zr_iast hC hZ9 zk_31 zb_31 zn_31 (by decide) o11 o13 (by decide) dX12_goesTo_17 (fun F15 hZ16 => ?_)
  refine g_iload_n hC dX12_goesTo_18 rfl ?_
  refine zr_if_ge (tgt := 38) hC R8 dX12_goesTo_19 (by decide) (fun c17 => ?_) (fun c17 => ?_)
  · have h18 := h14.1 c17
    refine g_aload_n hC dX12_goesTo_38 rfl ?_
    refine zr_geta hC hZ16 fl_X12_166 zb_51 (by decide) dX12_goesTo_39 ?_
    refine g_iload_n hC dX12_goesTo_42 rfl ?_
    obtain ⟨o19, h20⟩ := h18
    obtain ⟨o21, h22⟩ := h20
    refine zr_iald (v := (za s6 51 (Int.toNat r5))) hC hZ16 zk_51 zb_51 zn_51 (by decide) o19 o21 rfl dX12_goesTo_43 ?_
    refine g_iconst (v := zI 5) hC dX12_goesTo_44 rfl ?_
    refine zr_icmp_ne (tgt := 74) hC (hZ9.ra 51 _) (by decide) dX12_goesTo_45 (by decide) (fun c23 => ?_) (fun c23 => ?_)
    · have h24 := h22.1 c23
      exact rj_goesTo_74 hC  Ra0 R8 hZ16 h24
    · have h25 := h22.2 c23
      refine g_aload_n hC dX12_goesTo_48 rfl ?_
      refine zr_geta hC hZ16 fl_X12_172 zb_53 (by decide) dX12_goesTo_49 ?_
      refine g_iload_n hC dX12_goesTo_52 rfl ?_
      obtain ⟨o26, h27⟩ := h25
      obtain ⟨o28, h29⟩ := h27
      refine zr_iald (v := (za s6 53 (Int.toNat r5))) hC hZ16 zk_53 zb_53 zn_53 (by decide) o26 o28 rfl dX12_goesTo_53 ?_
      refine g_aload_n hC dX12_goesTo_54 rfl ?_
      refine zr_get (e := (zv s6 73)) hC hZ16 fl_X12_234 zb_73 (by decide) rfl dX12_goesTo_55 ?_
      refine zr_icmp_ne (tgt := 74) hC (hZ9.ra 53 _) (hZ9.rv 73) dX12_goesTo_58 (by decide) (fun c30 => ?_) (fun c30 => ?_)
      · have h31 := h29.1 c30
        exact rj_goesTo_74 hC  Ra0 R8 hZ16 h31
      · have h32 := h29.2 c30
        refine g_aload_n hC dX12_goesTo_61 rfl ?_
        refine zr_geta hC hZ16 fl_X12_175 zb_54 (by decide) dX12_goesTo_62 ?_
        refine g_iload_n hC dX12_goesTo_65 rfl ?_
        obtain ⟨o33, h34⟩ := h32
        obtain ⟨o35, h36⟩ := h34
        refine zr_iald (v := (za s6 54 (Int.toNat r5))) hC hZ16 zk_54 zb_54 zn_54 (by decide) o33 o35 rfl dX12_goesTo_66 ?_
        refine g_aload_n hC dX12_goesTo_67 rfl ?_
        refine zr_get (e := (zv s6 77)) hC hZ16 fl_X12_246 zb_77 (by decide) rfl dX12_goesTo_68 ?_
        refine zr_icmp_eq (tgt := 90) hC (hZ9.ra 54 _) (hZ9.rv 77) dX12_goesTo_71 (by decide) (fun c37 => ?_) (fun c37 => ?_)
        · have h38 := h36.1 c37
          refine g_aload_n hC dX12_goesTo_90 rfl ?_
          refine zr_geta hC hZ16 fl_X12_105 zb_31 (by decide) dX12_goesTo_91 ?_
          refine g_iload_n hC dX12_goesTo_94 rfl ?_
          refine g_aload_n hC dX12_goesTo_95 rfl ?_
          refine zr_geta hC hZ16 fl_X12_169 zb_52 (by decide) dX12_goesTo_96 ?_
          refine g_iload_n hC dX12_goesTo_99 rfl ?_
          obtain ⟨o39, h40⟩ := h38
          obtain ⟨o41, h42⟩ := h40
          refine zr_iald (v := (za s6 52 (Int.toNat r5))) hC hZ16 zk_52 zb_52 zn_52 (by decide) o39 o41 rfl dX12_goesTo_100 ?_
          obtain ⟨o43, h44⟩ := h42
          obtain ⟨o45, h46⟩ := h44
          refine zr_iast hC hZ16 zk_31 zb_31 zn_31 (by decide) o43 o45 (hZ9.ra 52 _) dX12_goesTo_101 (fun F47 hZ48 => ?_)
          exact zr_vret hC hZ48 h46 dX12_goesTo_102
        · have h49 := h36.2 c37
          exact rj_goesTo_74 hC  Ra0 R8 hZ16 h49
  · have h50 := h14.2 c17
    refine g_aload_n hC dX12_goesTo_22 rfl ?_
    refine g_iconst (v := zI 3) hC dX12_goesTo_23 rfl ?_
    refine g_aload_n hC dX12_goesTo_24 rfl ?_
    refine g_aload_n hC dX12_goesTo_25 rfl ?_
    refine zr_geta hC hZ16 fl_X12_90 zb_26 (by decide) dX12_goesTo_26 ?_
    refine g_iload_n hC dX12_goesTo_29 rfl ?_
    obtain ⟨o51, h52⟩ := h50
    obtain ⟨o53, h54⟩ := h52
    refine zr_iald (v := (za s6 26 (Int.toNat a0))) hC hZ16 zk_26 zb_26 zn_26 (by decide) o51 o53 rfl dX12_goesTo_30 ?_
    refine zr_callVi (As := [.int (zI (za s6 26 (Int.toNat a0)))]) hC hZ16 rfl (rm_place X.la d b (hZ9.ra 26 _) hZ16.rf h54) cl_X12_613 rfl rfl (Nat.le_of_ble_eq_true rfl) ⟨Nat.le_of_ble_eq_true rfl, Nat.le_of_ble_eq_true rfl⟩ dX12_goesTo_31 (fun r55 s56 F57 R58 hZ59 h60 => ?_)
    refine zr_callVv (As := [.int (zI 3), .int (zI r55)]) hC hZ59 rfl (rm_fault X.la d b (by decide) R58 hZ59.rf h60) cl_X12_605 rfl rfl (Nat.le_of_ble_eq_true rfl) ⟨Nat.le_of_ble_eq_true rfl, Nat.le_of_ble_eq_true rfl⟩ dX12_goesTo_34 (fun s62 F63 hZ65 h66 => ?_)
    exact zr_vret hC hZ65 h66 dX12_goesTo_37
