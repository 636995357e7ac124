/-! the reference as formulas: perform, stores, isStep, loop, asked, section, variables, choose, returns, doNext -/
theorem dX12_perform_0 : decode cX12_perform 0 = .ok (.aload_n 0, 1) := by decide +kernel
theorem dX12_perform_1 : decode cX12_perform 1 = .ok (.getfield 87, 3) := by decide +kernel
theorem dX12_perform_4 : decode cX12_perform 4 = .ok (.iload_n 1, 1) := by decide +kernel
theorem dX12_perform_5 : decode cX12_perform 5 = .ok (.baload, 1) := by decide +kernel
theorem dX12_perform_6 : decode cX12_perform 6 = .ok (.istore_n 2, 1) := by decide +kernel
theorem dX12_perform_7 : decode cX12_perform 7 = .ok (.aload_n 0, 1) := by decide +kernel
theorem dX12_perform_8 : decode cX12_perform 8 = .ok (.getfield 93, 3) := by decide +kernel
theorem dX12_perform_11 : decode cX12_perform 11 = .ok (.iload_n 1, 1) := by decide +kernel
theorem dX12_perform_12 : decode cX12_perform 12 = .ok (.iaload, 1) := by decide +kernel
theorem dX12_perform_13 : decode cX12_perform 13 = .ok (.istore_n 3, 1) := by decide +kernel
theorem dX12_perform_14 : decode cX12_perform 14 = .ok (.iload_n 2, 1) := by decide +kernel
theorem dX12_perform_15 : decode cX12_perform 15 = .ok (.bipush 37, 2) := by decide +kernel
theorem dX12_perform_17 : decode cX12_perform 17 = .ok (.if_icmp .ne 4, 3) := by decide +kernel
theorem dX12_perform_20 : decode cX12_perform 20 = .ok (.return_, 1) := by decide +kernel
theorem dX12_perform_21 : decode cX12_perform 21 = .ok (.iload_n 2, 1) := by decide +kernel
theorem dX12_perform_22 : decode cX12_perform 22 = .ok (.bipush 36, 2) := by decide +kernel
theorem dX12_perform_24 : decode cX12_perform 24 = .ok (.if_icmp .ne 12, 3) := by decide +kernel
theorem dX12_perform_27 : decode cX12_perform 27 = .ok (.aload_n 0, 1) := by decide +kernel
theorem dX12_perform_28 : decode cX12_perform 28 = .ok (.bipush 17, 2) := by decide +kernel
theorem dX12_perform_30 : decode cX12_perform 30 = .ok (.iload_n 1, 1) := by decide +kernel
theorem dX12_perform_31 : decode cX12_perform 31 = .ok (.iload_n 3, 1) := by decide +kernel
theorem dX12_perform_32 : decode cX12_perform 32 = .ok (.invokevirtual 801, 3) := by decide +kernel
theorem dX12_perform_35 : decode cX12_perform 35 = .ok (.return_, 1) := by decide +kernel
theorem dX12_perform_36 : decode cX12_perform 36 = .ok (.iload_n 2, 1) := by decide +kernel
theorem dX12_perform_37 : decode cX12_perform 37 = .ok (.bipush 38, 2) := by decide +kernel
theorem dX12_perform_39 : decode cX12_perform 39 = .ok (.if_icmp .eq 15, 3) := by decide +kernel
theorem dX12_perform_42 : decode cX12_perform 42 = .ok (.iload_n 2, 1) := by decide +kernel
theorem dX12_perform_43 : decode cX12_perform 43 = .ok (.bipush 39, 2) := by decide +kernel
theorem dX12_perform_45 : decode cX12_perform 45 = .ok (.if_icmp .eq 9, 3) := by decide +kernel
theorem dX12_perform_48 : decode cX12_perform 48 = .ok (.iload_n 2, 1) := by decide +kernel
theorem dX12_perform_49 : decode cX12_perform 49 = .ok (.bipush 40, 2) := by decide +kernel
theorem dX12_perform_51 : decode cX12_perform 51 = .ok (.if_icmp .ne 20, 3) := by decide +kernel
theorem dX12_perform_54 : decode cX12_perform 54 = .ok (.aload_n 0, 1) := by decide +kernel
theorem dX12_perform_55 : decode cX12_perform 55 = .ok (.bipush 15, 2) := by decide +kernel
theorem dX12_perform_57 : decode cX12_perform 57 = .ok (.iload_n 1, 1) := by decide +kernel
theorem dX12_perform_58 : decode cX12_perform 58 = .ok (.iconst 0, 1) := by decide +kernel
theorem dX12_perform_59 : decode cX12_perform 59 = .ok (.invokevirtual 801, 3) := by decide +kernel
theorem dX12_perform_62 : decode cX12_perform 62 = .ok (.aload_n 0, 1) := by decide +kernel
theorem dX12_perform_63 : decode cX12_perform 63 = .ok (.bipush 10, 2) := by decide +kernel
theorem dX12_perform_65 : decode cX12_perform 65 = .ok (.iload_n 3, 1) := by decide +kernel
theorem dX12_perform_66 : decode cX12_perform 66 = .ok (.iconst 0, 1) := by decide +kernel
theorem dX12_perform_67 : decode cX12_perform 67 = .ok (.invokevirtual 801, 3) := by decide +kernel
theorem dX12_perform_70 : decode cX12_perform 70 = .ok (.return_, 1) := by decide +kernel
theorem dX12_perform_71 : decode cX12_perform 71 = .ok (.aload_n 0, 1) := by decide +kernel
theorem dX12_perform_72 : decode cX12_perform 72 = .ok (.invokevirtual 817, 3) := by decide +kernel
theorem dX12_perform_75 : decode cX12_perform 75 = .ok (.ifCond .ne 4, 3) := by decide +kernel
theorem dX12_perform_78 : decode cX12_perform 78 = .ok (.return_, 1) := by decide +kernel
theorem dX12_perform_79 : decode cX12_perform 79 = .ok (.iload_n 2, 1) := by decide +kernel
theorem dX12_perform_80 : decode cX12_perform 80 = .ok (.bipush 20, 2) := by decide +kernel
theorem dX12_perform_82 : decode cX12_perform 82 = .ok (.if_icmp .ne 12, 3) := by decide +kernel
theorem dX12_perform_85 : decode cX12_perform 85 = .ok (.aload_n 0, 1) := by decide +kernel
theorem dX12_perform_86 : decode cX12_perform 86 = .ok (.iload_n 1, 1) := by decide +kernel
theorem dX12_perform_87 : decode cX12_perform 87 = .ok (.iload_n 3, 1) := by decide +kernel
theorem dX12_perform_88 : decode cX12_perform 88 = .ok (.invokevirtual 871, 3) := by decide +kernel
theorem dX12_perform_91 : decode cX12_perform 91 = .ok (.goto 462, 3) := by decide +kernel
theorem dX12_perform_94 : decode cX12_perform 94 = .ok (.iload_n 2, 1) := by decide +kernel
theorem dX12_perform_95 : decode cX12_perform 95 = .ok (.bipush 21, 2) := by decide +kernel
theorem dX12_perform_97 : decode cX12_perform 97 = .ok (.if_icmp .ne 21, 3) := by decide +kernel
theorem dX12_perform_100 : decode cX12_perform 100 = .ok (.aload_n 0, 1) := by decide +kernel
theorem dX12_perform_101 : decode cX12_perform 101 = .ok (.bipush 13, 2) := by decide +kernel
theorem dX12_perform_103 : decode cX12_perform 103 = .ok (.iload_n 1, 1) := by decide +kernel
theorem dX12_perform_104 : decode cX12_perform 104 = .ok (.iconst 0, 1) := by decide +kernel
theorem dX12_perform_105 : decode cX12_perform 105 = .ok (.invokevirtual 801, 3) := by decide +kernel
theorem dX12_perform_108 : decode cX12_perform 108 = .ok (.aload_n 0, 1) := by decide +kernel
theorem dX12_perform_109 : decode cX12_perform 109 = .ok (.iconst 1, 1) := by decide +kernel
theorem dX12_perform_110 : decode cX12_perform 110 = .ok (.iload_n 3, 1) := by decide +kernel
theorem dX12_perform_111 : decode cX12_perform 111 = .ok (.iconst 0, 1) := by decide +kernel
theorem dX12_perform_112 : decode cX12_perform 112 = .ok (.invokevirtual 801, 3) := by decide +kernel
theorem dX12_perform_115 : decode cX12_perform 115 = .ok (.goto 438, 3) := by decide +kernel
theorem dX12_perform_118 : decode cX12_perform 118 = .ok (.iload_n 2, 1) := by decide +kernel
theorem dX12_perform_119 : decode cX12_perform 119 = .ok (.bipush 22, 2) := by decide +kernel
theorem dX12_perform_121 : decode cX12_perform 121 = .ok (.if_icmp .eq 15, 3) := by decide +kernel
theorem dX12_perform_124 : decode cX12_perform 124 = .ok (.iload_n 2, 1) := by decide +kernel
theorem dX12_perform_125 : decode cX12_perform 125 = .ok (.bipush 23, 2) := by decide +kernel
theorem dX12_perform_127 : decode cX12_perform 127 = .ok (.if_icmp .eq 9, 3) := by decide +kernel
theorem dX12_perform_130 : decode cX12_perform 130 = .ok (.iload_n 2, 1) := by decide +kernel
theorem dX12_perform_131 : decode cX12_perform 131 = .ok (.bipush 24, 2) := by decide +kernel
theorem dX12_perform_133 : decode cX12_perform 133 = .ok (.if_icmp .ne 21, 3) := by decide +kernel
theorem dX12_perform_136 : decode cX12_perform 136 = .ok (.aload_n 0, 1) := by decide +kernel
theorem dX12_perform_137 : decode cX12_perform 137 = .ok (.bipush 14, 2) := by decide +kernel
theorem dX12_perform_139 : decode cX12_perform 139 = .ok (.iload_n 1, 1) := by decide +kernel
theorem dX12_perform_140 : decode cX12_perform 140 = .ok (.iconst 0, 1) := by decide +kernel
theorem dX12_perform_141 : decode cX12_perform 141 = .ok (.invokevirtual 801, 3) := by decide +kernel
theorem dX12_perform_144 : decode cX12_perform 144 = .ok (.aload_n 0, 1) := by decide +kernel
theorem dX12_perform_145 : decode cX12_perform 145 = .ok (.iconst 1, 1) := by decide +kernel
theorem dX12_perform_146 : decode cX12_perform 146 = .ok (.iload_n 3, 1) := by decide +kernel
theorem dX12_perform_147 : decode cX12_perform 147 = .ok (.iconst 0, 1) := by decide +kernel
theorem dX12_perform_148 : decode cX12_perform 148 = .ok (.invokevirtual 801, 3) := by decide +kernel
theorem dX12_perform_151 : decode cX12_perform 151 = .ok (.goto 402, 3) := by decide +kernel
theorem dX12_perform_154 : decode cX12_perform 154 = .ok (.iload_n 2, 1) := by decide +kernel
theorem dX12_perform_155 : decode cX12_perform 155 = .ok (.bipush 25, 2) := by decide +kernel
theorem dX12_perform_157 : decode cX12_perform 157 = .ok (.if_icmp .eq 9, 3) := by decide +kernel
theorem dX12_perform_160 : decode cX12_perform 160 = .ok (.iload_n 2, 1) := by decide +kernel
theorem dX12_perform_161 : decode cX12_perform 161 = .ok (.bipush 26, 2) := by decide +kernel
theorem dX12_perform_163 : decode cX12_perform 163 = .ok (.if_icmp .ne 14, 3) := by decide +kernel
theorem dX12_perform_166 : decode cX12_perform 166 = .ok (.aload_n 0, 1) := by decide +kernel
theorem dX12_perform_167 : decode cX12_perform 167 = .ok (.bipush 15, 2) := by decide +kernel
theorem dX12_perform_169 : decode cX12_perform 169 = .ok (.iload_n 1, 1) := by decide +kernel
theorem dX12_perform_170 : decode cX12_perform 170 = .ok (.iconst 0, 1) := by decide +kernel
theorem dX12_perform_171 : decode cX12_perform 171 = .ok (.invokevirtual 801, 3) := by decide +kernel
theorem dX12_perform_174 : decode cX12_perform 174 = .ok (.goto 379, 3) := by decide +kernel
theorem dX12_perform_177 : decode cX12_perform 177 = .ok (.iload_n 2, 1) := by decide +kernel
theorem dX12_perform_178 : decode cX12_perform 178 = .ok (.bipush 27, 2) := by decide +kernel
theorem dX12_perform_180 : decode cX12_perform 180 = .ok (.if_icmp .ne 43, 3) := by decide +kernel
theorem dX12_perform_183 : decode cX12_perform 183 = .ok (.aload_n 0, 1) := by decide +kernel
theorem dX12_perform_184 : decode cX12_perform 184 = .ok (.bipush 20, 2) := by decide +kernel
theorem dX12_perform_186 : decode cX12_perform 186 = .ok (.iload_n 1, 1) := by decide +kernel
theorem dX12_perform_187 : decode cX12_perform 187 = .ok (.iconst 0, 1) := by decide +kernel
theorem dX12_perform_188 : decode cX12_perform 188 = .ok (.invokevirtual 801, 3) := by decide +kernel
theorem dX12_perform_191 : decode cX12_perform 191 = .ok (.aload_n 0, 1) := by decide +kernel
theorem dX12_perform_192 : decode cX12_perform 192 = .ok (.iconst 1, 1) := by decide +kernel
theorem dX12_perform_193 : decode cX12_perform 193 = .ok (.aload_n 0, 1) := by decide +kernel
theorem dX12_perform_194 : decode cX12_perform 194 = .ok (.getfield 96, 3) := by decide +kernel
theorem dX12_perform_197 : decode cX12_perform 197 = .ok (.aload_n 0, 1) := by decide +kernel
theorem dX12_perform_198 : decode cX12_perform 198 = .ok (.getfield 96, 3) := by decide +kernel
theorem dX12_perform_201 : decode cX12_perform 201 = .ok (.iload_n 3, 1) := by decide +kernel
theorem dX12_perform_202 : decode cX12_perform 202 = .ok (.iaload, 1) := by decide +kernel
theorem dX12_perform_203 : decode cX12_perform 203 = .ok (.iaload, 1) := by decide +kernel
theorem dX12_perform_204 : decode cX12_perform 204 = .ok (.iconst 0, 1) := by decide +kernel
theorem dX12_perform_205 : decode cX12_perform 205 = .ok (.invokevirtual 801, 3) := by decide +kernel
theorem dX12_perform_208 : decode cX12_perform 208 = .ok (.aload_n 0, 1) := by decide +kernel
theorem dX12_perform_209 : decode cX12_perform 209 = .ok (.iconst 1, 1) := by decide +kernel
theorem dX12_perform_210 : decode cX12_perform 210 = .ok (.aload_n 0, 1) := by decide +kernel
theorem dX12_perform_211 : decode cX12_perform 211 = .ok (.getfield 96, 3) := by decide +kernel
theorem dX12_perform_214 : decode cX12_perform 214 = .ok (.iload_n 3, 1) := by decide +kernel
theorem dX12_perform_215 : decode cX12_perform 215 = .ok (.iaload, 1) := by decide +kernel
theorem dX12_perform_216 : decode cX12_perform 216 = .ok (.iconst 0, 1) := by decide +kernel
theorem dX12_perform_217 : decode cX12_perform 217 = .ok (.invokevirtual 801, 3) := by decide +kernel
theorem dX12_perform_220 : decode cX12_perform 220 = .ok (.goto 333, 3) := by decide +kernel
theorem dX12_perform_223 : decode cX12_perform 223 = .ok (.iload_n 2, 1) := by decide +kernel
theorem dX12_perform_224 : decode cX12_perform 224 = .ok (.bipush 28, 2) := by decide +kernel
theorem dX12_perform_226 : decode cX12_perform 226 = .ok (.if_icmp .ne 21, 3) := by decide +kernel
theorem dX12_perform_229 : decode cX12_perform 229 = .ok (.aload_n 0, 1) := by decide +kernel
theorem dX12_perform_230 : decode cX12_perform 230 = .ok (.bipush 21, 2) := by decide +kernel
theorem dX12_perform_232 : decode cX12_perform 232 = .ok (.iload_n 1, 1) := by decide +kernel
theorem dX12_perform_233 : decode cX12_perform 233 = .ok (.iconst 0, 1) := by decide +kernel
theorem dX12_perform_234 : decode cX12_perform 234 = .ok (.invokevirtual 801, 3) := by decide +kernel
theorem dX12_perform_237 : decode cX12_perform 237 = .ok (.aload_n 0, 1) := by decide +kernel
theorem dX12_perform_238 : decode cX12_perform 238 = .ok (.iconst 1, 1) := by decide +kernel
theorem dX12_perform_239 : decode cX12_perform 239 = .ok (.iload_n 3, 1) := by decide +kernel
theorem dX12_perform_240 : decode cX12_perform 240 = .ok (.iconst 0, 1) := by decide +kernel
theorem dX12_perform_241 : decode cX12_perform 241 = .ok (.invokevirtual 801, 3) := by decide +kernel
theorem dX12_perform_244 : decode cX12_perform 244 = .ok (.goto 309, 3) := by decide +kernel
theorem dX12_perform_247 : decode cX12_perform 247 = .ok (.iload_n 2, 1) := by decide +kernel
theorem dX12_perform_248 : decode cX12_perform 248 = .ok (.bipush 29, 2) := by decide +kernel
theorem dX12_perform_250 : decode cX12_perform 250 = .ok (.if_icmp .ne 45, 3) := by decide +kernel
theorem dX12_perform_253 : decode cX12_perform 253 = .ok (.aload_n 0, 1) := by decide +kernel
theorem dX12_perform_254 : decode cX12_perform 254 = .ok (.getfield 280, 3) := by decide +kernel
theorem dX12_perform_257 : decode cX12_perform 257 = .ok (.aload_n 0, 1) := by decide +kernel
theorem dX12_perform_258 : decode cX12_perform 258 = .ok (.getfield 276, 3) := by decide +kernel
theorem dX12_perform_261 : decode cX12_perform 261 = .ok (.iconst 1, 1) := by decide +kernel
theorem dX12_perform_262 : decode cX12_perform 262 = .ok (.isub, 1) := by decide +kernel
theorem dX12_perform_263 : decode cX12_perform 263 = .ok (.iaload, 1) := by decide +kernel
theorem dX12_perform_264 : decode cX12_perform 264 = .ok (.bipush 15, 2) := by decide +kernel
theorem dX12_perform_266 : decode cX12_perform 266 = .ok (.if_icmp .eq 16, 3) := by decide +kernel
theorem dX12_perform_269 : decode cX12_perform 269 = .ok (.aload_n 0, 1) := by decide +kernel
theorem dX12_perform_270 : decode cX12_perform 270 = .ok (.dup, 1) := by decide +kernel
theorem dX12_perform_271 : decode cX12_perform 271 = .ok (.getfield 276, 3) := by decide +kernel
theorem dX12_perform_274 : decode cX12_perform 274 = .ok (.iconst 1, 1) := by decide +kernel
theorem dX12_perform_275 : decode cX12_perform 275 = .ok (.isub, 1) := by decide +kernel
theorem dX12_perform_276 : decode cX12_perform 276 = .ok (.putfield 276, 3) := by decide +kernel
theorem dX12_perform_279 : decode cX12_perform 279 = .ok (.goto (-26), 3) := by decide +kernel
theorem dX12_perform_282 : decode cX12_perform 282 = .ok (.aload_n 0, 1) := by decide +kernel
theorem dX12_perform_283 : decode cX12_perform 283 = .ok (.dup, 1) := by decide +kernel
theorem dX12_perform_284 : decode cX12_perform 284 = .ok (.getfield 276, 3) := by decide +kernel
theorem dX12_perform_287 : decode cX12_perform 287 = .ok (.iconst 1, 1) := by decide +kernel
theorem dX12_perform_288 : decode cX12_perform 288 = .ok (.isub, 1) := by decide +kernel
theorem dX12_perform_289 : decode cX12_perform 289 = .ok (.putfield 276, 3) := by decide +kernel
theorem dX12_perform_292 : decode cX12_perform 292 = .ok (.goto 261, 3) := by decide +kernel
theorem dX12_perform_295 : decode cX12_perform 295 = .ok (.iload_n 2, 1) := by decide +kernel
theorem dX12_perform_296 : decode cX12_perform 296 = .ok (.bipush 30, 2) := by decide +kernel
theorem dX12_perform_298 : decode cX12_perform 298 = .ok (.if_icmp .ne 32, 3) := by decide +kernel
theorem dX12_perform_301 : decode cX12_perform 301 = .ok (.aload_n 0, 1) := by decide +kernel
theorem dX12_perform_302 : decode cX12_perform 302 = .ok (.getfield 280, 3) := by decide +kernel
theorem dX12_perform_305 : decode cX12_perform 305 = .ok (.aload_n 0, 1) := by decide +kernel
theorem dX12_perform_306 : decode cX12_perform 306 = .ok (.getfield 276, 3) := by decide +kernel
theorem dX12_perform_309 : decode cX12_perform 309 = .ok (.iconst 1, 1) := by decide +kernel
theorem dX12_perform_310 : decode cX12_perform 310 = .ok (.isub, 1) := by decide +kernel
theorem dX12_perform_311 : decode cX12_perform 311 = .ok (.iaload, 1) := by decide +kernel
theorem dX12_perform_312 : decode cX12_perform 312 = .ok (.bipush 15, 2) := by decide +kernel
theorem dX12_perform_314 : decode cX12_perform 314 = .ok (.if_icmp .eq 239, 3) := by decide +kernel
theorem dX12_perform_317 : decode cX12_perform 317 = .ok (.aload_n 0, 1) := by decide +kernel
theorem dX12_perform_318 : decode cX12_perform 318 = .ok (.dup, 1) := by decide +kernel
theorem dX12_perform_319 : decode cX12_perform 319 = .ok (.getfield 276, 3) := by decide +kernel
theorem dX12_perform_322 : decode cX12_perform 322 = .ok (.iconst 1, 1) := by decide +kernel
theorem dX12_perform_323 : decode cX12_perform 323 = .ok (.isub, 1) := by decide +kernel
theorem dX12_perform_324 : decode cX12_perform 324 = .ok (.putfield 276, 3) := by decide +kernel
theorem dX12_perform_327 : decode cX12_perform 327 = .ok (.goto (-26), 3) := by decide +kernel
theorem dX12_perform_330 : decode cX12_perform 330 = .ok (.iload_n 2, 1) := by decide +kernel
theorem dX12_perform_331 : decode cX12_perform 331 = .ok (.bipush 31, 2) := by decide +kernel
theorem dX12_perform_333 : decode cX12_perform 333 = .ok (.if_icmp .ne 66, 3) := by decide +kernel
theorem dX12_perform_336 : decode cX12_perform 336 = .ok (.aload_n 0, 1) := by decide +kernel
theorem dX12_perform_337 : decode cX12_perform 337 = .ok (.getfield 280, 3) := by decide +kernel
theorem dX12_perform_340 : decode cX12_perform 340 = .ok (.aload_n 0, 1) := by decide +kernel
theorem dX12_perform_341 : decode cX12_perform 341 = .ok (.getfield 276, 3) := by decide +kernel
theorem dX12_perform_344 : decode cX12_perform 344 = .ok (.iconst 1, 1) := by decide +kernel
theorem dX12_perform_345 : decode cX12_perform 345 = .ok (.isub, 1) := by decide +kernel
theorem dX12_perform_346 : decode cX12_perform 346 = .ok (.iaload, 1) := by decide +kernel
theorem dX12_perform_347 : decode cX12_perform 347 = .ok (.bipush 17, 2) := by decide +kernel
theorem dX12_perform_349 : decode cX12_perform 349 = .ok (.if_icmp .ne 24, 3) := by decide +kernel
theorem dX12_perform_352 : decode cX12_perform 352 = .ok (.aload_n 0, 1) := by decide +kernel
theorem dX12_perform_353 : decode cX12_perform 353 = .ok (.getfield 87, 3) := by decide +kernel
theorem dX12_perform_356 : decode cX12_perform 356 = .ok (.aload_n 0, 1) := by decide +kernel
theorem dX12_perform_357 : decode cX12_perform 357 = .ok (.getfield 283, 3) := by decide +kernel
theorem dX12_perform_360 : decode cX12_perform 360 = .ok (.aload_n 0, 1) := by decide +kernel
theorem dX12_perform_361 : decode cX12_perform 361 = .ok (.getfield 276, 3) := by decide +kernel
theorem dX12_perform_364 : decode cX12_perform 364 = .ok (.iconst 1, 1) := by decide +kernel
theorem dX12_perform_365 : decode cX12_perform 365 = .ok (.isub, 1) := by decide +kernel
theorem dX12_perform_366 : decode cX12_perform 366 = .ok (.iaload, 1) := by decide +kernel
theorem dX12_perform_367 : decode cX12_perform 367 = .ok (.baload, 1) := by decide +kernel
theorem dX12_perform_368 : decode cX12_perform 368 = .ok (.bipush 28, 2) := by decide +kernel
theorem dX12_perform_370 : decode cX12_perform 370 = .ok (.if_icmp .eq 16, 3) := by decide +kernel
theorem dX12_perform_373 : decode cX12_perform 373 = .ok (.aload_n 0, 1) := by decide +kernel
theorem dX12_perform_374 : decode cX12_perform 374 = .ok (.dup, 1) := by decide +kernel
theorem dX12_perform_375 : decode cX12_perform 375 = .ok (.getfield 276, 3) := by decide +kernel
theorem dX12_perform_378 : decode cX12_perform 378 = .ok (.iconst 1, 1) := by decide +kernel
theorem dX12_perform_379 : decode cX12_perform 379 = .ok (.isub, 1) := by decide +kernel
theorem dX12_perform_380 : decode cX12_perform 380 = .ok (.putfield 276, 3) := by decide +kernel
theorem dX12_perform_383 : decode cX12_perform 383 = .ok (.goto (-47), 3) := by decide +kernel
theorem dX12_perform_386 : decode cX12_perform 386 = .ok (.aload_n 0, 1) := by decide +kernel
theorem dX12_perform_387 : decode cX12_perform 387 = .ok (.dup, 1) := by decide +kernel
theorem dX12_perform_388 : decode cX12_perform 388 = .ok (.getfield 276, 3) := by decide +kernel
theorem dX12_perform_391 : decode cX12_perform 391 = .ok (.iconst 1, 1) := by decide +kernel
theorem dX12_perform_392 : decode cX12_perform 392 = .ok (.isub, 1) := by decide +kernel
theorem dX12_perform_393 : decode cX12_perform 393 = .ok (.putfield 276, 3) := by decide +kernel
theorem dX12_perform_396 : decode cX12_perform 396 = .ok (.goto 157, 3) := by decide +kernel
theorem dX12_perform_399 : decode cX12_perform 399 = .ok (.iload_n 2, 1) := by decide +kernel
theorem dX12_perform_400 : decode cX12_perform 400 = .ok (.bipush 32, 2) := by decide +kernel
theorem dX12_perform_402 : decode cX12_perform 402 = .ok (.if_icmp .ne 32, 3) := by decide +kernel
theorem dX12_perform_405 : decode cX12_perform 405 = .ok (.aload_n 0, 1) := by decide +kernel
theorem dX12_perform_406 : decode cX12_perform 406 = .ok (.getfield 280, 3) := by decide +kernel
theorem dX12_perform_409 : decode cX12_perform 409 = .ok (.aload_n 0, 1) := by decide +kernel
theorem dX12_perform_410 : decode cX12_perform 410 = .ok (.getfield 276, 3) := by decide +kernel
theorem dX12_perform_413 : decode cX12_perform 413 = .ok (.iconst 1, 1) := by decide +kernel
theorem dX12_perform_414 : decode cX12_perform 414 = .ok (.isub, 1) := by decide +kernel
theorem dX12_perform_415 : decode cX12_perform 415 = .ok (.iaload, 1) := by decide +kernel
theorem dX12_perform_416 : decode cX12_perform 416 = .ok (.bipush 18, 2) := by decide +kernel
theorem dX12_perform_418 : decode cX12_perform 418 = .ok (.if_icmp .eq 135, 3) := by decide +kernel
theorem dX12_perform_421 : decode cX12_perform 421 = .ok (.aload_n 0, 1) := by decide +kernel
theorem dX12_perform_422 : decode cX12_perform 422 = .ok (.dup, 1) := by decide +kernel
theorem dX12_perform_423 : decode cX12_perform 423 = .ok (.getfield 276, 3) := by decide +kernel
theorem dX12_perform_426 : decode cX12_perform 426 = .ok (.iconst 1, 1) := by decide +kernel
theorem dX12_perform_427 : decode cX12_perform 427 = .ok (.isub, 1) := by decide +kernel
theorem dX12_perform_428 : decode cX12_perform 428 = .ok (.putfield 276, 3) := by decide +kernel
theorem dX12_perform_431 : decode cX12_perform 431 = .ok (.goto (-26), 3) := by decide +kernel
theorem dX12_perform_434 : decode cX12_perform 434 = .ok (.iload_n 2, 1) := by decide +kernel
theorem dX12_perform_435 : decode cX12_perform 435 = .ok (.bipush 33, 2) := by decide +kernel
theorem dX12_perform_437 : decode cX12_perform 437 = .ok (.if_icmp .ne 21, 3) := by decide +kernel
theorem dX12_perform_440 : decode cX12_perform 440 = .ok (.aload_n 0, 1) := by decide +kernel
theorem dX12_perform_441 : decode cX12_perform 441 = .ok (.bipush 22, 2) := by decide +kernel
theorem dX12_perform_443 : decode cX12_perform 443 = .ok (.iload_n 1, 1) := by decide +kernel
theorem dX12_perform_444 : decode cX12_perform 444 = .ok (.iconst 0, 1) := by decide +kernel
theorem dX12_perform_445 : decode cX12_perform 445 = .ok (.invokevirtual 801, 3) := by decide +kernel
theorem dX12_perform_448 : decode cX12_perform 448 = .ok (.aload_n 0, 1) := by decide +kernel
theorem dX12_perform_449 : decode cX12_perform 449 = .ok (.iconst 1, 1) := by decide +kernel
theorem dX12_perform_450 : decode cX12_perform 450 = .ok (.iload_n 3, 1) := by decide +kernel
theorem dX12_perform_451 : decode cX12_perform 451 = .ok (.iconst 0, 1) := by decide +kernel
theorem dX12_perform_452 : decode cX12_perform 452 = .ok (.invokevirtual 801, 3) := by decide +kernel
theorem dX12_perform_455 : decode cX12_perform 455 = .ok (.goto 98, 3) := by decide +kernel
theorem dX12_perform_458 : decode cX12_perform 458 = .ok (.iload_n 2, 1) := by decide +kernel
theorem dX12_perform_459 : decode cX12_perform 459 = .ok (.bipush 35, 2) := by decide +kernel
theorem dX12_perform_461 : decode cX12_perform 461 = .ok (.if_icmp .ne 77, 3) := by decide +kernel
theorem dX12_perform_464 : decode cX12_perform 464 = .ok (.aload_n 0, 1) := by decide +kernel
theorem dX12_perform_465 : decode cX12_perform 465 = .ok (.getfield 105, 3) := by decide +kernel
theorem dX12_perform_468 : decode cX12_perform 468 = .ok (.iload_n 1, 1) := by decide +kernel
theorem dX12_perform_469 : decode cX12_perform 469 = .ok (.iaload, 1) := by decide +kernel
theorem dX12_perform_470 : decode cX12_perform 470 = .ok (.istore 4, 2) := by decide +kernel
theorem dX12_perform_472 : decode cX12_perform 472 = .ok (.aload_n 0, 1) := by decide +kernel
theorem dX12_perform_473 : decode cX12_perform 473 = .ok (.getfield 280, 3) := by decide +kernel
theorem dX12_perform_476 : decode cX12_perform 476 = .ok (.aload_n 0, 1) := by decide +kernel
theorem dX12_perform_477 : decode cX12_perform 477 = .ok (.getfield 276, 3) := by decide +kernel
theorem dX12_perform_480 : decode cX12_perform 480 = .ok (.iconst 1, 1) := by decide +kernel
theorem dX12_perform_481 : decode cX12_perform 481 = .ok (.isub, 1) := by decide +kernel
theorem dX12_perform_482 : decode cX12_perform 482 = .ok (.iaload, 1) := by decide +kernel
theorem dX12_perform_483 : decode cX12_perform 483 = .ok (.bipush 17, 2) := by decide +kernel
theorem dX12_perform_485 : decode cX12_perform 485 = .ok (.if_icmp .ne 24, 3) := by decide +kernel
theorem dX12_perform_488 : decode cX12_perform 488 = .ok (.aload_n 0, 1) := by decide +kernel
theorem dX12_perform_489 : decode cX12_perform 489 = .ok (.getfield 283, 3) := by decide +kernel
theorem dX12_perform_492 : decode cX12_perform 492 = .ok (.aload_n 0, 1) := by decide +kernel
theorem dX12_perform_493 : decode cX12_perform 493 = .ok (.getfield 276, 3) := by decide +kernel
theorem dX12_perform_496 : decode cX12_perform 496 = .ok (.iconst 1, 1) := by decide +kernel
theorem dX12_perform_497 : decode cX12_perform 497 = .ok (.isub, 1) := by decide +kernel
theorem dX12_perform_498 : decode cX12_perform 498 = .ok (.iaload, 1) := by decide +kernel
theorem dX12_perform_499 : decode cX12_perform 499 = .ok (.aload_n 0, 1) := by decide +kernel
theorem dX12_perform_500 : decode cX12_perform 500 = .ok (.getfield 102, 3) := by decide +kernel
theorem dX12_perform_503 : decode cX12_perform 503 = .ok (.iload 4, 2) := by decide +kernel
theorem dX12_perform_505 : decode cX12_perform 505 = .ok (.iaload, 1) := by decide +kernel
theorem dX12_perform_506 : decode cX12_perform 506 = .ok (.if_icmp .eq 16, 3) := by decide +kernel
theorem dX12_perform_509 : decode cX12_perform 509 = .ok (.aload_n 0, 1) := by decide +kernel
theorem dX12_perform_510 : decode cX12_perform 510 = .ok (.dup, 1) := by decide +kernel
theorem dX12_perform_511 : decode cX12_perform 511 = .ok (.getfield 276, 3) := by decide +kernel
theorem dX12_perform_514 : decode cX12_perform 514 = .ok (.iconst 1, 1) := by decide +kernel
theorem dX12_perform_515 : decode cX12_perform 515 = .ok (.isub, 1) := by decide +kernel
theorem dX12_perform_516 : decode cX12_perform 516 = .ok (.putfield 276, 3) := by decide +kernel
theorem dX12_perform_519 : decode cX12_perform 519 = .ok (.goto (-47), 3) := by decide +kernel
theorem dX12_perform_522 : decode cX12_perform 522 = .ok (.aload_n 0, 1) := by decide +kernel
theorem dX12_perform_523 : decode cX12_perform 523 = .ok (.getfield 286, 3) := by decide +kernel
theorem dX12_perform_526 : decode cX12_perform 526 = .ok (.aload_n 0, 1) := by decide +kernel
theorem dX12_perform_527 : decode cX12_perform 527 = .ok (.getfield 276, 3) := by decide +kernel
theorem dX12_perform_530 : decode cX12_perform 530 = .ok (.iconst 1, 1) := by decide +kernel
theorem dX12_perform_531 : decode cX12_perform 531 = .ok (.isub, 1) := by decide +kernel
theorem dX12_perform_532 : decode cX12_perform 532 = .ok (.iload 4, 2) := by decide +kernel
theorem dX12_perform_534 : decode cX12_perform 534 = .ok (.iastore, 1) := by decide +kernel
theorem dX12_perform_535 : decode cX12_perform 535 = .ok (.goto 18, 3) := by decide +kernel
theorem dX12_perform_538 : decode cX12_perform 538 = .ok (.aload_n 0, 1) := by decide +kernel
theorem dX12_perform_539 : decode cX12_perform 539 = .ok (.iconst 1, 1) := by decide +kernel
theorem dX12_perform_540 : decode cX12_perform 540 = .ok (.putfield 324, 3) := by decide +kernel
theorem dX12_perform_543 : decode cX12_perform 543 = .ok (.aload_n 0, 1) := by decide +kernel
theorem dX12_perform_544 : decode cX12_perform 544 = .ok (.iconst 0, 1) := by decide +kernel
theorem dX12_perform_545 : decode cX12_perform 545 = .ok (.putfield 327, 3) := by decide +kernel
theorem dX12_perform_548 : decode cX12_perform 548 = .ok (.aload_n 0, 1) := by decide +kernel
theorem dX12_perform_549 : decode cX12_perform 549 = .ok (.iconst 0, 1) := by decide +kernel
theorem dX12_perform_550 : decode cX12_perform 550 = .ok (.putfield 330, 3) := by decide +kernel
theorem dX12_perform_553 : decode cX12_perform 553 = .ok (.return_, 1) := by decide +kernel
def wr_perform_472B (Q : zS → Prop) (k472 : zS → Int → Prop) (s0 : zS) (x4 : Int) : Prop :=
  (0 ≤ ((zv s0 87) - 1)) ∧ (((zv s0 87) - 1) < 620000) ∧ ((¬ (za s0 88 (Int.toNat ((zv s0 87) - 1))) = 17 → k472 (zpv s0 87 ((zv s0 87) - 1)) x4) ∧ ((za s0 88 (Int.toNat ((zv s0 87) - 1))) = 17 → (0 ≤ ((zv s0 87) - 1)) ∧ (((zv s0 87) - 1) < 620000) ∧ (0 ≤ x4) ∧ (x4 < 26000) ∧ (((za s0 89 (Int.toNat ((zv s0 87) - 1))) = (za s0 30 (Int.toNat x4)) → (0 ≤ ((zv s0 87) - 1)) ∧ (((zv s0 87) - 1) < 620000) ∧ Q (zpa s0 90 (Int.toNat ((zv s0 87) - 1)) x4)) ∧ (¬ (za s0 89 (Int.toNat ((zv s0 87) - 1))) = (za s0 30 (Int.toNat x4)) → k472 (zpv s0 87 ((zv s0 87) - 1)) x4))))
def wr_perform_472 (Q : zS → Prop)  : Nat → zS → Int → Prop
  | 0 => fun _ _ => False
  | m + 1 => fun s0 x4 => wr_perform_472B Q  (wr_perform_472 Q  m) s0 x4
def wr_perform_405B (Q : zS → Prop) (k405 : zS → Prop) (s0 : zS)  : Prop :=
  (0 ≤ ((zv s0 87) - 1)) ∧ (((zv s0 87) - 1) < 620000) ∧ (((za s0 88 (Int.toNat ((zv s0 87) - 1))) = 18 → Q s0) ∧ (¬ (za s0 88 (Int.toNat ((zv s0 87) - 1))) = 18 → k405 (zpv s0 87 ((zv s0 87) - 1)) ))
def wr_perform_405 (Q : zS → Prop)  : Nat → zS → Prop
  | 0 => fun _ => False
  | m + 1 => fun s0  => wr_perform_405B Q  (wr_perform_405 Q  m) s0 
def wr_perform_336B (Q : zS → Prop) (k336 : zS → Prop) (s0 : zS)  : Prop :=
  (0 ≤ ((zv s0 87) - 1)) ∧ (((zv s0 87) - 1) < 620000) ∧ ((¬ (za s0 88 (Int.toNat ((zv s0 87) - 1))) = 17 → k336 (zpv s0 87 ((zv s0 87) - 1)) ) ∧ ((za s0 88 (Int.toNat ((zv s0 87) - 1))) = 17 → (0 ≤ ((zv s0 87) - 1)) ∧ (((zv s0 87) - 1) < 620000) ∧ (0 ≤ (za s0 89 (Int.toNat ((zv s0 87) - 1)))) ∧ ((za s0 89 (Int.toNat ((zv s0 87) - 1))) < 26000) ∧ (((za s0 25 (Int.toNat (za s0 89 (Int.toNat ((zv s0 87) - 1))))) = 28 → Q (zpv s0 87 ((zv s0 87) - 1))) ∧ (¬ (za s0 25 (Int.toNat (za s0 89 (Int.toNat ((zv s0 87) - 1))))) = 28 → k336 (zpv s0 87 ((zv s0 87) - 1)) ))))
def wr_perform_336 (Q : zS → Prop)  : Nat → zS → Prop
  | 0 => fun _ => False
  | m + 1 => fun s0  => wr_perform_336B Q  (wr_perform_336 Q  m) s0 
def wr_perform_301B (Q : zS → Prop) (k301 : zS → Prop) (s0 : zS)  : Prop :=
  (0 ≤ ((zv s0 87) - 1)) ∧ (((zv s0 87) - 1) < 620000) ∧ (((za s0 88 (Int.toNat ((zv s0 87) - 1))) = 15 → Q s0) ∧ (¬ (za s0 88 (Int.toNat ((zv s0 87) - 1))) = 15 → k301 (zpv s0 87 ((zv s0 87) - 1)) ))
def wr_perform_301 (Q : zS → Prop)  : Nat → zS → Prop
  | 0 => fun _ => False
  | m + 1 => fun s0  => wr_perform_301B Q  (wr_perform_301 Q  m) s0 
def wr_perform_253B (Q : zS → Prop) (k253 : zS → Prop) (s0 : zS)  : Prop :=
  (0 ≤ ((zv s0 87) - 1)) ∧ (((zv s0 87) - 1) < 620000) ∧ (((za s0 88 (Int.toNat ((zv s0 87) - 1))) = 15 → Q (zpv s0 87 ((zv s0 87) - 1))) ∧ (¬ (za s0 88 (Int.toNat ((zv s0 87) - 1))) = 15 → k253 (zpv s0 87 ((zv s0 87) - 1)) ))
def wr_perform_253 (Q : zS → Prop)  : Nat → zS → Prop
  | 0 => fun _ => False
  | m + 1 => fun s0  => wr_perform_253B Q  (wr_perform_253 Q  m) s0 
def wr_perform (s0 : zS) (a0 : Int) (Q : zS → Prop) : Prop :=
  (0 ≤ a0) ∧ (a0 < 26000) ∧ (0 ≤ a0) ∧ (a0 < 26000) ∧ ((¬ (za s0 25 (Int.toNat a0)) = 37 → ((¬ (za s0 25 (Int.toNat a0)) = 36 → (((za s0 25 (Int.toNat a0)) = 38 → wr_todoTask s0 15 a0 0 (fun s16 => wr_todoTask s16 10 (za s0 27 (Int.toNat a0)) 0 (fun s22 => Q s22))) ∧ (¬ (za s0 25 (Int.toNat a0)) = 38 → (((za s0 25 (Int.toNat a0)) = 39 → wr_todoTask s0 15 a0 0 (fun s31 => wr_todoTask s31 10 (za s0 27 (Int.toNat a0)) 0 (fun s37 => Q s37))) ∧ (¬ (za s0 25 (Int.toNat a0)) = 39 → ((¬ (za s0 25 (Int.toNat a0)) = 40 → wr_burns s0  (fun r45 s46 => ((¬ r45 = 0 → ((¬ (za s0 25 (Int.toNat a0)) = 20 → ((¬ (za s0 25 (Int.toNat a0)) = 21 → (((za s0 25 (Int.toNat a0)) = 22 → wr_todoTask s46 14 a0 0 (fun s60 => wr_todoTask s60 1 (za s0 27 (Int.toNat a0)) 0 (fun s66 => Q s66))) ∧ (¬ (za s0 25 (Int.toNat a0)) = 22 → (((za s0 25 (Int.toNat a0)) = 23 → wr_todoTask s46 14 a0 0 (fun s75 => wr_todoTask s75 1 (za s0 27 (Int.toNat a0)) 0 (fun s81 => Q s81))) ∧ (¬ (za s0 25 (Int.toNat a0)) = 23 → ((¬ (za s0 25 (Int.toNat a0)) = 24 → (((za s0 25 (Int.toNat a0)) = 25 → wr_todoTask s46 15 a0 0 (fun s92 => Q s92)) ∧ (¬ (za s0 25 (Int.toNat a0)) = 25 → ((¬ (za s0 25 (Int.toNat a0)) = 26 → ((¬ (za s0 25 (Int.toNat a0)) = 27 → ((¬ (za s0 25 (Int.toNat a0)) = 28 → ((¬ (za s0 25 (Int.toNat a0)) = 29 → ((¬ (za s0 25 (Int.toNat a0)) = 30 → ((¬ (za s0 25 (Int.toNat a0)) = 31 → ((¬ (za s0 25 (Int.toNat a0)) = 32 → ((¬ (za s0 25 (Int.toNat a0)) = 33 → ((¬ (za s0 25 (Int.toNat a0)) = 35 → Q (zpv (zpv (zpv s46 102 1) 103 0) 104 0)) ∧ ((za s0 25 (Int.toNat a0)) = 35 → (0 ≤ a0) ∧ (a0 < 26000) ∧ ∃ n, wr_perform_472 Q  n s46 (za s46 31 (Int.toNat a0))))) ∧ ((za s0 25 (Int.toNat a0)) = 33 → wr_todoTask s46 22 a0 0 (fun s131 => wr_todoTask s131 1 (za s0 27 (Int.toNat a0)) 0 (fun s137 => Q s137))))) ∧ ((za s0 25 (Int.toNat a0)) = 32 → ∃ n, wr_perform_405 Q  n s46 ))) ∧ ((za s0 25 (Int.toNat a0)) = 31 → ∃ n, wr_perform_336 Q  n s46 ))) ∧ ((za s0 25 (Int.toNat a0)) = 30 → ∃ n, wr_perform_301 Q  n s46 ))) ∧ ((za s0 25 (Int.toNat a0)) = 29 → ∃ n, wr_perform_253 Q  n s46 ))) ∧ ((za s0 25 (Int.toNat a0)) = 28 → wr_todoTask s46 21 a0 0 (fun s156 => wr_todoTask s156 1 (za s0 27 (Int.toNat a0)) 0 (fun s162 => Q s162))))) ∧ ((za s0 25 (Int.toNat a0)) = 27 → wr_todoTask s46 20 a0 0 (fun s169 => (0 ≤ (za s0 27 (Int.toNat a0))) ∧ ((za s0 27 (Int.toNat a0)) < 26000) ∧ (0 ≤ (za s169 28 (Int.toNat (za s0 27 (Int.toNat a0))))) ∧ ((za s169 28 (Int.toNat (za s0 27 (Int.toNat a0)))) < 26000) ∧ wr_todoTask s169 1 (za s169 28 (Int.toNat (za s169 28 (Int.toNat (za s0 27 (Int.toNat a0)))))) 0 (fun s183 => (0 ≤ (za s0 27 (Int.toNat a0))) ∧ ((za s0 27 (Int.toNat a0)) < 26000) ∧ wr_todoTask s183 1 (za s183 28 (Int.toNat (za s0 27 (Int.toNat a0)))) 0 (fun s193 => Q s193)))))) ∧ ((za s0 25 (Int.toNat a0)) = 26 → wr_todoTask s46 15 a0 0 (fun s200 => Q s200)))))) ∧ ((za s0 25 (Int.toNat a0)) = 24 → wr_todoTask s46 14 a0 0 (fun s207 => wr_todoTask s207 1 (za s0 27 (Int.toNat a0)) 0 (fun s213 => Q s213))))))))) ∧ ((za s0 25 (Int.toNat a0)) = 21 → wr_todoTask s46 13 a0 0 (fun s220 => wr_todoTask s220 1 (za s0 27 (Int.toNat a0)) 0 (fun s226 => Q s226))))) ∧ ((za s0 25 (Int.toNat a0)) = 20 → wr_assign s46 a0 (za s0 27 (Int.toNat a0)) (fun s233 => Q s233)))) ∧ (r45 = 0 → Q s46)))) ∧ ((za s0 25 (Int.toNat a0)) = 40 → wr_todoTask s0 15 a0 0 (fun s241 => wr_todoTask s241 10 (za s0 27 (Int.toNat a0)) 0 (fun s247 => Q s247))))))))) ∧ ((za s0 25 (Int.toNat a0)) = 36 → wr_todoTask s0 17 a0 (za s0 27 (Int.toNat a0)) (fun s254 => Q s254)))) ∧ ((za s0 25 (Int.toNat a0)) = 37 → Q s0))
set_option maxHeartbeats 4000000 in
set_option maxRecDepth 100000 in
theorem rb_perform_472 {X : gX} {d : gD} {b t : Nat} {T : Nat → Nat} {F0 : gM} (hC : gC RX12 cX12_perform 5 none "perform" (gR 2 0 0) d b X) {Q : zS → Prop} {k472 : zS → Int → Prop} (hk472 : ∀ (F : gM) (s0 : zS) (x4 : Int), zR x4 → zZ d t T F0 F s0 → k472 s0 x4 → gG X d b (zQv X d b t T F0 Q) F 0 0 472 [some (.ref t), none, none, none, some (.int (zI x4))] []) {F : gM} {s0 : zS} {x4 : Int} (Rx4 : zR x4) (hZ : zZ d t T F0 F s0) (hw : wr_perform_472B Q k472 s0 x4) : gG X d b (zQv X d b t T F0 Q) F 0 0 472 [some (.ref t), none, none, none, some (.int (zI x4))] [] := by
  unfold wr_perform_472B at hw
  refine g_aload_n hC dX12_perform_472 rfl ?_
  refine zr_geta hC hZ fl_X12_280 zb_88 (by decide) dX12_perform_473 ?_
  refine g_aload_n hC dX12_perform_476 rfl ?_
  refine zr_get (e := (zv s0 87)) hC hZ fl_X12_276 zb_87 (by decide) rfl dX12_perform_477 ?_
  refine g_iconst (v := zI 1) hC dX12_perform_480 rfl ?_
  refine zr_isub hC dX12_perform_481 ?_
  obtain ⟨o1, h2⟩ := hw
  obtain ⟨o3, h4⟩ := h2
  refine zr_iald (v := (za s0 88 (Int.toNat ((zv s0 87) - 1)))) hC hZ zk_88 zb_88 zn_88 (by decide) o1 o3 rfl dX12_perform_482 ?_
  refine g_bipush (v := zI 17) hC dX12_perform_483 rfl ?_
  refine zr_icmp_ne (tgt := 509) hC (hZ.ra 88 _) (by decide) dX12_perform_485 (by decide) (fun c5 => ?_) (fun c5 => ?_)
  · have h6 := h4.1 c5
    refine g_aload_n hC dX12_perform_509 rfl ?_
    refine g_dup hC dX12_perform_510 rfl ?_
    refine zr_get (e := (zv s0 87)) hC hZ fl_X12_276 zb_87 (by decide) rfl dX12_perform_511 ?_
    refine g_iconst (v := zI 1) hC dX12_perform_514 rfl ?_
    refine zr_isub hC dX12_perform_515 ?_
    refine zr_put hC hZ fl_X12_276 zb_87 (by decide) ⟨by omega, by omega⟩ dX12_perform_516 (fun F7 hZ8 => ?_)
    refine g_goto (tgt := 472) hC dX12_perform_519 (by decide) ?_
    exact hk472 _ _ _ Rx4 hZ8 h6
  · have h9 := h4.2 c5
    refine g_aload_n hC dX12_perform_488 rfl ?_
    refine zr_geta hC hZ fl_X12_283 zb_89 (by decide) dX12_perform_489 ?_
    refine g_aload_n hC dX12_perform_492 rfl ?_
    refine zr_get (e := (zv s0 87)) hC hZ fl_X12_276 zb_87 (by decide) rfl dX12_perform_493 ?_
    refine g_iconst (v := zI 1) hC dX12_perform_496 rfl ?_
    refine zr_isub hC dX12_perform_497 ?_
    obtain ⟨o10, h11⟩ := h9
    obtain ⟨o12, h13⟩ := h11
    refine zr_iald (v := (za s0 89 (Int.toNat ((zv s0 87) - 1)))) hC hZ zk_89 zb_89 zn_89 (by decide) o10 o12 rfl dX12_perform_498 ?_
    refine g_aload_n hC dX12_perform_499 rfl ?_
    refine zr_geta hC hZ fl_X12_102 zb_30 (by decide) dX12_perform_500 ?_
    refine g_iload hC dX12_perform_503 rfl ?_
    obtain ⟨o14, h15⟩ := h13
    obtain ⟨o16, h17⟩ := h15
    refine zr_iald (v := (za s0 30 (Int.toNat x4))) hC hZ zk_30 zb_30 zn_30 (by decide) o14 o16 rfl dX12_perform_505 ?_
    refine zr_icmp_eq (tgt := 522) hC (hZ.ra 89 _) (hZ.ra 30 _) dX12_perform_506 (by decide) (fun c18 => ?_) (fun c18 => ?_)
    · have h19 := h17.1 c18
      refine g_aload_n hC dX12_perform_522 rfl ?_
      refine zr_geta hC hZ fl_X12_286 zb_90 (by decide) dX12_perform_523 ?_
      refine g_aload_n hC dX12_perform_526 rfl ?_
      refine zr_get (e := (zv s0 87)) hC hZ fl_X12_276 zb_87 (by decide) rfl dX12_perform_527 ?_
      refine g_iconst (v := zI 1) hC dX12_perform_530 rfl ?_
      refine zr_isub hC dX12_perform_531 ?_
      refine g_iload hC dX12_perform_532 rfl ?_
      obtain ⟨o20, h21⟩ := h19
      obtain ⟨o22, h23⟩ := h21
      refine zr_iast hC hZ zk_90 zb_90 zn_90 (by decide) o20 o22 Rx4 dX12_perform_534 (fun F24 hZ25 => ?_)
      refine g_goto (tgt := 553) hC dX12_perform_535 (by decide) ?_
      exact zr_vret hC hZ25 h23 dX12_perform_553
    · have h26 := h17.2 c18
      refine g_aload_n hC dX12_perform_509 rfl ?_
      refine g_dup hC dX12_perform_510 rfl ?_
      refine zr_get (e := (zv s0 87)) hC hZ fl_X12_276 zb_87 (by decide) rfl dX12_perform_511 ?_
      refine g_iconst (v := zI 1) hC dX12_perform_514 rfl ?_
      refine zr_isub hC dX12_perform_515 ?_
      refine zr_put hC hZ fl_X12_276 zb_87 (by decide) ⟨by omega, by omega⟩ dX12_perform_516 (fun F27 hZ28 => ?_)
      refine g_goto (tgt := 472) hC dX12_perform_519 (by decide) ?_
      exact hk472 _ _ _ Rx4 hZ28 h26
theorem rl_perform_472 {X : gX} {d : gD} {b t : Nat} {T : Nat → Nat} {F0 : gM} (hC : gC RX12 cX12_perform 5 none "perform" (gR 2 0 0) d b X) {Q : zS → Prop}   : ∀ (m : Nat) (F : gM) (s0 : zS) (x4 : Int), zR x4 → zZ d t T F0 F s0 → wr_perform_472 Q  m s0 x4 → gG X d b (zQv X d b t T F0 Q) F 0 0 472 [some (.ref t), none, none, none, some (.int (zI x4))] [] := by
  intro m
  induction m with
  | zero => intro F s0 x4 Rx4 hZ hw; exact False.elim hw
  | succ m ih => intro F s0 x4 Rx4 hZ hw; exact rb_perform_472 hC  ih Rx4 hZ hw
set_option maxHeartbeats 4000000 in
set_option maxRecDepth 100000 in
theorem rb_perform_405 {X : gX} {d : gD} {b t : Nat} {T : Nat → Nat} {F0 : gM} (hC : gC RX12 cX12_perform 5 none "perform" (gR 2 0 0) d b X) {Q : zS → Prop} {k405 : zS → Prop} (hk405 : ∀ (F : gM) (s0 : zS), zZ d t T F0 F s0 → k405 s0  → gG X d b (zQv X d b t T F0 Q) F 0 0 405 [some (.ref t), none, none, none, none] []) {F : gM} {s0 : zS}   (hZ : zZ d t T F0 F s0) (hw : wr_perform_405B Q k405 s0 ) : gG X d b (zQv X d b t T F0 Q) F 0 0 405 [some (.ref t), none, none, none, none] [] := by
  unfold wr_perform_405B at hw
  refine g_aload_n hC dX12_perform_405 rfl ?_
  refine zr_geta hC hZ fl_X12_280 zb_88 (by decide) dX12_perform_406 ?_
  refine g_aload_n hC dX12_perform_409 rfl ?_
  refine zr_get (e := (zv s0 87)) hC hZ fl_X12_276 zb_87 (by decide) rfl dX12_perform_410 ?_
  refine g_iconst (v := zI 1) hC dX12_perform_413 rfl ?_
  refine zr_isub hC dX12_perform_414 ?_
  obtain ⟨o1, h2⟩ := hw
  obtain ⟨o3, h4⟩ := h2
  refine zr_iald (v := (za s0 88 (Int.toNat ((zv s0 87) - 1)))) hC hZ zk_88 zb_88 zn_88 (by decide) o1 o3 rfl dX12_perform_415 ?_
  refine g_bipush (v := zI 18) hC dX12_perform_416 rfl ?_
  refine zr_icmp_eq (tgt := 553) hC (hZ.ra 88 _) (by decide) dX12_perform_418 (by decide) (fun c5 => ?_) (fun c5 => ?_)
  · have h6 := h4.1 c5
    exact zr_vret hC hZ h6 dX12_perform_553
  · have h7 := h4.2 c5
    refine g_aload_n hC dX12_perform_421 rfl ?_
    refine g_dup hC dX12_perform_422 rfl ?_
    refine zr_get (e := (zv s0 87)) hC hZ fl_X12_276 zb_87 (by decide) rfl dX12_perform_423 ?_
    refine g_iconst (v := zI 1) hC dX12_perform_426 rfl ?_
    refine zr_isub hC dX12_perform_427 ?_
    refine zr_put hC hZ fl_X12_276 zb_87 (by decide) ⟨by omega, by omega⟩ dX12_perform_428 (fun F8 hZ9 => ?_)
    refine g_goto (tgt := 405) hC dX12_perform_431 (by decide) ?_
    exact hk405 _ _   hZ9 h7
theorem rl_perform_405 {X : gX} {d : gD} {b t : Nat} {T : Nat → Nat} {F0 : gM} (hC : gC RX12 cX12_perform 5 none "perform" (gR 2 0 0) d b X) {Q : zS → Prop}   : ∀ (m : Nat) (F : gM) (s0 : zS), zZ d t T F0 F s0 → wr_perform_405 Q  m s0  → gG X d b (zQv X d b t T F0 Q) F 0 0 405 [some (.ref t), none, none, none, none] [] := by
  intro m
  induction m with
  | zero => intro F s0   hZ hw; exact False.elim hw
  | succ m ih => intro F s0   hZ hw; exact rb_perform_405 hC  ih  hZ hw
set_option maxHeartbeats 4000000 in
set_option maxRecDepth 100000 in
theorem rb_perform_336 {X : gX} {d : gD} {b t : Nat} {T : Nat → Nat} {F0 : gM} (hC : gC RX12 cX12_perform 5 none "perform" (gR 2 0 0) d b X) {Q : zS → Prop} {k336 : zS → Prop} (hk336 : ∀ (F : gM) (s0 : zS), zZ d t T F0 F s0 → k336 s0  → gG X d b (zQv X d b t T F0 Q) F 0 0 336 [some (.ref t), none, none, none, none] []) {F : gM} {s0 : zS}   (hZ : zZ d t T F0 F s0) (hw : wr_perform_336B Q k336 s0 ) : gG X d b (zQv X d b t T F0 Q) F 0 0 336 [some (.ref t), none, none, none, none] [] := by
  unfold wr_perform_336B at hw
  refine g_aload_n hC dX12_perform_336 rfl ?_
  refine zr_geta hC hZ fl_X12_280 zb_88 (by decide) dX12_perform_337 ?_
  refine g_aload_n hC dX12_perform_340 rfl ?_
  refine zr_get (e := (zv s0 87)) hC hZ fl_X12_276 zb_87 (by decide) rfl dX12_perform_341 ?_
  refine g_iconst (v := zI 1) hC dX12_perform_344 rfl ?_
  refine zr_isub hC dX12_perform_345 ?_
  obtain ⟨o1, h2⟩ := hw
  obtain ⟨o3, h4⟩ := h2
  refine zr_iald (v := (za s0 88 (Int.toNat ((zv s0 87) - 1)))) hC hZ zk_88 zb_88 zn_88 (by decide) o1 o3 rfl dX12_perform_346 ?_
  refine g_bipush (v := zI 17) hC dX12_perform_347 rfl ?_
  refine zr_icmp_ne (tgt := 373) hC (hZ.ra 88 _) (by decide) dX12_perform_349 (by decide) (fun c5 => ?_) (fun c5 => ?_)
  · have h6 := h4.1 c5
    refine g_aload_n hC dX12_perform_373 rfl ?_
    refine g_dup hC dX12_perform_374 rfl ?_
    refine zr_get (e := (zv s0 87)) hC hZ fl_X12_276 zb_87 (by decide) rfl dX12_perform_375 ?_
    refine g_iconst (v := zI 1) hC dX12_perform_378 rfl ?_
    refine zr_isub hC dX12_perform_379 ?_
    refine zr_put hC hZ fl_X12_276 zb_87 (by decide) ⟨by omega, by omega⟩ dX12_perform_380 (fun F7 hZ8 => ?_)
    refine g_goto (tgt := 336) hC dX12_perform_383 (by decide) ?_
    exact hk336 _ _   hZ8 h6
  · have h9 := h4.2 c5
    refine g_aload_n hC dX12_perform_352 rfl ?_
    refine zr_geta hC hZ fl_X12_87 zb_25 (by decide) dX12_perform_353 ?_
    refine g_aload_n hC dX12_perform_356 rfl ?_
    refine zr_geta hC hZ fl_X12_283 zb_89 (by decide) dX12_perform_357 ?_
    refine g_aload_n hC dX12_perform_360 rfl ?_
    refine zr_get (e := (zv s0 87)) hC hZ fl_X12_276 zb_87 (by decide) rfl dX12_perform_361 ?_
    refine g_iconst (v := zI 1) hC dX12_perform_364 rfl ?_
    refine zr_isub hC dX12_perform_365 ?_
    obtain ⟨o10, h11⟩ := h9
    obtain ⟨o12, h13⟩ := h11
    refine zr_iald (v := (za s0 89 (Int.toNat ((zv s0 87) - 1)))) hC hZ zk_89 zb_89 zn_89 (by decide) o10 o12 rfl dX12_perform_366 ?_
    obtain ⟨o14, h15⟩ := h13
    obtain ⟨o16, h17⟩ := h15
    refine zr_bald (v := (za s0 25 (Int.toNat (za s0 89 (Int.toNat ((zv s0 87) - 1)))))) hC hZ zk_25 zb_25 zn_25 (by decide) o14 o16 rfl dX12_perform_367 ?_
    refine g_bipush (v := zI 28) hC dX12_perform_368 rfl ?_
    refine zr_icmp_eq (tgt := 386) hC (hZ.ra 25 _) (by decide) dX12_perform_370 (by decide) (fun c18 => ?_) (fun c18 => ?_)
    · have h19 := h17.1 c18
      refine g_aload_n hC dX12_perform_386 rfl ?_
      refine g_dup hC dX12_perform_387 rfl ?_
      refine zr_get (e := (zv s0 87)) hC hZ fl_X12_276 zb_87 (by decide) rfl dX12_perform_388 ?_
      refine g_iconst (v := zI 1) hC dX12_perform_391 rfl ?_
      refine zr_isub hC dX12_perform_392 ?_
      refine zr_put hC hZ fl_X12_276 zb_87 (by decide) ⟨by omega, by omega⟩ dX12_perform_393 (fun F20 hZ21 => ?_)
      refine g_goto (tgt := 553) hC dX12_perform_396 (by decide) ?_
      exact zr_vret hC hZ21 h19 dX12_perform_553
    · have h22 := h17.2 c18
      refine g_aload_n hC dX12_perform_373 rfl ?_
      refine g_dup hC dX12_perform_374 rfl ?_
      refine zr_get (e := (zv s0 87)) hC hZ fl_X12_276 zb_87 (by decide) rfl dX12_perform_375 ?_
      refine g_iconst (v := zI 1) hC dX12_perform_378 rfl ?_
      refine zr_isub hC dX12_perform_379 ?_
      refine zr_put hC hZ fl_X12_276 zb_87 (by decide) ⟨by omega, by omega⟩ dX12_perform_380 (fun F23 hZ24 => ?_)
      refine g_goto (tgt := 336) hC dX12_perform_383 (by decide) ?_
      exact hk336 _ _   hZ24 h22
theorem rl_perform_336 {X : gX} {d : gD} {b t : Nat} {T : Nat → Nat} {F0 : gM} (hC : gC RX12 cX12_perform 5 none "perform" (gR 2 0 0) d b X) {Q : zS → Prop}   : ∀ (m : Nat) (F : gM) (s0 : zS), zZ d t T F0 F s0 → wr_perform_336 Q  m s0  → gG X d b (zQv X d b t T F0 Q) F 0 0 336 [some (.ref t), none, none, none, none] [] := by
  intro m
  induction m with
  | zero => intro F s0   hZ hw; exact False.elim hw
  | succ m ih => intro F s0   hZ hw; exact rb_perform_336 hC  ih  hZ hw
set_option maxHeartbeats 4000000 in
set_option maxRecDepth 100000 in
theorem rb_perform_301 {X : gX} {d : gD} {b t : Nat} {T : Nat → Nat} {F0 : gM} (hC : gC RX12 cX12_perform 5 none "perform" (gR 2 0 0) d b X) {Q : zS → Prop} {k301 : zS → Prop} (hk301 : ∀ (F : gM) (s0 : zS), zZ d t T F0 F s0 → k301 s0  → gG X d b (zQv X d b t T F0 Q) F 0 0 301 [some (.ref t), none, none, none, none] []) {F : gM} {s0 : zS}   (hZ : zZ d t T F0 F s0) (hw : wr_perform_301B Q k301 s0 ) : gG X d b (zQv X d b t T F0 Q) F 0 0 301 [some (.ref t), none, none, none, none] [] := by
  unfold wr_perform_301B at hw
  refine g_aload_n hC dX12_perform_301 rfl ?_
  refine zr_geta hC hZ fl_X12_280 zb_88 (by decide) dX12_perform_302 ?_
  refine g_aload_n hC dX12_perform_305 rfl ?_
  refine zr_get (e := (zv s0 87)) hC hZ fl_X12_276 zb_87 (by decide) rfl dX12_perform_306 ?_
  refine g_iconst (v := zI 1) hC dX12_perform_309 rfl ?_
  refine zr_isub hC dX12_perform_310 ?_
  obtain ⟨o1, h2⟩ := hw
  obtain ⟨o3, h4⟩ := h2
  refine zr_iald (v := (za s0 88 (Int.toNat ((zv s0 87) - 1)))) hC hZ zk_88 zb_88 zn_88 (by decide) o1 o3 rfl dX12_perform_311 ?_
  refine g_bipush (v := zI 15) hC dX12_perform_312 rfl ?_
  refine zr_icmp_eq (tgt := 553) hC (hZ.ra 88 _) (by decide) dX12_perform_314 (by decide) (fun c5 => ?_) (fun c5 => ?_)
  · have h6 := h4.1 c5
    exact zr_vret hC hZ h6 dX12_perform_553
  · have h7 := h4.2 c5
    refine g_aload_n hC dX12_perform_317 rfl ?_
    refine g_dup hC dX12_perform_318 rfl ?_
    refine zr_get (e := (zv s0 87)) hC hZ fl_X12_276 zb_87 (by decide) rfl dX12_perform_319 ?_
    refine g_iconst (v := zI 1) hC dX12_perform_322 rfl ?_
    refine zr_isub hC dX12_perform_323 ?_
    refine zr_put hC hZ fl_X12_276 zb_87 (by decide) ⟨by omega, by omega⟩ dX12_perform_324 (fun F8 hZ9 => ?_)
    refine g_goto (tgt := 301) hC dX12_perform_327 (by decide) ?_
    exact hk301 _ _   hZ9 h7
theorem rl_perform_301 {X : gX} {d : gD} {b t : Nat} {T : Nat → Nat} {F0 : gM} (hC : gC RX12 cX12_perform 5 none "perform" (gR 2 0 0) d b X) {Q : zS → Prop}   : ∀ (m : Nat) (F : gM) (s0 : zS), zZ d t T F0 F s0 → wr_perform_301 Q  m s0  → gG X d b (zQv X d b t T F0 Q) F 0 0 301 [some (.ref t), none, none, none, none] [] := by
  intro m
  induction m with
  | zero => intro F s0   hZ hw; exact False.elim hw
  | succ m ih => intro F s0   hZ hw; exact rb_perform_301 hC  ih  hZ hw
set_option maxHeartbeats 4000000 in
set_option maxRecDepth 100000 in
theorem rb_perform_253 {X : gX} {d : gD} {b t : Nat} {T : Nat → Nat} {F0 : gM} (hC : gC RX12 cX12_perform 5 none "perform" (gR 2 0 0) d b X) {Q : zS → Prop} {k253 : zS → Prop} (hk253 : ∀ (F : gM) (s0 : zS), zZ d t T F0 F s0 → k253 s0  → gG X d b (zQv X d b t T F0 Q) F 0 0 253 [some (.ref t), none, none, none, none] []) {F : gM} {s0 : zS}   (hZ : zZ d t T F0 F s0) (hw : wr_perform_253B Q k253 s0 ) : gG X d b (zQv X d b t T F0 Q) F 0 0 253 [some (.ref t), none, none, none, none] [] := by
  unfold wr_perform_253B at hw
  refine g_aload_n hC dX12_perform_253 rfl ?_
  refine zr_geta hC hZ fl_X12_280 zb_88 (by decide) dX12_perform_254 ?_
  refine g_aload_n hC dX12_perform_257 rfl ?_
  refine zr_get (e := (zv s0 87)) hC hZ fl_X12_276 zb_87 (by decide) rfl dX12_perform_258 ?_
  refine g_iconst (v := zI 1) hC dX12_perform_261 rfl ?_
  refine zr_isub hC dX12_perform_262 ?_
  obtain ⟨o1, h2⟩ := hw
  obtain ⟨o3, h4⟩ := h2
  refine zr_iald (v := (za s0 88 (Int.toNat ((zv s0 87) - 1)))) hC hZ zk_88 zb_88 zn_88 (by decide) o1 o3 rfl dX12_perform_263 ?_
  refine g_bipush (v := zI 15) hC dX12_perform_264 rfl ?_
  refine zr_icmp_eq (tgt := 282) hC (hZ.ra 88 _) (by decide) dX12_perform_266 (by decide) (fun c5 => ?_) (fun c5 => ?_)
  · have h6 := h4.1 c5
    refine g_aload_n hC dX12_perform_282 rfl ?_
    refine g_dup hC dX12_perform_283 rfl ?_
    refine zr_get (e := (zv s0 87)) hC hZ fl_X12_276 zb_87 (by decide) rfl dX12_perform_284 ?_
    refine g_iconst (v := zI 1) hC dX12_perform_287 rfl ?_
    refine zr_isub hC dX12_perform_288 ?_
    refine zr_put hC hZ fl_X12_276 zb_87 (by decide) ⟨by omega, by omega⟩ dX12_perform_289 (fun F7 hZ8 => ?_)
    refine g_goto (tgt := 553) hC dX12_perform_292 (by decide) ?_
    exact zr_vret hC hZ8 h6 dX12_perform_553
  · have h9 := h4.2 c5
    refine g_aload_n hC dX12_perform_269 rfl ?_
    refine g_dup hC dX12_perform_270 rfl ?_
    refine zr_get (e := (zv s0 87)) hC hZ fl_X12_276 zb_87 (by decide) rfl dX12_perform_271 ?_
    refine g_iconst (v := zI 1) hC dX12_perform_274 rfl ?_
    refine zr_isub hC dX12_perform_275 ?_
    refine zr_put hC hZ fl_X12_276 zb_87 (by decide) ⟨by omega, by omega⟩ dX12_perform_276 (fun F10 hZ11 => ?_)
    refine g_goto (tgt := 253) hC dX12_perform_279 (by decide) ?_
    exact hk253 _ _   hZ11 h9
theorem rl_perform_253 {X : gX} {d : gD} {b t : Nat} {T : Nat → Nat} {F0 : gM} (hC : gC RX12 cX12_perform 5 none "perform" (gR 2 0 0) d b X) {Q : zS → Prop}   : ∀ (m : Nat) (F : gM) (s0 : zS), zZ d t T F0 F s0 → wr_perform_253 Q  m s0  → gG X d b (zQv X d b t T F0 Q) F 0 0 253 [some (.ref t), none, none, none, none] [] := by
  intro m
  induction m with
  | zero => intro F s0   hZ hw; exact False.elim hw
  | succ m ih => intro F s0   hZ hw; exact rb_perform_253 hC  ih  hZ hw
set_option maxHeartbeats 4000000 in
set_option maxRecDepth 100000 in
theorem rm_perform (l : Launch) (d : gD) (b : Nat) {t : Nat} {T : Nat → Nat} {F : gM} {s0 : zS} {a0 : Int} (Ra0 : zR a0) {Q : zS → Prop} (hZ : zZ d t T F F s0) (hw : wr_perform s0 a0 Q) : gMv l d b yX12_perform cX12_perform 5 2 0 0 F [.ref t, .int (zI a0)] (zPv d t T F Q) := by
  refine gM_of2 rfl (nL := 5) (Nat.le_of_ble_eq_true rfl) ?_
  intro X hX hC; subst hX
  show gG X d b (zQv X d b t T F Q) F 0 0 0 [some (.ref t), some (.int (zI a0)), none, none, none] []
  unfold wr_perform at hw
  refine g_aload_n hC dX12_perform_0 rfl ?_
  refine zr_geta hC hZ fl_X12_87 zb_25 (by decide) dX12_perform_1 ?_
  refine g_iload_n hC dX12_perform_4 rfl ?_
  obtain ⟨o1, h2⟩ := hw
  obtain ⟨o3, h4⟩ := h2
  refine zr_bald (v := (za s0 25 (Int.toNat a0))) hC hZ zk_25 zb_25 zn_25 (by decide) o1 o3 rfl dX12_perform_5 ?_
  refine g_istore_n (lv' := [some (.ref t), some (.int (zI a0)), some (.int (zI (za s0 25 (Int.toNat a0)))), none, none]) hC dX12_perform_6 (Nat.le_of_ble_eq_true rfl) rfl rfl ?_
  refine g_aload_n hC dX12_perform_7 rfl ?_
  refine zr_geta hC hZ fl_X12_93 zb_27 (by decide) dX12_perform_8 ?_
  refine g_iload_n hC dX12_perform_11 rfl ?_
  obtain ⟨o5, h6⟩ := h4
  obtain ⟨o7, h8⟩ := h6
  refine zr_iald (v := (za s0 27 (Int.toNat a0))) hC hZ zk_27 zb_27 zn_27 (by decide) o5 o7 rfl dX12_perform_12 ?_
  refine g_istore_n (lv' := [some (.ref t), some (.int (zI a0)), some (.int (zI (za s0 25 (Int.toNat a0)))), some (.int (zI (za s0 27 (Int.toNat a0)))), none]) hC dX12_perform_13 (Nat.le_of_ble_eq_true rfl) rfl rfl ?_
  refine g_iload_n hC dX12_perform_14 rfl ?_
  refine g_bipush (v := zI 37) hC dX12_perform_15 rfl ?_
  refine zr_icmp_ne (tgt := 21) hC (hZ.ra 25 _) (by decide) dX12_perform_17 (by decide) (fun c9 => ?_) (fun c9 => ?_)
  · have h10 := h8.1 c9
    refine g_iload_n hC dX12_perform_21 rfl ?_
    refine g_bipush (v := zI 36) hC dX12_perform_22 rfl ?_
    refine zr_icmp_ne (tgt := 36) hC (hZ.ra 25 _) (by decide) dX12_perform_24 (by decide) (fun c11 => ?_) (fun c11 => ?_)
    · have h12 := h10.1 c11
      refine g_iload_n hC dX12_perform_36 rfl ?_
      refine g_bipush (v := zI 38) hC dX12_perform_37 rfl ?_
      refine zr_icmp_eq (tgt := 54) hC (hZ.ra 25 _) (by decide) dX12_perform_39 (by decide) (fun c13 => ?_) (fun c13 => ?_)
      · have h14 := h12.1 c13
        refine g_aload_n hC dX12_perform_54 rfl ?_
        refine g_bipush (v := zI 15) hC dX12_perform_55 rfl ?_
        refine g_iload_n hC dX12_perform_57 rfl ?_
        refine g_iconst (v := zI 0) hC dX12_perform_58 rfl ?_
        refine zr_callVv (As := [.int (zI 15), .int (zI a0), .int (zI 0)]) hC hZ rfl (rm_todoTask X.la d b (by decide) Ra0 (by decide) hZ.rf h14) cl_X12_801 rfl rfl (Nat.le_of_ble_eq_true rfl) ⟨Nat.le_of_ble_eq_true rfl, Nat.le_of_ble_eq_true rfl⟩ dX12_perform_59 (fun s16 F17 hZ19 h20 => ?_)
        refine g_aload_n hC dX12_perform_62 rfl ?_
        refine g_bipush (v := zI 10) hC dX12_perform_63 rfl ?_
        refine g_iload_n hC dX12_perform_65 rfl ?_
        refine g_iconst (v := zI 0) hC dX12_perform_66 rfl ?_
        refine zr_callVv (As := [.int (zI 10), .int (zI (za s0 27 (Int.toNat a0))), .int (zI 0)]) hC hZ19 rfl (rm_todoTask X.la d b (by decide) (hZ.ra 27 _) (by decide) hZ19.rf h20) cl_X12_801 rfl rfl (Nat.le_of_ble_eq_true rfl) ⟨Nat.le_of_ble_eq_true rfl, Nat.le_of_ble_eq_true rfl⟩ dX12_perform_67 (fun s22 F23 hZ25 h26 => ?_)
        exact zr_vret hC hZ25 h26 dX12_perform_70
      · have h27 := h12.2 c13
        refine g_iload_n hC dX12_perform_42 rfl ?_
        refine g_bipush (v := zI 39) hC dX12_perform_43 rfl ?_
        refine zr_icmp_eq (tgt := 54) hC (hZ.ra 25 _) (by decide) dX12_perform_45 (by decide) (fun c28 => ?_) (fun c28 => ?_)
        · have h29 := h27.1 c28
          refine g_aload_n hC dX12_perform_54 rfl ?_
          refine g_bipush (v := zI 15) hC dX12_perform_55 rfl ?_
          refine g_iload_n hC dX12_perform_57 rfl ?_
          refine g_iconst (v := zI 0) hC dX12_perform_58 rfl ?_
          refine zr_callVv (As := [.int (zI 15), .int (zI a0), .int (zI 0)]) hC hZ rfl (rm_todoTask X.la d b (by decide) Ra0 (by decide) hZ.rf h29) cl_X12_801 rfl rfl (Nat.le_of_ble_eq_true rfl) ⟨Nat.le_of_ble_eq_true rfl, Nat.le_of_ble_eq_true rfl⟩ dX12_perform_59 (fun s31 F32 hZ34 h35 => ?_)
          refine g_aload_n hC dX12_perform_62 rfl ?_
          refine g_bipush (v := zI 10) hC dX12_perform_63 rfl ?_
          refine g_iload_n hC dX12_perform_65 rfl ?_
          refine g_iconst (v := zI 0) hC dX12_perform_66 rfl ?_
          refine zr_callVv (As := [.int (zI 10), .int (zI (za s0 27 (Int.toNat a0))), .int (zI 0)]) hC hZ34 rfl (rm_todoTask X.la d b (by decide) (hZ.ra 27 _) (by decide) hZ34.rf h35) cl_X12_801 rfl rfl (Nat.le_of_ble_eq_true rfl) ⟨Nat.le_of_ble_eq_true rfl, Nat.le_of_ble_eq_true rfl⟩ dX12_perform_67 (fun s37 F38 hZ40 h41 => ?_)
          exact zr_vret hC hZ40 h41 dX12_perform_70
        · have h42 := h27.2 c28
          refine g_iload_n hC dX12_perform_48 rfl ?_
          refine g_bipush (v := zI 40) hC dX12_perform_49 rfl ?_
          refine zr_icmp_ne (tgt := 71) hC (hZ.ra 25 _) (by decide) dX12_perform_51 (by decide) (fun c43 => ?_) (fun c43 => ?_)
          · have h44 := h42.1 c43
            refine g_aload_n hC dX12_perform_71 rfl ?_
            refine zr_callVi (As := []) hC hZ rfl (rm_burns X.la d b  hZ.rf h44) cl_X12_817 rfl rfl (Nat.le_of_ble_eq_true rfl) ⟨Nat.le_of_ble_eq_true rfl, Nat.le_of_ble_eq_true rfl⟩ dX12_perform_72 (fun r45 s46 F47 R48 hZ49 h50 => ?_)
            refine zr_if_ne (tgt := 79) hC R48 dX12_perform_75 (by decide) (fun c51 => ?_) (fun c51 => ?_)
            · have h52 := h50.1 c51
              refine g_iload_n hC dX12_perform_79 rfl ?_
              refine g_bipush (v := zI 20) hC dX12_perform_80 rfl ?_
              refine zr_icmp_ne (tgt := 94) hC (hZ.ra 25 _) (by decide) dX12_perform_82 (by decide) (fun c53 => ?_) (fun c53 => ?_)
              · have h54 := h52.1 c53
                refine g_iload_n hC dX12_perform_94 rfl ?_
                refine g_bipush (v := zI 21) hC dX12_perform_95 rfl ?_
                refine zr_icmp_ne (tgt := 118) hC (hZ.ra 25 _) (by decide) dX12_perform_97 (by decide) (fun c55 => ?_) (fun c55 => ?_)
                · have h56 := h54.1 c55
                  refine g_iload_n hC dX12_perform_118 rfl ?_
                  refine g_bipush (v := zI 22) hC dX12_perform_119 rfl ?_
                  refine zr_icmp_eq (tgt := 136) hC (hZ.ra 25 _) (by decide) dX12_perform_121 (by decide) (fun c57 => ?_) (fun c57 => ?_)
                  · have h58 := h56.1 c57
                    refine g_aload_n hC dX12_perform_136 rfl ?_
                    refine g_bipush (v := zI 14) hC dX12_perform_137 rfl ?_
                    refine g_iload_n hC dX12_perform_139 rfl ?_
                    refine g_iconst (v := zI 0) hC dX12_perform_140 rfl ?_
                    refine zr_callVv (As := [.int (zI 14), .int (zI a0), .int (zI 0)]) hC hZ49 rfl (rm_todoTask X.la d b (by decide) Ra0 (by decide) hZ49.rf h58) cl_X12_801 rfl rfl (Nat.le_of_ble_eq_true rfl) ⟨Nat.le_of_ble_eq_true rfl, Nat.le_of_ble_eq_true rfl⟩ dX12_perform_141 (fun s60 F61 hZ63 h64 => ?_)
                    refine g_aload_n hC dX12_perform_144 rfl ?_
                    refine g_iconst (v := zI 1) hC dX12_perform_145 rfl ?_
                    refine g_iload_n hC dX12_perform_146 rfl ?_
                    refine g_iconst (v := zI 0) hC dX12_perform_147 rfl ?_
                    refine zr_callVv (As := [.int (zI 1), .int (zI (za s0 27 (Int.toNat a0))), .int (zI 0)]) hC hZ63 rfl (rm_todoTask X.la d b (by decide) (hZ.ra 27 _) (by decide) hZ63.rf h64) cl_X12_801 rfl rfl (Nat.le_of_ble_eq_true rfl) ⟨Nat.le_of_ble_eq_true rfl, Nat.le_of_ble_eq_true rfl⟩ dX12_perform_148 (fun s66 F67 hZ69 h70 => ?_)
                    refine g_goto (tgt := 553) hC dX12_perform_151 (by decide) ?_
                    exact zr_vret hC hZ69 h70 dX12_perform_553
                  · have h71 := h56.2 c57
                    refine g_iload_n hC dX12_perform_124 rfl ?_
                    refine g_bipush (v := zI 23) hC dX12_perform_125 rfl ?_
                    refine zr_icmp_eq (tgt := 136) hC (hZ.ra 25 _) (by decide) dX12_perform_127 (by decide) (fun c72 => ?_) (fun c72 => ?_)
                    · have h73 := h71.1 c72
                      refine g_aload_n hC dX12_perform_136 rfl ?_
                      refine g_bipush (v := zI 14) hC dX12_perform_137 rfl ?_
                      refine g_iload_n hC dX12_perform_139 rfl ?_
                      refine g_iconst (v := zI 0) hC dX12_perform_140 rfl ?_
                      refine zr_callVv (As := [.int (zI 14), .int (zI a0), .int (zI 0)]) hC hZ49 rfl (rm_todoTask X.la d b (by decide) Ra0 (by decide) hZ49.rf h73) cl_X12_801 rfl rfl (Nat.le_of_ble_eq_true rfl) ⟨Nat.le_of_ble_eq_true rfl, Nat.le_of_ble_eq_true rfl⟩ dX12_perform_141 (fun s75 F76 hZ78 h79 => ?_)
                      refine g_aload_n hC dX12_perform_144 rfl ?_
                      refine g_iconst (v := zI 1) hC dX12_perform_145 rfl ?_
                      refine g_iload_n hC dX12_perform_146 rfl ?_
                      refine g_iconst (v := zI 0) hC dX12_perform_147 rfl ?_
                      refine zr_callVv (As := [.int (zI 1), .int (zI (za s0 27 (Int.toNat a0))), .int (zI 0)]) hC hZ78 rfl (rm_todoTask X.la d b (by decide) (hZ.ra 27 _) (by decide) hZ78.rf h79) cl_X12_801 rfl rfl (Nat.le_of_ble_eq_true rfl) ⟨Nat.le_of_ble_eq_true rfl, Nat.le_of_ble_eq_true rfl⟩ dX12_perform_148 (fun s81 F82 hZ84 h85 => ?_)
                      refine g_goto (tgt := 553) hC dX12_perform_151 (by decide) ?_
                      exact zr_vret hC hZ84 h85 dX12_perform_553
                    · have h86 := h71.2 c72
                      refine g_iload_n hC dX12_perform_130 rfl ?_
                      refine g_bipush (v := zI 24) hC dX12_perform_131 rfl ?_
                      refine zr_icmp_ne (tgt := 154) hC (hZ.ra 25 _) (by decide) dX12_perform_133 (by decide) (fun c87 => ?_) (fun c87 => ?_)
                      · have h88 := h86.1 c87
                        refine g_iload_n hC dX12_perform_154 rfl ?_
                        refine g_bipush (v := zI 25) hC dX12_perform_155 rfl ?_
                        refine zr_icmp_eq (tgt := 166) hC (hZ.ra 25 _) (by decide) dX12_perform_157 (by decide) (fun c89 => ?_) (fun c89 => ?_)
                        · have h90 := h88.1 c89
                          refine g_aload_n hC dX12_perform_166 rfl ?_
                          refine g_bipush (v := zI 15) hC dX12_perform_167 rfl ?_
                          refine g_iload_n hC dX12_perform_169 rfl ?_
                          refine g_iconst (v := zI 0) hC dX12_perform_170 rfl ?_
                          refine zr_callVv (As := [.int (zI 15), .int (zI a0), .int (zI 0)]) hC hZ49 rfl (rm_todoTask X.la d b (by decide) Ra0 (by decide) hZ49.rf h90) cl_X12_801 rfl rfl (Nat.le_of_ble_eq_true rfl) ⟨Nat.le_of_ble_eq_true rfl, Nat.le_of_ble_eq_true rfl⟩ dX12_perform_171 (fun s92 F93 hZ95 h96 => ?_)
                          refine g_goto (tgt := 553) hC dX12_perform_174 (by decide) ?_
                          exact zr_vret hC hZ95 h96 dX12_perform_553
                        · have h97 := h88.2 c89
                          refine g_iload_n hC dX12_perform_160 rfl ?_
                          refine g_bipush (v := zI 26) hC dX12_perform_161 rfl ?_
                          refine zr_icmp_ne (tgt := 177) hC (hZ.ra 25 _) (by decide) dX12_perform_163 (by decide) (fun c98 => ?_) (fun c98 => ?_)
                          · have h99 := h97.1 c98
                            refine g_iload_n hC dX12_perform_177 rfl ?_
                            refine g_bipush (v := zI 27) hC dX12_perform_178 rfl ?_
                            refine zr_icmp_ne (tgt := 223) hC (hZ.ra 25 _) (by decide) dX12_perform_180 (by decide) (fun c100 => ?_) (fun c100 => ?_)
                            · have h101 := h99.1 c100
                              refine g_iload_n hC dX12_perform_223 rfl ?_
                              refine g_bipush (v := zI 28) hC dX12_perform_224 rfl ?_
                              refine zr_icmp_ne (tgt := 247) hC (hZ.ra 25 _) (by decide) dX12_perform_226 (by decide) (fun c102 => ?_) (fun c102 => ?_)
                              · have h103 := h101.1 c102
                                refine g_iload_n hC dX12_perform_247 rfl ?_
                                refine g_bipush (v := zI 29) hC dX12_perform_248 rfl ?_
                                refine zr_icmp_ne (tgt := 295) hC (hZ.ra 25 _) (by decide) dX12_perform_250 (by decide) (fun c104 => ?_) (fun c104 => ?_)
                                · have h105 := h103.1 c104
                                  refine g_iload_n hC dX12_perform_295 rfl ?_
                                  refine g_bipush (v := zI 30) hC dX12_perform_296 rfl ?_
                                  refine zr_icmp_ne (tgt := 330) hC (hZ.ra 25 _) (by decide) dX12_perform_298 (by decide) (fun c106 => ?_) (fun c106 => ?_)
                                  · have h107 := h105.1 c106
                                    refine g_iload_n hC dX12_perform_330 rfl ?_
                                    refine g_bipush (v := zI 31) hC dX12_perform_331 rfl ?_
                                    refine zr_icmp_ne (tgt := 399) hC (hZ.ra 25 _) (by decide) dX12_perform_333 (by decide) (fun c108 => ?_) (fun c108 => ?_)
                                    · have h109 := h107.1 c108
                                      refine g_iload_n hC dX12_perform_399 rfl ?_
                                      refine g_bipush (v := zI 32) hC dX12_perform_400 rfl ?_
                                      refine zr_icmp_ne (tgt := 434) hC (hZ.ra 25 _) (by decide) dX12_perform_402 (by decide) (fun c110 => ?_) (fun c110 => ?_)
                                      · have h111 := h109.1 c110
                                        refine g_iload_n hC dX12_perform_434 rfl ?_
                                        refine g_bipush (v := zI 33) hC dX12_perform_435 rfl ?_
                                        refine zr_icmp_ne (tgt := 458) hC (hZ.ra 25 _) (by decide) dX12_perform_437 (by decide) (fun c112 => ?_) (fun c112 => ?_)
                                        · have h113 := h111.1 c112
                                          refine g_iload_n hC dX12_perform_458 rfl ?_
                                          refine g_bipush (v := zI 35) hC dX12_perform_459 rfl ?_
                                          refine zr_icmp_ne (tgt := 538) hC (hZ.ra 25 _) (by decide) dX12_perform_461 (by decide) (fun c114 => ?_) (fun c114 => ?_)
                                          · have h115 := h113.1 c114
                                            refine g_aload_n hC dX12_perform_538 rfl ?_
                                            refine g_iconst (v := zI 1) hC dX12_perform_539 rfl ?_
                                            refine zr_putZ hC hZ49 fl_X12_324 zb_102 (by decide) (Or.inr rfl) dX12_perform_540 (fun F116 hZ117 => ?_)
                                            refine g_aload_n hC dX12_perform_543 rfl ?_
                                            refine g_iconst (v := zI 0) hC dX12_perform_544 rfl ?_
                                            refine zr_put hC hZ117 fl_X12_327 zb_103 (by decide) (by decide) dX12_perform_545 (fun F118 hZ119 => ?_)
                                            refine g_aload_n hC dX12_perform_548 rfl ?_
                                            refine g_iconst (v := zI 0) hC dX12_perform_549 rfl ?_
                                            refine zr_put hC hZ119 fl_X12_330 zb_104 (by decide) (by decide) dX12_perform_550 (fun F120 hZ121 => ?_)
                                            exact zr_vret hC hZ121 h115 dX12_perform_553
                                          · have h122 := h113.2 c114
                                            refine g_aload_n hC dX12_perform_464 rfl ?_
                                            refine zr_geta hC hZ49 fl_X12_105 zb_31 (by decide) dX12_perform_465 ?_
                                            refine g_iload_n hC dX12_perform_468 rfl ?_
                                            obtain ⟨o123, h124⟩ := h122
                                            obtain ⟨o125, h126⟩ := h124
                                            refine zr_iald (v := (za s46 31 (Int.toNat a0))) hC hZ49 zk_31 zb_31 zn_31 (by decide) o123 o125 rfl dX12_perform_469 ?_
                                            refine g_istore (lv' := [some (.ref t), some (.int (zI a0)), some (.int (zI (za s0 25 (Int.toNat a0)))), some (.int (zI (za s0 27 (Int.toNat a0)))), some (.int (zI (za s46 31 (Int.toNat a0))))]) hC dX12_perform_470 (Nat.le_of_ble_eq_true rfl) rfl rfl ?_
                                            refine g_lv (lv' := [some (.ref t), none, none, none, some (.int (zI (za s46 31 (Int.toNat a0))))]) ⟨rfl, rfl, trivial⟩ ?_
                                            obtain ⟨m127, h128⟩ := h126
                                            exact rl_perform_472 hC  m127 _ _ _ (hZ49.ra 31 _) hZ49 h128
                                        · have h129 := h111.2 c112
                                          refine g_aload_n hC dX12_perform_440 rfl ?_
                                          refine g_bipush (v := zI 22) hC dX12_perform_441 rfl ?_
                                          refine g_iload_n hC dX12_perform_443 rfl ?_
                                          refine g_iconst (v := zI 0) hC dX12_perform_444 rfl ?_
                                          refine zr_callVv (As := [.int (zI 22), .int (zI a0), .int (zI 0)]) hC hZ49 rfl (rm_todoTask X.la d b (by decide) Ra0 (by decide) hZ49.rf h129) cl_X12_801 rfl rfl (Nat.le_of_ble_eq_true rfl) ⟨Nat.le_of_ble_eq_true rfl, Nat.le_of_ble_eq_true rfl⟩ dX12_perform_445 (fun s131 F132 hZ134 h135 => ?_)
                                          refine g_aload_n hC dX12_perform_448 rfl ?_
                                          refine g_iconst (v := zI 1) hC dX12_perform_449 rfl ?_
                                          refine g_iload_n hC dX12_perform_450 rfl ?_
                                          refine g_iconst (v := zI 0) hC dX12_perform_451 rfl ?_
                                          refine zr_callVv (As := [.int (zI 1), .int (zI (za s0 27 (Int.toNat a0))), .int (zI 0)]) hC hZ134 rfl (rm_todoTask X.la d b (by decide) (hZ.ra 27 _) (by decide) hZ134.rf h135) cl_X12_801 rfl rfl (Nat.le_of_ble_eq_true rfl) ⟨Nat.le_of_ble_eq_true rfl, Nat.le_of_ble_eq_true rfl⟩ dX12_perform_452 (fun s137 F138 hZ140 h141 => ?_)
                                          refine g_goto (tgt := 553) hC dX12_perform_455 (by decide) ?_
                                          exact zr_vret hC hZ140 h141 dX12_perform_553
                                      · have h142 := h109.2 c110
                                        refine g_lv (lv' := [some (.ref t), none, none, none, none]) ⟨rfl, trivial⟩ ?_
                                        obtain ⟨m143, h144⟩ := h142
                                        exact rl_perform_405 hC  m143 _ _   hZ49 h144
                                    · have h145 := h107.2 c108
                                      refine g_lv (lv' := [some (.ref t), none, none, none, none]) ⟨rfl, trivial⟩ ?_
                                      obtain ⟨m146, h147⟩ := h145
                                      exact rl_perform_336 hC  m146 _ _   hZ49 h147
                                  · have h148 := h105.2 c106
                                    refine g_lv (lv' := [some (.ref t), none, none, none, none]) ⟨rfl, trivial⟩ ?_
                                    obtain ⟨m149, h150⟩ := h148
                                    exact rl_perform_301 hC  m149 _ _   hZ49 h150
                                · have h151 := h103.2 c104
                                  refine g_lv (lv' := [some (.ref t), none, none, none, none]) ⟨rfl, trivial⟩ ?_
                                  obtain ⟨m152, h153⟩ := h151
                                  exact rl_perform_253 hC  m152 _ _   hZ49 h153
                              · have h154 := h101.2 c102
                                refine g_aload_n hC dX12_perform_229 rfl ?_
                                refine g_bipush (v := zI 21) hC dX12_perform_230 rfl ?_
                                refine g_iload_n hC dX12_perform_232 rfl ?_
                                refine g_iconst (v := zI 0) hC dX12_perform_233 rfl ?_
                                refine zr_callVv (As := [.int (zI 21), .int (zI a0), .int (zI 0)]) hC hZ49 rfl (rm_todoTask X.la d b (by decide) Ra0 (by decide) hZ49.rf h154) cl_X12_801 rfl rfl (Nat.le_of_ble_eq_true rfl) ⟨Nat.le_of_ble_eq_true rfl, Nat.le_of_ble_eq_true rfl⟩ dX12_perform_234 (fun s156 F157 hZ159 h160 => ?_)
                                refine g_aload_n hC dX12_perform_237 rfl ?_
                                refine g_iconst (v := zI 1) hC dX12_perform_238 rfl ?_
                                refine g_iload_n hC dX12_perform_239 rfl ?_
                                refine g_iconst (v := zI 0) hC dX12_perform_240 rfl ?_
                                refine zr_callVv (As := [.int (zI 1), .int (zI (za s0 27 (Int.toNat a0))), .int (zI 0)]) hC hZ159 rfl (rm_todoTask X.la d b (by decide) (hZ.ra 27 _) (by decide) hZ159.rf h160) cl_X12_801 rfl rfl (Nat.le_of_ble_eq_true rfl) ⟨Nat.le_of_ble_eq_true rfl, Nat.le_of_ble_eq_true rfl⟩ dX12_perform_241 (fun s162 F163 hZ165 h166 => ?_)
                                refine g_goto (tgt := 553) hC dX12_perform_244 (by decide) ?_
                                exact zr_vret hC hZ165 h166 dX12_perform_553
                            · have h167 := h99.2 c100
                              refine g_aload_n hC dX12_perform_183 rfl ?_
                              refine g_bipush (v := zI 20) hC dX12_perform_184 rfl ?_
                              refine g_iload_n hC dX12_perform_186 rfl ?_
                              refine g_iconst (v := zI 0) hC dX12_perform_187 rfl ?_
                              refine zr_callVv (As := [.int (zI 20), .int (zI a0), .int (zI 0)]) hC hZ49 rfl (rm_todoTask X.la d b (by decide) Ra0 (by decide) hZ49.rf h167) cl_X12_801 rfl rfl (Nat.le_of_ble_eq_true rfl) ⟨Nat.le_of_ble_eq_true rfl, Nat.le_of_ble_eq_true rfl⟩ dX12_perform_188 (fun s169 F170 hZ172 h173 => ?_)
                              refine g_aload_n hC dX12_perform_191 rfl ?_
                              refine g_iconst (v := zI 1) hC dX12_perform_192 rfl ?_
                              refine g_aload_n hC dX12_perform_193 rfl ?_
                              refine zr_geta hC hZ172 fl_X12_96 zb_28 (by decide) dX12_perform_194 ?_
                              refine g_aload_n hC dX12_perform_197 rfl ?_
                              refine zr_geta hC hZ172 fl_X12_96 zb_28 (by decide) dX12_perform_198 ?_
                              refine g_iload_n hC dX12_perform_201 rfl ?_
                              obtain ⟨o174, h175⟩ := h173
                              obtain ⟨o176, h177⟩ := h175
                              refine zr_iald (v := (za s169 28 (Int.toNat (za s0 27 (Int.toNat a0))))) hC hZ172 zk_28 zb_28 zn_28 (by decide) o174 o176 rfl dX12_perform_202 ?_
                              obtain ⟨o178, h179⟩ := h177
                              obtain ⟨o180, h181⟩ := h179
                              refine zr_iald (v := (za s169 28 (Int.toNat (za s169 28 (Int.toNat (za s0 27 (Int.toNat a0))))))) hC hZ172 zk_28 zb_28 zn_28 (by decide) o178 o180 rfl dX12_perform_203 ?_
                              refine g_iconst (v := zI 0) hC dX12_perform_204 rfl ?_
                              refine zr_callVv (As := [.int (zI 1), .int (zI (za s169 28 (Int.toNat (za s169 28 (Int.toNat (za s0 27 (Int.toNat a0))))))), .int (zI 0)]) hC hZ172 rfl (rm_todoTask X.la d b (by decide) (hZ172.ra 28 _) (by decide) hZ172.rf h181) cl_X12_801 rfl rfl (Nat.le_of_ble_eq_true rfl) ⟨Nat.le_of_ble_eq_true rfl, Nat.le_of_ble_eq_true rfl⟩ dX12_perform_205 (fun s183 F184 hZ186 h187 => ?_)
                              refine g_aload_n hC dX12_perform_208 rfl ?_
                              refine g_iconst (v := zI 1) hC dX12_perform_209 rfl ?_
                              refine g_aload_n hC dX12_perform_210 rfl ?_
                              refine zr_geta hC hZ186 fl_X12_96 zb_28 (by decide) dX12_perform_211 ?_
                              refine g_iload_n hC dX12_perform_214 rfl ?_
                              obtain ⟨o188, h189⟩ := h187
                              obtain ⟨o190, h191⟩ := h189
                              refine zr_iald (v := (za s183 28 (Int.toNat (za s0 27 (Int.toNat a0))))) hC hZ186 zk_28 zb_28 zn_28 (by decide) o188 o190 rfl dX12_perform_215 ?_
                              refine g_iconst (v := zI 0) hC dX12_perform_216 rfl ?_
                              refine zr_callVv (As := [.int (zI 1), .int (zI (za s183 28 (Int.toNat (za s0 27 (Int.toNat a0))))), .int (zI 0)]) hC hZ186 rfl (rm_todoTask X.la d b (by decide) (hZ186.ra 28 _) (by decide) hZ186.rf h191) cl_X12_801 rfl rfl (Nat.le_of_ble_eq_true rfl) ⟨Nat.le_of_ble_eq_true rfl, Nat.le_of_ble_eq_true rfl⟩ dX12_perform_217 (fun s193 F194 hZ196 h197 => ?_)
                              refine g_goto (tgt := 553) hC dX12_perform_220 (by decide) ?_
                              exact zr_vret hC hZ196 h197 dX12_perform_553
                          · have h198 := h97.2 c98
                            refine g_aload_n hC dX12_perform_166 rfl ?_
                            refine g_bipush (v := zI 15) hC dX12_perform_167 rfl ?_
                            refine g_iload_n hC dX12_perform_169 rfl ?_
                            refine g_iconst (v := zI 0) hC dX12_perform_170 rfl ?_
                            refine zr_callVv (As := [.int (zI 15), .int (zI a0), .int (zI 0)]) hC hZ49 rfl (rm_todoTask X.la d b (by decide) Ra0 (by decide) hZ49.rf h198) cl_X12_801 rfl rfl (Nat.le_of_ble_eq_true rfl) ⟨Nat.le_of_ble_eq_true rfl, Nat.le_of_ble_eq_true rfl⟩ dX12_perform_171 (fun s200 F201 hZ203 h204 => ?_)
                            refine g_goto (tgt := 553) hC dX12_perform_174 (by decide) ?_
                            exact zr_vret hC hZ203 h204 dX12_perform_553
                      · have h205 := h86.2 c87
                        refine g_aload_n hC dX12_perform_136 rfl ?_
                        refine g_bipush (v := zI 14) hC dX12_perform_137 rfl ?_
                        refine g_iload_n hC dX12_perform_139 rfl ?_
                        refine g_iconst (v := zI 0) hC dX12_perform_140 rfl ?_
                        refine zr_callVv (As := [.int (zI 14), .int (zI a0), .int (zI 0)]) hC hZ49 rfl (rm_todoTask X.la d b (by decide) Ra0 (by decide) hZ49.rf h205) cl_X12_801 rfl rfl (Nat.le_of_ble_eq_true rfl) ⟨Nat.le_of_ble_eq_true rfl, Nat.le_of_ble_eq_true rfl⟩ dX12_perform_141 (fun s207 F208 hZ210 h211 => ?_)
                        refine g_aload_n hC dX12_perform_144 rfl ?_
                        refine g_iconst (v := zI 1) hC dX12_perform_145 rfl ?_
                        refine g_iload_n hC dX12_perform_146 rfl ?_
                        refine g_iconst (v := zI 0) hC dX12_perform_147 rfl ?_
                        refine zr_callVv (As := [.int (zI 1), .int (zI (za s0 27 (Int.toNat a0))), .int (zI 0)]) hC hZ210 rfl (rm_todoTask X.la d b (by decide) (hZ.ra 27 _) (by decide) hZ210.rf h211) cl_X12_801 rfl rfl (Nat.le_of_ble_eq_true rfl) ⟨Nat.le_of_ble_eq_true rfl, Nat.le_of_ble_eq_true rfl⟩ dX12_perform_148 (fun s213 F214 hZ216 h217 => ?_)
                        refine g_goto (tgt := 553) hC dX12_perform_151 (by decide) ?_
                        exact zr_vret hC hZ216 h217 dX12_perform_553
                · have h218 := h54.2 c55
                  refine g_aload_n hC dX12_perform_100 rfl ?_
                  refine g_bipush (v := zI 13) hC dX12_perform_101 rfl ?_
                  refine g_iload_n hC dX12_perform_103 rfl ?_
                  refine g_iconst (v := zI 0) hC dX12_perform_104 rfl ?_
                  refine zr_callVv (As := [.int (zI 13), .int (zI a0), .int (zI 0)]) hC hZ49 rfl (rm_todoTask X.la d b (by decide) Ra0 (by decide) hZ49.rf h218) cl_X12_801 rfl rfl (Nat.le_of_ble_eq_true rfl) ⟨Nat.le_of_ble_eq_true rfl, Nat.le_of_ble_eq_true rfl⟩ dX12_perform_105 (fun s220 F221 hZ223 h224 => ?_)
                  refine g_aload_n hC dX12_perform_108 rfl ?_
                  refine g_iconst (v := zI 1) hC dX12_perform_109 rfl ?_
                  refine g_iload_n hC dX12_perform_110 rfl ?_
                  refine g_iconst (v := zI 0) hC dX12_perform_111 rfl ?_
                  refine zr_callVv (As := [.int (zI 1), .int (zI (za s0 27 (Int.toNat a0))), .int (zI 0)]) hC hZ223 rfl (rm_todoTask X.la d b (by decide) (hZ.ra 27 _) (by decide) hZ223.rf h224) cl_X12_801 rfl rfl (Nat.le_of_ble_eq_true rfl) ⟨Nat.le_of_ble_eq_true rfl, Nat.le_of_ble_eq_true rfl⟩ dX12_perform_112 (fun s226 F227 hZ229 h230 => ?_)
                  refine g_goto (tgt := 553) hC dX12_perform_115 (by decide) ?_
                  exact zr_vret hC hZ229 h230 dX12_perform_553
              · have h231 := h52.2 c53
                refine g_aload_n hC dX12_perform_85 rfl ?_
                refine g_iload_n hC dX12_perform_86 rfl ?_
                refine g_iload_n hC dX12_perform_87 rfl ?_
                refine zr_callVv (As := [.int (zI a0), .int (zI (za s0 27 (Int.toNat a0)))]) hC hZ49 rfl (rm_assign X.la d b Ra0 (hZ.ra 27 _) hZ49.rf h231) cl_X12_871 rfl rfl (Nat.le_of_ble_eq_true rfl) ⟨Nat.le_of_ble_eq_true rfl, Nat.le_of_ble_eq_true rfl⟩ dX12_perform_88 (fun s233 F234 hZ236 h237 => ?_)
                refine g_goto (tgt := 553) hC dX12_perform_91 (by decide) ?_
                exact zr_vret hC hZ236 h237 dX12_perform_553
            · have h238 := h50.2 c51
              exact zr_vret hC hZ49 h238 dX12_perform_78
          · have h239 := h42.2 c43
            refine g_aload_n hC dX12_perform_54 rfl ?_
            refine g_bipush (v := zI 15) hC dX12_perform_55 rfl ?_
            refine g_iload_n hC dX12_perform_57 rfl ?_
            refine g_iconst (v := zI 0) hC dX12_perform_58 rfl ?_
            refine zr_callVv (As := [.int (zI 15), .int (zI a0), .int (zI 0)]) hC hZ rfl (rm_todoTask X.la d b (by decide) Ra0 (by decide) hZ.rf h239) cl_X12_801 rfl rfl (Nat.le_of_ble_eq_true rfl) ⟨Nat.le_of_ble_eq_true rfl, Nat.le_of_ble_eq_true rfl⟩ dX12_perform_59 (fun s241 F242 hZ244 h245 => ?_)
            refine g_aload_n hC dX12_perform_62 rfl ?_
            refine g_bipush (v := zI 10) hC dX12_perform_63 rfl ?_
            refine g_iload_n hC dX12_perform_65 rfl ?_
            refine g_iconst (v := zI 0) hC dX12_perform_66 rfl ?_
            refine zr_callVv (As := [.int (zI 10), .int (zI (za s0 27 (Int.toNat a0))), .int (zI 0)]) hC hZ244 rfl (rm_todoTask X.la d b (by decide) (hZ.ra 27 _) (by decide) hZ244.rf h245) cl_X12_801 rfl rfl (Nat.le_of_ble_eq_true rfl) ⟨Nat.le_of_ble_eq_true rfl, Nat.le_of_ble_eq_true rfl⟩ dX12_perform_67 (fun s247 F248 hZ250 h251 => ?_)
            exact zr_vret hC hZ250 h251 dX12_perform_70
    · have h252 := h10.2 c11
      refine g_aload_n hC dX12_perform_27 rfl ?_
      refine g_bipush (v := zI 17) hC dX12_perform_28 rfl ?_
      refine g_iload_n hC dX12_perform_30 rfl ?_
      refine g_iload_n hC dX12_perform_31 rfl ?_
      refine zr_callVv (As := [.int (zI 17), .int (zI a0), .int (zI (za s0 27 (Int.toNat a0)))]) hC hZ rfl (rm_todoTask X.la d b (by decide) Ra0 (hZ.ra 27 _) hZ.rf h252) cl_X12_801 rfl rfl (Nat.le_of_ble_eq_true rfl) ⟨Nat.le_of_ble_eq_true rfl, Nat.le_of_ble_eq_true rfl⟩ dX12_perform_32 (fun s254 F255 hZ257 h258 => ?_)
      exact zr_vret hC hZ257 h258 dX12_perform_35
  · have h259 := h8.2 c9
    exact zr_vret hC hZ h259 dX12_perform_20
theorem dX12_stores_0 : decode cX12_stores 0 = .ok (.aload_n 0, 1) := by decide +kernel
theorem dX12_stores_1 : decode cX12_stores 1 = .ok (.getfield 87, 3) := by decide +kernel
theorem dX12_stores_4 : decode cX12_stores 4 = .ok (.iload_n 1, 1) := by decide +kernel
theorem dX12_stores_5 : decode cX12_stores 5 = .ok (.baload, 1) := by decide +kernel
theorem dX12_stores_6 : decode cX12_stores 6 = .ok (.iconst 1, 1) := by decide +kernel
theorem dX12_stores_7 : decode cX12_stores 7 = .ok (.if_icmp .ne 20, 3) := by decide +kernel
theorem dX12_stores_10 : decode cX12_stores 10 = .ok (.aload_n 0, 1) := by decide +kernel
theorem dX12_stores_11 : decode cX12_stores 11 = .ok (.getfield 312, 3) := by decide +kernel
theorem dX12_stores_14 : decode cX12_stores 14 = .ok (.aload_n 0, 1) := by decide +kernel
theorem dX12_stores_15 : decode cX12_stores 15 = .ok (.iload_n 1, 1) := by decide +kernel
theorem dX12_stores_16 : decode cX12_stores 16 = .ok (.invokevirtual 798, 3) := by decide +kernel
theorem dX12_stores_19 : decode cX12_stores 19 = .ok (.aload_n 0, 1) := by decide +kernel
theorem dX12_stores_20 : decode cX12_stores 20 = .ok (.invokevirtual 810, 3) := by decide +kernel
theorem dX12_stores_23 : decode cX12_stores 23 = .ok (.iastore, 1) := by decide +kernel
theorem dX12_stores_24 : decode cX12_stores 24 = .ok (.goto 118, 3) := by decide +kernel
theorem dX12_stores_27 : decode cX12_stores 27 = .ok (.aload_n 0, 1) := by decide +kernel
theorem dX12_stores_28 : decode cX12_stores 28 = .ok (.getfield 87, 3) := by decide +kernel
theorem dX12_stores_31 : decode cX12_stores 31 = .ok (.iload_n 1, 1) := by decide +kernel
theorem dX12_stores_32 : decode cX12_stores 32 = .ok (.baload, 1) := by decide +kernel
theorem dX12_stores_33 : decode cX12_stores 33 = .ok (.bipush 7, 2) := by decide +kernel
theorem dX12_stores_35 : decode cX12_stores 35 = .ok (.if_icmp .ne 21, 3) := by decide +kernel
theorem dX12_stores_38 : decode cX12_stores 38 = .ok (.aload_n 0, 1) := by decide +kernel
theorem dX12_stores_39 : decode cX12_stores 39 = .ok (.invokevirtual 810, 3) := by decide +kernel
theorem dX12_stores_42 : decode cX12_stores 42 = .ok (.istore_n 2, 1) := by decide +kernel
theorem dX12_stores_43 : decode cX12_stores 43 = .ok (.aload_n 0, 1) := by decide +kernel
theorem dX12_stores_44 : decode cX12_stores 44 = .ok (.iload_n 2, 1) := by decide +kernel
theorem dX12_stores_45 : decode cX12_stores 45 = .ok (.i2l, 1) := by decide +kernel
theorem dX12_stores_46 : decode cX12_stores 46 = .ok (.aload_n 0, 1) := by decide +kernel
theorem dX12_stores_47 : decode cX12_stores 47 = .ok (.invokevirtual 810, 3) := by decide +kernel
theorem dX12_stores_50 : decode cX12_stores 50 = .ok (.invokevirtual 874, 3) := by decide +kernel
theorem dX12_stores_53 : decode cX12_stores 53 = .ok (.goto 89, 3) := by decide +kernel
theorem dX12_stores_56 : decode cX12_stores 56 = .ok (.aload_n 0, 1) := by decide +kernel
theorem dX12_stores_57 : decode cX12_stores 57 = .ok (.invokevirtual 810, 3) := by decide +kernel
theorem dX12_stores_60 : decode cX12_stores 60 = .ok (.istore_n 2, 1) := by decide +kernel
theorem dX12_stores_61 : decode cX12_stores 61 = .ok (.aload_n 0, 1) := by decide +kernel
theorem dX12_stores_62 : decode cX12_stores 62 = .ok (.invokevirtual 810, 3) := by decide +kernel
theorem dX12_stores_65 : decode cX12_stores 65 = .ok (.istore_n 3, 1) := by decide +kernel
theorem dX12_stores_66 : decode cX12_stores 66 = .ok (.aload_n 0, 1) := by decide +kernel
theorem dX12_stores_67 : decode cX12_stores 67 = .ok (.invokevirtual 810, 3) := by decide +kernel
theorem dX12_stores_70 : decode cX12_stores 70 = .ok (.istore 4, 2) := by decide +kernel
theorem dX12_stores_72 : decode cX12_stores 72 = .ok (.aload_n 0, 1) := by decide +kernel
theorem dX12_stores_73 : decode cX12_stores 73 = .ok (.getfield 99, 3) := by decide +kernel
theorem dX12_stores_76 : decode cX12_stores 76 = .ok (.iload_n 1, 1) := by decide +kernel
theorem dX12_stores_77 : decode cX12_stores 77 = .ok (.iaload, 1) := by decide +kernel
theorem dX12_stores_78 : decode cX12_stores 78 = .ok (.bipush 18, 2) := by decide +kernel
theorem dX12_stores_80 : decode cX12_stores 80 = .ok (.if_icmp .ne 14, 3) := by decide +kernel
theorem dX12_stores_83 : decode cX12_stores 83 = .ok (.aload_n 0, 1) := by decide +kernel
theorem dX12_stores_84 : decode cX12_stores 84 = .ok (.iload_n 3, 1) := by decide +kernel
theorem dX12_stores_85 : decode cX12_stores 85 = .ok (.iload_n 2, 1) := by decide +kernel
theorem dX12_stores_86 : decode cX12_stores 86 = .ok (.iadd, 1) := by decide +kernel
theorem dX12_stores_87 : decode cX12_stores 87 = .ok (.i2l, 1) := by decide +kernel
theorem dX12_stores_88 : decode cX12_stores 88 = .ok (.iload 4, 2) := by decide +kernel
theorem dX12_stores_90 : decode cX12_stores 90 = .ok (.invokevirtual 874, 3) := by decide +kernel
theorem dX12_stores_93 : decode cX12_stores 93 = .ok (.return_, 1) := by decide +kernel
theorem dX12_stores_94 : decode cX12_stores 94 = .ok (.iload_n 3, 1) := by decide +kernel
theorem dX12_stores_95 : decode cX12_stores 95 = .ok (.i2l, 1) := by decide +kernel
theorem dX12_stores_96 : decode cX12_stores 96 = .ok (.iload_n 2, 1) := by decide +kernel
theorem dX12_stores_97 : decode cX12_stores 97 = .ok (.iconst 2, 1) := by decide +kernel
theorem dX12_stores_98 : decode cX12_stores 98 = .ok (.ishr, 1) := by decide +kernel
theorem dX12_stores_99 : decode cX12_stores 99 = .ok (.i2l, 1) := by decide +kernel
theorem dX12_stores_100 : decode cX12_stores 100 = .ok (.ladd, 1) := by decide +kernel
theorem dX12_stores_101 : decode cX12_stores 101 = .ok (.lstore 5, 2) := by decide +kernel
theorem dX12_stores_103 : decode cX12_stores 103 = .ok (.bipush 8, 2) := by decide +kernel
theorem dX12_stores_105 : decode cX12_stores 105 = .ok (.iload_n 2, 1) := by decide +kernel
theorem dX12_stores_106 : decode cX12_stores 106 = .ok (.iconst 3, 1) := by decide +kernel
theorem dX12_stores_107 : decode cX12_stores 107 = .ok (.iand, 1) := by decide +kernel
theorem dX12_stores_108 : decode cX12_stores 108 = .ok (.imul, 1) := by decide +kernel
theorem dX12_stores_109 : decode cX12_stores 109 = .ok (.istore 7, 2) := by decide +kernel
theorem dX12_stores_111 : decode cX12_stores 111 = .ok (.aload_n 0, 1) := by decide +kernel
theorem dX12_stores_112 : decode cX12_stores 112 = .ok (.lload 5, 2) := by decide +kernel
theorem dX12_stores_114 : decode cX12_stores 114 = .ok (.aload_n 0, 1) := by decide +kernel
theorem dX12_stores_115 : decode cX12_stores 115 = .ok (.lload 5, 2) := by decide +kernel
theorem dX12_stores_117 : decode cX12_stores 117 = .ok (.invokevirtual 813, 3) := by decide +kernel
theorem dX12_stores_120 : decode cX12_stores 120 = .ok (.sipush 255, 3) := by decide +kernel
theorem dX12_stores_123 : decode cX12_stores 123 = .ok (.iload 7, 2) := by decide +kernel
theorem dX12_stores_125 : decode cX12_stores 125 = .ok (.ishl, 1) := by decide +kernel
theorem dX12_stores_126 : decode cX12_stores 126 = .ok (.iconst (-1), 1) := by decide +kernel
theorem dX12_stores_127 : decode cX12_stores 127 = .ok (.ixor, 1) := by decide +kernel
theorem dX12_stores_128 : decode cX12_stores 128 = .ok (.iand, 1) := by decide +kernel
theorem dX12_stores_129 : decode cX12_stores 129 = .ok (.iload 4, 2) := by decide +kernel
theorem dX12_stores_131 : decode cX12_stores 131 = .ok (.sipush 255, 3) := by decide +kernel
theorem dX12_stores_134 : decode cX12_stores 134 = .ok (.iand, 1) := by decide +kernel
theorem dX12_stores_135 : decode cX12_stores 135 = .ok (.iload 7, 2) := by decide +kernel
theorem dX12_stores_137 : decode cX12_stores 137 = .ok (.ishl, 1) := by decide +kernel
theorem dX12_stores_138 : decode cX12_stores 138 = .ok (.ior, 1) := by decide +kernel
theorem dX12_stores_139 : decode cX12_stores 139 = .ok (.invokevirtual 874, 3) := by decide +kernel
theorem dX12_stores_142 : decode cX12_stores 142 = .ok (.return_, 1) := by decide +kernel
def wr_stores (s0 : zS) (a0 : Int) (Q : zS → Prop) : Prop :=
  (0 ≤ a0) ∧ (a0 < 26000) ∧ ((¬ (za s0 25 (Int.toNat a0)) = 1 → (0 ≤ a0) ∧ (a0 < 26000) ∧ ((¬ (za s0 25 (Int.toNat a0)) = 7 → wr_pop s0  (fun r13 s14 => wr_pop s14  (fun r19 s20 => wr_pop s20  (fun r25 s26 => (0 ≤ a0) ∧ (a0 < 26000) ∧ ((¬ (za s26 29 (Int.toNat a0)) = 18 → ∀ z37 : Int, z37 = zwl (r19 + (zsr r13 2)) → zL z37 → wr_read s26 z37 (fun r41 s42 => wr_write s42 z37 (zor (zan r41 (zxo (zsl 255 (8 * (zan r13 3))) (-1))) (zsl (zan r25 255) (8 * (zan r13 3)))) (fun s48 => Q s48))) ∧ ((za s26 29 (Int.toNat a0)) = 18 → ∀ z54 : Int, z54 = zw (r19 + r13) → zR z54 → wr_write s26 z54 r25 (fun s59 => Q s59))))))) ∧ ((za s0 25 (Int.toNat a0)) = 7 → wr_pop s0  (fun r65 s66 => wr_pop s66  (fun r71 s72 => wr_write s72 r65 r71 (fun s78 => Q s78)))))) ∧ ((za s0 25 (Int.toNat a0)) = 1 → wr_wordOf s0 a0 (fun r84 s85 => wr_pop s85  (fun r90 s91 => (0 ≤ r84) ∧ (r84 < 65536) ∧ Q (zpa s91 98 (Int.toNat r84) r90)))))
set_option maxHeartbeats 4000000 in
set_option maxRecDepth 100000 in
theorem rm_stores (l : Launch) (d : gD) (b : Nat) {t : Nat} {T : Nat → Nat} {F : gM} {s0 : zS} {a0 : Int} (Ra0 : zR a0) {Q : zS → Prop} (hZ : zZ d t T F F s0) (hw : wr_stores s0 a0 Q) : gMv l d b yX12_stores cX12_stores 8 2 0 0 F [.ref t, .int (zI a0)] (zPv d t T F Q) := by
  refine gM_of2 rfl (nL := 8) (Nat.le_of_ble_eq_true rfl) ?_
  intro X hX hC; subst hX
  show gG X d b (zQv X d b t T F Q) F 0 0 0 [some (.ref t), some (.int (zI a0)), none, none, none, none, none, none] []
  unfold wr_stores at hw
  refine g_aload_n hC dX12_stores_0 rfl ?_
  refine zr_geta hC hZ fl_X12_87 zb_25 (by decide) dX12_stores_1 ?_
  refine g_iload_n hC dX12_stores_4 rfl ?_
  obtain ⟨o1, h2⟩ := hw
  obtain ⟨o3, h4⟩ := h2
  refine zr_bald (v := (za s0 25 (Int.toNat a0))) hC hZ zk_25 zb_25 zn_25 (by decide) o1 o3 rfl dX12_stores_5 ?_
  refine g_iconst (v := zI 1) hC dX12_stores_6 rfl ?_
  refine zr_icmp_ne (tgt := 27) hC (hZ.ra 25 _) (by decide) dX12_stores_7 (by decide) (fun c5 => ?_) (fun c5 => ?_)
  · have h6 := h4.1 c5
    refine g_aload_n hC dX12_stores_27 rfl ?_
    refine zr_geta hC hZ fl_X12_87 zb_25 (by decide) dX12_stores_28 ?_
    refine g_iload_n hC dX12_stores_31 rfl ?_
    obtain ⟨o7, h8⟩ := h6
    obtain ⟨o9, h10⟩ := h8
    refine zr_bald (v := (za s0 25 (Int.toNat a0))) hC hZ zk_25 zb_25 zn_25 (by decide) o7 o9 rfl dX12_stores_32 ?_
    refine g_bipush (v := zI 7) hC dX12_stores_33 rfl ?_
    refine zr_icmp_ne (tgt := 56) hC (hZ.ra 25 _) (by decide) dX12_stores_35 (by decide) (fun c11 => ?_) (fun c11 => ?_)
    · have h12 := h10.1 c11
      refine g_aload_n hC dX12_stores_56 rfl ?_
      refine zr_callVi (As := []) hC hZ rfl (rm_pop X.la d b  hZ.rf h12) cl_X12_810 rfl rfl (Nat.le_of_ble_eq_true rfl) ⟨Nat.le_of_ble_eq_true rfl, Nat.le_of_ble_eq_true rfl⟩ dX12_stores_57 (fun r13 s14 F15 R16 hZ17 h18 => ?_)
      refine g_istore_n (lv' := [some (.ref t), some (.int (zI a0)), some (.int (zI r13)), none, none, none, none, none]) hC dX12_stores_60 (Nat.le_of_ble_eq_true rfl) rfl rfl ?_
      refine g_aload_n hC dX12_stores_61 rfl ?_
      refine zr_callVi (As := []) hC hZ17 rfl (rm_pop X.la d b  hZ17.rf h18) cl_X12_810 rfl rfl (Nat.le_of_ble_eq_true rfl) ⟨Nat.le_of_ble_eq_true rfl, Nat.le_of_ble_eq_true rfl⟩ dX12_stores_62 (fun r19 s20 F21 R22 hZ23 h24 => ?_)
      refine g_istore_n (lv' := [some (.ref t), some (.int (zI a0)), some (.int (zI r13)), some (.int (zI r19)), none, none, none, none]) hC dX12_stores_65 (Nat.le_of_ble_eq_true rfl) rfl rfl ?_
      refine g_aload_n hC dX12_stores_66 rfl ?_
      refine zr_callVi (As := []) hC hZ23 rfl (rm_pop X.la d b  hZ23.rf h24) cl_X12_810 rfl rfl (Nat.le_of_ble_eq_true rfl) ⟨Nat.le_of_ble_eq_true rfl, Nat.le_of_ble_eq_true rfl⟩ dX12_stores_67 (fun r25 s26 F27 R28 hZ29 h30 => ?_)
      refine g_istore (lv' := [some (.ref t), some (.int (zI a0)), some (.int (zI r13)), some (.int (zI r19)), some (.int (zI r25)), none, none, none]) hC dX12_stores_70 (Nat.le_of_ble_eq_true rfl) rfl rfl ?_
      refine g_aload_n hC dX12_stores_72 rfl ?_
      refine zr_geta hC hZ29 fl_X12_99 zb_29 (by decide) dX12_stores_73 ?_
      refine g_iload_n hC dX12_stores_76 rfl ?_
      obtain ⟨o31, h32⟩ := h30
      obtain ⟨o33, h34⟩ := h32
      refine zr_iald (v := (za s26 29 (Int.toNat a0))) hC hZ29 zk_29 zb_29 zn_29 (by decide) o31 o33 rfl dX12_stores_77 ?_
      refine g_bipush (v := zI 18) hC dX12_stores_78 rfl ?_
      refine zr_icmp_ne (tgt := 94) hC (hZ29.ra 29 _) (by decide) dX12_stores_80 (by decide) (fun c35 => ?_) (fun c35 => ?_)
      · have h36 := h34.1 c35
        refine g_iload_n hC dX12_stores_94 rfl ?_
        refine zr_i2l hC dX12_stores_95 R22 ?_
        refine g_iload_n hC dX12_stores_96 rfl ?_
        refine g_iconst (v := zI 2) hC dX12_stores_97 rfl ?_
        refine zr_ishr hC dX12_stores_98 ?_
        refine zr_i2l hC dX12_stores_99 (zR_t _) ?_
        refine zr_ladd hC dX12_stores_100 ?_
        refine zr_wl (fun z37 e38 R39 => ?_)
        have h40 := h36 z37 e38 R39
        refine g_lstore (lv' := [some (.ref t), some (.int (zI a0)), some (.int (zI r13)), some (.int (zI r19)), some (.int (zI r25)), some (.long (zJ z37)), none, none]) hC dX12_stores_101 (Nat.le_of_ble_eq_true rfl) rfl rfl ?_
        refine g_bipush (v := zI 8) hC dX12_stores_103 rfl ?_
        refine g_iload_n hC dX12_stores_105 rfl ?_
        refine g_iconst (v := zI 3) hC dX12_stores_106 rfl ?_
        refine zr_iand hC dX12_stores_107 ?_
        refine zr_imul hC dX12_stores_108 ?_
        refine g_istore (lv' := [some (.ref t), some (.int (zI a0)), some (.int (zI r13)), some (.int (zI r19)), some (.int (zI r25)), some (.long (zJ z37)), none, some (.int (zI (8 * (zan r13 3))))]) hC dX12_stores_109 (Nat.le_of_ble_eq_true rfl) rfl rfl ?_
        refine g_aload_n hC dX12_stores_111 rfl ?_
        refine g_lload hC dX12_stores_112 rfl ?_
        refine g_aload_n hC dX12_stores_114 rfl ?_
        refine g_lload hC dX12_stores_115 rfl ?_
        refine zr_callVi (As := [.long (zJ z37)]) hC hZ29 rfl (rm_read X.la d b R39 hZ29.rf h40) cl_X12_813 rfl rfl (Nat.le_of_ble_eq_true rfl) ⟨Nat.le_of_ble_eq_true rfl, Nat.le_of_ble_eq_true rfl⟩ dX12_stores_117 (fun r41 s42 F43 R44 hZ45 h46 => ?_)
        refine g_sipush (v := zI 255) hC dX12_stores_120 rfl ?_
        refine g_iload hC dX12_stores_123 rfl ?_
        refine zr_ishl hC dX12_stores_125 ?_
        refine g_iconst (v := zI (-1)) hC dX12_stores_126 rfl ?_
        refine zr_ixor hC dX12_stores_127 ?_
        refine zr_iand hC dX12_stores_128 ?_
        refine g_iload hC dX12_stores_129 rfl ?_
        refine g_sipush (v := zI 255) hC dX12_stores_131 rfl ?_
        refine zr_iand hC dX12_stores_134 ?_
        refine g_iload hC dX12_stores_135 rfl ?_
        refine zr_ishl hC dX12_stores_137 ?_
        refine zr_ior hC dX12_stores_138 ?_
        refine zr_callVv (As := [.long (zJ z37), .int (zI (zor (zan r41 (zxo (zsl 255 (8 * (zan r13 3))) (-1))) (zsl (zan r25 255) (8 * (zan r13 3)))))]) hC hZ45 rfl (rm_write X.la d b R39 (zR_t _) hZ45.rf h46) cl_X12_874 rfl rfl (Nat.le_of_ble_eq_true rfl) ⟨Nat.le_of_ble_eq_true rfl, Nat.le_of_ble_eq_true rfl⟩ dX12_stores_139 (fun s48 F49 hZ51 h52 => ?_)
        exact zr_vret hC hZ51 h52 dX12_stores_142
      · have h53 := h34.2 c35
        refine g_aload_n hC dX12_stores_83 rfl ?_
        refine g_iload_n hC dX12_stores_84 rfl ?_
        refine g_iload_n hC dX12_stores_85 rfl ?_
        refine zr_iadd hC dX12_stores_86 ?_
        refine zr_w (fun z54 e55 R56 => ?_)
        have h57 := h53 z54 e55 R56
        refine zr_i2l hC dX12_stores_87 R56 ?_
        refine g_iload hC dX12_stores_88 rfl ?_
        refine zr_callVv (As := [.long (zJ z54), .int (zI r25)]) hC hZ29 rfl (rm_write X.la d b (zR_L R56) R28 hZ29.rf h57) cl_X12_874 rfl rfl (Nat.le_of_ble_eq_true rfl) ⟨Nat.le_of_ble_eq_true rfl, Nat.le_of_ble_eq_true rfl⟩ dX12_stores_90 (fun s59 F60 hZ62 h63 => ?_)
        exact zr_vret hC hZ62 h63 dX12_stores_93
    · have h64 := h10.2 c11
      refine g_aload_n hC dX12_stores_38 rfl ?_
      refine zr_callVi (As := []) hC hZ rfl (rm_pop X.la d b  hZ.rf h64) cl_X12_810 rfl rfl (Nat.le_of_ble_eq_true rfl) ⟨Nat.le_of_ble_eq_true rfl, Nat.le_of_ble_eq_true rfl⟩ dX12_stores_39 (fun r65 s66 F67 R68 hZ69 h70 => ?_)
      refine g_istore_n (lv' := [some (.ref t), some (.int (zI a0)), some (.int (zI r65)), none, none, none, none, none]) hC dX12_stores_42 (Nat.le_of_ble_eq_true rfl) rfl rfl ?_
      refine g_aload_n hC dX12_stores_43 rfl ?_
      refine g_iload_n hC dX12_stores_44 rfl ?_
      refine zr_i2l hC dX12_stores_45 R68 ?_
      refine g_aload_n hC dX12_stores_46 rfl ?_
      refine zr_callVi (As := []) hC hZ69 rfl (rm_pop X.la d b  hZ69.rf h70) cl_X12_810 rfl rfl (Nat.le_of_ble_eq_true rfl) ⟨Nat.le_of_ble_eq_true rfl, Nat.le_of_ble_eq_true rfl⟩ dX12_stores_47 (fun r71 s72 F73 R74 hZ75 h76 => ?_)
      refine zr_callVv (As := [.long (zJ r65), .int (zI r71)]) hC hZ75 rfl (rm_write X.la d b (zR_L R68) R74 hZ75.rf h76) cl_X12_874 rfl rfl (Nat.le_of_ble_eq_true rfl) ⟨Nat.le_of_ble_eq_true rfl, Nat.le_of_ble_eq_true rfl⟩ dX12_stores_50 (fun s78 F79 hZ81 h82 => ?_)
      refine g_goto (tgt := 142) hC dX12_stores_53 (by decide) ?_
      exact zr_vret hC hZ81 h82 dX12_stores_142
  · have h83 := h4.2 c5
    refine g_aload_n hC dX12_stores_10 rfl ?_
    refine zr_geta hC hZ fl_X12_312 zb_98 (by decide) dX12_stores_11 ?_
    refine g_aload_n hC dX12_stores_14 rfl ?_
    refine g_iload_n hC dX12_stores_15 rfl ?_
    refine zr_callVi (As := [.int (zI a0)]) hC hZ rfl (rm_wordOf X.la d b Ra0 hZ.rf h83) cl_X12_798 rfl rfl (Nat.le_of_ble_eq_true rfl) ⟨Nat.le_of_ble_eq_true rfl, Nat.le_of_ble_eq_true rfl⟩ dX12_stores_16 (fun r84 s85 F86 R87 hZ88 h89 => ?_)
    refine g_aload_n hC dX12_stores_19 rfl ?_
    refine zr_callVi (As := []) hC hZ88 rfl (rm_pop X.la d b  hZ88.rf h89) cl_X12_810 rfl rfl (Nat.le_of_ble_eq_true rfl) ⟨Nat.le_of_ble_eq_true rfl, Nat.le_of_ble_eq_true rfl⟩ dX12_stores_20 (fun r90 s91 F92 R93 hZ94 h95 => ?_)
    obtain ⟨o96, h97⟩ := h95
    obtain ⟨o98, h99⟩ := h97
    refine zr_iast hC hZ94 zk_98 zb_98 zn_98 (by decide) o96 o98 R93 dX12_stores_23 (fun F100 hZ101 => ?_)
    refine g_goto (tgt := 142) hC dX12_stores_24 (by decide) ?_
    exact zr_vret hC hZ101 h99 dX12_stores_142
theorem dX12_isStep_0 : decode cX12_isStep 0 = .ok (.iload_n 1, 1) := by decide +kernel
theorem dX12_isStep_1 : decode cX12_isStep 1 = .ok (.bipush 27, 2) := by decide +kernel
theorem dX12_isStep_3 : decode cX12_isStep 3 = .ok (.if_icmp .ne 33, 3) := by decide +kernel
theorem dX12_isStep_6 : decode cX12_isStep 6 = .ok (.iload_n 3, 1) := by decide +kernel
theorem dX12_isStep_7 : decode cX12_isStep 7 = .ok (.iconst 1, 1) := by decide +kernel
theorem dX12_isStep_8 : decode cX12_isStep 8 = .ok (.if_icmp .ne 28, 3) := by decide +kernel
theorem dX12_isStep_11 : decode cX12_isStep 11 = .ok (.aload_n 0, 1) := by decide +kernel
theorem dX12_isStep_12 : decode cX12_isStep 12 = .ok (.getfield 312, 3) := by decide +kernel
theorem dX12_isStep_15 : decode cX12_isStep 15 = .ok (.aload_n 0, 1) := by decide +kernel
theorem dX12_isStep_16 : decode cX12_isStep 16 = .ok (.getfield 305, 3) := by decide +kernel
theorem dX12_isStep_19 : decode cX12_isStep 19 = .ok (.aload_n 0, 1) := by decide +kernel
theorem dX12_isStep_20 : decode cX12_isStep 20 = .ok (.getfield 105, 3) := by decide +kernel
theorem dX12_isStep_23 : decode cX12_isStep 23 = .ok (.iload_n 2, 1) := by decide +kernel
theorem dX12_isStep_24 : decode cX12_isStep 24 = .ok (.iaload, 1) := by decide +kernel
theorem dX12_isStep_25 : decode cX12_isStep 25 = .ok (.iadd, 1) := by decide +kernel
theorem dX12_isStep_26 : decode cX12_isStep 26 = .ok (.dup2, 1) := by decide +kernel
theorem dX12_isStep_27 : decode cX12_isStep 27 = .ok (.iaload, 1) := by decide +kernel
theorem dX12_isStep_28 : decode cX12_isStep 28 = .ok (.aload_n 0, 1) := by decide +kernel
theorem dX12_isStep_29 : decode cX12_isStep 29 = .ok (.getfield 102, 3) := by decide +kernel
theorem dX12_isStep_32 : decode cX12_isStep 32 = .ok (.iload_n 2, 1) := by decide +kernel
theorem dX12_isStep_33 : decode cX12_isStep 33 = .ok (.iaload, 1) := by decide +kernel
theorem dX12_isStep_34 : decode cX12_isStep 34 = .ok (.iadd, 1) := by decide +kernel
theorem dX12_isStep_35 : decode cX12_isStep 35 = .ok (.iastore, 1) := by decide +kernel
theorem dX12_isStep_36 : decode cX12_isStep 36 = .ok (.iconst 1, 1) := by decide +kernel
theorem dX12_isStep_37 : decode cX12_isStep 37 = .ok (.ireturn, 1) := by decide +kernel
def wr_isStep (s0 : zS) (a0 : Int) (a1 : Int) (a2 : Int) (Q : Int → zS → Prop) : Prop :=
  ((¬ a0 = 27 → Q 1 s0) ∧ (a0 = 27 → ((¬ a2 = 1 → Q 1 s0) ∧ (a2 = 1 → (0 ≤ a1) ∧ (a1 < 26000) ∧ (0 ≤ ((zv s0 96) + (za s0 31 (Int.toNat a1)))) ∧ (((zv s0 96) + (za s0 31 (Int.toNat a1))) < 65536) ∧ (0 ≤ a1) ∧ (a1 < 26000) ∧ ∀ z19 : Int, z19 = zw ((za s0 98 (Int.toNat ((zv s0 96) + (za s0 31 (Int.toNat a1))))) + (za s0 30 (Int.toNat a1))) → zR z19 → (0 ≤ ((zv s0 96) + (za s0 31 (Int.toNat a1)))) ∧ (((zv s0 96) + (za s0 31 (Int.toNat a1))) < 65536) ∧ Q 1 (zpa s0 98 (Int.toNat ((zv s0 96) + (za s0 31 (Int.toNat a1)))) z19)))))
set_option maxHeartbeats 4000000 in
set_option maxRecDepth 100000 in
theorem rm_isStep (l : Launch) (d : gD) (b : Nat) {t : Nat} {T : Nat → Nat} {F : gM} {s0 : zS} {a0 : Int} {a1 : Int} {a2 : Int} (Ra0 : zR a0) (Ra1 : zR a1) (Ra2 : zR a2) {Q : Int → zS → Prop} (hZ : zZ d t T F F s0) (hw : wr_isStep s0 a0 a1 a2 Q) : gMi l d b yX12_isStep cX12_isStep 4 .boolean 0 0 0 F [.ref t, .int (zI a0), .int (zI a1), .int (zI a2)] (zPi d t T F Q) := by
  refine gM_of2 rfl (nL := 4) (Nat.le_of_ble_eq_true rfl) ?_
  intro X hX hC; subst hX
  show gG X d b (zQi X d b t T F Q) F 0 0 0 [some (.ref t), some (.int (zI a0)), some (.int (zI a1)), some (.int (zI a2))] []
  unfold wr_isStep at hw
  refine g_iload_n hC dX12_isStep_0 rfl ?_
  refine g_bipush (v := zI 27) hC dX12_isStep_1 rfl ?_
  refine zr_icmp_ne (tgt := 36) hC Ra0 (by decide) dX12_isStep_3 (by decide) (fun c1 => ?_) (fun c1 => ?_)
  · have h2 := hw.1 c1
    refine g_iconst (v := zI 1) hC dX12_isStep_36 rfl ?_
    exact zr_zret hC hZ (Or.inr rfl) h2 dX12_isStep_37
  · have h3 := hw.2 c1
    refine g_iload_n hC dX12_isStep_6 rfl ?_
    refine g_iconst (v := zI 1) hC dX12_isStep_7 rfl ?_
    refine zr_icmp_ne (tgt := 36) hC Ra2 (by decide) dX12_isStep_8 (by decide) (fun c4 => ?_) (fun c4 => ?_)
    · have h5 := h3.1 c4
      refine g_iconst (v := zI 1) hC dX12_isStep_36 rfl ?_
      exact zr_zret hC hZ (Or.inr rfl) h5 dX12_isStep_37
    · have h6 := h3.2 c4
      refine g_aload_n hC dX12_isStep_11 rfl ?_
      refine zr_geta hC hZ fl_X12_312 zb_98 (by decide) dX12_isStep_12 ?_
      refine g_aload_n hC dX12_isStep_15 rfl ?_
      refine zr_get (e := (zv s0 96)) hC hZ fl_X12_305 zb_96 (by decide) rfl dX12_isStep_16 ?_
      refine g_aload_n hC dX12_isStep_19 rfl ?_
      refine zr_geta hC hZ fl_X12_105 zb_31 (by decide) dX12_isStep_20 ?_
      refine g_iload_n hC dX12_isStep_23 rfl ?_
      obtain ⟨o7, h8⟩ := h6
      obtain ⟨o9, h10⟩ := h8
      refine zr_iald (v := (za s0 31 (Int.toNat a1))) hC hZ zk_31 zb_31 zn_31 (by decide) o7 o9 rfl dX12_isStep_24 ?_
      refine zr_iadd hC dX12_isStep_25 ?_
      refine g_dup2 hC dX12_isStep_26 rfl rfl ?_
      obtain ⟨o11, h12⟩ := h10
      obtain ⟨o13, h14⟩ := h12
      refine zr_iald (v := (za s0 98 (Int.toNat ((zv s0 96) + (za s0 31 (Int.toNat a1)))))) hC hZ zk_98 zb_98 zn_98 (by decide) o11 o13 rfl dX12_isStep_27 ?_
      refine g_aload_n hC dX12_isStep_28 rfl ?_
      refine zr_geta hC hZ fl_X12_102 zb_30 (by decide) dX12_isStep_29 ?_
      refine g_iload_n hC dX12_isStep_32 rfl ?_
      obtain ⟨o15, h16⟩ := h14
      obtain ⟨o17, h18⟩ := h16
      refine zr_iald (v := (za s0 30 (Int.toNat a1))) hC hZ zk_30 zb_30 zn_30 (by decide) o15 o17 rfl dX12_isStep_33 ?_
      refine zr_iadd hC dX12_isStep_34 ?_
      refine zr_w (fun z19 e20 R21 => ?_)
      have h22 := h18 z19 e20 R21
      obtain ⟨o23, h24⟩ := h22
      obtain ⟨o25, h26⟩ := h24
      refine zr_iast hC hZ zk_98 zb_98 zn_98 (by decide) o23 o25 R21 dX12_isStep_35 (fun F27 hZ28 => ?_)
      refine g_iconst (v := zI 1) hC dX12_isStep_36 rfl ?_
      exact zr_zret hC hZ28 (Or.inr rfl) h26 dX12_isStep_37
theorem dX12_loop_0 : decode cX12_loop 0 = .ok (.aload_n 0, 1) := by decide +kernel
theorem dX12_loop_1 : decode cX12_loop 1 = .ok (.getfield 87, 3) := by decide +kernel
theorem dX12_loop_4 : decode cX12_loop 4 = .ok (.iload_n 1, 1) := by decide +kernel
theorem dX12_loop_5 : decode cX12_loop 5 = .ok (.baload, 1) := by decide +kernel
theorem dX12_loop_6 : decode cX12_loop 6 = .ok (.istore_n 3, 1) := by decide +kernel
theorem dX12_loop_7 : decode cX12_loop 7 = .ok (.aload_n 0, 1) := by decide +kernel
theorem dX12_loop_8 : decode cX12_loop 8 = .ok (.getfield 93, 3) := by decide +kernel
theorem dX12_loop_11 : decode cX12_loop 11 = .ok (.iload_n 1, 1) := by decide +kernel
theorem dX12_loop_12 : decode cX12_loop 12 = .ok (.iaload, 1) := by decide +kernel
theorem dX12_loop_13 : decode cX12_loop 13 = .ok (.istore 4, 2) := by decide +kernel
theorem dX12_loop_15 : decode cX12_loop 15 = .ok (.aload_n 0, 1) := by decide +kernel
theorem dX12_loop_16 : decode cX12_loop 16 = .ok (.iload_n 3, 1) := by decide +kernel
theorem dX12_loop_17 : decode cX12_loop 17 = .ok (.iload_n 1, 1) := by decide +kernel
theorem dX12_loop_18 : decode cX12_loop 18 = .ok (.iload_n 2, 1) := by decide +kernel
theorem dX12_loop_19 : decode cX12_loop 19 = .ok (.invokevirtual 878, 3) := by decide +kernel
theorem dX12_loop_22 : decode cX12_loop 22 = .ok (.ifCond .eq 10, 3) := by decide +kernel
theorem dX12_loop_25 : decode cX12_loop 25 = .ok (.aload_n 0, 1) := by decide +kernel
theorem dX12_loop_26 : decode cX12_loop 26 = .ok (.invokevirtual 817, 3) := by decide +kernel
theorem dX12_loop_29 : decode cX12_loop 29 = .ok (.ifCond .ne 4, 3) := by decide +kernel
theorem dX12_loop_32 : decode cX12_loop 32 = .ok (.return_, 1) := by decide +kernel
theorem dX12_loop_33 : decode cX12_loop 33 = .ok (.iload_n 3, 1) := by decide +kernel
theorem dX12_loop_34 : decode cX12_loop 34 = .ok (.bipush 25, 2) := by decide +kernel
theorem dX12_loop_36 : decode cX12_loop 36 = .ok (.if_icmp .eq 9, 3) := by decide +kernel
theorem dX12_loop_39 : decode cX12_loop 39 = .ok (.iload_n 3, 1) := by decide +kernel
theorem dX12_loop_40 : decode cX12_loop 40 = .ok (.bipush 26, 2) := by decide +kernel
theorem dX12_loop_42 : decode cX12_loop 42 = .ok (.if_icmp .ne 30, 3) := by decide +kernel
theorem dX12_loop_45 : decode cX12_loop 45 = .ok (.aload_n 0, 1) := by decide +kernel
theorem dX12_loop_46 : decode cX12_loop 46 = .ok (.bipush 15, 2) := by decide +kernel
theorem dX12_loop_48 : decode cX12_loop 48 = .ok (.iload_n 1, 1) := by decide +kernel
theorem dX12_loop_49 : decode cX12_loop 49 = .ok (.iconst 0, 1) := by decide +kernel
theorem dX12_loop_50 : decode cX12_loop 50 = .ok (.invokevirtual 801, 3) := by decide +kernel
theorem dX12_loop_53 : decode cX12_loop 53 = .ok (.aload_n 0, 1) := by decide +kernel
theorem dX12_loop_54 : decode cX12_loop 54 = .ok (.bipush 16, 2) := by decide +kernel
theorem dX12_loop_56 : decode cX12_loop 56 = .ok (.iload_n 1, 1) := by decide +kernel
theorem dX12_loop_57 : decode cX12_loop 57 = .ok (.iconst 0, 1) := by decide +kernel
theorem dX12_loop_58 : decode cX12_loop 58 = .ok (.invokevirtual 801, 3) := by decide +kernel
theorem dX12_loop_61 : decode cX12_loop 61 = .ok (.aload_n 0, 1) := by decide +kernel
theorem dX12_loop_62 : decode cX12_loop 62 = .ok (.iconst 1, 1) := by decide +kernel
theorem dX12_loop_63 : decode cX12_loop 63 = .ok (.iload 4, 2) := by decide +kernel
theorem dX12_loop_65 : decode cX12_loop 65 = .ok (.iconst 0, 1) := by decide +kernel
theorem dX12_loop_66 : decode cX12_loop 66 = .ok (.invokevirtual 801, 3) := by decide +kernel
theorem dX12_loop_69 : decode cX12_loop 69 = .ok (.goto 145, 3) := by decide +kernel
theorem dX12_loop_72 : decode cX12_loop 72 = .ok (.iload_n 3, 1) := by decide +kernel
theorem dX12_loop_73 : decode cX12_loop 73 = .ok (.bipush 38, 2) := by decide +kernel
theorem dX12_loop_75 : decode cX12_loop 75 = .ok (.if_icmp .ne 23, 3) := by decide +kernel
theorem dX12_loop_78 : decode cX12_loop 78 = .ok (.aload_n 0, 1) := by decide +kernel
theorem dX12_loop_79 : decode cX12_loop 79 = .ok (.bipush 15, 2) := by decide +kernel
theorem dX12_loop_81 : decode cX12_loop 81 = .ok (.iload_n 1, 1) := by decide +kernel
theorem dX12_loop_82 : decode cX12_loop 82 = .ok (.iconst 0, 1) := by decide +kernel
theorem dX12_loop_83 : decode cX12_loop 83 = .ok (.invokevirtual 801, 3) := by decide +kernel
theorem dX12_loop_86 : decode cX12_loop 86 = .ok (.aload_n 0, 1) := by decide +kernel
theorem dX12_loop_87 : decode cX12_loop 87 = .ok (.bipush 10, 2) := by decide +kernel
theorem dX12_loop_89 : decode cX12_loop 89 = .ok (.iload 4, 2) := by decide +kernel
theorem dX12_loop_91 : decode cX12_loop 91 = .ok (.iconst 0, 1) := by decide +kernel
theorem dX12_loop_92 : decode cX12_loop 92 = .ok (.invokevirtual 801, 3) := by decide +kernel
theorem dX12_loop_95 : decode cX12_loop 95 = .ok (.goto 119, 3) := by decide +kernel
theorem dX12_loop_98 : decode cX12_loop 98 = .ok (.iload_n 3, 1) := by decide +kernel
theorem dX12_loop_99 : decode cX12_loop 99 = .ok (.bipush 27, 2) := by decide +kernel
theorem dX12_loop_101 : decode cX12_loop 101 = .ok (.if_icmp .ne 92, 3) := by decide +kernel
theorem dX12_loop_104 : decode cX12_loop 104 = .ok (.aload_n 0, 1) := by decide +kernel
theorem dX12_loop_105 : decode cX12_loop 105 = .ok (.getfield 312, 3) := by decide +kernel
theorem dX12_loop_108 : decode cX12_loop 108 = .ok (.aload_n 0, 1) := by decide +kernel
theorem dX12_loop_109 : decode cX12_loop 109 = .ok (.getfield 305, 3) := by decide +kernel
theorem dX12_loop_112 : decode cX12_loop 112 = .ok (.aload_n 0, 1) := by decide +kernel
theorem dX12_loop_113 : decode cX12_loop 113 = .ok (.getfield 105, 3) := by decide +kernel
theorem dX12_loop_116 : decode cX12_loop 116 = .ok (.iload_n 1, 1) := by decide +kernel
theorem dX12_loop_117 : decode cX12_loop 117 = .ok (.iaload, 1) := by decide +kernel
theorem dX12_loop_118 : decode cX12_loop 118 = .ok (.iadd, 1) := by decide +kernel
theorem dX12_loop_119 : decode cX12_loop 119 = .ok (.iaload, 1) := by decide +kernel
theorem dX12_loop_120 : decode cX12_loop 120 = .ok (.istore 5, 2) := by decide +kernel
theorem dX12_loop_122 : decode cX12_loop 122 = .ok (.aload_n 0, 1) := by decide +kernel
theorem dX12_loop_123 : decode cX12_loop 123 = .ok (.getfield 312, 3) := by decide +kernel
theorem dX12_loop_126 : decode cX12_loop 126 = .ok (.aload_n 0, 1) := by decide +kernel
theorem dX12_loop_127 : decode cX12_loop 127 = .ok (.getfield 305, 3) := by decide +kernel
theorem dX12_loop_130 : decode cX12_loop 130 = .ok (.aload_n 0, 1) := by decide +kernel
theorem dX12_loop_131 : decode cX12_loop 131 = .ok (.getfield 105, 3) := by decide +kernel
theorem dX12_loop_134 : decode cX12_loop 134 = .ok (.iload_n 1, 1) := by decide +kernel
theorem dX12_loop_135 : decode cX12_loop 135 = .ok (.iaload, 1) := by decide +kernel
theorem dX12_loop_136 : decode cX12_loop 136 = .ok (.iadd, 1) := by decide +kernel
theorem dX12_loop_137 : decode cX12_loop 137 = .ok (.iconst 1, 1) := by decide +kernel
theorem dX12_loop_138 : decode cX12_loop 138 = .ok (.iadd, 1) := by decide +kernel
theorem dX12_loop_139 : decode cX12_loop 139 = .ok (.iaload, 1) := by decide +kernel
theorem dX12_loop_140 : decode cX12_loop 140 = .ok (.istore 6, 2) := by decide +kernel
theorem dX12_loop_142 : decode cX12_loop 142 = .ok (.aload_n 0, 1) := by decide +kernel
theorem dX12_loop_143 : decode cX12_loop 143 = .ok (.getfield 102, 3) := by decide +kernel
theorem dX12_loop_146 : decode cX12_loop 146 = .ok (.iload_n 1, 1) := by decide +kernel
theorem dX12_loop_147 : decode cX12_loop 147 = .ok (.iaload, 1) := by decide +kernel
theorem dX12_loop_148 : decode cX12_loop 148 = .ok (.ifCond .ge 13, 3) := by decide +kernel
theorem dX12_loop_151 : decode cX12_loop 151 = .ok (.iload 5, 2) := by decide +kernel
theorem dX12_loop_153 : decode cX12_loop 153 = .ok (.iload 6, 2) := by decide +kernel
theorem dX12_loop_155 : decode cX12_loop 155 = .ok (.if_icmp .ge 14, 3) := by decide +kernel
theorem dX12_loop_158 : decode cX12_loop 158 = .ok (.goto 10, 3) := by decide +kernel
theorem dX12_loop_161 : decode cX12_loop 161 = .ok (.iload 5, 2) := by decide +kernel
theorem dX12_loop_163 : decode cX12_loop 163 = .ok (.iload 6, 2) := by decide +kernel
theorem dX12_loop_165 : decode cX12_loop 165 = .ok (.if_icmp .le 4, 3) := by decide +kernel
theorem dX12_loop_168 : decode cX12_loop 168 = .ok (.return_, 1) := by decide +kernel
theorem dX12_loop_169 : decode cX12_loop 169 = .ok (.aload_n 0, 1) := by decide +kernel
theorem dX12_loop_170 : decode cX12_loop 170 = .ok (.bipush 15, 2) := by decide +kernel
theorem dX12_loop_172 : decode cX12_loop 172 = .ok (.iload_n 1, 1) := by decide +kernel
theorem dX12_loop_173 : decode cX12_loop 173 = .ok (.iconst 1, 1) := by decide +kernel
theorem dX12_loop_174 : decode cX12_loop 174 = .ok (.invokevirtual 801, 3) := by decide +kernel
theorem dX12_loop_177 : decode cX12_loop 177 = .ok (.aload_n 0, 1) := by decide +kernel
theorem dX12_loop_178 : decode cX12_loop 178 = .ok (.bipush 10, 2) := by decide +kernel
theorem dX12_loop_180 : decode cX12_loop 180 = .ok (.aload_n 0, 1) := by decide +kernel
theorem dX12_loop_181 : decode cX12_loop 181 = .ok (.getfield 99, 3) := by decide +kernel
theorem dX12_loop_184 : decode cX12_loop 184 = .ok (.iload_n 1, 1) := by decide +kernel
theorem dX12_loop_185 : decode cX12_loop 185 = .ok (.iaload, 1) := by decide +kernel
theorem dX12_loop_186 : decode cX12_loop 186 = .ok (.iconst 0, 1) := by decide +kernel
theorem dX12_loop_187 : decode cX12_loop 187 = .ok (.invokevirtual 801, 3) := by decide +kernel
theorem dX12_loop_190 : decode cX12_loop 190 = .ok (.goto 24, 3) := by decide +kernel
theorem dX12_loop_193 : decode cX12_loop 193 = .ok (.aload_n 0, 1) := by decide +kernel
theorem dX12_loop_194 : decode cX12_loop 194 = .ok (.bipush 16, 2) := by decide +kernel
theorem dX12_loop_196 : decode cX12_loop 196 = .ok (.iload_n 1, 1) := by decide +kernel
theorem dX12_loop_197 : decode cX12_loop 197 = .ok (.iconst 0, 1) := by decide +kernel
theorem dX12_loop_198 : decode cX12_loop 198 = .ok (.invokevirtual 801, 3) := by decide +kernel
theorem dX12_loop_201 : decode cX12_loop 201 = .ok (.aload_n 0, 1) := by decide +kernel
theorem dX12_loop_202 : decode cX12_loop 202 = .ok (.iconst 1, 1) := by decide +kernel
theorem dX12_loop_203 : decode cX12_loop 203 = .ok (.aload_n 0, 1) := by decide +kernel
theorem dX12_loop_204 : decode cX12_loop 204 = .ok (.getfield 96, 3) := by decide +kernel
theorem dX12_loop_207 : decode cX12_loop 207 = .ok (.iload 4, 2) := by decide +kernel
theorem dX12_loop_209 : decode cX12_loop 209 = .ok (.iaload, 1) := by decide +kernel
theorem dX12_loop_210 : decode cX12_loop 210 = .ok (.iconst 0, 1) := by decide +kernel
theorem dX12_loop_211 : decode cX12_loop 211 = .ok (.invokevirtual 801, 3) := by decide +kernel
theorem dX12_loop_214 : decode cX12_loop 214 = .ok (.return_, 1) := by decide +kernel
def wr_loop (s0 : zS) (a0 : Int) (a1 : Int) (Q : zS → Prop) : Prop :=
  (0 ≤ a0) ∧ (a0 < 26000) ∧ (0 ≤ a0) ∧ (a0 < 26000) ∧ wr_isStep s0 (za s0 25 (Int.toNat a0)) a0 a1 (fun r9 s10 => ((r9 = 0 → Q s10) ∧ (¬ r9 = 0 → wr_burns s10  (fun r18 s19 => ((¬ r18 = 0 → (((za s0 25 (Int.toNat a0)) = 25 → wr_todoTask s19 15 a0 0 (fun s29 => wr_todoTask s29 16 a0 0 (fun s35 => wr_todoTask s35 1 (za s0 27 (Int.toNat a0)) 0 (fun s41 => Q s41)))) ∧ (¬ (za s0 25 (Int.toNat a0)) = 25 → ((¬ (za s0 25 (Int.toNat a0)) = 26 → ((¬ (za s0 25 (Int.toNat a0)) = 38 → ((¬ (za s0 25 (Int.toNat a0)) = 27 → wr_todoTask s19 16 a0 0 (fun s54 => (0 ≤ (za s0 27 (Int.toNat a0))) ∧ ((za s0 27 (Int.toNat a0)) < 26000) ∧ wr_todoTask s54 1 (za s54 28 (Int.toNat (za s0 27 (Int.toNat a0)))) 0 (fun s64 => Q s64))) ∧ ((za s0 25 (Int.toNat a0)) = 27 → (0 ≤ a0) ∧ (a0 < 26000) ∧ (0 ≤ ((zv s19 96) + (za s19 31 (Int.toNat a0)))) ∧ (((zv s19 96) + (za s19 31 (Int.toNat a0))) < 65536) ∧ (0 ≤ a0) ∧ (a0 < 26000) ∧ (0 ≤ (((zv s19 96) + (za s19 31 (Int.toNat a0))) + 1)) ∧ ((((zv s19 96) + (za s19 31 (Int.toNat a0))) + 1) < 65536) ∧ (0 ≤ a0) ∧ (a0 < 26000) ∧ ((0 ≤ (za s19 30 (Int.toNat a0)) → (((za s19 98 (Int.toNat ((zv s19 96) + (za s19 31 (Int.toNat a0))))) ≤ (za s19 98 (Int.toNat (((zv s19 96) + (za s19 31 (Int.toNat a0))) + 1))) → wr_todoTask s19 15 a0 1 (fun s95 => (0 ≤ a0) ∧ (a0 < 26000) ∧ wr_todoTask s95 10 (za s95 29 (Int.toNat a0)) 0 (fun s105 => Q s105))) ∧ (¬ (za s19 98 (Int.toNat ((zv s19 96) + (za s19 31 (Int.toNat a0))))) ≤ (za s19 98 (Int.toNat (((zv s19 96) + (za s19 31 (Int.toNat a0))) + 1))) → Q s19))) ∧ (¬ 0 ≤ (za s19 30 (Int.toNat a0)) → (((za s19 98 (Int.toNat (((zv s19 96) + (za s19 31 (Int.toNat a0))) + 1))) ≤ (za s19 98 (Int.toNat ((zv s19 96) + (za s19 31 (Int.toNat a0))))) → wr_todoTask s19 15 a0 1 (fun s115 => (0 ≤ a0) ∧ (a0 < 26000) ∧ wr_todoTask s115 10 (za s115 29 (Int.toNat a0)) 0 (fun s125 => Q s125))) ∧ (¬ (za s19 98 (Int.toNat (((zv s19 96) + (za s19 31 (Int.toNat a0))) + 1))) ≤ (za s19 98 (Int.toNat ((zv s19 96) + (za s19 31 (Int.toNat a0))))) → Q s19))))))) ∧ ((za s0 25 (Int.toNat a0)) = 38 → wr_todoTask s19 15 a0 0 (fun s133 => wr_todoTask s133 10 (za s0 27 (Int.toNat a0)) 0 (fun s139 => Q s139))))) ∧ ((za s0 25 (Int.toNat a0)) = 26 → wr_todoTask s19 15 a0 0 (fun s146 => wr_todoTask s146 16 a0 0 (fun s152 => wr_todoTask s152 1 (za s0 27 (Int.toNat a0)) 0 (fun s158 => Q s158)))))))) ∧ (r18 = 0 → Q s19))))))
set_option maxHeartbeats 4000000 in
set_option maxRecDepth 100000 in
theorem rm_loop (l : Launch) (d : gD) (b : Nat) {t : Nat} {T : Nat → Nat} {F : gM} {s0 : zS} {a0 : Int} {a1 : Int} (Ra0 : zR a0) (Ra1 : zR a1) {Q : zS → Prop} (hZ : zZ d t T F F s0) (hw : wr_loop s0 a0 a1 Q) : gMv l d b yX12_loop cX12_loop 7 2 0 0 F [.ref t, .int (zI a0), .int (zI a1)] (zPv d t T F Q) := by
  refine gM_of2 rfl (nL := 7) (Nat.le_of_ble_eq_true rfl) ?_
  intro X hX hC; subst hX
  show gG X d b (zQv X d b t T F Q) F 0 0 0 [some (.ref t), some (.int (zI a0)), some (.int (zI a1)), none, none, none, none] []
  unfold wr_loop at hw
  refine g_aload_n hC dX12_loop_0 rfl ?_
  refine zr_geta hC hZ fl_X12_87 zb_25 (by decide) dX12_loop_1 ?_
  refine g_iload_n hC dX12_loop_4 rfl ?_
  obtain ⟨o1, h2⟩ := hw
  obtain ⟨o3, h4⟩ := h2
  refine zr_bald (v := (za s0 25 (Int.toNat a0))) hC hZ zk_25 zb_25 zn_25 (by decide) o1 o3 rfl dX12_loop_5 ?_
  refine g_istore_n (lv' := [some (.ref t), some (.int (zI a0)), some (.int (zI a1)), some (.int (zI (za s0 25 (Int.toNat a0)))), none, none, none]) hC dX12_loop_6 (Nat.le_of_ble_eq_true rfl) rfl rfl ?_
  refine g_aload_n hC dX12_loop_7 rfl ?_
  refine zr_geta hC hZ fl_X12_93 zb_27 (by decide) dX12_loop_8 ?_
  refine g_iload_n hC dX12_loop_11 rfl ?_
  obtain ⟨o5, h6⟩ := h4
  obtain ⟨o7, h8⟩ := h6
  refine zr_iald (v := (za s0 27 (Int.toNat a0))) hC hZ zk_27 zb_27 zn_27 (by decide) o5 o7 rfl dX12_loop_12 ?_
  refine g_istore (lv' := [some (.ref t), some (.int (zI a0)), some (.int (zI a1)), some (.int (zI (za s0 25 (Int.toNat a0)))), some (.int (zI (za s0 27 (Int.toNat a0)))), none, none]) hC dX12_loop_13 (Nat.le_of_ble_eq_true rfl) rfl rfl ?_
  refine g_aload_n hC dX12_loop_15 rfl ?_
  refine g_iload_n hC dX12_loop_16 rfl ?_
  refine g_iload_n hC dX12_loop_17 rfl ?_
  refine g_iload_n hC dX12_loop_18 rfl ?_
  refine zr_callVi (As := [.int (zI (za s0 25 (Int.toNat a0))), .int (zI a0), .int (zI a1)]) hC hZ rfl (rm_isStep X.la d b (hZ.ra 25 _) Ra0 Ra1 hZ.rf h8) cl_X12_878 rfl rfl (Nat.le_of_ble_eq_true rfl) ⟨Nat.le_of_ble_eq_true rfl, Nat.le_of_ble_eq_true rfl⟩ dX12_loop_19 (fun r9 s10 F11 R12 hZ13 h14 => ?_)
  refine zr_if_eq (tgt := 32) hC R12 dX12_loop_22 (by decide) (fun c15 => ?_) (fun c15 => ?_)
  · have h16 := h14.1 c15
    exact zr_vret hC hZ13 h16 dX12_loop_32
  · have h17 := h14.2 c15
    refine g_aload_n hC dX12_loop_25 rfl ?_
    refine zr_callVi (As := []) hC hZ13 rfl (rm_burns X.la d b  hZ13.rf h17) cl_X12_817 rfl rfl (Nat.le_of_ble_eq_true rfl) ⟨Nat.le_of_ble_eq_true rfl, Nat.le_of_ble_eq_true rfl⟩ dX12_loop_26 (fun r18 s19 F20 R21 hZ22 h23 => ?_)
    refine zr_if_ne (tgt := 33) hC R21 dX12_loop_29 (by decide) (fun c24 => ?_) (fun c24 => ?_)
    · have h25 := h23.1 c24
      refine g_iload_n hC dX12_loop_33 rfl ?_
      refine g_bipush (v := zI 25) hC dX12_loop_34 rfl ?_
      refine zr_icmp_eq (tgt := 45) hC (hZ.ra 25 _) (by decide) dX12_loop_36 (by decide) (fun c26 => ?_) (fun c26 => ?_)
      · have h27 := h25.1 c26
        refine g_aload_n hC dX12_loop_45 rfl ?_
        refine g_bipush (v := zI 15) hC dX12_loop_46 rfl ?_
        refine g_iload_n hC dX12_loop_48 rfl ?_
        refine g_iconst (v := zI 0) hC dX12_loop_49 rfl ?_
        refine zr_callVv (As := [.int (zI 15), .int (zI a0), .int (zI 0)]) hC hZ22 rfl (rm_todoTask X.la d b (by decide) Ra0 (by decide) hZ22.rf h27) cl_X12_801 rfl rfl (Nat.le_of_ble_eq_true rfl) ⟨Nat.le_of_ble_eq_true rfl, Nat.le_of_ble_eq_true rfl⟩ dX12_loop_50 (fun s29 F30 hZ32 h33 => ?_)
        refine g_aload_n hC dX12_loop_53 rfl ?_
        refine g_bipush (v := zI 16) hC dX12_loop_54 rfl ?_
        refine g_iload_n hC dX12_loop_56 rfl ?_
        refine g_iconst (v := zI 0) hC dX12_loop_57 rfl ?_
        refine zr_callVv (As := [.int (zI 16), .int (zI a0), .int (zI 0)]) hC hZ32 rfl (rm_todoTask X.la d b (by decide) Ra0 (by decide) hZ32.rf h33) cl_X12_801 rfl rfl (Nat.le_of_ble_eq_true rfl) ⟨Nat.le_of_ble_eq_true rfl, Nat.le_of_ble_eq_true rfl⟩ dX12_loop_58 (fun s35 F36 hZ38 h39 => ?_)
        refine g_aload_n hC dX12_loop_61 rfl ?_
        refine g_iconst (v := zI 1) hC dX12_loop_62 rfl ?_
        refine g_iload hC dX12_loop_63 rfl ?_
        refine g_iconst (v := zI 0) hC dX12_loop_65 rfl ?_
        refine zr_callVv (As := [.int (zI 1), .int (zI (za s0 27 (Int.toNat a0))), .int (zI 0)]) hC hZ38 rfl (rm_todoTask X.la d b (by decide) (hZ.ra 27 _) (by decide) hZ38.rf h39) cl_X12_801 rfl rfl (Nat.le_of_ble_eq_true rfl) ⟨Nat.le_of_ble_eq_true rfl, Nat.le_of_ble_eq_true rfl⟩ dX12_loop_66 (fun s41 F42 hZ44 h45 => ?_)
        refine g_goto (tgt := 214) hC dX12_loop_69 (by decide) ?_
        exact zr_vret hC hZ44 h45 dX12_loop_214
      · have h46 := h25.2 c26
        refine g_iload_n hC dX12_loop_39 rfl ?_
        refine g_bipush (v := zI 26) hC dX12_loop_40 rfl ?_
        refine zr_icmp_ne (tgt := 72) hC (hZ.ra 25 _) (by decide) dX12_loop_42 (by decide) (fun c47 => ?_) (fun c47 => ?_)
        · have h48 := h46.1 c47
          refine g_iload_n hC dX12_loop_72 rfl ?_
          refine g_bipush (v := zI 38) hC dX12_loop_73 rfl ?_
          refine zr_icmp_ne (tgt := 98) hC (hZ.ra 25 _) (by decide) dX12_loop_75 (by decide) (fun c49 => ?_) (fun c49 => ?_)
          · have h50 := h48.1 c49
            refine g_iload_n hC dX12_loop_98 rfl ?_
            refine g_bipush (v := zI 27) hC dX12_loop_99 rfl ?_
            refine zr_icmp_ne (tgt := 193) hC (hZ.ra 25 _) (by decide) dX12_loop_101 (by decide) (fun c51 => ?_) (fun c51 => ?_)
            · have h52 := h50.1 c51
              refine g_aload_n hC dX12_loop_193 rfl ?_
              refine g_bipush (v := zI 16) hC dX12_loop_194 rfl ?_
              refine g_iload_n hC dX12_loop_196 rfl ?_
              refine g_iconst (v := zI 0) hC dX12_loop_197 rfl ?_
              refine zr_callVv (As := [.int (zI 16), .int (zI a0), .int (zI 0)]) hC hZ22 rfl (rm_todoTask X.la d b (by decide) Ra0 (by decide) hZ22.rf h52) cl_X12_801 rfl rfl (Nat.le_of_ble_eq_true rfl) ⟨Nat.le_of_ble_eq_true rfl, Nat.le_of_ble_eq_true rfl⟩ dX12_loop_198 (fun s54 F55 hZ57 h58 => ?_)
              refine g_aload_n hC dX12_loop_201 rfl ?_
              refine g_iconst (v := zI 1) hC dX12_loop_202 rfl ?_
              refine g_aload_n hC dX12_loop_203 rfl ?_
              refine zr_geta hC hZ57 fl_X12_96 zb_28 (by decide) dX12_loop_204 ?_
              refine g_iload hC dX12_loop_207 rfl ?_
              obtain ⟨o59, h60⟩ := h58
              obtain ⟨o61, h62⟩ := h60
              refine zr_iald (v := (za s54 28 (Int.toNat (za s0 27 (Int.toNat a0))))) hC hZ57 zk_28 zb_28 zn_28 (by decide) o59 o61 rfl dX12_loop_209 ?_
              refine g_iconst (v := zI 0) hC dX12_loop_210 rfl ?_
              refine zr_callVv (As := [.int (zI 1), .int (zI (za s54 28 (Int.toNat (za s0 27 (Int.toNat a0))))), .int (zI 0)]) hC hZ57 rfl (rm_todoTask X.la d b (by decide) (hZ57.ra 28 _) (by decide) hZ57.rf h62) cl_X12_801 rfl rfl (Nat.le_of_ble_eq_true rfl) ⟨Nat.le_of_ble_eq_true rfl, Nat.le_of_ble_eq_true rfl⟩ dX12_loop_211 (fun s64 F65 hZ67 h68 => ?_)
              exact zr_vret hC hZ67 h68 dX12_loop_214
            · have h69 := h50.2 c51
              refine g_aload_n hC dX12_loop_104 rfl ?_
              refine zr_geta hC hZ22 fl_X12_312 zb_98 (by decide) dX12_loop_105 ?_
              refine g_aload_n hC dX12_loop_108 rfl ?_
              refine zr_get (e := (zv s19 96)) hC hZ22 fl_X12_305 zb_96 (by decide) rfl dX12_loop_109 ?_
              refine g_aload_n hC dX12_loop_112 rfl ?_
              refine zr_geta hC hZ22 fl_X12_105 zb_31 (by decide) dX12_loop_113 ?_
              refine g_iload_n hC dX12_loop_116 rfl ?_
              obtain ⟨o70, h71⟩ := h69
              obtain ⟨o72, h73⟩ := h71
              refine zr_iald (v := (za s19 31 (Int.toNat a0))) hC hZ22 zk_31 zb_31 zn_31 (by decide) o70 o72 rfl dX12_loop_117 ?_
              refine zr_iadd hC dX12_loop_118 ?_
              obtain ⟨o74, h75⟩ := h73
              obtain ⟨o76, h77⟩ := h75
              refine zr_iald (v := (za s19 98 (Int.toNat ((zv s19 96) + (za s19 31 (Int.toNat a0)))))) hC hZ22 zk_98 zb_98 zn_98 (by decide) o74 o76 rfl dX12_loop_119 ?_
              refine g_istore (lv' := [some (.ref t), some (.int (zI a0)), some (.int (zI a1)), some (.int (zI (za s0 25 (Int.toNat a0)))), some (.int (zI (za s0 27 (Int.toNat a0)))), some (.int (zI (za s19 98 (Int.toNat ((zv s19 96) + (za s19 31 (Int.toNat a0))))))), none]) hC dX12_loop_120 (Nat.le_of_ble_eq_true rfl) rfl rfl ?_
              refine g_aload_n hC dX12_loop_122 rfl ?_
              refine zr_geta hC hZ22 fl_X12_312 zb_98 (by decide) dX12_loop_123 ?_
              refine g_aload_n hC dX12_loop_126 rfl ?_
              refine zr_get (e := (zv s19 96)) hC hZ22 fl_X12_305 zb_96 (by decide) rfl dX12_loop_127 ?_
              refine g_aload_n hC dX12_loop_130 rfl ?_
              refine zr_geta hC hZ22 fl_X12_105 zb_31 (by decide) dX12_loop_131 ?_
              refine g_iload_n hC dX12_loop_134 rfl ?_
              obtain ⟨o78, h79⟩ := h77
              obtain ⟨o80, h81⟩ := h79
              refine zr_iald (v := (za s19 31 (Int.toNat a0))) hC hZ22 zk_31 zb_31 zn_31 (by decide) o78 o80 rfl dX12_loop_135 ?_
              refine zr_iadd hC dX12_loop_136 ?_
              refine g_iconst (v := zI 1) hC dX12_loop_137 rfl ?_
              refine zr_iadd hC dX12_loop_138 ?_
              obtain ⟨o82, h83⟩ := h81
              obtain ⟨o84, h85⟩ := h83
              refine zr_iald (v := (za s19 98 (Int.toNat (((zv s19 96) + (za s19 31 (Int.toNat a0))) + 1)))) hC hZ22 zk_98 zb_98 zn_98 (by decide) o82 o84 rfl dX12_loop_139 ?_
              refine g_istore (lv' := [some (.ref t), some (.int (zI a0)), some (.int (zI a1)), some (.int (zI (za s0 25 (Int.toNat a0)))), some (.int (zI (za s0 27 (Int.toNat a0)))), some (.int (zI (za s19 98 (Int.toNat ((zv s19 96) + (za s19 31 (Int.toNat a0))))))), some (.int (zI (za s19 98 (Int.toNat (((zv s19 96) + (za s19 31 (Int.toNat a0))) + 1)))))]) hC dX12_loop_140 (Nat.le_of_ble_eq_true rfl) rfl rfl ?_
              refine g_aload_n hC dX12_loop_142 rfl ?_
              refine zr_geta hC hZ22 fl_X12_102 zb_30 (by decide) dX12_loop_143 ?_
              refine g_iload_n hC dX12_loop_146 rfl ?_
              obtain ⟨o86, h87⟩ := h85
              obtain ⟨o88, h89⟩ := h87
              refine zr_iald (v := (za s19 30 (Int.toNat a0))) hC hZ22 zk_30 zb_30 zn_30 (by decide) o86 o88 rfl dX12_loop_147 ?_
              refine zr_if_ge (tgt := 161) hC (hZ22.ra 30 _) dX12_loop_148 (by decide) (fun c90 => ?_) (fun c90 => ?_)
              · have h91 := h89.1 c90
                refine g_iload hC dX12_loop_161 rfl ?_
                refine g_iload hC dX12_loop_163 rfl ?_
                refine zr_icmp_le (tgt := 169) hC (hZ22.ra 98 _) (hZ22.ra 98 _) dX12_loop_165 (by decide) (fun c92 => ?_) (fun c92 => ?_)
                · have h93 := h91.1 c92
                  refine g_aload_n hC dX12_loop_169 rfl ?_
                  refine g_bipush (v := zI 15) hC dX12_loop_170 rfl ?_
                  refine g_iload_n hC dX12_loop_172 rfl ?_
                  refine g_iconst (v := zI 1) hC dX12_loop_173 rfl ?_
                  refine zr_callVv (As := [.int (zI 15), .int (zI a0), .int (zI 1)]) hC hZ22 rfl (rm_todoTask X.la d b (by decide) Ra0 (by decide) hZ22.rf h93) cl_X12_801 rfl rfl (Nat.le_of_ble_eq_true rfl) ⟨Nat.le_of_ble_eq_true rfl, Nat.le_of_ble_eq_true rfl⟩ dX12_loop_174 (fun s95 F96 hZ98 h99 => ?_)
                  refine g_aload_n hC dX12_loop_177 rfl ?_
                  refine g_bipush (v := zI 10) hC dX12_loop_178 rfl ?_
                  refine g_aload_n hC dX12_loop_180 rfl ?_
                  refine zr_geta hC hZ98 fl_X12_99 zb_29 (by decide) dX12_loop_181 ?_
                  refine g_iload_n hC dX12_loop_184 rfl ?_
                  obtain ⟨o100, h101⟩ := h99
                  obtain ⟨o102, h103⟩ := h101
                  refine zr_iald (v := (za s95 29 (Int.toNat a0))) hC hZ98 zk_29 zb_29 zn_29 (by decide) o100 o102 rfl dX12_loop_185 ?_
                  refine g_iconst (v := zI 0) hC dX12_loop_186 rfl ?_
                  refine zr_callVv (As := [.int (zI 10), .int (zI (za s95 29 (Int.toNat a0))), .int (zI 0)]) hC hZ98 rfl (rm_todoTask X.la d b (by decide) (hZ98.ra 29 _) (by decide) hZ98.rf h103) cl_X12_801 rfl rfl (Nat.le_of_ble_eq_true rfl) ⟨Nat.le_of_ble_eq_true rfl, Nat.le_of_ble_eq_true rfl⟩ dX12_loop_187 (fun s105 F106 hZ108 h109 => ?_)
                  refine g_goto (tgt := 214) hC dX12_loop_190 (by decide) ?_
                  exact zr_vret hC hZ108 h109 dX12_loop_214
                · have h110 := h91.2 c92
                  exact zr_vret hC hZ22 h110 dX12_loop_168
              · have h111 := h89.2 c90
                refine g_iload hC dX12_loop_151 rfl ?_
                refine g_iload hC dX12_loop_153 rfl ?_
                refine zr_icmp_ge (tgt := 169) hC (hZ22.ra 98 _) (hZ22.ra 98 _) dX12_loop_155 (by decide) (fun c112 => ?_) (fun c112 => ?_)
                · have h113 := h111.1 c112
                  refine g_aload_n hC dX12_loop_169 rfl ?_
                  refine g_bipush (v := zI 15) hC dX12_loop_170 rfl ?_
                  refine g_iload_n hC dX12_loop_172 rfl ?_
                  refine g_iconst (v := zI 1) hC dX12_loop_173 rfl ?_
                  refine zr_callVv (As := [.int (zI 15), .int (zI a0), .int (zI 1)]) hC hZ22 rfl (rm_todoTask X.la d b (by decide) Ra0 (by decide) hZ22.rf h113) cl_X12_801 rfl rfl (Nat.le_of_ble_eq_true rfl) ⟨Nat.le_of_ble_eq_true rfl, Nat.le_of_ble_eq_true rfl⟩ dX12_loop_174 (fun s115 F116 hZ118 h119 => ?_)
                  refine g_aload_n hC dX12_loop_177 rfl ?_
                  refine g_bipush (v := zI 10) hC dX12_loop_178 rfl ?_
                  refine g_aload_n hC dX12_loop_180 rfl ?_
                  refine zr_geta hC hZ118 fl_X12_99 zb_29 (by decide) dX12_loop_181 ?_
                  refine g_iload_n hC dX12_loop_184 rfl ?_
                  obtain ⟨o120, h121⟩ := h119
                  obtain ⟨o122, h123⟩ := h121
                  refine zr_iald (v := (za s115 29 (Int.toNat a0))) hC hZ118 zk_29 zb_29 zn_29 (by decide) o120 o122 rfl dX12_loop_185 ?_
                  refine g_iconst (v := zI 0) hC dX12_loop_186 rfl ?_
                  refine zr_callVv (As := [.int (zI 10), .int (zI (za s115 29 (Int.toNat a0))), .int (zI 0)]) hC hZ118 rfl (rm_todoTask X.la d b (by decide) (hZ118.ra 29 _) (by decide) hZ118.rf h123) cl_X12_801 rfl rfl (Nat.le_of_ble_eq_true rfl) ⟨Nat.le_of_ble_eq_true rfl, Nat.le_of_ble_eq_true rfl⟩ dX12_loop_187 (fun s125 F126 hZ128 h129 => ?_)
                  refine g_goto (tgt := 214) hC dX12_loop_190 (by decide) ?_
                  exact zr_vret hC hZ128 h129 dX12_loop_214
                · have h130 := h111.2 c112
                  refine g_goto (tgt := 168) hC dX12_loop_158 (by decide) ?_
                  exact zr_vret hC hZ22 h130 dX12_loop_168
          · have h131 := h48.2 c49
            refine g_aload_n hC dX12_loop_78 rfl ?_
            refine g_bipush (v := zI 15) hC dX12_loop_79 rfl ?_
            refine g_iload_n hC dX12_loop_81 rfl ?_
            refine g_iconst (v := zI 0) hC dX12_loop_82 rfl ?_
            refine zr_callVv (As := [.int (zI 15), .int (zI a0), .int (zI 0)]) hC hZ22 rfl (rm_todoTask X.la d b (by decide) Ra0 (by decide) hZ22.rf h131) cl_X12_801 rfl rfl (Nat.le_of_ble_eq_true rfl) ⟨Nat.le_of_ble_eq_true rfl, Nat.le_of_ble_eq_true rfl⟩ dX12_loop_83 (fun s133 F134 hZ136 h137 => ?_)
            refine g_aload_n hC dX12_loop_86 rfl ?_
            refine g_bipush (v := zI 10) hC dX12_loop_87 rfl ?_
            refine g_iload hC dX12_loop_89 rfl ?_
            refine g_iconst (v := zI 0) hC dX12_loop_91 rfl ?_
            refine zr_callVv (As := [.int (zI 10), .int (zI (za s0 27 (Int.toNat a0))), .int (zI 0)]) hC hZ136 rfl (rm_todoTask X.la d b (by decide) (hZ.ra 27 _) (by decide) hZ136.rf h137) cl_X12_801 rfl rfl (Nat.le_of_ble_eq_true rfl) ⟨Nat.le_of_ble_eq_true rfl, Nat.le_of_ble_eq_true rfl⟩ dX12_loop_92 (fun s139 F140 hZ142 h143 => ?_)
            refine g_goto (tgt := 214) hC dX12_loop_95 (by decide) ?_
            exact zr_vret hC hZ142 h143 dX12_loop_214
        · have h144 := h46.2 c47
          refine g_aload_n hC dX12_loop_45 rfl ?_
          refine g_bipush (v := zI 15) hC dX12_loop_46 rfl ?_
          refine g_iload_n hC dX12_loop_48 rfl ?_
          refine g_iconst (v := zI 0) hC dX12_loop_49 rfl ?_
          refine zr_callVv (As := [.int (zI 15), .int (zI a0), .int (zI 0)]) hC hZ22 rfl (rm_todoTask X.la d b (by decide) Ra0 (by decide) hZ22.rf h144) cl_X12_801 rfl rfl (Nat.le_of_ble_eq_true rfl) ⟨Nat.le_of_ble_eq_true rfl, Nat.le_of_ble_eq_true rfl⟩ dX12_loop_50 (fun s146 F147 hZ149 h150 => ?_)
          refine g_aload_n hC dX12_loop_53 rfl ?_
          refine g_bipush (v := zI 16) hC dX12_loop_54 rfl ?_
          refine g_iload_n hC dX12_loop_56 rfl ?_
          refine g_iconst (v := zI 0) hC dX12_loop_57 rfl ?_
          refine zr_callVv (As := [.int (zI 16), .int (zI a0), .int (zI 0)]) hC hZ149 rfl (rm_todoTask X.la d b (by decide) Ra0 (by decide) hZ149.rf h150) cl_X12_801 rfl rfl (Nat.le_of_ble_eq_true rfl) ⟨Nat.le_of_ble_eq_true rfl, Nat.le_of_ble_eq_true rfl⟩ dX12_loop_58 (fun s152 F153 hZ155 h156 => ?_)
          refine g_aload_n hC dX12_loop_61 rfl ?_
          refine g_iconst (v := zI 1) hC dX12_loop_62 rfl ?_
          refine g_iload hC dX12_loop_63 rfl ?_
          refine g_iconst (v := zI 0) hC dX12_loop_65 rfl ?_
          refine zr_callVv (As := [.int (zI 1), .int (zI (za s0 27 (Int.toNat a0))), .int (zI 0)]) hC hZ155 rfl (rm_todoTask X.la d b (by decide) (hZ.ra 27 _) (by decide) hZ155.rf h156) cl_X12_801 rfl rfl (Nat.le_of_ble_eq_true rfl) ⟨Nat.le_of_ble_eq_true rfl, Nat.le_of_ble_eq_true rfl⟩ dX12_loop_66 (fun s158 F159 hZ161 h162 => ?_)
          refine g_goto (tgt := 214) hC dX12_loop_69 (by decide) ?_
          exact zr_vret hC hZ161 h162 dX12_loop_214
    · have h163 := h23.2 c24
      exact zr_vret hC hZ22 h163 dX12_loop_32
theorem dX12_asked_0 : decode cX12_asked 0 = .ok (.aload_n 0, 1) := by decide +kernel
theorem dX12_asked_1 : decode cX12_asked 1 = .ok (.invokevirtual 810, 3) := by decide +kernel
theorem dX12_asked_4 : decode cX12_asked 4 = .ok (.ifCond .eq 7, 3) := by decide +kernel
theorem dX12_asked_7 : decode cX12_asked 7 = .ok (.iconst 1, 1) := by decide +kernel
theorem dX12_asked_8 : decode cX12_asked 8 = .ok (.goto 4, 3) := by decide +kernel
theorem dX12_asked_11 : decode cX12_asked 11 = .ok (.iconst 0, 1) := by decide +kernel
theorem dX12_asked_12 : decode cX12_asked 12 = .ok (.istore_n 2, 1) := by decide +kernel
theorem dX12_asked_13 : decode cX12_asked 13 = .ok (.aload_n 0, 1) := by decide +kernel
theorem dX12_asked_14 : decode cX12_asked 14 = .ok (.getfield 87, 3) := by decide +kernel
theorem dX12_asked_17 : decode cX12_asked 17 = .ok (.iload_n 1, 1) := by decide +kernel
theorem dX12_asked_18 : decode cX12_asked 18 = .ok (.baload, 1) := by decide +kernel
theorem dX12_asked_19 : decode cX12_asked 19 = .ok (.istore_n 3, 1) := by decide +kernel
theorem dX12_asked_20 : decode cX12_asked 20 = .ok (.iload_n 3, 1) := by decide +kernel
theorem dX12_asked_21 : decode cX12_asked 21 = .ok (.bipush 25, 2) := by decide +kernel
theorem dX12_asked_23 : decode cX12_asked 23 = .ok (.if_icmp .eq 9, 3) := by decide +kernel
theorem dX12_asked_26 : decode cX12_asked 26 = .ok (.iload_n 3, 1) := by decide +kernel
theorem dX12_asked_27 : decode cX12_asked 27 = .ok (.bipush 26, 2) := by decide +kernel
theorem dX12_asked_29 : decode cX12_asked 29 = .ok (.if_icmp .ne 50, 3) := by decide +kernel
theorem dX12_asked_32 : decode cX12_asked 32 = .ok (.iload_n 2, 1) := by decide +kernel
theorem dX12_asked_33 : decode cX12_asked 33 = .ok (.iload_n 3, 1) := by decide +kernel
theorem dX12_asked_34 : decode cX12_asked 34 = .ok (.bipush 25, 2) := by decide +kernel
theorem dX12_asked_36 : decode cX12_asked 36 = .ok (.if_icmp .ne 7, 3) := by decide +kernel
theorem dX12_asked_39 : decode cX12_asked 39 = .ok (.iconst 1, 1) := by decide +kernel
theorem dX12_asked_40 : decode cX12_asked 40 = .ok (.goto 4, 3) := by decide +kernel
theorem dX12_asked_43 : decode cX12_asked 43 = .ok (.iconst 0, 1) := by decide +kernel
theorem dX12_asked_44 : decode cX12_asked 44 = .ok (.if_icmp .ne 24, 3) := by decide +kernel
theorem dX12_asked_47 : decode cX12_asked 47 = .ok (.aload_n 0, 1) := by decide +kernel
theorem dX12_asked_48 : decode cX12_asked 48 = .ok (.bipush 10, 2) := by decide +kernel
theorem dX12_asked_50 : decode cX12_asked 50 = .ok (.aload_n 0, 1) := by decide +kernel
theorem dX12_asked_51 : decode cX12_asked 51 = .ok (.getfield 96, 3) := by decide +kernel
theorem dX12_asked_54 : decode cX12_asked 54 = .ok (.aload_n 0, 1) := by decide +kernel
theorem dX12_asked_55 : decode cX12_asked 55 = .ok (.getfield 93, 3) := by decide +kernel
theorem dX12_asked_58 : decode cX12_asked 58 = .ok (.iload_n 1, 1) := by decide +kernel
theorem dX12_asked_59 : decode cX12_asked 59 = .ok (.iaload, 1) := by decide +kernel
theorem dX12_asked_60 : decode cX12_asked 60 = .ok (.iaload, 1) := by decide +kernel
theorem dX12_asked_61 : decode cX12_asked 61 = .ok (.iconst 0, 1) := by decide +kernel
theorem dX12_asked_62 : decode cX12_asked 62 = .ok (.invokevirtual 801, 3) := by decide +kernel
theorem dX12_asked_65 : decode cX12_asked 65 = .ok (.goto 13, 3) := by decide +kernel
theorem dX12_asked_68 : decode cX12_asked 68 = .ok (.aload_n 0, 1) := by decide +kernel
theorem dX12_asked_69 : decode cX12_asked 69 = .ok (.dup, 1) := by decide +kernel
theorem dX12_asked_70 : decode cX12_asked 70 = .ok (.getfield 276, 3) := by decide +kernel
theorem dX12_asked_73 : decode cX12_asked 73 = .ok (.iconst 1, 1) := by decide +kernel
theorem dX12_asked_74 : decode cX12_asked 74 = .ok (.isub, 1) := by decide +kernel
theorem dX12_asked_75 : decode cX12_asked 75 = .ok (.putfield 276, 3) := by decide +kernel
theorem dX12_asked_78 : decode cX12_asked 78 = .ok (.return_, 1) := by decide +kernel
theorem dX12_asked_79 : decode cX12_asked 79 = .ok (.iload_n 2, 1) := by decide +kernel
theorem dX12_asked_80 : decode cX12_asked 80 = .ok (.iload_n 3, 1) := by decide +kernel
theorem dX12_asked_81 : decode cX12_asked 81 = .ok (.bipush 39, 2) := by decide +kernel
theorem dX12_asked_83 : decode cX12_asked 83 = .ok (.if_icmp .ne 7, 3) := by decide +kernel
theorem dX12_asked_86 : decode cX12_asked 86 = .ok (.iconst 1, 1) := by decide +kernel
theorem dX12_asked_87 : decode cX12_asked 87 = .ok (.goto 4, 3) := by decide +kernel
theorem dX12_asked_90 : decode cX12_asked 90 = .ok (.iconst 0, 1) := by decide +kernel
theorem dX12_asked_91 : decode cX12_asked 91 = .ok (.if_icmp .eq 4, 3) := by decide +kernel
theorem dX12_asked_94 : decode cX12_asked 94 = .ok (.return_, 1) := by decide +kernel
theorem dX12_asked_95 : decode cX12_asked 95 = .ok (.aload_n 0, 1) := by decide +kernel
theorem dX12_asked_96 : decode cX12_asked 96 = .ok (.bipush 15, 2) := by decide +kernel
theorem dX12_asked_98 : decode cX12_asked 98 = .ok (.iload_n 1, 1) := by decide +kernel
theorem dX12_asked_99 : decode cX12_asked 99 = .ok (.iconst 0, 1) := by decide +kernel
theorem dX12_asked_100 : decode cX12_asked 100 = .ok (.invokevirtual 801, 3) := by decide +kernel
theorem dX12_asked_103 : decode cX12_asked 103 = .ok (.aload_n 0, 1) := by decide +kernel
theorem dX12_asked_104 : decode cX12_asked 104 = .ok (.bipush 10, 2) := by decide +kernel
theorem dX12_asked_106 : decode cX12_asked 106 = .ok (.aload_n 0, 1) := by decide +kernel
theorem dX12_asked_107 : decode cX12_asked 107 = .ok (.getfield 93, 3) := by decide +kernel
theorem dX12_asked_110 : decode cX12_asked 110 = .ok (.iload_n 1, 1) := by decide +kernel
theorem dX12_asked_111 : decode cX12_asked 111 = .ok (.iaload, 1) := by decide +kernel
theorem dX12_asked_112 : decode cX12_asked 112 = .ok (.iconst 0, 1) := by decide +kernel
theorem dX12_asked_113 : decode cX12_asked 113 = .ok (.invokevirtual 801, 3) := by decide +kernel
theorem dX12_asked_116 : decode cX12_asked 116 = .ok (.return_, 1) := by decide +kernel
def wr_asked_32 (Q : zS → Prop)  (s0 : zS) (x1 : Int) (x2 : Int) (x3 : Int) : Prop :=
  ((¬ x3 = 25 → ((¬ x2 = 0 → (zR ((zv s0 87) - 1)) ∧ Q (zpv s0 87 ((zv s0 87) - 1))) ∧ (x2 = 0 → (0 ≤ x1) ∧ (x1 < 26000) ∧ (0 ≤ (za s0 27 (Int.toNat x1))) ∧ ((za s0 27 (Int.toNat x1)) < 26000) ∧ wr_todoTask s0 10 (za s0 28 (Int.toNat (za s0 27 (Int.toNat x1)))) 0 (fun s19 => Q s19)))) ∧ (x3 = 25 → ((¬ x2 = 1 → (zR ((zv s0 87) - 1)) ∧ Q (zpv s0 87 ((zv s0 87) - 1))) ∧ (x2 = 1 → (0 ≤ x1) ∧ (x1 < 26000) ∧ (0 ≤ (za s0 27 (Int.toNat x1))) ∧ ((za s0 27 (Int.toNat x1)) < 26000) ∧ wr_todoTask s0 10 (za s0 28 (Int.toNat (za s0 27 (Int.toNat x1)))) 0 (fun s41 => Q s41)))))
def wr_asked_12 (Q : zS → Prop)  (s0 : zS) (x1 : Int) (y0 : Int) : Prop :=
  (0 ≤ x1) ∧ (x1 < 26000) ∧ (((za s0 25 (Int.toNat x1)) = 25 → wr_asked_32 Q  s0 x1 y0 (za s0 25 (Int.toNat x1))) ∧ (¬ (za s0 25 (Int.toNat x1)) = 25 → ((¬ (za s0 25 (Int.toNat x1)) = 26 → ((¬ (za s0 25 (Int.toNat x1)) = 39 → ((y0 = 0 → wr_todoTask s0 15 x1 0 (fun s15 => (0 ≤ x1) ∧ (x1 < 26000) ∧ wr_todoTask s15 10 (za s15 27 (Int.toNat x1)) 0 (fun s25 => Q s25))) ∧ (¬ y0 = 0 → Q s0))) ∧ ((za s0 25 (Int.toNat x1)) = 39 → ((y0 = 1 → wr_todoTask s0 15 x1 0 (fun s35 => (0 ≤ x1) ∧ (x1 < 26000) ∧ wr_todoTask s35 10 (za s35 27 (Int.toNat x1)) 0 (fun s45 => Q s45))) ∧ (¬ y0 = 1 → Q s0))))) ∧ ((za s0 25 (Int.toNat x1)) = 26 → wr_asked_32 Q  s0 x1 y0 (za s0 25 (Int.toNat x1))))))
def wr_asked (s0 : zS) (a0 : Int) (Q : zS → Prop) : Prop :=
  wr_pop s0  (fun r1 s2 => ((r1 = 0 → wr_asked_12 Q  s2 a0 0) ∧ (¬ r1 = 0 → wr_asked_12 Q  s2 a0 1)))
set_option maxHeartbeats 4000000 in
set_option maxRecDepth 100000 in
theorem rj_asked_32 {X : gX} {d : gD} {b t : Nat} {T : Nat → Nat} {F0 : gM} (hC : gC RX12 cX12_asked 4 none "asked" (gR 1 0 0) d b X) {Q : zS → Prop}   {F : gM} {s0 : zS} {x1 : Int} {x2 : Int} {x3 : Int} (Rx1 : zR x1) (Rx2 : zR x2) (Rx3 : zR x3) (hZ : zZ d t T F0 F s0) (hw : wr_asked_32 Q  s0 x1 x2 x3) : gG X d b (zQv X d b t T F0 Q) F 0 0 32 [some (.ref t), some (.int (zI x1)), some (.int (zI x2)), some (.int (zI x3))] [] := by
  unfold wr_asked_32 at hw
  refine g_iload_n hC dX12_asked_32 rfl ?_
  refine g_iload_n hC dX12_asked_33 rfl ?_
  refine g_bipush (v := zI 25) hC dX12_asked_34 rfl ?_
  refine zr_icmp_ne (tgt := 43) hC Rx3 (by decide) dX12_asked_36 (by decide) (fun c1 => ?_) (fun c1 => ?_)
  · have h2 := hw.1 c1
    refine g_iconst (v := zI 0) hC dX12_asked_43 rfl ?_
    refine zr_icmp_ne (tgt := 68) hC Rx2 (by decide) dX12_asked_44 (by decide) (fun c3 => ?_) (fun c3 => ?_)
    · have h4 := h2.1 c3
      refine g_aload_n hC dX12_asked_68 rfl ?_
      refine g_dup hC dX12_asked_69 rfl ?_
      refine zr_get (e := (zv s0 87)) hC hZ fl_X12_276 zb_87 (by decide) rfl dX12_asked_70 ?_
      refine g_iconst (v := zI 1) hC dX12_asked_73 rfl ?_
      refine zr_isub hC dX12_asked_74 ?_
      obtain ⟨o5, h6⟩ := h4
      refine zr_put hC hZ fl_X12_276 zb_87 (by decide) o5 dX12_asked_75 (fun F7 hZ8 => ?_)
      exact zr_vret hC hZ8 h6 dX12_asked_78
    · have h9 := h2.2 c3
      refine g_aload_n hC dX12_asked_47 rfl ?_
      refine g_bipush (v := zI 10) hC dX12_asked_48 rfl ?_
      refine g_aload_n hC dX12_asked_50 rfl ?_
      refine zr_geta hC hZ fl_X12_96 zb_28 (by decide) dX12_asked_51 ?_
      refine g_aload_n hC dX12_asked_54 rfl ?_
      refine zr_geta hC hZ fl_X12_93 zb_27 (by decide) dX12_asked_55 ?_
      refine g_iload_n hC dX12_asked_58 rfl ?_
      obtain ⟨o10, h11⟩ := h9
      obtain ⟨o12, h13⟩ := h11
      refine zr_iald (v := (za s0 27 (Int.toNat x1))) hC hZ zk_27 zb_27 zn_27 (by decide) o10 o12 rfl dX12_asked_59 ?_
      obtain ⟨o14, h15⟩ := h13
      obtain ⟨o16, h17⟩ := h15
      refine zr_iald (v := (za s0 28 (Int.toNat (za s0 27 (Int.toNat x1))))) hC hZ zk_28 zb_28 zn_28 (by decide) o14 o16 rfl dX12_asked_60 ?_
      refine g_iconst (v := zI 0) hC dX12_asked_61 rfl ?_
      refine zr_callVv (As := [.int (zI 10), .int (zI (za s0 28 (Int.toNat (za s0 27 (Int.toNat x1))))), .int (zI 0)]) hC hZ rfl (rm_todoTask X.la d b (by decide) (hZ.ra 28 _) (by decide) hZ.rf h17) cl_X12_801 rfl rfl (Nat.le_of_ble_eq_true rfl) ⟨Nat.le_of_ble_eq_true rfl, Nat.le_of_ble_eq_true rfl⟩ dX12_asked_62 (fun s19 F20 hZ22 h23 => ?_)
      refine g_goto (tgt := 78) hC dX12_asked_65 (by decide) ?_
      exact zr_vret hC hZ22 h23 dX12_asked_78
  · have h24 := hw.2 c1
    refine g_iconst (v := zI 1) hC dX12_asked_39 rfl ?_
    refine g_goto (tgt := 44) hC dX12_asked_40 (by decide) ?_
    refine zr_icmp_ne (tgt := 68) hC Rx2 (by decide) dX12_asked_44 (by decide) (fun c25 => ?_) (fun c25 => ?_)
    · have h26 := h24.1 c25
      refine g_aload_n hC dX12_asked_68 rfl ?_
      refine g_dup hC dX12_asked_69 rfl ?_
      refine zr_get (e := (zv s0 87)) hC hZ fl_X12_276 zb_87 (by decide) rfl dX12_asked_70 ?_
      refine g_iconst (v := zI 1) hC dX12_asked_73 rfl ?_
      refine zr_isub hC dX12_asked_74 ?_
      obtain ⟨o27, h28⟩ := h26
      refine zr_put hC hZ fl_X12_276 zb_87 (by decide) o27 dX12_asked_75 (fun F29 hZ30 => ?_)
      exact zr_vret hC hZ30 h28 dX12_asked_78
    · have h31 := h24.2 c25
      refine g_aload_n hC dX12_asked_47 rfl ?_
      refine g_bipush (v := zI 10) hC dX12_asked_48 rfl ?_
      refine g_aload_n hC dX12_asked_50 rfl ?_
      refine zr_geta hC hZ fl_X12_96 zb_28 (by decide) dX12_asked_51 ?_
      refine g_aload_n hC dX12_asked_54 rfl ?_
      refine zr_geta hC hZ fl_X12_93 zb_27 (by decide) dX12_asked_55 ?_
      refine g_iload_n hC dX12_asked_58 rfl ?_
      obtain ⟨o32, h33⟩ := h31
      obtain ⟨o34, h35⟩ := h33
      refine zr_iald (v := (za s0 27 (Int.toNat x1))) hC hZ zk_27 zb_27 zn_27 (by decide) o32 o34 rfl dX12_asked_59 ?_
      obtain ⟨o36, h37⟩ := h35
      obtain ⟨o38, h39⟩ := h37
      refine zr_iald (v := (za s0 28 (Int.toNat (za s0 27 (Int.toNat x1))))) hC hZ zk_28 zb_28 zn_28 (by decide) o36 o38 rfl dX12_asked_60 ?_
      refine g_iconst (v := zI 0) hC dX12_asked_61 rfl ?_
      refine zr_callVv (As := [.int (zI 10), .int (zI (za s0 28 (Int.toNat (za s0 27 (Int.toNat x1))))), .int (zI 0)]) hC hZ rfl (rm_todoTask X.la d b (by decide) (hZ.ra 28 _) (by decide) hZ.rf h39) cl_X12_801 rfl rfl (Nat.le_of_ble_eq_true rfl) ⟨Nat.le_of_ble_eq_true rfl, Nat.le_of_ble_eq_true rfl⟩ dX12_asked_62 (fun s41 F42 hZ44 h45 => ?_)
      refine g_goto (tgt := 78) hC dX12_asked_65 (by decide) ?_
      exact zr_vret hC hZ44 h45 dX12_asked_78
set_option maxHeartbeats 4000000 in
set_option maxRecDepth 100000 in
theorem rj_asked_12 {X : gX} {d : gD} {b t : Nat} {T : Nat → Nat} {F0 : gM} (hC : gC RX12 cX12_asked 4 none "asked" (gR 1 0 0) d b X) {Q : zS → Prop}   {F : gM} {s0 : zS} {x1 : Int} {y0 : Int} (Rx1 : zR x1) (Ry0 : zR y0) (hZ : zZ d t T F0 F s0) (hw : wr_asked_12 Q  s0 x1 y0) : gG X d b (zQv X d b t T F0 Q) F 0 0 12 [some (.ref t), some (.int (zI x1)), none, none] [.int (zI y0)] := by
  unfold wr_asked_12 at hw
  refine g_istore_n (lv' := [some (.ref t), some (.int (zI x1)), some (.int (zI y0)), none]) hC dX12_asked_12 (Nat.le_of_ble_eq_true rfl) rfl rfl ?_
  refine g_aload_n hC dX12_asked_13 rfl ?_
  refine zr_geta hC hZ fl_X12_87 zb_25 (by decide) dX12_asked_14 ?_
  refine g_iload_n hC dX12_asked_17 rfl ?_
  obtain ⟨o1, h2⟩ := hw
  obtain ⟨o3, h4⟩ := h2
  refine zr_bald (v := (za s0 25 (Int.toNat x1))) hC hZ zk_25 zb_25 zn_25 (by decide) o1 o3 rfl dX12_asked_18 ?_
  refine g_istore_n (lv' := [some (.ref t), some (.int (zI x1)), some (.int (zI y0)), some (.int (zI (za s0 25 (Int.toNat x1))))]) hC dX12_asked_19 (Nat.le_of_ble_eq_true rfl) rfl rfl ?_
  refine g_iload_n hC dX12_asked_20 rfl ?_
  refine g_bipush (v := zI 25) hC dX12_asked_21 rfl ?_
  refine zr_icmp_eq (tgt := 32) hC (hZ.ra 25 _) (by decide) dX12_asked_23 (by decide) (fun c5 => ?_) (fun c5 => ?_)
  · have h6 := h4.1 c5
    exact rj_asked_32 hC  Rx1 Ry0 (hZ.ra 25 _) hZ h6
  · have h7 := h4.2 c5
    refine g_iload_n hC dX12_asked_26 rfl ?_
    refine g_bipush (v := zI 26) hC dX12_asked_27 rfl ?_
    refine zr_icmp_ne (tgt := 79) hC (hZ.ra 25 _) (by decide) dX12_asked_29 (by decide) (fun c8 => ?_) (fun c8 => ?_)
    · have h9 := h7.1 c8
      refine g_iload_n hC dX12_asked_79 rfl ?_
      refine g_iload_n hC dX12_asked_80 rfl ?_
      refine g_bipush (v := zI 39) hC dX12_asked_81 rfl ?_
      refine zr_icmp_ne (tgt := 90) hC (hZ.ra 25 _) (by decide) dX12_asked_83 (by decide) (fun c10 => ?_) (fun c10 => ?_)
      · have h11 := h9.1 c10
        refine g_iconst (v := zI 0) hC dX12_asked_90 rfl ?_
        refine zr_icmp_eq (tgt := 95) hC Ry0 (by decide) dX12_asked_91 (by decide) (fun c12 => ?_) (fun c12 => ?_)
        · have h13 := h11.1 c12
          refine g_aload_n hC dX12_asked_95 rfl ?_
          refine g_bipush (v := zI 15) hC dX12_asked_96 rfl ?_
          refine g_iload_n hC dX12_asked_98 rfl ?_
          refine g_iconst (v := zI 0) hC dX12_asked_99 rfl ?_
          refine zr_callVv (As := [.int (zI 15), .int (zI x1), .int (zI 0)]) hC hZ rfl (rm_todoTask X.la d b (by decide) Rx1 (by decide) hZ.rf h13) cl_X12_801 rfl rfl (Nat.le_of_ble_eq_true rfl) ⟨Nat.le_of_ble_eq_true rfl, Nat.le_of_ble_eq_true rfl⟩ dX12_asked_100 (fun s15 F16 hZ18 h19 => ?_)
          refine g_aload_n hC dX12_asked_103 rfl ?_
          refine g_bipush (v := zI 10) hC dX12_asked_104 rfl ?_
          refine g_aload_n hC dX12_asked_106 rfl ?_
          refine zr_geta hC hZ18 fl_X12_93 zb_27 (by decide) dX12_asked_107 ?_
          refine g_iload_n hC dX12_asked_110 rfl ?_
          obtain ⟨o20, h21⟩ := h19
          obtain ⟨o22, h23⟩ := h21
          refine zr_iald (v := (za s15 27 (Int.toNat x1))) hC hZ18 zk_27 zb_27 zn_27 (by decide) o20 o22 rfl dX12_asked_111 ?_
          refine g_iconst (v := zI 0) hC dX12_asked_112 rfl ?_
          refine zr_callVv (As := [.int (zI 10), .int (zI (za s15 27 (Int.toNat x1))), .int (zI 0)]) hC hZ18 rfl (rm_todoTask X.la d b (by decide) (hZ18.ra 27 _) (by decide) hZ18.rf h23) cl_X12_801 rfl rfl (Nat.le_of_ble_eq_true rfl) ⟨Nat.le_of_ble_eq_true rfl, Nat.le_of_ble_eq_true rfl⟩ dX12_asked_113 (fun s25 F26 hZ28 h29 => ?_)
          exact zr_vret hC hZ28 h29 dX12_asked_116
        · have h30 := h11.2 c12
          exact zr_vret hC hZ h30 dX12_asked_94
      · have h31 := h9.2 c10
        refine g_iconst (v := zI 1) hC dX12_asked_86 rfl ?_
        refine g_goto (tgt := 91) hC dX12_asked_87 (by decide) ?_
        refine zr_icmp_eq (tgt := 95) hC Ry0 (by decide) dX12_asked_91 (by decide) (fun c32 => ?_) (fun c32 => ?_)
        · have h33 := h31.1 c32
          refine g_aload_n hC dX12_asked_95 rfl ?_
          refine g_bipush (v := zI 15) hC dX12_asked_96 rfl ?_
          refine g_iload_n hC dX12_asked_98 rfl ?_
          refine g_iconst (v := zI 0) hC dX12_asked_99 rfl ?_
          refine zr_callVv (As := [.int (zI 15), .int (zI x1), .int (zI 0)]) hC hZ rfl (rm_todoTask X.la d b (by decide) Rx1 (by decide) hZ.rf h33) cl_X12_801 rfl rfl (Nat.le_of_ble_eq_true rfl) ⟨Nat.le_of_ble_eq_true rfl, Nat.le_of_ble_eq_true rfl⟩ dX12_asked_100 (fun s35 F36 hZ38 h39 => ?_)
          refine g_aload_n hC dX12_asked_103 rfl ?_
          refine g_bipush (v := zI 10) hC dX12_asked_104 rfl ?_
          refine g_aload_n hC dX12_asked_106 rfl ?_
          refine zr_geta hC hZ38 fl_X12_93 zb_27 (by decide) dX12_asked_107 ?_
          refine g_iload_n hC dX12_asked_110 rfl ?_
          obtain ⟨o40, h41⟩ := h39
          obtain ⟨o42, h43⟩ := h41
          refine zr_iald (v := (za s35 27 (Int.toNat x1))) hC hZ38 zk_27 zb_27 zn_27 (by decide) o40 o42 rfl dX12_asked_111 ?_
          refine g_iconst (v := zI 0) hC dX12_asked_112 rfl ?_
          refine zr_callVv (As := [.int (zI 10), .int (zI (za s35 27 (Int.toNat x1))), .int (zI 0)]) hC hZ38 rfl (rm_todoTask X.la d b (by decide) (hZ38.ra 27 _) (by decide) hZ38.rf h43) cl_X12_801 rfl rfl (Nat.le_of_ble_eq_true rfl) ⟨Nat.le_of_ble_eq_true rfl, Nat.le_of_ble_eq_true rfl⟩ dX12_asked_113 (fun s45 F46 hZ48 h49 => ?_)
          exact zr_vret hC hZ48 h49 dX12_asked_116
        · have h50 := h31.2 c32
          exact zr_vret hC hZ h50 dX12_asked_94
    · have h51 := h7.2 c8
      exact rj_asked_32 hC  Rx1 Ry0 (hZ.ra 25 _) hZ h51
set_option maxHeartbeats 4000000 in
set_option maxRecDepth 100000 in
theorem rm_asked (l : Launch) (d : gD) (b : Nat) {t : Nat} {T : Nat → Nat} {F : gM} {s0 : zS} {a0 : Int} (Ra0 : zR a0) {Q : zS → Prop} (hZ : zZ d t T F F s0) (hw : wr_asked s0 a0 Q) : gMv l d b yX12_asked cX12_asked 4 1 0 0 F [.ref t, .int (zI a0)] (zPv d t T F Q) := by
  refine gM_of2 rfl (nL := 4) (Nat.le_of_ble_eq_true rfl) ?_
  intro X hX hC; subst hX
  show gG X d b (zQv X d b t T F Q) F 0 0 0 [some (.ref t), some (.int (zI a0)), none, none] []
  unfold wr_asked at hw
  refine g_aload_n hC dX12_asked_0 rfl ?_
  refine zr_callVi (As := []) hC hZ rfl (rm_pop X.la d b  hZ.rf hw) cl_X12_810 rfl rfl (Nat.le_of_ble_eq_true rfl) ⟨Nat.le_of_ble_eq_true rfl, Nat.le_of_ble_eq_true rfl⟩ dX12_asked_1 (fun r1 s2 F3 R4 hZ5 h6 => ?_)
  refine zr_if_eq (tgt := 11) hC R4 dX12_asked_4 (by decide) (fun c7 => ?_) (fun c7 => ?_)
  · have h8 := h6.1 c7
    refine g_iconst (v := zI 0) hC dX12_asked_11 rfl ?_
    exact rj_asked_12 hC  Ra0 (by decide) hZ5 h8
  · have h9 := h6.2 c7
    refine g_iconst (v := zI 1) hC dX12_asked_7 rfl ?_
    refine g_goto (tgt := 12) hC dX12_asked_8 (by decide) ?_
    exact rj_asked_12 hC  Ra0 (by decide) hZ5 h9
theorem dX12_section_0 : decode cX12_section 0 = .ok (.iload_n 2, 1) := by decide +kernel
theorem dX12_section_1 : decode cX12_section 1 = .ok (.ifCond .ge 4, 3) := by decide +kernel
theorem dX12_section_4 : decode cX12_section 4 = .ok (.return_, 1) := by decide +kernel
theorem dX12_section_5 : decode cX12_section 5 = .ok (.aload_n 0, 1) := by decide +kernel
theorem dX12_section_6 : decode cX12_section 6 = .ok (.bipush 17, 2) := by decide +kernel
theorem dX12_section_8 : decode cX12_section 8 = .ok (.iload_n 1, 1) := by decide +kernel
theorem dX12_section_9 : decode cX12_section 9 = .ok (.aload_n 0, 1) := by decide +kernel
theorem dX12_section_10 : decode cX12_section 10 = .ok (.getfield 96, 3) := by decide +kernel
theorem dX12_section_13 : decode cX12_section 13 = .ok (.iload_n 2, 1) := by decide +kernel
theorem dX12_section_14 : decode cX12_section 14 = .ok (.iaload, 1) := by decide +kernel
theorem dX12_section_15 : decode cX12_section 15 = .ok (.invokevirtual 801, 3) := by decide +kernel
theorem dX12_section_18 : decode cX12_section 18 = .ok (.aload_n 0, 1) := by decide +kernel
theorem dX12_section_19 : decode cX12_section 19 = .ok (.getfield 87, 3) := by decide +kernel
theorem dX12_section_22 : decode cX12_section 22 = .ok (.iload_n 2, 1) := by decide +kernel
theorem dX12_section_23 : decode cX12_section 23 = .ok (.baload, 1) := by decide +kernel
theorem dX12_section_24 : decode cX12_section 24 = .ok (.bipush 41, 2) := by decide +kernel
theorem dX12_section_26 : decode cX12_section 26 = .ok (.if_icmp .ne 38, 3) := by decide +kernel
theorem dX12_section_29 : decode cX12_section 29 = .ok (.aload_n 0, 1) := by decide +kernel
theorem dX12_section_30 : decode cX12_section 30 = .ok (.getfield 93, 3) := by decide +kernel
theorem dX12_section_33 : decode cX12_section 33 = .ok (.iload_n 2, 1) := by decide +kernel
theorem dX12_section_34 : decode cX12_section 34 = .ok (.iaload, 1) := by decide +kernel
theorem dX12_section_35 : decode cX12_section 35 = .ok (.istore_n 3, 1) := by decide +kernel
theorem dX12_section_36 : decode cX12_section 36 = .ok (.aload_n 0, 1) := by decide +kernel
theorem dX12_section_37 : decode cX12_section 37 = .ok (.getfield 96, 3) := by decide +kernel
theorem dX12_section_40 : decode cX12_section 40 = .ok (.iload_n 3, 1) := by decide +kernel
theorem dX12_section_41 : decode cX12_section 41 = .ok (.iaload, 1) := by decide +kernel
theorem dX12_section_42 : decode cX12_section 42 = .ok (.ifCond .lt 13, 3) := by decide +kernel
theorem dX12_section_45 : decode cX12_section 45 = .ok (.aload_n 0, 1) := by decide +kernel
theorem dX12_section_46 : decode cX12_section 46 = .ok (.getfield 96, 3) := by decide +kernel
theorem dX12_section_49 : decode cX12_section 49 = .ok (.iload_n 3, 1) := by decide +kernel
theorem dX12_section_50 : decode cX12_section 50 = .ok (.iaload, 1) := by decide +kernel
theorem dX12_section_51 : decode cX12_section 51 = .ok (.istore_n 3, 1) := by decide +kernel
theorem dX12_section_52 : decode cX12_section 52 = .ok (.goto (-16), 3) := by decide +kernel
theorem dX12_section_55 : decode cX12_section 55 = .ok (.aload_n 0, 1) := by decide +kernel
theorem dX12_section_56 : decode cX12_section 56 = .ok (.bipush 10, 2) := by decide +kernel
theorem dX12_section_58 : decode cX12_section 58 = .ok (.iload_n 3, 1) := by decide +kernel
theorem dX12_section_59 : decode cX12_section 59 = .ok (.iconst 0, 1) := by decide +kernel
theorem dX12_section_60 : decode cX12_section 60 = .ok (.invokevirtual 801, 3) := by decide +kernel
theorem dX12_section_63 : decode cX12_section 63 = .ok (.return_, 1) := by decide +kernel
theorem dX12_section_64 : decode cX12_section 64 = .ok (.aload_n 0, 1) := by decide +kernel
theorem dX12_section_65 : decode cX12_section 65 = .ok (.getfield 87, 3) := by decide +kernel
theorem dX12_section_68 : decode cX12_section 68 = .ok (.iload_n 2, 1) := by decide +kernel
theorem dX12_section_69 : decode cX12_section 69 = .ok (.baload, 1) := by decide +kernel
theorem dX12_section_70 : decode cX12_section 70 = .ok (.bipush 53, 2) := by decide +kernel
theorem dX12_section_72 : decode cX12_section 72 = .ok (.if_icmp .ne 26, 3) := by decide +kernel
theorem dX12_section_75 : decode cX12_section 75 = .ok (.aload_n 0, 1) := by decide +kernel
theorem dX12_section_76 : decode cX12_section 76 = .ok (.getfield 87, 3) := by decide +kernel
theorem dX12_section_79 : decode cX12_section 79 = .ok (.aload_n 0, 1) := by decide +kernel
theorem dX12_section_80 : decode cX12_section 80 = .ok (.getfield 93, 3) := by decide +kernel
theorem dX12_section_83 : decode cX12_section 83 = .ok (.iload_n 2, 1) := by decide +kernel
theorem dX12_section_84 : decode cX12_section 84 = .ok (.iaload, 1) := by decide +kernel
theorem dX12_section_85 : decode cX12_section 85 = .ok (.baload, 1) := by decide +kernel
theorem dX12_section_86 : decode cX12_section 86 = .ok (.bipush 55, 2) := by decide +kernel
theorem dX12_section_88 : decode cX12_section 88 = .ok (.if_icmp .ne 10, 3) := by decide +kernel
theorem dX12_section_91 : decode cX12_section 91 = .ok (.aload_n 0, 1) := by decide +kernel
theorem dX12_section_92 : decode cX12_section 92 = .ok (.invokevirtual 817, 3) := by decide +kernel
theorem dX12_section_95 : decode cX12_section 95 = .ok (.ifCond .ne 4, 3) := by decide +kernel
theorem dX12_section_98 : decode cX12_section 98 = .ok (.return_, 1) := by decide +kernel
theorem dX12_section_99 : decode cX12_section 99 = .ok (.aload_n 0, 1) := by decide +kernel
theorem dX12_section_100 : decode cX12_section 100 = .ok (.getfield 93, 3) := by decide +kernel
theorem dX12_section_103 : decode cX12_section 103 = .ok (.iload_n 2, 1) := by decide +kernel
theorem dX12_section_104 : decode cX12_section 104 = .ok (.iaload, 1) := by decide +kernel
theorem dX12_section_105 : decode cX12_section 105 = .ok (.istore_n 3, 1) := by decide +kernel
theorem dX12_section_106 : decode cX12_section 106 = .ok (.aload_n 0, 1) := by decide +kernel
theorem dX12_section_107 : decode cX12_section 107 = .ok (.bipush 19, 2) := by decide +kernel
theorem dX12_section_109 : decode cX12_section 109 = .ok (.iload_n 3, 1) := by decide +kernel
theorem dX12_section_110 : decode cX12_section 110 = .ok (.iconst 0, 1) := by decide +kernel
theorem dX12_section_111 : decode cX12_section 111 = .ok (.invokevirtual 801, 3) := by decide +kernel
theorem dX12_section_114 : decode cX12_section 114 = .ok (.aload_n 0, 1) := by decide +kernel
theorem dX12_section_115 : decode cX12_section 115 = .ok (.getfield 276, 3) := by decide +kernel
theorem dX12_section_118 : decode cX12_section 118 = .ok (.istore 4, 2) := by decide +kernel
theorem dX12_section_120 : decode cX12_section 120 = .ok (.aload_n 0, 1) := by decide +kernel
theorem dX12_section_121 : decode cX12_section 121 = .ok (.getfield 93, 3) := by decide +kernel
theorem dX12_section_124 : decode cX12_section 124 = .ok (.iload_n 3, 1) := by decide +kernel
theorem dX12_section_125 : decode cX12_section 125 = .ok (.iaload, 1) := by decide +kernel
theorem dX12_section_126 : decode cX12_section 126 = .ok (.istore 5, 2) := by decide +kernel
theorem dX12_section_128 : decode cX12_section 128 = .ok (.iload 5, 2) := by decide +kernel
theorem dX12_section_130 : decode cX12_section 130 = .ok (.ifCond .lt 47, 3) := by decide +kernel
theorem dX12_section_133 : decode cX12_section 133 = .ok (.aload_n 0, 1) := by decide +kernel
theorem dX12_section_134 : decode cX12_section 134 = .ok (.getfield 87, 3) := by decide +kernel
theorem dX12_section_137 : decode cX12_section 137 = .ok (.iload 5, 2) := by decide +kernel
theorem dX12_section_139 : decode cX12_section 139 = .ok (.baload, 1) := by decide +kernel
theorem dX12_section_140 : decode cX12_section 140 = .ok (.bipush 58, 2) := by decide +kernel
theorem dX12_section_142 : decode cX12_section 142 = .ok (.if_icmp .eq 23, 3) := by decide +kernel
theorem dX12_section_145 : decode cX12_section 145 = .ok (.aload_n 0, 1) := by decide +kernel
theorem dX12_section_146 : decode cX12_section 146 = .ok (.getfield 87, 3) := by decide +kernel
theorem dX12_section_149 : decode cX12_section 149 = .ok (.iload 5, 2) := by decide +kernel
theorem dX12_section_151 : decode cX12_section 151 = .ok (.baload, 1) := by decide +kernel
theorem dX12_section_152 : decode cX12_section 152 = .ok (.bipush 59, 2) := by decide +kernel
theorem dX12_section_154 : decode cX12_section 154 = .ok (.if_icmp .eq 11, 3) := by decide +kernel
theorem dX12_section_157 : decode cX12_section 157 = .ok (.aload_n 0, 1) := by decide +kernel
theorem dX12_section_158 : decode cX12_section 158 = .ok (.iconst 1, 1) := by decide +kernel
theorem dX12_section_159 : decode cX12_section 159 = .ok (.iload 5, 2) := by decide +kernel
theorem dX12_section_161 : decode cX12_section 161 = .ok (.iconst 0, 1) := by decide +kernel
theorem dX12_section_162 : decode cX12_section 162 = .ok (.invokevirtual 801, 3) := by decide +kernel
theorem dX12_section_165 : decode cX12_section 165 = .ok (.aload_n 0, 1) := by decide +kernel
theorem dX12_section_166 : decode cX12_section 166 = .ok (.getfield 96, 3) := by decide +kernel
theorem dX12_section_169 : decode cX12_section 169 = .ok (.iload 5, 2) := by decide +kernel
theorem dX12_section_171 : decode cX12_section 171 = .ok (.iaload, 1) := by decide +kernel
theorem dX12_section_172 : decode cX12_section 172 = .ok (.istore 5, 2) := by decide +kernel
theorem dX12_section_174 : decode cX12_section 174 = .ok (.goto (-46), 3) := by decide +kernel
theorem dX12_section_177 : decode cX12_section 177 = .ok (.aload_n 0, 1) := by decide +kernel
theorem dX12_section_178 : decode cX12_section 178 = .ok (.iload 4, 2) := by decide +kernel
theorem dX12_section_180 : decode cX12_section 180 = .ok (.invokevirtual 807, 3) := by decide +kernel
theorem dX12_section_183 : decode cX12_section 183 = .ok (.return_, 1) := by decide +kernel
def wr_section_128B (Q : zS → Prop) (k128 : zS → Int → Int → Prop) (s0 : zS) (x4 : Int) (x5 : Int) : Prop :=
  ((x5 < 0 → wr_turnTodo s0 x4 (fun s4 => Q s4)) ∧ (¬ x5 < 0 → (0 ≤ x5) ∧ (x5 < 26000) ∧ (((za s0 25 (Int.toNat x5)) = 58 → (0 ≤ x5) ∧ (x5 < 26000) ∧ k128 s0 x4 (za s0 28 (Int.toNat x5))) ∧ (¬ (za s0 25 (Int.toNat x5)) = 58 → (0 ≤ x5) ∧ (x5 < 26000) ∧ (((za s0 25 (Int.toNat x5)) = 59 → (0 ≤ x5) ∧ (x5 < 26000) ∧ k128 s0 x4 (za s0 28 (Int.toNat x5))) ∧ (¬ (za s0 25 (Int.toNat x5)) = 59 → wr_todoTask s0 1 x5 0 (fun s33 => (0 ≤ x5) ∧ (x5 < 26000) ∧ k128 s33 x4 (za s33 28 (Int.toNat x5)))))))))
def wr_section_128 (Q : zS → Prop)  : Nat → zS → Int → Int → Prop
  | 0 => fun _ _ _ => False
  | m + 1 => fun s0 x4 x5 => wr_section_128B Q  (wr_section_128 Q  m) s0 x4 x5
def wr_section_36B (Q : zS → Prop) (k36 : zS → Int → Prop) (s0 : zS) (x3 : Int) : Prop :=
  (0 ≤ x3) ∧ (x3 < 26000) ∧ (((za s0 28 (Int.toNat x3)) < 0 → wr_todoTask s0 10 x3 0 (fun s8 => Q s8)) ∧ (¬ (za s0 28 (Int.toNat x3)) < 0 → (0 ≤ x3) ∧ (x3 < 26000) ∧ k36 s0 (za s0 28 (Int.toNat x3))))
def wr_section_36 (Q : zS → Prop)  : Nat → zS → Int → Prop
  | 0 => fun _ _ => False
  | m + 1 => fun s0 x3 => wr_section_36B Q  (wr_section_36 Q  m) s0 x3
def wr_section (s0 : zS) (a0 : Int) (a1 : Int) (Q : zS → Prop) : Prop :=
  ((0 ≤ a1 → (0 ≤ a1) ∧ (a1 < 26000) ∧ wr_todoTask s0 17 a0 (za s0 28 (Int.toNat a1)) (fun s8 => (0 ≤ a1) ∧ (a1 < 26000) ∧ ((¬ (za s8 25 (Int.toNat a1)) = 41 → (0 ≤ a1) ∧ (a1 < 26000) ∧ ((¬ (za s8 25 (Int.toNat a1)) = 53 → Q s8) ∧ ((za s8 25 (Int.toNat a1)) = 53 → (0 ≤ a1) ∧ (a1 < 26000) ∧ (0 ≤ (za s8 27 (Int.toNat a1))) ∧ ((za s8 27 (Int.toNat a1)) < 26000) ∧ ((¬ (za s8 25 (Int.toNat (za s8 27 (Int.toNat a1)))) = 55 → Q s8) ∧ ((za s8 25 (Int.toNat (za s8 27 (Int.toNat a1)))) = 55 → wr_burns s8  (fun r37 s38 => ((¬ r37 = 0 → (0 ≤ a1) ∧ (a1 < 26000) ∧ wr_todoTask s38 19 (za s38 27 (Int.toNat a1)) 0 (fun s50 => (0 ≤ (za s38 27 (Int.toNat a1))) ∧ ((za s38 27 (Int.toNat a1)) < 26000) ∧ ∃ n, wr_section_128 Q  n s50 (zv s50 87) (za s50 27 (Int.toNat (za s38 27 (Int.toNat a1)))))) ∧ (r37 = 0 → Q s38)))))))) ∧ ((za s8 25 (Int.toNat a1)) = 41 → (0 ≤ a1) ∧ (a1 < 26000) ∧ ∃ n, wr_section_36 Q  n s8 (za s8 27 (Int.toNat a1)))))) ∧ (¬ 0 ≤ a1 → Q s0))
set_option maxHeartbeats 4000000 in
set_option maxRecDepth 100000 in
theorem rb_section_128 {X : gX} {d : gD} {b t : Nat} {T : Nat → Nat} {F0 : gM} (hC : gC RX12 cX12_section 6 none "section" (gR 2 0 0) d b X) {Q : zS → Prop} {k128 : zS → Int → Int → Prop} (hk128 : ∀ (F : gM) (s0 : zS) (x4 : Int) (x5 : Int), zR x4 → zR x5 → zZ d t T F0 F s0 → k128 s0 x4 x5 → gG X d b (zQv X d b t T F0 Q) F 0 0 128 [some (.ref t), none, none, none, some (.int (zI x4)), some (.int (zI x5))] []) {F : gM} {s0 : zS} {x4 : Int} {x5 : Int} (Rx4 : zR x4) (Rx5 : zR x5) (hZ : zZ d t T F0 F s0) (hw : wr_section_128B Q k128 s0 x4 x5) : gG X d b (zQv X d b t T F0 Q) F 0 0 128 [some (.ref t), none, none, none, some (.int (zI x4)), some (.int (zI x5))] [] := by
  unfold wr_section_128B at hw
  refine g_iload hC dX12_section_128 rfl ?_
  refine zr_if_lt (tgt := 177) hC Rx5 dX12_section_130 (by decide) (fun c1 => ?_) (fun c1 => ?_)
  · have h2 := hw.1 c1
    refine g_aload_n hC dX12_section_177 rfl ?_
    refine g_iload hC dX12_section_178 rfl ?_
    refine zr_callVv (As := [.int (zI x4)]) hC hZ rfl (rm_turnTodo X.la d b Rx4 hZ.rf h2) cl_X12_807 rfl rfl (Nat.le_of_ble_eq_true rfl) ⟨Nat.le_of_ble_eq_true rfl, Nat.le_of_ble_eq_true rfl⟩ dX12_section_180 (fun s4 F5 hZ7 h8 => ?_)
    exact zr_vret hC hZ7 h8 dX12_section_183
  · have h9 := hw.2 c1
    refine g_aload_n hC dX12_section_133 rfl ?_
    refine zr_geta hC hZ fl_X12_87 zb_25 (by decide) dX12_section_134 ?_
    refine g_iload hC dX12_section_137 rfl ?_
    obtain ⟨o10, h11⟩ := h9
    obtain ⟨o12, h13⟩ := h11
    refine zr_bald (v := (za s0 25 (Int.toNat x5))) hC hZ zk_25 zb_25 zn_25 (by decide) o10 o12 rfl dX12_section_139 ?_
    refine g_bipush (v := zI 58) hC dX12_section_140 rfl ?_
    refine zr_icmp_eq (tgt := 165) hC (hZ.ra 25 _) (by decide) dX12_section_142 (by decide) (fun c14 => ?_) (fun c14 => ?_)
    · have h15 := h13.1 c14
      refine g_aload_n hC dX12_section_165 rfl ?_
      refine zr_geta hC hZ fl_X12_96 zb_28 (by decide) dX12_section_166 ?_
      refine g_iload hC dX12_section_169 rfl ?_
      obtain ⟨o16, h17⟩ := h15
      obtain ⟨o18, h19⟩ := h17
      refine zr_iald (v := (za s0 28 (Int.toNat x5))) hC hZ zk_28 zb_28 zn_28 (by decide) o16 o18 rfl dX12_section_171 ?_
      refine g_istore (lv' := [some (.ref t), none, none, none, some (.int (zI x4)), some (.int (zI (za s0 28 (Int.toNat x5))))]) hC dX12_section_172 (Nat.le_of_ble_eq_true rfl) rfl rfl ?_
      refine g_goto (tgt := 128) hC dX12_section_174 (by decide) ?_
      exact hk128 _ _ _ _ Rx4 (hZ.ra 28 _) hZ h19
    · have h20 := h13.2 c14
      refine g_aload_n hC dX12_section_145 rfl ?_
      refine zr_geta hC hZ fl_X12_87 zb_25 (by decide) dX12_section_146 ?_
      refine g_iload hC dX12_section_149 rfl ?_
      obtain ⟨o21, h22⟩ := h20
      obtain ⟨o23, h24⟩ := h22
      refine zr_bald (v := (za s0 25 (Int.toNat x5))) hC hZ zk_25 zb_25 zn_25 (by decide) o21 o23 rfl dX12_section_151 ?_
      refine g_bipush (v := zI 59) hC dX12_section_152 rfl ?_
      refine zr_icmp_eq (tgt := 165) hC (hZ.ra 25 _) (by decide) dX12_section_154 (by decide) (fun c25 => ?_) (fun c25 => ?_)
      · have h26 := h24.1 c25
        refine g_aload_n hC dX12_section_165 rfl ?_
        refine zr_geta hC hZ fl_X12_96 zb_28 (by decide) dX12_section_166 ?_
        refine g_iload hC dX12_section_169 rfl ?_
        obtain ⟨o27, h28⟩ := h26
        obtain ⟨o29, h30⟩ := h28
        refine zr_iald (v := (za s0 28 (Int.toNat x5))) hC hZ zk_28 zb_28 zn_28 (by decide) o27 o29 rfl dX12_section_171 ?_
        refine g_istore (lv' := [some (.ref t), none, none, none, some (.int (zI x4)), some (.int (zI (za s0 28 (Int.toNat x5))))]) hC dX12_section_172 (Nat.le_of_ble_eq_true rfl) rfl rfl ?_
        refine g_goto (tgt := 128) hC dX12_section_174 (by decide) ?_
        exact hk128 _ _ _ _ Rx4 (hZ.ra 28 _) hZ h30
      · have h31 := h24.2 c25
        refine g_aload_n hC dX12_section_157 rfl ?_
        refine g_iconst (v := zI 1) hC dX12_section_158 rfl ?_
        refine g_iload hC dX12_section_159 rfl ?_
        refine g_iconst (v := zI 0) hC dX12_section_161 rfl ?_
        refine zr_callVv (As := [.int (zI 1), .int (zI x5), .int (zI 0)]) hC hZ rfl (rm_todoTask X.la d b (by decide) Rx5 (by decide) hZ.rf h31) cl_X12_801 rfl rfl (Nat.le_of_ble_eq_true rfl) ⟨Nat.le_of_ble_eq_true rfl, Nat.le_of_ble_eq_true rfl⟩ dX12_section_162 (fun s33 F34 hZ36 h37 => ?_)
        refine g_aload_n hC dX12_section_165 rfl ?_
        refine zr_geta hC hZ36 fl_X12_96 zb_28 (by decide) dX12_section_166 ?_
        refine g_iload hC dX12_section_169 rfl ?_
        obtain ⟨o38, h39⟩ := h37
        obtain ⟨o40, h41⟩ := h39
        refine zr_iald (v := (za s33 28 (Int.toNat x5))) hC hZ36 zk_28 zb_28 zn_28 (by decide) o38 o40 rfl dX12_section_171 ?_
        refine g_istore (lv' := [some (.ref t), none, none, none, some (.int (zI x4)), some (.int (zI (za s33 28 (Int.toNat x5))))]) hC dX12_section_172 (Nat.le_of_ble_eq_true rfl) rfl rfl ?_
        refine g_goto (tgt := 128) hC dX12_section_174 (by decide) ?_
        exact hk128 _ _ _ _ Rx4 (hZ36.ra 28 _) hZ36 h41
theorem rl_section_128 {X : gX} {d : gD} {b t : Nat} {T : Nat → Nat} {F0 : gM} (hC : gC RX12 cX12_section 6 none "section" (gR 2 0 0) d b X) {Q : zS → Prop}   : ∀ (m : Nat) (F : gM) (s0 : zS) (x4 : Int) (x5 : Int), zR x4 → zR x5 → zZ d t T F0 F s0 → wr_section_128 Q  m s0 x4 x5 → gG X d b (zQv X d b t T F0 Q) F 0 0 128 [some (.ref t), none, none, none, some (.int (zI x4)), some (.int (zI x5))] [] := by
  intro m
  induction m with
  | zero => intro F s0 x4 x5 Rx4 Rx5 hZ hw; exact False.elim hw
  | succ m ih => intro F s0 x4 x5 Rx4 Rx5 hZ hw; exact rb_section_128 hC  ih Rx4 Rx5 hZ hw
set_option maxHeartbeats 4000000 in
set_option maxRecDepth 100000 in
theorem rb_section_36 {X : gX} {d : gD} {b t : Nat} {T : Nat → Nat} {F0 : gM} (hC : gC RX12 cX12_section 6 none "section" (gR 2 0 0) d b X) {Q : zS → Prop} {k36 : zS → Int → Prop} (hk36 : ∀ (F : gM) (s0 : zS) (x3 : Int), zR x3 → zZ d t T F0 F s0 → k36 s0 x3 → gG X d b (zQv X d b t T F0 Q) F 0 0 36 [some (.ref t), none, none, some (.int (zI x3)), none, none] []) {F : gM} {s0 : zS} {x3 : Int} (Rx3 : zR x3) (hZ : zZ d t T F0 F s0) (hw : wr_section_36B Q k36 s0 x3) : gG X d b (zQv X d b t T F0 Q) F 0 0 36 [some (.ref t), none, none, some (.int (zI x3)), none, none] [] := by
  unfold wr_section_36B at hw
  refine g_aload_n hC dX12_section_36 rfl ?_
  refine zr_geta hC hZ fl_X12_96 zb_28 (by decide) dX12_section_37 ?_
  refine g_iload_n hC dX12_section_40 rfl ?_
  obtain ⟨o1, h2⟩ := hw
  obtain ⟨o3, h4⟩ := h2
  refine zr_iald (v := (za s0 28 (Int.toNat x3))) hC hZ zk_28 zb_28 zn_28 (by decide) o1 o3 rfl dX12_section_41 ?_
  refine zr_if_lt (tgt := 55) hC (hZ.ra 28 _) dX12_section_42 (by decide) (fun c5 => ?_) (fun c5 => ?_)
  · have h6 := h4.1 c5
    refine g_aload_n hC dX12_section_55 rfl ?_
    refine g_bipush (v := zI 10) hC dX12_section_56 rfl ?_
    refine g_iload_n hC dX12_section_58 rfl ?_
    refine g_iconst (v := zI 0) hC dX12_section_59 rfl ?_
    refine zr_callVv (As := [.int (zI 10), .int (zI x3), .int (zI 0)]) hC hZ rfl (rm_todoTask X.la d b (by decide) Rx3 (by decide) hZ.rf h6) cl_X12_801 rfl rfl (Nat.le_of_ble_eq_true rfl) ⟨Nat.le_of_ble_eq_true rfl, Nat.le_of_ble_eq_true rfl⟩ dX12_section_60 (fun s8 F9 hZ11 h12 => ?_)
    exact zr_vret hC hZ11 h12 dX12_section_63
  · have h13 := h4.2 c5
    refine g_aload_n hC dX12_section_45 rfl ?_
    refine zr_geta hC hZ fl_X12_96 zb_28 (by decide) dX12_section_46 ?_
    refine g_iload_n hC dX12_section_49 rfl ?_
    obtain ⟨o14, h15⟩ := h13
    obtain ⟨o16, h17⟩ := h15
    refine zr_iald (v := (za s0 28 (Int.toNat x3))) hC hZ zk_28 zb_28 zn_28 (by decide) o14 o16 rfl dX12_section_50 ?_
    refine g_istore_n (lv' := [some (.ref t), none, none, some (.int (zI (za s0 28 (Int.toNat x3)))), none, none]) hC dX12_section_51 (Nat.le_of_ble_eq_true rfl) rfl rfl ?_
    refine g_goto (tgt := 36) hC dX12_section_52 (by decide) ?_
    exact hk36 _ _ _ (hZ.ra 28 _) hZ h17
theorem rl_section_36 {X : gX} {d : gD} {b t : Nat} {T : Nat → Nat} {F0 : gM} (hC : gC RX12 cX12_section 6 none "section" (gR 2 0 0) d b X) {Q : zS → Prop}   : ∀ (m : Nat) (F : gM) (s0 : zS) (x3 : Int), zR x3 → zZ d t T F0 F s0 → wr_section_36 Q  m s0 x3 → gG X d b (zQv X d b t T F0 Q) F 0 0 36 [some (.ref t), none, none, some (.int (zI x3)), none, none] [] := by
  intro m
  induction m with
  | zero => intro F s0 x3 Rx3 hZ hw; exact False.elim hw
  | succ m ih => intro F s0 x3 Rx3 hZ hw; exact rb_section_36 hC  ih Rx3 hZ hw
set_option maxHeartbeats 4000000 in
set_option maxRecDepth 100000 in
theorem rm_section (l : Launch) (d : gD) (b : Nat) {t : Nat} {T : Nat → Nat} {F : gM} {s0 : zS} {a0 : Int} {a1 : Int} (Ra0 : zR a0) (Ra1 : zR a1) {Q : zS → Prop} (hZ : zZ d t T F F s0) (hw : wr_section s0 a0 a1 Q) : gMv l d b yX12_section cX12_section 6 2 0 0 F [.ref t, .int (zI a0), .int (zI a1)] (zPv d t T F Q) := by
  refine gM_of2 rfl (nL := 6) (Nat.le_of_ble_eq_true rfl) ?_
  intro X hX hC; subst hX
  show gG X d b (zQv X d b t T F Q) F 0 0 0 [some (.ref t), some (.int (zI a0)), some (.int (zI a1)), none, none, none] []
  unfold wr_section at hw
  refine g_iload_n hC dX12_section_0 rfl ?_
  refine zr_if_ge (tgt := 5) hC Ra1 dX12_section_1 (by decide) (fun c1 => ?_) (fun c1 => ?_)
  · have h2 := hw.1 c1
    refine g_aload_n hC dX12_section_5 rfl ?_
    refine g_bipush (v := zI 17) hC dX12_section_6 rfl ?_
    refine g_iload_n hC dX12_section_8 rfl ?_
    refine g_aload_n hC dX12_section_9 rfl ?_
    refine zr_geta hC hZ fl_X12_96 zb_28 (by decide) dX12_section_10 ?_
    refine g_iload_n hC dX12_section_13 rfl ?_
    obtain ⟨o3, h4⟩ := h2
    obtain ⟨o5, h6⟩ := h4
    refine zr_iald (v := (za s0 28 (Int.toNat a1))) hC hZ zk_28 zb_28 zn_28 (by decide) o3 o5 rfl dX12_section_14 ?_
    refine zr_callVv (As := [.int (zI 17), .int (zI a0), .int (zI (za s0 28 (Int.toNat a1)))]) hC hZ rfl (rm_todoTask X.la d b (by decide) Ra0 (hZ.ra 28 _) hZ.rf h6) cl_X12_801 rfl rfl (Nat.le_of_ble_eq_true rfl) ⟨Nat.le_of_ble_eq_true rfl, Nat.le_of_ble_eq_true rfl⟩ dX12_section_15 (fun s8 F9 hZ11 h12 => ?_)
    refine g_aload_n hC dX12_section_18 rfl ?_
    refine zr_geta hC hZ11 fl_X12_87 zb_25 (by decide) dX12_section_19 ?_
    refine g_iload_n hC dX12_section_22 rfl ?_
    obtain ⟨o13, h14⟩ := h12
    obtain ⟨o15, h16⟩ := h14
    refine zr_bald (v := (za s8 25 (Int.toNat a1))) hC hZ11 zk_25 zb_25 zn_25 (by decide) o13 o15 rfl dX12_section_23 ?_
    refine g_bipush (v := zI 41) hC dX12_section_24 rfl ?_
    refine zr_icmp_ne (tgt := 64) hC (hZ11.ra 25 _) (by decide) dX12_section_26 (by decide) (fun c17 => ?_) (fun c17 => ?_)
    · have h18 := h16.1 c17
      refine g_aload_n hC dX12_section_64 rfl ?_
      refine zr_geta hC hZ11 fl_X12_87 zb_25 (by decide) dX12_section_65 ?_
      refine g_iload_n hC dX12_section_68 rfl ?_
      obtain ⟨o19, h20⟩ := h18
      obtain ⟨o21, h22⟩ := h20
      refine zr_bald (v := (za s8 25 (Int.toNat a1))) hC hZ11 zk_25 zb_25 zn_25 (by decide) o19 o21 rfl dX12_section_69 ?_
      refine g_bipush (v := zI 53) hC dX12_section_70 rfl ?_
      refine zr_icmp_ne (tgt := 98) hC (hZ11.ra 25 _) (by decide) dX12_section_72 (by decide) (fun c23 => ?_) (fun c23 => ?_)
      · have h24 := h22.1 c23
        exact zr_vret hC hZ11 h24 dX12_section_98
      · have h25 := h22.2 c23
        refine g_aload_n hC dX12_section_75 rfl ?_
        refine zr_geta hC hZ11 fl_X12_87 zb_25 (by decide) dX12_section_76 ?_
        refine g_aload_n hC dX12_section_79 rfl ?_
        refine zr_geta hC hZ11 fl_X12_93 zb_27 (by decide) dX12_section_80 ?_
        refine g_iload_n hC dX12_section_83 rfl ?_
        obtain ⟨o26, h27⟩ := h25
        obtain ⟨o28, h29⟩ := h27
        refine zr_iald (v := (za s8 27 (Int.toNat a1))) hC hZ11 zk_27 zb_27 zn_27 (by decide) o26 o28 rfl dX12_section_84 ?_
        obtain ⟨o30, h31⟩ := h29
        obtain ⟨o32, h33⟩ := h31
        refine zr_bald (v := (za s8 25 (Int.toNat (za s8 27 (Int.toNat a1))))) hC hZ11 zk_25 zb_25 zn_25 (by decide) o30 o32 rfl dX12_section_85 ?_
        refine g_bipush (v := zI 55) hC dX12_section_86 rfl ?_
        refine zr_icmp_ne (tgt := 98) hC (hZ11.ra 25 _) (by decide) dX12_section_88 (by decide) (fun c34 => ?_) (fun c34 => ?_)
        · have h35 := h33.1 c34
          exact zr_vret hC hZ11 h35 dX12_section_98
        · have h36 := h33.2 c34
          refine g_aload_n hC dX12_section_91 rfl ?_
          refine zr_callVi (As := []) hC hZ11 rfl (rm_burns X.la d b  hZ11.rf h36) cl_X12_817 rfl rfl (Nat.le_of_ble_eq_true rfl) ⟨Nat.le_of_ble_eq_true rfl, Nat.le_of_ble_eq_true rfl⟩ dX12_section_92 (fun r37 s38 F39 R40 hZ41 h42 => ?_)
          refine zr_if_ne (tgt := 99) hC R40 dX12_section_95 (by decide) (fun c43 => ?_) (fun c43 => ?_)
          · have h44 := h42.1 c43
            refine g_aload_n hC dX12_section_99 rfl ?_
            refine zr_geta hC hZ41 fl_X12_93 zb_27 (by decide) dX12_section_100 ?_
            refine g_iload_n hC dX12_section_103 rfl ?_
            obtain ⟨o45, h46⟩ := h44
            obtain ⟨o47, h48⟩ := h46
            refine zr_iald (v := (za s38 27 (Int.toNat a1))) hC hZ41 zk_27 zb_27 zn_27 (by decide) o45 o47 rfl dX12_section_104 ?_
            refine g_istore_n (lv' := [some (.ref t), some (.int (zI a0)), some (.int (zI a1)), some (.int (zI (za s38 27 (Int.toNat a1)))), none, none]) hC dX12_section_105 (Nat.le_of_ble_eq_true rfl) rfl rfl ?_
            refine g_aload_n hC dX12_section_106 rfl ?_
            refine g_bipush (v := zI 19) hC dX12_section_107 rfl ?_
            refine g_iload_n hC dX12_section_109 rfl ?_
            refine g_iconst (v := zI 0) hC dX12_section_110 rfl ?_
            refine zr_callVv (As := [.int (zI 19), .int (zI (za s38 27 (Int.toNat a1))), .int (zI 0)]) hC hZ41 rfl (rm_todoTask X.la d b (by decide) (hZ41.ra 27 _) (by decide) hZ41.rf h48) cl_X12_801 rfl rfl (Nat.le_of_ble_eq_true rfl) ⟨Nat.le_of_ble_eq_true rfl, Nat.le_of_ble_eq_true rfl⟩ dX12_section_111 (fun s50 F51 hZ53 h54 => ?_)
            refine g_aload_n hC dX12_section_114 rfl ?_
            refine zr_get (e := (zv s50 87)) hC hZ53 fl_X12_276 zb_87 (by decide) rfl dX12_section_115 ?_
            refine g_istore (lv' := [some (.ref t), some (.int (zI a0)), some (.int (zI a1)), some (.int (zI (za s38 27 (Int.toNat a1)))), some (.int (zI (zv s50 87))), none]) hC dX12_section_118 (Nat.le_of_ble_eq_true rfl) rfl rfl ?_
            refine g_aload_n hC dX12_section_120 rfl ?_
            refine zr_geta hC hZ53 fl_X12_93 zb_27 (by decide) dX12_section_121 ?_
            refine g_iload_n hC dX12_section_124 rfl ?_
            obtain ⟨o55, h56⟩ := h54
            obtain ⟨o57, h58⟩ := h56
            refine zr_iald (v := (za s50 27 (Int.toNat (za s38 27 (Int.toNat a1))))) hC hZ53 zk_27 zb_27 zn_27 (by decide) o55 o57 rfl dX12_section_125 ?_
            refine g_istore (lv' := [some (.ref t), some (.int (zI a0)), some (.int (zI a1)), some (.int (zI (za s38 27 (Int.toNat a1)))), some (.int (zI (zv s50 87))), some (.int (zI (za s50 27 (Int.toNat (za s38 27 (Int.toNat a1))))))]) hC dX12_section_126 (Nat.le_of_ble_eq_true rfl) rfl rfl ?_
            refine g_lv (lv' := [some (.ref t), none, none, none, some (.int (zI (zv s50 87))), some (.int (zI (za s50 27 (Int.toNat (za s38 27 (Int.toNat a1))))))]) ⟨rfl, rfl, rfl, trivial⟩ ?_
            obtain ⟨m59, h60⟩ := h58
            exact rl_section_128 hC  m59 _ _ _ _ (hZ53.rv 87) (hZ53.ra 27 _) hZ53 h60
          · have h61 := h42.2 c43
            exact zr_vret hC hZ41 h61 dX12_section_98
    · have h62 := h16.2 c17
      refine g_aload_n hC dX12_section_29 rfl ?_
      refine zr_geta hC hZ11 fl_X12_93 zb_27 (by decide) dX12_section_30 ?_
      refine g_iload_n hC dX12_section_33 rfl ?_
      obtain ⟨o63, h64⟩ := h62
      obtain ⟨o65, h66⟩ := h64
      refine zr_iald (v := (za s8 27 (Int.toNat a1))) hC hZ11 zk_27 zb_27 zn_27 (by decide) o63 o65 rfl dX12_section_34 ?_
      refine g_istore_n (lv' := [some (.ref t), some (.int (zI a0)), some (.int (zI a1)), some (.int (zI (za s8 27 (Int.toNat a1)))), none, none]) hC dX12_section_35 (Nat.le_of_ble_eq_true rfl) rfl rfl ?_
      refine g_lv (lv' := [some (.ref t), none, none, some (.int (zI (za s8 27 (Int.toNat a1)))), none, none]) ⟨rfl, rfl, trivial⟩ ?_
      obtain ⟨m67, h68⟩ := h66
      exact rl_section_36 hC  m67 _ _ _ (hZ11.ra 27 _) hZ11 h68
  · have h69 := hw.2 c1
    exact zr_vret hC hZ h69 dX12_section_4
theorem dX12_variables_0 : decode cX12_variables 0 = .ok (.iconst 0, 1) := by decide +kernel
theorem dX12_variables_1 : decode cX12_variables 1 = .ok (.istore_n 2, 1) := by decide +kernel
theorem dX12_variables_2 : decode cX12_variables 2 = .ok (.iconst 0, 1) := by decide +kernel
theorem dX12_variables_3 : decode cX12_variables 3 = .ok (.istore_n 3, 1) := by decide +kernel
theorem dX12_variables_4 : decode cX12_variables 4 = .ok (.aload_n 0, 1) := by decide +kernel
theorem dX12_variables_5 : decode cX12_variables 5 = .ok (.getfield 93, 3) := by decide +kernel
theorem dX12_variables_8 : decode cX12_variables 8 = .ok (.iload_n 1, 1) := by decide +kernel
theorem dX12_variables_9 : decode cX12_variables 9 = .ok (.iaload, 1) := by decide +kernel
theorem dX12_variables_10 : decode cX12_variables 10 = .ok (.istore 4, 2) := by decide +kernel
theorem dX12_variables_12 : decode cX12_variables 12 = .ok (.iload 4, 2) := by decide +kernel
theorem dX12_variables_14 : decode cX12_variables 14 = .ok (.ifCond .lt 48, 3) := by decide +kernel
theorem dX12_variables_17 : decode cX12_variables 17 = .ok (.aload_n 0, 1) := by decide +kernel
theorem dX12_variables_18 : decode cX12_variables 18 = .ok (.getfield 87, 3) := by decide +kernel
theorem dX12_variables_21 : decode cX12_variables 21 = .ok (.iload 4, 2) := by decide +kernel
theorem dX12_variables_23 : decode cX12_variables 23 = .ok (.baload, 1) := by decide +kernel
theorem dX12_variables_24 : decode cX12_variables 24 = .ok (.bipush 58, 2) := by decide +kernel
theorem dX12_variables_26 : decode cX12_variables 26 = .ok (.if_icmp .ne 9, 3) := by decide +kernel
theorem dX12_variables_29 : decode cX12_variables 29 = .ok (.iinc 2 1, 3) := by decide +kernel
theorem dX12_variables_32 : decode cX12_variables 32 = .ok (.goto 18, 3) := by decide +kernel
theorem dX12_variables_35 : decode cX12_variables 35 = .ok (.aload_n 0, 1) := by decide +kernel
theorem dX12_variables_36 : decode cX12_variables 36 = .ok (.getfield 87, 3) := by decide +kernel
theorem dX12_variables_39 : decode cX12_variables 39 = .ok (.iload 4, 2) := by decide +kernel
theorem dX12_variables_41 : decode cX12_variables 41 = .ok (.baload, 1) := by decide +kernel
theorem dX12_variables_42 : decode cX12_variables 42 = .ok (.bipush 59, 2) := by decide +kernel
theorem dX12_variables_44 : decode cX12_variables 44 = .ok (.if_icmp .eq 6, 3) := by decide +kernel
theorem dX12_variables_47 : decode cX12_variables 47 = .ok (.iinc 3 1, 3) := by decide +kernel
theorem dX12_variables_50 : decode cX12_variables 50 = .ok (.aload_n 0, 1) := by decide +kernel
theorem dX12_variables_51 : decode cX12_variables 51 = .ok (.getfield 96, 3) := by decide +kernel
theorem dX12_variables_54 : decode cX12_variables 54 = .ok (.iload 4, 2) := by decide +kernel
theorem dX12_variables_56 : decode cX12_variables 56 = .ok (.iaload, 1) := by decide +kernel
theorem dX12_variables_57 : decode cX12_variables 57 = .ok (.istore 4, 2) := by decide +kernel
theorem dX12_variables_59 : decode cX12_variables 59 = .ok (.goto (-47), 3) := by decide +kernel
theorem dX12_variables_62 : decode cX12_variables 62 = .ok (.aload_n 0, 1) := by decide +kernel
theorem dX12_variables_63 : decode cX12_variables 63 = .ok (.getfield 289, 3) := by decide +kernel
theorem dX12_variables_66 : decode cX12_variables 66 = .ok (.iload_n 3, 1) := by decide +kernel
theorem dX12_variables_67 : decode cX12_variables 67 = .ok (.isub, 1) := by decide +kernel
theorem dX12_variables_68 : decode cX12_variables 68 = .ok (.istore 4, 2) := by decide +kernel
theorem dX12_variables_70 : decode cX12_variables 70 = .ok (.aload_n 0, 1) := by decide +kernel
theorem dX12_variables_71 : decode cX12_variables 71 = .ok (.getfield 305, 3) := by decide +kernel
theorem dX12_variables_74 : decode cX12_variables 74 = .ok (.aload_n 0, 1) := by decide +kernel
theorem dX12_variables_75 : decode cX12_variables 75 = .ok (.getfield 102, 3) := by decide +kernel
theorem dX12_variables_78 : decode cX12_variables 78 = .ok (.iload_n 1, 1) := by decide +kernel
theorem dX12_variables_79 : decode cX12_variables 79 = .ok (.iaload, 1) := by decide +kernel
theorem dX12_variables_80 : decode cX12_variables 80 = .ok (.iadd, 1) := by decide +kernel
theorem dX12_variables_81 : decode cX12_variables 81 = .ok (.istore 5, 2) := by decide +kernel
theorem dX12_variables_83 : decode cX12_variables 83 = .ok (.aload_n 0, 1) := by decide +kernel
theorem dX12_variables_84 : decode cX12_variables 84 = .ok (.getfield 93, 3) := by decide +kernel
theorem dX12_variables_87 : decode cX12_variables 87 = .ok (.iload_n 1, 1) := by decide +kernel
theorem dX12_variables_88 : decode cX12_variables 88 = .ok (.iaload, 1) := by decide +kernel
theorem dX12_variables_89 : decode cX12_variables 89 = .ok (.istore 6, 2) := by decide +kernel
theorem dX12_variables_91 : decode cX12_variables 91 = .ok (.iload 6, 2) := by decide +kernel
theorem dX12_variables_93 : decode cX12_variables 93 = .ok (.ifCond .lt 84, 3) := by decide +kernel
theorem dX12_variables_96 : decode cX12_variables 96 = .ok (.aload_n 0, 1) := by decide +kernel
theorem dX12_variables_97 : decode cX12_variables 97 = .ok (.getfield 87, 3) := by decide +kernel
theorem dX12_variables_100 : decode cX12_variables 100 = .ok (.iload 6, 2) := by decide +kernel
theorem dX12_variables_102 : decode cX12_variables 102 = .ok (.baload, 1) := by decide +kernel
theorem dX12_variables_103 : decode cX12_variables 103 = .ok (.bipush 58, 2) := by decide +kernel
theorem dX12_variables_105 : decode cX12_variables 105 = .ok (.if_icmp .ne 6, 3) := by decide +kernel
theorem dX12_variables_108 : decode cX12_variables 108 = .ok (.goto 57, 3) := by decide +kernel
theorem dX12_variables_111 : decode cX12_variables 111 = .ok (.aload_n 0, 1) := by decide +kernel
theorem dX12_variables_112 : decode cX12_variables 112 = .ok (.getfield 87, 3) := by decide +kernel
theorem dX12_variables_115 : decode cX12_variables 115 = .ok (.iload 6, 2) := by decide +kernel
theorem dX12_variables_117 : decode cX12_variables 117 = .ok (.baload, 1) := by decide +kernel
theorem dX12_variables_118 : decode cX12_variables 118 = .ok (.bipush 59, 2) := by decide +kernel
theorem dX12_variables_120 : decode cX12_variables 120 = .ok (.if_icmp .ne 25, 3) := by decide +kernel
theorem dX12_variables_123 : decode cX12_variables 123 = .ok (.aload_n 0, 1) := by decide +kernel
theorem dX12_variables_124 : decode cX12_variables 124 = .ok (.getfield 312, 3) := by decide +kernel
theorem dX12_variables_127 : decode cX12_variables 127 = .ok (.iload 5, 2) := by decide +kernel
theorem dX12_variables_129 : decode cX12_variables 129 = .ok (.aload_n 0, 1) := by decide +kernel
theorem dX12_variables_130 : decode cX12_variables 130 = .ok (.getfield 305, 3) := by decide +kernel
theorem dX12_variables_133 : decode cX12_variables 133 = .ok (.aload_n 0, 1) := by decide +kernel
theorem dX12_variables_134 : decode cX12_variables 134 = .ok (.getfield 105, 3) := by decide +kernel
theorem dX12_variables_137 : decode cX12_variables 137 = .ok (.iload 6, 2) := by decide +kernel
theorem dX12_variables_139 : decode cX12_variables 139 = .ok (.iaload, 1) := by decide +kernel
theorem dX12_variables_140 : decode cX12_variables 140 = .ok (.iadd, 1) := by decide +kernel
theorem dX12_variables_141 : decode cX12_variables 141 = .ok (.iastore, 1) := by decide +kernel
theorem dX12_variables_142 : decode cX12_variables 142 = .ok (.goto 20, 3) := by decide +kernel
theorem dX12_variables_145 : decode cX12_variables 145 = .ok (.aload_n 0, 1) := by decide +kernel
theorem dX12_variables_146 : decode cX12_variables 146 = .ok (.getfield 312, 3) := by decide +kernel
theorem dX12_variables_149 : decode cX12_variables 149 = .ok (.iload 5, 2) := by decide +kernel
theorem dX12_variables_151 : decode cX12_variables 151 = .ok (.aload_n 0, 1) := by decide +kernel
theorem dX12_variables_152 : decode cX12_variables 152 = .ok (.getfield 293, 3) := by decide +kernel
theorem dX12_variables_155 : decode cX12_variables 155 = .ok (.iload 4, 2) := by decide +kernel
theorem dX12_variables_157 : decode cX12_variables 157 = .ok (.iaload, 1) := by decide +kernel
theorem dX12_variables_158 : decode cX12_variables 158 = .ok (.iastore, 1) := by decide +kernel
theorem dX12_variables_159 : decode cX12_variables 159 = .ok (.iinc 4 1, 3) := by decide +kernel
theorem dX12_variables_162 : decode cX12_variables 162 = .ok (.iinc 5 1, 3) := by decide +kernel
theorem dX12_variables_165 : decode cX12_variables 165 = .ok (.aload_n 0, 1) := by decide +kernel
theorem dX12_variables_166 : decode cX12_variables 166 = .ok (.getfield 96, 3) := by decide +kernel
theorem dX12_variables_169 : decode cX12_variables 169 = .ok (.iload 6, 2) := by decide +kernel
theorem dX12_variables_171 : decode cX12_variables 171 = .ok (.iaload, 1) := by decide +kernel
theorem dX12_variables_172 : decode cX12_variables 172 = .ok (.istore 6, 2) := by decide +kernel
theorem dX12_variables_174 : decode cX12_variables 174 = .ok (.goto (-83), 3) := by decide +kernel
theorem dX12_variables_177 : decode cX12_variables 177 = .ok (.aload_n 0, 1) := by decide +kernel
theorem dX12_variables_178 : decode cX12_variables 178 = .ok (.dup, 1) := by decide +kernel
theorem dX12_variables_179 : decode cX12_variables 179 = .ok (.getfield 289, 3) := by decide +kernel
theorem dX12_variables_182 : decode cX12_variables 182 = .ok (.iload_n 3, 1) := by decide +kernel
theorem dX12_variables_183 : decode cX12_variables 183 = .ok (.isub, 1) := by decide +kernel
theorem dX12_variables_184 : decode cX12_variables 184 = .ok (.putfield 289, 3) := by decide +kernel
theorem dX12_variables_187 : decode cX12_variables 187 = .ok (.return_, 1) := by decide +kernel
def wr_variables_91B (Q : zS → Prop) (k91 : zS → Int → Int → Int → Int → Prop) (s0 : zS) (x3 : Int) (x4 : Int) (x5 : Int) (x6 : Int) : Prop :=
  ((x6 < 0 → (zR ((zv s0 91) - x3)) ∧ Q (zpv s0 91 ((zv s0 91) - x3))) ∧ (¬ x6 < 0 → (0 ≤ x6) ∧ (x6 < 26000) ∧ ((¬ (za s0 25 (Int.toNat x6)) = 58 → (0 ≤ x6) ∧ (x6 < 26000) ∧ ((¬ (za s0 25 (Int.toNat x6)) = 59 → (0 ≤ x4) ∧ (x4 < 300000) ∧ (0 ≤ x5) ∧ (x5 < 65536) ∧ (0 ≤ x6) ∧ (x6 < 26000) ∧ (zR (x4 + 1)) ∧ (zR (x5 + 1)) ∧ k91 (zpa s0 98 (Int.toNat x5) (za s0 92 (Int.toNat x4))) x3 (x4 + 1) (x5 + 1) (za s0 28 (Int.toNat x6))) ∧ ((za s0 25 (Int.toNat x6)) = 59 → (0 ≤ x6) ∧ (x6 < 26000) ∧ (0 ≤ x5) ∧ (x5 < 65536) ∧ (zR ((zv s0 96) + (za s0 31 (Int.toNat x6)))) ∧ (0 ≤ x6) ∧ (x6 < 26000) ∧ (zR (x5 + 1)) ∧ k91 (zpa s0 98 (Int.toNat x5) ((zv s0 96) + (za s0 31 (Int.toNat x6)))) x3 x4 (x5 + 1) (za s0 28 (Int.toNat x6))))) ∧ ((za s0 25 (Int.toNat x6)) = 58 → (0 ≤ x6) ∧ (x6 < 26000) ∧ k91 s0 x3 x4 x5 (za s0 28 (Int.toNat x6))))))
def wr_variables_91 (Q : zS → Prop)  : Nat → zS → Int → Int → Int → Int → Prop
  | 0 => fun _ _ _ _ _ => False
  | m + 1 => fun s0 x3 x4 x5 x6 => wr_variables_91B Q  (wr_variables_91 Q  m) s0 x3 x4 x5 x6
def wr_variables_12B (Q : zS → Prop) (k12 : zS → Int → Int → Int → Int → Prop) (s0 : zS) (x1 : Int) (x2 : Int) (x3 : Int) (x4 : Int) : Prop :=
  ((x4 < 0 → (0 ≤ x1) ∧ (x1 < 26000) ∧ (0 ≤ x1) ∧ (x1 < 26000) ∧ (zR ((zv s0 91) - x3)) ∧ (zR ((zv s0 96) + (za s0 30 (Int.toNat x1)))) ∧ ∃ n, wr_variables_91 Q  n s0 x3 ((zv s0 91) - x3) ((zv s0 96) + (za s0 30 (Int.toNat x1))) (za s0 27 (Int.toNat x1))) ∧ (¬ x4 < 0 → (0 ≤ x4) ∧ (x4 < 26000) ∧ ((¬ (za s0 25 (Int.toNat x4)) = 58 → (0 ≤ x4) ∧ (x4 < 26000) ∧ (((za s0 25 (Int.toNat x4)) = 59 → (0 ≤ x4) ∧ (x4 < 26000) ∧ k12 s0 x1 x2 x3 (za s0 28 (Int.toNat x4))) ∧ (¬ (za s0 25 (Int.toNat x4)) = 59 → (0 ≤ x4) ∧ (x4 < 26000) ∧ (zR (x3 + 1)) ∧ k12 s0 x1 x2 (x3 + 1) (za s0 28 (Int.toNat x4))))) ∧ ((za s0 25 (Int.toNat x4)) = 58 → (0 ≤ x4) ∧ (x4 < 26000) ∧ (zR (x2 + 1)) ∧ k12 s0 x1 (x2 + 1) x3 (za s0 28 (Int.toNat x4))))))
def wr_variables_12 (Q : zS → Prop)  : Nat → zS → Int → Int → Int → Int → Prop
  | 0 => fun _ _ _ _ _ => False
  | m + 1 => fun s0 x1 x2 x3 x4 => wr_variables_12B Q  (wr_variables_12 Q  m) s0 x1 x2 x3 x4
def wr_variables (s0 : zS) (a0 : Int) (Q : zS → Prop) : Prop :=
  (0 ≤ a0) ∧ (a0 < 26000) ∧ ∃ n, wr_variables_12 Q  n s0 a0 0 0 (za s0 27 (Int.toNat a0))
set_option maxHeartbeats 4000000 in
set_option maxRecDepth 100000 in
theorem rb_variables_91 {X : gX} {d : gD} {b t : Nat} {T : Nat → Nat} {F0 : gM} (hC : gC RX12 cX12_variables 7 none "variables" (gR 0 0 0) d b X) {Q : zS → Prop} {k91 : zS → Int → Int → Int → Int → Prop} (hk91 : ∀ (F : gM) (s0 : zS) (x3 : Int) (x4 : Int) (x5 : Int) (x6 : Int), zR x3 → zR x4 → zR x5 → zR x6 → zZ d t T F0 F s0 → k91 s0 x3 x4 x5 x6 → gG X d b (zQv X d b t T F0 Q) F 0 0 91 [some (.ref t), none, none, some (.int (zI x3)), some (.int (zI x4)), some (.int (zI x5)), some (.int (zI x6))] []) {F : gM} {s0 : zS} {x3 : Int} {x4 : Int} {x5 : Int} {x6 : Int} (Rx3 : zR x3) (Rx4 : zR x4) (Rx5 : zR x5) (Rx6 : zR x6) (hZ : zZ d t T F0 F s0) (hw : wr_variables_91B Q k91 s0 x3 x4 x5 x6) : gG X d b (zQv X d b t T F0 Q) F 0 0 91 [some (.ref t), none, none, some (.int (zI x3)), some (.int (zI x4)), some (.int (zI x5)), some (.int (zI x6))] [] := by
  unfold wr_variables_91B at hw
  refine g_iload hC dX12_variables_91 rfl ?_
  refine zr_if_lt (tgt := 177) hC Rx6 dX12_variables_93 (by decide) (fun c1 => ?_) (fun c1 => ?_)
  · have h2 := hw.1 c1
    refine g_aload_n hC dX12_variables_177 rfl ?_
    refine g_dup hC dX12_variables_178 rfl ?_
    refine zr_get (e := (zv s0 91)) hC hZ fl_X12_289 zb_91 (by decide) rfl dX12_variables_179 ?_
    refine g_iload_n hC dX12_variables_182 rfl ?_
    refine zr_isub hC dX12_variables_183 ?_
    obtain ⟨o3, h4⟩ := h2
    refine zr_put hC hZ fl_X12_289 zb_91 (by decide) o3 dX12_variables_184 (fun F5 hZ6 => ?_)
    exact zr_vret hC hZ6 h4 dX12_variables_187
  · have h7 := hw.2 c1
    refine g_aload_n hC dX12_variables_96 rfl ?_
    refine zr_geta hC hZ fl_X12_87 zb_25 (by decide) dX12_variables_97 ?_
    refine g_iload hC dX12_variables_100 rfl ?_
    obtain ⟨o8, h9⟩ := h7
    obtain ⟨o10, h11⟩ := h9
    refine zr_bald (v := (za s0 25 (Int.toNat x6))) hC hZ zk_25 zb_25 zn_25 (by decide) o8 o10 rfl dX12_variables_102 ?_
    refine g_bipush (v := zI 58) hC dX12_variables_103 rfl ?_
    refine zr_icmp_ne (tgt := 111) hC (hZ.ra 25 _) (by decide) dX12_variables_105 (by decide) (fun c12 => ?_) (fun c12 => ?_)
    · have h13 := h11.1 c12
      refine g_aload_n hC dX12_variables_111 rfl ?_
      refine zr_geta hC hZ fl_X12_87 zb_25 (by decide) dX12_variables_112 ?_
      refine g_iload hC dX12_variables_115 rfl ?_
      obtain ⟨o14, h15⟩ := h13
      obtain ⟨o16, h17⟩ := h15
      refine zr_bald (v := (za s0 25 (Int.toNat x6))) hC hZ zk_25 zb_25 zn_25 (by decide) o14 o16 rfl dX12_variables_117 ?_
      refine g_bipush (v := zI 59) hC dX12_variables_118 rfl ?_
      refine zr_icmp_ne (tgt := 145) hC (hZ.ra 25 _) (by decide) dX12_variables_120 (by decide) (fun c18 => ?_) (fun c18 => ?_)
      · have h19 := h17.1 c18
        refine g_aload_n hC dX12_variables_145 rfl ?_
        refine zr_geta hC hZ fl_X12_312 zb_98 (by decide) dX12_variables_146 ?_
        refine g_iload hC dX12_variables_149 rfl ?_
        refine g_aload_n hC dX12_variables_151 rfl ?_
        refine zr_geta hC hZ fl_X12_293 zb_92 (by decide) dX12_variables_152 ?_
        refine g_iload hC dX12_variables_155 rfl ?_
        obtain ⟨o20, h21⟩ := h19
        obtain ⟨o22, h23⟩ := h21
        refine zr_iald (v := (za s0 92 (Int.toNat x4))) hC hZ zk_92 zb_92 zn_92 (by decide) o20 o22 rfl dX12_variables_157 ?_
        obtain ⟨o24, h25⟩ := h23
        obtain ⟨o26, h27⟩ := h25
        refine zr_iast hC hZ zk_98 zb_98 zn_98 (by decide) o24 o26 (hZ.ra 92 _) dX12_variables_158 (fun F28 hZ29 => ?_)
        refine zr_iinc (x := x4) (lv' := [some (.ref t), none, none, some (.int (zI x3)), some (.int (zI (x4 + 1))), some (.int (zI x5)), some (.int (zI x6))]) hC dX12_variables_159 rfl rfl rfl ?_
        refine zr_iinc (x := x5) (lv' := [some (.ref t), none, none, some (.int (zI x3)), some (.int (zI (x4 + 1))), some (.int (zI (x5 + 1))), some (.int (zI x6))]) hC dX12_variables_162 rfl rfl rfl ?_
        refine g_aload_n hC dX12_variables_165 rfl ?_
        refine zr_geta hC hZ29 fl_X12_96 zb_28 (by decide) dX12_variables_166 ?_
        refine g_iload hC dX12_variables_169 rfl ?_
        obtain ⟨o30, h31⟩ := h27
        obtain ⟨o32, h33⟩ := h31
        refine zr_iald (v := (za s0 28 (Int.toNat x6))) hC hZ29 zk_28 zb_28 zn_28 (by decide) o30 o32 rfl dX12_variables_171 ?_
        refine g_istore (lv' := [some (.ref t), none, none, some (.int (zI x3)), some (.int (zI (x4 + 1))), some (.int (zI (x5 + 1))), some (.int (zI (za s0 28 (Int.toNat x6))))]) hC dX12_variables_172 (Nat.le_of_ble_eq_true rfl) rfl rfl ?_
        refine g_goto (tgt := 91) hC dX12_variables_174 (by decide) ?_
        obtain ⟨o34, h35⟩ := h33
        obtain ⟨o36, h37⟩ := h35
        exact hk91 _ _ _ _ _ _ Rx3 o34 o36 (hZ.ra 28 _) hZ29 h37
      · have h38 := h17.2 c18
        refine g_aload_n hC dX12_variables_123 rfl ?_
        refine zr_geta hC hZ fl_X12_312 zb_98 (by decide) dX12_variables_124 ?_
        refine g_iload hC dX12_variables_127 rfl ?_
        refine g_aload_n hC dX12_variables_129 rfl ?_
        refine zr_get (e := (zv s0 96)) hC hZ fl_X12_305 zb_96 (by decide) rfl dX12_variables_130 ?_
        refine g_aload_n hC dX12_variables_133 rfl ?_
        refine zr_geta hC hZ fl_X12_105 zb_31 (by decide) dX12_variables_134 ?_
        refine g_iload hC dX12_variables_137 rfl ?_
        obtain ⟨o39, h40⟩ := h38
        obtain ⟨o41, h42⟩ := h40
        refine zr_iald (v := (za s0 31 (Int.toNat x6))) hC hZ zk_31 zb_31 zn_31 (by decide) o39 o41 rfl dX12_variables_139 ?_
        refine zr_iadd hC dX12_variables_140 ?_
        obtain ⟨o43, h44⟩ := h42
        obtain ⟨o45, h46⟩ := h44
        obtain ⟨o47, h48⟩ := h46
        refine zr_iast hC hZ zk_98 zb_98 zn_98 (by decide) o43 o45 o47 dX12_variables_141 (fun F49 hZ50 => ?_)
        refine g_goto (tgt := 162) hC dX12_variables_142 (by decide) ?_
        refine zr_iinc (x := x5) (lv' := [some (.ref t), none, none, some (.int (zI x3)), some (.int (zI x4)), some (.int (zI (x5 + 1))), some (.int (zI x6))]) hC dX12_variables_162 rfl rfl rfl ?_
        refine g_aload_n hC dX12_variables_165 rfl ?_
        refine zr_geta hC hZ50 fl_X12_96 zb_28 (by decide) dX12_variables_166 ?_
        refine g_iload hC dX12_variables_169 rfl ?_
        obtain ⟨o51, h52⟩ := h48
        obtain ⟨o53, h54⟩ := h52
        refine zr_iald (v := (za s0 28 (Int.toNat x6))) hC hZ50 zk_28 zb_28 zn_28 (by decide) o51 o53 rfl dX12_variables_171 ?_
        refine g_istore (lv' := [some (.ref t), none, none, some (.int (zI x3)), some (.int (zI x4)), some (.int (zI (x5 + 1))), some (.int (zI (za s0 28 (Int.toNat x6))))]) hC dX12_variables_172 (Nat.le_of_ble_eq_true rfl) rfl rfl ?_
        refine g_goto (tgt := 91) hC dX12_variables_174 (by decide) ?_
        obtain ⟨o55, h56⟩ := h54
        exact hk91 _ _ _ _ _ _ Rx3 Rx4 o55 (hZ.ra 28 _) hZ50 h56
    · have h57 := h11.2 c12
      refine g_goto (tgt := 165) hC dX12_variables_108 (by decide) ?_
      refine g_aload_n hC dX12_variables_165 rfl ?_
      refine zr_geta hC hZ fl_X12_96 zb_28 (by decide) dX12_variables_166 ?_
      refine g_iload hC dX12_variables_169 rfl ?_
      obtain ⟨o58, h59⟩ := h57
      obtain ⟨o60, h61⟩ := h59
      refine zr_iald (v := (za s0 28 (Int.toNat x6))) hC hZ zk_28 zb_28 zn_28 (by decide) o58 o60 rfl dX12_variables_171 ?_
      refine g_istore (lv' := [some (.ref t), none, none, some (.int (zI x3)), some (.int (zI x4)), some (.int (zI x5)), some (.int (zI (za s0 28 (Int.toNat x6))))]) hC dX12_variables_172 (Nat.le_of_ble_eq_true rfl) rfl rfl ?_
      refine g_goto (tgt := 91) hC dX12_variables_174 (by decide) ?_
      exact hk91 _ _ _ _ _ _ Rx3 Rx4 Rx5 (hZ.ra 28 _) hZ h61
theorem rl_variables_91 {X : gX} {d : gD} {b t : Nat} {T : Nat → Nat} {F0 : gM} (hC : gC RX12 cX12_variables 7 none "variables" (gR 0 0 0) d b X) {Q : zS → Prop}   : ∀ (m : Nat) (F : gM) (s0 : zS) (x3 : Int) (x4 : Int) (x5 : Int) (x6 : Int), zR x3 → zR x4 → zR x5 → zR x6 → zZ d t T F0 F s0 → wr_variables_91 Q  m s0 x3 x4 x5 x6 → gG X d b (zQv X d b t T F0 Q) F 0 0 91 [some (.ref t), none, none, some (.int (zI x3)), some (.int (zI x4)), some (.int (zI x5)), some (.int (zI x6))] [] := by
  intro m
  induction m with
  | zero => intro F s0 x3 x4 x5 x6 Rx3 Rx4 Rx5 Rx6 hZ hw; exact False.elim hw
  | succ m ih => intro F s0 x3 x4 x5 x6 Rx3 Rx4 Rx5 Rx6 hZ hw; exact rb_variables_91 hC  ih Rx3 Rx4 Rx5 Rx6 hZ hw
set_option maxHeartbeats 4000000 in
set_option maxRecDepth 100000 in
theorem rb_variables_12 {X : gX} {d : gD} {b t : Nat} {T : Nat → Nat} {F0 : gM} (hC : gC RX12 cX12_variables 7 none "variables" (gR 0 0 0) d b X) {Q : zS → Prop} {k12 : zS → Int → Int → Int → Int → Prop} (hk12 : ∀ (F : gM) (s0 : zS) (x1 : Int) (x2 : Int) (x3 : Int) (x4 : Int), zR x1 → zR x2 → zR x3 → zR x4 → zZ d t T F0 F s0 → k12 s0 x1 x2 x3 x4 → gG X d b (zQv X d b t T F0 Q) F 0 0 12 [some (.ref t), some (.int (zI x1)), some (.int (zI x2)), some (.int (zI x3)), some (.int (zI x4)), none, none] []) {F : gM} {s0 : zS} {x1 : Int} {x2 : Int} {x3 : Int} {x4 : Int} (Rx1 : zR x1) (Rx2 : zR x2) (Rx3 : zR x3) (Rx4 : zR x4) (hZ : zZ d t T F0 F s0) (hw : wr_variables_12B Q k12 s0 x1 x2 x3 x4) : gG X d b (zQv X d b t T F0 Q) F 0 0 12 [some (.ref t), some (.int (zI x1)), some (.int (zI x2)), some (.int (zI x3)), some (.int (zI x4)), none, none] [] := by
  unfold wr_variables_12B at hw
  refine g_iload hC dX12_variables_12 rfl ?_
  refine zr_if_lt (tgt := 62) hC Rx4 dX12_variables_14 (by decide) (fun c1 => ?_) (fun c1 => ?_)
  · have h2 := hw.1 c1
    refine g_aload_n hC dX12_variables_62 rfl ?_
    refine zr_get (e := (zv s0 91)) hC hZ fl_X12_289 zb_91 (by decide) rfl dX12_variables_63 ?_
    refine g_iload_n hC dX12_variables_66 rfl ?_
    refine zr_isub hC dX12_variables_67 ?_
    refine g_istore (lv' := [some (.ref t), some (.int (zI x1)), some (.int (zI x2)), some (.int (zI x3)), some (.int (zI ((zv s0 91) - x3))), none, none]) hC dX12_variables_68 (Nat.le_of_ble_eq_true rfl) rfl rfl ?_
    refine g_aload_n hC dX12_variables_70 rfl ?_
    refine zr_get (e := (zv s0 96)) hC hZ fl_X12_305 zb_96 (by decide) rfl dX12_variables_71 ?_
    refine g_aload_n hC dX12_variables_74 rfl ?_
    refine zr_geta hC hZ fl_X12_102 zb_30 (by decide) dX12_variables_75 ?_
    refine g_iload_n hC dX12_variables_78 rfl ?_
    obtain ⟨o3, h4⟩ := h2
    obtain ⟨o5, h6⟩ := h4
    refine zr_iald (v := (za s0 30 (Int.toNat x1))) hC hZ zk_30 zb_30 zn_30 (by decide) o3 o5 rfl dX12_variables_79 ?_
    refine zr_iadd hC dX12_variables_80 ?_
    refine g_istore (lv' := [some (.ref t), some (.int (zI x1)), some (.int (zI x2)), some (.int (zI x3)), some (.int (zI ((zv s0 91) - x3))), some (.int (zI ((zv s0 96) + (za s0 30 (Int.toNat x1))))), none]) hC dX12_variables_81 (Nat.le_of_ble_eq_true rfl) rfl rfl ?_
    refine g_aload_n hC dX12_variables_83 rfl ?_
    refine zr_geta hC hZ fl_X12_93 zb_27 (by decide) dX12_variables_84 ?_
    refine g_iload_n hC dX12_variables_87 rfl ?_
    obtain ⟨o7, h8⟩ := h6
    obtain ⟨o9, h10⟩ := h8
    refine zr_iald (v := (za s0 27 (Int.toNat x1))) hC hZ zk_27 zb_27 zn_27 (by decide) o7 o9 rfl dX12_variables_88 ?_
    refine g_istore (lv' := [some (.ref t), some (.int (zI x1)), some (.int (zI x2)), some (.int (zI x3)), some (.int (zI ((zv s0 91) - x3))), some (.int (zI ((zv s0 96) + (za s0 30 (Int.toNat x1))))), some (.int (zI (za s0 27 (Int.toNat x1))))]) hC dX12_variables_89 (Nat.le_of_ble_eq_true rfl) rfl rfl ?_
    obtain ⟨o11, h12⟩ := h10
    obtain ⟨o13, h14⟩ := h12
    refine g_lv (lv' := [some (.ref t), none, none, some (.int (zI x3)), some (.int (zI ((zv s0 91) - x3))), some (.int (zI ((zv s0 96) + (za s0 30 (Int.toNat x1))))), some (.int (zI (za s0 27 (Int.toNat x1))))]) ⟨rfl, rfl, rfl, rfl, rfl, trivial⟩ ?_
    obtain ⟨m15, h16⟩ := h14
    exact rl_variables_91 hC  m15 _ _ _ _ _ _ Rx3 o11 o13 (hZ.ra 27 _) hZ h16
  · have h17 := hw.2 c1
    refine g_aload_n hC dX12_variables_17 rfl ?_
    refine zr_geta hC hZ fl_X12_87 zb_25 (by decide) dX12_variables_18 ?_
    refine g_iload hC dX12_variables_21 rfl ?_
    obtain ⟨o18, h19⟩ := h17
    obtain ⟨o20, h21⟩ := h19
    refine zr_bald (v := (za s0 25 (Int.toNat x4))) hC hZ zk_25 zb_25 zn_25 (by decide) o18 o20 rfl dX12_variables_23 ?_
    refine g_bipush (v := zI 58) hC dX12_variables_24 rfl ?_
    refine zr_icmp_ne (tgt := 35) hC (hZ.ra 25 _) (by decide) dX12_variables_26 (by decide) (fun c22 => ?_) (fun c22 => ?_)
    · have h23 := h21.1 c22
      refine g_aload_n hC dX12_variables_35 rfl ?_
      refine zr_geta hC hZ fl_X12_87 zb_25 (by decide) dX12_variables_36 ?_
      refine g_iload hC dX12_variables_39 rfl ?_
      obtain ⟨o24, h25⟩ := h23
      obtain ⟨o26, h27⟩ := h25
      refine zr_bald (v := (za s0 25 (Int.toNat x4))) hC hZ zk_25 zb_25 zn_25 (by decide) o24 o26 rfl dX12_variables_41 ?_
      refine g_bipush (v := zI 59) hC dX12_variables_42 rfl ?_
      refine zr_icmp_eq (tgt := 50) hC (hZ.ra 25 _) (by decide) dX12_variables_44 (by decide) (fun c28 => ?_) (fun c28 => ?_)
      · have h29 := h27.1 c28
        refine g_aload_n hC dX12_variables_50 rfl ?_
        refine zr_geta hC hZ fl_X12_96 zb_28 (by decide) dX12_variables_51 ?_
        refine g_iload hC dX12_variables_54 rfl ?_
        obtain ⟨o30, h31⟩ := h29
        obtain ⟨o32, h33⟩ := h31
        refine zr_iald (v := (za s0 28 (Int.toNat x4))) hC hZ zk_28 zb_28 zn_28 (by decide) o30 o32 rfl dX12_variables_56 ?_
        refine g_istore (lv' := [some (.ref t), some (.int (zI x1)), some (.int (zI x2)), some (.int (zI x3)), some (.int (zI (za s0 28 (Int.toNat x4)))), none, none]) hC dX12_variables_57 (Nat.le_of_ble_eq_true rfl) rfl rfl ?_
        refine g_goto (tgt := 12) hC dX12_variables_59 (by decide) ?_
        exact hk12 _ _ _ _ _ _ Rx1 Rx2 Rx3 (hZ.ra 28 _) hZ h33
      · have h34 := h27.2 c28
        refine zr_iinc (x := x3) (lv' := [some (.ref t), some (.int (zI x1)), some (.int (zI x2)), some (.int (zI (x3 + 1))), some (.int (zI x4)), none, none]) hC dX12_variables_47 rfl rfl rfl ?_
        refine g_aload_n hC dX12_variables_50 rfl ?_
        refine zr_geta hC hZ fl_X12_96 zb_28 (by decide) dX12_variables_51 ?_
        refine g_iload hC dX12_variables_54 rfl ?_
        obtain ⟨o35, h36⟩ := h34
        obtain ⟨o37, h38⟩ := h36
        refine zr_iald (v := (za s0 28 (Int.toNat x4))) hC hZ zk_28 zb_28 zn_28 (by decide) o35 o37 rfl dX12_variables_56 ?_
        refine g_istore (lv' := [some (.ref t), some (.int (zI x1)), some (.int (zI x2)), some (.int (zI (x3 + 1))), some (.int (zI (za s0 28 (Int.toNat x4)))), none, none]) hC dX12_variables_57 (Nat.le_of_ble_eq_true rfl) rfl rfl ?_
        refine g_goto (tgt := 12) hC dX12_variables_59 (by decide) ?_
        obtain ⟨o39, h40⟩ := h38
        exact hk12 _ _ _ _ _ _ Rx1 Rx2 o39 (hZ.ra 28 _) hZ h40
    · have h41 := h21.2 c22
      refine zr_iinc (x := x2) (lv' := [some (.ref t), some (.int (zI x1)), some (.int (zI (x2 + 1))), some (.int (zI x3)), some (.int (zI x4)), none, none]) hC dX12_variables_29 rfl rfl rfl ?_
      refine g_goto (tgt := 50) hC dX12_variables_32 (by decide) ?_
      refine g_aload_n hC dX12_variables_50 rfl ?_
      refine zr_geta hC hZ fl_X12_96 zb_28 (by decide) dX12_variables_51 ?_
      refine g_iload hC dX12_variables_54 rfl ?_
      obtain ⟨o42, h43⟩ := h41
      obtain ⟨o44, h45⟩ := h43
      refine zr_iald (v := (za s0 28 (Int.toNat x4))) hC hZ zk_28 zb_28 zn_28 (by decide) o42 o44 rfl dX12_variables_56 ?_
      refine g_istore (lv' := [some (.ref t), some (.int (zI x1)), some (.int (zI (x2 + 1))), some (.int (zI x3)), some (.int (zI (za s0 28 (Int.toNat x4)))), none, none]) hC dX12_variables_57 (Nat.le_of_ble_eq_true rfl) rfl rfl ?_
      refine g_goto (tgt := 12) hC dX12_variables_59 (by decide) ?_
      obtain ⟨o46, h47⟩ := h45
      exact hk12 _ _ _ _ _ _ Rx1 o46 Rx3 (hZ.ra 28 _) hZ h47
theorem rl_variables_12 {X : gX} {d : gD} {b t : Nat} {T : Nat → Nat} {F0 : gM} (hC : gC RX12 cX12_variables 7 none "variables" (gR 0 0 0) d b X) {Q : zS → Prop}   : ∀ (m : Nat) (F : gM) (s0 : zS) (x1 : Int) (x2 : Int) (x3 : Int) (x4 : Int), zR x1 → zR x2 → zR x3 → zR x4 → zZ d t T F0 F s0 → wr_variables_12 Q  m s0 x1 x2 x3 x4 → gG X d b (zQv X d b t T F0 Q) F 0 0 12 [some (.ref t), some (.int (zI x1)), some (.int (zI x2)), some (.int (zI x3)), some (.int (zI x4)), none, none] [] := by
  intro m
  induction m with
  | zero => intro F s0 x1 x2 x3 x4 Rx1 Rx2 Rx3 Rx4 hZ hw; exact False.elim hw
  | succ m ih => intro F s0 x1 x2 x3 x4 Rx1 Rx2 Rx3 Rx4 hZ hw; exact rb_variables_12 hC  ih Rx1 Rx2 Rx3 Rx4 hZ hw
set_option maxHeartbeats 4000000 in
set_option maxRecDepth 100000 in
theorem rm_variables (l : Launch) (d : gD) (b : Nat) {t : Nat} {T : Nat → Nat} {F : gM} {s0 : zS} {a0 : Int} (Ra0 : zR a0) {Q : zS → Prop} (hZ : zZ d t T F F s0) (hw : wr_variables s0 a0 Q) : gMv l d b yX12_variables cX12_variables 7 0 0 0 F [.ref t, .int (zI a0)] (zPv d t T F Q) := by
  refine gM_of2 rfl (nL := 7) (Nat.le_of_ble_eq_true rfl) ?_
  intro X hX hC; subst hX
  show gG X d b (zQv X d b t T F Q) F 0 0 0 [some (.ref t), some (.int (zI a0)), none, none, none, none, none] []
  unfold wr_variables at hw
  refine g_iconst (v := zI 0) hC dX12_variables_0 rfl ?_
  refine g_istore_n (lv' := [some (.ref t), some (.int (zI a0)), some (.int (zI 0)), none, none, none, none]) hC dX12_variables_1 (Nat.le_of_ble_eq_true rfl) rfl rfl ?_
  refine g_iconst (v := zI 0) hC dX12_variables_2 rfl ?_
  refine g_istore_n (lv' := [some (.ref t), some (.int (zI a0)), some (.int (zI 0)), some (.int (zI 0)), none, none, none]) hC dX12_variables_3 (Nat.le_of_ble_eq_true rfl) rfl rfl ?_
  refine g_aload_n hC dX12_variables_4 rfl ?_
  refine zr_geta hC hZ fl_X12_93 zb_27 (by decide) dX12_variables_5 ?_
  refine g_iload_n hC dX12_variables_8 rfl ?_
  obtain ⟨o1, h2⟩ := hw
  obtain ⟨o3, h4⟩ := h2
  refine zr_iald (v := (za s0 27 (Int.toNat a0))) hC hZ zk_27 zb_27 zn_27 (by decide) o1 o3 rfl dX12_variables_9 ?_
  refine g_istore (lv' := [some (.ref t), some (.int (zI a0)), some (.int (zI 0)), some (.int (zI 0)), some (.int (zI (za s0 27 (Int.toNat a0)))), none, none]) hC dX12_variables_10 (Nat.le_of_ble_eq_true rfl) rfl rfl ?_
  obtain ⟨m5, h6⟩ := h4
  exact rl_variables_12 hC  m5 _ _ _ _ _ _ Ra0 (by decide) (by decide) (hZ.ra 27 _) hZ h6
theorem dX12_choose_0 : decode cX12_choose 0 = .ok (.aload_n 0, 1) := by decide +kernel
theorem dX12_choose_1 : decode cX12_choose 1 = .ok (.invokevirtual 810, 3) := by decide +kernel
theorem dX12_choose_4 : decode cX12_choose 4 = .ok (.istore_n 2, 1) := by decide +kernel
theorem dX12_choose_5 : decode cX12_choose 5 = .ok (.iconst (-1), 1) := by decide +kernel
theorem dX12_choose_6 : decode cX12_choose 6 = .ok (.istore_n 3, 1) := by decide +kernel
theorem dX12_choose_7 : decode cX12_choose 7 = .ok (.iconst (-1), 1) := by decide +kernel
theorem dX12_choose_8 : decode cX12_choose 8 = .ok (.istore 4, 2) := by decide +kernel
theorem dX12_choose_10 : decode cX12_choose 10 = .ok (.aload_n 0, 1) := by decide +kernel
theorem dX12_choose_11 : decode cX12_choose 11 = .ok (.getfield 96, 3) := by decide +kernel
theorem dX12_choose_14 : decode cX12_choose 14 = .ok (.aload_n 0, 1) := by decide +kernel
theorem dX12_choose_15 : decode cX12_choose 15 = .ok (.getfield 93, 3) := by decide +kernel
theorem dX12_choose_18 : decode cX12_choose 18 = .ok (.iload_n 1, 1) := by decide +kernel
theorem dX12_choose_19 : decode cX12_choose 19 = .ok (.iaload, 1) := by decide +kernel
theorem dX12_choose_20 : decode cX12_choose 20 = .ok (.iaload, 1) := by decide +kernel
theorem dX12_choose_21 : decode cX12_choose 21 = .ok (.istore 5, 2) := by decide +kernel
theorem dX12_choose_23 : decode cX12_choose 23 = .ok (.iload 5, 2) := by decide +kernel
theorem dX12_choose_25 : decode cX12_choose 25 = .ok (.ifCond .lt 87, 3) := by decide +kernel
theorem dX12_choose_28 : decode cX12_choose 28 = .ok (.aload_n 0, 1) := by decide +kernel
theorem dX12_choose_29 : decode cX12_choose 29 = .ok (.getfield 93, 3) := by decide +kernel
theorem dX12_choose_32 : decode cX12_choose 32 = .ok (.iload 5, 2) := by decide +kernel
theorem dX12_choose_34 : decode cX12_choose 34 = .ok (.iaload, 1) := by decide +kernel
theorem dX12_choose_35 : decode cX12_choose 35 = .ok (.istore 6, 2) := by decide +kernel
theorem dX12_choose_37 : decode cX12_choose 37 = .ok (.iload 6, 2) := by decide +kernel
theorem dX12_choose_39 : decode cX12_choose 39 = .ok (.ifCond .lt 61, 3) := by decide +kernel
theorem dX12_choose_42 : decode cX12_choose 42 = .ok (.aload_n 0, 1) := by decide +kernel
theorem dX12_choose_43 : decode cX12_choose 43 = .ok (.getfield 87, 3) := by decide +kernel
theorem dX12_choose_46 : decode cX12_choose 46 = .ok (.iload 6, 2) := by decide +kernel
theorem dX12_choose_48 : decode cX12_choose 48 = .ok (.baload, 1) := by decide +kernel
theorem dX12_choose_49 : decode cX12_choose 49 = .ok (.bipush 43, 2) := by decide +kernel
theorem dX12_choose_51 : decode cX12_choose 51 = .ok (.if_icmp .ne 21, 3) := by decide +kernel
theorem dX12_choose_54 : decode cX12_choose 54 = .ok (.aload_n 0, 1) := by decide +kernel
theorem dX12_choose_55 : decode cX12_choose 55 = .ok (.getfield 99, 3) := by decide +kernel
theorem dX12_choose_58 : decode cX12_choose 58 = .ok (.iload 6, 2) := by decide +kernel
theorem dX12_choose_60 : decode cX12_choose 60 = .ok (.iaload, 1) := by decide +kernel
theorem dX12_choose_61 : decode cX12_choose 61 = .ok (.iload_n 2, 1) := by decide +kernel
theorem dX12_choose_62 : decode cX12_choose 62 = .ok (.if_icmp .ne 10, 3) := by decide +kernel
theorem dX12_choose_65 : decode cX12_choose 65 = .ok (.iload_n 3, 1) := by decide +kernel
theorem dX12_choose_66 : decode cX12_choose 66 = .ok (.ifCond .ge 6, 3) := by decide +kernel
theorem dX12_choose_69 : decode cX12_choose 69 = .ok (.iload 5, 2) := by decide +kernel
theorem dX12_choose_71 : decode cX12_choose 71 = .ok (.istore_n 3, 1) := by decide +kernel
theorem dX12_choose_72 : decode cX12_choose 72 = .ok (.aload_n 0, 1) := by decide +kernel
theorem dX12_choose_73 : decode cX12_choose 73 = .ok (.getfield 87, 3) := by decide +kernel
theorem dX12_choose_76 : decode cX12_choose 76 = .ok (.iload 6, 2) := by decide +kernel
theorem dX12_choose_78 : decode cX12_choose 78 = .ok (.baload, 1) := by decide +kernel
theorem dX12_choose_79 : decode cX12_choose 79 = .ok (.bipush 44, 2) := by decide +kernel
theorem dX12_choose_81 : decode cX12_choose 81 = .ok (.if_icmp .ne 7, 3) := by decide +kernel
theorem dX12_choose_84 : decode cX12_choose 84 = .ok (.iload 5, 2) := by decide +kernel
theorem dX12_choose_86 : decode cX12_choose 86 = .ok (.istore 4, 2) := by decide +kernel
theorem dX12_choose_88 : decode cX12_choose 88 = .ok (.aload_n 0, 1) := by decide +kernel
theorem dX12_choose_89 : decode cX12_choose 89 = .ok (.getfield 96, 3) := by decide +kernel
theorem dX12_choose_92 : decode cX12_choose 92 = .ok (.iload 6, 2) := by decide +kernel
theorem dX12_choose_94 : decode cX12_choose 94 = .ok (.iaload, 1) := by decide +kernel
theorem dX12_choose_95 : decode cX12_choose 95 = .ok (.istore 6, 2) := by decide +kernel
theorem dX12_choose_97 : decode cX12_choose 97 = .ok (.goto (-60), 3) := by decide +kernel
theorem dX12_choose_100 : decode cX12_choose 100 = .ok (.aload_n 0, 1) := by decide +kernel
theorem dX12_choose_101 : decode cX12_choose 101 = .ok (.getfield 96, 3) := by decide +kernel
theorem dX12_choose_104 : decode cX12_choose 104 = .ok (.iload 5, 2) := by decide +kernel
theorem dX12_choose_106 : decode cX12_choose 106 = .ok (.iaload, 1) := by decide +kernel
theorem dX12_choose_107 : decode cX12_choose 107 = .ok (.istore 5, 2) := by decide +kernel
theorem dX12_choose_109 : decode cX12_choose 109 = .ok (.goto (-86), 3) := by decide +kernel
theorem dX12_choose_112 : decode cX12_choose 112 = .ok (.iload_n 3, 1) := by decide +kernel
theorem dX12_choose_113 : decode cX12_choose 113 = .ok (.ifCond .ge 6, 3) := by decide +kernel
theorem dX12_choose_116 : decode cX12_choose 116 = .ok (.iload 4, 2) := by decide +kernel
theorem dX12_choose_118 : decode cX12_choose 118 = .ok (.istore_n 3, 1) := by decide +kernel
theorem dX12_choose_119 : decode cX12_choose 119 = .ok (.iload_n 3, 1) := by decide +kernel
theorem dX12_choose_120 : decode cX12_choose 120 = .ok (.ifCond .lt 11, 3) := by decide +kernel
theorem dX12_choose_123 : decode cX12_choose 123 = .ok (.aload_n 0, 1) := by decide +kernel
theorem dX12_choose_124 : decode cX12_choose 124 = .ok (.bipush 17, 2) := by decide +kernel
theorem dX12_choose_126 : decode cX12_choose 126 = .ok (.iload_n 1, 1) := by decide +kernel
theorem dX12_choose_127 : decode cX12_choose 127 = .ok (.iload_n 3, 1) := by decide +kernel
theorem dX12_choose_128 : decode cX12_choose 128 = .ok (.invokevirtual 801, 3) := by decide +kernel
theorem dX12_choose_131 : decode cX12_choose 131 = .ok (.return_, 1) := by decide +kernel
def wr_choose_72 (Q : zS → Prop) (k23 : zS → Int → Int → Int → Int → Int → Prop) (k37 : zS → Int → Int → Int → Int → Int → Int → Prop) (s0 : zS) (x1 : Int) (x2 : Int) (x3 : Int) (x4 : Int) (x5 : Int) (x6 : Int) : Prop :=
  (0 ≤ x6) ∧ (x6 < 26000) ∧ ((¬ (za s0 25 (Int.toNat x6)) = 44 → (0 ≤ x6) ∧ (x6 < 26000) ∧ k37 s0 x1 x2 x3 x4 x5 (za s0 28 (Int.toNat x6))) ∧ ((za s0 25 (Int.toNat x6)) = 44 → (0 ≤ x6) ∧ (x6 < 26000) ∧ k37 s0 x1 x2 x3 x5 x5 (za s0 28 (Int.toNat x6))))
def wr_choose_37B (Q : zS → Prop) (k23 : zS → Int → Int → Int → Int → Int → Prop) (k37 : zS → Int → Int → Int → Int → Int → Int → Prop) (s0 : zS) (x1 : Int) (x2 : Int) (x3 : Int) (x4 : Int) (x5 : Int) (x6 : Int) : Prop :=
  ((x6 < 0 → (0 ≤ x5) ∧ (x5 < 26000) ∧ k23 s0 x1 x2 x3 x4 (za s0 28 (Int.toNat x5))) ∧ (¬ x6 < 0 → (0 ≤ x6) ∧ (x6 < 26000) ∧ ((¬ (za s0 25 (Int.toNat x6)) = 43 → wr_choose_72 Q k23 k37 s0 x1 x2 x3 x4 x5 x6) ∧ ((za s0 25 (Int.toNat x6)) = 43 → (0 ≤ x6) ∧ (x6 < 26000) ∧ ((¬ (za s0 29 (Int.toNat x6)) = x2 → wr_choose_72 Q k23 k37 s0 x1 x2 x3 x4 x5 x6) ∧ ((za s0 29 (Int.toNat x6)) = x2 → ((0 ≤ x3 → wr_choose_72 Q k23 k37 s0 x1 x2 x3 x4 x5 x6) ∧ (¬ 0 ≤ x3 → wr_choose_72 Q k23 k37 s0 x1 x2 x5 x4 x5 x6))))))))
def wr_choose_37 (Q : zS → Prop) (k23 : zS → Int → Int → Int → Int → Int → Prop) : Nat → zS → Int → Int → Int → Int → Int → Int → Prop
  | 0 => fun _ _ _ _ _ _ _ => False
  | m + 1 => fun s0 x1 x2 x3 x4 x5 x6 => wr_choose_37B Q k23 (wr_choose_37 Q k23 m) s0 x1 x2 x3 x4 x5 x6
def wr_choose_23B (Q : zS → Prop) (k23 : zS → Int → Int → Int → Int → Int → Prop) (s0 : zS) (x1 : Int) (x2 : Int) (x3 : Int) (x4 : Int) (x5 : Int) : Prop :=
  ((x5 < 0 → ((0 ≤ x3 → ((x3 < 0 → Q s0) ∧ (¬ x3 < 0 → wr_todoTask s0 17 x1 x3 (fun s9 => Q s9)))) ∧ (¬ 0 ≤ x3 → ((x4 < 0 → Q s0) ∧ (¬ x4 < 0 → wr_todoTask s0 17 x1 x4 (fun s19 => Q s19)))))) ∧ (¬ x5 < 0 → (0 ≤ x5) ∧ (x5 < 26000) ∧ ∃ n, wr_choose_37 Q k23 n s0 x1 x2 x3 x4 x5 (za s0 27 (Int.toNat x5))))
def wr_choose_23 (Q : zS → Prop)  : Nat → zS → Int → Int → Int → Int → Int → Prop
  | 0 => fun _ _ _ _ _ _ => False
  | m + 1 => fun s0 x1 x2 x3 x4 x5 => wr_choose_23B Q  (wr_choose_23 Q  m) s0 x1 x2 x3 x4 x5
def wr_choose (s0 : zS) (a0 : Int) (Q : zS → Prop) : Prop :=
  wr_pop s0  (fun r1 s2 => (0 ≤ a0) ∧ (a0 < 26000) ∧ (0 ≤ (za s2 27 (Int.toNat a0))) ∧ ((za s2 27 (Int.toNat a0)) < 26000) ∧ ∃ n, wr_choose_23 Q  n s2 a0 r1 (-1) (-1) (za s2 28 (Int.toNat (za s2 27 (Int.toNat a0)))))
set_option maxHeartbeats 4000000 in
set_option maxRecDepth 100000 in
theorem rj_choose_72 {X : gX} {d : gD} {b t : Nat} {T : Nat → Nat} {F0 : gM} (hC : gC RX12 cX12_choose 7 none "choose" (gR 1 0 0) d b X) {Q : zS → Prop} {k23 : zS → Int → Int → Int → Int → Int → Prop} {k37 : zS → Int → Int → Int → Int → Int → Int → Prop} (hk23 : ∀ (F : gM) (s0 : zS) (x1 : Int) (x2 : Int) (x3 : Int) (x4 : Int) (x5 : Int), zR x1 → zR x2 → zR x3 → zR x4 → zR x5 → zZ d t T F0 F s0 → k23 s0 x1 x2 x3 x4 x5 → gG X d b (zQv X d b t T F0 Q) F 0 0 23 [some (.ref t), some (.int (zI x1)), some (.int (zI x2)), some (.int (zI x3)), some (.int (zI x4)), some (.int (zI x5)), none] []) (hk37 : ∀ (F : gM) (s0 : zS) (x1 : Int) (x2 : Int) (x3 : Int) (x4 : Int) (x5 : Int) (x6 : Int), zR x1 → zR x2 → zR x3 → zR x4 → zR x5 → zR x6 → zZ d t T F0 F s0 → k37 s0 x1 x2 x3 x4 x5 x6 → gG X d b (zQv X d b t T F0 Q) F 0 0 37 [some (.ref t), some (.int (zI x1)), some (.int (zI x2)), some (.int (zI x3)), some (.int (zI x4)), some (.int (zI x5)), some (.int (zI x6))] []) {F : gM} {s0 : zS} {x1 : Int} {x2 : Int} {x3 : Int} {x4 : Int} {x5 : Int} {x6 : Int} (Rx1 : zR x1) (Rx2 : zR x2) (Rx3 : zR x3) (Rx4 : zR x4) (Rx5 : zR x5) (Rx6 : zR x6) (hZ : zZ d t T F0 F s0) (hw : wr_choose_72 Q k23 k37 s0 x1 x2 x3 x4 x5 x6) : gG X d b (zQv X d b t T F0 Q) F 0 0 72 [some (.ref t), some (.int (zI x1)), some (.int (zI x2)), some (.int (zI x3)), some (.int (zI x4)), some (.int (zI x5)), some (.int (zI x6))] [] := by
  unfold wr_choose_72 at hw
  refine g_aload_n hC dX12_choose_72 rfl ?_
  refine zr_geta hC hZ fl_X12_87 zb_25 (by decide) dX12_choose_73 ?_
  refine g_iload hC dX12_choose_76 rfl ?_
  obtain ⟨o1, h2⟩ := hw
  obtain ⟨o3, h4⟩ := h2
  refine zr_bald (v := (za s0 25 (Int.toNat x6))) hC hZ zk_25 zb_25 zn_25 (by decide) o1 o3 rfl dX12_choose_78 ?_
  refine g_bipush (v := zI 44) hC dX12_choose_79 rfl ?_
  refine zr_icmp_ne (tgt := 88) hC (hZ.ra 25 _) (by decide) dX12_choose_81 (by decide) (fun c5 => ?_) (fun c5 => ?_)
  · have h6 := h4.1 c5
    refine g_aload_n hC dX12_choose_88 rfl ?_
    refine zr_geta hC hZ fl_X12_96 zb_28 (by decide) dX12_choose_89 ?_
    refine g_iload hC dX12_choose_92 rfl ?_
    obtain ⟨o7, h8⟩ := h6
    obtain ⟨o9, h10⟩ := h8
    refine zr_iald (v := (za s0 28 (Int.toNat x6))) hC hZ zk_28 zb_28 zn_28 (by decide) o7 o9 rfl dX12_choose_94 ?_
    refine g_istore (lv' := [some (.ref t), some (.int (zI x1)), some (.int (zI x2)), some (.int (zI x3)), some (.int (zI x4)), some (.int (zI x5)), some (.int (zI (za s0 28 (Int.toNat x6))))]) hC dX12_choose_95 (Nat.le_of_ble_eq_true rfl) rfl rfl ?_
    refine g_goto (tgt := 37) hC dX12_choose_97 (by decide) ?_
    exact hk37 _ _ _ _ _ _ _ _ Rx1 Rx2 Rx3 Rx4 Rx5 (hZ.ra 28 _) hZ h10
  · have h11 := h4.2 c5
    refine g_iload hC dX12_choose_84 rfl ?_
    refine g_istore (lv' := [some (.ref t), some (.int (zI x1)), some (.int (zI x2)), some (.int (zI x3)), some (.int (zI x5)), some (.int (zI x5)), some (.int (zI x6))]) hC dX12_choose_86 (Nat.le_of_ble_eq_true rfl) rfl rfl ?_
    refine g_aload_n hC dX12_choose_88 rfl ?_
    refine zr_geta hC hZ fl_X12_96 zb_28 (by decide) dX12_choose_89 ?_
    refine g_iload hC dX12_choose_92 rfl ?_
    obtain ⟨o12, h13⟩ := h11
    obtain ⟨o14, h15⟩ := h13
    refine zr_iald (v := (za s0 28 (Int.toNat x6))) hC hZ zk_28 zb_28 zn_28 (by decide) o12 o14 rfl dX12_choose_94 ?_
    refine g_istore (lv' := [some (.ref t), some (.int (zI x1)), some (.int (zI x2)), some (.int (zI x3)), some (.int (zI x5)), some (.int (zI x5)), some (.int (zI (za s0 28 (Int.toNat x6))))]) hC dX12_choose_95 (Nat.le_of_ble_eq_true rfl) rfl rfl ?_
    refine g_goto (tgt := 37) hC dX12_choose_97 (by decide) ?_
    exact hk37 _ _ _ _ _ _ _ _ Rx1 Rx2 Rx3 Rx5 Rx5 (hZ.ra 28 _) hZ h15
set_option maxHeartbeats 4000000 in
set_option maxRecDepth 100000 in
theorem rb_choose_37 {X : gX} {d : gD} {b t : Nat} {T : Nat → Nat} {F0 : gM} (hC : gC RX12 cX12_choose 7 none "choose" (gR 1 0 0) d b X) {Q : zS → Prop} {k23 : zS → Int → Int → Int → Int → Int → Prop} {k37 : zS → Int → Int → Int → Int → Int → Int → Prop} (hk23 : ∀ (F : gM) (s0 : zS) (x1 : Int) (x2 : Int) (x3 : Int) (x4 : Int) (x5 : Int), zR x1 → zR x2 → zR x3 → zR x4 → zR x5 → zZ d t T F0 F s0 → k23 s0 x1 x2 x3 x4 x5 → gG X d b (zQv X d b t T F0 Q) F 0 0 23 [some (.ref t), some (.int (zI x1)), some (.int (zI x2)), some (.int (zI x3)), some (.int (zI x4)), some (.int (zI x5)), none] []) (hk37 : ∀ (F : gM) (s0 : zS) (x1 : Int) (x2 : Int) (x3 : Int) (x4 : Int) (x5 : Int) (x6 : Int), zR x1 → zR x2 → zR x3 → zR x4 → zR x5 → zR x6 → zZ d t T F0 F s0 → k37 s0 x1 x2 x3 x4 x5 x6 → gG X d b (zQv X d b t T F0 Q) F 0 0 37 [some (.ref t), some (.int (zI x1)), some (.int (zI x2)), some (.int (zI x3)), some (.int (zI x4)), some (.int (zI x5)), some (.int (zI x6))] []) {F : gM} {s0 : zS} {x1 : Int} {x2 : Int} {x3 : Int} {x4 : Int} {x5 : Int} {x6 : Int} (Rx1 : zR x1) (Rx2 : zR x2) (Rx3 : zR x3) (Rx4 : zR x4) (Rx5 : zR x5) (Rx6 : zR x6) (hZ : zZ d t T F0 F s0) (hw : wr_choose_37B Q k23 k37 s0 x1 x2 x3 x4 x5 x6) : gG X d b (zQv X d b t T F0 Q) F 0 0 37 [some (.ref t), some (.int (zI x1)), some (.int (zI x2)), some (.int (zI x3)), some (.int (zI x4)), some (.int (zI x5)), some (.int (zI x6))] [] := by
  unfold wr_choose_37B at hw
  refine g_iload hC dX12_choose_37 rfl ?_
  refine zr_if_lt (tgt := 100) hC Rx6 dX12_choose_39 (by decide) (fun c1 => ?_) (fun c1 => ?_)
  · have h2 := hw.1 c1
    refine g_aload_n hC dX12_choose_100 rfl ?_
    refine zr_geta hC hZ fl_X12_96 zb_28 (by decide) dX12_choose_101 ?_
    refine g_iload hC dX12_choose_104 rfl ?_
    obtain ⟨o3, h4⟩ := h2
    obtain ⟨o5, h6⟩ := h4
    refine zr_iald (v := (za s0 28 (Int.toNat x5))) hC hZ zk_28 zb_28 zn_28 (by decide) o3 o5 rfl dX12_choose_106 ?_
    refine g_istore (lv' := [some (.ref t), some (.int (zI x1)), some (.int (zI x2)), some (.int (zI x3)), some (.int (zI x4)), some (.int (zI (za s0 28 (Int.toNat x5)))), some (.int (zI x6))]) hC dX12_choose_107 (Nat.le_of_ble_eq_true rfl) rfl rfl ?_
    refine g_goto (tgt := 23) hC dX12_choose_109 (by decide) ?_
    refine g_lv (lv' := [some (.ref t), some (.int (zI x1)), some (.int (zI x2)), some (.int (zI x3)), some (.int (zI x4)), some (.int (zI (za s0 28 (Int.toNat x5)))), none]) ⟨rfl, rfl, rfl, rfl, rfl, rfl, trivial⟩ ?_
    exact hk23 _ _ _ _ _ _ _ Rx1 Rx2 Rx3 Rx4 (hZ.ra 28 _) hZ h6
  · have h7 := hw.2 c1
    refine g_aload_n hC dX12_choose_42 rfl ?_
    refine zr_geta hC hZ fl_X12_87 zb_25 (by decide) dX12_choose_43 ?_
    refine g_iload hC dX12_choose_46 rfl ?_
    obtain ⟨o8, h9⟩ := h7
    obtain ⟨o10, h11⟩ := h9
    refine zr_bald (v := (za s0 25 (Int.toNat x6))) hC hZ zk_25 zb_25 zn_25 (by decide) o8 o10 rfl dX12_choose_48 ?_
    refine g_bipush (v := zI 43) hC dX12_choose_49 rfl ?_
    refine zr_icmp_ne (tgt := 72) hC (hZ.ra 25 _) (by decide) dX12_choose_51 (by decide) (fun c12 => ?_) (fun c12 => ?_)
    · have h13 := h11.1 c12
      exact rj_choose_72 hC hk23 hk37 Rx1 Rx2 Rx3 Rx4 Rx5 Rx6 hZ h13
    · have h14 := h11.2 c12
      refine g_aload_n hC dX12_choose_54 rfl ?_
      refine zr_geta hC hZ fl_X12_99 zb_29 (by decide) dX12_choose_55 ?_
      refine g_iload hC dX12_choose_58 rfl ?_
      obtain ⟨o15, h16⟩ := h14
      obtain ⟨o17, h18⟩ := h16
      refine zr_iald (v := (za s0 29 (Int.toNat x6))) hC hZ zk_29 zb_29 zn_29 (by decide) o15 o17 rfl dX12_choose_60 ?_
      refine g_iload_n hC dX12_choose_61 rfl ?_
      refine zr_icmp_ne (tgt := 72) hC (hZ.ra 29 _) Rx2 dX12_choose_62 (by decide) (fun c19 => ?_) (fun c19 => ?_)
      · have h20 := h18.1 c19
        exact rj_choose_72 hC hk23 hk37 Rx1 Rx2 Rx3 Rx4 Rx5 Rx6 hZ h20
      · have h21 := h18.2 c19
        refine g_iload_n hC dX12_choose_65 rfl ?_
        refine zr_if_ge (tgt := 72) hC Rx3 dX12_choose_66 (by decide) (fun c22 => ?_) (fun c22 => ?_)
        · have h23 := h21.1 c22
          exact rj_choose_72 hC hk23 hk37 Rx1 Rx2 Rx3 Rx4 Rx5 Rx6 hZ h23
        · have h24 := h21.2 c22
          refine g_iload hC dX12_choose_69 rfl ?_
          refine g_istore_n (lv' := [some (.ref t), some (.int (zI x1)), some (.int (zI x2)), some (.int (zI x5)), some (.int (zI x4)), some (.int (zI x5)), some (.int (zI x6))]) hC dX12_choose_71 (Nat.le_of_ble_eq_true rfl) rfl rfl ?_
          exact rj_choose_72 hC hk23 hk37 Rx1 Rx2 Rx5 Rx4 Rx5 Rx6 hZ h24
theorem rl_choose_37 {X : gX} {d : gD} {b t : Nat} {T : Nat → Nat} {F0 : gM} (hC : gC RX12 cX12_choose 7 none "choose" (gR 1 0 0) d b X) {Q : zS → Prop} {k23 : zS → Int → Int → Int → Int → Int → Prop} (hk23 : ∀ (F : gM) (s0 : zS) (x1 : Int) (x2 : Int) (x3 : Int) (x4 : Int) (x5 : Int), zR x1 → zR x2 → zR x3 → zR x4 → zR x5 → zZ d t T F0 F s0 → k23 s0 x1 x2 x3 x4 x5 → gG X d b (zQv X d b t T F0 Q) F 0 0 23 [some (.ref t), some (.int (zI x1)), some (.int (zI x2)), some (.int (zI x3)), some (.int (zI x4)), some (.int (zI x5)), none] []) : ∀ (m : Nat) (F : gM) (s0 : zS) (x1 : Int) (x2 : Int) (x3 : Int) (x4 : Int) (x5 : Int) (x6 : Int), zR x1 → zR x2 → zR x3 → zR x4 → zR x5 → zR x6 → zZ d t T F0 F s0 → wr_choose_37 Q k23 m s0 x1 x2 x3 x4 x5 x6 → gG X d b (zQv X d b t T F0 Q) F 0 0 37 [some (.ref t), some (.int (zI x1)), some (.int (zI x2)), some (.int (zI x3)), some (.int (zI x4)), some (.int (zI x5)), some (.int (zI x6))] [] := by
  intro m
  induction m with
  | zero => intro F s0 x1 x2 x3 x4 x5 x6 Rx1 Rx2 Rx3 Rx4 Rx5 Rx6 hZ hw; exact False.elim hw
  | succ m ih => intro F s0 x1 x2 x3 x4 x5 x6 Rx1 Rx2 Rx3 Rx4 Rx5 Rx6 hZ hw; exact rb_choose_37 hC hk23 ih Rx1 Rx2 Rx3 Rx4 Rx5 Rx6 hZ hw
set_option maxHeartbeats 4000000 in
set_option maxRecDepth 100000 in
theorem rb_choose_23 {X : gX} {d : gD} {b t : Nat} {T : Nat → Nat} {F0 : gM} (hC : gC RX12 cX12_choose 7 none "choose" (gR 1 0 0) d b X) {Q : zS → Prop} {k23 : zS → Int → Int → Int → Int → Int → Prop} (hk23 : ∀ (F : gM) (s0 : zS) (x1 : Int) (x2 : Int) (x3 : Int) (x4 : Int) (x5 : Int), zR x1 → zR x2 → zR x3 → zR x4 → zR x5 → zZ d t T F0 F s0 → k23 s0 x1 x2 x3 x4 x5 → gG X d b (zQv X d b t T F0 Q) F 0 0 23 [some (.ref t), some (.int (zI x1)), some (.int (zI x2)), some (.int (zI x3)), some (.int (zI x4)), some (.int (zI x5)), none] []) {F : gM} {s0 : zS} {x1 : Int} {x2 : Int} {x3 : Int} {x4 : Int} {x5 : Int} (Rx1 : zR x1) (Rx2 : zR x2) (Rx3 : zR x3) (Rx4 : zR x4) (Rx5 : zR x5) (hZ : zZ d t T F0 F s0) (hw : wr_choose_23B Q k23 s0 x1 x2 x3 x4 x5) : gG X d b (zQv X d b t T F0 Q) F 0 0 23 [some (.ref t), some (.int (zI x1)), some (.int (zI x2)), some (.int (zI x3)), some (.int (zI x4)), some (.int (zI x5)), none] [] := by
  unfold wr_choose_23B at hw
  refine g_iload hC dX12_choose_23 rfl ?_
  refine zr_if_lt (tgt := 112) hC Rx5 dX12_choose_25 (by decide) (fun c1 => ?_) (fun c1 => ?_)
  · have h2 := hw.1 c1
    refine g_iload_n hC dX12_choose_112 rfl ?_
    refine zr_if_ge (tgt := 119) hC Rx3 dX12_choose_113 (by decide) (fun c3 => ?_) (fun c3 => ?_)
    · have h4 := h2.1 c3
      refine g_iload_n hC dX12_choose_119 rfl ?_
      refine zr_if_lt (tgt := 131) hC Rx3 dX12_choose_120 (by decide) (fun c5 => ?_) (fun c5 => ?_)
      · have h6 := h4.1 c5
        exact zr_vret hC hZ h6 dX12_choose_131
      · have h7 := h4.2 c5
        refine g_aload_n hC dX12_choose_123 rfl ?_
        refine g_bipush (v := zI 17) hC dX12_choose_124 rfl ?_
        refine g_iload_n hC dX12_choose_126 rfl ?_
        refine g_iload_n hC dX12_choose_127 rfl ?_
        refine zr_callVv (As := [.int (zI 17), .int (zI x1), .int (zI x3)]) hC hZ rfl (rm_todoTask X.la d b (by decide) Rx1 Rx3 hZ.rf h7) cl_X12_801 rfl rfl (Nat.le_of_ble_eq_true rfl) ⟨Nat.le_of_ble_eq_true rfl, Nat.le_of_ble_eq_true rfl⟩ dX12_choose_128 (fun s9 F10 hZ12 h13 => ?_)
        exact zr_vret hC hZ12 h13 dX12_choose_131
    · have h14 := h2.2 c3
      refine g_iload hC dX12_choose_116 rfl ?_
      refine g_istore_n (lv' := [some (.ref t), some (.int (zI x1)), some (.int (zI x2)), some (.int (zI x4)), some (.int (zI x4)), some (.int (zI x5)), none]) hC dX12_choose_118 (Nat.le_of_ble_eq_true rfl) rfl rfl ?_
      refine g_iload_n hC dX12_choose_119 rfl ?_
      refine zr_if_lt (tgt := 131) hC Rx4 dX12_choose_120 (by decide) (fun c15 => ?_) (fun c15 => ?_)
      · have h16 := h14.1 c15
        exact zr_vret hC hZ h16 dX12_choose_131
      · have h17 := h14.2 c15
        refine g_aload_n hC dX12_choose_123 rfl ?_
        refine g_bipush (v := zI 17) hC dX12_choose_124 rfl ?_
        refine g_iload_n hC dX12_choose_126 rfl ?_
        refine g_iload_n hC dX12_choose_127 rfl ?_
        refine zr_callVv (As := [.int (zI 17), .int (zI x1), .int (zI x4)]) hC hZ rfl (rm_todoTask X.la d b (by decide) Rx1 Rx4 hZ.rf h17) cl_X12_801 rfl rfl (Nat.le_of_ble_eq_true rfl) ⟨Nat.le_of_ble_eq_true rfl, Nat.le_of_ble_eq_true rfl⟩ dX12_choose_128 (fun s19 F20 hZ22 h23 => ?_)
        exact zr_vret hC hZ22 h23 dX12_choose_131
  · have h24 := hw.2 c1
    refine g_aload_n hC dX12_choose_28 rfl ?_
    refine zr_geta hC hZ fl_X12_93 zb_27 (by decide) dX12_choose_29 ?_
    refine g_iload hC dX12_choose_32 rfl ?_
    obtain ⟨o25, h26⟩ := h24
    obtain ⟨o27, h28⟩ := h26
    refine zr_iald (v := (za s0 27 (Int.toNat x5))) hC hZ zk_27 zb_27 zn_27 (by decide) o25 o27 rfl dX12_choose_34 ?_
    refine g_istore (lv' := [some (.ref t), some (.int (zI x1)), some (.int (zI x2)), some (.int (zI x3)), some (.int (zI x4)), some (.int (zI x5)), some (.int (zI (za s0 27 (Int.toNat x5))))]) hC dX12_choose_35 (Nat.le_of_ble_eq_true rfl) rfl rfl ?_
    obtain ⟨m29, h30⟩ := h28
    exact rl_choose_37 hC hk23 m29 _ _ _ _ _ _ _ _ Rx1 Rx2 Rx3 Rx4 Rx5 (hZ.ra 27 _) hZ h30
theorem rl_choose_23 {X : gX} {d : gD} {b t : Nat} {T : Nat → Nat} {F0 : gM} (hC : gC RX12 cX12_choose 7 none "choose" (gR 1 0 0) d b X) {Q : zS → Prop}   : ∀ (m : Nat) (F : gM) (s0 : zS) (x1 : Int) (x2 : Int) (x3 : Int) (x4 : Int) (x5 : Int), zR x1 → zR x2 → zR x3 → zR x4 → zR x5 → zZ d t T F0 F s0 → wr_choose_23 Q  m s0 x1 x2 x3 x4 x5 → gG X d b (zQv X d b t T F0 Q) F 0 0 23 [some (.ref t), some (.int (zI x1)), some (.int (zI x2)), some (.int (zI x3)), some (.int (zI x4)), some (.int (zI x5)), none] [] := by
  intro m
  induction m with
  | zero => intro F s0 x1 x2 x3 x4 x5 Rx1 Rx2 Rx3 Rx4 Rx5 hZ hw; exact False.elim hw
  | succ m ih => intro F s0 x1 x2 x3 x4 x5 Rx1 Rx2 Rx3 Rx4 Rx5 hZ hw; exact rb_choose_23 hC  ih Rx1 Rx2 Rx3 Rx4 Rx5 hZ hw
set_option maxHeartbeats 4000000 in
set_option maxRecDepth 100000 in
theorem rm_choose (l : Launch) (d : gD) (b : Nat) {t : Nat} {T : Nat → Nat} {F : gM} {s0 : zS} {a0 : Int} (Ra0 : zR a0) {Q : zS → Prop} (hZ : zZ d t T F F s0) (hw : wr_choose s0 a0 Q) : gMv l d b yX12_choose cX12_choose 7 1 0 0 F [.ref t, .int (zI a0)] (zPv d t T F Q) := by
  refine gM_of2 rfl (nL := 7) (Nat.le_of_ble_eq_true rfl) ?_
  intro X hX hC; subst hX
  show gG X d b (zQv X d b t T F Q) F 0 0 0 [some (.ref t), some (.int (zI a0)), none, none, none, none, none] []
  unfold wr_choose at hw
  refine g_aload_n hC dX12_choose_0 rfl ?_
  refine zr_callVi (As := []) hC hZ rfl (rm_pop X.la d b  hZ.rf hw) cl_X12_810 rfl rfl (Nat.le_of_ble_eq_true rfl) ⟨Nat.le_of_ble_eq_true rfl, Nat.le_of_ble_eq_true rfl⟩ dX12_choose_1 (fun r1 s2 F3 R4 hZ5 h6 => ?_)
  refine g_istore_n (lv' := [some (.ref t), some (.int (zI a0)), some (.int (zI r1)), none, none, none, none]) hC dX12_choose_4 (Nat.le_of_ble_eq_true rfl) rfl rfl ?_
  refine g_iconst (v := zI (-1)) hC dX12_choose_5 rfl ?_
  refine g_istore_n (lv' := [some (.ref t), some (.int (zI a0)), some (.int (zI r1)), some (.int (zI (-1))), none, none, none]) hC dX12_choose_6 (Nat.le_of_ble_eq_true rfl) rfl rfl ?_
  refine g_iconst (v := zI (-1)) hC dX12_choose_7 rfl ?_
  refine g_istore (lv' := [some (.ref t), some (.int (zI a0)), some (.int (zI r1)), some (.int (zI (-1))), some (.int (zI (-1))), none, none]) hC dX12_choose_8 (Nat.le_of_ble_eq_true rfl) rfl rfl ?_
  refine g_aload_n hC dX12_choose_10 rfl ?_
  refine zr_geta hC hZ5 fl_X12_96 zb_28 (by decide) dX12_choose_11 ?_
  refine g_aload_n hC dX12_choose_14 rfl ?_
  refine zr_geta hC hZ5 fl_X12_93 zb_27 (by decide) dX12_choose_15 ?_
  refine g_iload_n hC dX12_choose_18 rfl ?_
  obtain ⟨o7, h8⟩ := h6
  obtain ⟨o9, h10⟩ := h8
  refine zr_iald (v := (za s2 27 (Int.toNat a0))) hC hZ5 zk_27 zb_27 zn_27 (by decide) o7 o9 rfl dX12_choose_19 ?_
  obtain ⟨o11, h12⟩ := h10
  obtain ⟨o13, h14⟩ := h12
  refine zr_iald (v := (za s2 28 (Int.toNat (za s2 27 (Int.toNat a0))))) hC hZ5 zk_28 zb_28 zn_28 (by decide) o11 o13 rfl dX12_choose_20 ?_
  refine g_istore (lv' := [some (.ref t), some (.int (zI a0)), some (.int (zI r1)), some (.int (zI (-1))), some (.int (zI (-1))), some (.int (zI (za s2 28 (Int.toNat (za s2 27 (Int.toNat a0)))))), none]) hC dX12_choose_21 (Nat.le_of_ble_eq_true rfl) rfl rfl ?_
  obtain ⟨m15, h16⟩ := h14
  exact rl_choose_23 hC  m15 _ _ _ _ _ _ _ Ra0 R4 (by decide) (by decide) (hZ5.ra 28 _) hZ5 h16
theorem dX12_returns_0 : decode cX12_returns 0 = .ok (.iload_n 1, 1) := by decide +kernel
theorem dX12_returns_1 : decode cX12_returns 1 = .ok (.iconst 1, 1) := by decide +kernel
theorem dX12_returns_2 : decode cX12_returns 2 = .ok (.if_icmp .ne 10, 3) := by decide +kernel
theorem dX12_returns_5 : decode cX12_returns 5 = .ok (.aload_n 0, 1) := by decide +kernel
theorem dX12_returns_6 : decode cX12_returns 6 = .ok (.invokevirtual 810, 3) := by decide +kernel
theorem dX12_returns_9 : decode cX12_returns 9 = .ok (.goto 4, 3) := by decide +kernel
theorem dX12_returns_12 : decode cX12_returns 12 = .ok (.iconst 0, 1) := by decide +kernel
theorem dX12_returns_13 : decode cX12_returns 13 = .ok (.istore_n 3, 1) := by decide +kernel
theorem dX12_returns_14 : decode cX12_returns 14 = .ok (.aload_n 0, 1) := by decide +kernel
theorem dX12_returns_15 : decode cX12_returns 15 = .ok (.iload_n 2, 1) := by decide +kernel
theorem dX12_returns_16 : decode cX12_returns 16 = .ok (.putfield 289, 3) := by decide +kernel
theorem dX12_returns_19 : decode cX12_returns 19 = .ok (.aload_n 0, 1) := by decide +kernel
theorem dX12_returns_20 : decode cX12_returns 20 = .ok (.dup, 1) := by decide +kernel
theorem dX12_returns_21 : decode cX12_returns 21 = .ok (.getfield 302, 3) := by decide +kernel
theorem dX12_returns_24 : decode cX12_returns 24 = .ok (.iconst 1, 1) := by decide +kernel
theorem dX12_returns_25 : decode cX12_returns 25 = .ok (.isub, 1) := by decide +kernel
theorem dX12_returns_26 : decode cX12_returns 26 = .ok (.putfield 302, 3) := by decide +kernel
theorem dX12_returns_29 : decode cX12_returns 29 = .ok (.aload_n 0, 1) := by decide +kernel
theorem dX12_returns_30 : decode cX12_returns 30 = .ok (.aload_n 0, 1) := by decide +kernel
theorem dX12_returns_31 : decode cX12_returns 31 = .ok (.getfield 296, 3) := by decide +kernel
theorem dX12_returns_34 : decode cX12_returns 34 = .ok (.aload_n 0, 1) := by decide +kernel
theorem dX12_returns_35 : decode cX12_returns 35 = .ok (.getfield 302, 3) := by decide +kernel
theorem dX12_returns_38 : decode cX12_returns 38 = .ok (.iaload, 1) := by decide +kernel
theorem dX12_returns_39 : decode cX12_returns 39 = .ok (.putfield 305, 3) := by decide +kernel
theorem dX12_returns_42 : decode cX12_returns 42 = .ok (.aload_n 0, 1) := by decide +kernel
theorem dX12_returns_43 : decode cX12_returns 43 = .ok (.aload_n 0, 1) := by decide +kernel
theorem dX12_returns_44 : decode cX12_returns 44 = .ok (.getfield 299, 3) := by decide +kernel
theorem dX12_returns_47 : decode cX12_returns 47 = .ok (.aload_n 0, 1) := by decide +kernel
theorem dX12_returns_48 : decode cX12_returns 48 = .ok (.getfield 302, 3) := by decide +kernel
theorem dX12_returns_51 : decode cX12_returns 51 = .ok (.iaload, 1) := by decide +kernel
theorem dX12_returns_52 : decode cX12_returns 52 = .ok (.putfield 308, 3) := by decide +kernel
theorem dX12_returns_55 : decode cX12_returns 55 = .ok (.aload_n 0, 1) := by decide +kernel
theorem dX12_returns_56 : decode cX12_returns 56 = .ok (.iload_n 3, 1) := by decide +kernel
theorem dX12_returns_57 : decode cX12_returns 57 = .ok (.invokevirtual 795, 3) := by decide +kernel
theorem dX12_returns_60 : decode cX12_returns 60 = .ok (.return_, 1) := by decide +kernel
def wr_returns_13 (Q : zS → Prop)  (s0 : zS) (x2 : Int) (y0 : Int) : Prop :=
  (zR ((zv s0 95) - 1)) ∧ (0 ≤ ((zv s0 95) - 1)) ∧ (((zv s0 95) - 1) < 600) ∧ (0 ≤ ((zv s0 95) - 1)) ∧ (((zv s0 95) - 1) < 600) ∧ wr_push (zpv (zpv (zpv (zpv s0 91 x2) 95 ((zv s0 95) - 1)) 96 (za s0 93 (Int.toNat ((zv s0 95) - 1)))) 97 (za s0 94 (Int.toNat ((zv s0 95) - 1)))) y0 (fun s20 => Q s20)
def wr_returns (s0 : zS) (a0 : Int) (a1 : Int) (Q : zS → Prop) : Prop :=
  ((¬ a0 = 1 → wr_returns_13 Q  s0 a1 0) ∧ (a0 = 1 → wr_pop s0  (fun r4 s5 => wr_returns_13 Q  s5 a1 r4)))
set_option maxHeartbeats 4000000 in
set_option maxRecDepth 100000 in
theorem rj_returns_13 {X : gX} {d : gD} {b t : Nat} {T : Nat → Nat} {F0 : gM} (hC : gC RX12 cX12_returns 4 none "returns" (gR 1 0 0) d b X) {Q : zS → Prop}   {F : gM} {s0 : zS} {x2 : Int} {y0 : Int} (Rx2 : zR x2) (Ry0 : zR y0) (hZ : zZ d t T F0 F s0) (hw : wr_returns_13 Q  s0 x2 y0) : gG X d b (zQv X d b t T F0 Q) F 0 0 13 [some (.ref t), none, some (.int (zI x2)), none] [.int (zI y0)] := by
  unfold wr_returns_13 at hw
  refine g_istore_n (lv' := [some (.ref t), none, some (.int (zI x2)), some (.int (zI y0))]) hC dX12_returns_13 (Nat.le_of_ble_eq_true rfl) rfl rfl ?_
  refine g_aload_n hC dX12_returns_14 rfl ?_
  refine g_iload_n hC dX12_returns_15 rfl ?_
  refine zr_put hC hZ fl_X12_289 zb_91 (by decide) Rx2 dX12_returns_16 (fun F1 hZ2 => ?_)
  refine g_aload_n hC dX12_returns_19 rfl ?_
  refine g_dup hC dX12_returns_20 rfl ?_
  refine zr_get (e := (zv s0 95)) hC hZ2 fl_X12_302 zb_95 (by decide) rfl dX12_returns_21 ?_
  refine g_iconst (v := zI 1) hC dX12_returns_24 rfl ?_
  refine zr_isub hC dX12_returns_25 ?_
  obtain ⟨o3, h4⟩ := hw
  refine zr_put hC hZ2 fl_X12_302 zb_95 (by decide) o3 dX12_returns_26 (fun F5 hZ6 => ?_)
  refine g_aload_n hC dX12_returns_29 rfl ?_
  refine g_aload_n hC dX12_returns_30 rfl ?_
  refine zr_geta hC hZ6 fl_X12_296 zb_93 (by decide) dX12_returns_31 ?_
  refine g_aload_n hC dX12_returns_34 rfl ?_
  refine zr_get (e := ((zv s0 95) - 1)) hC hZ6 fl_X12_302 zb_95 (by decide) rfl dX12_returns_35 ?_
  obtain ⟨o7, h8⟩ := h4
  obtain ⟨o9, h10⟩ := h8
  refine zr_iald (v := (za s0 93 (Int.toNat ((zv s0 95) - 1)))) hC hZ6 zk_93 zb_93 zn_93 (by decide) o7 o9 rfl dX12_returns_38 ?_
  refine zr_put hC hZ6 fl_X12_305 zb_96 (by decide) (hZ.ra 93 _) dX12_returns_39 (fun F11 hZ12 => ?_)
  refine g_aload_n hC dX12_returns_42 rfl ?_
  refine g_aload_n hC dX12_returns_43 rfl ?_
  refine zr_geta hC hZ12 fl_X12_299 zb_94 (by decide) dX12_returns_44 ?_
  refine g_aload_n hC dX12_returns_47 rfl ?_
  refine zr_get (e := ((zv s0 95) - 1)) hC hZ12 fl_X12_302 zb_95 (by decide) rfl dX12_returns_48 ?_
  obtain ⟨o13, h14⟩ := h10
  obtain ⟨o15, h16⟩ := h14
  refine zr_iald (v := (za s0 94 (Int.toNat ((zv s0 95) - 1)))) hC hZ12 zk_94 zb_94 zn_94 (by decide) o13 o15 rfl dX12_returns_51 ?_
  refine zr_put hC hZ12 fl_X12_308 zb_97 (by decide) (hZ.ra 94 _) dX12_returns_52 (fun F17 hZ18 => ?_)
  refine g_aload_n hC dX12_returns_55 rfl ?_
  refine g_iload_n hC dX12_returns_56 rfl ?_
  refine zr_callVv (As := [.int (zI y0)]) hC hZ18 rfl (rm_push X.la d b Ry0 hZ18.rf h16) cl_X12_795 rfl rfl (Nat.le_of_ble_eq_true rfl) ⟨Nat.le_of_ble_eq_true rfl, Nat.le_of_ble_eq_true rfl⟩ dX12_returns_57 (fun s20 F21 hZ23 h24 => ?_)
  exact zr_vret hC hZ23 h24 dX12_returns_60
set_option maxHeartbeats 4000000 in
set_option maxRecDepth 100000 in
theorem rm_returns (l : Launch) (d : gD) (b : Nat) {t : Nat} {T : Nat → Nat} {F : gM} {s0 : zS} {a0 : Int} {a1 : Int} (Ra0 : zR a0) (Ra1 : zR a1) {Q : zS → Prop} (hZ : zZ d t T F F s0) (hw : wr_returns s0 a0 a1 Q) : gMv l d b yX12_returns cX12_returns 4 1 0 0 F [.ref t, .int (zI a0), .int (zI a1)] (zPv d t T F Q) := by
  refine gM_of2 rfl (nL := 4) (Nat.le_of_ble_eq_true rfl) ?_
  intro X hX hC; subst hX
  show gG X d b (zQv X d b t T F Q) F 0 0 0 [some (.ref t), some (.int (zI a0)), some (.int (zI a1)), none] []
  unfold wr_returns at hw
  refine g_iload_n hC dX12_returns_0 rfl ?_
  refine g_iconst (v := zI 1) hC dX12_returns_1 rfl ?_
  refine zr_icmp_ne (tgt := 12) hC Ra0 (by decide) dX12_returns_2 (by decide) (fun c1 => ?_) (fun c1 => ?_)
  · have h2 := hw.1 c1
    refine g_iconst (v := zI 0) hC dX12_returns_12 rfl ?_
    refine g_lv (lv' := [some (.ref t), none, some (.int (zI a1)), none]) ⟨rfl, rfl, trivial⟩ ?_
    exact rj_returns_13 hC  Ra1 (by decide) hZ h2
  · have h3 := hw.2 c1
    refine g_aload_n hC dX12_returns_5 rfl ?_
    refine zr_callVi (As := []) hC hZ rfl (rm_pop X.la d b  hZ.rf h3) cl_X12_810 rfl rfl (Nat.le_of_ble_eq_true rfl) ⟨Nat.le_of_ble_eq_true rfl, Nat.le_of_ble_eq_true rfl⟩ dX12_returns_6 (fun r4 s5 F6 R7 hZ8 h9 => ?_)
    refine g_goto (tgt := 13) hC dX12_returns_9 (by decide) ?_
    refine g_lv (lv' := [some (.ref t), none, some (.int (zI a1)), none]) ⟨rfl, rfl, trivial⟩ ?_
    exact rj_returns_13 hC  Ra1 R7 hZ8 h9
theorem dX12_doNext_0 : decode cX12_doNext 0 = .ok (.aload_n 0, 1) := by decide +kernel
theorem dX12_doNext_1 : decode cX12_doNext 1 = .ok (.dup, 1) := by decide +kernel
theorem dX12_doNext_2 : decode cX12_doNext 2 = .ok (.getfield 276, 3) := by decide +kernel
theorem dX12_doNext_5 : decode cX12_doNext 5 = .ok (.iconst 1, 1) := by decide +kernel
theorem dX12_doNext_6 : decode cX12_doNext 6 = .ok (.isub, 1) := by decide +kernel
theorem dX12_doNext_7 : decode cX12_doNext 7 = .ok (.putfield 276, 3) := by decide +kernel
theorem dX12_doNext_10 : decode cX12_doNext 10 = .ok (.aload_n 0, 1) := by decide +kernel
theorem dX12_doNext_11 : decode cX12_doNext 11 = .ok (.getfield 280, 3) := by decide +kernel
theorem dX12_doNext_14 : decode cX12_doNext 14 = .ok (.aload_n 0, 1) := by decide +kernel
theorem dX12_doNext_15 : decode cX12_doNext 15 = .ok (.getfield 276, 3) := by decide +kernel
theorem dX12_doNext_18 : decode cX12_doNext 18 = .ok (.iaload, 1) := by decide +kernel
theorem dX12_doNext_19 : decode cX12_doNext 19 = .ok (.istore_n 1, 1) := by decide +kernel
theorem dX12_doNext_20 : decode cX12_doNext 20 = .ok (.aload_n 0, 1) := by decide +kernel
theorem dX12_doNext_21 : decode cX12_doNext 21 = .ok (.getfield 283, 3) := by decide +kernel
theorem dX12_doNext_24 : decode cX12_doNext 24 = .ok (.aload_n 0, 1) := by decide +kernel
theorem dX12_doNext_25 : decode cX12_doNext 25 = .ok (.getfield 276, 3) := by decide +kernel
theorem dX12_doNext_28 : decode cX12_doNext 28 = .ok (.iaload, 1) := by decide +kernel
theorem dX12_doNext_29 : decode cX12_doNext 29 = .ok (.istore_n 2, 1) := by decide +kernel
theorem dX12_doNext_30 : decode cX12_doNext 30 = .ok (.aload_n 0, 1) := by decide +kernel
theorem dX12_doNext_31 : decode cX12_doNext 31 = .ok (.getfield 286, 3) := by decide +kernel
theorem dX12_doNext_34 : decode cX12_doNext 34 = .ok (.aload_n 0, 1) := by decide +kernel
theorem dX12_doNext_35 : decode cX12_doNext 35 = .ok (.getfield 276, 3) := by decide +kernel
theorem dX12_doNext_38 : decode cX12_doNext 38 = .ok (.iaload, 1) := by decide +kernel
theorem dX12_doNext_39 : decode cX12_doNext 39 = .ok (.istore_n 3, 1) := by decide +kernel
theorem dX12_doNext_40 : decode cX12_doNext 40 = .ok (.iload_n 1, 1) := by decide +kernel
theorem dX12_doNext_41 : decode cX12_doNext 41 = .ok (.iconst 1, 1) := by decide +kernel
theorem dX12_doNext_42 : decode cX12_doNext 42 = .ok (.if_icmp .ne 11, 3) := by decide +kernel
theorem dX12_doNext_45 : decode cX12_doNext 45 = .ok (.aload_n 0, 1) := by decide +kernel
theorem dX12_doNext_46 : decode cX12_doNext 46 = .ok (.iload_n 2, 1) := by decide +kernel
theorem dX12_doNext_47 : decode cX12_doNext 47 = .ok (.invokevirtual 881, 3) := by decide +kernel
theorem dX12_doNext_50 : decode cX12_doNext 50 = .ok (.goto 567, 3) := by decide +kernel
theorem dX12_doNext_53 : decode cX12_doNext 53 = .ok (.iload_n 1, 1) := by decide +kernel
theorem dX12_doNext_54 : decode cX12_doNext 54 = .ok (.iconst 2, 1) := by decide +kernel
theorem dX12_doNext_55 : decode cX12_doNext 55 = .ok (.if_icmp .ne 11, 3) := by decide +kernel
theorem dX12_doNext_58 : decode cX12_doNext 58 = .ok (.aload_n 0, 1) := by decide +kernel
theorem dX12_doNext_59 : decode cX12_doNext 59 = .ok (.iload_n 2, 1) := by decide +kernel
theorem dX12_doNext_60 : decode cX12_doNext 60 = .ok (.invokevirtual 884, 3) := by decide +kernel
theorem dX12_doNext_63 : decode cX12_doNext 63 = .ok (.goto 554, 3) := by decide +kernel
theorem dX12_doNext_66 : decode cX12_doNext 66 = .ok (.iload_n 1, 1) := by decide +kernel
theorem dX12_doNext_67 : decode cX12_doNext 67 = .ok (.iconst 3, 1) := by decide +kernel
theorem dX12_doNext_68 : decode cX12_doNext 68 = .ok (.if_icmp .ne 23, 3) := by decide +kernel
theorem dX12_doNext_71 : decode cX12_doNext 71 = .ok (.aload_n 0, 1) := by decide +kernel
theorem dX12_doNext_72 : decode cX12_doNext 72 = .ok (.aload_n 0, 1) := by decide +kernel
theorem dX12_doNext_73 : decode cX12_doNext 73 = .ok (.getfield 99, 3) := by decide +kernel
theorem dX12_doNext_76 : decode cX12_doNext 76 = .ok (.iload_n 2, 1) := by decide +kernel
theorem dX12_doNext_77 : decode cX12_doNext 77 = .ok (.iaload, 1) := by decide +kernel
theorem dX12_doNext_78 : decode cX12_doNext 78 = .ok (.aload_n 0, 1) := by decide +kernel
theorem dX12_doNext_79 : decode cX12_doNext 79 = .ok (.invokevirtual 810, 3) := by decide +kernel
theorem dX12_doNext_82 : decode cX12_doNext 82 = .ok (.invokestatic 638, 3) := by decide +kernel
theorem dX12_doNext_85 : decode cX12_doNext 85 = .ok (.invokevirtual 795, 3) := by decide +kernel
theorem dX12_doNext_88 : decode cX12_doNext 88 = .ok (.goto 529, 3) := by decide +kernel
theorem dX12_doNext_91 : decode cX12_doNext 91 = .ok (.iload_n 1, 1) := by decide +kernel
theorem dX12_doNext_92 : decode cX12_doNext 92 = .ok (.iconst 4, 1) := by decide +kernel
theorem dX12_doNext_93 : decode cX12_doNext 93 = .ok (.if_icmp .ne 19, 3) := by decide +kernel
theorem dX12_doNext_96 : decode cX12_doNext 96 = .ok (.aload_n 0, 1) := by decide +kernel
theorem dX12_doNext_97 : decode cX12_doNext 97 = .ok (.aload_n 0, 1) := by decide +kernel
theorem dX12_doNext_98 : decode cX12_doNext 98 = .ok (.aload_n 0, 1) := by decide +kernel
theorem dX12_doNext_99 : decode cX12_doNext 99 = .ok (.invokevirtual 810, 3) := by decide +kernel
theorem dX12_doNext_102 : decode cX12_doNext 102 = .ok (.i2l, 1) := by decide +kernel
theorem dX12_doNext_103 : decode cX12_doNext 103 = .ok (.invokevirtual 813, 3) := by decide +kernel
theorem dX12_doNext_106 : decode cX12_doNext 106 = .ok (.invokevirtual 795, 3) := by decide +kernel
theorem dX12_doNext_109 : decode cX12_doNext 109 = .ok (.goto 508, 3) := by decide +kernel
theorem dX12_doNext_112 : decode cX12_doNext 112 = .ok (.iload_n 1, 1) := by decide +kernel
theorem dX12_doNext_113 : decode cX12_doNext 113 = .ok (.bipush 9, 2) := by decide +kernel
theorem dX12_doNext_115 : decode cX12_doNext 115 = .ok (.if_icmp .ne 19, 3) := by decide +kernel
theorem dX12_doNext_118 : decode cX12_doNext 118 = .ok (.aload_n 0, 1) := by decide +kernel
theorem dX12_doNext_119 : decode cX12_doNext 119 = .ok (.aload_n 0, 1) := by decide +kernel
theorem dX12_doNext_120 : decode cX12_doNext 120 = .ok (.invokevirtual 810, 3) := by decide +kernel
theorem dX12_doNext_123 : decode cX12_doNext 123 = .ok (.aload_n 0, 1) := by decide +kernel
theorem dX12_doNext_124 : decode cX12_doNext 124 = .ok (.invokevirtual 810, 3) := by decide +kernel
theorem dX12_doNext_127 : decode cX12_doNext 127 = .ok (.iadd, 1) := by decide +kernel
theorem dX12_doNext_128 : decode cX12_doNext 128 = .ok (.invokevirtual 795, 3) := by decide +kernel
theorem dX12_doNext_131 : decode cX12_doNext 131 = .ok (.goto 486, 3) := by decide +kernel
theorem dX12_doNext_134 : decode cX12_doNext 134 = .ok (.iload_n 1, 1) := by decide +kernel
theorem dX12_doNext_135 : decode cX12_doNext 135 = .ok (.iconst 5, 1) := by decide +kernel
theorem dX12_doNext_136 : decode cX12_doNext 136 = .ok (.if_icmp .ne 44, 3) := by decide +kernel
theorem dX12_doNext_139 : decode cX12_doNext 139 = .ok (.aload_n 0, 1) := by decide +kernel
theorem dX12_doNext_140 : decode cX12_doNext 140 = .ok (.getfield 96, 3) := by decide +kernel
theorem dX12_doNext_143 : decode cX12_doNext 143 = .ok (.aload_n 0, 1) := by decide +kernel
theorem dX12_doNext_144 : decode cX12_doNext 144 = .ok (.getfield 93, 3) := by decide +kernel
theorem dX12_doNext_147 : decode cX12_doNext 147 = .ok (.iload_n 2, 1) := by decide +kernel
theorem dX12_doNext_148 : decode cX12_doNext 148 = .ok (.iaload, 1) := by decide +kernel
theorem dX12_doNext_149 : decode cX12_doNext 149 = .ok (.iaload, 1) := by decide +kernel
theorem dX12_doNext_150 : decode cX12_doNext 150 = .ok (.istore 4, 2) := by decide +kernel
theorem dX12_doNext_152 : decode cX12_doNext 152 = .ok (.aload_n 0, 1) := by decide +kernel
theorem dX12_doNext_153 : decode cX12_doNext 153 = .ok (.iconst 1, 1) := by decide +kernel
theorem dX12_doNext_154 : decode cX12_doNext 154 = .ok (.aload_n 0, 1) := by decide +kernel
theorem dX12_doNext_155 : decode cX12_doNext 155 = .ok (.invokevirtual 810, 3) := by decide +kernel
theorem dX12_doNext_158 : decode cX12_doNext 158 = .ok (.ifCond .eq 8, 3) := by decide +kernel
theorem dX12_doNext_161 : decode cX12_doNext 161 = .ok (.iload 4, 2) := by decide +kernel
theorem dX12_doNext_163 : decode cX12_doNext 163 = .ok (.goto 10, 3) := by decide +kernel
theorem dX12_doNext_166 : decode cX12_doNext 166 = .ok (.aload_n 0, 1) := by decide +kernel
theorem dX12_doNext_167 : decode cX12_doNext 167 = .ok (.getfield 96, 3) := by decide +kernel
theorem dX12_doNext_170 : decode cX12_doNext 170 = .ok (.iload 4, 2) := by decide +kernel
theorem dX12_doNext_172 : decode cX12_doNext 172 = .ok (.iaload, 1) := by decide +kernel
theorem dX12_doNext_173 : decode cX12_doNext 173 = .ok (.iconst 0, 1) := by decide +kernel
theorem dX12_doNext_174 : decode cX12_doNext 174 = .ok (.invokevirtual 801, 3) := by decide +kernel
theorem dX12_doNext_177 : decode cX12_doNext 177 = .ok (.goto 440, 3) := by decide +kernel
theorem dX12_doNext_180 : decode cX12_doNext 180 = .ok (.iload_n 1, 1) := by decide +kernel
theorem dX12_doNext_181 : decode cX12_doNext 181 = .ok (.bipush 6, 2) := by decide +kernel
theorem dX12_doNext_183 : decode cX12_doNext 183 = .ok (.if_icmp .ne 12, 3) := by decide +kernel
theorem dX12_doNext_186 : decode cX12_doNext 186 = .ok (.aload_n 0, 1) := by decide +kernel
theorem dX12_doNext_187 : decode cX12_doNext 187 = .ok (.iload_n 2, 1) := by decide +kernel
theorem dX12_doNext_188 : decode cX12_doNext 188 = .ok (.iload_n 3, 1) := by decide +kernel
theorem dX12_doNext_189 : decode cX12_doNext 189 = .ok (.invokevirtual 887, 3) := by decide +kernel
theorem dX12_doNext_192 : decode cX12_doNext 192 = .ok (.goto 425, 3) := by decide +kernel
theorem dX12_doNext_195 : decode cX12_doNext 195 = .ok (.iload_n 1, 1) := by decide +kernel
theorem dX12_doNext_196 : decode cX12_doNext 196 = .ok (.bipush 7, 2) := by decide +kernel
theorem dX12_doNext_198 : decode cX12_doNext 198 = .ok (.if_icmp .ne 12, 3) := by decide +kernel
theorem dX12_doNext_201 : decode cX12_doNext 201 = .ok (.aload_n 0, 1) := by decide +kernel
theorem dX12_doNext_202 : decode cX12_doNext 202 = .ok (.iload_n 2, 1) := by decide +kernel
theorem dX12_doNext_203 : decode cX12_doNext 203 = .ok (.iload_n 3, 1) := by decide +kernel
theorem dX12_doNext_204 : decode cX12_doNext 204 = .ok (.invokevirtual 890, 3) := by decide +kernel
theorem dX12_doNext_207 : decode cX12_doNext 207 = .ok (.goto 410, 3) := by decide +kernel
theorem dX12_doNext_210 : decode cX12_doNext 210 = .ok (.iload_n 1, 1) := by decide +kernel
theorem dX12_doNext_211 : decode cX12_doNext 211 = .ok (.bipush 8, 2) := by decide +kernel
theorem dX12_doNext_213 : decode cX12_doNext 213 = .ok (.if_icmp .ne 11, 3) := by decide +kernel
theorem dX12_doNext_216 : decode cX12_doNext 216 = .ok (.aload_n 0, 1) := by decide +kernel
theorem dX12_doNext_217 : decode cX12_doNext 217 = .ok (.iconst 0, 1) := by decide +kernel
theorem dX12_doNext_218 : decode cX12_doNext 218 = .ok (.invokevirtual 795, 3) := by decide +kernel
theorem dX12_doNext_221 : decode cX12_doNext 221 = .ok (.goto 396, 3) := by decide +kernel
theorem dX12_doNext_224 : decode cX12_doNext 224 = .ok (.iload_n 1, 1) := by decide +kernel
theorem dX12_doNext_225 : decode cX12_doNext 225 = .ok (.bipush 10, 2) := by decide +kernel
theorem dX12_doNext_227 : decode cX12_doNext 227 = .ok (.if_icmp .ne 11, 3) := by decide +kernel
theorem dX12_doNext_230 : decode cX12_doNext 230 = .ok (.aload_n 0, 1) := by decide +kernel
theorem dX12_doNext_231 : decode cX12_doNext 231 = .ok (.iload_n 2, 1) := by decide +kernel
theorem dX12_doNext_232 : decode cX12_doNext 232 = .ok (.invokevirtual 893, 3) := by decide +kernel
theorem dX12_doNext_235 : decode cX12_doNext 235 = .ok (.goto 382, 3) := by decide +kernel
theorem dX12_doNext_238 : decode cX12_doNext 238 = .ok (.iload_n 1, 1) := by decide +kernel
theorem dX12_doNext_239 : decode cX12_doNext 239 = .ok (.bipush 11, 2) := by decide +kernel
theorem dX12_doNext_241 : decode cX12_doNext 241 = .ok (.if_icmp .ne 12, 3) := by decide +kernel
theorem dX12_doNext_244 : decode cX12_doNext 244 = .ok (.aload_n 0, 1) := by decide +kernel
theorem dX12_doNext_245 : decode cX12_doNext 245 = .ok (.iload_n 2, 1) := by decide +kernel
theorem dX12_doNext_246 : decode cX12_doNext 246 = .ok (.iload_n 3, 1) := by decide +kernel
theorem dX12_doNext_247 : decode cX12_doNext 247 = .ok (.invokevirtual 871, 3) := by decide +kernel
theorem dX12_doNext_250 : decode cX12_doNext 250 = .ok (.goto 367, 3) := by decide +kernel
theorem dX12_doNext_253 : decode cX12_doNext 253 = .ok (.iload_n 1, 1) := by decide +kernel
theorem dX12_doNext_254 : decode cX12_doNext 254 = .ok (.bipush 12, 2) := by decide +kernel
theorem dX12_doNext_256 : decode cX12_doNext 256 = .ok (.if_icmp .ne 11, 3) := by decide +kernel
theorem dX12_doNext_259 : decode cX12_doNext 259 = .ok (.aload_n 0, 1) := by decide +kernel
theorem dX12_doNext_260 : decode cX12_doNext 260 = .ok (.iload_n 2, 1) := by decide +kernel
theorem dX12_doNext_261 : decode cX12_doNext 261 = .ok (.invokevirtual 896, 3) := by decide +kernel
theorem dX12_doNext_264 : decode cX12_doNext 264 = .ok (.goto 353, 3) := by decide +kernel
theorem dX12_doNext_267 : decode cX12_doNext 267 = .ok (.iload_n 1, 1) := by decide +kernel
theorem dX12_doNext_268 : decode cX12_doNext 268 = .ok (.bipush 13, 2) := by decide +kernel
theorem dX12_doNext_270 : decode cX12_doNext 270 = .ok (.if_icmp .ne 11, 3) := by decide +kernel
theorem dX12_doNext_273 : decode cX12_doNext 273 = .ok (.aload_n 0, 1) := by decide +kernel
theorem dX12_doNext_274 : decode cX12_doNext 274 = .ok (.invokevirtual 810, 3) := by decide +kernel
theorem dX12_doNext_277 : decode cX12_doNext 277 = .ok (.pop, 1) := by decide +kernel
theorem dX12_doNext_278 : decode cX12_doNext 278 = .ok (.goto 339, 3) := by decide +kernel
theorem dX12_doNext_281 : decode cX12_doNext 281 = .ok (.iload_n 1, 1) := by decide +kernel
theorem dX12_doNext_282 : decode cX12_doNext 282 = .ok (.bipush 14, 2) := by decide +kernel
theorem dX12_doNext_284 : decode cX12_doNext 284 = .ok (.if_icmp .ne 101, 3) := by decide +kernel
theorem dX12_doNext_287 : decode cX12_doNext 287 = .ok (.aload_n 0, 1) := by decide +kernel
theorem dX12_doNext_288 : decode cX12_doNext 288 = .ok (.invokevirtual 810, 3) := by decide +kernel
theorem dX12_doNext_291 : decode cX12_doNext 291 = .ok (.ifCond .eq 7, 3) := by decide +kernel
theorem dX12_doNext_294 : decode cX12_doNext 294 = .ok (.iconst 1, 1) := by decide +kernel
theorem dX12_doNext_295 : decode cX12_doNext 295 = .ok (.goto 4, 3) := by decide +kernel
theorem dX12_doNext_298 : decode cX12_doNext 298 = .ok (.iconst 0, 1) := by decide +kernel
theorem dX12_doNext_299 : decode cX12_doNext 299 = .ok (.istore 4, 2) := by decide +kernel
theorem dX12_doNext_301 : decode cX12_doNext 301 = .ok (.aload_n 0, 1) := by decide +kernel
theorem dX12_doNext_302 : decode cX12_doNext 302 = .ok (.getfield 96, 3) := by decide +kernel
theorem dX12_doNext_305 : decode cX12_doNext 305 = .ok (.aload_n 0, 1) := by decide +kernel
theorem dX12_doNext_306 : decode cX12_doNext 306 = .ok (.getfield 93, 3) := by decide +kernel
theorem dX12_doNext_309 : decode cX12_doNext 309 = .ok (.iload_n 2, 1) := by decide +kernel
theorem dX12_doNext_310 : decode cX12_doNext 310 = .ok (.iaload, 1) := by decide +kernel
theorem dX12_doNext_311 : decode cX12_doNext 311 = .ok (.iaload, 1) := by decide +kernel
theorem dX12_doNext_312 : decode cX12_doNext 312 = .ok (.istore 5, 2) := by decide +kernel
theorem dX12_doNext_314 : decode cX12_doNext 314 = .ok (.aload_n 0, 1) := by decide +kernel
theorem dX12_doNext_315 : decode cX12_doNext 315 = .ok (.getfield 87, 3) := by decide +kernel
theorem dX12_doNext_318 : decode cX12_doNext 318 = .ok (.iload_n 2, 1) := by decide +kernel
theorem dX12_doNext_319 : decode cX12_doNext 319 = .ok (.baload, 1) := by decide +kernel
theorem dX12_doNext_320 : decode cX12_doNext 320 = .ok (.bipush 24, 2) := by decide +kernel
theorem dX12_doNext_322 : decode cX12_doNext 322 = .ok (.if_icmp .ne 30, 3) := by decide +kernel
theorem dX12_doNext_325 : decode cX12_doNext 325 = .ok (.aload_n 0, 1) := by decide +kernel
theorem dX12_doNext_326 : decode cX12_doNext 326 = .ok (.bipush 10, 2) := by decide +kernel
theorem dX12_doNext_328 : decode cX12_doNext 328 = .ok (.iload 4, 2) := by decide +kernel
theorem dX12_doNext_330 : decode cX12_doNext 330 = .ok (.ifCond .eq 8, 3) := by decide +kernel
theorem dX12_doNext_333 : decode cX12_doNext 333 = .ok (.iload 5, 2) := by decide +kernel
theorem dX12_doNext_335 : decode cX12_doNext 335 = .ok (.goto 10, 3) := by decide +kernel
theorem dX12_doNext_338 : decode cX12_doNext 338 = .ok (.aload_n 0, 1) := by decide +kernel
theorem dX12_doNext_339 : decode cX12_doNext 339 = .ok (.getfield 96, 3) := by decide +kernel
theorem dX12_doNext_342 : decode cX12_doNext 342 = .ok (.iload 5, 2) := by decide +kernel
theorem dX12_doNext_344 : decode cX12_doNext 344 = .ok (.iaload, 1) := by decide +kernel
theorem dX12_doNext_345 : decode cX12_doNext 345 = .ok (.iconst 0, 1) := by decide +kernel
theorem dX12_doNext_346 : decode cX12_doNext 346 = .ok (.invokevirtual 801, 3) := by decide +kernel
theorem dX12_doNext_349 : decode cX12_doNext 349 = .ok (.goto 33, 3) := by decide +kernel
theorem dX12_doNext_352 : decode cX12_doNext 352 = .ok (.iload 4, 2) := by decide +kernel
theorem dX12_doNext_354 : decode cX12_doNext 354 = .ok (.aload_n 0, 1) := by decide +kernel
theorem dX12_doNext_355 : decode cX12_doNext 355 = .ok (.getfield 87, 3) := by decide +kernel
theorem dX12_doNext_358 : decode cX12_doNext 358 = .ok (.iload_n 2, 1) := by decide +kernel
theorem dX12_doNext_359 : decode cX12_doNext 359 = .ok (.baload, 1) := by decide +kernel
theorem dX12_doNext_360 : decode cX12_doNext 360 = .ok (.bipush 22, 2) := by decide +kernel
theorem dX12_doNext_362 : decode cX12_doNext 362 = .ok (.if_icmp .ne 7, 3) := by decide +kernel
theorem dX12_doNext_365 : decode cX12_doNext 365 = .ok (.iconst 1, 1) := by decide +kernel
theorem dX12_doNext_366 : decode cX12_doNext 366 = .ok (.goto 4, 3) := by decide +kernel
theorem dX12_doNext_369 : decode cX12_doNext 369 = .ok (.iconst 0, 1) := by decide +kernel
theorem dX12_doNext_370 : decode cX12_doNext 370 = .ok (.if_icmp .ne 12, 3) := by decide +kernel
theorem dX12_doNext_373 : decode cX12_doNext 373 = .ok (.aload_n 0, 1) := by decide +kernel
theorem dX12_doNext_374 : decode cX12_doNext 374 = .ok (.bipush 10, 2) := by decide +kernel
theorem dX12_doNext_376 : decode cX12_doNext 376 = .ok (.iload 5, 2) := by decide +kernel
theorem dX12_doNext_378 : decode cX12_doNext 378 = .ok (.iconst 0, 1) := by decide +kernel
theorem dX12_doNext_379 : decode cX12_doNext 379 = .ok (.invokevirtual 801, 3) := by decide +kernel
theorem dX12_doNext_382 : decode cX12_doNext 382 = .ok (.goto 235, 3) := by decide +kernel
theorem dX12_doNext_385 : decode cX12_doNext 385 = .ok (.iload_n 1, 1) := by decide +kernel
theorem dX12_doNext_386 : decode cX12_doNext 386 = .ok (.bipush 15, 2) := by decide +kernel
theorem dX12_doNext_388 : decode cX12_doNext 388 = .ok (.if_icmp .ne 12, 3) := by decide +kernel
theorem dX12_doNext_391 : decode cX12_doNext 391 = .ok (.aload_n 0, 1) := by decide +kernel
theorem dX12_doNext_392 : decode cX12_doNext 392 = .ok (.iload_n 2, 1) := by decide +kernel
theorem dX12_doNext_393 : decode cX12_doNext 393 = .ok (.iload_n 3, 1) := by decide +kernel
theorem dX12_doNext_394 : decode cX12_doNext 394 = .ok (.invokevirtual 899, 3) := by decide +kernel
theorem dX12_doNext_397 : decode cX12_doNext 397 = .ok (.goto 220, 3) := by decide +kernel
theorem dX12_doNext_400 : decode cX12_doNext 400 = .ok (.iload_n 1, 1) := by decide +kernel
theorem dX12_doNext_401 : decode cX12_doNext 401 = .ok (.bipush 16, 2) := by decide +kernel
theorem dX12_doNext_403 : decode cX12_doNext 403 = .ok (.if_icmp .ne 11, 3) := by decide +kernel
theorem dX12_doNext_406 : decode cX12_doNext 406 = .ok (.aload_n 0, 1) := by decide +kernel
theorem dX12_doNext_407 : decode cX12_doNext 407 = .ok (.iload_n 2, 1) := by decide +kernel
theorem dX12_doNext_408 : decode cX12_doNext 408 = .ok (.invokevirtual 902, 3) := by decide +kernel
theorem dX12_doNext_411 : decode cX12_doNext 411 = .ok (.goto 206, 3) := by decide +kernel
theorem dX12_doNext_414 : decode cX12_doNext 414 = .ok (.iload_n 1, 1) := by decide +kernel
theorem dX12_doNext_415 : decode cX12_doNext 415 = .ok (.bipush 17, 2) := by decide +kernel
theorem dX12_doNext_417 : decode cX12_doNext 417 = .ok (.if_icmp .ne 12, 3) := by decide +kernel
theorem dX12_doNext_420 : decode cX12_doNext 420 = .ok (.aload_n 0, 1) := by decide +kernel
theorem dX12_doNext_421 : decode cX12_doNext 421 = .ok (.iload_n 2, 1) := by decide +kernel
theorem dX12_doNext_422 : decode cX12_doNext 422 = .ok (.iload_n 3, 1) := by decide +kernel
theorem dX12_doNext_423 : decode cX12_doNext 423 = .ok (.invokevirtual 905, 3) := by decide +kernel
theorem dX12_doNext_426 : decode cX12_doNext 426 = .ok (.goto 191, 3) := by decide +kernel
theorem dX12_doNext_429 : decode cX12_doNext 429 = .ok (.iload_n 1, 1) := by decide +kernel
theorem dX12_doNext_430 : decode cX12_doNext 430 = .ok (.bipush 18, 2) := by decide +kernel
theorem dX12_doNext_432 : decode cX12_doNext 432 = .ok (.if_icmp .ne 12, 3) := by decide +kernel
theorem dX12_doNext_435 : decode cX12_doNext 435 = .ok (.aload_n 0, 1) := by decide +kernel
theorem dX12_doNext_436 : decode cX12_doNext 436 = .ok (.iload_n 2, 1) := by decide +kernel
theorem dX12_doNext_437 : decode cX12_doNext 437 = .ok (.iload_n 3, 1) := by decide +kernel
theorem dX12_doNext_438 : decode cX12_doNext 438 = .ok (.invokevirtual 908, 3) := by decide +kernel
theorem dX12_doNext_441 : decode cX12_doNext 441 = .ok (.goto 176, 3) := by decide +kernel
theorem dX12_doNext_444 : decode cX12_doNext 444 = .ok (.iload_n 1, 1) := by decide +kernel
theorem dX12_doNext_445 : decode cX12_doNext 445 = .ok (.bipush 19, 2) := by decide +kernel
theorem dX12_doNext_447 : decode cX12_doNext 447 = .ok (.if_icmp .ne 11, 3) := by decide +kernel
theorem dX12_doNext_450 : decode cX12_doNext 450 = .ok (.aload_n 0, 1) := by decide +kernel
theorem dX12_doNext_451 : decode cX12_doNext 451 = .ok (.iload_n 2, 1) := by decide +kernel
theorem dX12_doNext_452 : decode cX12_doNext 452 = .ok (.invokevirtual 911, 3) := by decide +kernel
theorem dX12_doNext_455 : decode cX12_doNext 455 = .ok (.goto 162, 3) := by decide +kernel
theorem dX12_doNext_458 : decode cX12_doNext 458 = .ok (.iload_n 1, 1) := by decide +kernel
theorem dX12_doNext_459 : decode cX12_doNext 459 = .ok (.bipush 20, 2) := by decide +kernel
theorem dX12_doNext_461 : decode cX12_doNext 461 = .ok (.if_icmp .ne 60, 3) := by decide +kernel
theorem dX12_doNext_464 : decode cX12_doNext 464 = .ok (.aload_n 0, 1) := by decide +kernel
theorem dX12_doNext_465 : decode cX12_doNext 465 = .ok (.invokevirtual 810, 3) := by decide +kernel
theorem dX12_doNext_468 : decode cX12_doNext 468 = .ok (.istore 4, 2) := by decide +kernel
theorem dX12_doNext_470 : decode cX12_doNext 470 = .ok (.aload_n 0, 1) := by decide +kernel
theorem dX12_doNext_471 : decode cX12_doNext 471 = .ok (.getfield 312, 3) := by decide +kernel
theorem dX12_doNext_474 : decode cX12_doNext 474 = .ok (.aload_n 0, 1) := by decide +kernel
theorem dX12_doNext_475 : decode cX12_doNext 475 = .ok (.getfield 305, 3) := by decide +kernel
theorem dX12_doNext_478 : decode cX12_doNext 478 = .ok (.aload_n 0, 1) := by decide +kernel
theorem dX12_doNext_479 : decode cX12_doNext 479 = .ok (.getfield 105, 3) := by decide +kernel
theorem dX12_doNext_482 : decode cX12_doNext 482 = .ok (.iload_n 2, 1) := by decide +kernel
theorem dX12_doNext_483 : decode cX12_doNext 483 = .ok (.iaload, 1) := by decide +kernel
theorem dX12_doNext_484 : decode cX12_doNext 484 = .ok (.iadd, 1) := by decide +kernel
theorem dX12_doNext_485 : decode cX12_doNext 485 = .ok (.aload_n 0, 1) := by decide +kernel
theorem dX12_doNext_486 : decode cX12_doNext 486 = .ok (.invokevirtual 810, 3) := by decide +kernel
theorem dX12_doNext_489 : decode cX12_doNext 489 = .ok (.iastore, 1) := by decide +kernel
theorem dX12_doNext_490 : decode cX12_doNext 490 = .ok (.aload_n 0, 1) := by decide +kernel
theorem dX12_doNext_491 : decode cX12_doNext 491 = .ok (.getfield 312, 3) := by decide +kernel
theorem dX12_doNext_494 : decode cX12_doNext 494 = .ok (.aload_n 0, 1) := by decide +kernel
theorem dX12_doNext_495 : decode cX12_doNext 495 = .ok (.getfield 305, 3) := by decide +kernel
theorem dX12_doNext_498 : decode cX12_doNext 498 = .ok (.aload_n 0, 1) := by decide +kernel
theorem dX12_doNext_499 : decode cX12_doNext 499 = .ok (.getfield 105, 3) := by decide +kernel
theorem dX12_doNext_502 : decode cX12_doNext 502 = .ok (.iload_n 2, 1) := by decide +kernel
theorem dX12_doNext_503 : decode cX12_doNext 503 = .ok (.iaload, 1) := by decide +kernel
theorem dX12_doNext_504 : decode cX12_doNext 504 = .ok (.iadd, 1) := by decide +kernel
theorem dX12_doNext_505 : decode cX12_doNext 505 = .ok (.iconst 1, 1) := by decide +kernel
theorem dX12_doNext_506 : decode cX12_doNext 506 = .ok (.iadd, 1) := by decide +kernel
theorem dX12_doNext_507 : decode cX12_doNext 507 = .ok (.iload 4, 2) := by decide +kernel
theorem dX12_doNext_509 : decode cX12_doNext 509 = .ok (.iastore, 1) := by decide +kernel
theorem dX12_doNext_510 : decode cX12_doNext 510 = .ok (.aload_n 0, 1) := by decide +kernel
theorem dX12_doNext_511 : decode cX12_doNext 511 = .ok (.bipush 15, 2) := by decide +kernel
theorem dX12_doNext_513 : decode cX12_doNext 513 = .ok (.iload_n 2, 1) := by decide +kernel
theorem dX12_doNext_514 : decode cX12_doNext 514 = .ok (.iconst 0, 1) := by decide +kernel
theorem dX12_doNext_515 : decode cX12_doNext 515 = .ok (.invokevirtual 801, 3) := by decide +kernel
theorem dX12_doNext_518 : decode cX12_doNext 518 = .ok (.goto 99, 3) := by decide +kernel
theorem dX12_doNext_521 : decode cX12_doNext 521 = .ok (.iload_n 1, 1) := by decide +kernel
theorem dX12_doNext_522 : decode cX12_doNext 522 = .ok (.bipush 21, 2) := by decide +kernel
theorem dX12_doNext_524 : decode cX12_doNext 524 = .ok (.if_icmp .ne 11, 3) := by decide +kernel
theorem dX12_doNext_527 : decode cX12_doNext 527 = .ok (.aload_n 0, 1) := by decide +kernel
theorem dX12_doNext_528 : decode cX12_doNext 528 = .ok (.iload_n 2, 1) := by decide +kernel
theorem dX12_doNext_529 : decode cX12_doNext 529 = .ok (.invokevirtual 914, 3) := by decide +kernel
theorem dX12_doNext_532 : decode cX12_doNext 532 = .ok (.goto 85, 3) := by decide +kernel
theorem dX12_doNext_535 : decode cX12_doNext 535 = .ok (.iload_n 1, 1) := by decide +kernel
theorem dX12_doNext_536 : decode cX12_doNext 536 = .ok (.bipush 23, 2) := by decide +kernel
theorem dX12_doNext_538 : decode cX12_doNext 538 = .ok (.if_icmp .ne 13, 3) := by decide +kernel
theorem dX12_doNext_541 : decode cX12_doNext 541 = .ok (.aload_n 0, 1) := by decide +kernel
theorem dX12_doNext_542 : decode cX12_doNext 542 = .ok (.iload_n 2, 1) := by decide +kernel
theorem dX12_doNext_543 : decode cX12_doNext 543 = .ok (.iconst 2, 1) := by decide +kernel
theorem dX12_doNext_544 : decode cX12_doNext 544 = .ok (.iload_n 3, 1) := by decide +kernel
theorem dX12_doNext_545 : decode cX12_doNext 545 = .ok (.invokevirtual 824, 3) := by decide +kernel
theorem dX12_doNext_548 : decode cX12_doNext 548 = .ok (.goto 69, 3) := by decide +kernel
theorem dX12_doNext_551 : decode cX12_doNext 551 = .ok (.aload_n 0, 1) := by decide +kernel
theorem dX12_doNext_552 : decode cX12_doNext 552 = .ok (.invokevirtual 810, 3) := by decide +kernel
theorem dX12_doNext_555 : decode cX12_doNext 555 = .ok (.istore 4, 2) := by decide +kernel
theorem dX12_doNext_557 : decode cX12_doNext 557 = .ok (.aload_n 0, 1) := by decide +kernel
theorem dX12_doNext_558 : decode cX12_doNext 558 = .ok (.getfield 280, 3) := by decide +kernel
theorem dX12_doNext_561 : decode cX12_doNext 561 = .ok (.aload_n 0, 1) := by decide +kernel
theorem dX12_doNext_562 : decode cX12_doNext 562 = .ok (.getfield 276, 3) := by decide +kernel
theorem dX12_doNext_565 : decode cX12_doNext 565 = .ok (.iconst 1, 1) := by decide +kernel
theorem dX12_doNext_566 : decode cX12_doNext 566 = .ok (.isub, 1) := by decide +kernel
theorem dX12_doNext_567 : decode cX12_doNext 567 = .ok (.iaload, 1) := by decide +kernel
theorem dX12_doNext_568 : decode cX12_doNext 568 = .ok (.bipush 8, 2) := by decide +kernel
theorem dX12_doNext_570 : decode cX12_doNext 570 = .ok (.if_icmp .eq 16, 3) := by decide +kernel
theorem dX12_doNext_573 : decode cX12_doNext 573 = .ok (.aload_n 0, 1) := by decide +kernel
theorem dX12_doNext_574 : decode cX12_doNext 574 = .ok (.dup, 1) := by decide +kernel
theorem dX12_doNext_575 : decode cX12_doNext 575 = .ok (.getfield 276, 3) := by decide +kernel
theorem dX12_doNext_578 : decode cX12_doNext 578 = .ok (.iconst 1, 1) := by decide +kernel
theorem dX12_doNext_579 : decode cX12_doNext 579 = .ok (.isub, 1) := by decide +kernel
theorem dX12_doNext_580 : decode cX12_doNext 580 = .ok (.putfield 276, 3) := by decide +kernel
theorem dX12_doNext_583 : decode cX12_doNext 583 = .ok (.goto (-26), 3) := by decide +kernel
theorem dX12_doNext_586 : decode cX12_doNext 586 = .ok (.aload_n 0, 1) := by decide +kernel
theorem dX12_doNext_587 : decode cX12_doNext 587 = .ok (.aload_n 0, 1) := by decide +kernel
theorem dX12_doNext_588 : decode cX12_doNext 588 = .ok (.getfield 286, 3) := by decide +kernel
theorem dX12_doNext_591 : decode cX12_doNext 591 = .ok (.aload_n 0, 1) := by decide +kernel
theorem dX12_doNext_592 : decode cX12_doNext 592 = .ok (.getfield 276, 3) := by decide +kernel
theorem dX12_doNext_595 : decode cX12_doNext 595 = .ok (.iconst 1, 1) := by decide +kernel
theorem dX12_doNext_596 : decode cX12_doNext 596 = .ok (.isub, 1) := by decide +kernel
theorem dX12_doNext_597 : decode cX12_doNext 597 = .ok (.iaload, 1) := by decide +kernel
theorem dX12_doNext_598 : decode cX12_doNext 598 = .ok (.putfield 289, 3) := by decide +kernel
theorem dX12_doNext_601 : decode cX12_doNext 601 = .ok (.aload_n 0, 1) := by decide +kernel
theorem dX12_doNext_602 : decode cX12_doNext 602 = .ok (.dup, 1) := by decide +kernel
theorem dX12_doNext_603 : decode cX12_doNext 603 = .ok (.getfield 276, 3) := by decide +kernel
theorem dX12_doNext_606 : decode cX12_doNext 606 = .ok (.iconst 1, 1) := by decide +kernel
theorem dX12_doNext_607 : decode cX12_doNext 607 = .ok (.isub, 1) := by decide +kernel
theorem dX12_doNext_608 : decode cX12_doNext 608 = .ok (.putfield 276, 3) := by decide +kernel
theorem dX12_doNext_611 : decode cX12_doNext 611 = .ok (.aload_n 0, 1) := by decide +kernel
theorem dX12_doNext_612 : decode cX12_doNext 612 = .ok (.iload 4, 2) := by decide +kernel
theorem dX12_doNext_614 : decode cX12_doNext 614 = .ok (.invokevirtual 795, 3) := by decide +kernel
theorem dX12_doNext_617 : decode cX12_doNext 617 = .ok (.return_, 1) := by decide +kernel
def wr_doNext_557B (Q : zS → Prop) (k557 : zS → Int → Prop) (s0 : zS) (x4 : Int) : Prop :=
  (0 ≤ ((zv s0 87) - 1)) ∧ (((zv s0 87) - 1) < 620000) ∧ (((za s0 88 (Int.toNat ((zv s0 87) - 1))) = 8 → (0 ≤ ((zv s0 87) - 1)) ∧ (((zv s0 87) - 1) < 620000) ∧ wr_push (zpv (zpv s0 91 (za s0 90 (Int.toNat ((zv s0 87) - 1)))) 87 ((zv s0 87) - 1)) x4 (fun s16 => Q s16)) ∧ (¬ (za s0 88 (Int.toNat ((zv s0 87) - 1))) = 8 → k557 (zpv s0 87 ((zv s0 87) - 1)) x4))
def wr_doNext_557 (Q : zS → Prop)  : Nat → zS → Int → Prop
  | 0 => fun _ _ => False
  | m + 1 => fun s0 x4 => wr_doNext_557B Q  (wr_doNext_557 Q  m) s0 x4
def wr_doNext_299 (Q : zS → Prop)  (s0 : zS) (x2 : Int) (y0 : Int) : Prop :=
  (0 ≤ x2) ∧ (x2 < 26000) ∧ (0 ≤ (za s0 27 (Int.toNat x2))) ∧ ((za s0 27 (Int.toNat x2)) < 26000) ∧ (0 ≤ x2) ∧ (x2 < 26000) ∧ ((¬ (za s0 25 (Int.toNat x2)) = 24 → (0 ≤ x2) ∧ (x2 < 26000) ∧ ((¬ (za s0 25 (Int.toNat x2)) = 22 → ((¬ y0 = 0 → Q s0) ∧ (y0 = 0 → wr_todoTask s0 10 (za s0 28 (Int.toNat (za s0 27 (Int.toNat x2)))) 0 (fun s25 => Q s25)))) ∧ ((za s0 25 (Int.toNat x2)) = 22 → ((¬ y0 = 1 → Q s0) ∧ (y0 = 1 → wr_todoTask s0 10 (za s0 28 (Int.toNat (za s0 27 (Int.toNat x2)))) 0 (fun s35 => Q s35)))))) ∧ ((za s0 25 (Int.toNat x2)) = 24 → ((y0 = 0 → (0 ≤ (za s0 28 (Int.toNat (za s0 27 (Int.toNat x2))))) ∧ ((za s0 28 (Int.toNat (za s0 27 (Int.toNat x2)))) < 26000) ∧ wr_todoTask s0 10 (za s0 28 (Int.toNat (za s0 28 (Int.toNat (za s0 27 (Int.toNat x2)))))) 0 (fun s48 => Q s48)) ∧ (¬ y0 = 0 → wr_todoTask s0 10 (za s0 28 (Int.toNat (za s0 27 (Int.toNat x2)))) 0 (fun s55 => Q s55)))))
def wr_doNext (s0 : zS)  (Q : zS → Prop) : Prop :=
  (zR ((zv s0 87) - 1)) ∧ (0 ≤ ((zv s0 87) - 1)) ∧ (((zv s0 87) - 1) < 620000) ∧ (0 ≤ ((zv s0 87) - 1)) ∧ (((zv s0 87) - 1) < 620000) ∧ (0 ≤ ((zv s0 87) - 1)) ∧ (((zv s0 87) - 1) < 620000) ∧ ((¬ (za s0 88 (Int.toNat ((zv s0 87) - 1))) = 1 → ((¬ (za s0 88 (Int.toNat ((zv s0 87) - 1))) = 2 → ((¬ (za s0 88 (Int.toNat ((zv s0 87) - 1))) = 3 → ((¬ (za s0 88 (Int.toNat ((zv s0 87) - 1))) = 4 → ((¬ (za s0 88 (Int.toNat ((zv s0 87) - 1))) = 9 → ((¬ (za s0 88 (Int.toNat ((zv s0 87) - 1))) = 5 → ((¬ (za s0 88 (Int.toNat ((zv s0 87) - 1))) = 6 → ((¬ (za s0 88 (Int.toNat ((zv s0 87) - 1))) = 7 → ((¬ (za s0 88 (Int.toNat ((zv s0 87) - 1))) = 8 → ((¬ (za s0 88 (Int.toNat ((zv s0 87) - 1))) = 10 → ((¬ (za s0 88 (Int.toNat ((zv s0 87) - 1))) = 11 → ((¬ (za s0 88 (Int.toNat ((zv s0 87) - 1))) = 12 → ((¬ (za s0 88 (Int.toNat ((zv s0 87) - 1))) = 13 → ((¬ (za s0 88 (Int.toNat ((zv s0 87) - 1))) = 14 → ((¬ (za s0 88 (Int.toNat ((zv s0 87) - 1))) = 15 → ((¬ (za s0 88 (Int.toNat ((zv s0 87) - 1))) = 16 → ((¬ (za s0 88 (Int.toNat ((zv s0 87) - 1))) = 17 → ((¬ (za s0 88 (Int.toNat ((zv s0 87) - 1))) = 18 → ((¬ (za s0 88 (Int.toNat ((zv s0 87) - 1))) = 19 → ((¬ (za s0 88 (Int.toNat ((zv s0 87) - 1))) = 20 → ((¬ (za s0 88 (Int.toNat ((zv s0 87) - 1))) = 21 → ((¬ (za s0 88 (Int.toNat ((zv s0 87) - 1))) = 23 → wr_pop (zpv s0 87 ((zv s0 87) - 1))  (fun r61 s62 => ∃ n, wr_doNext_557 Q  n s62 r61)) ∧ ((za s0 88 (Int.toNat ((zv s0 87) - 1))) = 23 → wr_libraryCall (zpv s0 87 ((zv s0 87) - 1)) (za s0 89 (Int.toNat ((zv s0 87) - 1))) 2 (za s0 90 (Int.toNat ((zv s0 87) - 1))) (fun s71 => Q s71)))) ∧ ((za s0 88 (Int.toNat ((zv s0 87) - 1))) = 21 → wr_choose (zpv s0 87 ((zv s0 87) - 1)) (za s0 89 (Int.toNat ((zv s0 87) - 1))) (fun s78 => Q s78)))) ∧ ((za s0 88 (Int.toNat ((zv s0 87) - 1))) = 20 → wr_pop (zpv s0 87 ((zv s0 87) - 1))  (fun r84 s85 => (0 ≤ (za s0 89 (Int.toNat ((zv s0 87) - 1)))) ∧ ((za s0 89 (Int.toNat ((zv s0 87) - 1))) < 26000) ∧ wr_pop s85  (fun r94 s95 => (0 ≤ ((zv s85 96) + (za s85 31 (Int.toNat (za s0 89 (Int.toNat ((zv s0 87) - 1))))))) ∧ (((zv s85 96) + (za s85 31 (Int.toNat (za s0 89 (Int.toNat ((zv s0 87) - 1)))))) < 65536) ∧ (0 ≤ (za s0 89 (Int.toNat ((zv s0 87) - 1)))) ∧ ((za s0 89 (Int.toNat ((zv s0 87) - 1))) < 26000) ∧ (0 ≤ (((zv s95 96) + (za s95 31 (Int.toNat (za s0 89 (Int.toNat ((zv s0 87) - 1)))))) + 1)) ∧ ((((zv s95 96) + (za s95 31 (Int.toNat (za s0 89 (Int.toNat ((zv s0 87) - 1)))))) + 1) < 65536) ∧ wr_todoTask (zpa (zpa s95 98 (Int.toNat ((zv s85 96) + (za s85 31 (Int.toNat (za s0 89 (Int.toNat ((zv s0 87) - 1))))))) r94) 98 (Int.toNat (((zv s95 96) + (za s95 31 (Int.toNat (za s0 89 (Int.toNat ((zv s0 87) - 1)))))) + 1)) r84) 15 (za s0 89 (Int.toNat ((zv s0 87) - 1))) 0 (fun s117 => Q s117)))))) ∧ ((za s0 88 (Int.toNat ((zv s0 87) - 1))) = 19 → wr_variables (zpv s0 87 ((zv s0 87) - 1)) (za s0 89 (Int.toNat ((zv s0 87) - 1))) (fun s124 => Q s124)))) ∧ ((za s0 88 (Int.toNat ((zv s0 87) - 1))) = 18 → wr_returns (zpv s0 87 ((zv s0 87) - 1)) (za s0 89 (Int.toNat ((zv s0 87) - 1))) (za s0 90 (Int.toNat ((zv s0 87) - 1))) (fun s131 => Q s131)))) ∧ ((za s0 88 (Int.toNat ((zv s0 87) - 1))) = 17 → wr_section (zpv s0 87 ((zv s0 87) - 1)) (za s0 89 (Int.toNat ((zv s0 87) - 1))) (za s0 90 (Int.toNat ((zv s0 87) - 1))) (fun s138 => Q s138)))) ∧ ((za s0 88 (Int.toNat ((zv s0 87) - 1))) = 16 → wr_asked (zpv s0 87 ((zv s0 87) - 1)) (za s0 89 (Int.toNat ((zv s0 87) - 1))) (fun s145 => Q s145)))) ∧ ((za s0 88 (Int.toNat ((zv s0 87) - 1))) = 15 → wr_loop (zpv s0 87 ((zv s0 87) - 1)) (za s0 89 (Int.toNat ((zv s0 87) - 1))) (za s0 90 (Int.toNat ((zv s0 87) - 1))) (fun s152 => Q s152)))) ∧ ((za s0 88 (Int.toNat ((zv s0 87) - 1))) = 14 → wr_pop (zpv s0 87 ((zv s0 87) - 1))  (fun r158 s159 => ((r158 = 0 → wr_doNext_299 Q  s159 (za s0 89 (Int.toNat ((zv s0 87) - 1))) 0) ∧ (¬ r158 = 0 → wr_doNext_299 Q  s159 (za s0 89 (Int.toNat ((zv s0 87) - 1))) 1)))))) ∧ ((za s0 88 (Int.toNat ((zv s0 87) - 1))) = 13 → wr_pop (zpv s0 87 ((zv s0 87) - 1))  (fun r168 s169 => Q s169)))) ∧ ((za s0 88 (Int.toNat ((zv s0 87) - 1))) = 12 → wr_stores (zpv s0 87 ((zv s0 87) - 1)) (za s0 89 (Int.toNat ((zv s0 87) - 1))) (fun s176 => Q s176)))) ∧ ((za s0 88 (Int.toNat ((zv s0 87) - 1))) = 11 → wr_assign (zpv s0 87 ((zv s0 87) - 1)) (za s0 89 (Int.toNat ((zv s0 87) - 1))) (za s0 90 (Int.toNat ((zv s0 87) - 1))) (fun s183 => Q s183)))) ∧ ((za s0 88 (Int.toNat ((zv s0 87) - 1))) = 10 → wr_perform (zpv s0 87 ((zv s0 87) - 1)) (za s0 89 (Int.toNat ((zv s0 87) - 1))) (fun s190 => Q s190)))) ∧ ((za s0 88 (Int.toNat ((zv s0 87) - 1))) = 8 → wr_push (zpv s0 87 ((zv s0 87) - 1)) 0 (fun s197 => Q s197)))) ∧ ((za s0 88 (Int.toNat ((zv s0 87) - 1))) = 7 → wr_call (zpv s0 87 ((zv s0 87) - 1)) (za s0 89 (Int.toNat ((zv s0 87) - 1))) (za s0 90 (Int.toNat ((zv s0 87) - 1))) (fun s204 => Q s204)))) ∧ ((za s0 88 (Int.toNat ((zv s0 87) - 1))) = 6 → wr_rel (zpv s0 87 ((zv s0 87) - 1)) (za s0 89 (Int.toNat ((zv s0 87) - 1))) (za s0 90 (Int.toNat ((zv s0 87) - 1))) (fun s211 => Q s211)))) ∧ ((za s0 88 (Int.toNat ((zv s0 87) - 1))) = 5 → (0 ≤ (za s0 89 (Int.toNat ((zv s0 87) - 1)))) ∧ ((za s0 89 (Int.toNat ((zv s0 87) - 1))) < 26000) ∧ (0 ≤ (za s0 27 (Int.toNat (za s0 89 (Int.toNat ((zv s0 87) - 1)))))) ∧ ((za s0 27 (Int.toNat (za s0 89 (Int.toNat ((zv s0 87) - 1))))) < 26000) ∧ wr_pop (zpv s0 87 ((zv s0 87) - 1))  (fun r225 s226 => ((r225 = 0 → (0 ≤ (za s0 28 (Int.toNat (za s0 27 (Int.toNat (za s0 89 (Int.toNat ((zv s0 87) - 1)))))))) ∧ ((za s0 28 (Int.toNat (za s0 27 (Int.toNat (za s0 89 (Int.toNat ((zv s0 87) - 1))))))) < 26000) ∧ wr_todoTask s226 1 (za s226 28 (Int.toNat (za s0 28 (Int.toNat (za s0 27 (Int.toNat (za s0 89 (Int.toNat ((zv s0 87) - 1))))))))) 0 (fun s238 => Q s238)) ∧ (¬ r225 = 0 → wr_todoTask s226 1 (za s0 28 (Int.toNat (za s0 27 (Int.toNat (za s0 89 (Int.toNat ((zv s0 87) - 1))))))) 0 (fun s245 => Q s245))))))) ∧ ((za s0 88 (Int.toNat ((zv s0 87) - 1))) = 9 → wr_pop (zpv s0 87 ((zv s0 87) - 1))  (fun r251 s252 => wr_pop s252  (fun r257 s258 => ∀ z263 : Int, z263 = zw (r251 + r257) → zR z263 → wr_push s258 z263 (fun s268 => Q s268)))))) ∧ ((za s0 88 (Int.toNat ((zv s0 87) - 1))) = 4 → wr_pop (zpv s0 87 ((zv s0 87) - 1))  (fun r274 s275 => wr_read s275 r274 (fun r280 s281 => wr_push s281 r280 (fun s287 => Q s287)))))) ∧ ((za s0 88 (Int.toNat ((zv s0 87) - 1))) = 3 → (0 ≤ (za s0 89 (Int.toNat ((zv s0 87) - 1)))) ∧ ((za s0 89 (Int.toNat ((zv s0 87) - 1))) < 26000) ∧ wr_pop (zpv s0 87 ((zv s0 87) - 1))  (fun r297 s298 => wr_signed s298 (za s0 29 (Int.toNat (za s0 89 (Int.toNat ((zv s0 87) - 1))))) r297 (fun r303 s304 => wr_push s304 r303 (fun s310 => Q s310)))))) ∧ ((za s0 88 (Int.toNat ((zv s0 87) - 1))) = 2 → wr_bin (zpv s0 87 ((zv s0 87) - 1)) (za s0 89 (Int.toNat ((zv s0 87) - 1))) (fun s317 => Q s317)))) ∧ ((za s0 88 (Int.toNat ((zv s0 87) - 1))) = 1 → wr_evaluate (zpv s0 87 ((zv s0 87) - 1)) (za s0 89 (Int.toNat ((zv s0 87) - 1))) (fun s324 => Q s324)))
set_option maxHeartbeats 4000000 in
set_option maxRecDepth 100000 in
theorem rb_doNext_557 {X : gX} {d : gD} {b t : Nat} {T : Nat → Nat} {F0 : gM} (hC : gC RX12 cX12_doNext 6 none "doNext" (gR 6 0 0) d b X) {Q : zS → Prop} {k557 : zS → Int → Prop} (hk557 : ∀ (F : gM) (s0 : zS) (x4 : Int), zR x4 → zZ d t T F0 F s0 → k557 s0 x4 → gG X d b (zQv X d b t T F0 Q) F 0 0 557 [some (.ref t), none, none, none, some (.int (zI x4)), none] []) {F : gM} {s0 : zS} {x4 : Int} (Rx4 : zR x4) (hZ : zZ d t T F0 F s0) (hw : wr_doNext_557B Q k557 s0 x4) : gG X d b (zQv X d b t T F0 Q) F 0 0 557 [some (.ref t), none, none, none, some (.int (zI x4)), none] [] := by
  unfold wr_doNext_557B at hw
  refine g_aload_n hC dX12_doNext_557 rfl ?_
  refine zr_geta hC hZ fl_X12_280 zb_88 (by decide) dX12_doNext_558 ?_
  refine g_aload_n hC dX12_doNext_561 rfl ?_
  refine zr_get (e := (zv s0 87)) hC hZ fl_X12_276 zb_87 (by decide) rfl dX12_doNext_562 ?_
  refine g_iconst (v := zI 1) hC dX12_doNext_565 rfl ?_
  refine zr_isub hC dX12_doNext_566 ?_
  obtain ⟨o1, h2⟩ := hw
  obtain ⟨o3, h4⟩ := h2
  refine zr_iald (v := (za s0 88 (Int.toNat ((zv s0 87) - 1)))) hC hZ zk_88 zb_88 zn_88 (by decide) o1 o3 rfl dX12_doNext_567 ?_
  refine g_bipush (v := zI 8) hC dX12_doNext_568 rfl ?_
  refine zr_icmp_eq (tgt := 586) hC (hZ.ra 88 _) (by decide) dX12_doNext_570 (by decide) (fun c5 => ?_) (fun c5 => ?_)
  · have h6 := h4.1 c5
    refine g_aload_n hC dX12_doNext_586 rfl ?_
    refine g_aload_n hC dX12_doNext_587 rfl ?_
    refine zr_geta hC hZ fl_X12_286 zb_90 (by decide) dX12_doNext_588 ?_
    refine g_aload_n hC dX12_doNext_591 rfl ?_
    refine zr_get (e := (zv s0 87)) hC hZ fl_X12_276 zb_87 (by decide) rfl dX12_doNext_592 ?_
    refine g_iconst (v := zI 1) hC dX12_doNext_595 rfl ?_
    refine zr_isub hC dX12_doNext_596 ?_
    obtain ⟨o7, h8⟩ := h6
    obtain ⟨o9, h10⟩ := h8
    refine zr_iald (v := (za s0 90 (Int.toNat ((zv s0 87) - 1)))) hC hZ zk_90 zb_90 zn_90 (by decide) o7 o9 rfl dX12_doNext_597 ?_
    refine zr_put hC hZ fl_X12_289 zb_91 (by decide) (hZ.ra 90 _) dX12_doNext_598 (fun F11 hZ12 => ?_)
    refine g_aload_n hC dX12_doNext_601 rfl ?_
    refine g_dup hC dX12_doNext_602 rfl ?_
    refine zr_get (e := (zv s0 87)) hC hZ12 fl_X12_276 zb_87 (by decide) rfl dX12_doNext_603 ?_
    refine g_iconst (v := zI 1) hC dX12_doNext_606 rfl ?_
    refine zr_isub hC dX12_doNext_607 ?_
    refine zr_put hC hZ12 fl_X12_276 zb_87 (by decide) ⟨by omega, by omega⟩ dX12_doNext_608 (fun F13 hZ14 => ?_)
    refine g_aload_n hC dX12_doNext_611 rfl ?_
    refine g_iload hC dX12_doNext_612 rfl ?_
    refine zr_callVv (As := [.int (zI x4)]) hC hZ14 rfl (rm_push X.la d b Rx4 hZ14.rf h10) cl_X12_795 rfl rfl (Nat.le_of_ble_eq_true rfl) ⟨Nat.le_of_ble_eq_true rfl, Nat.le_of_ble_eq_true rfl⟩ dX12_doNext_614 (fun s16 F17 hZ19 h20 => ?_)
    exact zr_vret hC hZ19 h20 dX12_doNext_617
  · have h21 := h4.2 c5
    refine g_aload_n hC dX12_doNext_573 rfl ?_
    refine g_dup hC dX12_doNext_574 rfl ?_
    refine zr_get (e := (zv s0 87)) hC hZ fl_X12_276 zb_87 (by decide) rfl dX12_doNext_575 ?_
    refine g_iconst (v := zI 1) hC dX12_doNext_578 rfl ?_
    refine zr_isub hC dX12_doNext_579 ?_
    refine zr_put hC hZ fl_X12_276 zb_87 (by decide) ⟨by omega, by omega⟩ dX12_doNext_580 (fun F22 hZ23 => ?_)
    refine g_goto (tgt := 557) hC dX12_doNext_583 (by decide) ?_
    exact hk557 _ _ _ Rx4 hZ23 h21
theorem rl_doNext_557 {X : gX} {d : gD} {b t : Nat} {T : Nat → Nat} {F0 : gM} (hC : gC RX12 cX12_doNext 6 none "doNext" (gR 6 0 0) d b X) {Q : zS → Prop}   : ∀ (m : Nat) (F : gM) (s0 : zS) (x4 : Int), zR x4 → zZ d t T F0 F s0 → wr_doNext_557 Q  m s0 x4 → gG X d b (zQv X d b t T F0 Q) F 0 0 557 [some (.ref t), none, none, none, some (.int (zI x4)), none] [] := by
  intro m
  induction m with
  | zero => intro F s0 x4 Rx4 hZ hw; exact False.elim hw
  | succ m ih => intro F s0 x4 Rx4 hZ hw; exact rb_doNext_557 hC  ih Rx4 hZ hw
set_option maxHeartbeats 4000000 in
set_option maxRecDepth 100000 in
theorem rj_doNext_299 {X : gX} {d : gD} {b t : Nat} {T : Nat → Nat} {F0 : gM} (hC : gC RX12 cX12_doNext 6 none "doNext" (gR 6 0 0) d b X) {Q : zS → Prop}   {F : gM} {s0 : zS} {x2 : Int} {y0 : Int} (Rx2 : zR x2) (Ry0 : zR y0) (hZ : zZ d t T F0 F s0) (hw : wr_doNext_299 Q  s0 x2 y0) : gG X d b (zQv X d b t T F0 Q) F 0 0 299 [some (.ref t), none, some (.int (zI x2)), none, none, none] [.int (zI y0)] := by
  unfold wr_doNext_299 at hw
  refine g_istore (lv' := [some (.ref t), none, some (.int (zI x2)), none, some (.int (zI y0)), none]) hC dX12_doNext_299 (Nat.le_of_ble_eq_true rfl) rfl rfl ?_
  refine g_aload_n hC dX12_doNext_301 rfl ?_
  refine zr_geta hC hZ fl_X12_96 zb_28 (by decide) dX12_doNext_302 ?_
  refine g_aload_n hC dX12_doNext_305 rfl ?_
  refine zr_geta hC hZ fl_X12_93 zb_27 (by decide) dX12_doNext_306 ?_
  refine g_iload_n hC dX12_doNext_309 rfl ?_
  obtain ⟨o1, h2⟩ := hw
  obtain ⟨o3, h4⟩ := h2
  refine zr_iald (v := (za s0 27 (Int.toNat x2))) hC hZ zk_27 zb_27 zn_27 (by decide) o1 o3 rfl dX12_doNext_310 ?_
  obtain ⟨o5, h6⟩ := h4
  obtain ⟨o7, h8⟩ := h6
  refine zr_iald (v := (za s0 28 (Int.toNat (za s0 27 (Int.toNat x2))))) hC hZ zk_28 zb_28 zn_28 (by decide) o5 o7 rfl dX12_doNext_311 ?_
  refine g_istore (lv' := [some (.ref t), none, some (.int (zI x2)), none, some (.int (zI y0)), some (.int (zI (za s0 28 (Int.toNat (za s0 27 (Int.toNat x2))))))]) hC dX12_doNext_312 (Nat.le_of_ble_eq_true rfl) rfl rfl ?_
  refine g_aload_n hC dX12_doNext_314 rfl ?_
  refine zr_geta hC hZ fl_X12_87 zb_25 (by decide) dX12_doNext_315 ?_
  refine g_iload_n hC dX12_doNext_318 rfl ?_
  obtain ⟨o9, h10⟩ := h8
  obtain ⟨o11, h12⟩ := h10
  refine zr_bald (v := (za s0 25 (Int.toNat x2))) hC hZ zk_25 zb_25 zn_25 (by decide) o9 o11 rfl dX12_doNext_319 ?_
  refine g_bipush (v := zI 24) hC dX12_doNext_320 rfl ?_
  refine zr_icmp_ne (tgt := 352) hC (hZ.ra 25 _) (by decide) dX12_doNext_322 (by decide) (fun c13 => ?_) (fun c13 => ?_)
  · have h14 := h12.1 c13
    refine g_iload hC dX12_doNext_352 rfl ?_
    refine g_aload_n hC dX12_doNext_354 rfl ?_
    refine zr_geta hC hZ fl_X12_87 zb_25 (by decide) dX12_doNext_355 ?_
    refine g_iload_n hC dX12_doNext_358 rfl ?_
    obtain ⟨o15, h16⟩ := h14
    obtain ⟨o17, h18⟩ := h16
    refine zr_bald (v := (za s0 25 (Int.toNat x2))) hC hZ zk_25 zb_25 zn_25 (by decide) o15 o17 rfl dX12_doNext_359 ?_
    refine g_bipush (v := zI 22) hC dX12_doNext_360 rfl ?_
    refine zr_icmp_ne (tgt := 369) hC (hZ.ra 25 _) (by decide) dX12_doNext_362 (by decide) (fun c19 => ?_) (fun c19 => ?_)
    · have h20 := h18.1 c19
      refine g_iconst (v := zI 0) hC dX12_doNext_369 rfl ?_
      refine zr_icmp_ne (tgt := 382) hC Ry0 (by decide) dX12_doNext_370 (by decide) (fun c21 => ?_) (fun c21 => ?_)
      · have h22 := h20.1 c21
        refine g_goto (tgt := 617) hC dX12_doNext_382 (by decide) ?_
        exact zr_vret hC hZ h22 dX12_doNext_617
      · have h23 := h20.2 c21
        refine g_aload_n hC dX12_doNext_373 rfl ?_
        refine g_bipush (v := zI 10) hC dX12_doNext_374 rfl ?_
        refine g_iload hC dX12_doNext_376 rfl ?_
        refine g_iconst (v := zI 0) hC dX12_doNext_378 rfl ?_
        refine zr_callVv (As := [.int (zI 10), .int (zI (za s0 28 (Int.toNat (za s0 27 (Int.toNat x2))))), .int (zI 0)]) hC hZ rfl (rm_todoTask X.la d b (by decide) (hZ.ra 28 _) (by decide) hZ.rf h23) cl_X12_801 rfl rfl (Nat.le_of_ble_eq_true rfl) ⟨Nat.le_of_ble_eq_true rfl, Nat.le_of_ble_eq_true rfl⟩ dX12_doNext_379 (fun s25 F26 hZ28 h29 => ?_)
        refine g_goto (tgt := 617) hC dX12_doNext_382 (by decide) ?_
        exact zr_vret hC hZ28 h29 dX12_doNext_617
    · have h30 := h18.2 c19
      refine g_iconst (v := zI 1) hC dX12_doNext_365 rfl ?_
      refine g_goto (tgt := 370) hC dX12_doNext_366 (by decide) ?_
      refine zr_icmp_ne (tgt := 382) hC Ry0 (by decide) dX12_doNext_370 (by decide) (fun c31 => ?_) (fun c31 => ?_)
      · have h32 := h30.1 c31
        refine g_goto (tgt := 617) hC dX12_doNext_382 (by decide) ?_
        exact zr_vret hC hZ h32 dX12_doNext_617
      · have h33 := h30.2 c31
        refine g_aload_n hC dX12_doNext_373 rfl ?_
        refine g_bipush (v := zI 10) hC dX12_doNext_374 rfl ?_
        refine g_iload hC dX12_doNext_376 rfl ?_
        refine g_iconst (v := zI 0) hC dX12_doNext_378 rfl ?_
        refine zr_callVv (As := [.int (zI 10), .int (zI (za s0 28 (Int.toNat (za s0 27 (Int.toNat x2))))), .int (zI 0)]) hC hZ rfl (rm_todoTask X.la d b (by decide) (hZ.ra 28 _) (by decide) hZ.rf h33) cl_X12_801 rfl rfl (Nat.le_of_ble_eq_true rfl) ⟨Nat.le_of_ble_eq_true rfl, Nat.le_of_ble_eq_true rfl⟩ dX12_doNext_379 (fun s35 F36 hZ38 h39 => ?_)
        refine g_goto (tgt := 617) hC dX12_doNext_382 (by decide) ?_
        exact zr_vret hC hZ38 h39 dX12_doNext_617
  · have h40 := h12.2 c13
    refine g_aload_n hC dX12_doNext_325 rfl ?_
    refine g_bipush (v := zI 10) hC dX12_doNext_326 rfl ?_
    refine g_iload hC dX12_doNext_328 rfl ?_
    refine zr_if_eq (tgt := 338) hC Ry0 dX12_doNext_330 (by decide) (fun c41 => ?_) (fun c41 => ?_)
    · have h42 := h40.1 c41
      refine g_aload_n hC dX12_doNext_338 rfl ?_
      refine zr_geta hC hZ fl_X12_96 zb_28 (by decide) dX12_doNext_339 ?_
      refine g_iload hC dX12_doNext_342 rfl ?_
      obtain ⟨o43, h44⟩ := h42
      obtain ⟨o45, h46⟩ := h44
      refine zr_iald (v := (za s0 28 (Int.toNat (za s0 28 (Int.toNat (za s0 27 (Int.toNat x2))))))) hC hZ zk_28 zb_28 zn_28 (by decide) o43 o45 rfl dX12_doNext_344 ?_
      refine g_iconst (v := zI 0) hC dX12_doNext_345 rfl ?_
      refine zr_callVv (As := [.int (zI 10), .int (zI (za s0 28 (Int.toNat (za s0 28 (Int.toNat (za s0 27 (Int.toNat x2))))))), .int (zI 0)]) hC hZ rfl (rm_todoTask X.la d b (by decide) (hZ.ra 28 _) (by decide) hZ.rf h46) cl_X12_801 rfl rfl (Nat.le_of_ble_eq_true rfl) ⟨Nat.le_of_ble_eq_true rfl, Nat.le_of_ble_eq_true rfl⟩ dX12_doNext_346 (fun s48 F49 hZ51 h52 => ?_)
      refine g_goto (tgt := 382) hC dX12_doNext_349 (by decide) ?_
      refine g_goto (tgt := 617) hC dX12_doNext_382 (by decide) ?_
      exact zr_vret hC hZ51 h52 dX12_doNext_617
    · have h53 := h40.2 c41
      refine g_iload hC dX12_doNext_333 rfl ?_
      refine g_goto (tgt := 345) hC dX12_doNext_335 (by decide) ?_
      refine g_iconst (v := zI 0) hC dX12_doNext_345 rfl ?_
      refine zr_callVv (As := [.int (zI 10), .int (zI (za s0 28 (Int.toNat (za s0 27 (Int.toNat x2))))), .int (zI 0)]) hC hZ rfl (rm_todoTask X.la d b (by decide) (hZ.ra 28 _) (by decide) hZ.rf h53) cl_X12_801 rfl rfl (Nat.le_of_ble_eq_true rfl) ⟨Nat.le_of_ble_eq_true rfl, Nat.le_of_ble_eq_true rfl⟩ dX12_doNext_346 (fun s55 F56 hZ58 h59 => ?_)
      refine g_goto (tgt := 382) hC dX12_doNext_349 (by decide) ?_
      refine g_goto (tgt := 617) hC dX12_doNext_382 (by decide) ?_
      exact zr_vret hC hZ58 h59 dX12_doNext_617
set_option maxHeartbeats 4000000 in
set_option maxRecDepth 100000 in
theorem rm_doNext (l : Launch) (d : gD) (b : Nat) {t : Nat} {T : Nat → Nat} {F : gM} {s0 : zS}   {Q : zS → Prop} (hZ : zZ d t T F F s0) (hw : wr_doNext s0  Q) : gMv l d b yX12_doNext cX12_doNext 6 6 0 0 F [.ref t] (zPv d t T F Q) := by
  refine gM_of2 rfl (nL := 6) (Nat.le_of_ble_eq_true rfl) ?_
  intro X hX hC; subst hX
  show gG X d b (zQv X d b t T F Q) F 0 0 0 [some (.ref t), none, none, none, none, none] []
  unfold wr_doNext at hw
  refine g_aload_n hC dX12_doNext_0 rfl ?_
  refine g_dup hC dX12_doNext_1 rfl ?_
  refine zr_get (e := (zv s0 87)) hC hZ fl_X12_276 zb_87 (by decide) rfl dX12_doNext_2 ?_
  refine g_iconst (v := zI 1) hC dX12_doNext_5 rfl ?_
  refine zr_isub hC dX12_doNext_6 ?_
  obtain ⟨o1, h2⟩ := hw
  refine zr_put hC hZ fl_X12_276 zb_87 (by decide) o1 dX12_doNext_7 (fun F3 hZ4 => ?_)
  refine g_aload_n hC dX12_doNext_10 rfl ?_
  refine zr_geta hC hZ4 fl_X12_280 zb_88 (by decide) dX12_doNext_11 ?_
  refine g_aload_n hC dX12_doNext_14 rfl ?_
  refine zr_get (e := ((zv s0 87) - 1)) hC hZ4 fl_X12_276 zb_87 (by decide) rfl dX12_doNext_15 ?_
  obtain ⟨o5, h6⟩ := h2
  obtain ⟨o7, h8⟩ := h6
  refine zr_iald (v := (za s0 88 (Int.toNat ((zv s0 87) - 1)))) hC hZ4 zk_88 zb_88 zn_88 (by decide) o5 o7 rfl dX12_doNext_18 ?_
  refine g_istore_n (lv' := [some (.ref t), some (.int (zI (za s0 88 (Int.toNat ((zv s0 87) - 1))))), none, none, none, none]) hC dX12_doNext_19 (Nat.le_of_ble_eq_true rfl) rfl rfl ?_
  refine g_aload_n hC dX12_doNext_20 rfl ?_
  refine zr_geta hC hZ4 fl_X12_283 zb_89 (by decide) dX12_doNext_21 ?_
  refine g_aload_n hC dX12_doNext_24 rfl ?_
  refine zr_get (e := ((zv s0 87) - 1)) hC hZ4 fl_X12_276 zb_87 (by decide) rfl dX12_doNext_25 ?_
  obtain ⟨o9, h10⟩ := h8
  obtain ⟨o11, h12⟩ := h10
  refine zr_iald (v := (za s0 89 (Int.toNat ((zv s0 87) - 1)))) hC hZ4 zk_89 zb_89 zn_89 (by decide) o9 o11 rfl dX12_doNext_28 ?_
  refine g_istore_n (lv' := [some (.ref t), some (.int (zI (za s0 88 (Int.toNat ((zv s0 87) - 1))))), some (.int (zI (za s0 89 (Int.toNat ((zv s0 87) - 1))))), none, none, none]) hC dX12_doNext_29 (Nat.le_of_ble_eq_true rfl) rfl rfl ?_
  refine g_aload_n hC dX12_doNext_30 rfl ?_
  refine zr_geta hC hZ4 fl_X12_286 zb_90 (by decide) dX12_doNext_31 ?_
  refine g_aload_n hC dX12_doNext_34 rfl ?_
  refine zr_get (e := ((zv s0 87) - 1)) hC hZ4 fl_X12_276 zb_87 (by decide) rfl dX12_doNext_35 ?_
  obtain ⟨o13, h14⟩ := h12
  obtain ⟨o15, h16⟩ := h14
  refine zr_iald (v := (za s0 90 (Int.toNat ((zv s0 87) - 1)))) hC hZ4 zk_90 zb_90 zn_90 (by decide) o13 o15 rfl dX12_doNext_38 ?_
  refine g_istore_n (lv' := [some (.ref t), some (.int (zI (za s0 88 (Int.toNat ((zv s0 87) - 1))))), some (.int (zI (za s0 89 (Int.toNat ((zv s0 87) - 1))))), some (.int (zI (za s0 90 (Int.toNat ((zv s0 87) - 1))))), none, none]) hC dX12_doNext_39 (Nat.le_of_ble_eq_true rfl) rfl rfl ?_
  refine g_iload_n hC dX12_doNext_40 rfl ?_
  refine g_iconst (v := zI 1) hC dX12_doNext_41 rfl ?_
  refine zr_icmp_ne (tgt := 53) hC (hZ.ra 88 _) (by decide) dX12_doNext_42 (by decide) (fun c17 => ?_) (fun c17 => ?_)
  · have h18 := h16.1 c17
    refine g_iload_n hC dX12_doNext_53 rfl ?_
    refine g_iconst (v := zI 2) hC dX12_doNext_54 rfl ?_
    refine zr_icmp_ne (tgt := 66) hC (hZ.ra 88 _) (by decide) dX12_doNext_55 (by decide) (fun c19 => ?_) (fun c19 => ?_)
    · have h20 := h18.1 c19
      refine g_iload_n hC dX12_doNext_66 rfl ?_
      refine g_iconst (v := zI 3) hC dX12_doNext_67 rfl ?_
      refine zr_icmp_ne (tgt := 91) hC (hZ.ra 88 _) (by decide) dX12_doNext_68 (by decide) (fun c21 => ?_) (fun c21 => ?_)
      · have h22 := h20.1 c21
        refine g_iload_n hC dX12_doNext_91 rfl ?_
        refine g_iconst (v := zI 4) hC dX12_doNext_92 rfl ?_
        refine zr_icmp_ne (tgt := 112) hC (hZ.ra 88 _) (by decide) dX12_doNext_93 (by decide) (fun c23 => ?_) (fun c23 => ?_)
        · have h24 := h22.1 c23
          refine g_iload_n hC dX12_doNext_112 rfl ?_
          refine g_bipush (v := zI 9) hC dX12_doNext_113 rfl ?_
          refine zr_icmp_ne (tgt := 134) hC (hZ.ra 88 _) (by decide) dX12_doNext_115 (by decide) (fun c25 => ?_) (fun c25 => ?_)
          · have h26 := h24.1 c25
            refine g_iload_n hC dX12_doNext_134 rfl ?_
            refine g_iconst (v := zI 5) hC dX12_doNext_135 rfl ?_
            refine zr_icmp_ne (tgt := 180) hC (hZ.ra 88 _) (by decide) dX12_doNext_136 (by decide) (fun c27 => ?_) (fun c27 => ?_)
            · have h28 := h26.1 c27
              refine g_iload_n hC dX12_doNext_180 rfl ?_
              refine g_bipush (v := zI 6) hC dX12_doNext_181 rfl ?_
              refine zr_icmp_ne (tgt := 195) hC (hZ.ra 88 _) (by decide) dX12_doNext_183 (by decide) (fun c29 => ?_) (fun c29 => ?_)
              · have h30 := h28.1 c29
                refine g_iload_n hC dX12_doNext_195 rfl ?_
                refine g_bipush (v := zI 7) hC dX12_doNext_196 rfl ?_
                refine zr_icmp_ne (tgt := 210) hC (hZ.ra 88 _) (by decide) dX12_doNext_198 (by decide) (fun c31 => ?_) (fun c31 => ?_)
                · have h32 := h30.1 c31
                  refine g_iload_n hC dX12_doNext_210 rfl ?_
                  refine g_bipush (v := zI 8) hC dX12_doNext_211 rfl ?_
                  refine zr_icmp_ne (tgt := 224) hC (hZ.ra 88 _) (by decide) dX12_doNext_213 (by decide) (fun c33 => ?_) (fun c33 => ?_)
                  · have h34 := h32.1 c33
                    refine g_iload_n hC dX12_doNext_224 rfl ?_
                    refine g_bipush (v := zI 10) hC dX12_doNext_225 rfl ?_
                    refine zr_icmp_ne (tgt := 238) hC (hZ.ra 88 _) (by decide) dX12_doNext_227 (by decide) (fun c35 => ?_) (fun c35 => ?_)
                    · have h36 := h34.1 c35
                      refine g_iload_n hC dX12_doNext_238 rfl ?_
                      refine g_bipush (v := zI 11) hC dX12_doNext_239 rfl ?_
                      refine zr_icmp_ne (tgt := 253) hC (hZ.ra 88 _) (by decide) dX12_doNext_241 (by decide) (fun c37 => ?_) (fun c37 => ?_)
                      · have h38 := h36.1 c37
                        refine g_iload_n hC dX12_doNext_253 rfl ?_
                        refine g_bipush (v := zI 12) hC dX12_doNext_254 rfl ?_
                        refine zr_icmp_ne (tgt := 267) hC (hZ.ra 88 _) (by decide) dX12_doNext_256 (by decide) (fun c39 => ?_) (fun c39 => ?_)
                        · have h40 := h38.1 c39
                          refine g_iload_n hC dX12_doNext_267 rfl ?_
                          refine g_bipush (v := zI 13) hC dX12_doNext_268 rfl ?_
                          refine zr_icmp_ne (tgt := 281) hC (hZ.ra 88 _) (by decide) dX12_doNext_270 (by decide) (fun c41 => ?_) (fun c41 => ?_)
                          · have h42 := h40.1 c41
                            refine g_iload_n hC dX12_doNext_281 rfl ?_
                            refine g_bipush (v := zI 14) hC dX12_doNext_282 rfl ?_
                            refine zr_icmp_ne (tgt := 385) hC (hZ.ra 88 _) (by decide) dX12_doNext_284 (by decide) (fun c43 => ?_) (fun c43 => ?_)
                            · have h44 := h42.1 c43
                              refine g_iload_n hC dX12_doNext_385 rfl ?_
                              refine g_bipush (v := zI 15) hC dX12_doNext_386 rfl ?_
                              refine zr_icmp_ne (tgt := 400) hC (hZ.ra 88 _) (by decide) dX12_doNext_388 (by decide) (fun c45 => ?_) (fun c45 => ?_)
                              · have h46 := h44.1 c45
                                refine g_iload_n hC dX12_doNext_400 rfl ?_
                                refine g_bipush (v := zI 16) hC dX12_doNext_401 rfl ?_
                                refine zr_icmp_ne (tgt := 414) hC (hZ.ra 88 _) (by decide) dX12_doNext_403 (by decide) (fun c47 => ?_) (fun c47 => ?_)
                                · have h48 := h46.1 c47
                                  refine g_iload_n hC dX12_doNext_414 rfl ?_
                                  refine g_bipush (v := zI 17) hC dX12_doNext_415 rfl ?_
                                  refine zr_icmp_ne (tgt := 429) hC (hZ.ra 88 _) (by decide) dX12_doNext_417 (by decide) (fun c49 => ?_) (fun c49 => ?_)
                                  · have h50 := h48.1 c49
                                    refine g_iload_n hC dX12_doNext_429 rfl ?_
                                    refine g_bipush (v := zI 18) hC dX12_doNext_430 rfl ?_
                                    refine zr_icmp_ne (tgt := 444) hC (hZ.ra 88 _) (by decide) dX12_doNext_432 (by decide) (fun c51 => ?_) (fun c51 => ?_)
                                    · have h52 := h50.1 c51
                                      refine g_iload_n hC dX12_doNext_444 rfl ?_
                                      refine g_bipush (v := zI 19) hC dX12_doNext_445 rfl ?_
                                      refine zr_icmp_ne (tgt := 458) hC (hZ.ra 88 _) (by decide) dX12_doNext_447 (by decide) (fun c53 => ?_) (fun c53 => ?_)
                                      · have h54 := h52.1 c53
                                        refine g_iload_n hC dX12_doNext_458 rfl ?_
                                        refine g_bipush (v := zI 20) hC dX12_doNext_459 rfl ?_
                                        refine zr_icmp_ne (tgt := 521) hC (hZ.ra 88 _) (by decide) dX12_doNext_461 (by decide) (fun c55 => ?_) (fun c55 => ?_)
                                        · have h56 := h54.1 c55
                                          refine g_iload_n hC dX12_doNext_521 rfl ?_
                                          refine g_bipush (v := zI 21) hC dX12_doNext_522 rfl ?_
                                          refine zr_icmp_ne (tgt := 535) hC (hZ.ra 88 _) (by decide) dX12_doNext_524 (by decide) (fun c57 => ?_) (fun c57 => ?_)
                                          · have h58 := h56.1 c57
                                            refine g_iload_n hC dX12_doNext_535 rfl ?_
                                            refine g_bipush (v := zI 23) hC dX12_doNext_536 rfl ?_
                                            refine zr_icmp_ne (tgt := 551) hC (hZ.ra 88 _) (by decide) dX12_doNext_538 (by decide) (fun c59 => ?_) (fun c59 => ?_)
                                            · have h60 := h58.1 c59
                                              refine g_aload_n hC dX12_doNext_551 rfl ?_
                                              refine zr_callVi (As := []) hC hZ4 rfl (rm_pop X.la d b  hZ4.rf h60) cl_X12_810 rfl rfl (Nat.le_of_ble_eq_true rfl) ⟨Nat.le_of_ble_eq_true rfl, Nat.le_of_ble_eq_true rfl⟩ dX12_doNext_552 (fun r61 s62 F63 R64 hZ65 h66 => ?_)
                                              refine g_istore (lv' := [some (.ref t), some (.int (zI (za s0 88 (Int.toNat ((zv s0 87) - 1))))), some (.int (zI (za s0 89 (Int.toNat ((zv s0 87) - 1))))), some (.int (zI (za s0 90 (Int.toNat ((zv s0 87) - 1))))), some (.int (zI r61)), none]) hC dX12_doNext_555 (Nat.le_of_ble_eq_true rfl) rfl rfl ?_
                                              refine g_lv (lv' := [some (.ref t), none, none, none, some (.int (zI r61)), none]) ⟨rfl, rfl, trivial⟩ ?_
                                              obtain ⟨m67, h68⟩ := h66
                                              exact rl_doNext_557 hC  m67 _ _ _ R64 hZ65 h68
                                            · have h69 := h58.2 c59
                                              refine g_aload_n hC dX12_doNext_541 rfl ?_
                                              refine g_iload_n hC dX12_doNext_542 rfl ?_
                                              refine g_iconst (v := zI 2) hC dX12_doNext_543 rfl ?_
                                              refine g_iload_n hC dX12_doNext_544 rfl ?_
                                              refine zr_callVv (As := [.int (zI (za s0 89 (Int.toNat ((zv s0 87) - 1)))), .int (zI 2), .int (zI (za s0 90 (Int.toNat ((zv s0 87) - 1))))]) hC hZ4 rfl (rm_libraryCall X.la d b (hZ.ra 89 _) (by decide) (hZ.ra 90 _) hZ4.rf h69) cl_X12_824 rfl rfl (Nat.le_of_ble_eq_true rfl) ⟨Nat.le_of_ble_eq_true rfl, Nat.le_of_ble_eq_true rfl⟩ dX12_doNext_545 (fun s71 F72 hZ74 h75 => ?_)
                                              refine g_goto (tgt := 617) hC dX12_doNext_548 (by decide) ?_
                                              exact zr_vret hC hZ74 h75 dX12_doNext_617
                                          · have h76 := h56.2 c57
                                            refine g_aload_n hC dX12_doNext_527 rfl ?_
                                            refine g_iload_n hC dX12_doNext_528 rfl ?_
                                            refine zr_callVv (As := [.int (zI (za s0 89 (Int.toNat ((zv s0 87) - 1))))]) hC hZ4 rfl (rm_choose X.la d b (hZ.ra 89 _) hZ4.rf h76) cl_X12_914 rfl rfl (Nat.le_of_ble_eq_true rfl) ⟨Nat.le_of_ble_eq_true rfl, Nat.le_of_ble_eq_true rfl⟩ dX12_doNext_529 (fun s78 F79 hZ81 h82 => ?_)
                                            refine g_goto (tgt := 617) hC dX12_doNext_532 (by decide) ?_
                                            exact zr_vret hC hZ81 h82 dX12_doNext_617
                                        · have h83 := h54.2 c55
                                          refine g_aload_n hC dX12_doNext_464 rfl ?_
                                          refine zr_callVi (As := []) hC hZ4 rfl (rm_pop X.la d b  hZ4.rf h83) cl_X12_810 rfl rfl (Nat.le_of_ble_eq_true rfl) ⟨Nat.le_of_ble_eq_true rfl, Nat.le_of_ble_eq_true rfl⟩ dX12_doNext_465 (fun r84 s85 F86 R87 hZ88 h89 => ?_)
                                          refine g_istore (lv' := [some (.ref t), some (.int (zI (za s0 88 (Int.toNat ((zv s0 87) - 1))))), some (.int (zI (za s0 89 (Int.toNat ((zv s0 87) - 1))))), some (.int (zI (za s0 90 (Int.toNat ((zv s0 87) - 1))))), some (.int (zI r84)), none]) hC dX12_doNext_468 (Nat.le_of_ble_eq_true rfl) rfl rfl ?_
                                          refine g_aload_n hC dX12_doNext_470 rfl ?_
                                          refine zr_geta hC hZ88 fl_X12_312 zb_98 (by decide) dX12_doNext_471 ?_
                                          refine g_aload_n hC dX12_doNext_474 rfl ?_
                                          refine zr_get (e := (zv s85 96)) hC hZ88 fl_X12_305 zb_96 (by decide) rfl dX12_doNext_475 ?_
                                          refine g_aload_n hC dX12_doNext_478 rfl ?_
                                          refine zr_geta hC hZ88 fl_X12_105 zb_31 (by decide) dX12_doNext_479 ?_
                                          refine g_iload_n hC dX12_doNext_482 rfl ?_
                                          obtain ⟨o90, h91⟩ := h89
                                          obtain ⟨o92, h93⟩ := h91
                                          refine zr_iald (v := (za s85 31 (Int.toNat (za s0 89 (Int.toNat ((zv s0 87) - 1)))))) hC hZ88 zk_31 zb_31 zn_31 (by decide) o90 o92 rfl dX12_doNext_483 ?_
                                          refine zr_iadd hC dX12_doNext_484 ?_
                                          refine g_aload_n hC dX12_doNext_485 rfl ?_
                                          refine zr_callVi (As := []) hC hZ88 rfl (rm_pop X.la d b  hZ88.rf h93) cl_X12_810 rfl rfl (Nat.le_of_ble_eq_true rfl) ⟨Nat.le_of_ble_eq_true rfl, Nat.le_of_ble_eq_true rfl⟩ dX12_doNext_486 (fun r94 s95 F96 R97 hZ98 h99 => ?_)
                                          obtain ⟨o100, h101⟩ := h99
                                          obtain ⟨o102, h103⟩ := h101
                                          refine zr_iast hC hZ98 zk_98 zb_98 zn_98 (by decide) o100 o102 R97 dX12_doNext_489 (fun F104 hZ105 => ?_)
                                          refine g_aload_n hC dX12_doNext_490 rfl ?_
                                          refine zr_geta hC hZ105 fl_X12_312 zb_98 (by decide) dX12_doNext_491 ?_
                                          refine g_aload_n hC dX12_doNext_494 rfl ?_
                                          refine zr_get (e := (zv s95 96)) hC hZ105 fl_X12_305 zb_96 (by decide) rfl dX12_doNext_495 ?_
                                          refine g_aload_n hC dX12_doNext_498 rfl ?_
                                          refine zr_geta hC hZ105 fl_X12_105 zb_31 (by decide) dX12_doNext_499 ?_
                                          refine g_iload_n hC dX12_doNext_502 rfl ?_
                                          obtain ⟨o106, h107⟩ := h103
                                          obtain ⟨o108, h109⟩ := h107
                                          refine zr_iald (v := (za s95 31 (Int.toNat (za s0 89 (Int.toNat ((zv s0 87) - 1)))))) hC hZ105 zk_31 zb_31 zn_31 (by decide) o106 o108 rfl dX12_doNext_503 ?_
                                          refine zr_iadd hC dX12_doNext_504 ?_
                                          refine g_iconst (v := zI 1) hC dX12_doNext_505 rfl ?_
                                          refine zr_iadd hC dX12_doNext_506 ?_
                                          refine g_iload hC dX12_doNext_507 rfl ?_
                                          obtain ⟨o110, h111⟩ := h109
                                          obtain ⟨o112, h113⟩ := h111
                                          refine zr_iast hC hZ105 zk_98 zb_98 zn_98 (by decide) o110 o112 R87 dX12_doNext_509 (fun F114 hZ115 => ?_)
                                          refine g_aload_n hC dX12_doNext_510 rfl ?_
                                          refine g_bipush (v := zI 15) hC dX12_doNext_511 rfl ?_
                                          refine g_iload_n hC dX12_doNext_513 rfl ?_
                                          refine g_iconst (v := zI 0) hC dX12_doNext_514 rfl ?_
                                          refine zr_callVv (As := [.int (zI 15), .int (zI (za s0 89 (Int.toNat ((zv s0 87) - 1)))), .int (zI 0)]) hC hZ115 rfl (rm_todoTask X.la d b (by decide) (hZ.ra 89 _) (by decide) hZ115.rf h113) cl_X12_801 rfl rfl (Nat.le_of_ble_eq_true rfl) ⟨Nat.le_of_ble_eq_true rfl, Nat.le_of_ble_eq_true rfl⟩ dX12_doNext_515 (fun s117 F118 hZ120 h121 => ?_)
                                          refine g_goto (tgt := 617) hC dX12_doNext_518 (by decide) ?_
                                          exact zr_vret hC hZ120 h121 dX12_doNext_617
                                      · have h122 := h52.2 c53
                                        refine g_aload_n hC dX12_doNext_450 rfl ?_
                                        refine g_iload_n hC dX12_doNext_451 rfl ?_
                                        refine zr_callVv (As := [.int (zI (za s0 89 (Int.toNat ((zv s0 87) - 1))))]) hC hZ4 rfl (rm_variables X.la d b (hZ.ra 89 _) hZ4.rf h122) cl_X12_911 rfl rfl (Nat.le_of_ble_eq_true rfl) ⟨Nat.le_of_ble_eq_true rfl, Nat.le_of_ble_eq_true rfl⟩ dX12_doNext_452 (fun s124 F125 hZ127 h128 => ?_)
                                        refine g_goto (tgt := 617) hC dX12_doNext_455 (by decide) ?_
                                        exact zr_vret hC hZ127 h128 dX12_doNext_617
                                    · have h129 := h50.2 c51
                                      refine g_aload_n hC dX12_doNext_435 rfl ?_
                                      refine g_iload_n hC dX12_doNext_436 rfl ?_
                                      refine g_iload_n hC dX12_doNext_437 rfl ?_
                                      refine zr_callVv (As := [.int (zI (za s0 89 (Int.toNat ((zv s0 87) - 1)))), .int (zI (za s0 90 (Int.toNat ((zv s0 87) - 1))))]) hC hZ4 rfl (rm_returns X.la d b (hZ.ra 89 _) (hZ.ra 90 _) hZ4.rf h129) cl_X12_908 rfl rfl (Nat.le_of_ble_eq_true rfl) ⟨Nat.le_of_ble_eq_true rfl, Nat.le_of_ble_eq_true rfl⟩ dX12_doNext_438 (fun s131 F132 hZ134 h135 => ?_)
                                      refine g_goto (tgt := 617) hC dX12_doNext_441 (by decide) ?_
                                      exact zr_vret hC hZ134 h135 dX12_doNext_617
                                  · have h136 := h48.2 c49
                                    refine g_aload_n hC dX12_doNext_420 rfl ?_
                                    refine g_iload_n hC dX12_doNext_421 rfl ?_
                                    refine g_iload_n hC dX12_doNext_422 rfl ?_
                                    refine zr_callVv (As := [.int (zI (za s0 89 (Int.toNat ((zv s0 87) - 1)))), .int (zI (za s0 90 (Int.toNat ((zv s0 87) - 1))))]) hC hZ4 rfl (rm_section X.la d b (hZ.ra 89 _) (hZ.ra 90 _) hZ4.rf h136) cl_X12_905 rfl rfl (Nat.le_of_ble_eq_true rfl) ⟨Nat.le_of_ble_eq_true rfl, Nat.le_of_ble_eq_true rfl⟩ dX12_doNext_423 (fun s138 F139 hZ141 h142 => ?_)
                                    refine g_goto (tgt := 617) hC dX12_doNext_426 (by decide) ?_
                                    exact zr_vret hC hZ141 h142 dX12_doNext_617
                                · have h143 := h46.2 c47
                                  refine g_aload_n hC dX12_doNext_406 rfl ?_
                                  refine g_iload_n hC dX12_doNext_407 rfl ?_
                                  refine zr_callVv (As := [.int (zI (za s0 89 (Int.toNat ((zv s0 87) - 1))))]) hC hZ4 rfl (rm_asked X.la d b (hZ.ra 89 _) hZ4.rf h143) cl_X12_902 rfl rfl (Nat.le_of_ble_eq_true rfl) ⟨Nat.le_of_ble_eq_true rfl, Nat.le_of_ble_eq_true rfl⟩ dX12_doNext_408 (fun s145 F146 hZ148 h149 => ?_)
                                  refine g_goto (tgt := 617) hC dX12_doNext_411 (by decide) ?_
                                  exact zr_vret hC hZ148 h149 dX12_doNext_617
                              · have h150 := h44.2 c45
                                refine g_aload_n hC dX12_doNext_391 rfl ?_
                                refine g_iload_n hC dX12_doNext_392 rfl ?_
                                refine g_iload_n hC dX12_doNext_393 rfl ?_
                                refine zr_callVv (As := [.int (zI (za s0 89 (Int.toNat ((zv s0 87) - 1)))), .int (zI (za s0 90 (Int.toNat ((zv s0 87) - 1))))]) hC hZ4 rfl (rm_loop X.la d b (hZ.ra 89 _) (hZ.ra 90 _) hZ4.rf h150) cl_X12_899 rfl rfl (Nat.le_of_ble_eq_true rfl) ⟨Nat.le_of_ble_eq_true rfl, Nat.le_of_ble_eq_true rfl⟩ dX12_doNext_394 (fun s152 F153 hZ155 h156 => ?_)
                                refine g_goto (tgt := 617) hC dX12_doNext_397 (by decide) ?_
                                exact zr_vret hC hZ155 h156 dX12_doNext_617
                            · have h157 := h42.2 c43
                              refine g_aload_n hC dX12_doNext_287 rfl ?_
                              refine zr_callVi (As := []) hC hZ4 rfl (rm_pop X.la d b  hZ4.rf h157) cl_X12_810 rfl rfl (Nat.le_of_ble_eq_true rfl) ⟨Nat.le_of_ble_eq_true rfl, Nat.le_of_ble_eq_true rfl⟩ dX12_doNext_288 (fun r158 s159 F160 R161 hZ162 h163 => ?_)
                              refine zr_if_eq (tgt := 298) hC R161 dX12_doNext_291 (by decide) (fun c164 => ?_) (fun c164 => ?_)
                              · have h165 := h163.1 c164
                                refine g_iconst (v := zI 0) hC dX12_doNext_298 rfl ?_
                                refine g_lv (lv' := [some (.ref t), none, some (.int (zI (za s0 89 (Int.toNat ((zv s0 87) - 1))))), none, none, none]) ⟨rfl, rfl, trivial⟩ ?_
                                exact rj_doNext_299 hC  (hZ.ra 89 _) (by decide) hZ162 h165
                              · have h166 := h163.2 c164
                                refine g_iconst (v := zI 1) hC dX12_doNext_294 rfl ?_
                                refine g_goto (tgt := 299) hC dX12_doNext_295 (by decide) ?_
                                refine g_lv (lv' := [some (.ref t), none, some (.int (zI (za s0 89 (Int.toNat ((zv s0 87) - 1))))), none, none, none]) ⟨rfl, rfl, trivial⟩ ?_
                                exact rj_doNext_299 hC  (hZ.ra 89 _) (by decide) hZ162 h166
                          · have h167 := h40.2 c41
                            refine g_aload_n hC dX12_doNext_273 rfl ?_
                            refine zr_callVi (As := []) hC hZ4 rfl (rm_pop X.la d b  hZ4.rf h167) cl_X12_810 rfl rfl (Nat.le_of_ble_eq_true rfl) ⟨Nat.le_of_ble_eq_true rfl, Nat.le_of_ble_eq_true rfl⟩ dX12_doNext_274 (fun r168 s169 F170 R171 hZ172 h173 => ?_)
                            refine g_pop hC dX12_doNext_277 rfl ?_
                            refine g_goto (tgt := 617) hC dX12_doNext_278 (by decide) ?_
                            exact zr_vret hC hZ172 h173 dX12_doNext_617
                        · have h174 := h38.2 c39
                          refine g_aload_n hC dX12_doNext_259 rfl ?_
                          refine g_iload_n hC dX12_doNext_260 rfl ?_
                          refine zr_callVv (As := [.int (zI (za s0 89 (Int.toNat ((zv s0 87) - 1))))]) hC hZ4 rfl (rm_stores X.la d b (hZ.ra 89 _) hZ4.rf h174) cl_X12_896 rfl rfl (Nat.le_of_ble_eq_true rfl) ⟨Nat.le_of_ble_eq_true rfl, Nat.le_of_ble_eq_true rfl⟩ dX12_doNext_261 (fun s176 F177 hZ179 h180 => ?_)
                          refine g_goto (tgt := 617) hC dX12_doNext_264 (by decide) ?_
                          exact zr_vret hC hZ179 h180 dX12_doNext_617
                      · have h181 := h36.2 c37
                        refine g_aload_n hC dX12_doNext_244 rfl ?_
                        refine g_iload_n hC dX12_doNext_245 rfl ?_
                        refine g_iload_n hC dX12_doNext_246 rfl ?_
                        refine zr_callVv (As := [.int (zI (za s0 89 (Int.toNat ((zv s0 87) - 1)))), .int (zI (za s0 90 (Int.toNat ((zv s0 87) - 1))))]) hC hZ4 rfl (rm_assign X.la d b (hZ.ra 89 _) (hZ.ra 90 _) hZ4.rf h181) cl_X12_871 rfl rfl (Nat.le_of_ble_eq_true rfl) ⟨Nat.le_of_ble_eq_true rfl, Nat.le_of_ble_eq_true rfl⟩ dX12_doNext_247 (fun s183 F184 hZ186 h187 => ?_)
                        refine g_goto (tgt := 617) hC dX12_doNext_250 (by decide) ?_
                        exact zr_vret hC hZ186 h187 dX12_doNext_617
                    · have h188 := h34.2 c35
                      refine g_aload_n hC dX12_doNext_230 rfl ?_
                      refine g_iload_n hC dX12_doNext_231 rfl ?_
                      refine zr_callVv (As := [.int (zI (za s0 89 (Int.toNat ((zv s0 87) - 1))))]) hC hZ4 rfl (rm_perform X.la d b (hZ.ra 89 _) hZ4.rf h188) cl_X12_893 rfl rfl (Nat.le_of_ble_eq_true rfl) ⟨Nat.le_of_ble_eq_true rfl, Nat.le_of_ble_eq_true rfl⟩ dX12_doNext_232 (fun s190 F191 hZ193 h194 => ?_)
                      refine g_goto (tgt := 617) hC dX12_doNext_235 (by decide) ?_
                      exact zr_vret hC hZ193 h194 dX12_doNext_617
                  · have h195 := h32.2 c33
                    refine g_aload_n hC dX12_doNext_216 rfl ?_
                    refine g_iconst (v := zI 0) hC dX12_doNext_217 rfl ?_
                    refine zr_callVv (As := [.int (zI 0)]) hC hZ4 rfl (rm_push X.la d b (by decide) hZ4.rf h195) cl_X12_795 rfl rfl (Nat.le_of_ble_eq_true rfl) ⟨Nat.le_of_ble_eq_true rfl, Nat.le_of_ble_eq_true rfl⟩ dX12_doNext_218 (fun s197 F198 hZ200 h201 => ?_)
                    refine g_goto (tgt := 617) hC dX12_doNext_221 (by decide) ?_
                    exact zr_vret hC hZ200 h201 dX12_doNext_617
                · have h202 := h30.2 c31
                  refine g_aload_n hC dX12_doNext_201 rfl ?_
                  refine g_iload_n hC dX12_doNext_202 rfl ?_
                  refine g_iload_n hC dX12_doNext_203 rfl ?_
                  refine zr_callVv (As := [.int (zI (za s0 89 (Int.toNat ((zv s0 87) - 1)))), .int (zI (za s0 90 (Int.toNat ((zv s0 87) - 1))))]) hC hZ4 rfl (rm_call X.la d b (hZ.ra 89 _) (hZ.ra 90 _) hZ4.rf h202) cl_X12_890 rfl rfl (Nat.le_of_ble_eq_true rfl) ⟨Nat.le_of_ble_eq_true rfl, Nat.le_of_ble_eq_true rfl⟩ dX12_doNext_204 (fun s204 F205 hZ207 h208 => ?_)
                  refine g_goto (tgt := 617) hC dX12_doNext_207 (by decide) ?_
                  exact zr_vret hC hZ207 h208 dX12_doNext_617
              · have h209 := h28.2 c29
                refine g_aload_n hC dX12_doNext_186 rfl ?_
                refine g_iload_n hC dX12_doNext_187 rfl ?_
                refine g_iload_n hC dX12_doNext_188 rfl ?_
                refine zr_callVv (As := [.int (zI (za s0 89 (Int.toNat ((zv s0 87) - 1)))), .int (zI (za s0 90 (Int.toNat ((zv s0 87) - 1))))]) hC hZ4 rfl (rm_rel X.la d b (hZ.ra 89 _) (hZ.ra 90 _) hZ4.rf h209) cl_X12_887 rfl rfl (Nat.le_of_ble_eq_true rfl) ⟨Nat.le_of_ble_eq_true rfl, Nat.le_of_ble_eq_true rfl⟩ dX12_doNext_189 (fun s211 F212 hZ214 h215 => ?_)
                refine g_goto (tgt := 617) hC dX12_doNext_192 (by decide) ?_
                exact zr_vret hC hZ214 h215 dX12_doNext_617
            · have h216 := h26.2 c27
              refine g_aload_n hC dX12_doNext_139 rfl ?_
              refine zr_geta hC hZ4 fl_X12_96 zb_28 (by decide) dX12_doNext_140 ?_
              refine g_aload_n hC dX12_doNext_143 rfl ?_
              refine zr_geta hC hZ4 fl_X12_93 zb_27 (by decide) dX12_doNext_144 ?_
              refine g_iload_n hC dX12_doNext_147 rfl ?_
              obtain ⟨o217, h218⟩ := h216
              obtain ⟨o219, h220⟩ := h218
              refine zr_iald (v := (za s0 27 (Int.toNat (za s0 89 (Int.toNat ((zv s0 87) - 1)))))) hC hZ4 zk_27 zb_27 zn_27 (by decide) o217 o219 rfl dX12_doNext_148 ?_
              obtain ⟨o221, h222⟩ := h220
              obtain ⟨o223, h224⟩ := h222
              refine zr_iald (v := (za s0 28 (Int.toNat (za s0 27 (Int.toNat (za s0 89 (Int.toNat ((zv s0 87) - 1)))))))) hC hZ4 zk_28 zb_28 zn_28 (by decide) o221 o223 rfl dX12_doNext_149 ?_
              refine g_istore (lv' := [some (.ref t), some (.int (zI (za s0 88 (Int.toNat ((zv s0 87) - 1))))), some (.int (zI (za s0 89 (Int.toNat ((zv s0 87) - 1))))), some (.int (zI (za s0 90 (Int.toNat ((zv s0 87) - 1))))), some (.int (zI (za s0 28 (Int.toNat (za s0 27 (Int.toNat (za s0 89 (Int.toNat ((zv s0 87) - 1))))))))), none]) hC dX12_doNext_150 (Nat.le_of_ble_eq_true rfl) rfl rfl ?_
              refine g_aload_n hC dX12_doNext_152 rfl ?_
              refine g_iconst (v := zI 1) hC dX12_doNext_153 rfl ?_
              refine g_aload_n hC dX12_doNext_154 rfl ?_
              refine zr_callVi (As := []) hC hZ4 rfl (rm_pop X.la d b  hZ4.rf h224) cl_X12_810 rfl rfl (Nat.le_of_ble_eq_true rfl) ⟨Nat.le_of_ble_eq_true rfl, Nat.le_of_ble_eq_true rfl⟩ dX12_doNext_155 (fun r225 s226 F227 R228 hZ229 h230 => ?_)
              refine zr_if_eq (tgt := 166) hC R228 dX12_doNext_158 (by decide) (fun c231 => ?_) (fun c231 => ?_)
              · have h232 := h230.1 c231
                refine g_aload_n hC dX12_doNext_166 rfl ?_
                refine zr_geta hC hZ229 fl_X12_96 zb_28 (by decide) dX12_doNext_167 ?_
                refine g_iload hC dX12_doNext_170 rfl ?_
                obtain ⟨o233, h234⟩ := h232
                obtain ⟨o235, h236⟩ := h234
                refine zr_iald (v := (za s226 28 (Int.toNat (za s0 28 (Int.toNat (za s0 27 (Int.toNat (za s0 89 (Int.toNat ((zv s0 87) - 1)))))))))) hC hZ229 zk_28 zb_28 zn_28 (by decide) o233 o235 rfl dX12_doNext_172 ?_
                refine g_iconst (v := zI 0) hC dX12_doNext_173 rfl ?_
                refine zr_callVv (As := [.int (zI 1), .int (zI (za s226 28 (Int.toNat (za s0 28 (Int.toNat (za s0 27 (Int.toNat (za s0 89 (Int.toNat ((zv s0 87) - 1)))))))))), .int (zI 0)]) hC hZ229 rfl (rm_todoTask X.la d b (by decide) (hZ229.ra 28 _) (by decide) hZ229.rf h236) cl_X12_801 rfl rfl (Nat.le_of_ble_eq_true rfl) ⟨Nat.le_of_ble_eq_true rfl, Nat.le_of_ble_eq_true rfl⟩ dX12_doNext_174 (fun s238 F239 hZ241 h242 => ?_)
                refine g_goto (tgt := 617) hC dX12_doNext_177 (by decide) ?_
                exact zr_vret hC hZ241 h242 dX12_doNext_617
              · have h243 := h230.2 c231
                refine g_iload hC dX12_doNext_161 rfl ?_
                refine g_goto (tgt := 173) hC dX12_doNext_163 (by decide) ?_
                refine g_iconst (v := zI 0) hC dX12_doNext_173 rfl ?_
                refine zr_callVv (As := [.int (zI 1), .int (zI (za s0 28 (Int.toNat (za s0 27 (Int.toNat (za s0 89 (Int.toNat ((zv s0 87) - 1)))))))), .int (zI 0)]) hC hZ229 rfl (rm_todoTask X.la d b (by decide) (hZ.ra 28 _) (by decide) hZ229.rf h243) cl_X12_801 rfl rfl (Nat.le_of_ble_eq_true rfl) ⟨Nat.le_of_ble_eq_true rfl, Nat.le_of_ble_eq_true rfl⟩ dX12_doNext_174 (fun s245 F246 hZ248 h249 => ?_)
                refine g_goto (tgt := 617) hC dX12_doNext_177 (by decide) ?_
                exact zr_vret hC hZ248 h249 dX12_doNext_617
          · have h250 := h24.2 c25
            refine g_aload_n hC dX12_doNext_118 rfl ?_
            refine g_aload_n hC dX12_doNext_119 rfl ?_
            refine zr_callVi (As := []) hC hZ4 rfl (rm_pop X.la d b  hZ4.rf h250) cl_X12_810 rfl rfl (Nat.le_of_ble_eq_true rfl) ⟨Nat.le_of_ble_eq_true rfl, Nat.le_of_ble_eq_true rfl⟩ dX12_doNext_120 (fun r251 s252 F253 R254 hZ255 h256 => ?_)
            refine g_aload_n hC dX12_doNext_123 rfl ?_
            refine zr_callVi (As := []) hC hZ255 rfl (rm_pop X.la d b  hZ255.rf h256) cl_X12_810 rfl rfl (Nat.le_of_ble_eq_true rfl) ⟨Nat.le_of_ble_eq_true rfl, Nat.le_of_ble_eq_true rfl⟩ dX12_doNext_124 (fun r257 s258 F259 R260 hZ261 h262 => ?_)
            refine zr_iadd hC dX12_doNext_127 ?_
            refine zr_w (fun z263 e264 R265 => ?_)
            have h266 := h262 z263 e264 R265
            refine zr_callVv (As := [.int (zI z263)]) hC hZ261 rfl (rm_push X.la d b R265 hZ261.rf h266) cl_X12_795 rfl rfl (Nat.le_of_ble_eq_true rfl) ⟨Nat.le_of_ble_eq_true rfl, Nat.le_of_ble_eq_true rfl⟩ dX12_doNext_128 (fun s268 F269 hZ271 h272 => ?_)
            refine g_goto (tgt := 617) hC dX12_doNext_131 (by decide) ?_
            exact zr_vret hC hZ271 h272 dX12_doNext_617
        · have h273 := h22.2 c23
          refine g_aload_n hC dX12_doNext_96 rfl ?_
          refine g_aload_n hC dX12_doNext_97 rfl ?_
          refine g_aload_n hC dX12_doNext_98 rfl ?_
          refine zr_callVi (As := []) hC hZ4 rfl (rm_pop X.la d b  hZ4.rf h273) cl_X12_810 rfl rfl (Nat.le_of_ble_eq_true rfl) ⟨Nat.le_of_ble_eq_true rfl, Nat.le_of_ble_eq_true rfl⟩ dX12_doNext_99 (fun r274 s275 F276 R277 hZ278 h279 => ?_)
          refine zr_i2l hC dX12_doNext_102 R277 ?_
          refine zr_callVi (As := [.long (zJ r274)]) hC hZ278 rfl (rm_read X.la d b (zR_L R277) hZ278.rf h279) cl_X12_813 rfl rfl (Nat.le_of_ble_eq_true rfl) ⟨Nat.le_of_ble_eq_true rfl, Nat.le_of_ble_eq_true rfl⟩ dX12_doNext_103 (fun r280 s281 F282 R283 hZ284 h285 => ?_)
          refine zr_callVv (As := [.int (zI r280)]) hC hZ284 rfl (rm_push X.la d b R283 hZ284.rf h285) cl_X12_795 rfl rfl (Nat.le_of_ble_eq_true rfl) ⟨Nat.le_of_ble_eq_true rfl, Nat.le_of_ble_eq_true rfl⟩ dX12_doNext_106 (fun s287 F288 hZ290 h291 => ?_)
          refine g_goto (tgt := 617) hC dX12_doNext_109 (by decide) ?_
          exact zr_vret hC hZ290 h291 dX12_doNext_617
      · have h292 := h20.2 c21
        refine g_aload_n hC dX12_doNext_71 rfl ?_
        refine g_aload_n hC dX12_doNext_72 rfl ?_
        refine zr_geta hC hZ4 fl_X12_99 zb_29 (by decide) dX12_doNext_73 ?_
        refine g_iload_n hC dX12_doNext_76 rfl ?_
        obtain ⟨o293, h294⟩ := h292
        obtain ⟨o295, h296⟩ := h294
        refine zr_iald (v := (za s0 29 (Int.toNat (za s0 89 (Int.toNat ((zv s0 87) - 1)))))) hC hZ4 zk_29 zb_29 zn_29 (by decide) o293 o295 rfl dX12_doNext_77 ?_
        refine g_aload_n hC dX12_doNext_78 rfl ?_
        refine zr_callVi (As := []) hC hZ4 rfl (rm_pop X.la d b  hZ4.rf h296) cl_X12_810 rfl rfl (Nat.le_of_ble_eq_true rfl) ⟨Nat.le_of_ble_eq_true rfl, Nat.le_of_ble_eq_true rfl⟩ dX12_doNext_79 (fun r297 s298 F299 R300 hZ301 h302 => ?_)
        refine zr_callSi (As := [.int (zI (za s0 29 (Int.toNat (za s0 89 (Int.toNat ((zv s0 87) - 1)))))), .int (zI r297)]) hC hZ301 (rm_signed X.la d b (hZ.ra 29 _) R300 hZ301.rf h302) cl_X12_638 rfl rfl (Nat.le_of_ble_eq_true rfl) ⟨Nat.le_of_ble_eq_true rfl, Nat.le_of_ble_eq_true rfl⟩ dX12_doNext_82 (fun r303 s304 F305 R306 hZ307 h308 => ?_)
        refine zr_callVv (As := [.int (zI r303)]) hC hZ307 rfl (rm_push X.la d b R306 hZ307.rf h308) cl_X12_795 rfl rfl (Nat.le_of_ble_eq_true rfl) ⟨Nat.le_of_ble_eq_true rfl, Nat.le_of_ble_eq_true rfl⟩ dX12_doNext_85 (fun s310 F311 hZ313 h314 => ?_)
        refine g_goto (tgt := 617) hC dX12_doNext_88 (by decide) ?_
        exact zr_vret hC hZ313 h314 dX12_doNext_617
    · have h315 := h18.2 c19
      refine g_aload_n hC dX12_doNext_58 rfl ?_
      refine g_iload_n hC dX12_doNext_59 rfl ?_
      refine zr_callVv (As := [.int (zI (za s0 89 (Int.toNat ((zv s0 87) - 1))))]) hC hZ4 rfl (rm_bin X.la d b (hZ.ra 89 _) hZ4.rf h315) cl_X12_884 rfl rfl (Nat.le_of_ble_eq_true rfl) ⟨Nat.le_of_ble_eq_true rfl, Nat.le_of_ble_eq_true rfl⟩ dX12_doNext_60 (fun s317 F318 hZ320 h321 => ?_)
      refine g_goto (tgt := 617) hC dX12_doNext_63 (by decide) ?_
      exact zr_vret hC hZ320 h321 dX12_doNext_617
  · have h322 := h16.2 c17
    refine g_aload_n hC dX12_doNext_45 rfl ?_
    refine g_iload_n hC dX12_doNext_46 rfl ?_
    refine zr_callVv (As := [.int (zI (za s0 89 (Int.toNat ((zv s0 87) - 1))))]) hC hZ4 rfl (rm_evaluate X.la d b (hZ.ra 89 _) hZ4.rf h322) cl_X12_881 rfl rfl (Nat.le_of_ble_eq_true rfl) ⟨Nat.le_of_ble_eq_true rfl, Nat.le_of_ble_eq_true rfl⟩ dX12_doNext_47 (fun s324 F325 hZ327 h328 => ?_)
    refine g_goto (tgt := 617) hC dX12_doNext_50 (by decide) ?_
    exact zr_vret hC hZ327 h328 dX12_doNext_617
