/-! the reference as formulas: commandOf, named, string, expressionOf, placeOf, routineOf, routineEnds, uses, varsEnd, blockEnds, forName -/
theorem dX12_commandOf_0 : decode cX12_commandOf 0 = .ok (.aload_n 0, 1) := by decide +kernel
theorem dX12_commandOf_1 : decode cX12_commandOf 1 = .ok (.getfield 87, 3) := by decide +kernel
theorem dX12_commandOf_4 : decode cX12_commandOf 4 = .ok (.iload_n 1, 1) := by decide +kernel
theorem dX12_commandOf_5 : decode cX12_commandOf 5 = .ok (.baload, 1) := by decide +kernel
theorem dX12_commandOf_6 : decode cX12_commandOf 6 = .ok (.istore_n 2, 1) := by decide +kernel
theorem dX12_commandOf_7 : decode cX12_commandOf 7 = .ok (.aload_n 0, 1) := by decide +kernel
theorem dX12_commandOf_8 : decode cX12_commandOf 8 = .ok (.getfield 93, 3) := by decide +kernel
theorem dX12_commandOf_11 : decode cX12_commandOf 11 = .ok (.iload_n 1, 1) := by decide +kernel
theorem dX12_commandOf_12 : decode cX12_commandOf 12 = .ok (.iaload, 1) := by decide +kernel
theorem dX12_commandOf_13 : decode cX12_commandOf 13 = .ok (.istore_n 3, 1) := by decide +kernel
theorem dX12_commandOf_14 : decode cX12_commandOf 14 = .ok (.iload_n 2, 1) := by decide +kernel
theorem dX12_commandOf_15 : decode cX12_commandOf 15 = .ok (.bipush 20, 2) := by decide +kernel
theorem dX12_commandOf_17 : decode cX12_commandOf 17 = .ok (.if_icmp .ne 67, 3) := by decide +kernel
theorem dX12_commandOf_20 : decode cX12_commandOf 20 = .ok (.aload_n 0, 1) := by decide +kernel
theorem dX12_commandOf_21 : decode cX12_commandOf 21 = .ok (.getfield 203, 3) := by decide +kernel
theorem dX12_commandOf_24 : decode cX12_commandOf 24 = .ok (.istore 4, 2) := by decide +kernel
theorem dX12_commandOf_26 : decode cX12_commandOf 26 = .ok (.iconst 0, 1) := by decide +kernel
theorem dX12_commandOf_27 : decode cX12_commandOf 27 = .ok (.istore 5, 2) := by decide +kernel
theorem dX12_commandOf_29 : decode cX12_commandOf 29 = .ok (.iload_n 3, 1) := by decide +kernel
theorem dX12_commandOf_30 : decode cX12_commandOf 30 = .ok (.istore 6, 2) := by decide +kernel
theorem dX12_commandOf_32 : decode cX12_commandOf 32 = .ok (.iload 6, 2) := by decide +kernel
theorem dX12_commandOf_34 : decode cX12_commandOf 34 = .ok (.ifCond .lt 41, 3) := by decide +kernel
theorem dX12_commandOf_37 : decode cX12_commandOf 37 = .ok (.aload_n 0, 1) := by decide +kernel
theorem dX12_commandOf_38 : decode cX12_commandOf 38 = .ok (.iload 5, 2) := by decide +kernel
theorem dX12_commandOf_40 : decode cX12_commandOf 40 = .ok (.aload_n 0, 1) := by decide +kernel
theorem dX12_commandOf_41 : decode cX12_commandOf 41 = .ok (.getfield 99, 3) := by decide +kernel
theorem dX12_commandOf_44 : decode cX12_commandOf 44 = .ok (.iload_n 1, 1) := by decide +kernel
theorem dX12_commandOf_45 : decode cX12_commandOf 45 = .ok (.iaload, 1) := by decide +kernel
theorem dX12_commandOf_46 : decode cX12_commandOf 46 = .ok (.if_icmp .ge 7, 3) := by decide +kernel
theorem dX12_commandOf_49 : decode cX12_commandOf 49 = .ok (.iconst 4, 1) := by decide +kernel
theorem dX12_commandOf_50 : decode cX12_commandOf 50 = .ok (.goto 4, 3) := by decide +kernel
theorem dX12_commandOf_53 : decode cX12_commandOf 53 = .ok (.iconst 3, 1) := by decide +kernel
theorem dX12_commandOf_54 : decode cX12_commandOf 54 = .ok (.iload 6, 2) := by decide +kernel
theorem dX12_commandOf_56 : decode cX12_commandOf 56 = .ok (.iconst 0, 1) := by decide +kernel
theorem dX12_commandOf_57 : decode cX12_commandOf 57 = .ok (.invokevirtual 647, 3) := by decide +kernel
theorem dX12_commandOf_60 : decode cX12_commandOf 60 = .ok (.iinc 5 1, 3) := by decide +kernel
theorem dX12_commandOf_63 : decode cX12_commandOf 63 = .ok (.aload_n 0, 1) := by decide +kernel
theorem dX12_commandOf_64 : decode cX12_commandOf 64 = .ok (.getfield 96, 3) := by decide +kernel
theorem dX12_commandOf_67 : decode cX12_commandOf 67 = .ok (.iload 6, 2) := by decide +kernel
theorem dX12_commandOf_69 : decode cX12_commandOf 69 = .ok (.iaload, 1) := by decide +kernel
theorem dX12_commandOf_70 : decode cX12_commandOf 70 = .ok (.istore 6, 2) := by decide +kernel
theorem dX12_commandOf_72 : decode cX12_commandOf 72 = .ok (.goto (-40), 3) := by decide +kernel
theorem dX12_commandOf_75 : decode cX12_commandOf 75 = .ok (.aload_n 0, 1) := by decide +kernel
theorem dX12_commandOf_76 : decode cX12_commandOf 76 = .ok (.iload 4, 2) := by decide +kernel
theorem dX12_commandOf_78 : decode cX12_commandOf 78 = .ok (.invokevirtual 650, 3) := by decide +kernel
theorem dX12_commandOf_81 : decode cX12_commandOf 81 = .ok (.goto 501, 3) := by decide +kernel
theorem dX12_commandOf_84 : decode cX12_commandOf 84 = .ok (.iload_n 2, 1) := by decide +kernel
theorem dX12_commandOf_85 : decode cX12_commandOf 85 = .ok (.bipush 21, 2) := by decide +kernel
theorem dX12_commandOf_87 : decode cX12_commandOf 87 = .ok (.if_icmp .ne 13, 3) := by decide +kernel
theorem dX12_commandOf_90 : decode cX12_commandOf 90 = .ok (.aload_n 0, 1) := by decide +kernel
theorem dX12_commandOf_91 : decode cX12_commandOf 91 = .ok (.iconst 3, 1) := by decide +kernel
theorem dX12_commandOf_92 : decode cX12_commandOf 92 = .ok (.iload_n 3, 1) := by decide +kernel
theorem dX12_commandOf_93 : decode cX12_commandOf 93 = .ok (.iconst 0, 1) := by decide +kernel
theorem dX12_commandOf_94 : decode cX12_commandOf 94 = .ok (.invokevirtual 647, 3) := by decide +kernel
theorem dX12_commandOf_97 : decode cX12_commandOf 97 = .ok (.goto 485, 3) := by decide +kernel
theorem dX12_commandOf_100 : decode cX12_commandOf 100 = .ok (.iload_n 2, 1) := by decide +kernel
theorem dX12_commandOf_101 : decode cX12_commandOf 101 = .ok (.bipush 22, 2) := by decide +kernel
theorem dX12_commandOf_103 : decode cX12_commandOf 103 = .ok (.if_icmp .eq 9, 3) := by decide +kernel
theorem dX12_commandOf_106 : decode cX12_commandOf 106 = .ok (.iload_n 2, 1) := by decide +kernel
theorem dX12_commandOf_107 : decode cX12_commandOf 107 = .ok (.bipush 23, 2) := by decide +kernel
theorem dX12_commandOf_109 : decode cX12_commandOf 109 = .ok (.if_icmp .ne 25, 3) := by decide +kernel
theorem dX12_commandOf_112 : decode cX12_commandOf 112 = .ok (.aload_n 0, 1) := by decide +kernel
theorem dX12_commandOf_113 : decode cX12_commandOf 113 = .ok (.iconst 2, 1) := by decide +kernel
theorem dX12_commandOf_114 : decode cX12_commandOf 114 = .ok (.aload_n 0, 1) := by decide +kernel
theorem dX12_commandOf_115 : decode cX12_commandOf 115 = .ok (.getfield 96, 3) := by decide +kernel
theorem dX12_commandOf_118 : decode cX12_commandOf 118 = .ok (.iload_n 3, 1) := by decide +kernel
theorem dX12_commandOf_119 : decode cX12_commandOf 119 = .ok (.iaload, 1) := by decide +kernel
theorem dX12_commandOf_120 : decode cX12_commandOf 120 = .ok (.iconst 0, 1) := by decide +kernel
theorem dX12_commandOf_121 : decode cX12_commandOf 121 = .ok (.invokevirtual 647, 3) := by decide +kernel
theorem dX12_commandOf_124 : decode cX12_commandOf 124 = .ok (.aload_n 0, 1) := by decide +kernel
theorem dX12_commandOf_125 : decode cX12_commandOf 125 = .ok (.iconst 3, 1) := by decide +kernel
theorem dX12_commandOf_126 : decode cX12_commandOf 126 = .ok (.iload_n 3, 1) := by decide +kernel
theorem dX12_commandOf_127 : decode cX12_commandOf 127 = .ok (.iconst 0, 1) := by decide +kernel
theorem dX12_commandOf_128 : decode cX12_commandOf 128 = .ok (.invokevirtual 647, 3) := by decide +kernel
theorem dX12_commandOf_131 : decode cX12_commandOf 131 = .ok (.goto 451, 3) := by decide +kernel
theorem dX12_commandOf_134 : decode cX12_commandOf 134 = .ok (.iload_n 2, 1) := by decide +kernel
theorem dX12_commandOf_135 : decode cX12_commandOf 135 = .ok (.bipush 24, 2) := by decide +kernel
theorem dX12_commandOf_137 : decode cX12_commandOf 137 = .ok (.if_icmp .ne 42, 3) := by decide +kernel
theorem dX12_commandOf_140 : decode cX12_commandOf 140 = .ok (.aload_n 0, 1) := by decide +kernel
theorem dX12_commandOf_141 : decode cX12_commandOf 141 = .ok (.iconst 2, 1) := by decide +kernel
theorem dX12_commandOf_142 : decode cX12_commandOf 142 = .ok (.aload_n 0, 1) := by decide +kernel
theorem dX12_commandOf_143 : decode cX12_commandOf 143 = .ok (.getfield 96, 3) := by decide +kernel
theorem dX12_commandOf_146 : decode cX12_commandOf 146 = .ok (.aload_n 0, 1) := by decide +kernel
theorem dX12_commandOf_147 : decode cX12_commandOf 147 = .ok (.getfield 96, 3) := by decide +kernel
theorem dX12_commandOf_150 : decode cX12_commandOf 150 = .ok (.iload_n 3, 1) := by decide +kernel
theorem dX12_commandOf_151 : decode cX12_commandOf 151 = .ok (.iaload, 1) := by decide +kernel
theorem dX12_commandOf_152 : decode cX12_commandOf 152 = .ok (.iaload, 1) := by decide +kernel
theorem dX12_commandOf_153 : decode cX12_commandOf 153 = .ok (.iconst 0, 1) := by decide +kernel
theorem dX12_commandOf_154 : decode cX12_commandOf 154 = .ok (.invokevirtual 647, 3) := by decide +kernel
theorem dX12_commandOf_157 : decode cX12_commandOf 157 = .ok (.aload_n 0, 1) := by decide +kernel
theorem dX12_commandOf_158 : decode cX12_commandOf 158 = .ok (.iconst 2, 1) := by decide +kernel
theorem dX12_commandOf_159 : decode cX12_commandOf 159 = .ok (.aload_n 0, 1) := by decide +kernel
theorem dX12_commandOf_160 : decode cX12_commandOf 160 = .ok (.getfield 96, 3) := by decide +kernel
theorem dX12_commandOf_163 : decode cX12_commandOf 163 = .ok (.iload_n 3, 1) := by decide +kernel
theorem dX12_commandOf_164 : decode cX12_commandOf 164 = .ok (.iaload, 1) := by decide +kernel
theorem dX12_commandOf_165 : decode cX12_commandOf 165 = .ok (.iconst 0, 1) := by decide +kernel
theorem dX12_commandOf_166 : decode cX12_commandOf 166 = .ok (.invokevirtual 647, 3) := by decide +kernel
theorem dX12_commandOf_169 : decode cX12_commandOf 169 = .ok (.aload_n 0, 1) := by decide +kernel
theorem dX12_commandOf_170 : decode cX12_commandOf 170 = .ok (.iconst 3, 1) := by decide +kernel
theorem dX12_commandOf_171 : decode cX12_commandOf 171 = .ok (.iload_n 3, 1) := by decide +kernel
theorem dX12_commandOf_172 : decode cX12_commandOf 172 = .ok (.iconst 0, 1) := by decide +kernel
theorem dX12_commandOf_173 : decode cX12_commandOf 173 = .ok (.invokevirtual 647, 3) := by decide +kernel
theorem dX12_commandOf_176 : decode cX12_commandOf 176 = .ok (.goto 406, 3) := by decide +kernel
theorem dX12_commandOf_179 : decode cX12_commandOf 179 = .ok (.iload_n 2, 1) := by decide +kernel
theorem dX12_commandOf_180 : decode cX12_commandOf 180 = .ok (.bipush 25, 2) := by decide +kernel
theorem dX12_commandOf_182 : decode cX12_commandOf 182 = .ok (.if_icmp .eq 9, 3) := by decide +kernel
theorem dX12_commandOf_185 : decode cX12_commandOf 185 = .ok (.iload_n 2, 1) := by decide +kernel
theorem dX12_commandOf_186 : decode cX12_commandOf 186 = .ok (.bipush 26, 2) := by decide +kernel
theorem dX12_commandOf_188 : decode cX12_commandOf 188 = .ok (.if_icmp .ne 41, 3) := by decide +kernel
theorem dX12_commandOf_191 : decode cX12_commandOf 191 = .ok (.aload_n 0, 1) := by decide +kernel
theorem dX12_commandOf_192 : decode cX12_commandOf 192 = .ok (.bipush 10, 2) := by decide +kernel
theorem dX12_commandOf_194 : decode cX12_commandOf 194 = .ok (.iconst 0, 1) := by decide +kernel
theorem dX12_commandOf_195 : decode cX12_commandOf 195 = .ok (.iconst (-1), 1) := by decide +kernel
theorem dX12_commandOf_196 : decode cX12_commandOf 196 = .ok (.invokevirtual 647, 3) := by decide +kernel
theorem dX12_commandOf_199 : decode cX12_commandOf 199 = .ok (.aload_n 0, 1) := by decide +kernel
theorem dX12_commandOf_200 : decode cX12_commandOf 200 = .ok (.iconst 2, 1) := by decide +kernel
theorem dX12_commandOf_201 : decode cX12_commandOf 201 = .ok (.aload_n 0, 1) := by decide +kernel
theorem dX12_commandOf_202 : decode cX12_commandOf 202 = .ok (.getfield 96, 3) := by decide +kernel
theorem dX12_commandOf_205 : decode cX12_commandOf 205 = .ok (.iload_n 3, 1) := by decide +kernel
theorem dX12_commandOf_206 : decode cX12_commandOf 206 = .ok (.iaload, 1) := by decide +kernel
theorem dX12_commandOf_207 : decode cX12_commandOf 207 = .ok (.iconst 0, 1) := by decide +kernel
theorem dX12_commandOf_208 : decode cX12_commandOf 208 = .ok (.invokevirtual 647, 3) := by decide +kernel
theorem dX12_commandOf_211 : decode cX12_commandOf 211 = .ok (.aload_n 0, 1) := by decide +kernel
theorem dX12_commandOf_212 : decode cX12_commandOf 212 = .ok (.bipush 10, 2) := by decide +kernel
theorem dX12_commandOf_214 : decode cX12_commandOf 214 = .ok (.iconst 0, 1) := by decide +kernel
theorem dX12_commandOf_215 : decode cX12_commandOf 215 = .ok (.iconst 1, 1) := by decide +kernel
theorem dX12_commandOf_216 : decode cX12_commandOf 216 = .ok (.invokevirtual 647, 3) := by decide +kernel
theorem dX12_commandOf_219 : decode cX12_commandOf 219 = .ok (.aload_n 0, 1) := by decide +kernel
theorem dX12_commandOf_220 : decode cX12_commandOf 220 = .ok (.iconst 3, 1) := by decide +kernel
theorem dX12_commandOf_221 : decode cX12_commandOf 221 = .ok (.iload_n 3, 1) := by decide +kernel
theorem dX12_commandOf_222 : decode cX12_commandOf 222 = .ok (.iconst 0, 1) := by decide +kernel
theorem dX12_commandOf_223 : decode cX12_commandOf 223 = .ok (.invokevirtual 647, 3) := by decide +kernel
theorem dX12_commandOf_226 : decode cX12_commandOf 226 = .ok (.goto 356, 3) := by decide +kernel
theorem dX12_commandOf_229 : decode cX12_commandOf 229 = .ok (.iload_n 2, 1) := by decide +kernel
theorem dX12_commandOf_230 : decode cX12_commandOf 230 = .ok (.bipush 38, 2) := by decide +kernel
theorem dX12_commandOf_232 : decode cX12_commandOf 232 = .ok (.if_icmp .ne 31, 3) := by decide +kernel
theorem dX12_commandOf_235 : decode cX12_commandOf 235 = .ok (.aload_n 0, 1) := by decide +kernel
theorem dX12_commandOf_236 : decode cX12_commandOf 236 = .ok (.bipush 10, 2) := by decide +kernel
theorem dX12_commandOf_238 : decode cX12_commandOf 238 = .ok (.iconst 0, 1) := by decide +kernel
theorem dX12_commandOf_239 : decode cX12_commandOf 239 = .ok (.iconst (-1), 1) := by decide +kernel
theorem dX12_commandOf_240 : decode cX12_commandOf 240 = .ok (.invokevirtual 647, 3) := by decide +kernel
theorem dX12_commandOf_243 : decode cX12_commandOf 243 = .ok (.aload_n 0, 1) := by decide +kernel
theorem dX12_commandOf_244 : decode cX12_commandOf 244 = .ok (.iconst 2, 1) := by decide +kernel
theorem dX12_commandOf_245 : decode cX12_commandOf 245 = .ok (.iload_n 3, 1) := by decide +kernel
theorem dX12_commandOf_246 : decode cX12_commandOf 246 = .ok (.iconst 0, 1) := by decide +kernel
theorem dX12_commandOf_247 : decode cX12_commandOf 247 = .ok (.invokevirtual 647, 3) := by decide +kernel
theorem dX12_commandOf_250 : decode cX12_commandOf 250 = .ok (.aload_n 0, 1) := by decide +kernel
theorem dX12_commandOf_251 : decode cX12_commandOf 251 = .ok (.dup, 1) := by decide +kernel
theorem dX12_commandOf_252 : decode cX12_commandOf 252 = .ok (.getfield 252, 3) := by decide +kernel
theorem dX12_commandOf_255 : decode cX12_commandOf 255 = .ok (.iconst 1, 1) := by decide +kernel
theorem dX12_commandOf_256 : decode cX12_commandOf 256 = .ok (.iadd, 1) := by decide +kernel
theorem dX12_commandOf_257 : decode cX12_commandOf 257 = .ok (.putfield 252, 3) := by decide +kernel
theorem dX12_commandOf_260 : decode cX12_commandOf 260 = .ok (.goto 322, 3) := by decide +kernel
theorem dX12_commandOf_263 : decode cX12_commandOf 263 = .ok (.iload_n 2, 1) := by decide +kernel
theorem dX12_commandOf_264 : decode cX12_commandOf 264 = .ok (.bipush 39, 2) := by decide +kernel
theorem dX12_commandOf_266 : decode cX12_commandOf 266 = .ok (.if_icmp .eq 9, 3) := by decide +kernel
theorem dX12_commandOf_269 : decode cX12_commandOf 269 = .ok (.iload_n 2, 1) := by decide +kernel
theorem dX12_commandOf_270 : decode cX12_commandOf 270 = .ok (.bipush 40, 2) := by decide +kernel
theorem dX12_commandOf_272 : decode cX12_commandOf 272 = .ok (.if_icmp .ne 43, 3) := by decide +kernel
theorem dX12_commandOf_275 : decode cX12_commandOf 275 = .ok (.aload_n 0, 1) := by decide +kernel
theorem dX12_commandOf_276 : decode cX12_commandOf 276 = .ok (.iconst 3, 1) := by decide +kernel
theorem dX12_commandOf_277 : decode cX12_commandOf 277 = .ok (.aload_n 0, 1) := by decide +kernel
theorem dX12_commandOf_278 : decode cX12_commandOf 278 = .ok (.getfield 96, 3) := by decide +kernel
theorem dX12_commandOf_281 : decode cX12_commandOf 281 = .ok (.iload_n 3, 1) := by decide +kernel
theorem dX12_commandOf_282 : decode cX12_commandOf 282 = .ok (.iaload, 1) := by decide +kernel
theorem dX12_commandOf_283 : decode cX12_commandOf 283 = .ok (.iconst 0, 1) := by decide +kernel
theorem dX12_commandOf_284 : decode cX12_commandOf 284 = .ok (.invokevirtual 647, 3) := by decide +kernel
theorem dX12_commandOf_287 : decode cX12_commandOf 287 = .ok (.aload_n 0, 1) := by decide +kernel
theorem dX12_commandOf_288 : decode cX12_commandOf 288 = .ok (.bipush 10, 2) := by decide +kernel
theorem dX12_commandOf_290 : decode cX12_commandOf 290 = .ok (.iconst 0, 1) := by decide +kernel
theorem dX12_commandOf_291 : decode cX12_commandOf 291 = .ok (.iconst (-1), 1) := by decide +kernel
theorem dX12_commandOf_292 : decode cX12_commandOf 292 = .ok (.invokevirtual 647, 3) := by decide +kernel
theorem dX12_commandOf_295 : decode cX12_commandOf 295 = .ok (.aload_n 0, 1) := by decide +kernel
theorem dX12_commandOf_296 : decode cX12_commandOf 296 = .ok (.iconst 2, 1) := by decide +kernel
theorem dX12_commandOf_297 : decode cX12_commandOf 297 = .ok (.iload_n 3, 1) := by decide +kernel
theorem dX12_commandOf_298 : decode cX12_commandOf 298 = .ok (.iconst 0, 1) := by decide +kernel
theorem dX12_commandOf_299 : decode cX12_commandOf 299 = .ok (.invokevirtual 647, 3) := by decide +kernel
theorem dX12_commandOf_302 : decode cX12_commandOf 302 = .ok (.aload_n 0, 1) := by decide +kernel
theorem dX12_commandOf_303 : decode cX12_commandOf 303 = .ok (.dup, 1) := by decide +kernel
theorem dX12_commandOf_304 : decode cX12_commandOf 304 = .ok (.getfield 252, 3) := by decide +kernel
theorem dX12_commandOf_307 : decode cX12_commandOf 307 = .ok (.iconst 1, 1) := by decide +kernel
theorem dX12_commandOf_308 : decode cX12_commandOf 308 = .ok (.iadd, 1) := by decide +kernel
theorem dX12_commandOf_309 : decode cX12_commandOf 309 = .ok (.putfield 252, 3) := by decide +kernel
theorem dX12_commandOf_312 : decode cX12_commandOf 312 = .ok (.goto 270, 3) := by decide +kernel
theorem dX12_commandOf_315 : decode cX12_commandOf 315 = .ok (.iload_n 2, 1) := by decide +kernel
theorem dX12_commandOf_316 : decode cX12_commandOf 316 = .ok (.bipush 27, 2) := by decide +kernel
theorem dX12_commandOf_318 : decode cX12_commandOf 318 = .ok (.if_icmp .ne 43, 3) := by decide +kernel
theorem dX12_commandOf_321 : decode cX12_commandOf 321 = .ok (.aload_n 0, 1) := by decide +kernel
theorem dX12_commandOf_322 : decode cX12_commandOf 322 = .ok (.bipush 11, 2) := by decide +kernel
theorem dX12_commandOf_324 : decode cX12_commandOf 324 = .ok (.iload_n 1, 1) := by decide +kernel
theorem dX12_commandOf_325 : decode cX12_commandOf 325 = .ok (.iconst 0, 1) := by decide +kernel
theorem dX12_commandOf_326 : decode cX12_commandOf 326 = .ok (.invokevirtual 647, 3) := by decide +kernel
theorem dX12_commandOf_329 : decode cX12_commandOf 329 = .ok (.aload_n 0, 1) := by decide +kernel
theorem dX12_commandOf_330 : decode cX12_commandOf 330 = .ok (.iconst 3, 1) := by decide +kernel
theorem dX12_commandOf_331 : decode cX12_commandOf 331 = .ok (.aload_n 0, 1) := by decide +kernel
theorem dX12_commandOf_332 : decode cX12_commandOf 332 = .ok (.getfield 96, 3) := by decide +kernel
theorem dX12_commandOf_335 : decode cX12_commandOf 335 = .ok (.aload_n 0, 1) := by decide +kernel
theorem dX12_commandOf_336 : decode cX12_commandOf 336 = .ok (.getfield 96, 3) := by decide +kernel
theorem dX12_commandOf_339 : decode cX12_commandOf 339 = .ok (.iload_n 3, 1) := by decide +kernel
theorem dX12_commandOf_340 : decode cX12_commandOf 340 = .ok (.iaload, 1) := by decide +kernel
theorem dX12_commandOf_341 : decode cX12_commandOf 341 = .ok (.iaload, 1) := by decide +kernel
theorem dX12_commandOf_342 : decode cX12_commandOf 342 = .ok (.iconst 0, 1) := by decide +kernel
theorem dX12_commandOf_343 : decode cX12_commandOf 343 = .ok (.invokevirtual 647, 3) := by decide +kernel
theorem dX12_commandOf_346 : decode cX12_commandOf 346 = .ok (.aload_n 0, 1) := by decide +kernel
theorem dX12_commandOf_347 : decode cX12_commandOf 347 = .ok (.iconst 3, 1) := by decide +kernel
theorem dX12_commandOf_348 : decode cX12_commandOf 348 = .ok (.aload_n 0, 1) := by decide +kernel
theorem dX12_commandOf_349 : decode cX12_commandOf 349 = .ok (.getfield 96, 3) := by decide +kernel
theorem dX12_commandOf_352 : decode cX12_commandOf 352 = .ok (.iload_n 3, 1) := by decide +kernel
theorem dX12_commandOf_353 : decode cX12_commandOf 353 = .ok (.iaload, 1) := by decide +kernel
theorem dX12_commandOf_354 : decode cX12_commandOf 354 = .ok (.iconst 0, 1) := by decide +kernel
theorem dX12_commandOf_355 : decode cX12_commandOf 355 = .ok (.invokevirtual 647, 3) := by decide +kernel
theorem dX12_commandOf_358 : decode cX12_commandOf 358 = .ok (.goto 224, 3) := by decide +kernel
theorem dX12_commandOf_361 : decode cX12_commandOf 361 = .ok (.iload_n 2, 1) := by decide +kernel
theorem dX12_commandOf_362 : decode cX12_commandOf 362 = .ok (.bipush 28, 2) := by decide +kernel
theorem dX12_commandOf_364 : decode cX12_commandOf 364 = .ok (.if_icmp .ne 21, 3) := by decide +kernel
theorem dX12_commandOf_367 : decode cX12_commandOf 367 = .ok (.aload_n 0, 1) := by decide +kernel
theorem dX12_commandOf_368 : decode cX12_commandOf 368 = .ok (.bipush 12, 2) := by decide +kernel
theorem dX12_commandOf_370 : decode cX12_commandOf 370 = .ok (.iload_n 1, 1) := by decide +kernel
theorem dX12_commandOf_371 : decode cX12_commandOf 371 = .ok (.iconst 0, 1) := by decide +kernel
theorem dX12_commandOf_372 : decode cX12_commandOf 372 = .ok (.invokevirtual 647, 3) := by decide +kernel
theorem dX12_commandOf_375 : decode cX12_commandOf 375 = .ok (.aload_n 0, 1) := by decide +kernel
theorem dX12_commandOf_376 : decode cX12_commandOf 376 = .ok (.iconst 3, 1) := by decide +kernel
theorem dX12_commandOf_377 : decode cX12_commandOf 377 = .ok (.iload_n 3, 1) := by decide +kernel
theorem dX12_commandOf_378 : decode cX12_commandOf 378 = .ok (.iconst 0, 1) := by decide +kernel
theorem dX12_commandOf_379 : decode cX12_commandOf 379 = .ok (.invokevirtual 647, 3) := by decide +kernel
theorem dX12_commandOf_382 : decode cX12_commandOf 382 = .ok (.goto 200, 3) := by decide +kernel
theorem dX12_commandOf_385 : decode cX12_commandOf 385 = .ok (.iload_n 2, 1) := by decide +kernel
theorem dX12_commandOf_386 : decode cX12_commandOf 386 = .ok (.bipush 36, 2) := by decide +kernel
theorem dX12_commandOf_388 : decode cX12_commandOf 388 = .ok (.if_icmp .ne 80, 3) := by decide +kernel
theorem dX12_commandOf_391 : decode cX12_commandOf 391 = .ok (.aload_n 0, 1) := by decide +kernel
theorem dX12_commandOf_392 : decode cX12_commandOf 392 = .ok (.invokevirtual 770, 3) := by decide +kernel
theorem dX12_commandOf_395 : decode cX12_commandOf 395 = .ok (.aload_n 0, 1) := by decide +kernel
theorem dX12_commandOf_396 : decode cX12_commandOf 396 = .ok (.iload_n 1, 1) := by decide +kernel
theorem dX12_commandOf_397 : decode cX12_commandOf 397 = .ok (.invokevirtual 773, 3) := by decide +kernel
theorem dX12_commandOf_400 : decode cX12_commandOf 400 = .ok (.aload_n 0, 1) := by decide +kernel
theorem dX12_commandOf_401 : decode cX12_commandOf 401 = .ok (.bipush 9, 2) := by decide +kernel
theorem dX12_commandOf_403 : decode cX12_commandOf 403 = .ok (.iconst 0, 1) := by decide +kernel
theorem dX12_commandOf_404 : decode cX12_commandOf 404 = .ok (.iconst 0, 1) := by decide +kernel
theorem dX12_commandOf_405 : decode cX12_commandOf 405 = .ok (.invokevirtual 647, 3) := by decide +kernel
theorem dX12_commandOf_408 : decode cX12_commandOf 408 = .ok (.aload_n 0, 1) := by decide +kernel
theorem dX12_commandOf_409 : decode cX12_commandOf 409 = .ok (.getfield 203, 3) := by decide +kernel
theorem dX12_commandOf_412 : decode cX12_commandOf 412 = .ok (.istore 4, 2) := by decide +kernel
theorem dX12_commandOf_414 : decode cX12_commandOf 414 = .ok (.iload_n 3, 1) := by decide +kernel
theorem dX12_commandOf_415 : decode cX12_commandOf 415 = .ok (.istore 5, 2) := by decide +kernel
theorem dX12_commandOf_417 : decode cX12_commandOf 417 = .ok (.iload 5, 2) := by decide +kernel
theorem dX12_commandOf_419 : decode cX12_commandOf 419 = .ok (.ifCond .lt 40, 3) := by decide +kernel
theorem dX12_commandOf_422 : decode cX12_commandOf 422 = .ok (.aload_n 0, 1) := by decide +kernel
theorem dX12_commandOf_423 : decode cX12_commandOf 423 = .ok (.aload_n 0, 1) := by decide +kernel
theorem dX12_commandOf_424 : decode cX12_commandOf 424 = .ok (.getfield 87, 3) := by decide +kernel
theorem dX12_commandOf_427 : decode cX12_commandOf 427 = .ok (.iload 5, 2) := by decide +kernel
theorem dX12_commandOf_429 : decode cX12_commandOf 429 = .ok (.baload, 1) := by decide +kernel
theorem dX12_commandOf_430 : decode cX12_commandOf 430 = .ok (.bipush 41, 2) := by decide +kernel
theorem dX12_commandOf_432 : decode cX12_commandOf 432 = .ok (.if_icmp .ne 8, 3) := by decide +kernel
theorem dX12_commandOf_435 : decode cX12_commandOf 435 = .ok (.bipush 13, 2) := by decide +kernel
theorem dX12_commandOf_437 : decode cX12_commandOf 437 = .ok (.goto 4, 3) := by decide +kernel
theorem dX12_commandOf_440 : decode cX12_commandOf 440 = .ok (.iconst 1, 1) := by decide +kernel
theorem dX12_commandOf_441 : decode cX12_commandOf 441 = .ok (.iload 5, 2) := by decide +kernel
theorem dX12_commandOf_443 : decode cX12_commandOf 443 = .ok (.iconst 0, 1) := by decide +kernel
theorem dX12_commandOf_444 : decode cX12_commandOf 444 = .ok (.invokevirtual 647, 3) := by decide +kernel
theorem dX12_commandOf_447 : decode cX12_commandOf 447 = .ok (.aload_n 0, 1) := by decide +kernel
theorem dX12_commandOf_448 : decode cX12_commandOf 448 = .ok (.getfield 96, 3) := by decide +kernel
theorem dX12_commandOf_451 : decode cX12_commandOf 451 = .ok (.iload 5, 2) := by decide +kernel
theorem dX12_commandOf_453 : decode cX12_commandOf 453 = .ok (.iaload, 1) := by decide +kernel
theorem dX12_commandOf_454 : decode cX12_commandOf 454 = .ok (.istore 5, 2) := by decide +kernel
theorem dX12_commandOf_456 : decode cX12_commandOf 456 = .ok (.goto (-39), 3) := by decide +kernel
theorem dX12_commandOf_459 : decode cX12_commandOf 459 = .ok (.aload_n 0, 1) := by decide +kernel
theorem dX12_commandOf_460 : decode cX12_commandOf 460 = .ok (.iload 4, 2) := by decide +kernel
theorem dX12_commandOf_462 : decode cX12_commandOf 462 = .ok (.invokevirtual 650, 3) := by decide +kernel
theorem dX12_commandOf_465 : decode cX12_commandOf 465 = .ok (.goto 117, 3) := by decide +kernel
theorem dX12_commandOf_468 : decode cX12_commandOf 468 = .ok (.iload_n 2, 1) := by decide +kernel
theorem dX12_commandOf_469 : decode cX12_commandOf 469 = .ok (.bipush 33, 2) := by decide +kernel
theorem dX12_commandOf_471 : decode cX12_commandOf 471 = .ok (.if_icmp .ne 36, 3) := by decide +kernel
theorem dX12_commandOf_474 : decode cX12_commandOf 474 = .ok (.aload_n 0, 1) := by decide +kernel
theorem dX12_commandOf_475 : decode cX12_commandOf 475 = .ok (.getfield 246, 3) := by decide +kernel
theorem dX12_commandOf_478 : decode cX12_commandOf 478 = .ok (.ifCond .ne 19, 3) := by decide +kernel
theorem dX12_commandOf_481 : decode cX12_commandOf 481 = .ok (.aload_n 0, 1) := by decide +kernel
theorem dX12_commandOf_482 : decode cX12_commandOf 482 = .ok (.bipush 6, 2) := by decide +kernel
theorem dX12_commandOf_484 : decode cX12_commandOf 484 = .ok (.aload_n 0, 1) := by decide +kernel
theorem dX12_commandOf_485 : decode cX12_commandOf 485 = .ok (.aload_n 0, 1) := by decide +kernel
theorem dX12_commandOf_486 : decode cX12_commandOf 486 = .ok (.getfield 90, 3) := by decide +kernel
theorem dX12_commandOf_489 : decode cX12_commandOf 489 = .ok (.iload_n 1, 1) := by decide +kernel
theorem dX12_commandOf_490 : decode cX12_commandOf 490 = .ok (.iaload, 1) := by decide +kernel
theorem dX12_commandOf_491 : decode cX12_commandOf 491 = .ok (.invokevirtual 613, 3) := by decide +kernel
theorem dX12_commandOf_494 : decode cX12_commandOf 494 = .ok (.invokevirtual 605, 3) := by decide +kernel
theorem dX12_commandOf_497 : decode cX12_commandOf 497 = .ok (.aload_n 0, 1) := by decide +kernel
theorem dX12_commandOf_498 : decode cX12_commandOf 498 = .ok (.iconst 3, 1) := by decide +kernel
theorem dX12_commandOf_499 : decode cX12_commandOf 499 = .ok (.iload_n 3, 1) := by decide +kernel
theorem dX12_commandOf_500 : decode cX12_commandOf 500 = .ok (.iconst 0, 1) := by decide +kernel
theorem dX12_commandOf_501 : decode cX12_commandOf 501 = .ok (.invokevirtual 647, 3) := by decide +kernel
theorem dX12_commandOf_504 : decode cX12_commandOf 504 = .ok (.goto 78, 3) := by decide +kernel
theorem dX12_commandOf_507 : decode cX12_commandOf 507 = .ok (.iload_n 2, 1) := by decide +kernel
theorem dX12_commandOf_508 : decode cX12_commandOf 508 = .ok (.bipush 35, 2) := by decide +kernel
theorem dX12_commandOf_510 : decode cX12_commandOf 510 = .ok (.if_icmp .ne 11, 3) := by decide +kernel
theorem dX12_commandOf_513 : decode cX12_commandOf 513 = .ok (.aload_n 0, 1) := by decide +kernel
theorem dX12_commandOf_514 : decode cX12_commandOf 514 = .ok (.iload_n 1, 1) := by decide +kernel
theorem dX12_commandOf_515 : decode cX12_commandOf 515 = .ok (.invokevirtual 779, 3) := by decide +kernel
theorem dX12_commandOf_518 : decode cX12_commandOf 518 = .ok (.goto 64, 3) := by decide +kernel
theorem dX12_commandOf_521 : decode cX12_commandOf 521 = .ok (.iload_n 2, 1) := by decide +kernel
theorem dX12_commandOf_522 : decode cX12_commandOf 522 = .ok (.bipush 29, 2) := by decide +kernel
theorem dX12_commandOf_524 : decode cX12_commandOf 524 = .ok (.if_icmp .eq 9, 3) := by decide +kernel
theorem dX12_commandOf_527 : decode cX12_commandOf 527 = .ok (.iload_n 2, 1) := by decide +kernel
theorem dX12_commandOf_528 : decode cX12_commandOf 528 = .ok (.bipush 30, 2) := by decide +kernel
theorem dX12_commandOf_530 : decode cX12_commandOf 530 = .ok (.if_icmp .ne 10, 3) := by decide +kernel
theorem dX12_commandOf_533 : decode cX12_commandOf 533 = .ok (.aload_n 0, 1) := by decide +kernel
theorem dX12_commandOf_534 : decode cX12_commandOf 534 = .ok (.getfield 252, 3) := by decide +kernel
theorem dX12_commandOf_537 : decode cX12_commandOf 537 = .ok (.ifCond .eq 29, 3) := by decide +kernel
theorem dX12_commandOf_540 : decode cX12_commandOf 540 = .ok (.iload_n 2, 1) := by decide +kernel
theorem dX12_commandOf_541 : decode cX12_commandOf 541 = .ok (.bipush 31, 2) := by decide +kernel
theorem dX12_commandOf_543 : decode cX12_commandOf 543 = .ok (.if_icmp .ne 10, 3) := by decide +kernel
theorem dX12_commandOf_546 : decode cX12_commandOf 546 = .ok (.aload_n 0, 1) := by decide +kernel
theorem dX12_commandOf_547 : decode cX12_commandOf 547 = .ok (.getfield 255, 3) := by decide +kernel
theorem dX12_commandOf_550 : decode cX12_commandOf 550 = .ok (.ifCond .eq 16, 3) := by decide +kernel
theorem dX12_commandOf_553 : decode cX12_commandOf 553 = .ok (.iload_n 2, 1) := by decide +kernel
theorem dX12_commandOf_554 : decode cX12_commandOf 554 = .ok (.bipush 32, 2) := by decide +kernel
theorem dX12_commandOf_556 : decode cX12_commandOf 556 = .ok (.if_icmp .ne 26, 3) := by decide +kernel
theorem dX12_commandOf_559 : decode cX12_commandOf 559 = .ok (.aload_n 0, 1) := by decide +kernel
theorem dX12_commandOf_560 : decode cX12_commandOf 560 = .ok (.getfield 243, 3) := by decide +kernel
theorem dX12_commandOf_563 : decode cX12_commandOf 563 = .ok (.ifCond .eq 19, 3) := by decide +kernel
theorem dX12_commandOf_566 : decode cX12_commandOf 566 = .ok (.aload_n 0, 1) := by decide +kernel
theorem dX12_commandOf_567 : decode cX12_commandOf 567 = .ok (.bipush 6, 2) := by decide +kernel
theorem dX12_commandOf_569 : decode cX12_commandOf 569 = .ok (.aload_n 0, 1) := by decide +kernel
theorem dX12_commandOf_570 : decode cX12_commandOf 570 = .ok (.aload_n 0, 1) := by decide +kernel
theorem dX12_commandOf_571 : decode cX12_commandOf 571 = .ok (.getfield 90, 3) := by decide +kernel
theorem dX12_commandOf_574 : decode cX12_commandOf 574 = .ok (.iload_n 1, 1) := by decide +kernel
theorem dX12_commandOf_575 : decode cX12_commandOf 575 = .ok (.iaload, 1) := by decide +kernel
theorem dX12_commandOf_576 : decode cX12_commandOf 576 = .ok (.invokevirtual 613, 3) := by decide +kernel
theorem dX12_commandOf_579 : decode cX12_commandOf 579 = .ok (.invokevirtual 605, 3) := by decide +kernel
theorem dX12_commandOf_582 : decode cX12_commandOf 582 = .ok (.return_, 1) := by decide +kernel
def wr_commandOf_191 (Q : zS → Prop)  (s0 : zS) (x3 : Int) : Prop :=
  wr_task s0 10 0 (-1) (fun s2 => (0 ≤ x3) ∧ (x3 < 26000) ∧ wr_task s2 2 (za s2 28 (Int.toNat x3)) 0 (fun s12 => wr_task s12 10 0 1 (fun s18 => wr_task s18 3 x3 0 (fun s24 => Q s24))))
def wr_commandOf_275 (Q : zS → Prop)  (s0 : zS) (x3 : Int) : Prop :=
  (0 ≤ x3) ∧ (x3 < 26000) ∧ wr_task s0 3 (za s0 28 (Int.toNat x3)) 0 (fun s6 => wr_task s6 10 0 (-1) (fun s12 => wr_task s12 2 x3 0 (fun s18 => (zR ((zv s18 79) + 1)) ∧ Q (zpv s18 79 ((zv s18 79) + 1)))))
def wr_commandOf_540 (Q : zS → Prop)  (s0 : zS) (x1 : Int) (x2 : Int) : Prop :=
  ((¬ x2 = 31 → ((¬ x2 = 32 → Q s0) ∧ (x2 = 32 → (((zv s0 76) = 0 → Q s0) ∧ (¬ (zv s0 76) = 0 → (0 ≤ x1) ∧ (x1 < 26000) ∧ wr_place s0 (za s0 26 (Int.toNat x1)) (fun r13 s14 => wr_fault s14 6 r13 (fun s20 => Q s20))))))) ∧ (x2 = 31 → (((zv s0 80) = 0 → (0 ≤ x1) ∧ (x1 < 26000) ∧ wr_place s0 (za s0 26 (Int.toNat x1)) (fun r32 s33 => wr_fault s33 6 r32 (fun s39 => Q s39))) ∧ (¬ (zv s0 80) = 0 → ((¬ x2 = 32 → Q s0) ∧ (x2 = 32 → (((zv s0 76) = 0 → Q s0) ∧ (¬ (zv s0 76) = 0 → (0 ≤ x1) ∧ (x1 < 26000) ∧ wr_place s0 (za s0 26 (Int.toNat x1)) (fun r55 s56 => wr_fault s56 6 r55 (fun s62 => Q s62))))))))))
def wr_commandOf_417B (Q : zS → Prop) (k417 : zS → Int → Int → Prop) (s0 : zS) (x4 : Int) (x5 : Int) : Prop :=
  ((x5 < 0 → wr_turn s0 x4 (fun s4 => Q s4)) ∧ (¬ x5 < 0 → (0 ≤ x5) ∧ (x5 < 26000) ∧ ((¬ (za s0 25 (Int.toNat x5)) = 41 → wr_task s0 1 x5 0 (fun s17 => (0 ≤ x5) ∧ (x5 < 26000) ∧ k417 s17 x4 (za s17 28 (Int.toNat x5)))) ∧ ((za s0 25 (Int.toNat x5)) = 41 → wr_task s0 13 x5 0 (fun s28 => (0 ≤ x5) ∧ (x5 < 26000) ∧ k417 s28 x4 (za s28 28 (Int.toNat x5)))))))
def wr_commandOf_417 (Q : zS → Prop)  : Nat → zS → Int → Int → Prop
  | 0 => fun _ _ _ => False
  | m + 1 => fun s0 x4 x5 => wr_commandOf_417B Q  (wr_commandOf_417 Q  m) s0 x4 x5
def wr_commandOf_32B (Q : zS → Prop) (k32 : zS → Int → Int → Int → Int → Prop) (s0 : zS) (x1 : Int) (x4 : Int) (x5 : Int) (x6 : Int) : Prop :=
  ((x6 < 0 → wr_turn s0 x4 (fun s4 => Q s4)) ∧ (¬ x6 < 0 → (0 ≤ x1) ∧ (x1 < 26000) ∧ (((za s0 29 (Int.toNat x1)) ≤ x5 → wr_task s0 3 x6 0 (fun s17 => (0 ≤ x6) ∧ (x6 < 26000) ∧ (zR (x5 + 1)) ∧ k32 s17 x1 x4 (x5 + 1) (za s17 28 (Int.toNat x6)))) ∧ (¬ (za s0 29 (Int.toNat x1)) ≤ x5 → wr_task s0 4 x6 0 (fun s30 => (0 ≤ x6) ∧ (x6 < 26000) ∧ (zR (x5 + 1)) ∧ k32 s30 x1 x4 (x5 + 1) (za s30 28 (Int.toNat x6)))))))
def wr_commandOf_32 (Q : zS → Prop)  : Nat → zS → Int → Int → Int → Int → Prop
  | 0 => fun _ _ _ _ _ => False
  | m + 1 => fun s0 x1 x4 x5 x6 => wr_commandOf_32B Q  (wr_commandOf_32 Q  m) s0 x1 x4 x5 x6
def wr_commandOf (s0 : zS) (a0 : Int) (Q : zS → Prop) : Prop :=
  (0 ≤ a0) ∧ (a0 < 26000) ∧ (0 ≤ a0) ∧ (a0 < 26000) ∧ ((¬ (za s0 25 (Int.toNat a0)) = 20 → ((¬ (za s0 25 (Int.toNat a0)) = 21 → (((za s0 25 (Int.toNat a0)) = 22 → (0 ≤ (za s0 27 (Int.toNat a0))) ∧ ((za s0 27 (Int.toNat a0)) < 26000) ∧ wr_task s0 2 (za s0 28 (Int.toNat (za s0 27 (Int.toNat a0)))) 0 (fun s20 => wr_task s20 3 (za s0 27 (Int.toNat a0)) 0 (fun s26 => Q s26))) ∧ (¬ (za s0 25 (Int.toNat a0)) = 22 → ((¬ (za s0 25 (Int.toNat a0)) = 23 → ((¬ (za s0 25 (Int.toNat a0)) = 24 → (((za s0 25 (Int.toNat a0)) = 25 → wr_commandOf_191 Q  s0 (za s0 27 (Int.toNat a0))) ∧ (¬ (za s0 25 (Int.toNat a0)) = 25 → ((¬ (za s0 25 (Int.toNat a0)) = 26 → ((¬ (za s0 25 (Int.toNat a0)) = 38 → (((za s0 25 (Int.toNat a0)) = 39 → wr_commandOf_275 Q  s0 (za s0 27 (Int.toNat a0))) ∧ (¬ (za s0 25 (Int.toNat a0)) = 39 → ((¬ (za s0 25 (Int.toNat a0)) = 40 → ((¬ (za s0 25 (Int.toNat a0)) = 27 → ((¬ (za s0 25 (Int.toNat a0)) = 28 → ((¬ (za s0 25 (Int.toNat a0)) = 36 → ((¬ (za s0 25 (Int.toNat a0)) = 33 → ((¬ (za s0 25 (Int.toNat a0)) = 35 → (((za s0 25 (Int.toNat a0)) = 29 → (((zv s0 79) = 0 → (0 ≤ a0) ∧ (a0 < 26000) ∧ wr_place s0 (za s0 26 (Int.toNat a0)) (fun r66 s67 => wr_fault s67 6 r66 (fun s73 => Q s73))) ∧ (¬ (zv s0 79) = 0 → wr_commandOf_540 Q  s0 a0 (za s0 25 (Int.toNat a0))))) ∧ (¬ (za s0 25 (Int.toNat a0)) = 29 → ((¬ (za s0 25 (Int.toNat a0)) = 30 → wr_commandOf_540 Q  s0 a0 (za s0 25 (Int.toNat a0))) ∧ ((za s0 25 (Int.toNat a0)) = 30 → (((zv s0 79) = 0 → (0 ≤ a0) ∧ (a0 < 26000) ∧ wr_place s0 (za s0 26 (Int.toNat a0)) (fun r89 s90 => wr_fault s90 6 r89 (fun s96 => Q s96))) ∧ (¬ (zv s0 79) = 0 → wr_commandOf_540 Q  s0 a0 (za s0 25 (Int.toNat a0))))))))) ∧ ((za s0 25 (Int.toNat a0)) = 35 → wr_goesTo s0 a0 (fun s104 => Q s104)))) ∧ ((za s0 25 (Int.toNat a0)) = 33 → ((¬ (zv s0 77) = 0 → wr_task s0 3 (za s0 27 (Int.toNat a0)) 0 (fun s113 => Q s113)) ∧ ((zv s0 77) = 0 → (0 ≤ a0) ∧ (a0 < 26000) ∧ wr_place s0 (za s0 26 (Int.toNat a0)) (fun r123 s124 => wr_fault s124 6 r123 (fun s130 => wr_task s130 3 (za s0 27 (Int.toNat a0)) 0 (fun s136 => Q s136)))))))) ∧ ((za s0 25 (Int.toNat a0)) = 36 → wr_beginBlock s0  (fun s143 => wr_labelsOf s143 a0 (fun s149 => wr_task s149 9 0 0 (fun s155 => ∃ n, wr_commandOf_417 Q  n s155 (zv s155 63) (za s0 27 (Int.toNat a0)))))))) ∧ ((za s0 25 (Int.toNat a0)) = 28 → wr_task s0 12 a0 0 (fun s164 => wr_task s164 3 (za s0 27 (Int.toNat a0)) 0 (fun s170 => Q s170))))) ∧ ((za s0 25 (Int.toNat a0)) = 27 → wr_task s0 11 a0 0 (fun s177 => (0 ≤ (za s0 27 (Int.toNat a0))) ∧ ((za s0 27 (Int.toNat a0)) < 26000) ∧ (0 ≤ (za s177 28 (Int.toNat (za s0 27 (Int.toNat a0))))) ∧ ((za s177 28 (Int.toNat (za s0 27 (Int.toNat a0)))) < 26000) ∧ wr_task s177 3 (za s177 28 (Int.toNat (za s177 28 (Int.toNat (za s0 27 (Int.toNat a0)))))) 0 (fun s191 => (0 ≤ (za s0 27 (Int.toNat a0))) ∧ ((za s0 27 (Int.toNat a0)) < 26000) ∧ wr_task s191 3 (za s191 28 (Int.toNat (za s0 27 (Int.toNat a0)))) 0 (fun s201 => Q s201)))))) ∧ ((za s0 25 (Int.toNat a0)) = 40 → wr_commandOf_275 Q  s0 (za s0 27 (Int.toNat a0))))))) ∧ ((za s0 25 (Int.toNat a0)) = 38 → wr_task s0 10 0 (-1) (fun s209 => wr_task s209 2 (za s0 27 (Int.toNat a0)) 0 (fun s215 => (zR ((zv s215 79) + 1)) ∧ Q (zpv s215 79 ((zv s215 79) + 1))))))) ∧ ((za s0 25 (Int.toNat a0)) = 26 → wr_commandOf_191 Q  s0 (za s0 27 (Int.toNat a0))))))) ∧ ((za s0 25 (Int.toNat a0)) = 24 → (0 ≤ (za s0 27 (Int.toNat a0))) ∧ ((za s0 27 (Int.toNat a0)) < 26000) ∧ (0 ≤ (za s0 28 (Int.toNat (za s0 27 (Int.toNat a0))))) ∧ ((za s0 28 (Int.toNat (za s0 27 (Int.toNat a0)))) < 26000) ∧ wr_task s0 2 (za s0 28 (Int.toNat (za s0 28 (Int.toNat (za s0 27 (Int.toNat a0)))))) 0 (fun s235 => (0 ≤ (za s0 27 (Int.toNat a0))) ∧ ((za s0 27 (Int.toNat a0)) < 26000) ∧ wr_task s235 2 (za s235 28 (Int.toNat (za s0 27 (Int.toNat a0)))) 0 (fun s245 => wr_task s245 3 (za s0 27 (Int.toNat a0)) 0 (fun s251 => Q s251)))))) ∧ ((za s0 25 (Int.toNat a0)) = 23 → (0 ≤ (za s0 27 (Int.toNat a0))) ∧ ((za s0 27 (Int.toNat a0)) < 26000) ∧ wr_task s0 2 (za s0 28 (Int.toNat (za s0 27 (Int.toNat a0)))) 0 (fun s262 => wr_task s262 3 (za s0 27 (Int.toNat a0)) 0 (fun s268 => Q s268))))))) ∧ ((za s0 25 (Int.toNat a0)) = 21 → wr_task s0 3 (za s0 27 (Int.toNat a0)) 0 (fun s275 => Q s275)))) ∧ ((za s0 25 (Int.toNat a0)) = 20 → ∃ n, wr_commandOf_32 Q  n s0 a0 (zv s0 63) 0 (za s0 27 (Int.toNat a0))))
set_option maxHeartbeats 4000000 in
set_option maxRecDepth 100000 in
theorem rj_commandOf_191 {X : gX} {d : gD} {b t : Nat} {T : Nat → Nat} {F0 : gM} (hC : gC RX12 cX12_commandOf 7 none "commandOf" (gR 4 0 0) d b X) {Q : zS → Prop}   {F : gM} {s0 : zS} {x3 : Int} (Rx3 : zR x3) (hZ : zZ d t T F0 F s0) (hw : wr_commandOf_191 Q  s0 x3) : gG X d b (zQv X d b t T F0 Q) F 0 0 191 [some (.ref t), none, none, some (.int (zI x3)), none, none, none] [] := by
  unfold wr_commandOf_191 at hw
  refine g_aload_n hC dX12_commandOf_191 rfl ?_
  refine g_bipush (v := zI 10) hC dX12_commandOf_192 rfl ?_
  refine g_iconst (v := zI 0) hC dX12_commandOf_194 rfl ?_
  refine g_iconst (v := zI (-1)) hC dX12_commandOf_195 rfl ?_
  refine zr_callVv (As := [.int (zI 10), .int (zI 0), .int (zI (-1))]) hC hZ rfl (rm_task X.la d b (by decide) (by decide) (by decide) hZ.rf hw) cl_X12_647 rfl rfl (Nat.le_of_ble_eq_true rfl) ⟨Nat.le_of_ble_eq_true rfl, Nat.le_of_ble_eq_true rfl⟩ dX12_commandOf_196 (fun s2 F3 hZ5 h6 => ?_)
  refine g_aload_n hC dX12_commandOf_199 rfl ?_
  refine g_iconst (v := zI 2) hC dX12_commandOf_200 rfl ?_
  refine g_aload_n hC dX12_commandOf_201 rfl ?_
  refine zr_geta hC hZ5 fl_X12_96 zb_28 (by decide) dX12_commandOf_202 ?_
  refine g_iload_n hC dX12_commandOf_205 rfl ?_
  obtain ⟨o7, h8⟩ := h6
  obtain ⟨o9, h10⟩ := h8
  refine zr_iald (v := (za s2 28 (Int.toNat x3))) hC hZ5 zk_28 zb_28 zn_28 (by decide) o7 o9 rfl dX12_commandOf_206 ?_
  refine g_iconst (v := zI 0) hC dX12_commandOf_207 rfl ?_
  refine zr_callVv (As := [.int (zI 2), .int (zI (za s2 28 (Int.toNat x3))), .int (zI 0)]) hC hZ5 rfl (rm_task X.la d b (by decide) (hZ5.ra 28 _) (by decide) hZ5.rf h10) cl_X12_647 rfl rfl (Nat.le_of_ble_eq_true rfl) ⟨Nat.le_of_ble_eq_true rfl, Nat.le_of_ble_eq_true rfl⟩ dX12_commandOf_208 (fun s12 F13 hZ15 h16 => ?_)
  refine g_aload_n hC dX12_commandOf_211 rfl ?_
  refine g_bipush (v := zI 10) hC dX12_commandOf_212 rfl ?_
  refine g_iconst (v := zI 0) hC dX12_commandOf_214 rfl ?_
  refine g_iconst (v := zI 1) hC dX12_commandOf_215 rfl ?_
  refine zr_callVv (As := [.int (zI 10), .int (zI 0), .int (zI 1)]) hC hZ15 rfl (rm_task X.la d b (by decide) (by decide) (by decide) hZ15.rf h16) cl_X12_647 rfl rfl (Nat.le_of_ble_eq_true rfl) ⟨Nat.le_of_ble_eq_true rfl, Nat.le_of_ble_eq_true rfl⟩ dX12_commandOf_216 (fun s18 F19 hZ21 h22 => ?_)
  refine g_aload_n hC dX12_commandOf_219 rfl ?_
  refine g_iconst (v := zI 3) hC dX12_commandOf_220 rfl ?_
  refine g_iload_n hC dX12_commandOf_221 rfl ?_
  refine g_iconst (v := zI 0) hC dX12_commandOf_222 rfl ?_
  refine zr_callVv (As := [.int (zI 3), .int (zI x3), .int (zI 0)]) hC hZ21 rfl (rm_task X.la d b (by decide) Rx3 (by decide) hZ21.rf h22) cl_X12_647 rfl rfl (Nat.le_of_ble_eq_true rfl) ⟨Nat.le_of_ble_eq_true rfl, Nat.le_of_ble_eq_true rfl⟩ dX12_commandOf_223 (fun s24 F25 hZ27 h28 => ?_)
  refine g_goto (tgt := 582) hC dX12_commandOf_226 (by decide) ?_
  exact zr_vret hC hZ27 h28 dX12_commandOf_582
set_option maxHeartbeats 4000000 in
set_option maxRecDepth 100000 in
theorem rj_commandOf_275 {X : gX} {d : gD} {b t : Nat} {T : Nat → Nat} {F0 : gM} (hC : gC RX12 cX12_commandOf 7 none "commandOf" (gR 4 0 0) d b X) {Q : zS → Prop}   {F : gM} {s0 : zS} {x3 : Int} (Rx3 : zR x3) (hZ : zZ d t T F0 F s0) (hw : wr_commandOf_275 Q  s0 x3) : gG X d b (zQv X d b t T F0 Q) F 0 0 275 [some (.ref t), none, none, some (.int (zI x3)), none, none, none] [] := by
  unfold wr_commandOf_275 at hw
  refine g_aload_n hC dX12_commandOf_275 rfl ?_
  refine g_iconst (v := zI 3) hC dX12_commandOf_276 rfl ?_
  refine g_aload_n hC dX12_commandOf_277 rfl ?_
  refine zr_geta hC hZ fl_X12_96 zb_28 (by decide) dX12_commandOf_278 ?_
  refine g_iload_n hC dX12_commandOf_281 rfl ?_
  obtain ⟨o1, h2⟩ := hw
  obtain ⟨o3, h4⟩ := h2
  refine zr_iald (v := (za s0 28 (Int.toNat x3))) hC hZ zk_28 zb_28 zn_28 (by decide) o1 o3 rfl dX12_commandOf_282 ?_
  refine g_iconst (v := zI 0) hC dX12_commandOf_283 rfl ?_
  refine zr_callVv (As := [.int (zI 3), .int (zI (za s0 28 (Int.toNat x3))), .int (zI 0)]) hC hZ rfl (rm_task X.la d b (by decide) (hZ.ra 28 _) (by decide) hZ.rf h4) cl_X12_647 rfl rfl (Nat.le_of_ble_eq_true rfl) ⟨Nat.le_of_ble_eq_true rfl, Nat.le_of_ble_eq_true rfl⟩ dX12_commandOf_284 (fun s6 F7 hZ9 h10 => ?_)
  refine g_aload_n hC dX12_commandOf_287 rfl ?_
  refine g_bipush (v := zI 10) hC dX12_commandOf_288 rfl ?_
  refine g_iconst (v := zI 0) hC dX12_commandOf_290 rfl ?_
  refine g_iconst (v := zI (-1)) hC dX12_commandOf_291 rfl ?_
  refine zr_callVv (As := [.int (zI 10), .int (zI 0), .int (zI (-1))]) hC hZ9 rfl (rm_task X.la d b (by decide) (by decide) (by decide) hZ9.rf h10) cl_X12_647 rfl rfl (Nat.le_of_ble_eq_true rfl) ⟨Nat.le_of_ble_eq_true rfl, Nat.le_of_ble_eq_true rfl⟩ dX12_commandOf_292 (fun s12 F13 hZ15 h16 => ?_)
  refine g_aload_n hC dX12_commandOf_295 rfl ?_
  refine g_iconst (v := zI 2) hC dX12_commandOf_296 rfl ?_
  refine g_iload_n hC dX12_commandOf_297 rfl ?_
  refine g_iconst (v := zI 0) hC dX12_commandOf_298 rfl ?_
  refine zr_callVv (As := [.int (zI 2), .int (zI x3), .int (zI 0)]) hC hZ15 rfl (rm_task X.la d b (by decide) Rx3 (by decide) hZ15.rf h16) cl_X12_647 rfl rfl (Nat.le_of_ble_eq_true rfl) ⟨Nat.le_of_ble_eq_true rfl, Nat.le_of_ble_eq_true rfl⟩ dX12_commandOf_299 (fun s18 F19 hZ21 h22 => ?_)
  refine g_aload_n hC dX12_commandOf_302 rfl ?_
  refine g_dup hC dX12_commandOf_303 rfl ?_
  refine zr_get (e := (zv s18 79)) hC hZ21 fl_X12_252 zb_79 (by decide) rfl dX12_commandOf_304 ?_
  refine g_iconst (v := zI 1) hC dX12_commandOf_307 rfl ?_
  refine zr_iadd hC dX12_commandOf_308 ?_
  obtain ⟨o23, h24⟩ := h22
  refine zr_put hC hZ21 fl_X12_252 zb_79 (by decide) o23 dX12_commandOf_309 (fun F25 hZ26 => ?_)
  refine g_goto (tgt := 582) hC dX12_commandOf_312 (by decide) ?_
  exact zr_vret hC hZ26 h24 dX12_commandOf_582
set_option maxHeartbeats 4000000 in
set_option maxRecDepth 100000 in
theorem rj_commandOf_540 {X : gX} {d : gD} {b t : Nat} {T : Nat → Nat} {F0 : gM} (hC : gC RX12 cX12_commandOf 7 none "commandOf" (gR 4 0 0) d b X) {Q : zS → Prop}   {F : gM} {s0 : zS} {x1 : Int} {x2 : Int} (Rx1 : zR x1) (Rx2 : zR x2) (hZ : zZ d t T F0 F s0) (hw : wr_commandOf_540 Q  s0 x1 x2) : gG X d b (zQv X d b t T F0 Q) F 0 0 540 [some (.ref t), some (.int (zI x1)), some (.int (zI x2)), none, none, none, none] [] := by
  unfold wr_commandOf_540 at hw
  refine g_iload_n hC dX12_commandOf_540 rfl ?_
  refine g_bipush (v := zI 31) hC dX12_commandOf_541 rfl ?_
  refine zr_icmp_ne (tgt := 553) hC Rx2 (by decide) dX12_commandOf_543 (by decide) (fun c1 => ?_) (fun c1 => ?_)
  · have h2 := hw.1 c1
    refine g_iload_n hC dX12_commandOf_553 rfl ?_
    refine g_bipush (v := zI 32) hC dX12_commandOf_554 rfl ?_
    refine zr_icmp_ne (tgt := 582) hC Rx2 (by decide) dX12_commandOf_556 (by decide) (fun c3 => ?_) (fun c3 => ?_)
    · have h4 := h2.1 c3
      exact zr_vret hC hZ h4 dX12_commandOf_582
    · have h5 := h2.2 c3
      refine g_aload_n hC dX12_commandOf_559 rfl ?_
      refine zr_get (e := (zv s0 76)) hC hZ fl_X12_243 zb_76 (by decide) rfl dX12_commandOf_560 ?_
      refine zr_if_eq (tgt := 582) hC (hZ.rv 76) dX12_commandOf_563 (by decide) (fun c6 => ?_) (fun c6 => ?_)
      · have h7 := h5.1 c6
        exact zr_vret hC hZ h7 dX12_commandOf_582
      · have h8 := h5.2 c6
        refine g_aload_n hC dX12_commandOf_566 rfl ?_
        refine g_bipush (v := zI 6) hC dX12_commandOf_567 rfl ?_
        refine g_aload_n hC dX12_commandOf_569 rfl ?_
        refine g_aload_n hC dX12_commandOf_570 rfl ?_
        refine zr_geta hC hZ fl_X12_90 zb_26 (by decide) dX12_commandOf_571 ?_
        refine g_iload_n hC dX12_commandOf_574 rfl ?_
        obtain ⟨o9, h10⟩ := h8
        obtain ⟨o11, h12⟩ := h10
        refine zr_iald (v := (za s0 26 (Int.toNat x1))) hC hZ zk_26 zb_26 zn_26 (by decide) o9 o11 rfl dX12_commandOf_575 ?_
        refine zr_callVi (As := [.int (zI (za s0 26 (Int.toNat x1)))]) hC hZ rfl (rm_place X.la d b (hZ.ra 26 _) hZ.rf h12) cl_X12_613 rfl rfl (Nat.le_of_ble_eq_true rfl) ⟨Nat.le_of_ble_eq_true rfl, Nat.le_of_ble_eq_true rfl⟩ dX12_commandOf_576 (fun r13 s14 F15 R16 hZ17 h18 => ?_)
        refine zr_callVv (As := [.int (zI 6), .int (zI r13)]) hC hZ17 rfl (rm_fault X.la d b (by decide) R16 hZ17.rf h18) cl_X12_605 rfl rfl (Nat.le_of_ble_eq_true rfl) ⟨Nat.le_of_ble_eq_true rfl, Nat.le_of_ble_eq_true rfl⟩ dX12_commandOf_579 (fun s20 F21 hZ23 h24 => ?_)
        exact zr_vret hC hZ23 h24 dX12_commandOf_582
  · have h25 := hw.2 c1
    refine g_aload_n hC dX12_commandOf_546 rfl ?_
    refine zr_get (e := (zv s0 80)) hC hZ fl_X12_255 zb_80 (by decide) rfl dX12_commandOf_547 ?_
    refine zr_if_eq (tgt := 566) hC (hZ.rv 80) dX12_commandOf_550 (by decide) (fun c26 => ?_) (fun c26 => ?_)
    · have h27 := h25.1 c26
      refine g_aload_n hC dX12_commandOf_566 rfl ?_
      refine g_bipush (v := zI 6) hC dX12_commandOf_567 rfl ?_
      refine g_aload_n hC dX12_commandOf_569 rfl ?_
      refine g_aload_n hC dX12_commandOf_570 rfl ?_
      refine zr_geta hC hZ fl_X12_90 zb_26 (by decide) dX12_commandOf_571 ?_
      refine g_iload_n hC dX12_commandOf_574 rfl ?_
      obtain ⟨o28, h29⟩ := h27
      obtain ⟨o30, h31⟩ := h29
      refine zr_iald (v := (za s0 26 (Int.toNat x1))) hC hZ zk_26 zb_26 zn_26 (by decide) o28 o30 rfl dX12_commandOf_575 ?_
      refine zr_callVi (As := [.int (zI (za s0 26 (Int.toNat x1)))]) hC hZ rfl (rm_place X.la d b (hZ.ra 26 _) hZ.rf h31) cl_X12_613 rfl rfl (Nat.le_of_ble_eq_true rfl) ⟨Nat.le_of_ble_eq_true rfl, Nat.le_of_ble_eq_true rfl⟩ dX12_commandOf_576 (fun r32 s33 F34 R35 hZ36 h37 => ?_)
      refine zr_callVv (As := [.int (zI 6), .int (zI r32)]) hC hZ36 rfl (rm_fault X.la d b (by decide) R35 hZ36.rf h37) cl_X12_605 rfl rfl (Nat.le_of_ble_eq_true rfl) ⟨Nat.le_of_ble_eq_true rfl, Nat.le_of_ble_eq_true rfl⟩ dX12_commandOf_579 (fun s39 F40 hZ42 h43 => ?_)
      exact zr_vret hC hZ42 h43 dX12_commandOf_582
    · have h44 := h25.2 c26
      refine g_iload_n hC dX12_commandOf_553 rfl ?_
      refine g_bipush (v := zI 32) hC dX12_commandOf_554 rfl ?_
      refine zr_icmp_ne (tgt := 582) hC Rx2 (by decide) dX12_commandOf_556 (by decide) (fun c45 => ?_) (fun c45 => ?_)
      · have h46 := h44.1 c45
        exact zr_vret hC hZ h46 dX12_commandOf_582
      · have h47 := h44.2 c45
        refine g_aload_n hC dX12_commandOf_559 rfl ?_
        refine zr_get (e := (zv s0 76)) hC hZ fl_X12_243 zb_76 (by decide) rfl dX12_commandOf_560 ?_
        refine zr_if_eq (tgt := 582) hC (hZ.rv 76) dX12_commandOf_563 (by decide) (fun c48 => ?_) (fun c48 => ?_)
        · have h49 := h47.1 c48
          exact zr_vret hC hZ h49 dX12_commandOf_582
        · have h50 := h47.2 c48
          refine g_aload_n hC dX12_commandOf_566 rfl ?_
          refine g_bipush (v := zI 6) hC dX12_commandOf_567 rfl ?_
          refine g_aload_n hC dX12_commandOf_569 rfl ?_
          refine g_aload_n hC dX12_commandOf_570 rfl ?_
          refine zr_geta hC hZ fl_X12_90 zb_26 (by decide) dX12_commandOf_571 ?_
          refine g_iload_n hC dX12_commandOf_574 rfl ?_
          obtain ⟨o51, h52⟩ := h50
          obtain ⟨o53, h54⟩ := h52
          refine zr_iald (v := (za s0 26 (Int.toNat x1))) hC hZ zk_26 zb_26 zn_26 (by decide) o51 o53 rfl dX12_commandOf_575 ?_
          refine zr_callVi (As := [.int (zI (za s0 26 (Int.toNat x1)))]) hC hZ rfl (rm_place X.la d b (hZ.ra 26 _) hZ.rf h54) cl_X12_613 rfl rfl (Nat.le_of_ble_eq_true rfl) ⟨Nat.le_of_ble_eq_true rfl, Nat.le_of_ble_eq_true rfl⟩ dX12_commandOf_576 (fun r55 s56 F57 R58 hZ59 h60 => ?_)
          refine zr_callVv (As := [.int (zI 6), .int (zI r55)]) hC hZ59 rfl (rm_fault X.la d b (by decide) R58 hZ59.rf h60) cl_X12_605 rfl rfl (Nat.le_of_ble_eq_true rfl) ⟨Nat.le_of_ble_eq_true rfl, Nat.le_of_ble_eq_true rfl⟩ dX12_commandOf_579 (fun s62 F63 hZ65 h66 => ?_)
          exact zr_vret hC hZ65 h66 dX12_commandOf_582
set_option maxHeartbeats 4000000 in
set_option maxRecDepth 100000 in
theorem rb_commandOf_417 {X : gX} {d : gD} {b t : Nat} {T : Nat → Nat} {F0 : gM} (hC : gC RX12 cX12_commandOf 7 none "commandOf" (gR 4 0 0) d b X) {Q : zS → Prop} {k417 : zS → Int → Int → Prop} (hk417 : ∀ (F : gM) (s0 : zS) (x4 : Int) (x5 : Int), zR x4 → zR x5 → zZ d t T F0 F s0 → k417 s0 x4 x5 → gG X d b (zQv X d b t T F0 Q) F 0 0 417 [some (.ref t), none, none, none, some (.int (zI x4)), some (.int (zI x5)), none] []) {F : gM} {s0 : zS} {x4 : Int} {x5 : Int} (Rx4 : zR x4) (Rx5 : zR x5) (hZ : zZ d t T F0 F s0) (hw : wr_commandOf_417B Q k417 s0 x4 x5) : gG X d b (zQv X d b t T F0 Q) F 0 0 417 [some (.ref t), none, none, none, some (.int (zI x4)), some (.int (zI x5)), none] [] := by
  unfold wr_commandOf_417B at hw
  refine g_iload hC dX12_commandOf_417 rfl ?_
  refine zr_if_lt (tgt := 459) hC Rx5 dX12_commandOf_419 (by decide) (fun c1 => ?_) (fun c1 => ?_)
  · have h2 := hw.1 c1
    refine g_aload_n hC dX12_commandOf_459 rfl ?_
    refine g_iload hC dX12_commandOf_460 rfl ?_
    refine zr_callVv (As := [.int (zI x4)]) hC hZ rfl (rm_turn X.la d b Rx4 hZ.rf h2) cl_X12_650 rfl rfl (Nat.le_of_ble_eq_true rfl) ⟨Nat.le_of_ble_eq_true rfl, Nat.le_of_ble_eq_true rfl⟩ dX12_commandOf_462 (fun s4 F5 hZ7 h8 => ?_)
    refine g_goto (tgt := 582) hC dX12_commandOf_465 (by decide) ?_
    exact zr_vret hC hZ7 h8 dX12_commandOf_582
  · have h9 := hw.2 c1
    refine g_aload_n hC dX12_commandOf_422 rfl ?_
    refine g_aload_n hC dX12_commandOf_423 rfl ?_
    refine zr_geta hC hZ fl_X12_87 zb_25 (by decide) dX12_commandOf_424 ?_
    refine g_iload hC dX12_commandOf_427 rfl ?_
    obtain ⟨o10, h11⟩ := h9
    obtain ⟨o12, h13⟩ := h11
    refine zr_bald (v := (za s0 25 (Int.toNat x5))) hC hZ zk_25 zb_25 zn_25 (by decide) o10 o12 rfl dX12_commandOf_429 ?_
    refine g_bipush (v := zI 41) hC dX12_commandOf_430 rfl ?_
    refine zr_icmp_ne (tgt := 440) hC (hZ.ra 25 _) (by decide) dX12_commandOf_432 (by decide) (fun c14 => ?_) (fun c14 => ?_)
    · have h15 := h13.1 c14
      refine g_iconst (v := zI 1) hC dX12_commandOf_440 rfl ?_
      refine g_iload hC dX12_commandOf_441 rfl ?_
      refine g_iconst (v := zI 0) hC dX12_commandOf_443 rfl ?_
      refine zr_callVv (As := [.int (zI 1), .int (zI x5), .int (zI 0)]) hC hZ rfl (rm_task X.la d b (by decide) Rx5 (by decide) hZ.rf h15) cl_X12_647 rfl rfl (Nat.le_of_ble_eq_true rfl) ⟨Nat.le_of_ble_eq_true rfl, Nat.le_of_ble_eq_true rfl⟩ dX12_commandOf_444 (fun s17 F18 hZ20 h21 => ?_)
      refine g_aload_n hC dX12_commandOf_447 rfl ?_
      refine zr_geta hC hZ20 fl_X12_96 zb_28 (by decide) dX12_commandOf_448 ?_
      refine g_iload hC dX12_commandOf_451 rfl ?_
      obtain ⟨o22, h23⟩ := h21
      obtain ⟨o24, h25⟩ := h23
      refine zr_iald (v := (za s17 28 (Int.toNat x5))) hC hZ20 zk_28 zb_28 zn_28 (by decide) o22 o24 rfl dX12_commandOf_453 ?_
      refine g_istore (lv' := [some (.ref t), none, none, none, some (.int (zI x4)), some (.int (zI (za s17 28 (Int.toNat x5)))), none]) hC dX12_commandOf_454 (Nat.le_of_ble_eq_true rfl) rfl rfl ?_
      refine g_goto (tgt := 417) hC dX12_commandOf_456 (by decide) ?_
      exact hk417 _ _ _ _ Rx4 (hZ20.ra 28 _) hZ20 h25
    · have h26 := h13.2 c14
      refine g_bipush (v := zI 13) hC dX12_commandOf_435 rfl ?_
      refine g_goto (tgt := 441) hC dX12_commandOf_437 (by decide) ?_
      refine g_iload hC dX12_commandOf_441 rfl ?_
      refine g_iconst (v := zI 0) hC dX12_commandOf_443 rfl ?_
      refine zr_callVv (As := [.int (zI 13), .int (zI x5), .int (zI 0)]) hC hZ rfl (rm_task X.la d b (by decide) Rx5 (by decide) hZ.rf h26) cl_X12_647 rfl rfl (Nat.le_of_ble_eq_true rfl) ⟨Nat.le_of_ble_eq_true rfl, Nat.le_of_ble_eq_true rfl⟩ dX12_commandOf_444 (fun s28 F29 hZ31 h32 => ?_)
      refine g_aload_n hC dX12_commandOf_447 rfl ?_
      refine zr_geta hC hZ31 fl_X12_96 zb_28 (by decide) dX12_commandOf_448 ?_
      refine g_iload hC dX12_commandOf_451 rfl ?_
      obtain ⟨o33, h34⟩ := h32
      obtain ⟨o35, h36⟩ := h34
      refine zr_iald (v := (za s28 28 (Int.toNat x5))) hC hZ31 zk_28 zb_28 zn_28 (by decide) o33 o35 rfl dX12_commandOf_453 ?_
      refine g_istore (lv' := [some (.ref t), none, none, none, some (.int (zI x4)), some (.int (zI (za s28 28 (Int.toNat x5)))), none]) hC dX12_commandOf_454 (Nat.le_of_ble_eq_true rfl) rfl rfl ?_
      refine g_goto (tgt := 417) hC dX12_commandOf_456 (by decide) ?_
      exact hk417 _ _ _ _ Rx4 (hZ31.ra 28 _) hZ31 h36
theorem rl_commandOf_417 {X : gX} {d : gD} {b t : Nat} {T : Nat → Nat} {F0 : gM} (hC : gC RX12 cX12_commandOf 7 none "commandOf" (gR 4 0 0) d b X) {Q : zS → Prop}   : ∀ (m : Nat) (F : gM) (s0 : zS) (x4 : Int) (x5 : Int), zR x4 → zR x5 → zZ d t T F0 F s0 → wr_commandOf_417 Q  m s0 x4 x5 → gG X d b (zQv X d b t T F0 Q) F 0 0 417 [some (.ref t), none, none, none, some (.int (zI x4)), some (.int (zI x5)), none] [] := by
  intro m
  induction m with
  | zero => intro F s0 x4 x5 Rx4 Rx5 hZ hw; exact False.elim hw
  | succ m ih => intro F s0 x4 x5 Rx4 Rx5 hZ hw; exact rb_commandOf_417 hC  ih Rx4 Rx5 hZ hw
set_option maxHeartbeats 4000000 in
set_option maxRecDepth 100000 in
theorem rb_commandOf_32 {X : gX} {d : gD} {b t : Nat} {T : Nat → Nat} {F0 : gM} (hC : gC RX12 cX12_commandOf 7 none "commandOf" (gR 4 0 0) d b X) {Q : zS → Prop} {k32 : zS → Int → Int → Int → Int → Prop} (hk32 : ∀ (F : gM) (s0 : zS) (x1 : Int) (x4 : Int) (x5 : Int) (x6 : Int), zR x1 → zR x4 → zR x5 → zR x6 → zZ d t T F0 F s0 → k32 s0 x1 x4 x5 x6 → gG X d b (zQv X d b t T F0 Q) F 0 0 32 [some (.ref t), some (.int (zI x1)), none, none, some (.int (zI x4)), some (.int (zI x5)), some (.int (zI x6))] []) {F : gM} {s0 : zS} {x1 : Int} {x4 : Int} {x5 : Int} {x6 : Int} (Rx1 : zR x1) (Rx4 : zR x4) (Rx5 : zR x5) (Rx6 : zR x6) (hZ : zZ d t T F0 F s0) (hw : wr_commandOf_32B Q k32 s0 x1 x4 x5 x6) : gG X d b (zQv X d b t T F0 Q) F 0 0 32 [some (.ref t), some (.int (zI x1)), none, none, some (.int (zI x4)), some (.int (zI x5)), some (.int (zI x6))] [] := by
  unfold wr_commandOf_32B at hw
  refine g_iload hC dX12_commandOf_32 rfl ?_
  refine zr_if_lt (tgt := 75) hC Rx6 dX12_commandOf_34 (by decide) (fun c1 => ?_) (fun c1 => ?_)
  · have h2 := hw.1 c1
    refine g_aload_n hC dX12_commandOf_75 rfl ?_
    refine g_iload hC dX12_commandOf_76 rfl ?_
    refine zr_callVv (As := [.int (zI x4)]) hC hZ rfl (rm_turn X.la d b Rx4 hZ.rf h2) cl_X12_650 rfl rfl (Nat.le_of_ble_eq_true rfl) ⟨Nat.le_of_ble_eq_true rfl, Nat.le_of_ble_eq_true rfl⟩ dX12_commandOf_78 (fun s4 F5 hZ7 h8 => ?_)
    refine g_goto (tgt := 582) hC dX12_commandOf_81 (by decide) ?_
    exact zr_vret hC hZ7 h8 dX12_commandOf_582
  · have h9 := hw.2 c1
    refine g_aload_n hC dX12_commandOf_37 rfl ?_
    refine g_iload hC dX12_commandOf_38 rfl ?_
    refine g_aload_n hC dX12_commandOf_40 rfl ?_
    refine zr_geta hC hZ fl_X12_99 zb_29 (by decide) dX12_commandOf_41 ?_
    refine g_iload_n hC dX12_commandOf_44 rfl ?_
    obtain ⟨o10, h11⟩ := h9
    obtain ⟨o12, h13⟩ := h11
    refine zr_iald (v := (za s0 29 (Int.toNat x1))) hC hZ zk_29 zb_29 zn_29 (by decide) o10 o12 rfl dX12_commandOf_45 ?_
    refine zr_icmp_ge (tgt := 53) hC Rx5 (hZ.ra 29 _) dX12_commandOf_46 (by decide) (fun c14 => ?_) (fun c14 => ?_)
    · have h15 := h13.1 c14
      refine g_iconst (v := zI 3) hC dX12_commandOf_53 rfl ?_
      refine g_iload hC dX12_commandOf_54 rfl ?_
      refine g_iconst (v := zI 0) hC dX12_commandOf_56 rfl ?_
      refine zr_callVv (As := [.int (zI 3), .int (zI x6), .int (zI 0)]) hC hZ rfl (rm_task X.la d b (by decide) Rx6 (by decide) hZ.rf h15) cl_X12_647 rfl rfl (Nat.le_of_ble_eq_true rfl) ⟨Nat.le_of_ble_eq_true rfl, Nat.le_of_ble_eq_true rfl⟩ dX12_commandOf_57 (fun s17 F18 hZ20 h21 => ?_)
      refine zr_iinc (x := x5) (lv' := [some (.ref t), some (.int (zI x1)), none, none, some (.int (zI x4)), some (.int (zI (x5 + 1))), some (.int (zI x6))]) hC dX12_commandOf_60 rfl rfl rfl ?_
      refine g_aload_n hC dX12_commandOf_63 rfl ?_
      refine zr_geta hC hZ20 fl_X12_96 zb_28 (by decide) dX12_commandOf_64 ?_
      refine g_iload hC dX12_commandOf_67 rfl ?_
      obtain ⟨o22, h23⟩ := h21
      obtain ⟨o24, h25⟩ := h23
      refine zr_iald (v := (za s17 28 (Int.toNat x6))) hC hZ20 zk_28 zb_28 zn_28 (by decide) o22 o24 rfl dX12_commandOf_69 ?_
      refine g_istore (lv' := [some (.ref t), some (.int (zI x1)), none, none, some (.int (zI x4)), some (.int (zI (x5 + 1))), some (.int (zI (za s17 28 (Int.toNat x6))))]) hC dX12_commandOf_70 (Nat.le_of_ble_eq_true rfl) rfl rfl ?_
      refine g_goto (tgt := 32) hC dX12_commandOf_72 (by decide) ?_
      obtain ⟨o26, h27⟩ := h25
      exact hk32 _ _ _ _ _ _ Rx1 Rx4 o26 (hZ20.ra 28 _) hZ20 h27
    · have h28 := h13.2 c14
      refine g_iconst (v := zI 4) hC dX12_commandOf_49 rfl ?_
      refine g_goto (tgt := 54) hC dX12_commandOf_50 (by decide) ?_
      refine g_iload hC dX12_commandOf_54 rfl ?_
      refine g_iconst (v := zI 0) hC dX12_commandOf_56 rfl ?_
      refine zr_callVv (As := [.int (zI 4), .int (zI x6), .int (zI 0)]) hC hZ rfl (rm_task X.la d b (by decide) Rx6 (by decide) hZ.rf h28) cl_X12_647 rfl rfl (Nat.le_of_ble_eq_true rfl) ⟨Nat.le_of_ble_eq_true rfl, Nat.le_of_ble_eq_true rfl⟩ dX12_commandOf_57 (fun s30 F31 hZ33 h34 => ?_)
      refine zr_iinc (x := x5) (lv' := [some (.ref t), some (.int (zI x1)), none, none, some (.int (zI x4)), some (.int (zI (x5 + 1))), some (.int (zI x6))]) hC dX12_commandOf_60 rfl rfl rfl ?_
      refine g_aload_n hC dX12_commandOf_63 rfl ?_
      refine zr_geta hC hZ33 fl_X12_96 zb_28 (by decide) dX12_commandOf_64 ?_
      refine g_iload hC dX12_commandOf_67 rfl ?_
      obtain ⟨o35, h36⟩ := h34
      obtain ⟨o37, h38⟩ := h36
      refine zr_iald (v := (za s30 28 (Int.toNat x6))) hC hZ33 zk_28 zb_28 zn_28 (by decide) o35 o37 rfl dX12_commandOf_69 ?_
      refine g_istore (lv' := [some (.ref t), some (.int (zI x1)), none, none, some (.int (zI x4)), some (.int (zI (x5 + 1))), some (.int (zI (za s30 28 (Int.toNat x6))))]) hC dX12_commandOf_70 (Nat.le_of_ble_eq_true rfl) rfl rfl ?_
      refine g_goto (tgt := 32) hC dX12_commandOf_72 (by decide) ?_
      obtain ⟨o39, h40⟩ := h38
      exact hk32 _ _ _ _ _ _ Rx1 Rx4 o39 (hZ33.ra 28 _) hZ33 h40
theorem rl_commandOf_32 {X : gX} {d : gD} {b t : Nat} {T : Nat → Nat} {F0 : gM} (hC : gC RX12 cX12_commandOf 7 none "commandOf" (gR 4 0 0) d b X) {Q : zS → Prop}   : ∀ (m : Nat) (F : gM) (s0 : zS) (x1 : Int) (x4 : Int) (x5 : Int) (x6 : Int), zR x1 → zR x4 → zR x5 → zR x6 → zZ d t T F0 F s0 → wr_commandOf_32 Q  m s0 x1 x4 x5 x6 → gG X d b (zQv X d b t T F0 Q) F 0 0 32 [some (.ref t), some (.int (zI x1)), none, none, some (.int (zI x4)), some (.int (zI x5)), some (.int (zI x6))] [] := by
  intro m
  induction m with
  | zero => intro F s0 x1 x4 x5 x6 Rx1 Rx4 Rx5 Rx6 hZ hw; exact False.elim hw
  | succ m ih => intro F s0 x1 x4 x5 x6 Rx1 Rx4 Rx5 Rx6 hZ hw; exact rb_commandOf_32 hC  ih Rx1 Rx4 Rx5 Rx6 hZ hw
set_option maxHeartbeats 4000000 in
set_option maxRecDepth 100000 in
theorem rm_commandOf (l : Launch) (d : gD) (b : Nat) {t : Nat} {T : Nat → Nat} {F : gM} {s0 : zS} {a0 : Int} (Ra0 : zR a0) {Q : zS → Prop} (hZ : zZ d t T F F s0) (hw : wr_commandOf s0 a0 Q) : gMv l d b yX12_commandOf cX12_commandOf 7 4 0 0 F [.ref t, .int (zI a0)] (zPv d t T F Q) := by
  refine gM_of2 rfl (nL := 7) (Nat.le_of_ble_eq_true rfl) ?_
  intro X hX hC; subst hX
  show gG X d b (zQv X d b t T F Q) F 0 0 0 [some (.ref t), some (.int (zI a0)), none, none, none, none, none] []
  unfold wr_commandOf at hw
  refine g_aload_n hC dX12_commandOf_0 rfl ?_
  refine zr_geta hC hZ fl_X12_87 zb_25 (by decide) dX12_commandOf_1 ?_
  refine g_iload_n hC dX12_commandOf_4 rfl ?_
  obtain ⟨o1, h2⟩ := hw
  obtain ⟨o3, h4⟩ := h2
  refine zr_bald (v := (za s0 25 (Int.toNat a0))) hC hZ zk_25 zb_25 zn_25 (by decide) o1 o3 rfl dX12_commandOf_5 ?_
  refine g_istore_n (lv' := [some (.ref t), some (.int (zI a0)), some (.int (zI (za s0 25 (Int.toNat a0)))), none, none, none, none]) hC dX12_commandOf_6 (Nat.le_of_ble_eq_true rfl) rfl rfl ?_
  refine g_aload_n hC dX12_commandOf_7 rfl ?_
  refine zr_geta hC hZ fl_X12_93 zb_27 (by decide) dX12_commandOf_8 ?_
  refine g_iload_n hC dX12_commandOf_11 rfl ?_
  obtain ⟨o5, h6⟩ := h4
  obtain ⟨o7, h8⟩ := h6
  refine zr_iald (v := (za s0 27 (Int.toNat a0))) hC hZ zk_27 zb_27 zn_27 (by decide) o5 o7 rfl dX12_commandOf_12 ?_
  refine g_istore_n (lv' := [some (.ref t), some (.int (zI a0)), some (.int (zI (za s0 25 (Int.toNat a0)))), some (.int (zI (za s0 27 (Int.toNat a0)))), none, none, none]) hC dX12_commandOf_13 (Nat.le_of_ble_eq_true rfl) rfl rfl ?_
  refine g_iload_n hC dX12_commandOf_14 rfl ?_
  refine g_bipush (v := zI 20) hC dX12_commandOf_15 rfl ?_
  refine zr_icmp_ne (tgt := 84) hC (hZ.ra 25 _) (by decide) dX12_commandOf_17 (by decide) (fun c9 => ?_) (fun c9 => ?_)
  · have h10 := h8.1 c9
    refine g_iload_n hC dX12_commandOf_84 rfl ?_
    refine g_bipush (v := zI 21) hC dX12_commandOf_85 rfl ?_
    refine zr_icmp_ne (tgt := 100) hC (hZ.ra 25 _) (by decide) dX12_commandOf_87 (by decide) (fun c11 => ?_) (fun c11 => ?_)
    · have h12 := h10.1 c11
      refine g_iload_n hC dX12_commandOf_100 rfl ?_
      refine g_bipush (v := zI 22) hC dX12_commandOf_101 rfl ?_
      refine zr_icmp_eq (tgt := 112) hC (hZ.ra 25 _) (by decide) dX12_commandOf_103 (by decide) (fun c13 => ?_) (fun c13 => ?_)
      · have h14 := h12.1 c13
        refine g_aload_n hC dX12_commandOf_112 rfl ?_
        refine g_iconst (v := zI 2) hC dX12_commandOf_113 rfl ?_
        refine g_aload_n hC dX12_commandOf_114 rfl ?_
        refine zr_geta hC hZ fl_X12_96 zb_28 (by decide) dX12_commandOf_115 ?_
        refine g_iload_n hC dX12_commandOf_118 rfl ?_
        obtain ⟨o15, h16⟩ := h14
        obtain ⟨o17, h18⟩ := h16
        refine zr_iald (v := (za s0 28 (Int.toNat (za s0 27 (Int.toNat a0))))) hC hZ zk_28 zb_28 zn_28 (by decide) o15 o17 rfl dX12_commandOf_119 ?_
        refine g_iconst (v := zI 0) hC dX12_commandOf_120 rfl ?_
        refine zr_callVv (As := [.int (zI 2), .int (zI (za s0 28 (Int.toNat (za s0 27 (Int.toNat a0))))), .int (zI 0)]) hC hZ rfl (rm_task X.la d b (by decide) (hZ.ra 28 _) (by decide) hZ.rf h18) cl_X12_647 rfl rfl (Nat.le_of_ble_eq_true rfl) ⟨Nat.le_of_ble_eq_true rfl, Nat.le_of_ble_eq_true rfl⟩ dX12_commandOf_121 (fun s20 F21 hZ23 h24 => ?_)
        refine g_aload_n hC dX12_commandOf_124 rfl ?_
        refine g_iconst (v := zI 3) hC dX12_commandOf_125 rfl ?_
        refine g_iload_n hC dX12_commandOf_126 rfl ?_
        refine g_iconst (v := zI 0) hC dX12_commandOf_127 rfl ?_
        refine zr_callVv (As := [.int (zI 3), .int (zI (za s0 27 (Int.toNat a0))), .int (zI 0)]) hC hZ23 rfl (rm_task X.la d b (by decide) (hZ.ra 27 _) (by decide) hZ23.rf h24) cl_X12_647 rfl rfl (Nat.le_of_ble_eq_true rfl) ⟨Nat.le_of_ble_eq_true rfl, Nat.le_of_ble_eq_true rfl⟩ dX12_commandOf_128 (fun s26 F27 hZ29 h30 => ?_)
        refine g_goto (tgt := 582) hC dX12_commandOf_131 (by decide) ?_
        exact zr_vret hC hZ29 h30 dX12_commandOf_582
      · have h31 := h12.2 c13
        refine g_iload_n hC dX12_commandOf_106 rfl ?_
        refine g_bipush (v := zI 23) hC dX12_commandOf_107 rfl ?_
        refine zr_icmp_ne (tgt := 134) hC (hZ.ra 25 _) (by decide) dX12_commandOf_109 (by decide) (fun c32 => ?_) (fun c32 => ?_)
        · have h33 := h31.1 c32
          refine g_iload_n hC dX12_commandOf_134 rfl ?_
          refine g_bipush (v := zI 24) hC dX12_commandOf_135 rfl ?_
          refine zr_icmp_ne (tgt := 179) hC (hZ.ra 25 _) (by decide) dX12_commandOf_137 (by decide) (fun c34 => ?_) (fun c34 => ?_)
          · have h35 := h33.1 c34
            refine g_iload_n hC dX12_commandOf_179 rfl ?_
            refine g_bipush (v := zI 25) hC dX12_commandOf_180 rfl ?_
            refine zr_icmp_eq (tgt := 191) hC (hZ.ra 25 _) (by decide) dX12_commandOf_182 (by decide) (fun c36 => ?_) (fun c36 => ?_)
            · have h37 := h35.1 c36
              refine g_lv (lv' := [some (.ref t), none, none, some (.int (zI (za s0 27 (Int.toNat a0)))), none, none, none]) ⟨rfl, rfl, trivial⟩ ?_
              exact rj_commandOf_191 hC  (hZ.ra 27 _) hZ h37
            · have h38 := h35.2 c36
              refine g_iload_n hC dX12_commandOf_185 rfl ?_
              refine g_bipush (v := zI 26) hC dX12_commandOf_186 rfl ?_
              refine zr_icmp_ne (tgt := 229) hC (hZ.ra 25 _) (by decide) dX12_commandOf_188 (by decide) (fun c39 => ?_) (fun c39 => ?_)
              · have h40 := h38.1 c39
                refine g_iload_n hC dX12_commandOf_229 rfl ?_
                refine g_bipush (v := zI 38) hC dX12_commandOf_230 rfl ?_
                refine zr_icmp_ne (tgt := 263) hC (hZ.ra 25 _) (by decide) dX12_commandOf_232 (by decide) (fun c41 => ?_) (fun c41 => ?_)
                · have h42 := h40.1 c41
                  refine g_iload_n hC dX12_commandOf_263 rfl ?_
                  refine g_bipush (v := zI 39) hC dX12_commandOf_264 rfl ?_
                  refine zr_icmp_eq (tgt := 275) hC (hZ.ra 25 _) (by decide) dX12_commandOf_266 (by decide) (fun c43 => ?_) (fun c43 => ?_)
                  · have h44 := h42.1 c43
                    refine g_lv (lv' := [some (.ref t), none, none, some (.int (zI (za s0 27 (Int.toNat a0)))), none, none, none]) ⟨rfl, rfl, trivial⟩ ?_
                    exact rj_commandOf_275 hC  (hZ.ra 27 _) hZ h44
                  · have h45 := h42.2 c43
                    refine g_iload_n hC dX12_commandOf_269 rfl ?_
                    refine g_bipush (v := zI 40) hC dX12_commandOf_270 rfl ?_
                    refine zr_icmp_ne (tgt := 315) hC (hZ.ra 25 _) (by decide) dX12_commandOf_272 (by decide) (fun c46 => ?_) (fun c46 => ?_)
                    · have h47 := h45.1 c46
                      refine g_iload_n hC dX12_commandOf_315 rfl ?_
                      refine g_bipush (v := zI 27) hC dX12_commandOf_316 rfl ?_
                      refine zr_icmp_ne (tgt := 361) hC (hZ.ra 25 _) (by decide) dX12_commandOf_318 (by decide) (fun c48 => ?_) (fun c48 => ?_)
                      · have h49 := h47.1 c48
                        refine g_iload_n hC dX12_commandOf_361 rfl ?_
                        refine g_bipush (v := zI 28) hC dX12_commandOf_362 rfl ?_
                        refine zr_icmp_ne (tgt := 385) hC (hZ.ra 25 _) (by decide) dX12_commandOf_364 (by decide) (fun c50 => ?_) (fun c50 => ?_)
                        · have h51 := h49.1 c50
                          refine g_iload_n hC dX12_commandOf_385 rfl ?_
                          refine g_bipush (v := zI 36) hC dX12_commandOf_386 rfl ?_
                          refine zr_icmp_ne (tgt := 468) hC (hZ.ra 25 _) (by decide) dX12_commandOf_388 (by decide) (fun c52 => ?_) (fun c52 => ?_)
                          · have h53 := h51.1 c52
                            refine g_iload_n hC dX12_commandOf_468 rfl ?_
                            refine g_bipush (v := zI 33) hC dX12_commandOf_469 rfl ?_
                            refine zr_icmp_ne (tgt := 507) hC (hZ.ra 25 _) (by decide) dX12_commandOf_471 (by decide) (fun c54 => ?_) (fun c54 => ?_)
                            · have h55 := h53.1 c54
                              refine g_iload_n hC dX12_commandOf_507 rfl ?_
                              refine g_bipush (v := zI 35) hC dX12_commandOf_508 rfl ?_
                              refine zr_icmp_ne (tgt := 521) hC (hZ.ra 25 _) (by decide) dX12_commandOf_510 (by decide) (fun c56 => ?_) (fun c56 => ?_)
                              · have h57 := h55.1 c56
                                refine g_iload_n hC dX12_commandOf_521 rfl ?_
                                refine g_bipush (v := zI 29) hC dX12_commandOf_522 rfl ?_
                                refine zr_icmp_eq (tgt := 533) hC (hZ.ra 25 _) (by decide) dX12_commandOf_524 (by decide) (fun c58 => ?_) (fun c58 => ?_)
                                · have h59 := h57.1 c58
                                  refine g_aload_n hC dX12_commandOf_533 rfl ?_
                                  refine zr_get (e := (zv s0 79)) hC hZ fl_X12_252 zb_79 (by decide) rfl dX12_commandOf_534 ?_
                                  refine zr_if_eq (tgt := 566) hC (hZ.rv 79) dX12_commandOf_537 (by decide) (fun c60 => ?_) (fun c60 => ?_)
                                  · have h61 := h59.1 c60
                                    refine g_aload_n hC dX12_commandOf_566 rfl ?_
                                    refine g_bipush (v := zI 6) hC dX12_commandOf_567 rfl ?_
                                    refine g_aload_n hC dX12_commandOf_569 rfl ?_
                                    refine g_aload_n hC dX12_commandOf_570 rfl ?_
                                    refine zr_geta hC hZ fl_X12_90 zb_26 (by decide) dX12_commandOf_571 ?_
                                    refine g_iload_n hC dX12_commandOf_574 rfl ?_
                                    obtain ⟨o62, h63⟩ := h61
                                    obtain ⟨o64, h65⟩ := h63
                                    refine zr_iald (v := (za s0 26 (Int.toNat a0))) hC hZ zk_26 zb_26 zn_26 (by decide) o62 o64 rfl dX12_commandOf_575 ?_
                                    refine zr_callVi (As := [.int (zI (za s0 26 (Int.toNat a0)))]) hC hZ rfl (rm_place X.la d b (hZ.ra 26 _) hZ.rf h65) cl_X12_613 rfl rfl (Nat.le_of_ble_eq_true rfl) ⟨Nat.le_of_ble_eq_true rfl, Nat.le_of_ble_eq_true rfl⟩ dX12_commandOf_576 (fun r66 s67 F68 R69 hZ70 h71 => ?_)
                                    refine zr_callVv (As := [.int (zI 6), .int (zI r66)]) hC hZ70 rfl (rm_fault X.la d b (by decide) R69 hZ70.rf h71) cl_X12_605 rfl rfl (Nat.le_of_ble_eq_true rfl) ⟨Nat.le_of_ble_eq_true rfl, Nat.le_of_ble_eq_true rfl⟩ dX12_commandOf_579 (fun s73 F74 hZ76 h77 => ?_)
                                    exact zr_vret hC hZ76 h77 dX12_commandOf_582
                                  · have h78 := h59.2 c60
                                    refine g_lv (lv' := [some (.ref t), some (.int (zI a0)), some (.int (zI (za s0 25 (Int.toNat a0)))), none, none, none, none]) ⟨rfl, rfl, rfl, trivial⟩ ?_
                                    exact rj_commandOf_540 hC  Ra0 (hZ.ra 25 _) hZ h78
                                · have h79 := h57.2 c58
                                  refine g_iload_n hC dX12_commandOf_527 rfl ?_
                                  refine g_bipush (v := zI 30) hC dX12_commandOf_528 rfl ?_
                                  refine zr_icmp_ne (tgt := 540) hC (hZ.ra 25 _) (by decide) dX12_commandOf_530 (by decide) (fun c80 => ?_) (fun c80 => ?_)
                                  · have h81 := h79.1 c80
                                    refine g_lv (lv' := [some (.ref t), some (.int (zI a0)), some (.int (zI (za s0 25 (Int.toNat a0)))), none, none, none, none]) ⟨rfl, rfl, rfl, trivial⟩ ?_
                                    exact rj_commandOf_540 hC  Ra0 (hZ.ra 25 _) hZ h81
                                  · have h82 := h79.2 c80
                                    refine g_aload_n hC dX12_commandOf_533 rfl ?_
                                    refine zr_get (e := (zv s0 79)) hC hZ fl_X12_252 zb_79 (by decide) rfl dX12_commandOf_534 ?_
                                    refine zr_if_eq (tgt := 566) hC (hZ.rv 79) dX12_commandOf_537 (by decide) (fun c83 => ?_) (fun c83 => ?_)
                                    · have h84 := h82.1 c83
                                      refine g_aload_n hC dX12_commandOf_566 rfl ?_
                                      refine g_bipush (v := zI 6) hC dX12_commandOf_567 rfl ?_
                                      refine g_aload_n hC dX12_commandOf_569 rfl ?_
                                      refine g_aload_n hC dX12_commandOf_570 rfl ?_
                                      refine zr_geta hC hZ fl_X12_90 zb_26 (by decide) dX12_commandOf_571 ?_
                                      refine g_iload_n hC dX12_commandOf_574 rfl ?_
                                      obtain ⟨o85, h86⟩ := h84
                                      obtain ⟨o87, h88⟩ := h86
                                      refine zr_iald (v := (za s0 26 (Int.toNat a0))) hC hZ zk_26 zb_26 zn_26 (by decide) o85 o87 rfl dX12_commandOf_575 ?_
                                      refine zr_callVi (As := [.int (zI (za s0 26 (Int.toNat a0)))]) hC hZ rfl (rm_place X.la d b (hZ.ra 26 _) hZ.rf h88) cl_X12_613 rfl rfl (Nat.le_of_ble_eq_true rfl) ⟨Nat.le_of_ble_eq_true rfl, Nat.le_of_ble_eq_true rfl⟩ dX12_commandOf_576 (fun r89 s90 F91 R92 hZ93 h94 => ?_)
                                      refine zr_callVv (As := [.int (zI 6), .int (zI r89)]) hC hZ93 rfl (rm_fault X.la d b (by decide) R92 hZ93.rf h94) cl_X12_605 rfl rfl (Nat.le_of_ble_eq_true rfl) ⟨Nat.le_of_ble_eq_true rfl, Nat.le_of_ble_eq_true rfl⟩ dX12_commandOf_579 (fun s96 F97 hZ99 h100 => ?_)
                                      exact zr_vret hC hZ99 h100 dX12_commandOf_582
                                    · have h101 := h82.2 c83
                                      refine g_lv (lv' := [some (.ref t), some (.int (zI a0)), some (.int (zI (za s0 25 (Int.toNat a0)))), none, none, none, none]) ⟨rfl, rfl, rfl, trivial⟩ ?_
                                      exact rj_commandOf_540 hC  Ra0 (hZ.ra 25 _) hZ h101
                              · have h102 := h55.2 c56
                                refine g_aload_n hC dX12_commandOf_513 rfl ?_
                                refine g_iload_n hC dX12_commandOf_514 rfl ?_
                                refine zr_callVv (As := [.int (zI a0)]) hC hZ rfl (rm_goesTo X.la d b Ra0 hZ.rf h102) cl_X12_779 rfl rfl (Nat.le_of_ble_eq_true rfl) ⟨Nat.le_of_ble_eq_true rfl, Nat.le_of_ble_eq_true rfl⟩ dX12_commandOf_515 (fun s104 F105 hZ107 h108 => ?_)
                                refine g_goto (tgt := 582) hC dX12_commandOf_518 (by decide) ?_
                                exact zr_vret hC hZ107 h108 dX12_commandOf_582
                            · have h109 := h53.2 c54
                              refine g_aload_n hC dX12_commandOf_474 rfl ?_
                              refine zr_get (e := (zv s0 77)) hC hZ fl_X12_246 zb_77 (by decide) rfl dX12_commandOf_475 ?_
                              refine zr_if_ne (tgt := 497) hC (hZ.rv 77) dX12_commandOf_478 (by decide) (fun c110 => ?_) (fun c110 => ?_)
                              · have h111 := h109.1 c110
                                refine g_aload_n hC dX12_commandOf_497 rfl ?_
                                refine g_iconst (v := zI 3) hC dX12_commandOf_498 rfl ?_
                                refine g_iload_n hC dX12_commandOf_499 rfl ?_
                                refine g_iconst (v := zI 0) hC dX12_commandOf_500 rfl ?_
                                refine zr_callVv (As := [.int (zI 3), .int (zI (za s0 27 (Int.toNat a0))), .int (zI 0)]) hC hZ rfl (rm_task X.la d b (by decide) (hZ.ra 27 _) (by decide) hZ.rf h111) cl_X12_647 rfl rfl (Nat.le_of_ble_eq_true rfl) ⟨Nat.le_of_ble_eq_true rfl, Nat.le_of_ble_eq_true rfl⟩ dX12_commandOf_501 (fun s113 F114 hZ116 h117 => ?_)
                                refine g_goto (tgt := 582) hC dX12_commandOf_504 (by decide) ?_
                                exact zr_vret hC hZ116 h117 dX12_commandOf_582
                              · have h118 := h109.2 c110
                                refine g_aload_n hC dX12_commandOf_481 rfl ?_
                                refine g_bipush (v := zI 6) hC dX12_commandOf_482 rfl ?_
                                refine g_aload_n hC dX12_commandOf_484 rfl ?_
                                refine g_aload_n hC dX12_commandOf_485 rfl ?_
                                refine zr_geta hC hZ fl_X12_90 zb_26 (by decide) dX12_commandOf_486 ?_
                                refine g_iload_n hC dX12_commandOf_489 rfl ?_
                                obtain ⟨o119, h120⟩ := h118
                                obtain ⟨o121, h122⟩ := h120
                                refine zr_iald (v := (za s0 26 (Int.toNat a0))) hC hZ zk_26 zb_26 zn_26 (by decide) o119 o121 rfl dX12_commandOf_490 ?_
                                refine zr_callVi (As := [.int (zI (za s0 26 (Int.toNat a0)))]) hC hZ rfl (rm_place X.la d b (hZ.ra 26 _) hZ.rf h122) cl_X12_613 rfl rfl (Nat.le_of_ble_eq_true rfl) ⟨Nat.le_of_ble_eq_true rfl, Nat.le_of_ble_eq_true rfl⟩ dX12_commandOf_491 (fun r123 s124 F125 R126 hZ127 h128 => ?_)
                                refine zr_callVv (As := [.int (zI 6), .int (zI r123)]) hC hZ127 rfl (rm_fault X.la d b (by decide) R126 hZ127.rf h128) cl_X12_605 rfl rfl (Nat.le_of_ble_eq_true rfl) ⟨Nat.le_of_ble_eq_true rfl, Nat.le_of_ble_eq_true rfl⟩ dX12_commandOf_494 (fun s130 F131 hZ133 h134 => ?_)
                                refine g_aload_n hC dX12_commandOf_497 rfl ?_
                                refine g_iconst (v := zI 3) hC dX12_commandOf_498 rfl ?_
                                refine g_iload_n hC dX12_commandOf_499 rfl ?_
                                refine g_iconst (v := zI 0) hC dX12_commandOf_500 rfl ?_
                                refine zr_callVv (As := [.int (zI 3), .int (zI (za s0 27 (Int.toNat a0))), .int (zI 0)]) hC hZ133 rfl (rm_task X.la d b (by decide) (hZ.ra 27 _) (by decide) hZ133.rf h134) cl_X12_647 rfl rfl (Nat.le_of_ble_eq_true rfl) ⟨Nat.le_of_ble_eq_true rfl, Nat.le_of_ble_eq_true rfl⟩ dX12_commandOf_501 (fun s136 F137 hZ139 h140 => ?_)
                                refine g_goto (tgt := 582) hC dX12_commandOf_504 (by decide) ?_
                                exact zr_vret hC hZ139 h140 dX12_commandOf_582
                          · have h141 := h51.2 c52
                            refine g_aload_n hC dX12_commandOf_391 rfl ?_
                            refine zr_callVv (As := []) hC hZ rfl (rm_beginBlock X.la d b  hZ.rf h141) cl_X12_770 rfl rfl (Nat.le_of_ble_eq_true rfl) ⟨Nat.le_of_ble_eq_true rfl, Nat.le_of_ble_eq_true rfl⟩ dX12_commandOf_392 (fun s143 F144 hZ146 h147 => ?_)
                            refine g_aload_n hC dX12_commandOf_395 rfl ?_
                            refine g_iload_n hC dX12_commandOf_396 rfl ?_
                            refine zr_callVv (As := [.int (zI a0)]) hC hZ146 rfl (rm_labelsOf X.la d b Ra0 hZ146.rf h147) cl_X12_773 rfl rfl (Nat.le_of_ble_eq_true rfl) ⟨Nat.le_of_ble_eq_true rfl, Nat.le_of_ble_eq_true rfl⟩ dX12_commandOf_397 (fun s149 F150 hZ152 h153 => ?_)
                            refine g_aload_n hC dX12_commandOf_400 rfl ?_
                            refine g_bipush (v := zI 9) hC dX12_commandOf_401 rfl ?_
                            refine g_iconst (v := zI 0) hC dX12_commandOf_403 rfl ?_
                            refine g_iconst (v := zI 0) hC dX12_commandOf_404 rfl ?_
                            refine zr_callVv (As := [.int (zI 9), .int (zI 0), .int (zI 0)]) hC hZ152 rfl (rm_task X.la d b (by decide) (by decide) (by decide) hZ152.rf h153) cl_X12_647 rfl rfl (Nat.le_of_ble_eq_true rfl) ⟨Nat.le_of_ble_eq_true rfl, Nat.le_of_ble_eq_true rfl⟩ dX12_commandOf_405 (fun s155 F156 hZ158 h159 => ?_)
                            refine g_aload_n hC dX12_commandOf_408 rfl ?_
                            refine zr_get (e := (zv s155 63)) hC hZ158 fl_X12_203 zb_63 (by decide) rfl dX12_commandOf_409 ?_
                            refine g_istore (lv' := [some (.ref t), some (.int (zI a0)), some (.int (zI (za s0 25 (Int.toNat a0)))), some (.int (zI (za s0 27 (Int.toNat a0)))), some (.int (zI (zv s155 63))), none, none]) hC dX12_commandOf_412 (Nat.le_of_ble_eq_true rfl) rfl rfl ?_
                            refine g_iload_n hC dX12_commandOf_414 rfl ?_
                            refine g_istore (lv' := [some (.ref t), some (.int (zI a0)), some (.int (zI (za s0 25 (Int.toNat a0)))), some (.int (zI (za s0 27 (Int.toNat a0)))), some (.int (zI (zv s155 63))), some (.int (zI (za s0 27 (Int.toNat a0)))), none]) hC dX12_commandOf_415 (Nat.le_of_ble_eq_true rfl) rfl rfl ?_
                            refine g_lv (lv' := [some (.ref t), none, none, none, some (.int (zI (zv s155 63))), some (.int (zI (za s0 27 (Int.toNat a0)))), none]) ⟨rfl, rfl, rfl, trivial⟩ ?_
                            obtain ⟨m160, h161⟩ := h159
                            exact rl_commandOf_417 hC  m160 _ _ _ _ (hZ158.rv 63) (hZ.ra 27 _) hZ158 h161
                        · have h162 := h49.2 c50
                          refine g_aload_n hC dX12_commandOf_367 rfl ?_
                          refine g_bipush (v := zI 12) hC dX12_commandOf_368 rfl ?_
                          refine g_iload_n hC dX12_commandOf_370 rfl ?_
                          refine g_iconst (v := zI 0) hC dX12_commandOf_371 rfl ?_
                          refine zr_callVv (As := [.int (zI 12), .int (zI a0), .int (zI 0)]) hC hZ rfl (rm_task X.la d b (by decide) Ra0 (by decide) hZ.rf h162) cl_X12_647 rfl rfl (Nat.le_of_ble_eq_true rfl) ⟨Nat.le_of_ble_eq_true rfl, Nat.le_of_ble_eq_true rfl⟩ dX12_commandOf_372 (fun s164 F165 hZ167 h168 => ?_)
                          refine g_aload_n hC dX12_commandOf_375 rfl ?_
                          refine g_iconst (v := zI 3) hC dX12_commandOf_376 rfl ?_
                          refine g_iload_n hC dX12_commandOf_377 rfl ?_
                          refine g_iconst (v := zI 0) hC dX12_commandOf_378 rfl ?_
                          refine zr_callVv (As := [.int (zI 3), .int (zI (za s0 27 (Int.toNat a0))), .int (zI 0)]) hC hZ167 rfl (rm_task X.la d b (by decide) (hZ.ra 27 _) (by decide) hZ167.rf h168) cl_X12_647 rfl rfl (Nat.le_of_ble_eq_true rfl) ⟨Nat.le_of_ble_eq_true rfl, Nat.le_of_ble_eq_true rfl⟩ dX12_commandOf_379 (fun s170 F171 hZ173 h174 => ?_)
                          refine g_goto (tgt := 582) hC dX12_commandOf_382 (by decide) ?_
                          exact zr_vret hC hZ173 h174 dX12_commandOf_582
                      · have h175 := h47.2 c48
                        refine g_aload_n hC dX12_commandOf_321 rfl ?_
                        refine g_bipush (v := zI 11) hC dX12_commandOf_322 rfl ?_
                        refine g_iload_n hC dX12_commandOf_324 rfl ?_
                        refine g_iconst (v := zI 0) hC dX12_commandOf_325 rfl ?_
                        refine zr_callVv (As := [.int (zI 11), .int (zI a0), .int (zI 0)]) hC hZ rfl (rm_task X.la d b (by decide) Ra0 (by decide) hZ.rf h175) cl_X12_647 rfl rfl (Nat.le_of_ble_eq_true rfl) ⟨Nat.le_of_ble_eq_true rfl, Nat.le_of_ble_eq_true rfl⟩ dX12_commandOf_326 (fun s177 F178 hZ180 h181 => ?_)
                        refine g_aload_n hC dX12_commandOf_329 rfl ?_
                        refine g_iconst (v := zI 3) hC dX12_commandOf_330 rfl ?_
                        refine g_aload_n hC dX12_commandOf_331 rfl ?_
                        refine zr_geta hC hZ180 fl_X12_96 zb_28 (by decide) dX12_commandOf_332 ?_
                        refine g_aload_n hC dX12_commandOf_335 rfl ?_
                        refine zr_geta hC hZ180 fl_X12_96 zb_28 (by decide) dX12_commandOf_336 ?_
                        refine g_iload_n hC dX12_commandOf_339 rfl ?_
                        obtain ⟨o182, h183⟩ := h181
                        obtain ⟨o184, h185⟩ := h183
                        refine zr_iald (v := (za s177 28 (Int.toNat (za s0 27 (Int.toNat a0))))) hC hZ180 zk_28 zb_28 zn_28 (by decide) o182 o184 rfl dX12_commandOf_340 ?_
                        obtain ⟨o186, h187⟩ := h185
                        obtain ⟨o188, h189⟩ := h187
                        refine zr_iald (v := (za s177 28 (Int.toNat (za s177 28 (Int.toNat (za s0 27 (Int.toNat a0))))))) hC hZ180 zk_28 zb_28 zn_28 (by decide) o186 o188 rfl dX12_commandOf_341 ?_
                        refine g_iconst (v := zI 0) hC dX12_commandOf_342 rfl ?_
                        refine zr_callVv (As := [.int (zI 3), .int (zI (za s177 28 (Int.toNat (za s177 28 (Int.toNat (za s0 27 (Int.toNat a0))))))), .int (zI 0)]) hC hZ180 rfl (rm_task X.la d b (by decide) (hZ180.ra 28 _) (by decide) hZ180.rf h189) cl_X12_647 rfl rfl (Nat.le_of_ble_eq_true rfl) ⟨Nat.le_of_ble_eq_true rfl, Nat.le_of_ble_eq_true rfl⟩ dX12_commandOf_343 (fun s191 F192 hZ194 h195 => ?_)
                        refine g_aload_n hC dX12_commandOf_346 rfl ?_
                        refine g_iconst (v := zI 3) hC dX12_commandOf_347 rfl ?_
                        refine g_aload_n hC dX12_commandOf_348 rfl ?_
                        refine zr_geta hC hZ194 fl_X12_96 zb_28 (by decide) dX12_commandOf_349 ?_
                        refine g_iload_n hC dX12_commandOf_352 rfl ?_
                        obtain ⟨o196, h197⟩ := h195
                        obtain ⟨o198, h199⟩ := h197
                        refine zr_iald (v := (za s191 28 (Int.toNat (za s0 27 (Int.toNat a0))))) hC hZ194 zk_28 zb_28 zn_28 (by decide) o196 o198 rfl dX12_commandOf_353 ?_
                        refine g_iconst (v := zI 0) hC dX12_commandOf_354 rfl ?_
                        refine zr_callVv (As := [.int (zI 3), .int (zI (za s191 28 (Int.toNat (za s0 27 (Int.toNat a0))))), .int (zI 0)]) hC hZ194 rfl (rm_task X.la d b (by decide) (hZ194.ra 28 _) (by decide) hZ194.rf h199) cl_X12_647 rfl rfl (Nat.le_of_ble_eq_true rfl) ⟨Nat.le_of_ble_eq_true rfl, Nat.le_of_ble_eq_true rfl⟩ dX12_commandOf_355 (fun s201 F202 hZ204 h205 => ?_)
                        refine g_goto (tgt := 582) hC dX12_commandOf_358 (by decide) ?_
                        exact zr_vret hC hZ204 h205 dX12_commandOf_582
                    · have h206 := h45.2 c46
                      refine g_lv (lv' := [some (.ref t), none, none, some (.int (zI (za s0 27 (Int.toNat a0)))), none, none, none]) ⟨rfl, rfl, trivial⟩ ?_
                      exact rj_commandOf_275 hC  (hZ.ra 27 _) hZ h206
                · have h207 := h40.2 c41
                  refine g_aload_n hC dX12_commandOf_235 rfl ?_
                  refine g_bipush (v := zI 10) hC dX12_commandOf_236 rfl ?_
                  refine g_iconst (v := zI 0) hC dX12_commandOf_238 rfl ?_
                  refine g_iconst (v := zI (-1)) hC dX12_commandOf_239 rfl ?_
                  refine zr_callVv (As := [.int (zI 10), .int (zI 0), .int (zI (-1))]) hC hZ rfl (rm_task X.la d b (by decide) (by decide) (by decide) hZ.rf h207) cl_X12_647 rfl rfl (Nat.le_of_ble_eq_true rfl) ⟨Nat.le_of_ble_eq_true rfl, Nat.le_of_ble_eq_true rfl⟩ dX12_commandOf_240 (fun s209 F210 hZ212 h213 => ?_)
                  refine g_aload_n hC dX12_commandOf_243 rfl ?_
                  refine g_iconst (v := zI 2) hC dX12_commandOf_244 rfl ?_
                  refine g_iload_n hC dX12_commandOf_245 rfl ?_
                  refine g_iconst (v := zI 0) hC dX12_commandOf_246 rfl ?_
                  refine zr_callVv (As := [.int (zI 2), .int (zI (za s0 27 (Int.toNat a0))), .int (zI 0)]) hC hZ212 rfl (rm_task X.la d b (by decide) (hZ.ra 27 _) (by decide) hZ212.rf h213) cl_X12_647 rfl rfl (Nat.le_of_ble_eq_true rfl) ⟨Nat.le_of_ble_eq_true rfl, Nat.le_of_ble_eq_true rfl⟩ dX12_commandOf_247 (fun s215 F216 hZ218 h219 => ?_)
                  refine g_aload_n hC dX12_commandOf_250 rfl ?_
                  refine g_dup hC dX12_commandOf_251 rfl ?_
                  refine zr_get (e := (zv s215 79)) hC hZ218 fl_X12_252 zb_79 (by decide) rfl dX12_commandOf_252 ?_
                  refine g_iconst (v := zI 1) hC dX12_commandOf_255 rfl ?_
                  refine zr_iadd hC dX12_commandOf_256 ?_
                  obtain ⟨o220, h221⟩ := h219
                  refine zr_put hC hZ218 fl_X12_252 zb_79 (by decide) o220 dX12_commandOf_257 (fun F222 hZ223 => ?_)
                  refine g_goto (tgt := 582) hC dX12_commandOf_260 (by decide) ?_
                  exact zr_vret hC hZ223 h221 dX12_commandOf_582
              · have h224 := h38.2 c39
                refine g_lv (lv' := [some (.ref t), none, none, some (.int (zI (za s0 27 (Int.toNat a0)))), none, none, none]) ⟨rfl, rfl, trivial⟩ ?_
                exact rj_commandOf_191 hC  (hZ.ra 27 _) hZ h224
          · have h225 := h33.2 c34
            refine g_aload_n hC dX12_commandOf_140 rfl ?_
            refine g_iconst (v := zI 2) hC dX12_commandOf_141 rfl ?_
            refine g_aload_n hC dX12_commandOf_142 rfl ?_
            refine zr_geta hC hZ fl_X12_96 zb_28 (by decide) dX12_commandOf_143 ?_
            refine g_aload_n hC dX12_commandOf_146 rfl ?_
            refine zr_geta hC hZ fl_X12_96 zb_28 (by decide) dX12_commandOf_147 ?_
            refine g_iload_n hC dX12_commandOf_150 rfl ?_
            obtain ⟨o226, h227⟩ := h225
            obtain ⟨o228, h229⟩ := h227
            refine zr_iald (v := (za s0 28 (Int.toNat (za s0 27 (Int.toNat a0))))) hC hZ zk_28 zb_28 zn_28 (by decide) o226 o228 rfl dX12_commandOf_151 ?_
            obtain ⟨o230, h231⟩ := h229
            obtain ⟨o232, h233⟩ := h231
            refine zr_iald (v := (za s0 28 (Int.toNat (za s0 28 (Int.toNat (za s0 27 (Int.toNat a0))))))) hC hZ zk_28 zb_28 zn_28 (by decide) o230 o232 rfl dX12_commandOf_152 ?_
            refine g_iconst (v := zI 0) hC dX12_commandOf_153 rfl ?_
            refine zr_callVv (As := [.int (zI 2), .int (zI (za s0 28 (Int.toNat (za s0 28 (Int.toNat (za s0 27 (Int.toNat a0))))))), .int (zI 0)]) hC hZ rfl (rm_task X.la d b (by decide) (hZ.ra 28 _) (by decide) hZ.rf h233) cl_X12_647 rfl rfl (Nat.le_of_ble_eq_true rfl) ⟨Nat.le_of_ble_eq_true rfl, Nat.le_of_ble_eq_true rfl⟩ dX12_commandOf_154 (fun s235 F236 hZ238 h239 => ?_)
            refine g_aload_n hC dX12_commandOf_157 rfl ?_
            refine g_iconst (v := zI 2) hC dX12_commandOf_158 rfl ?_
            refine g_aload_n hC dX12_commandOf_159 rfl ?_
            refine zr_geta hC hZ238 fl_X12_96 zb_28 (by decide) dX12_commandOf_160 ?_
            refine g_iload_n hC dX12_commandOf_163 rfl ?_
            obtain ⟨o240, h241⟩ := h239
            obtain ⟨o242, h243⟩ := h241
            refine zr_iald (v := (za s235 28 (Int.toNat (za s0 27 (Int.toNat a0))))) hC hZ238 zk_28 zb_28 zn_28 (by decide) o240 o242 rfl dX12_commandOf_164 ?_
            refine g_iconst (v := zI 0) hC dX12_commandOf_165 rfl ?_
            refine zr_callVv (As := [.int (zI 2), .int (zI (za s235 28 (Int.toNat (za s0 27 (Int.toNat a0))))), .int (zI 0)]) hC hZ238 rfl (rm_task X.la d b (by decide) (hZ238.ra 28 _) (by decide) hZ238.rf h243) cl_X12_647 rfl rfl (Nat.le_of_ble_eq_true rfl) ⟨Nat.le_of_ble_eq_true rfl, Nat.le_of_ble_eq_true rfl⟩ dX12_commandOf_166 (fun s245 F246 hZ248 h249 => ?_)
            refine g_aload_n hC dX12_commandOf_169 rfl ?_
            refine g_iconst (v := zI 3) hC dX12_commandOf_170 rfl ?_
            refine g_iload_n hC dX12_commandOf_171 rfl ?_
            refine g_iconst (v := zI 0) hC dX12_commandOf_172 rfl ?_
            refine zr_callVv (As := [.int (zI 3), .int (zI (za s0 27 (Int.toNat a0))), .int (zI 0)]) hC hZ248 rfl (rm_task X.la d b (by decide) (hZ.ra 27 _) (by decide) hZ248.rf h249) cl_X12_647 rfl rfl (Nat.le_of_ble_eq_true rfl) ⟨Nat.le_of_ble_eq_true rfl, Nat.le_of_ble_eq_true rfl⟩ dX12_commandOf_173 (fun s251 F252 hZ254 h255 => ?_)
            refine g_goto (tgt := 582) hC dX12_commandOf_176 (by decide) ?_
            exact zr_vret hC hZ254 h255 dX12_commandOf_582
        · have h256 := h31.2 c32
          refine g_aload_n hC dX12_commandOf_112 rfl ?_
          refine g_iconst (v := zI 2) hC dX12_commandOf_113 rfl ?_
          refine g_aload_n hC dX12_commandOf_114 rfl ?_
          refine zr_geta hC hZ fl_X12_96 zb_28 (by decide) dX12_commandOf_115 ?_
          refine g_iload_n hC dX12_commandOf_118 rfl ?_
          obtain ⟨o257, h258⟩ := h256
          obtain ⟨o259, h260⟩ := h258
          refine zr_iald (v := (za s0 28 (Int.toNat (za s0 27 (Int.toNat a0))))) hC hZ zk_28 zb_28 zn_28 (by decide) o257 o259 rfl dX12_commandOf_119 ?_
          refine g_iconst (v := zI 0) hC dX12_commandOf_120 rfl ?_
          refine zr_callVv (As := [.int (zI 2), .int (zI (za s0 28 (Int.toNat (za s0 27 (Int.toNat a0))))), .int (zI 0)]) hC hZ rfl (rm_task X.la d b (by decide) (hZ.ra 28 _) (by decide) hZ.rf h260) cl_X12_647 rfl rfl (Nat.le_of_ble_eq_true rfl) ⟨Nat.le_of_ble_eq_true rfl, Nat.le_of_ble_eq_true rfl⟩ dX12_commandOf_121 (fun s262 F263 hZ265 h266 => ?_)
          refine g_aload_n hC dX12_commandOf_124 rfl ?_
          refine g_iconst (v := zI 3) hC dX12_commandOf_125 rfl ?_
          refine g_iload_n hC dX12_commandOf_126 rfl ?_
          refine g_iconst (v := zI 0) hC dX12_commandOf_127 rfl ?_
          refine zr_callVv (As := [.int (zI 3), .int (zI (za s0 27 (Int.toNat a0))), .int (zI 0)]) hC hZ265 rfl (rm_task X.la d b (by decide) (hZ.ra 27 _) (by decide) hZ265.rf h266) cl_X12_647 rfl rfl (Nat.le_of_ble_eq_true rfl) ⟨Nat.le_of_ble_eq_true rfl, Nat.le_of_ble_eq_true rfl⟩ dX12_commandOf_128 (fun s268 F269 hZ271 h272 => ?_)
          refine g_goto (tgt := 582) hC dX12_commandOf_131 (by decide) ?_
          exact zr_vret hC hZ271 h272 dX12_commandOf_582
    · have h273 := h10.2 c11
      refine g_aload_n hC dX12_commandOf_90 rfl ?_
      refine g_iconst (v := zI 3) hC dX12_commandOf_91 rfl ?_
      refine g_iload_n hC dX12_commandOf_92 rfl ?_
      refine g_iconst (v := zI 0) hC dX12_commandOf_93 rfl ?_
      refine zr_callVv (As := [.int (zI 3), .int (zI (za s0 27 (Int.toNat a0))), .int (zI 0)]) hC hZ rfl (rm_task X.la d b (by decide) (hZ.ra 27 _) (by decide) hZ.rf h273) cl_X12_647 rfl rfl (Nat.le_of_ble_eq_true rfl) ⟨Nat.le_of_ble_eq_true rfl, Nat.le_of_ble_eq_true rfl⟩ dX12_commandOf_94 (fun s275 F276 hZ278 h279 => ?_)
      refine g_goto (tgt := 582) hC dX12_commandOf_97 (by decide) ?_
      exact zr_vret hC hZ278 h279 dX12_commandOf_582
  · have h280 := h8.2 c9
    refine g_aload_n hC dX12_commandOf_20 rfl ?_
    refine zr_get (e := (zv s0 63)) hC hZ fl_X12_203 zb_63 (by decide) rfl dX12_commandOf_21 ?_
    refine g_istore (lv' := [some (.ref t), some (.int (zI a0)), some (.int (zI (za s0 25 (Int.toNat a0)))), some (.int (zI (za s0 27 (Int.toNat a0)))), some (.int (zI (zv s0 63))), none, none]) hC dX12_commandOf_24 (Nat.le_of_ble_eq_true rfl) rfl rfl ?_
    refine g_iconst (v := zI 0) hC dX12_commandOf_26 rfl ?_
    refine g_istore (lv' := [some (.ref t), some (.int (zI a0)), some (.int (zI (za s0 25 (Int.toNat a0)))), some (.int (zI (za s0 27 (Int.toNat a0)))), some (.int (zI (zv s0 63))), some (.int (zI 0)), none]) hC dX12_commandOf_27 (Nat.le_of_ble_eq_true rfl) rfl rfl ?_
    refine g_iload_n hC dX12_commandOf_29 rfl ?_
    refine g_istore (lv' := [some (.ref t), some (.int (zI a0)), some (.int (zI (za s0 25 (Int.toNat a0)))), some (.int (zI (za s0 27 (Int.toNat a0)))), some (.int (zI (zv s0 63))), some (.int (zI 0)), some (.int (zI (za s0 27 (Int.toNat a0))))]) hC dX12_commandOf_30 (Nat.le_of_ble_eq_true rfl) rfl rfl ?_
    refine g_lv (lv' := [some (.ref t), some (.int (zI a0)), none, none, some (.int (zI (zv s0 63))), some (.int (zI 0)), some (.int (zI (za s0 27 (Int.toNat a0))))]) ⟨rfl, rfl, rfl, rfl, rfl, trivial⟩ ?_
    obtain ⟨m281, h282⟩ := h280
    exact rl_commandOf_32 hC  m281 _ _ _ _ _ _ Ra0 (hZ.rv 63) (by decide) (hZ.ra 27 _) hZ h282
theorem dX12_named_0 : decode cX12_named 0 = .ok (.aload_n 0, 1) := by decide +kernel
theorem dX12_named_1 : decode cX12_named 1 = .ok (.aload_n 0, 1) := by decide +kernel
theorem dX12_named_2 : decode cX12_named 2 = .ok (.getfield 99, 3) := by decide +kernel
theorem dX12_named_5 : decode cX12_named 5 = .ok (.iload_n 1, 1) := by decide +kernel
theorem dX12_named_6 : decode cX12_named 6 = .ok (.iaload, 1) := by decide +kernel
theorem dX12_named_7 : decode cX12_named 7 = .ok (.invokevirtual 619, 3) := by decide +kernel
theorem dX12_named_10 : decode cX12_named 10 = .ok (.istore_n 2, 1) := by decide +kernel
theorem dX12_named_11 : decode cX12_named 11 = .ok (.iload_n 2, 1) := by decide +kernel
theorem dX12_named_12 : decode cX12_named 12 = .ok (.ifCond .ge 27, 3) := by decide +kernel
theorem dX12_named_15 : decode cX12_named 15 = .ok (.aload_n 0, 1) := by decide +kernel
theorem dX12_named_16 : decode cX12_named 16 = .ok (.iconst 3, 1) := by decide +kernel
theorem dX12_named_17 : decode cX12_named 17 = .ok (.aload_n 0, 1) := by decide +kernel
theorem dX12_named_18 : decode cX12_named 18 = .ok (.aload_n 0, 1) := by decide +kernel
theorem dX12_named_19 : decode cX12_named 19 = .ok (.getfield 90, 3) := by decide +kernel
theorem dX12_named_22 : decode cX12_named 22 = .ok (.iload_n 1, 1) := by decide +kernel
theorem dX12_named_23 : decode cX12_named 23 = .ok (.iaload, 1) := by decide +kernel
theorem dX12_named_24 : decode cX12_named 24 = .ok (.invokevirtual 613, 3) := by decide +kernel
theorem dX12_named_27 : decode cX12_named 27 = .ok (.invokevirtual 605, 3) := by decide +kernel
theorem dX12_named_30 : decode cX12_named 30 = .ok (.aload_n 0, 1) := by decide +kernel
theorem dX12_named_31 : decode cX12_named 31 = .ok (.getfield 102, 3) := by decide +kernel
theorem dX12_named_34 : decode cX12_named 34 = .ok (.iload_n 1, 1) := by decide +kernel
theorem dX12_named_35 : decode cX12_named 35 = .ok (.iconst 0, 1) := by decide +kernel
theorem dX12_named_36 : decode cX12_named 36 = .ok (.iastore, 1) := by decide +kernel
theorem dX12_named_37 : decode cX12_named 37 = .ok (.iconst (-1), 1) := by decide +kernel
theorem dX12_named_38 : decode cX12_named 38 = .ok (.ireturn, 1) := by decide +kernel
theorem dX12_named_39 : decode cX12_named 39 = .ok (.aload_n 0, 1) := by decide +kernel
theorem dX12_named_40 : decode cX12_named 40 = .ok (.getfield 102, 3) := by decide +kernel
theorem dX12_named_43 : decode cX12_named 43 = .ok (.iload_n 1, 1) := by decide +kernel
theorem dX12_named_44 : decode cX12_named 44 = .ok (.aload_n 0, 1) := by decide +kernel
theorem dX12_named_45 : decode cX12_named 45 = .ok (.getfield 166, 3) := by decide +kernel
theorem dX12_named_48 : decode cX12_named 48 = .ok (.iload_n 2, 1) := by decide +kernel
theorem dX12_named_49 : decode cX12_named 49 = .ok (.iaload, 1) := by decide +kernel
theorem dX12_named_50 : decode cX12_named 50 = .ok (.iastore, 1) := by decide +kernel
theorem dX12_named_51 : decode cX12_named 51 = .ok (.aload_n 0, 1) := by decide +kernel
theorem dX12_named_52 : decode cX12_named 52 = .ok (.getfield 105, 3) := by decide +kernel
theorem dX12_named_55 : decode cX12_named 55 = .ok (.iload_n 1, 1) := by decide +kernel
theorem dX12_named_56 : decode cX12_named 56 = .ok (.aload_n 0, 1) := by decide +kernel
theorem dX12_named_57 : decode cX12_named 57 = .ok (.getfield 169, 3) := by decide +kernel
theorem dX12_named_60 : decode cX12_named 60 = .ok (.iload_n 2, 1) := by decide +kernel
theorem dX12_named_61 : decode cX12_named 61 = .ok (.iaload, 1) := by decide +kernel
theorem dX12_named_62 : decode cX12_named 62 = .ok (.iastore, 1) := by decide +kernel
theorem dX12_named_63 : decode cX12_named 63 = .ok (.aload_n 0, 1) := by decide +kernel
theorem dX12_named_64 : decode cX12_named 64 = .ok (.getfield 166, 3) := by decide +kernel
theorem dX12_named_67 : decode cX12_named 67 = .ok (.iload_n 2, 1) := by decide +kernel
theorem dX12_named_68 : decode cX12_named 68 = .ok (.iaload, 1) := by decide +kernel
theorem dX12_named_69 : decode cX12_named 69 = .ok (.iconst 4, 1) := by decide +kernel
theorem dX12_named_70 : decode cX12_named 70 = .ok (.if_icmp .ne 31, 3) := by decide +kernel
theorem dX12_named_73 : decode cX12_named 73 = .ok (.aload_n 0, 1) := by decide +kernel
theorem dX12_named_74 : decode cX12_named 74 = .ok (.getfield 172, 3) := by decide +kernel
theorem dX12_named_77 : decode cX12_named 77 = .ok (.iload_n 2, 1) := by decide +kernel
theorem dX12_named_78 : decode cX12_named 78 = .ok (.iaload, 1) := by decide +kernel
theorem dX12_named_79 : decode cX12_named 79 = .ok (.aload_n 0, 1) := by decide +kernel
theorem dX12_named_80 : decode cX12_named 80 = .ok (.getfield 234, 3) := by decide +kernel
theorem dX12_named_83 : decode cX12_named 83 = .ok (.if_icmp .eq 18, 3) := by decide +kernel
theorem dX12_named_86 : decode cX12_named 86 = .ok (.aload_n 0, 1) := by decide +kernel
theorem dX12_named_87 : decode cX12_named 87 = .ok (.iconst 5, 1) := by decide +kernel
theorem dX12_named_88 : decode cX12_named 88 = .ok (.aload_n 0, 1) := by decide +kernel
theorem dX12_named_89 : decode cX12_named 89 = .ok (.aload_n 0, 1) := by decide +kernel
theorem dX12_named_90 : decode cX12_named 90 = .ok (.getfield 90, 3) := by decide +kernel
theorem dX12_named_93 : decode cX12_named 93 = .ok (.iload_n 1, 1) := by decide +kernel
theorem dX12_named_94 : decode cX12_named 94 = .ok (.iaload, 1) := by decide +kernel
theorem dX12_named_95 : decode cX12_named 95 = .ok (.invokevirtual 613, 3) := by decide +kernel
theorem dX12_named_98 : decode cX12_named 98 = .ok (.invokevirtual 605, 3) := by decide +kernel
theorem dX12_named_101 : decode cX12_named 101 = .ok (.aload_n 0, 1) := by decide +kernel
theorem dX12_named_102 : decode cX12_named 102 = .ok (.getfield 166, 3) := by decide +kernel
theorem dX12_named_105 : decode cX12_named 105 = .ok (.iload_n 2, 1) := by decide +kernel
theorem dX12_named_106 : decode cX12_named 106 = .ok (.iaload, 1) := by decide +kernel
theorem dX12_named_107 : decode cX12_named 107 = .ok (.iconst 5, 1) := by decide +kernel
theorem dX12_named_108 : decode cX12_named 108 = .ok (.if_icmp .ne 19, 3) := by decide +kernel
theorem dX12_named_111 : decode cX12_named 111 = .ok (.aload_n 0, 1) := by decide +kernel
theorem dX12_named_112 : decode cX12_named 112 = .ok (.bipush 6, 2) := by decide +kernel
theorem dX12_named_114 : decode cX12_named 114 = .ok (.aload_n 0, 1) := by decide +kernel
theorem dX12_named_115 : decode cX12_named 115 = .ok (.aload_n 0, 1) := by decide +kernel
theorem dX12_named_116 : decode cX12_named 116 = .ok (.getfield 90, 3) := by decide +kernel
theorem dX12_named_119 : decode cX12_named 119 = .ok (.iload_n 1, 1) := by decide +kernel
theorem dX12_named_120 : decode cX12_named 120 = .ok (.iaload, 1) := by decide +kernel
theorem dX12_named_121 : decode cX12_named 121 = .ok (.invokevirtual 613, 3) := by decide +kernel
theorem dX12_named_124 : decode cX12_named 124 = .ok (.invokevirtual 605, 3) := by decide +kernel
theorem dX12_named_127 : decode cX12_named 127 = .ok (.iload_n 2, 1) := by decide +kernel
theorem dX12_named_128 : decode cX12_named 128 = .ok (.ireturn, 1) := by decide +kernel
def wr_named_101 (Q : Int → zS → Prop)  (s0 : zS) (x1 : Int) (x2 : Int) : Prop :=
  (0 ≤ x2) ∧ (x2 < 9000) ∧ ((¬ (za s0 51 (Int.toNat x2)) = 5 → Q x2 s0) ∧ ((za s0 51 (Int.toNat x2)) = 5 → (0 ≤ x1) ∧ (x1 < 26000) ∧ wr_place s0 (za s0 26 (Int.toNat x1)) (fun r12 s13 => wr_fault s13 6 r12 (fun s19 => Q x2 s19))))
def wr_named (s0 : zS) (a0 : Int) (Q : Int → zS → Prop) : Prop :=
  (0 ≤ a0) ∧ (a0 < 26000) ∧ wr_means s0 (za s0 29 (Int.toNat a0)) (fun r5 s6 => ((0 ≤ r5 → (0 ≤ r5) ∧ (r5 < 9000) ∧ (0 ≤ a0) ∧ (a0 < 26000) ∧ (0 ≤ r5) ∧ (r5 < 9000) ∧ (0 ≤ a0) ∧ (a0 < 26000) ∧ (0 ≤ r5) ∧ (r5 < 9000) ∧ ((¬ (za s6 51 (Int.toNat r5)) = 4 → wr_named_101 Q  (zpa (zpa s6 30 (Int.toNat a0) (za s6 51 (Int.toNat r5))) 31 (Int.toNat a0) (za s6 52 (Int.toNat r5))) a0 r5) ∧ ((za s6 51 (Int.toNat r5)) = 4 → (0 ≤ r5) ∧ (r5 < 9000) ∧ (((za s6 53 (Int.toNat r5)) = (zv s6 73) → wr_named_101 Q  (zpa (zpa s6 30 (Int.toNat a0) (za s6 51 (Int.toNat r5))) 31 (Int.toNat a0) (za s6 52 (Int.toNat r5))) a0 r5) ∧ (¬ (za s6 53 (Int.toNat r5)) = (zv s6 73) → (0 ≤ a0) ∧ (a0 < 26000) ∧ wr_place (zpa (zpa s6 30 (Int.toNat a0) (za s6 51 (Int.toNat r5))) 31 (Int.toNat a0) (za s6 52 (Int.toNat r5))) (za s6 26 (Int.toNat a0)) (fun r51 s52 => wr_fault s52 5 r51 (fun s58 => wr_named_101 Q  s58 a0 r5))))))) ∧ (¬ 0 ≤ r5 → (0 ≤ a0) ∧ (a0 < 26000) ∧ wr_place s6 (za s6 26 (Int.toNat a0)) (fun r68 s69 => wr_fault s69 3 r68 (fun s75 => (0 ≤ a0) ∧ (a0 < 26000) ∧ Q (-1) (zpa s75 30 (Int.toNat a0) 0))))))
set_option maxHeartbeats 4000000 in
set_option maxRecDepth 100000 in
theorem rj_named_101 {X : gX} {d : gD} {b t : Nat} {T : Nat → Nat} {F0 : gM} (hC : gC RX12 cX12_named 3 (some .int) "named" (gR 1 0 0) d b X) {Q : Int → zS → Prop}   {F : gM} {s0 : zS} {x1 : Int} {x2 : Int} (Rx1 : zR x1) (Rx2 : zR x2) (hZ : zZ d t T F0 F s0) (hw : wr_named_101 Q  s0 x1 x2) : gG X d b (zQi X d b t T F0 Q) F 0 0 101 [some (.ref t), some (.int (zI x1)), some (.int (zI x2))] [] := by
  unfold wr_named_101 at hw
  refine g_aload_n hC dX12_named_101 rfl ?_
  refine zr_geta hC hZ fl_X12_166 zb_51 (by decide) dX12_named_102 ?_
  refine g_iload_n hC dX12_named_105 rfl ?_
  obtain ⟨o1, h2⟩ := hw
  obtain ⟨o3, h4⟩ := h2
  refine zr_iald (v := (za s0 51 (Int.toNat x2))) hC hZ zk_51 zb_51 zn_51 (by decide) o1 o3 rfl dX12_named_106 ?_
  refine g_iconst (v := zI 5) hC dX12_named_107 rfl ?_
  refine zr_icmp_ne (tgt := 127) hC (hZ.ra 51 _) (by decide) dX12_named_108 (by decide) (fun c5 => ?_) (fun c5 => ?_)
  · have h6 := h4.1 c5
    refine g_iload_n hC dX12_named_127 rfl ?_
    exact zr_iret hC hZ Rx2 h6 dX12_named_128
  · have h7 := h4.2 c5
    refine g_aload_n hC dX12_named_111 rfl ?_
    refine g_bipush (v := zI 6) hC dX12_named_112 rfl ?_
    refine g_aload_n hC dX12_named_114 rfl ?_
    refine g_aload_n hC dX12_named_115 rfl ?_
    refine zr_geta hC hZ fl_X12_90 zb_26 (by decide) dX12_named_116 ?_
    refine g_iload_n hC dX12_named_119 rfl ?_
    obtain ⟨o8, h9⟩ := h7
    obtain ⟨o10, h11⟩ := h9
    refine zr_iald (v := (za s0 26 (Int.toNat x1))) hC hZ zk_26 zb_26 zn_26 (by decide) o8 o10 rfl dX12_named_120 ?_
    refine zr_callVi (As := [.int (zI (za s0 26 (Int.toNat x1)))]) hC hZ rfl (rm_place X.la d b (hZ.ra 26 _) hZ.rf h11) cl_X12_613 rfl rfl (Nat.le_of_ble_eq_true rfl) ⟨Nat.le_of_ble_eq_true rfl, Nat.le_of_ble_eq_true rfl⟩ dX12_named_121 (fun r12 s13 F14 R15 hZ16 h17 => ?_)
    refine zr_callVv (As := [.int (zI 6), .int (zI r12)]) hC hZ16 rfl (rm_fault X.la d b (by decide) R15 hZ16.rf h17) cl_X12_605 rfl rfl (Nat.le_of_ble_eq_true rfl) ⟨Nat.le_of_ble_eq_true rfl, Nat.le_of_ble_eq_true rfl⟩ dX12_named_124 (fun s19 F20 hZ22 h23 => ?_)
    refine g_iload_n hC dX12_named_127 rfl ?_
    exact zr_iret hC hZ22 Rx2 h23 dX12_named_128
set_option maxHeartbeats 4000000 in
set_option maxRecDepth 100000 in
theorem rm_named (l : Launch) (d : gD) (b : Nat) {t : Nat} {T : Nat → Nat} {F : gM} {s0 : zS} {a0 : Int} (Ra0 : zR a0) {Q : Int → zS → Prop} (hZ : zZ d t T F F s0) (hw : wr_named s0 a0 Q) : gMi l d b yX12_named cX12_named 3 .int 1 0 0 F [.ref t, .int (zI a0)] (zPi d t T F Q) := by
  refine gM_of2 rfl (nL := 3) (Nat.le_of_ble_eq_true rfl) ?_
  intro X hX hC; subst hX
  show gG X d b (zQi X d b t T F Q) F 0 0 0 [some (.ref t), some (.int (zI a0)), none] []
  unfold wr_named at hw
  refine g_aload_n hC dX12_named_0 rfl ?_
  refine g_aload_n hC dX12_named_1 rfl ?_
  refine zr_geta hC hZ fl_X12_99 zb_29 (by decide) dX12_named_2 ?_
  refine g_iload_n hC dX12_named_5 rfl ?_
  obtain ⟨o1, h2⟩ := hw
  obtain ⟨o3, h4⟩ := h2
  refine zr_iald (v := (za s0 29 (Int.toNat a0))) hC hZ zk_29 zb_29 zn_29 (by decide) o1 o3 rfl dX12_named_6 ?_
  refine zr_callVi (As := [.int (zI (za s0 29 (Int.toNat a0)))]) hC hZ rfl (rm_means X.la d b (hZ.ra 29 _) hZ.rf h4) cl_X12_619 rfl rfl (Nat.le_of_ble_eq_true rfl) ⟨Nat.le_of_ble_eq_true rfl, Nat.le_of_ble_eq_true rfl⟩ dX12_named_7 (fun r5 s6 F7 R8 hZ9 h10 => ?_)
  refine g_istore_n (lv' := [some (.ref t), some (.int (zI a0)), some (.int (zI r5))]) hC dX12_named_10 (Nat.le_of_ble_eq_true rfl) rfl rfl ?_
  refine g_iload_n hC dX12_named_11 rfl ?_
  refine zr_if_ge (tgt := 39) hC R8 dX12_named_12 (by decide) (fun c11 => ?_) (fun c11 => ?_)
  · have h12 := h10.1 c11
    refine g_aload_n hC dX12_named_39 rfl ?_
    refine zr_geta hC hZ9 fl_X12_102 zb_30 (by decide) dX12_named_40 ?_
    refine g_iload_n hC dX12_named_43 rfl ?_
    refine g_aload_n hC dX12_named_44 rfl ?_
    refine zr_geta hC hZ9 fl_X12_166 zb_51 (by decide) dX12_named_45 ?_
    refine g_iload_n hC dX12_named_48 rfl ?_
    obtain ⟨o13, h14⟩ := h12
    obtain ⟨o15, h16⟩ := h14
    refine zr_iald (v := (za s6 51 (Int.toNat r5))) hC hZ9 zk_51 zb_51 zn_51 (by decide) o13 o15 rfl dX12_named_49 ?_
    obtain ⟨o17, h18⟩ := h16
    obtain ⟨o19, h20⟩ := h18
    refine zr_iast hC hZ9 zk_30 zb_30 zn_30 (by decide) o17 o19 (hZ9.ra 51 _) dX12_named_50 (fun F21 hZ22 => ?_)
    refine g_aload_n hC dX12_named_51 rfl ?_
    refine zr_geta hC hZ22 fl_X12_105 zb_31 (by decide) dX12_named_52 ?_
    refine g_iload_n hC dX12_named_55 rfl ?_
    refine g_aload_n hC dX12_named_56 rfl ?_
    refine zr_geta hC hZ22 fl_X12_169 zb_52 (by decide) dX12_named_57 ?_
    refine g_iload_n hC dX12_named_60 rfl ?_
    obtain ⟨o23, h24⟩ := h20
    obtain ⟨o25, h26⟩ := h24
    refine zr_iald (v := (za s6 52 (Int.toNat r5))) hC hZ22 zk_52 zb_52 zn_52 (by decide) o23 o25 rfl dX12_named_61 ?_
    obtain ⟨o27, h28⟩ := h26
    obtain ⟨o29, h30⟩ := h28
    refine zr_iast hC hZ22 zk_31 zb_31 zn_31 (by decide) o27 o29 (hZ9.ra 52 _) dX12_named_62 (fun F31 hZ32 => ?_)
    refine g_aload_n hC dX12_named_63 rfl ?_
    refine zr_geta hC hZ32 fl_X12_166 zb_51 (by decide) dX12_named_64 ?_
    refine g_iload_n hC dX12_named_67 rfl ?_
    obtain ⟨o33, h34⟩ := h30
    obtain ⟨o35, h36⟩ := h34
    refine zr_iald (v := (za s6 51 (Int.toNat r5))) hC hZ32 zk_51 zb_51 zn_51 (by decide) o33 o35 rfl dX12_named_68 ?_
    refine g_iconst (v := zI 4) hC dX12_named_69 rfl ?_
    refine zr_icmp_ne (tgt := 101) hC (hZ9.ra 51 _) (by decide) dX12_named_70 (by decide) (fun c37 => ?_) (fun c37 => ?_)
    · have h38 := h36.1 c37
      exact rj_named_101 hC  Ra0 R8 hZ32 h38
    · have h39 := h36.2 c37
      refine g_aload_n hC dX12_named_73 rfl ?_
      refine zr_geta hC hZ32 fl_X12_172 zb_53 (by decide) dX12_named_74 ?_
      refine g_iload_n hC dX12_named_77 rfl ?_
      obtain ⟨o40, h41⟩ := h39
      obtain ⟨o42, h43⟩ := h41
      refine zr_iald (v := (za s6 53 (Int.toNat r5))) hC hZ32 zk_53 zb_53 zn_53 (by decide) o40 o42 rfl dX12_named_78 ?_
      refine g_aload_n hC dX12_named_79 rfl ?_
      refine zr_get (e := (zv s6 73)) hC hZ32 fl_X12_234 zb_73 (by decide) rfl dX12_named_80 ?_
      refine zr_icmp_eq (tgt := 101) hC (hZ9.ra 53 _) (hZ9.rv 73) dX12_named_83 (by decide) (fun c44 => ?_) (fun c44 => ?_)
      · have h45 := h43.1 c44
        exact rj_named_101 hC  Ra0 R8 hZ32 h45
      · have h46 := h43.2 c44
        refine g_aload_n hC dX12_named_86 rfl ?_
        refine g_iconst (v := zI 5) hC dX12_named_87 rfl ?_
        refine g_aload_n hC dX12_named_88 rfl ?_
        refine g_aload_n hC dX12_named_89 rfl ?_
        refine zr_geta hC hZ32 fl_X12_90 zb_26 (by decide) dX12_named_90 ?_
        refine g_iload_n hC dX12_named_93 rfl ?_
        obtain ⟨o47, h48⟩ := h46
        obtain ⟨o49, h50⟩ := h48
        refine zr_iald (v := (za s6 26 (Int.toNat a0))) hC hZ32 zk_26 zb_26 zn_26 (by decide) o47 o49 rfl dX12_named_94 ?_
        refine zr_callVi (As := [.int (zI (za s6 26 (Int.toNat a0)))]) hC hZ32 rfl (rm_place X.la d b (hZ9.ra 26 _) hZ32.rf h50) cl_X12_613 rfl rfl (Nat.le_of_ble_eq_true rfl) ⟨Nat.le_of_ble_eq_true rfl, Nat.le_of_ble_eq_true rfl⟩ dX12_named_95 (fun r51 s52 F53 R54 hZ55 h56 => ?_)
        refine zr_callVv (As := [.int (zI 5), .int (zI r51)]) hC hZ55 rfl (rm_fault X.la d b (by decide) R54 hZ55.rf h56) cl_X12_605 rfl rfl (Nat.le_of_ble_eq_true rfl) ⟨Nat.le_of_ble_eq_true rfl, Nat.le_of_ble_eq_true rfl⟩ dX12_named_98 (fun s58 F59 hZ61 h62 => ?_)
        exact rj_named_101 hC  Ra0 R8 hZ61 h62
  · have h63 := h10.2 c11
    refine g_aload_n hC dX12_named_15 rfl ?_
    refine g_iconst (v := zI 3) hC dX12_named_16 rfl ?_
    refine g_aload_n hC dX12_named_17 rfl ?_
    refine g_aload_n hC dX12_named_18 rfl ?_
    refine zr_geta hC hZ9 fl_X12_90 zb_26 (by decide) dX12_named_19 ?_
    refine g_iload_n hC dX12_named_22 rfl ?_
    obtain ⟨o64, h65⟩ := h63
    obtain ⟨o66, h67⟩ := h65
    refine zr_iald (v := (za s6 26 (Int.toNat a0))) hC hZ9 zk_26 zb_26 zn_26 (by decide) o64 o66 rfl dX12_named_23 ?_
    refine zr_callVi (As := [.int (zI (za s6 26 (Int.toNat a0)))]) hC hZ9 rfl (rm_place X.la d b (hZ9.ra 26 _) hZ9.rf h67) cl_X12_613 rfl rfl (Nat.le_of_ble_eq_true rfl) ⟨Nat.le_of_ble_eq_true rfl, Nat.le_of_ble_eq_true rfl⟩ dX12_named_24 (fun r68 s69 F70 R71 hZ72 h73 => ?_)
    refine zr_callVv (As := [.int (zI 3), .int (zI r68)]) hC hZ72 rfl (rm_fault X.la d b (by decide) R71 hZ72.rf h73) cl_X12_605 rfl rfl (Nat.le_of_ble_eq_true rfl) ⟨Nat.le_of_ble_eq_true rfl, Nat.le_of_ble_eq_true rfl⟩ dX12_named_27 (fun s75 F76 hZ78 h79 => ?_)
    refine g_aload_n hC dX12_named_30 rfl ?_
    refine zr_geta hC hZ78 fl_X12_102 zb_30 (by decide) dX12_named_31 ?_
    refine g_iload_n hC dX12_named_34 rfl ?_
    refine g_iconst (v := zI 0) hC dX12_named_35 rfl ?_
    obtain ⟨o80, h81⟩ := h79
    obtain ⟨o82, h83⟩ := h81
    refine zr_iast hC hZ78 zk_30 zb_30 zn_30 (by decide) o80 o82 (by decide) dX12_named_36 (fun F84 hZ85 => ?_)
    refine g_iconst (v := zI (-1)) hC dX12_named_37 rfl ?_
    exact zr_iret hC hZ85 (by decide) h83 dX12_named_38
theorem dX12_string_0 : decode cX12_string 0 = .ok (.aload_n 0, 1) := by decide +kernel
theorem dX12_string_1 : decode cX12_string 1 = .ok (.getfield 99, 3) := by decide +kernel
theorem dX12_string_4 : decode cX12_string 4 = .ok (.iload_n 1, 1) := by decide +kernel
theorem dX12_string_5 : decode cX12_string 5 = .ok (.iaload, 1) := by decide +kernel
theorem dX12_string_6 : decode cX12_string 6 = .ok (.istore_n 2, 1) := by decide +kernel
theorem dX12_string_7 : decode cX12_string 7 = .ok (.aload_n 0, 1) := by decide +kernel
theorem dX12_string_8 : decode cX12_string 8 = .ok (.getfield 105, 3) := by decide +kernel
theorem dX12_string_11 : decode cX12_string 11 = .ok (.iload_n 1, 1) := by decide +kernel
theorem dX12_string_12 : decode cX12_string 12 = .ok (.aload_n 0, 1) := by decide +kernel
theorem dX12_string_13 : decode cX12_string 13 = .ok (.getfield 258, 3) := by decide +kernel
theorem dX12_string_16 : decode cX12_string 16 = .ok (.iastore, 1) := by decide +kernel
theorem dX12_string_17 : decode cX12_string 17 = .ok (.aload_n 0, 1) := by decide +kernel
theorem dX12_string_18 : decode cX12_string 18 = .ok (.getfield 63, 3) := by decide +kernel
theorem dX12_string_21 : decode cX12_string 21 = .ok (.iload_n 2, 1) := by decide +kernel
theorem dX12_string_22 : decode cX12_string 22 = .ok (.iaload, 1) := by decide +kernel
theorem dX12_string_23 : decode cX12_string 23 = .ok (.iconst 1, 1) := by decide +kernel
theorem dX12_string_24 : decode cX12_string 24 = .ok (.iadd, 1) := by decide +kernel
theorem dX12_string_25 : decode cX12_string 25 = .ok (.istore_n 3, 1) := by decide +kernel
theorem dX12_string_26 : decode cX12_string 26 = .ok (.iconst 0, 1) := by decide +kernel
theorem dX12_string_27 : decode cX12_string 27 = .ok (.istore 4, 2) := by decide +kernel
theorem dX12_string_29 : decode cX12_string 29 = .ok (.iload 4, 2) := by decide +kernel
theorem dX12_string_31 : decode cX12_string 31 = .ok (.iload_n 3, 1) := by decide +kernel
theorem dX12_string_32 : decode cX12_string 32 = .ok (.if_icmp .ge 109, 3) := by decide +kernel
theorem dX12_string_35 : decode cX12_string 35 = .ok (.iconst 0, 1) := by decide +kernel
theorem dX12_string_36 : decode cX12_string 36 = .ok (.istore 5, 2) := by decide +kernel
theorem dX12_string_38 : decode cX12_string 38 = .ok (.iconst 3, 1) := by decide +kernel
theorem dX12_string_39 : decode cX12_string 39 = .ok (.istore 6, 2) := by decide +kernel
theorem dX12_string_41 : decode cX12_string 41 = .ok (.iload 6, 2) := by decide +kernel
theorem dX12_string_43 : decode cX12_string 43 = .ok (.ifCond .lt 72, 3) := by decide +kernel
theorem dX12_string_46 : decode cX12_string 46 = .ok (.iload 4, 2) := by decide +kernel
theorem dX12_string_48 : decode cX12_string 48 = .ok (.iload 6, 2) := by decide +kernel
theorem dX12_string_50 : decode cX12_string 50 = .ok (.iadd, 1) := by decide +kernel
theorem dX12_string_51 : decode cX12_string 51 = .ok (.istore 7, 2) := by decide +kernel
theorem dX12_string_53 : decode cX12_string 53 = .ok (.iload 7, 2) := by decide +kernel
theorem dX12_string_55 : decode cX12_string 55 = .ok (.ifCond .ne 12, 3) := by decide +kernel
theorem dX12_string_58 : decode cX12_string 58 = .ok (.aload_n 0, 1) := by decide +kernel
theorem dX12_string_59 : decode cX12_string 59 = .ok (.getfield 63, 3) := by decide +kernel
theorem dX12_string_62 : decode cX12_string 62 = .ok (.iload_n 2, 1) := by decide +kernel
theorem dX12_string_63 : decode cX12_string 63 = .ok (.iaload, 1) := by decide +kernel
theorem dX12_string_64 : decode cX12_string 64 = .ok (.goto 33, 3) := by decide +kernel
theorem dX12_string_67 : decode cX12_string 67 = .ok (.iload 7, 2) := by decide +kernel
theorem dX12_string_69 : decode cX12_string 69 = .ok (.iload_n 3, 1) := by decide +kernel
theorem dX12_string_70 : decode cX12_string 70 = .ok (.if_icmp .ge 26, 3) := by decide +kernel
theorem dX12_string_73 : decode cX12_string 73 = .ok (.aload_n 0, 1) := by decide +kernel
theorem dX12_string_74 : decode cX12_string 74 = .ok (.getfield 54, 3) := by decide +kernel
theorem dX12_string_77 : decode cX12_string 77 = .ok (.aload_n 0, 1) := by decide +kernel
theorem dX12_string_78 : decode cX12_string 78 = .ok (.getfield 60, 3) := by decide +kernel
theorem dX12_string_81 : decode cX12_string 81 = .ok (.iload_n 2, 1) := by decide +kernel
theorem dX12_string_82 : decode cX12_string 82 = .ok (.iaload, 1) := by decide +kernel
theorem dX12_string_83 : decode cX12_string 83 = .ok (.iload 7, 2) := by decide +kernel
theorem dX12_string_85 : decode cX12_string 85 = .ok (.iadd, 1) := by decide +kernel
theorem dX12_string_86 : decode cX12_string 86 = .ok (.iconst 1, 1) := by decide +kernel
theorem dX12_string_87 : decode cX12_string 87 = .ok (.isub, 1) := by decide +kernel
theorem dX12_string_88 : decode cX12_string 88 = .ok (.baload, 1) := by decide +kernel
theorem dX12_string_89 : decode cX12_string 89 = .ok (.sipush 255, 3) := by decide +kernel
theorem dX12_string_92 : decode cX12_string 92 = .ok (.iand, 1) := by decide +kernel
theorem dX12_string_93 : decode cX12_string 93 = .ok (.goto 4, 3) := by decide +kernel
theorem dX12_string_96 : decode cX12_string 96 = .ok (.iconst 0, 1) := by decide +kernel
theorem dX12_string_97 : decode cX12_string 97 = .ok (.istore 8, 2) := by decide +kernel
theorem dX12_string_99 : decode cX12_string 99 = .ok (.iload 5, 2) := by decide +kernel
theorem dX12_string_101 : decode cX12_string 101 = .ok (.bipush 8, 2) := by decide +kernel
theorem dX12_string_103 : decode cX12_string 103 = .ok (.ishl, 1) := by decide +kernel
theorem dX12_string_104 : decode cX12_string 104 = .ok (.iload 8, 2) := by decide +kernel
theorem dX12_string_106 : decode cX12_string 106 = .ok (.ior, 1) := by decide +kernel
theorem dX12_string_107 : decode cX12_string 107 = .ok (.istore 5, 2) := by decide +kernel
theorem dX12_string_109 : decode cX12_string 109 = .ok (.iinc 6 (-1), 3) := by decide +kernel
theorem dX12_string_112 : decode cX12_string 112 = .ok (.goto (-71), 3) := by decide +kernel
theorem dX12_string_115 : decode cX12_string 115 = .ok (.aload_n 0, 1) := by decide +kernel
theorem dX12_string_116 : decode cX12_string 116 = .ok (.aload_n 0, 1) := by decide +kernel
theorem dX12_string_117 : decode cX12_string 117 = .ok (.getfield 258, 3) := by decide +kernel
theorem dX12_string_120 : decode cX12_string 120 = .ok (.iload 5, 2) := by decide +kernel
theorem dX12_string_122 : decode cX12_string 122 = .ok (.invokevirtual 759, 3) := by decide +kernel
theorem dX12_string_125 : decode cX12_string 125 = .ok (.aload_n 0, 1) := by decide +kernel
theorem dX12_string_126 : decode cX12_string 126 = .ok (.dup, 1) := by decide +kernel
theorem dX12_string_127 : decode cX12_string 127 = .ok (.getfield 258, 3) := by decide +kernel
theorem dX12_string_130 : decode cX12_string 130 = .ok (.iconst 1, 1) := by decide +kernel
theorem dX12_string_131 : decode cX12_string 131 = .ok (.iadd, 1) := by decide +kernel
theorem dX12_string_132 : decode cX12_string 132 = .ok (.putfield 258, 3) := by decide +kernel
theorem dX12_string_135 : decode cX12_string 135 = .ok (.iinc 4 4, 3) := by decide +kernel
theorem dX12_string_138 : decode cX12_string 138 = .ok (.goto (-109), 3) := by decide +kernel
theorem dX12_string_141 : decode cX12_string 141 = .ok (.return_, 1) := by decide +kernel
def wr_string_41B (Q : zS → Prop) (k29 : zS → Int → Int → Int → Prop) (k41 : zS → Int → Int → Int → Int → Int → Prop) (s0 : zS) (x2 : Int) (x3 : Int) (x4 : Int) (x5 : Int) (x6 : Int) : Prop :=
  ((x6 < 0 → wr_init_ s0 (zv s0 81) x5 (fun s4 => (zR ((zv s4 81) + 1)) ∧ (zR (x4 + 4)) ∧ k29 (zpv s4 81 ((zv s4 81) + 1)) x2 x3 (x4 + 4))) ∧ (¬ x6 < 0 → (zR (x4 + x6)) ∧ ((¬ (x4 + x6) = 0 → ((x3 ≤ (x4 + x6) → (zR (x6 + (-1))) ∧ k41 s0 x2 x3 x4 (zor (zsl x5 8) 0) (x6 + (-1))) ∧ (¬ x3 ≤ (x4 + x6) → (0 ≤ x2) ∧ (x2 < 3100) ∧ (0 ≤ (((za s0 16 (Int.toNat x2)) + (x4 + x6)) - 1)) ∧ ((((za s0 16 (Int.toNat x2)) + (x4 + x6)) - 1) < 6000) ∧ (zR (x6 + (-1))) ∧ k41 s0 x2 x3 x4 (zor (zsl x5 8) (zan (za s0 14 (Int.toNat (((za s0 16 (Int.toNat x2)) + (x4 + x6)) - 1))) 255)) (x6 + (-1))))) ∧ ((x4 + x6) = 0 → (0 ≤ x2) ∧ (x2 < 3100) ∧ (zR (x6 + (-1))) ∧ k41 s0 x2 x3 x4 (zor (zsl x5 8) (za s0 17 (Int.toNat x2))) (x6 + (-1))))))
def wr_string_41 (Q : zS → Prop) (k29 : zS → Int → Int → Int → Prop) : Nat → zS → Int → Int → Int → Int → Int → Prop
  | 0 => fun _ _ _ _ _ _ => False
  | m + 1 => fun s0 x2 x3 x4 x5 x6 => wr_string_41B Q k29 (wr_string_41 Q k29 m) s0 x2 x3 x4 x5 x6
def wr_string_29B (Q : zS → Prop) (k29 : zS → Int → Int → Int → Prop) (s0 : zS) (x2 : Int) (x3 : Int) (x4 : Int) : Prop :=
  ((x3 ≤ x4 → Q s0) ∧ (¬ x3 ≤ x4 → ∃ n, wr_string_41 Q k29 n s0 x2 x3 x4 0 3))
def wr_string_29 (Q : zS → Prop)  : Nat → zS → Int → Int → Int → Prop
  | 0 => fun _ _ _ _ => False
  | m + 1 => fun s0 x2 x3 x4 => wr_string_29B Q  (wr_string_29 Q  m) s0 x2 x3 x4
def wr_string (s0 : zS) (a0 : Int) (Q : zS → Prop) : Prop :=
  (0 ≤ a0) ∧ (a0 < 26000) ∧ (0 ≤ a0) ∧ (a0 < 26000) ∧ (0 ≤ (za s0 29 (Int.toNat a0))) ∧ ((za s0 29 (Int.toNat a0)) < 3100) ∧ (zR ((za s0 17 (Int.toNat (za s0 29 (Int.toNat a0)))) + 1)) ∧ ∃ n, wr_string_29 Q  n (zpa s0 31 (Int.toNat a0) (zv s0 81)) (za s0 29 (Int.toNat a0)) ((za s0 17 (Int.toNat (za s0 29 (Int.toNat a0)))) + 1) 0
set_option maxHeartbeats 4000000 in
set_option maxRecDepth 100000 in
theorem rb_string_41 {X : gX} {d : gD} {b t : Nat} {T : Nat → Nat} {F0 : gM} (hC : gC RX12 cX12_string 9 none "string" (gR 1 0 0) d b X) {Q : zS → Prop} {k29 : zS → Int → Int → Int → Prop} {k41 : zS → Int → Int → Int → Int → Int → Prop} (hk29 : ∀ (F : gM) (s0 : zS) (x2 : Int) (x3 : Int) (x4 : Int), zR x2 → zR x3 → zR x4 → zZ d t T F0 F s0 → k29 s0 x2 x3 x4 → gG X d b (zQv X d b t T F0 Q) F 0 0 29 [some (.ref t), none, some (.int (zI x2)), some (.int (zI x3)), some (.int (zI x4)), none, none, none, none] []) (hk41 : ∀ (F : gM) (s0 : zS) (x2 : Int) (x3 : Int) (x4 : Int) (x5 : Int) (x6 : Int), zR x2 → zR x3 → zR x4 → zR x5 → zR x6 → zZ d t T F0 F s0 → k41 s0 x2 x3 x4 x5 x6 → gG X d b (zQv X d b t T F0 Q) F 0 0 41 [some (.ref t), none, some (.int (zI x2)), some (.int (zI x3)), some (.int (zI x4)), some (.int (zI x5)), some (.int (zI x6)), none, none] []) {F : gM} {s0 : zS} {x2 : Int} {x3 : Int} {x4 : Int} {x5 : Int} {x6 : Int} (Rx2 : zR x2) (Rx3 : zR x3) (Rx4 : zR x4) (Rx5 : zR x5) (Rx6 : zR x6) (hZ : zZ d t T F0 F s0) (hw : wr_string_41B Q k29 k41 s0 x2 x3 x4 x5 x6) : gG X d b (zQv X d b t T F0 Q) F 0 0 41 [some (.ref t), none, some (.int (zI x2)), some (.int (zI x3)), some (.int (zI x4)), some (.int (zI x5)), some (.int (zI x6)), none, none] [] := by
  unfold wr_string_41B at hw
  refine g_iload hC dX12_string_41 rfl ?_
  refine zr_if_lt (tgt := 115) hC Rx6 dX12_string_43 (by decide) (fun c1 => ?_) (fun c1 => ?_)
  · have h2 := hw.1 c1
    refine g_aload_n hC dX12_string_115 rfl ?_
    refine g_aload_n hC dX12_string_116 rfl ?_
    refine zr_get (e := (zv s0 81)) hC hZ fl_X12_258 zb_81 (by decide) rfl dX12_string_117 ?_
    refine g_iload hC dX12_string_120 rfl ?_
    refine zr_callVv (As := [.int (zI (zv s0 81)), .int (zI x5)]) hC hZ rfl (rm_init_ X.la d b (hZ.rv 81) Rx5 hZ.rf h2) cl_X12_759 rfl rfl (Nat.le_of_ble_eq_true rfl) ⟨Nat.le_of_ble_eq_true rfl, Nat.le_of_ble_eq_true rfl⟩ dX12_string_122 (fun s4 F5 hZ7 h8 => ?_)
    refine g_aload_n hC dX12_string_125 rfl ?_
    refine g_dup hC dX12_string_126 rfl ?_
    refine zr_get (e := (zv s4 81)) hC hZ7 fl_X12_258 zb_81 (by decide) rfl dX12_string_127 ?_
    refine g_iconst (v := zI 1) hC dX12_string_130 rfl ?_
    refine zr_iadd hC dX12_string_131 ?_
    obtain ⟨o9, h10⟩ := h8
    refine zr_put hC hZ7 fl_X12_258 zb_81 (by decide) o9 dX12_string_132 (fun F11 hZ12 => ?_)
    refine zr_iinc (x := x4) (lv' := [some (.ref t), none, some (.int (zI x2)), some (.int (zI x3)), some (.int (zI (x4 + 4))), some (.int (zI x5)), some (.int (zI x6)), none, none]) hC dX12_string_135 rfl rfl rfl ?_
    refine g_goto (tgt := 29) hC dX12_string_138 (by decide) ?_
    obtain ⟨o13, h14⟩ := h10
    refine g_lv (lv' := [some (.ref t), none, some (.int (zI x2)), some (.int (zI x3)), some (.int (zI (x4 + 4))), none, none, none, none]) ⟨rfl, rfl, rfl, rfl, trivial⟩ ?_
    exact hk29 _ _ _ _ _ Rx2 Rx3 o13 hZ12 h14
  · have h15 := hw.2 c1
    refine g_iload hC dX12_string_46 rfl ?_
    refine g_iload hC dX12_string_48 rfl ?_
    refine zr_iadd hC dX12_string_50 ?_
    refine g_istore (lv' := [some (.ref t), none, some (.int (zI x2)), some (.int (zI x3)), some (.int (zI x4)), some (.int (zI x5)), some (.int (zI x6)), some (.int (zI (x4 + x6))), none]) hC dX12_string_51 (Nat.le_of_ble_eq_true rfl) rfl rfl ?_
    refine g_iload hC dX12_string_53 rfl ?_
    obtain ⟨o16, h17⟩ := h15
    refine zr_if_ne (tgt := 67) hC o16 dX12_string_55 (by decide) (fun c18 => ?_) (fun c18 => ?_)
    · have h19 := h17.1 c18
      refine g_iload hC dX12_string_67 rfl ?_
      refine g_iload_n hC dX12_string_69 rfl ?_
      refine zr_icmp_ge (tgt := 96) hC o16 Rx3 dX12_string_70 (by decide) (fun c20 => ?_) (fun c20 => ?_)
      · have h21 := h19.1 c20
        refine g_iconst (v := zI 0) hC dX12_string_96 rfl ?_
        refine g_istore (lv' := [some (.ref t), none, some (.int (zI x2)), some (.int (zI x3)), some (.int (zI x4)), some (.int (zI x5)), some (.int (zI x6)), some (.int (zI (x4 + x6))), some (.int (zI 0))]) hC dX12_string_97 (Nat.le_of_ble_eq_true rfl) rfl rfl ?_
        refine g_iload hC dX12_string_99 rfl ?_
        refine g_bipush (v := zI 8) hC dX12_string_101 rfl ?_
        refine zr_ishl hC dX12_string_103 ?_
        refine g_iload hC dX12_string_104 rfl ?_
        refine zr_ior hC dX12_string_106 ?_
        refine g_istore (lv' := [some (.ref t), none, some (.int (zI x2)), some (.int (zI x3)), some (.int (zI x4)), some (.int (zI (zor (zsl x5 8) 0))), some (.int (zI x6)), some (.int (zI (x4 + x6))), some (.int (zI 0))]) hC dX12_string_107 (Nat.le_of_ble_eq_true rfl) rfl rfl ?_
        refine zr_iinc (x := x6) (lv' := [some (.ref t), none, some (.int (zI x2)), some (.int (zI x3)), some (.int (zI x4)), some (.int (zI (zor (zsl x5 8) 0))), some (.int (zI (x6 + (-1)))), some (.int (zI (x4 + x6))), some (.int (zI 0))]) hC dX12_string_109 rfl rfl rfl ?_
        refine g_goto (tgt := 41) hC dX12_string_112 (by decide) ?_
        obtain ⟨o22, h23⟩ := h21
        refine g_lv (lv' := [some (.ref t), none, some (.int (zI x2)), some (.int (zI x3)), some (.int (zI x4)), some (.int (zI (zor (zsl x5 8) 0))), some (.int (zI (x6 + (-1)))), none, none]) ⟨rfl, rfl, rfl, rfl, rfl, rfl, trivial⟩ ?_
        exact hk41 _ _ _ _ _ _ _ Rx2 Rx3 Rx4 (zR_t _) o22 hZ h23
      · have h24 := h19.2 c20
        refine g_aload_n hC dX12_string_73 rfl ?_
        refine zr_geta hC hZ fl_X12_54 zb_14 (by decide) dX12_string_74 ?_
        refine g_aload_n hC dX12_string_77 rfl ?_
        refine zr_geta hC hZ fl_X12_60 zb_16 (by decide) dX12_string_78 ?_
        refine g_iload_n hC dX12_string_81 rfl ?_
        obtain ⟨o25, h26⟩ := h24
        obtain ⟨o27, h28⟩ := h26
        refine zr_iald (v := (za s0 16 (Int.toNat x2))) hC hZ zk_16 zb_16 zn_16 (by decide) o25 o27 rfl dX12_string_82 ?_
        refine g_iload hC dX12_string_83 rfl ?_
        refine zr_iadd hC dX12_string_85 ?_
        refine g_iconst (v := zI 1) hC dX12_string_86 rfl ?_
        refine zr_isub hC dX12_string_87 ?_
        obtain ⟨o29, h30⟩ := h28
        obtain ⟨o31, h32⟩ := h30
        refine zr_bald (v := (za s0 14 (Int.toNat (((za s0 16 (Int.toNat x2)) + (x4 + x6)) - 1)))) hC hZ zk_14 zb_14 zn_14 (by decide) o29 o31 rfl dX12_string_88 ?_
        refine g_sipush (v := zI 255) hC dX12_string_89 rfl ?_
        refine zr_iand hC dX12_string_92 ?_
        refine g_goto (tgt := 97) hC dX12_string_93 (by decide) ?_
        refine g_istore (lv' := [some (.ref t), none, some (.int (zI x2)), some (.int (zI x3)), some (.int (zI x4)), some (.int (zI x5)), some (.int (zI x6)), some (.int (zI (x4 + x6))), some (.int (zI (zan (za s0 14 (Int.toNat (((za s0 16 (Int.toNat x2)) + (x4 + x6)) - 1))) 255)))]) hC dX12_string_97 (Nat.le_of_ble_eq_true rfl) rfl rfl ?_
        refine g_iload hC dX12_string_99 rfl ?_
        refine g_bipush (v := zI 8) hC dX12_string_101 rfl ?_
        refine zr_ishl hC dX12_string_103 ?_
        refine g_iload hC dX12_string_104 rfl ?_
        refine zr_ior hC dX12_string_106 ?_
        refine g_istore (lv' := [some (.ref t), none, some (.int (zI x2)), some (.int (zI x3)), some (.int (zI x4)), some (.int (zI (zor (zsl x5 8) (zan (za s0 14 (Int.toNat (((za s0 16 (Int.toNat x2)) + (x4 + x6)) - 1))) 255)))), some (.int (zI x6)), some (.int (zI (x4 + x6))), some (.int (zI (zan (za s0 14 (Int.toNat (((za s0 16 (Int.toNat x2)) + (x4 + x6)) - 1))) 255)))]) hC dX12_string_107 (Nat.le_of_ble_eq_true rfl) rfl rfl ?_
        refine zr_iinc (x := x6) (lv' := [some (.ref t), none, some (.int (zI x2)), some (.int (zI x3)), some (.int (zI x4)), some (.int (zI (zor (zsl x5 8) (zan (za s0 14 (Int.toNat (((za s0 16 (Int.toNat x2)) + (x4 + x6)) - 1))) 255)))), some (.int (zI (x6 + (-1)))), some (.int (zI (x4 + x6))), some (.int (zI (zan (za s0 14 (Int.toNat (((za s0 16 (Int.toNat x2)) + (x4 + x6)) - 1))) 255)))]) hC dX12_string_109 rfl rfl rfl ?_
        refine g_goto (tgt := 41) hC dX12_string_112 (by decide) ?_
        obtain ⟨o33, h34⟩ := h32
        refine g_lv (lv' := [some (.ref t), none, some (.int (zI x2)), some (.int (zI x3)), some (.int (zI x4)), some (.int (zI (zor (zsl x5 8) (zan (za s0 14 (Int.toNat (((za s0 16 (Int.toNat x2)) + (x4 + x6)) - 1))) 255)))), some (.int (zI (x6 + (-1)))), none, none]) ⟨rfl, rfl, rfl, rfl, rfl, rfl, trivial⟩ ?_
        exact hk41 _ _ _ _ _ _ _ Rx2 Rx3 Rx4 (zR_t _) o33 hZ h34
    · have h35 := h17.2 c18
      refine g_aload_n hC dX12_string_58 rfl ?_
      refine zr_geta hC hZ fl_X12_63 zb_17 (by decide) dX12_string_59 ?_
      refine g_iload_n hC dX12_string_62 rfl ?_
      obtain ⟨o36, h37⟩ := h35
      obtain ⟨o38, h39⟩ := h37
      refine zr_iald (v := (za s0 17 (Int.toNat x2))) hC hZ zk_17 zb_17 zn_17 (by decide) o36 o38 rfl dX12_string_63 ?_
      refine g_goto (tgt := 97) hC dX12_string_64 (by decide) ?_
      refine g_istore (lv' := [some (.ref t), none, some (.int (zI x2)), some (.int (zI x3)), some (.int (zI x4)), some (.int (zI x5)), some (.int (zI x6)), some (.int (zI (x4 + x6))), some (.int (zI (za s0 17 (Int.toNat x2))))]) hC dX12_string_97 (Nat.le_of_ble_eq_true rfl) rfl rfl ?_
      refine g_iload hC dX12_string_99 rfl ?_
      refine g_bipush (v := zI 8) hC dX12_string_101 rfl ?_
      refine zr_ishl hC dX12_string_103 ?_
      refine g_iload hC dX12_string_104 rfl ?_
      refine zr_ior hC dX12_string_106 ?_
      refine g_istore (lv' := [some (.ref t), none, some (.int (zI x2)), some (.int (zI x3)), some (.int (zI x4)), some (.int (zI (zor (zsl x5 8) (za s0 17 (Int.toNat x2))))), some (.int (zI x6)), some (.int (zI (x4 + x6))), some (.int (zI (za s0 17 (Int.toNat x2))))]) hC dX12_string_107 (Nat.le_of_ble_eq_true rfl) rfl rfl ?_
      refine zr_iinc (x := x6) (lv' := [some (.ref t), none, some (.int (zI x2)), some (.int (zI x3)), some (.int (zI x4)), some (.int (zI (zor (zsl x5 8) (za s0 17 (Int.toNat x2))))), some (.int (zI (x6 + (-1)))), some (.int (zI (x4 + x6))), some (.int (zI (za s0 17 (Int.toNat x2))))]) hC dX12_string_109 rfl rfl rfl ?_
      refine g_goto (tgt := 41) hC dX12_string_112 (by decide) ?_
      obtain ⟨o40, h41⟩ := h39
      refine g_lv (lv' := [some (.ref t), none, some (.int (zI x2)), some (.int (zI x3)), some (.int (zI x4)), some (.int (zI (zor (zsl x5 8) (za s0 17 (Int.toNat x2))))), some (.int (zI (x6 + (-1)))), none, none]) ⟨rfl, rfl, rfl, rfl, rfl, rfl, trivial⟩ ?_
      exact hk41 _ _ _ _ _ _ _ Rx2 Rx3 Rx4 (zR_t _) o40 hZ h41
theorem rl_string_41 {X : gX} {d : gD} {b t : Nat} {T : Nat → Nat} {F0 : gM} (hC : gC RX12 cX12_string 9 none "string" (gR 1 0 0) d b X) {Q : zS → Prop} {k29 : zS → Int → Int → Int → Prop} (hk29 : ∀ (F : gM) (s0 : zS) (x2 : Int) (x3 : Int) (x4 : Int), zR x2 → zR x3 → zR x4 → zZ d t T F0 F s0 → k29 s0 x2 x3 x4 → gG X d b (zQv X d b t T F0 Q) F 0 0 29 [some (.ref t), none, some (.int (zI x2)), some (.int (zI x3)), some (.int (zI x4)), none, none, none, none] []) : ∀ (m : Nat) (F : gM) (s0 : zS) (x2 : Int) (x3 : Int) (x4 : Int) (x5 : Int) (x6 : Int), zR x2 → zR x3 → zR x4 → zR x5 → zR x6 → zZ d t T F0 F s0 → wr_string_41 Q k29 m s0 x2 x3 x4 x5 x6 → gG X d b (zQv X d b t T F0 Q) F 0 0 41 [some (.ref t), none, some (.int (zI x2)), some (.int (zI x3)), some (.int (zI x4)), some (.int (zI x5)), some (.int (zI x6)), none, none] [] := by
  intro m
  induction m with
  | zero => intro F s0 x2 x3 x4 x5 x6 Rx2 Rx3 Rx4 Rx5 Rx6 hZ hw; exact False.elim hw
  | succ m ih => intro F s0 x2 x3 x4 x5 x6 Rx2 Rx3 Rx4 Rx5 Rx6 hZ hw; exact rb_string_41 hC hk29 ih Rx2 Rx3 Rx4 Rx5 Rx6 hZ hw
set_option maxHeartbeats 4000000 in
set_option maxRecDepth 100000 in
theorem rb_string_29 {X : gX} {d : gD} {b t : Nat} {T : Nat → Nat} {F0 : gM} (hC : gC RX12 cX12_string 9 none "string" (gR 1 0 0) d b X) {Q : zS → Prop} {k29 : zS → Int → Int → Int → Prop} (hk29 : ∀ (F : gM) (s0 : zS) (x2 : Int) (x3 : Int) (x4 : Int), zR x2 → zR x3 → zR x4 → zZ d t T F0 F s0 → k29 s0 x2 x3 x4 → gG X d b (zQv X d b t T F0 Q) F 0 0 29 [some (.ref t), none, some (.int (zI x2)), some (.int (zI x3)), some (.int (zI x4)), none, none, none, none] []) {F : gM} {s0 : zS} {x2 : Int} {x3 : Int} {x4 : Int} (Rx2 : zR x2) (Rx3 : zR x3) (Rx4 : zR x4) (hZ : zZ d t T F0 F s0) (hw : wr_string_29B Q k29 s0 x2 x3 x4) : gG X d b (zQv X d b t T F0 Q) F 0 0 29 [some (.ref t), none, some (.int (zI x2)), some (.int (zI x3)), some (.int (zI x4)), none, none, none, none] [] := by
  unfold wr_string_29B at hw
  refine g_iload hC dX12_string_29 rfl ?_
  refine g_iload_n hC dX12_string_31 rfl ?_
  refine zr_icmp_ge (tgt := 141) hC Rx4 Rx3 dX12_string_32 (by decide) (fun c1 => ?_) (fun c1 => ?_)
  · have h2 := hw.1 c1
    exact zr_vret hC hZ h2 dX12_string_141
  · have h3 := hw.2 c1
    refine g_iconst (v := zI 0) hC dX12_string_35 rfl ?_
    refine g_istore (lv' := [some (.ref t), none, some (.int (zI x2)), some (.int (zI x3)), some (.int (zI x4)), some (.int (zI 0)), none, none, none]) hC dX12_string_36 (Nat.le_of_ble_eq_true rfl) rfl rfl ?_
    refine g_iconst (v := zI 3) hC dX12_string_38 rfl ?_
    refine g_istore (lv' := [some (.ref t), none, some (.int (zI x2)), some (.int (zI x3)), some (.int (zI x4)), some (.int (zI 0)), some (.int (zI 3)), none, none]) hC dX12_string_39 (Nat.le_of_ble_eq_true rfl) rfl rfl ?_
    obtain ⟨m4, h5⟩ := h3
    exact rl_string_41 hC hk29 m4 _ _ _ _ _ _ _ Rx2 Rx3 Rx4 (by decide) (by decide) hZ h5
theorem rl_string_29 {X : gX} {d : gD} {b t : Nat} {T : Nat → Nat} {F0 : gM} (hC : gC RX12 cX12_string 9 none "string" (gR 1 0 0) d b X) {Q : zS → Prop}   : ∀ (m : Nat) (F : gM) (s0 : zS) (x2 : Int) (x3 : Int) (x4 : Int), zR x2 → zR x3 → zR x4 → zZ d t T F0 F s0 → wr_string_29 Q  m s0 x2 x3 x4 → gG X d b (zQv X d b t T F0 Q) F 0 0 29 [some (.ref t), none, some (.int (zI x2)), some (.int (zI x3)), some (.int (zI x4)), none, none, none, none] [] := by
  intro m
  induction m with
  | zero => intro F s0 x2 x3 x4 Rx2 Rx3 Rx4 hZ hw; exact False.elim hw
  | succ m ih => intro F s0 x2 x3 x4 Rx2 Rx3 Rx4 hZ hw; exact rb_string_29 hC  ih Rx2 Rx3 Rx4 hZ hw
set_option maxHeartbeats 4000000 in
set_option maxRecDepth 100000 in
theorem rm_string (l : Launch) (d : gD) (b : Nat) {t : Nat} {T : Nat → Nat} {F : gM} {s0 : zS} {a0 : Int} (Ra0 : zR a0) {Q : zS → Prop} (hZ : zZ d t T F F s0) (hw : wr_string s0 a0 Q) : gMv l d b yX12_string cX12_string 9 1 0 0 F [.ref t, .int (zI a0)] (zPv d t T F Q) := by
  refine gM_of2 rfl (nL := 9) (Nat.le_of_ble_eq_true rfl) ?_
  intro X hX hC; subst hX
  show gG X d b (zQv X d b t T F Q) F 0 0 0 [some (.ref t), some (.int (zI a0)), none, none, none, none, none, none, none] []
  unfold wr_string at hw
  refine g_aload_n hC dX12_string_0 rfl ?_
  refine zr_geta hC hZ fl_X12_99 zb_29 (by decide) dX12_string_1 ?_
  refine g_iload_n hC dX12_string_4 rfl ?_
  obtain ⟨o1, h2⟩ := hw
  obtain ⟨o3, h4⟩ := h2
  refine zr_iald (v := (za s0 29 (Int.toNat a0))) hC hZ zk_29 zb_29 zn_29 (by decide) o1 o3 rfl dX12_string_5 ?_
  refine g_istore_n (lv' := [some (.ref t), some (.int (zI a0)), some (.int (zI (za s0 29 (Int.toNat a0)))), none, none, none, none, none, none]) hC dX12_string_6 (Nat.le_of_ble_eq_true rfl) rfl rfl ?_
  refine g_aload_n hC dX12_string_7 rfl ?_
  refine zr_geta hC hZ fl_X12_105 zb_31 (by decide) dX12_string_8 ?_
  refine g_iload_n hC dX12_string_11 rfl ?_
  refine g_aload_n hC dX12_string_12 rfl ?_
  refine zr_get (e := (zv s0 81)) hC hZ fl_X12_258 zb_81 (by decide) rfl dX12_string_13 ?_
  obtain ⟨o5, h6⟩ := h4
  obtain ⟨o7, h8⟩ := h6
  refine zr_iast hC hZ zk_31 zb_31 zn_31 (by decide) o5 o7 (hZ.rv 81) dX12_string_16 (fun F9 hZ10 => ?_)
  refine g_aload_n hC dX12_string_17 rfl ?_
  refine zr_geta hC hZ10 fl_X12_63 zb_17 (by decide) dX12_string_18 ?_
  refine g_iload_n hC dX12_string_21 rfl ?_
  obtain ⟨o11, h12⟩ := h8
  obtain ⟨o13, h14⟩ := h12
  refine zr_iald (v := (za s0 17 (Int.toNat (za s0 29 (Int.toNat a0))))) hC hZ10 zk_17 zb_17 zn_17 (by decide) o11 o13 rfl dX12_string_22 ?_
  refine g_iconst (v := zI 1) hC dX12_string_23 rfl ?_
  refine zr_iadd hC dX12_string_24 ?_
  refine g_istore_n (lv' := [some (.ref t), some (.int (zI a0)), some (.int (zI (za s0 29 (Int.toNat a0)))), some (.int (zI ((za s0 17 (Int.toNat (za s0 29 (Int.toNat a0)))) + 1))), none, none, none, none, none]) hC dX12_string_25 (Nat.le_of_ble_eq_true rfl) rfl rfl ?_
  refine g_iconst (v := zI 0) hC dX12_string_26 rfl ?_
  refine g_istore (lv' := [some (.ref t), some (.int (zI a0)), some (.int (zI (za s0 29 (Int.toNat a0)))), some (.int (zI ((za s0 17 (Int.toNat (za s0 29 (Int.toNat a0)))) + 1))), some (.int (zI 0)), none, none, none, none]) hC dX12_string_27 (Nat.le_of_ble_eq_true rfl) rfl rfl ?_
  obtain ⟨o15, h16⟩ := h14
  refine g_lv (lv' := [some (.ref t), none, some (.int (zI (za s0 29 (Int.toNat a0)))), some (.int (zI ((za s0 17 (Int.toNat (za s0 29 (Int.toNat a0)))) + 1))), some (.int (zI 0)), none, none, none, none]) ⟨rfl, rfl, rfl, rfl, trivial⟩ ?_
  obtain ⟨m17, h18⟩ := h16
  exact rl_string_29 hC  m17 _ _ _ _ _ (hZ.ra 29 _) o15 (by decide) hZ10 h18
theorem dX12_expressionOf_0 : decode cX12_expressionOf 0 = .ok (.aload_n 0, 1) := by decide +kernel
theorem dX12_expressionOf_1 : decode cX12_expressionOf 1 = .ok (.getfield 87, 3) := by decide +kernel
theorem dX12_expressionOf_4 : decode cX12_expressionOf 4 = .ok (.iload_n 1, 1) := by decide +kernel
theorem dX12_expressionOf_5 : decode cX12_expressionOf 5 = .ok (.baload, 1) := by decide +kernel
theorem dX12_expressionOf_6 : decode cX12_expressionOf 6 = .ok (.istore_n 2, 1) := by decide +kernel
theorem dX12_expressionOf_7 : decode cX12_expressionOf 7 = .ok (.iload_n 2, 1) := by decide +kernel
theorem dX12_expressionOf_8 : decode cX12_expressionOf 8 = .ok (.iconst 1, 1) := by decide +kernel
theorem dX12_expressionOf_9 : decode cX12_expressionOf 9 = .ok (.if_icmp .ne 12, 3) := by decide +kernel
theorem dX12_expressionOf_12 : decode cX12_expressionOf 12 = .ok (.aload_n 0, 1) := by decide +kernel
theorem dX12_expressionOf_13 : decode cX12_expressionOf 13 = .ok (.iload_n 1, 1) := by decide +kernel
theorem dX12_expressionOf_14 : decode cX12_expressionOf 14 = .ok (.invokevirtual 782, 3) := by decide +kernel
theorem dX12_expressionOf_17 : decode cX12_expressionOf 17 = .ok (.pop, 1) := by decide +kernel
theorem dX12_expressionOf_18 : decode cX12_expressionOf 18 = .ok (.goto 205, 3) := by decide +kernel
theorem dX12_expressionOf_21 : decode cX12_expressionOf 21 = .ok (.iload_n 2, 1) := by decide +kernel
theorem dX12_expressionOf_22 : decode cX12_expressionOf 22 = .ok (.iconst 3, 1) := by decide +kernel
theorem dX12_expressionOf_23 : decode cX12_expressionOf 23 = .ok (.if_icmp .ne 11, 3) := by decide +kernel
theorem dX12_expressionOf_26 : decode cX12_expressionOf 26 = .ok (.aload_n 0, 1) := by decide +kernel
theorem dX12_expressionOf_27 : decode cX12_expressionOf 27 = .ok (.iload_n 1, 1) := by decide +kernel
theorem dX12_expressionOf_28 : decode cX12_expressionOf 28 = .ok (.invokevirtual 785, 3) := by decide +kernel
theorem dX12_expressionOf_31 : decode cX12_expressionOf 31 = .ok (.goto 192, 3) := by decide +kernel
theorem dX12_expressionOf_34 : decode cX12_expressionOf 34 = .ok (.iload_n 2, 1) := by decide +kernel
theorem dX12_expressionOf_35 : decode cX12_expressionOf 35 = .ok (.iconst 5, 1) := by decide +kernel
theorem dX12_expressionOf_36 : decode cX12_expressionOf 36 = .ok (.if_icmp .ne 64, 3) := by decide +kernel
theorem dX12_expressionOf_39 : decode cX12_expressionOf 39 = .ok (.aload_n 0, 1) := by decide +kernel
theorem dX12_expressionOf_40 : decode cX12_expressionOf 40 = .ok (.getfield 105, 3) := by decide +kernel
theorem dX12_expressionOf_43 : decode cX12_expressionOf 43 = .ok (.iload_n 1, 1) := by decide +kernel
theorem dX12_expressionOf_44 : decode cX12_expressionOf 44 = .ok (.aload_n 0, 1) := by decide +kernel
theorem dX12_expressionOf_45 : decode cX12_expressionOf 45 = .ok (.getfield 258, 3) := by decide +kernel
theorem dX12_expressionOf_48 : decode cX12_expressionOf 48 = .ok (.iastore, 1) := by decide +kernel
theorem dX12_expressionOf_49 : decode cX12_expressionOf 49 = .ok (.aload_n 0, 1) := by decide +kernel
theorem dX12_expressionOf_50 : decode cX12_expressionOf 50 = .ok (.getfield 93, 3) := by decide +kernel
theorem dX12_expressionOf_53 : decode cX12_expressionOf 53 = .ok (.iload_n 1, 1) := by decide +kernel
theorem dX12_expressionOf_54 : decode cX12_expressionOf 54 = .ok (.iaload, 1) := by decide +kernel
theorem dX12_expressionOf_55 : decode cX12_expressionOf 55 = .ok (.istore_n 3, 1) := by decide +kernel
theorem dX12_expressionOf_56 : decode cX12_expressionOf 56 = .ok (.iload_n 3, 1) := by decide +kernel
theorem dX12_expressionOf_57 : decode cX12_expressionOf 57 = .ok (.ifCond .lt 40, 3) := by decide +kernel
theorem dX12_expressionOf_60 : decode cX12_expressionOf 60 = .ok (.aload_n 0, 1) := by decide +kernel
theorem dX12_expressionOf_61 : decode cX12_expressionOf 61 = .ok (.iload_n 3, 1) := by decide +kernel
theorem dX12_expressionOf_62 : decode cX12_expressionOf 62 = .ok (.invokevirtual 756, 3) := by decide +kernel
theorem dX12_expressionOf_65 : decode cX12_expressionOf 65 = .ok (.aload_n 0, 1) := by decide +kernel
theorem dX12_expressionOf_66 : decode cX12_expressionOf 66 = .ok (.aload_n 0, 1) := by decide +kernel
theorem dX12_expressionOf_67 : decode cX12_expressionOf 67 = .ok (.getfield 258, 3) := by decide +kernel
theorem dX12_expressionOf_70 : decode cX12_expressionOf 70 = .ok (.aload_n 0, 1) := by decide +kernel
theorem dX12_expressionOf_71 : decode cX12_expressionOf 71 = .ok (.getfield 191, 3) := by decide +kernel
theorem dX12_expressionOf_74 : decode cX12_expressionOf 74 = .ok (.invokevirtual 759, 3) := by decide +kernel
theorem dX12_expressionOf_77 : decode cX12_expressionOf 77 = .ok (.aload_n 0, 1) := by decide +kernel
theorem dX12_expressionOf_78 : decode cX12_expressionOf 78 = .ok (.dup, 1) := by decide +kernel
theorem dX12_expressionOf_79 : decode cX12_expressionOf 79 = .ok (.getfield 258, 3) := by decide +kernel
theorem dX12_expressionOf_82 : decode cX12_expressionOf 82 = .ok (.iconst 1, 1) := by decide +kernel
theorem dX12_expressionOf_83 : decode cX12_expressionOf 83 = .ok (.iadd, 1) := by decide +kernel
theorem dX12_expressionOf_84 : decode cX12_expressionOf 84 = .ok (.putfield 258, 3) := by decide +kernel
theorem dX12_expressionOf_87 : decode cX12_expressionOf 87 = .ok (.aload_n 0, 1) := by decide +kernel
theorem dX12_expressionOf_88 : decode cX12_expressionOf 88 = .ok (.getfield 96, 3) := by decide +kernel
theorem dX12_expressionOf_91 : decode cX12_expressionOf 91 = .ok (.iload_n 3, 1) := by decide +kernel
theorem dX12_expressionOf_92 : decode cX12_expressionOf 92 = .ok (.iaload, 1) := by decide +kernel
theorem dX12_expressionOf_93 : decode cX12_expressionOf 93 = .ok (.istore_n 3, 1) := by decide +kernel
theorem dX12_expressionOf_94 : decode cX12_expressionOf 94 = .ok (.goto (-38), 3) := by decide +kernel
theorem dX12_expressionOf_97 : decode cX12_expressionOf 97 = .ok (.goto 126, 3) := by decide +kernel
theorem dX12_expressionOf_100 : decode cX12_expressionOf 100 = .ok (.iload_n 2, 1) := by decide +kernel
theorem dX12_expressionOf_101 : decode cX12_expressionOf 101 = .ok (.iconst 4, 1) := by decide +kernel
theorem dX12_expressionOf_102 : decode cX12_expressionOf 102 = .ok (.if_icmp .ne 78, 3) := by decide +kernel
theorem dX12_expressionOf_105 : decode cX12_expressionOf 105 = .ok (.aload_n 0, 1) := by decide +kernel
theorem dX12_expressionOf_106 : decode cX12_expressionOf 106 = .ok (.aload_n 0, 1) := by decide +kernel
theorem dX12_expressionOf_107 : decode cX12_expressionOf 107 = .ok (.getfield 246, 3) := by decide +kernel
theorem dX12_expressionOf_110 : decode cX12_expressionOf 110 = .ok (.invokevirtual 763, 3) := by decide +kernel
theorem dX12_expressionOf_113 : decode cX12_expressionOf 113 = .ok (.aload_n 0, 1) := by decide +kernel
theorem dX12_expressionOf_114 : decode cX12_expressionOf 114 = .ok (.aload_n 0, 1) := by decide +kernel
theorem dX12_expressionOf_115 : decode cX12_expressionOf 115 = .ok (.getfield 252, 3) := by decide +kernel
theorem dX12_expressionOf_118 : decode cX12_expressionOf 118 = .ok (.invokevirtual 763, 3) := by decide +kernel
theorem dX12_expressionOf_121 : decode cX12_expressionOf 121 = .ok (.aload_n 0, 1) := by decide +kernel
theorem dX12_expressionOf_122 : decode cX12_expressionOf 122 = .ok (.aload_n 0, 1) := by decide +kernel
theorem dX12_expressionOf_123 : decode cX12_expressionOf 123 = .ok (.getfield 255, 3) := by decide +kernel
theorem dX12_expressionOf_126 : decode cX12_expressionOf 126 = .ok (.invokevirtual 763, 3) := by decide +kernel
theorem dX12_expressionOf_129 : decode cX12_expressionOf 129 = .ok (.aload_n 0, 1) := by decide +kernel
theorem dX12_expressionOf_130 : decode cX12_expressionOf 130 = .ok (.dup, 1) := by decide +kernel
theorem dX12_expressionOf_131 : decode cX12_expressionOf 131 = .ok (.getfield 249, 3) := by decide +kernel
theorem dX12_expressionOf_134 : decode cX12_expressionOf 134 = .ok (.iconst 1, 1) := by decide +kernel
theorem dX12_expressionOf_135 : decode cX12_expressionOf 135 = .ok (.iadd, 1) := by decide +kernel
theorem dX12_expressionOf_136 : decode cX12_expressionOf 136 = .ok (.putfield 249, 3) := by decide +kernel
theorem dX12_expressionOf_139 : decode cX12_expressionOf 139 = .ok (.aload_n 0, 1) := by decide +kernel
theorem dX12_expressionOf_140 : decode cX12_expressionOf 140 = .ok (.aload_n 0, 1) := by decide +kernel
theorem dX12_expressionOf_141 : decode cX12_expressionOf 141 = .ok (.getfield 249, 3) := by decide +kernel
theorem dX12_expressionOf_144 : decode cX12_expressionOf 144 = .ok (.putfield 246, 3) := by decide +kernel
theorem dX12_expressionOf_147 : decode cX12_expressionOf 147 = .ok (.aload_n 0, 1) := by decide +kernel
theorem dX12_expressionOf_148 : decode cX12_expressionOf 148 = .ok (.iconst 0, 1) := by decide +kernel
theorem dX12_expressionOf_149 : decode cX12_expressionOf 149 = .ok (.putfield 252, 3) := by decide +kernel
theorem dX12_expressionOf_152 : decode cX12_expressionOf 152 = .ok (.aload_n 0, 1) := by decide +kernel
theorem dX12_expressionOf_153 : decode cX12_expressionOf 153 = .ok (.iconst 0, 1) := by decide +kernel
theorem dX12_expressionOf_154 : decode cX12_expressionOf 154 = .ok (.putfield 255, 3) := by decide +kernel
theorem dX12_expressionOf_157 : decode cX12_expressionOf 157 = .ok (.aload_n 0, 1) := by decide +kernel
theorem dX12_expressionOf_158 : decode cX12_expressionOf 158 = .ok (.bipush 14, 2) := by decide +kernel
theorem dX12_expressionOf_160 : decode cX12_expressionOf 160 = .ok (.iload_n 1, 1) := by decide +kernel
theorem dX12_expressionOf_161 : decode cX12_expressionOf 161 = .ok (.iconst 0, 1) := by decide +kernel
theorem dX12_expressionOf_162 : decode cX12_expressionOf 162 = .ok (.invokevirtual 647, 3) := by decide +kernel
theorem dX12_expressionOf_165 : decode cX12_expressionOf 165 = .ok (.aload_n 0, 1) := by decide +kernel
theorem dX12_expressionOf_166 : decode cX12_expressionOf 166 = .ok (.iconst 2, 1) := by decide +kernel
theorem dX12_expressionOf_167 : decode cX12_expressionOf 167 = .ok (.aload_n 0, 1) := by decide +kernel
theorem dX12_expressionOf_168 : decode cX12_expressionOf 168 = .ok (.getfield 93, 3) := by decide +kernel
theorem dX12_expressionOf_171 : decode cX12_expressionOf 171 = .ok (.iload_n 1, 1) := by decide +kernel
theorem dX12_expressionOf_172 : decode cX12_expressionOf 172 = .ok (.iaload, 1) := by decide +kernel
theorem dX12_expressionOf_173 : decode cX12_expressionOf 173 = .ok (.iconst 0, 1) := by decide +kernel
theorem dX12_expressionOf_174 : decode cX12_expressionOf 174 = .ok (.invokevirtual 647, 3) := by decide +kernel
theorem dX12_expressionOf_177 : decode cX12_expressionOf 177 = .ok (.goto 46, 3) := by decide +kernel
theorem dX12_expressionOf_180 : decode cX12_expressionOf 180 = .ok (.iload_n 2, 1) := by decide +kernel
theorem dX12_expressionOf_181 : decode cX12_expressionOf 181 = .ok (.bipush 8, 2) := by decide +kernel
theorem dX12_expressionOf_183 : decode cX12_expressionOf 183 = .ok (.if_icmp .ne 18, 3) := by decide +kernel
theorem dX12_expressionOf_186 : decode cX12_expressionOf 186 = .ok (.aload_n 0, 1) := by decide +kernel
theorem dX12_expressionOf_187 : decode cX12_expressionOf 187 = .ok (.iconst 5, 1) := by decide +kernel
theorem dX12_expressionOf_188 : decode cX12_expressionOf 188 = .ok (.aload_n 0, 1) := by decide +kernel
theorem dX12_expressionOf_189 : decode cX12_expressionOf 189 = .ok (.getfield 93, 3) := by decide +kernel
theorem dX12_expressionOf_192 : decode cX12_expressionOf 192 = .ok (.iload_n 1, 1) := by decide +kernel
theorem dX12_expressionOf_193 : decode cX12_expressionOf 193 = .ok (.iaload, 1) := by decide +kernel
theorem dX12_expressionOf_194 : decode cX12_expressionOf 194 = .ok (.iconst 0, 1) := by decide +kernel
theorem dX12_expressionOf_195 : decode cX12_expressionOf 195 = .ok (.invokevirtual 647, 3) := by decide +kernel
theorem dX12_expressionOf_198 : decode cX12_expressionOf 198 = .ok (.goto 25, 3) := by decide +kernel
theorem dX12_expressionOf_201 : decode cX12_expressionOf 201 = .ok (.iload_n 2, 1) := by decide +kernel
theorem dX12_expressionOf_202 : decode cX12_expressionOf 202 = .ok (.bipush 6, 2) := by decide +kernel
theorem dX12_expressionOf_204 : decode cX12_expressionOf 204 = .ok (.if_icmp .ne 13, 3) := by decide +kernel
theorem dX12_expressionOf_207 : decode cX12_expressionOf 207 = .ok (.aload_n 0, 1) := by decide +kernel
theorem dX12_expressionOf_208 : decode cX12_expressionOf 208 = .ok (.getfield 102, 3) := by decide +kernel
theorem dX12_expressionOf_211 : decode cX12_expressionOf 211 = .ok (.iload_n 1, 1) := by decide +kernel
theorem dX12_expressionOf_212 : decode cX12_expressionOf 212 = .ok (.aload_n 0, 1) := by decide +kernel
theorem dX12_expressionOf_213 : decode cX12_expressionOf 213 = .ok (.getfield 237, 3) := by decide +kernel
theorem dX12_expressionOf_216 : decode cX12_expressionOf 216 = .ok (.iastore, 1) := by decide +kernel
theorem dX12_expressionOf_217 : decode cX12_expressionOf 217 = .ok (.aload_n 0, 1) := by decide +kernel
theorem dX12_expressionOf_218 : decode cX12_expressionOf 218 = .ok (.iload_n 1, 1) := by decide +kernel
theorem dX12_expressionOf_219 : decode cX12_expressionOf 219 = .ok (.iconst 3, 1) := by decide +kernel
theorem dX12_expressionOf_220 : decode cX12_expressionOf 220 = .ok (.invokevirtual 703, 3) := by decide +kernel
theorem dX12_expressionOf_223 : decode cX12_expressionOf 223 = .ok (.return_, 1) := by decide +kernel
def wr_expressionOf_56B (Q : zS → Prop) (k56 : zS → Int → Prop) (s0 : zS) (x3 : Int) : Prop :=
  ((x3 < 0 → Q s0) ∧ (¬ x3 < 0 → wr_constant s0 x3 (fun s5 => wr_init_ s5 (zv s5 81) (zv s5 59) (fun s11 => (zR ((zv s11 81) + 1)) ∧ (0 ≤ x3) ∧ (x3 < 26000) ∧ k56 (zpv s11 81 ((zv s11 81) + 1)) (za s11 28 (Int.toNat x3))))))
def wr_expressionOf_56 (Q : zS → Prop)  : Nat → zS → Int → Prop
  | 0 => fun _ _ => False
  | m + 1 => fun s0 x3 => wr_expressionOf_56B Q  (wr_expressionOf_56 Q  m) s0 x3
def wr_expressionOf (s0 : zS) (a0 : Int) (Q : zS → Prop) : Prop :=
  (0 ≤ a0) ∧ (a0 < 26000) ∧ ((¬ (za s0 25 (Int.toNat a0)) = 1 → ((¬ (za s0 25 (Int.toNat a0)) = 3 → ((¬ (za s0 25 (Int.toNat a0)) = 5 → ((¬ (za s0 25 (Int.toNat a0)) = 4 → ((¬ (za s0 25 (Int.toNat a0)) = 8 → ((¬ (za s0 25 (Int.toNat a0)) = 6 → wr_children s0 a0 3 (fun s18 => Q s18)) ∧ ((za s0 25 (Int.toNat a0)) = 6 → (0 ≤ a0) ∧ (a0 < 26000) ∧ wr_children (zpa s0 30 (Int.toNat a0) (zv s0 74)) a0 3 (fun s31 => Q s31)))) ∧ ((za s0 25 (Int.toNat a0)) = 8 → (0 ≤ a0) ∧ (a0 < 26000) ∧ wr_task s0 5 (za s0 27 (Int.toNat a0)) 0 (fun s42 => Q s42)))) ∧ ((za s0 25 (Int.toNat a0)) = 4 → wr_put s0 (zv s0 77) (fun s49 => wr_put s49 (zv s49 79) (fun s55 => wr_put s55 (zv s55 80) (fun s61 => (zR ((zv s61 78) + 1)) ∧ wr_task (zpv (zpv (zpv (zpv s61 78 ((zv s61 78) + 1)) 77 ((zv s61 78) + 1)) 79 0) 80 0) 14 a0 0 (fun s77 => (0 ≤ a0) ∧ (a0 < 26000) ∧ wr_task s77 2 (za s77 27 (Int.toNat a0)) 0 (fun s87 => Q s87)))))))) ∧ ((za s0 25 (Int.toNat a0)) = 5 → (0 ≤ a0) ∧ (a0 < 26000) ∧ (0 ≤ a0) ∧ (a0 < 26000) ∧ ∃ n, wr_expressionOf_56 Q  n (zpa s0 31 (Int.toNat a0) (zv s0 81)) (za s0 27 (Int.toNat a0))))) ∧ ((za s0 25 (Int.toNat a0)) = 3 → wr_string s0 a0 (fun s107 => Q s107)))) ∧ ((za s0 25 (Int.toNat a0)) = 1 → wr_named s0 a0 (fun r113 s114 => Q s114)))
set_option maxHeartbeats 4000000 in
set_option maxRecDepth 100000 in
theorem rb_expressionOf_56 {X : gX} {d : gD} {b t : Nat} {T : Nat → Nat} {F0 : gM} (hC : gC RX12 cX12_expressionOf 4 none "expressionOf" (gR 4 0 0) d b X) {Q : zS → Prop} {k56 : zS → Int → Prop} (hk56 : ∀ (F : gM) (s0 : zS) (x3 : Int), zR x3 → zZ d t T F0 F s0 → k56 s0 x3 → gG X d b (zQv X d b t T F0 Q) F 0 0 56 [some (.ref t), none, none, some (.int (zI x3))] []) {F : gM} {s0 : zS} {x3 : Int} (Rx3 : zR x3) (hZ : zZ d t T F0 F s0) (hw : wr_expressionOf_56B Q k56 s0 x3) : gG X d b (zQv X d b t T F0 Q) F 0 0 56 [some (.ref t), none, none, some (.int (zI x3))] [] := by
  unfold wr_expressionOf_56B at hw
  refine g_iload_n hC dX12_expressionOf_56 rfl ?_
  refine zr_if_lt (tgt := 97) hC Rx3 dX12_expressionOf_57 (by decide) (fun c1 => ?_) (fun c1 => ?_)
  · have h2 := hw.1 c1
    refine g_goto (tgt := 223) hC dX12_expressionOf_97 (by decide) ?_
    exact zr_vret hC hZ h2 dX12_expressionOf_223
  · have h3 := hw.2 c1
    refine g_aload_n hC dX12_expressionOf_60 rfl ?_
    refine g_iload_n hC dX12_expressionOf_61 rfl ?_
    refine zr_callVv (As := [.int (zI x3)]) hC hZ rfl (rm_constant X.la d b Rx3 hZ.rf h3) cl_X12_756 rfl rfl (Nat.le_of_ble_eq_true rfl) ⟨Nat.le_of_ble_eq_true rfl, Nat.le_of_ble_eq_true rfl⟩ dX12_expressionOf_62 (fun s5 F6 hZ8 h9 => ?_)
    refine g_aload_n hC dX12_expressionOf_65 rfl ?_
    refine g_aload_n hC dX12_expressionOf_66 rfl ?_
    refine zr_get (e := (zv s5 81)) hC hZ8 fl_X12_258 zb_81 (by decide) rfl dX12_expressionOf_67 ?_
    refine g_aload_n hC dX12_expressionOf_70 rfl ?_
    refine zr_get (e := (zv s5 59)) hC hZ8 fl_X12_191 zb_59 (by decide) rfl dX12_expressionOf_71 ?_
    refine zr_callVv (As := [.int (zI (zv s5 81)), .int (zI (zv s5 59))]) hC hZ8 rfl (rm_init_ X.la d b (hZ8.rv 81) (hZ8.rv 59) hZ8.rf h9) cl_X12_759 rfl rfl (Nat.le_of_ble_eq_true rfl) ⟨Nat.le_of_ble_eq_true rfl, Nat.le_of_ble_eq_true rfl⟩ dX12_expressionOf_74 (fun s11 F12 hZ14 h15 => ?_)
    refine g_aload_n hC dX12_expressionOf_77 rfl ?_
    refine g_dup hC dX12_expressionOf_78 rfl ?_
    refine zr_get (e := (zv s11 81)) hC hZ14 fl_X12_258 zb_81 (by decide) rfl dX12_expressionOf_79 ?_
    refine g_iconst (v := zI 1) hC dX12_expressionOf_82 rfl ?_
    refine zr_iadd hC dX12_expressionOf_83 ?_
    obtain ⟨o16, h17⟩ := h15
    refine zr_put hC hZ14 fl_X12_258 zb_81 (by decide) o16 dX12_expressionOf_84 (fun F18 hZ19 => ?_)
    refine g_aload_n hC dX12_expressionOf_87 rfl ?_
    refine zr_geta hC hZ19 fl_X12_96 zb_28 (by decide) dX12_expressionOf_88 ?_
    refine g_iload_n hC dX12_expressionOf_91 rfl ?_
    obtain ⟨o20, h21⟩ := h17
    obtain ⟨o22, h23⟩ := h21
    refine zr_iald (v := (za s11 28 (Int.toNat x3))) hC hZ19 zk_28 zb_28 zn_28 (by decide) o20 o22 rfl dX12_expressionOf_92 ?_
    refine g_istore_n (lv' := [some (.ref t), none, none, some (.int (zI (za s11 28 (Int.toNat x3))))]) hC dX12_expressionOf_93 (Nat.le_of_ble_eq_true rfl) rfl rfl ?_
    refine g_goto (tgt := 56) hC dX12_expressionOf_94 (by decide) ?_
    exact hk56 _ _ _ (hZ14.ra 28 _) hZ19 h23
theorem rl_expressionOf_56 {X : gX} {d : gD} {b t : Nat} {T : Nat → Nat} {F0 : gM} (hC : gC RX12 cX12_expressionOf 4 none "expressionOf" (gR 4 0 0) d b X) {Q : zS → Prop}   : ∀ (m : Nat) (F : gM) (s0 : zS) (x3 : Int), zR x3 → zZ d t T F0 F s0 → wr_expressionOf_56 Q  m s0 x3 → gG X d b (zQv X d b t T F0 Q) F 0 0 56 [some (.ref t), none, none, some (.int (zI x3))] [] := by
  intro m
  induction m with
  | zero => intro F s0 x3 Rx3 hZ hw; exact False.elim hw
  | succ m ih => intro F s0 x3 Rx3 hZ hw; exact rb_expressionOf_56 hC  ih Rx3 hZ hw
set_option maxHeartbeats 4000000 in
set_option maxRecDepth 100000 in
theorem rm_expressionOf (l : Launch) (d : gD) (b : Nat) {t : Nat} {T : Nat → Nat} {F : gM} {s0 : zS} {a0 : Int} (Ra0 : zR a0) {Q : zS → Prop} (hZ : zZ d t T F F s0) (hw : wr_expressionOf s0 a0 Q) : gMv l d b yX12_expressionOf cX12_expressionOf 4 4 0 0 F [.ref t, .int (zI a0)] (zPv d t T F Q) := by
  refine gM_of2 rfl (nL := 4) (Nat.le_of_ble_eq_true rfl) ?_
  intro X hX hC; subst hX
  show gG X d b (zQv X d b t T F Q) F 0 0 0 [some (.ref t), some (.int (zI a0)), none, none] []
  unfold wr_expressionOf at hw
  refine g_aload_n hC dX12_expressionOf_0 rfl ?_
  refine zr_geta hC hZ fl_X12_87 zb_25 (by decide) dX12_expressionOf_1 ?_
  refine g_iload_n hC dX12_expressionOf_4 rfl ?_
  obtain ⟨o1, h2⟩ := hw
  obtain ⟨o3, h4⟩ := h2
  refine zr_bald (v := (za s0 25 (Int.toNat a0))) hC hZ zk_25 zb_25 zn_25 (by decide) o1 o3 rfl dX12_expressionOf_5 ?_
  refine g_istore_n (lv' := [some (.ref t), some (.int (zI a0)), some (.int (zI (za s0 25 (Int.toNat a0)))), none]) hC dX12_expressionOf_6 (Nat.le_of_ble_eq_true rfl) rfl rfl ?_
  refine g_iload_n hC dX12_expressionOf_7 rfl ?_
  refine g_iconst (v := zI 1) hC dX12_expressionOf_8 rfl ?_
  refine zr_icmp_ne (tgt := 21) hC (hZ.ra 25 _) (by decide) dX12_expressionOf_9 (by decide) (fun c5 => ?_) (fun c5 => ?_)
  · have h6 := h4.1 c5
    refine g_iload_n hC dX12_expressionOf_21 rfl ?_
    refine g_iconst (v := zI 3) hC dX12_expressionOf_22 rfl ?_
    refine zr_icmp_ne (tgt := 34) hC (hZ.ra 25 _) (by decide) dX12_expressionOf_23 (by decide) (fun c7 => ?_) (fun c7 => ?_)
    · have h8 := h6.1 c7
      refine g_iload_n hC dX12_expressionOf_34 rfl ?_
      refine g_iconst (v := zI 5) hC dX12_expressionOf_35 rfl ?_
      refine zr_icmp_ne (tgt := 100) hC (hZ.ra 25 _) (by decide) dX12_expressionOf_36 (by decide) (fun c9 => ?_) (fun c9 => ?_)
      · have h10 := h8.1 c9
        refine g_iload_n hC dX12_expressionOf_100 rfl ?_
        refine g_iconst (v := zI 4) hC dX12_expressionOf_101 rfl ?_
        refine zr_icmp_ne (tgt := 180) hC (hZ.ra 25 _) (by decide) dX12_expressionOf_102 (by decide) (fun c11 => ?_) (fun c11 => ?_)
        · have h12 := h10.1 c11
          refine g_iload_n hC dX12_expressionOf_180 rfl ?_
          refine g_bipush (v := zI 8) hC dX12_expressionOf_181 rfl ?_
          refine zr_icmp_ne (tgt := 201) hC (hZ.ra 25 _) (by decide) dX12_expressionOf_183 (by decide) (fun c13 => ?_) (fun c13 => ?_)
          · have h14 := h12.1 c13
            refine g_iload_n hC dX12_expressionOf_201 rfl ?_
            refine g_bipush (v := zI 6) hC dX12_expressionOf_202 rfl ?_
            refine zr_icmp_ne (tgt := 217) hC (hZ.ra 25 _) (by decide) dX12_expressionOf_204 (by decide) (fun c15 => ?_) (fun c15 => ?_)
            · have h16 := h14.1 c15
              refine g_aload_n hC dX12_expressionOf_217 rfl ?_
              refine g_iload_n hC dX12_expressionOf_218 rfl ?_
              refine g_iconst (v := zI 3) hC dX12_expressionOf_219 rfl ?_
              refine zr_callVv (As := [.int (zI a0), .int (zI 3)]) hC hZ rfl (rm_children X.la d b Ra0 (by decide) hZ.rf h16) cl_X12_703 rfl rfl (Nat.le_of_ble_eq_true rfl) ⟨Nat.le_of_ble_eq_true rfl, Nat.le_of_ble_eq_true rfl⟩ dX12_expressionOf_220 (fun s18 F19 hZ21 h22 => ?_)
              exact zr_vret hC hZ21 h22 dX12_expressionOf_223
            · have h23 := h14.2 c15
              refine g_aload_n hC dX12_expressionOf_207 rfl ?_
              refine zr_geta hC hZ fl_X12_102 zb_30 (by decide) dX12_expressionOf_208 ?_
              refine g_iload_n hC dX12_expressionOf_211 rfl ?_
              refine g_aload_n hC dX12_expressionOf_212 rfl ?_
              refine zr_get (e := (zv s0 74)) hC hZ fl_X12_237 zb_74 (by decide) rfl dX12_expressionOf_213 ?_
              obtain ⟨o24, h25⟩ := h23
              obtain ⟨o26, h27⟩ := h25
              refine zr_iast hC hZ zk_30 zb_30 zn_30 (by decide) o24 o26 (hZ.rv 74) dX12_expressionOf_216 (fun F28 hZ29 => ?_)
              refine g_aload_n hC dX12_expressionOf_217 rfl ?_
              refine g_iload_n hC dX12_expressionOf_218 rfl ?_
              refine g_iconst (v := zI 3) hC dX12_expressionOf_219 rfl ?_
              refine zr_callVv (As := [.int (zI a0), .int (zI 3)]) hC hZ29 rfl (rm_children X.la d b Ra0 (by decide) hZ29.rf h27) cl_X12_703 rfl rfl (Nat.le_of_ble_eq_true rfl) ⟨Nat.le_of_ble_eq_true rfl, Nat.le_of_ble_eq_true rfl⟩ dX12_expressionOf_220 (fun s31 F32 hZ34 h35 => ?_)
              exact zr_vret hC hZ34 h35 dX12_expressionOf_223
          · have h36 := h12.2 c13
            refine g_aload_n hC dX12_expressionOf_186 rfl ?_
            refine g_iconst (v := zI 5) hC dX12_expressionOf_187 rfl ?_
            refine g_aload_n hC dX12_expressionOf_188 rfl ?_
            refine zr_geta hC hZ fl_X12_93 zb_27 (by decide) dX12_expressionOf_189 ?_
            refine g_iload_n hC dX12_expressionOf_192 rfl ?_
            obtain ⟨o37, h38⟩ := h36
            obtain ⟨o39, h40⟩ := h38
            refine zr_iald (v := (za s0 27 (Int.toNat a0))) hC hZ zk_27 zb_27 zn_27 (by decide) o37 o39 rfl dX12_expressionOf_193 ?_
            refine g_iconst (v := zI 0) hC dX12_expressionOf_194 rfl ?_
            refine zr_callVv (As := [.int (zI 5), .int (zI (za s0 27 (Int.toNat a0))), .int (zI 0)]) hC hZ rfl (rm_task X.la d b (by decide) (hZ.ra 27 _) (by decide) hZ.rf h40) cl_X12_647 rfl rfl (Nat.le_of_ble_eq_true rfl) ⟨Nat.le_of_ble_eq_true rfl, Nat.le_of_ble_eq_true rfl⟩ dX12_expressionOf_195 (fun s42 F43 hZ45 h46 => ?_)
            refine g_goto (tgt := 223) hC dX12_expressionOf_198 (by decide) ?_
            exact zr_vret hC hZ45 h46 dX12_expressionOf_223
        · have h47 := h10.2 c11
          refine g_aload_n hC dX12_expressionOf_105 rfl ?_
          refine g_aload_n hC dX12_expressionOf_106 rfl ?_
          refine zr_get (e := (zv s0 77)) hC hZ fl_X12_246 zb_77 (by decide) rfl dX12_expressionOf_107 ?_
          refine zr_callVv (As := [.int (zI (zv s0 77))]) hC hZ rfl (rm_put X.la d b (hZ.rv 77) hZ.rf h47) cl_X12_763 rfl rfl (Nat.le_of_ble_eq_true rfl) ⟨Nat.le_of_ble_eq_true rfl, Nat.le_of_ble_eq_true rfl⟩ dX12_expressionOf_110 (fun s49 F50 hZ52 h53 => ?_)
          refine g_aload_n hC dX12_expressionOf_113 rfl ?_
          refine g_aload_n hC dX12_expressionOf_114 rfl ?_
          refine zr_get (e := (zv s49 79)) hC hZ52 fl_X12_252 zb_79 (by decide) rfl dX12_expressionOf_115 ?_
          refine zr_callVv (As := [.int (zI (zv s49 79))]) hC hZ52 rfl (rm_put X.la d b (hZ52.rv 79) hZ52.rf h53) cl_X12_763 rfl rfl (Nat.le_of_ble_eq_true rfl) ⟨Nat.le_of_ble_eq_true rfl, Nat.le_of_ble_eq_true rfl⟩ dX12_expressionOf_118 (fun s55 F56 hZ58 h59 => ?_)
          refine g_aload_n hC dX12_expressionOf_121 rfl ?_
          refine g_aload_n hC dX12_expressionOf_122 rfl ?_
          refine zr_get (e := (zv s55 80)) hC hZ58 fl_X12_255 zb_80 (by decide) rfl dX12_expressionOf_123 ?_
          refine zr_callVv (As := [.int (zI (zv s55 80))]) hC hZ58 rfl (rm_put X.la d b (hZ58.rv 80) hZ58.rf h59) cl_X12_763 rfl rfl (Nat.le_of_ble_eq_true rfl) ⟨Nat.le_of_ble_eq_true rfl, Nat.le_of_ble_eq_true rfl⟩ dX12_expressionOf_126 (fun s61 F62 hZ64 h65 => ?_)
          refine g_aload_n hC dX12_expressionOf_129 rfl ?_
          refine g_dup hC dX12_expressionOf_130 rfl ?_
          refine zr_get (e := (zv s61 78)) hC hZ64 fl_X12_249 zb_78 (by decide) rfl dX12_expressionOf_131 ?_
          refine g_iconst (v := zI 1) hC dX12_expressionOf_134 rfl ?_
          refine zr_iadd hC dX12_expressionOf_135 ?_
          obtain ⟨o66, h67⟩ := h65
          refine zr_put hC hZ64 fl_X12_249 zb_78 (by decide) o66 dX12_expressionOf_136 (fun F68 hZ69 => ?_)
          refine g_aload_n hC dX12_expressionOf_139 rfl ?_
          refine g_aload_n hC dX12_expressionOf_140 rfl ?_
          refine zr_get (e := ((zv s61 78) + 1)) hC hZ69 fl_X12_249 zb_78 (by decide) rfl dX12_expressionOf_141 ?_
          refine zr_put hC hZ69 fl_X12_246 zb_77 (by decide) o66 dX12_expressionOf_144 (fun F70 hZ71 => ?_)
          refine g_aload_n hC dX12_expressionOf_147 rfl ?_
          refine g_iconst (v := zI 0) hC dX12_expressionOf_148 rfl ?_
          refine zr_put hC hZ71 fl_X12_252 zb_79 (by decide) (by decide) dX12_expressionOf_149 (fun F72 hZ73 => ?_)
          refine g_aload_n hC dX12_expressionOf_152 rfl ?_
          refine g_iconst (v := zI 0) hC dX12_expressionOf_153 rfl ?_
          refine zr_put hC hZ73 fl_X12_255 zb_80 (by decide) (by decide) dX12_expressionOf_154 (fun F74 hZ75 => ?_)
          refine g_aload_n hC dX12_expressionOf_157 rfl ?_
          refine g_bipush (v := zI 14) hC dX12_expressionOf_158 rfl ?_
          refine g_iload_n hC dX12_expressionOf_160 rfl ?_
          refine g_iconst (v := zI 0) hC dX12_expressionOf_161 rfl ?_
          refine zr_callVv (As := [.int (zI 14), .int (zI a0), .int (zI 0)]) hC hZ75 rfl (rm_task X.la d b (by decide) Ra0 (by decide) hZ75.rf h67) cl_X12_647 rfl rfl (Nat.le_of_ble_eq_true rfl) ⟨Nat.le_of_ble_eq_true rfl, Nat.le_of_ble_eq_true rfl⟩ dX12_expressionOf_162 (fun s77 F78 hZ80 h81 => ?_)
          refine g_aload_n hC dX12_expressionOf_165 rfl ?_
          refine g_iconst (v := zI 2) hC dX12_expressionOf_166 rfl ?_
          refine g_aload_n hC dX12_expressionOf_167 rfl ?_
          refine zr_geta hC hZ80 fl_X12_93 zb_27 (by decide) dX12_expressionOf_168 ?_
          refine g_iload_n hC dX12_expressionOf_171 rfl ?_
          obtain ⟨o82, h83⟩ := h81
          obtain ⟨o84, h85⟩ := h83
          refine zr_iald (v := (za s77 27 (Int.toNat a0))) hC hZ80 zk_27 zb_27 zn_27 (by decide) o82 o84 rfl dX12_expressionOf_172 ?_
          refine g_iconst (v := zI 0) hC dX12_expressionOf_173 rfl ?_
          refine zr_callVv (As := [.int (zI 2), .int (zI (za s77 27 (Int.toNat a0))), .int (zI 0)]) hC hZ80 rfl (rm_task X.la d b (by decide) (hZ80.ra 27 _) (by decide) hZ80.rf h85) cl_X12_647 rfl rfl (Nat.le_of_ble_eq_true rfl) ⟨Nat.le_of_ble_eq_true rfl, Nat.le_of_ble_eq_true rfl⟩ dX12_expressionOf_174 (fun s87 F88 hZ90 h91 => ?_)
          refine g_goto (tgt := 223) hC dX12_expressionOf_177 (by decide) ?_
          exact zr_vret hC hZ90 h91 dX12_expressionOf_223
      · have h92 := h8.2 c9
        refine g_aload_n hC dX12_expressionOf_39 rfl ?_
        refine zr_geta hC hZ fl_X12_105 zb_31 (by decide) dX12_expressionOf_40 ?_
        refine g_iload_n hC dX12_expressionOf_43 rfl ?_
        refine g_aload_n hC dX12_expressionOf_44 rfl ?_
        refine zr_get (e := (zv s0 81)) hC hZ fl_X12_258 zb_81 (by decide) rfl dX12_expressionOf_45 ?_
        obtain ⟨o93, h94⟩ := h92
        obtain ⟨o95, h96⟩ := h94
        refine zr_iast hC hZ zk_31 zb_31 zn_31 (by decide) o93 o95 (hZ.rv 81) dX12_expressionOf_48 (fun F97 hZ98 => ?_)
        refine g_aload_n hC dX12_expressionOf_49 rfl ?_
        refine zr_geta hC hZ98 fl_X12_93 zb_27 (by decide) dX12_expressionOf_50 ?_
        refine g_iload_n hC dX12_expressionOf_53 rfl ?_
        obtain ⟨o99, h100⟩ := h96
        obtain ⟨o101, h102⟩ := h100
        refine zr_iald (v := (za s0 27 (Int.toNat a0))) hC hZ98 zk_27 zb_27 zn_27 (by decide) o99 o101 rfl dX12_expressionOf_54 ?_
        refine g_istore_n (lv' := [some (.ref t), some (.int (zI a0)), some (.int (zI (za s0 25 (Int.toNat a0)))), some (.int (zI (za s0 27 (Int.toNat a0))))]) hC dX12_expressionOf_55 (Nat.le_of_ble_eq_true rfl) rfl rfl ?_
        refine g_lv (lv' := [some (.ref t), none, none, some (.int (zI (za s0 27 (Int.toNat a0))))]) ⟨rfl, rfl, trivial⟩ ?_
        obtain ⟨m103, h104⟩ := h102
        exact rl_expressionOf_56 hC  m103 _ _ _ (hZ.ra 27 _) hZ98 h104
    · have h105 := h6.2 c7
      refine g_aload_n hC dX12_expressionOf_26 rfl ?_
      refine g_iload_n hC dX12_expressionOf_27 rfl ?_
      refine zr_callVv (As := [.int (zI a0)]) hC hZ rfl (rm_string X.la d b Ra0 hZ.rf h105) cl_X12_785 rfl rfl (Nat.le_of_ble_eq_true rfl) ⟨Nat.le_of_ble_eq_true rfl, Nat.le_of_ble_eq_true rfl⟩ dX12_expressionOf_28 (fun s107 F108 hZ110 h111 => ?_)
      refine g_goto (tgt := 223) hC dX12_expressionOf_31 (by decide) ?_
      exact zr_vret hC hZ110 h111 dX12_expressionOf_223
  · have h112 := h4.2 c5
    refine g_aload_n hC dX12_expressionOf_12 rfl ?_
    refine g_iload_n hC dX12_expressionOf_13 rfl ?_
    refine zr_callVi (As := [.int (zI a0)]) hC hZ rfl (rm_named X.la d b Ra0 hZ.rf h112) cl_X12_782 rfl rfl (Nat.le_of_ble_eq_true rfl) ⟨Nat.le_of_ble_eq_true rfl, Nat.le_of_ble_eq_true rfl⟩ dX12_expressionOf_14 (fun r113 s114 F115 R116 hZ117 h118 => ?_)
    refine g_pop hC dX12_expressionOf_17 rfl ?_
    refine g_goto (tgt := 223) hC dX12_expressionOf_18 (by decide) ?_
    exact zr_vret hC hZ117 h118 dX12_expressionOf_223
theorem dX12_placeOf_0 : decode cX12_placeOf 0 = .ok (.aload_n 0, 1) := by decide +kernel
theorem dX12_placeOf_1 : decode cX12_placeOf 1 = .ok (.getfield 87, 3) := by decide +kernel
theorem dX12_placeOf_4 : decode cX12_placeOf 4 = .ok (.iload_n 1, 1) := by decide +kernel
theorem dX12_placeOf_5 : decode cX12_placeOf 5 = .ok (.baload, 1) := by decide +kernel
theorem dX12_placeOf_6 : decode cX12_placeOf 6 = .ok (.istore_n 3, 1) := by decide +kernel
theorem dX12_placeOf_7 : decode cX12_placeOf 7 = .ok (.iload_n 3, 1) := by decide +kernel
theorem dX12_placeOf_8 : decode cX12_placeOf 8 = .ok (.bipush 7, 2) := by decide +kernel
theorem dX12_placeOf_10 : decode cX12_placeOf 10 = .ok (.if_icmp .eq 35, 3) := by decide +kernel
theorem dX12_placeOf_13 : decode cX12_placeOf 13 = .ok (.iload_n 3, 1) := by decide +kernel
theorem dX12_placeOf_14 : decode cX12_placeOf 14 = .ok (.bipush 9, 2) := by decide +kernel
theorem dX12_placeOf_16 : decode cX12_placeOf 16 = .ok (.if_icmp .ne 33, 3) := by decide +kernel
theorem dX12_placeOf_19 : decode cX12_placeOf 19 = .ok (.aload_n 0, 1) := by decide +kernel
theorem dX12_placeOf_20 : decode cX12_placeOf 20 = .ok (.getfield 99, 3) := by decide +kernel
theorem dX12_placeOf_23 : decode cX12_placeOf 23 = .ok (.iload_n 1, 1) := by decide +kernel
theorem dX12_placeOf_24 : decode cX12_placeOf 24 = .ok (.iaload, 1) := by decide +kernel
theorem dX12_placeOf_25 : decode cX12_placeOf 25 = .ok (.bipush 18, 2) := by decide +kernel
theorem dX12_placeOf_27 : decode cX12_placeOf 27 = .ok (.if_icmp .eq 18, 3) := by decide +kernel
theorem dX12_placeOf_30 : decode cX12_placeOf 30 = .ok (.iload_n 2, 1) := by decide +kernel
theorem dX12_placeOf_31 : decode cX12_placeOf 31 = .ok (.ifCond .eq 18, 3) := by decide +kernel
theorem dX12_placeOf_34 : decode cX12_placeOf 34 = .ok (.aload_n 0, 1) := by decide +kernel
theorem dX12_placeOf_35 : decode cX12_placeOf 35 = .ok (.getfield 99, 3) := by decide +kernel
theorem dX12_placeOf_38 : decode cX12_placeOf 38 = .ok (.iload_n 1, 1) := by decide +kernel
theorem dX12_placeOf_39 : decode cX12_placeOf 39 = .ok (.iaload, 1) := by decide +kernel
theorem dX12_placeOf_40 : decode cX12_placeOf 40 = .ok (.bipush 19, 2) := by decide +kernel
theorem dX12_placeOf_42 : decode cX12_placeOf 42 = .ok (.if_icmp .ne 7, 3) := by decide +kernel
theorem dX12_placeOf_45 : decode cX12_placeOf 45 = .ok (.iconst 1, 1) := by decide +kernel
theorem dX12_placeOf_46 : decode cX12_placeOf 46 = .ok (.goto 4, 3) := by decide +kernel
theorem dX12_placeOf_49 : decode cX12_placeOf 49 = .ok (.iconst 0, 1) := by decide +kernel
theorem dX12_placeOf_50 : decode cX12_placeOf 50 = .ok (.istore 4, 2) := by decide +kernel
theorem dX12_placeOf_52 : decode cX12_placeOf 52 = .ok (.iload_n 3, 1) := by decide +kernel
theorem dX12_placeOf_53 : decode cX12_placeOf 53 = .ok (.iconst 1, 1) := by decide +kernel
theorem dX12_placeOf_54 : decode cX12_placeOf 54 = .ok (.if_icmp .ne 66, 3) := by decide +kernel
theorem dX12_placeOf_57 : decode cX12_placeOf 57 = .ok (.aload_n 0, 1) := by decide +kernel
theorem dX12_placeOf_58 : decode cX12_placeOf 58 = .ok (.iload_n 1, 1) := by decide +kernel
theorem dX12_placeOf_59 : decode cX12_placeOf 59 = .ok (.invokevirtual 782, 3) := by decide +kernel
theorem dX12_placeOf_62 : decode cX12_placeOf 62 = .ok (.istore 5, 2) := by decide +kernel
theorem dX12_placeOf_64 : decode cX12_placeOf 64 = .ok (.iload 5, 2) := by decide +kernel
theorem dX12_placeOf_66 : decode cX12_placeOf 66 = .ok (.ifCond .lt 53, 3) := by decide +kernel
theorem dX12_placeOf_69 : decode cX12_placeOf 69 = .ok (.aload_n 0, 1) := by decide +kernel
theorem dX12_placeOf_70 : decode cX12_placeOf 70 = .ok (.getfield 166, 3) := by decide +kernel
theorem dX12_placeOf_73 : decode cX12_placeOf 73 = .ok (.iload 5, 2) := by decide +kernel
theorem dX12_placeOf_75 : decode cX12_placeOf 75 = .ok (.iaload, 1) := by decide +kernel
theorem dX12_placeOf_76 : decode cX12_placeOf 76 = .ok (.iconst 2, 1) := by decide +kernel
theorem dX12_placeOf_77 : decode cX12_placeOf 77 = .ok (.if_icmp .eq 26, 3) := by decide +kernel
theorem dX12_placeOf_80 : decode cX12_placeOf 80 = .ok (.aload_n 0, 1) := by decide +kernel
theorem dX12_placeOf_81 : decode cX12_placeOf 81 = .ok (.getfield 166, 3) := by decide +kernel
theorem dX12_placeOf_84 : decode cX12_placeOf 84 = .ok (.iload 5, 2) := by decide +kernel
theorem dX12_placeOf_86 : decode cX12_placeOf 86 = .ok (.iaload, 1) := by decide +kernel
theorem dX12_placeOf_87 : decode cX12_placeOf 87 = .ok (.bipush 6, 2) := by decide +kernel
theorem dX12_placeOf_89 : decode cX12_placeOf 89 = .ok (.if_icmp .eq 14, 3) := by decide +kernel
theorem dX12_placeOf_92 : decode cX12_placeOf 92 = .ok (.aload_n 0, 1) := by decide +kernel
theorem dX12_placeOf_93 : decode cX12_placeOf 93 = .ok (.getfield 166, 3) := by decide +kernel
theorem dX12_placeOf_96 : decode cX12_placeOf 96 = .ok (.iload 5, 2) := by decide +kernel
theorem dX12_placeOf_98 : decode cX12_placeOf 98 = .ok (.iaload, 1) := by decide +kernel
theorem dX12_placeOf_99 : decode cX12_placeOf 99 = .ok (.iconst 5, 1) := by decide +kernel
theorem dX12_placeOf_100 : decode cX12_placeOf 100 = .ok (.if_icmp .ne 19, 3) := by decide +kernel
theorem dX12_placeOf_103 : decode cX12_placeOf 103 = .ok (.aload_n 0, 1) := by decide +kernel
theorem dX12_placeOf_104 : decode cX12_placeOf 104 = .ok (.bipush 6, 2) := by decide +kernel
theorem dX12_placeOf_106 : decode cX12_placeOf 106 = .ok (.aload_n 0, 1) := by decide +kernel
theorem dX12_placeOf_107 : decode cX12_placeOf 107 = .ok (.aload_n 0, 1) := by decide +kernel
theorem dX12_placeOf_108 : decode cX12_placeOf 108 = .ok (.getfield 114, 3) := by decide +kernel
theorem dX12_placeOf_111 : decode cX12_placeOf 111 = .ok (.iload_n 1, 1) := by decide +kernel
theorem dX12_placeOf_112 : decode cX12_placeOf 112 = .ok (.iaload, 1) := by decide +kernel
theorem dX12_placeOf_113 : decode cX12_placeOf 113 = .ok (.invokevirtual 613, 3) := by decide +kernel
theorem dX12_placeOf_116 : decode cX12_placeOf 116 = .ok (.invokevirtual 605, 3) := by decide +kernel
theorem dX12_placeOf_119 : decode cX12_placeOf 119 = .ok (.return_, 1) := by decide +kernel
theorem dX12_placeOf_120 : decode cX12_placeOf 120 = .ok (.iload 4, 2) := by decide +kernel
theorem dX12_placeOf_122 : decode cX12_placeOf 122 = .ok (.ifCond .ne 19, 3) := by decide +kernel
theorem dX12_placeOf_125 : decode cX12_placeOf 125 = .ok (.aload_n 0, 1) := by decide +kernel
theorem dX12_placeOf_126 : decode cX12_placeOf 126 = .ok (.bipush 6, 2) := by decide +kernel
theorem dX12_placeOf_128 : decode cX12_placeOf 128 = .ok (.aload_n 0, 1) := by decide +kernel
theorem dX12_placeOf_129 : decode cX12_placeOf 129 = .ok (.aload_n 0, 1) := by decide +kernel
theorem dX12_placeOf_130 : decode cX12_placeOf 130 = .ok (.getfield 114, 3) := by decide +kernel
theorem dX12_placeOf_133 : decode cX12_placeOf 133 = .ok (.iload_n 1, 1) := by decide +kernel
theorem dX12_placeOf_134 : decode cX12_placeOf 134 = .ok (.iaload, 1) := by decide +kernel
theorem dX12_placeOf_135 : decode cX12_placeOf 135 = .ok (.invokevirtual 613, 3) := by decide +kernel
theorem dX12_placeOf_138 : decode cX12_placeOf 138 = .ok (.invokevirtual 605, 3) := by decide +kernel
theorem dX12_placeOf_141 : decode cX12_placeOf 141 = .ok (.aload_n 0, 1) := by decide +kernel
theorem dX12_placeOf_142 : decode cX12_placeOf 142 = .ok (.iconst 3, 1) := by decide +kernel
theorem dX12_placeOf_143 : decode cX12_placeOf 143 = .ok (.iload_n 1, 1) := by decide +kernel
theorem dX12_placeOf_144 : decode cX12_placeOf 144 = .ok (.iconst 0, 1) := by decide +kernel
theorem dX12_placeOf_145 : decode cX12_placeOf 145 = .ok (.invokevirtual 647, 3) := by decide +kernel
theorem dX12_placeOf_148 : decode cX12_placeOf 148 = .ok (.return_, 1) := by decide +kernel
def wr_placeOf_50 (Q : zS → Prop)  (s0 : zS) (x1 : Int) (x3 : Int) (y0 : Int) : Prop :=
  ((¬ x3 = 1 → ((¬ y0 = 0 → wr_task s0 3 x1 0 (fun s6 => Q s6)) ∧ (y0 = 0 → (0 ≤ x1) ∧ (x1 < 26000) ∧ wr_place s0 (za s0 34 (Int.toNat x1)) (fun r16 s17 => wr_fault s17 6 r16 (fun s23 => wr_task s23 3 x1 0 (fun s29 => Q s29)))))) ∧ (x3 = 1 → wr_named s0 x1 (fun r35 s36 => ((r35 < 0 → Q s36) ∧ (¬ r35 < 0 → (0 ≤ r35) ∧ (r35 < 9000) ∧ (((za s36 51 (Int.toNat r35)) = 2 → (0 ≤ x1) ∧ (x1 < 26000) ∧ wr_place s36 (za s36 34 (Int.toNat x1)) (fun r54 s55 => wr_fault s55 6 r54 (fun s61 => Q s61))) ∧ (¬ (za s36 51 (Int.toNat r35)) = 2 → (0 ≤ r35) ∧ (r35 < 9000) ∧ (((za s36 51 (Int.toNat r35)) = 6 → (0 ≤ x1) ∧ (x1 < 26000) ∧ wr_place s36 (za s36 34 (Int.toNat x1)) (fun r77 s78 => wr_fault s78 6 r77 (fun s84 => Q s84))) ∧ (¬ (za s36 51 (Int.toNat r35)) = 6 → (0 ≤ r35) ∧ (r35 < 9000) ∧ ((¬ (za s36 51 (Int.toNat r35)) = 5 → Q s36) ∧ ((za s36 51 (Int.toNat r35)) = 5 → (0 ≤ x1) ∧ (x1 < 26000) ∧ wr_place s36 (za s36 34 (Int.toNat x1)) (fun r101 s102 => wr_fault s102 6 r101 (fun s108 => Q s108)))))))))))))
def wr_placeOf (s0 : zS) (a0 : Int) (a1 : Int) (Q : zS → Prop) : Prop :=
  (0 ≤ a0) ∧ (a0 < 26000) ∧ (((za s0 25 (Int.toNat a0)) = 7 → wr_placeOf_50 Q  s0 a0 (za s0 25 (Int.toNat a0)) 1) ∧ (¬ (za s0 25 (Int.toNat a0)) = 7 → ((¬ (za s0 25 (Int.toNat a0)) = 9 → wr_placeOf_50 Q  s0 a0 (za s0 25 (Int.toNat a0)) 0) ∧ ((za s0 25 (Int.toNat a0)) = 9 → (0 ≤ a0) ∧ (a0 < 26000) ∧ (((za s0 29 (Int.toNat a0)) = 18 → wr_placeOf_50 Q  s0 a0 (za s0 25 (Int.toNat a0)) 1) ∧ (¬ (za s0 29 (Int.toNat a0)) = 18 → ((a1 = 0 → wr_placeOf_50 Q  s0 a0 (za s0 25 (Int.toNat a0)) 0) ∧ (¬ a1 = 0 → (0 ≤ a0) ∧ (a0 < 26000) ∧ ((¬ (za s0 29 (Int.toNat a0)) = 19 → wr_placeOf_50 Q  s0 a0 (za s0 25 (Int.toNat a0)) 0) ∧ ((za s0 29 (Int.toNat a0)) = 19 → wr_placeOf_50 Q  s0 a0 (za s0 25 (Int.toNat a0)) 1))))))))))
set_option maxHeartbeats 4000000 in
set_option maxRecDepth 100000 in
theorem rj_placeOf_50 {X : gX} {d : gD} {b t : Nat} {T : Nat → Nat} {F0 : gM} (hC : gC RX12 cX12_placeOf 6 none "placeOf" (gR 2 0 0) d b X) {Q : zS → Prop}   {F : gM} {s0 : zS} {x1 : Int} {x3 : Int} {y0 : Int} (Rx1 : zR x1) (Rx3 : zR x3) (Ry0 : zR y0) (hZ : zZ d t T F0 F s0) (hw : wr_placeOf_50 Q  s0 x1 x3 y0) : gG X d b (zQv X d b t T F0 Q) F 0 0 50 [some (.ref t), some (.int (zI x1)), none, some (.int (zI x3)), none, none] [.int (zI y0)] := by
  unfold wr_placeOf_50 at hw
  refine g_istore (lv' := [some (.ref t), some (.int (zI x1)), none, some (.int (zI x3)), some (.int (zI y0)), none]) hC dX12_placeOf_50 (Nat.le_of_ble_eq_true rfl) rfl rfl ?_
  refine g_iload_n hC dX12_placeOf_52 rfl ?_
  refine g_iconst (v := zI 1) hC dX12_placeOf_53 rfl ?_
  refine zr_icmp_ne (tgt := 120) hC Rx3 (by decide) dX12_placeOf_54 (by decide) (fun c1 => ?_) (fun c1 => ?_)
  · have h2 := hw.1 c1
    refine g_iload hC dX12_placeOf_120 rfl ?_
    refine zr_if_ne (tgt := 141) hC Ry0 dX12_placeOf_122 (by decide) (fun c3 => ?_) (fun c3 => ?_)
    · have h4 := h2.1 c3
      refine g_aload_n hC dX12_placeOf_141 rfl ?_
      refine g_iconst (v := zI 3) hC dX12_placeOf_142 rfl ?_
      refine g_iload_n hC dX12_placeOf_143 rfl ?_
      refine g_iconst (v := zI 0) hC dX12_placeOf_144 rfl ?_
      refine zr_callVv (As := [.int (zI 3), .int (zI x1), .int (zI 0)]) hC hZ rfl (rm_task X.la d b (by decide) Rx1 (by decide) hZ.rf h4) cl_X12_647 rfl rfl (Nat.le_of_ble_eq_true rfl) ⟨Nat.le_of_ble_eq_true rfl, Nat.le_of_ble_eq_true rfl⟩ dX12_placeOf_145 (fun s6 F7 hZ9 h10 => ?_)
      exact zr_vret hC hZ9 h10 dX12_placeOf_148
    · have h11 := h2.2 c3
      refine g_aload_n hC dX12_placeOf_125 rfl ?_
      refine g_bipush (v := zI 6) hC dX12_placeOf_126 rfl ?_
      refine g_aload_n hC dX12_placeOf_128 rfl ?_
      refine g_aload_n hC dX12_placeOf_129 rfl ?_
      refine zr_geta hC hZ fl_X12_114 zb_34 (by decide) dX12_placeOf_130 ?_
      refine g_iload_n hC dX12_placeOf_133 rfl ?_
      obtain ⟨o12, h13⟩ := h11
      obtain ⟨o14, h15⟩ := h13
      refine zr_iald (v := (za s0 34 (Int.toNat x1))) hC hZ zk_34 zb_34 zn_34 (by decide) o12 o14 rfl dX12_placeOf_134 ?_
      refine zr_callVi (As := [.int (zI (za s0 34 (Int.toNat x1)))]) hC hZ rfl (rm_place X.la d b (hZ.ra 34 _) hZ.rf h15) cl_X12_613 rfl rfl (Nat.le_of_ble_eq_true rfl) ⟨Nat.le_of_ble_eq_true rfl, Nat.le_of_ble_eq_true rfl⟩ dX12_placeOf_135 (fun r16 s17 F18 R19 hZ20 h21 => ?_)
      refine zr_callVv (As := [.int (zI 6), .int (zI r16)]) hC hZ20 rfl (rm_fault X.la d b (by decide) R19 hZ20.rf h21) cl_X12_605 rfl rfl (Nat.le_of_ble_eq_true rfl) ⟨Nat.le_of_ble_eq_true rfl, Nat.le_of_ble_eq_true rfl⟩ dX12_placeOf_138 (fun s23 F24 hZ26 h27 => ?_)
      refine g_aload_n hC dX12_placeOf_141 rfl ?_
      refine g_iconst (v := zI 3) hC dX12_placeOf_142 rfl ?_
      refine g_iload_n hC dX12_placeOf_143 rfl ?_
      refine g_iconst (v := zI 0) hC dX12_placeOf_144 rfl ?_
      refine zr_callVv (As := [.int (zI 3), .int (zI x1), .int (zI 0)]) hC hZ26 rfl (rm_task X.la d b (by decide) Rx1 (by decide) hZ26.rf h27) cl_X12_647 rfl rfl (Nat.le_of_ble_eq_true rfl) ⟨Nat.le_of_ble_eq_true rfl, Nat.le_of_ble_eq_true rfl⟩ dX12_placeOf_145 (fun s29 F30 hZ32 h33 => ?_)
      exact zr_vret hC hZ32 h33 dX12_placeOf_148
  · have h34 := hw.2 c1
    refine g_aload_n hC dX12_placeOf_57 rfl ?_
    refine g_iload_n hC dX12_placeOf_58 rfl ?_
    refine zr_callVi (As := [.int (zI x1)]) hC hZ rfl (rm_named X.la d b Rx1 hZ.rf h34) cl_X12_782 rfl rfl (Nat.le_of_ble_eq_true rfl) ⟨Nat.le_of_ble_eq_true rfl, Nat.le_of_ble_eq_true rfl⟩ dX12_placeOf_59 (fun r35 s36 F37 R38 hZ39 h40 => ?_)
    refine g_istore (lv' := [some (.ref t), some (.int (zI x1)), none, some (.int (zI x3)), some (.int (zI y0)), some (.int (zI r35))]) hC dX12_placeOf_62 (Nat.le_of_ble_eq_true rfl) rfl rfl ?_
    refine g_iload hC dX12_placeOf_64 rfl ?_
    refine zr_if_lt (tgt := 119) hC R38 dX12_placeOf_66 (by decide) (fun c41 => ?_) (fun c41 => ?_)
    · have h42 := h40.1 c41
      exact zr_vret hC hZ39 h42 dX12_placeOf_119
    · have h43 := h40.2 c41
      refine g_aload_n hC dX12_placeOf_69 rfl ?_
      refine zr_geta hC hZ39 fl_X12_166 zb_51 (by decide) dX12_placeOf_70 ?_
      refine g_iload hC dX12_placeOf_73 rfl ?_
      obtain ⟨o44, h45⟩ := h43
      obtain ⟨o46, h47⟩ := h45
      refine zr_iald (v := (za s36 51 (Int.toNat r35))) hC hZ39 zk_51 zb_51 zn_51 (by decide) o44 o46 rfl dX12_placeOf_75 ?_
      refine g_iconst (v := zI 2) hC dX12_placeOf_76 rfl ?_
      refine zr_icmp_eq (tgt := 103) hC (hZ39.ra 51 _) (by decide) dX12_placeOf_77 (by decide) (fun c48 => ?_) (fun c48 => ?_)
      · have h49 := h47.1 c48
        refine g_aload_n hC dX12_placeOf_103 rfl ?_
        refine g_bipush (v := zI 6) hC dX12_placeOf_104 rfl ?_
        refine g_aload_n hC dX12_placeOf_106 rfl ?_
        refine g_aload_n hC dX12_placeOf_107 rfl ?_
        refine zr_geta hC hZ39 fl_X12_114 zb_34 (by decide) dX12_placeOf_108 ?_
        refine g_iload_n hC dX12_placeOf_111 rfl ?_
        obtain ⟨o50, h51⟩ := h49
        obtain ⟨o52, h53⟩ := h51
        refine zr_iald (v := (za s36 34 (Int.toNat x1))) hC hZ39 zk_34 zb_34 zn_34 (by decide) o50 o52 rfl dX12_placeOf_112 ?_
        refine zr_callVi (As := [.int (zI (za s36 34 (Int.toNat x1)))]) hC hZ39 rfl (rm_place X.la d b (hZ39.ra 34 _) hZ39.rf h53) cl_X12_613 rfl rfl (Nat.le_of_ble_eq_true rfl) ⟨Nat.le_of_ble_eq_true rfl, Nat.le_of_ble_eq_true rfl⟩ dX12_placeOf_113 (fun r54 s55 F56 R57 hZ58 h59 => ?_)
        refine zr_callVv (As := [.int (zI 6), .int (zI r54)]) hC hZ58 rfl (rm_fault X.la d b (by decide) R57 hZ58.rf h59) cl_X12_605 rfl rfl (Nat.le_of_ble_eq_true rfl) ⟨Nat.le_of_ble_eq_true rfl, Nat.le_of_ble_eq_true rfl⟩ dX12_placeOf_116 (fun s61 F62 hZ64 h65 => ?_)
        exact zr_vret hC hZ64 h65 dX12_placeOf_119
      · have h66 := h47.2 c48
        refine g_aload_n hC dX12_placeOf_80 rfl ?_
        refine zr_geta hC hZ39 fl_X12_166 zb_51 (by decide) dX12_placeOf_81 ?_
        refine g_iload hC dX12_placeOf_84 rfl ?_
        obtain ⟨o67, h68⟩ := h66
        obtain ⟨o69, h70⟩ := h68
        refine zr_iald (v := (za s36 51 (Int.toNat r35))) hC hZ39 zk_51 zb_51 zn_51 (by decide) o67 o69 rfl dX12_placeOf_86 ?_
        refine g_bipush (v := zI 6) hC dX12_placeOf_87 rfl ?_
        refine zr_icmp_eq (tgt := 103) hC (hZ39.ra 51 _) (by decide) dX12_placeOf_89 (by decide) (fun c71 => ?_) (fun c71 => ?_)
        · have h72 := h70.1 c71
          refine g_aload_n hC dX12_placeOf_103 rfl ?_
          refine g_bipush (v := zI 6) hC dX12_placeOf_104 rfl ?_
          refine g_aload_n hC dX12_placeOf_106 rfl ?_
          refine g_aload_n hC dX12_placeOf_107 rfl ?_
          refine zr_geta hC hZ39 fl_X12_114 zb_34 (by decide) dX12_placeOf_108 ?_
          refine g_iload_n hC dX12_placeOf_111 rfl ?_
          obtain ⟨o73, h74⟩ := h72
          obtain ⟨o75, h76⟩ := h74
          refine zr_iald (v := (za s36 34 (Int.toNat x1))) hC hZ39 zk_34 zb_34 zn_34 (by decide) o73 o75 rfl dX12_placeOf_112 ?_
          refine zr_callVi (As := [.int (zI (za s36 34 (Int.toNat x1)))]) hC hZ39 rfl (rm_place X.la d b (hZ39.ra 34 _) hZ39.rf h76) cl_X12_613 rfl rfl (Nat.le_of_ble_eq_true rfl) ⟨Nat.le_of_ble_eq_true rfl, Nat.le_of_ble_eq_true rfl⟩ dX12_placeOf_113 (fun r77 s78 F79 R80 hZ81 h82 => ?_)
          refine zr_callVv (As := [.int (zI 6), .int (zI r77)]) hC hZ81 rfl (rm_fault X.la d b (by decide) R80 hZ81.rf h82) cl_X12_605 rfl rfl (Nat.le_of_ble_eq_true rfl) ⟨Nat.le_of_ble_eq_true rfl, Nat.le_of_ble_eq_true rfl⟩ dX12_placeOf_116 (fun s84 F85 hZ87 h88 => ?_)
          exact zr_vret hC hZ87 h88 dX12_placeOf_119
        · have h89 := h70.2 c71
          refine g_aload_n hC dX12_placeOf_92 rfl ?_
          refine zr_geta hC hZ39 fl_X12_166 zb_51 (by decide) dX12_placeOf_93 ?_
          refine g_iload hC dX12_placeOf_96 rfl ?_
          obtain ⟨o90, h91⟩ := h89
          obtain ⟨o92, h93⟩ := h91
          refine zr_iald (v := (za s36 51 (Int.toNat r35))) hC hZ39 zk_51 zb_51 zn_51 (by decide) o90 o92 rfl dX12_placeOf_98 ?_
          refine g_iconst (v := zI 5) hC dX12_placeOf_99 rfl ?_
          refine zr_icmp_ne (tgt := 119) hC (hZ39.ra 51 _) (by decide) dX12_placeOf_100 (by decide) (fun c94 => ?_) (fun c94 => ?_)
          · have h95 := h93.1 c94
            exact zr_vret hC hZ39 h95 dX12_placeOf_119
          · have h96 := h93.2 c94
            refine g_aload_n hC dX12_placeOf_103 rfl ?_
            refine g_bipush (v := zI 6) hC dX12_placeOf_104 rfl ?_
            refine g_aload_n hC dX12_placeOf_106 rfl ?_
            refine g_aload_n hC dX12_placeOf_107 rfl ?_
            refine zr_geta hC hZ39 fl_X12_114 zb_34 (by decide) dX12_placeOf_108 ?_
            refine g_iload_n hC dX12_placeOf_111 rfl ?_
            obtain ⟨o97, h98⟩ := h96
            obtain ⟨o99, h100⟩ := h98
            refine zr_iald (v := (za s36 34 (Int.toNat x1))) hC hZ39 zk_34 zb_34 zn_34 (by decide) o97 o99 rfl dX12_placeOf_112 ?_
            refine zr_callVi (As := [.int (zI (za s36 34 (Int.toNat x1)))]) hC hZ39 rfl (rm_place X.la d b (hZ39.ra 34 _) hZ39.rf h100) cl_X12_613 rfl rfl (Nat.le_of_ble_eq_true rfl) ⟨Nat.le_of_ble_eq_true rfl, Nat.le_of_ble_eq_true rfl⟩ dX12_placeOf_113 (fun r101 s102 F103 R104 hZ105 h106 => ?_)
            refine zr_callVv (As := [.int (zI 6), .int (zI r101)]) hC hZ105 rfl (rm_fault X.la d b (by decide) R104 hZ105.rf h106) cl_X12_605 rfl rfl (Nat.le_of_ble_eq_true rfl) ⟨Nat.le_of_ble_eq_true rfl, Nat.le_of_ble_eq_true rfl⟩ dX12_placeOf_116 (fun s108 F109 hZ111 h112 => ?_)
            exact zr_vret hC hZ111 h112 dX12_placeOf_119
set_option maxHeartbeats 4000000 in
set_option maxRecDepth 100000 in
theorem rm_placeOf (l : Launch) (d : gD) (b : Nat) {t : Nat} {T : Nat → Nat} {F : gM} {s0 : zS} {a0 : Int} {a1 : Int} (Ra0 : zR a0) (Ra1 : zR a1) {Q : zS → Prop} (hZ : zZ d t T F F s0) (hw : wr_placeOf s0 a0 a1 Q) : gMv l d b yX12_placeOf cX12_placeOf 6 2 0 0 F [.ref t, .int (zI a0), .int (zI a1)] (zPv d t T F Q) := by
  refine gM_of2 rfl (nL := 6) (Nat.le_of_ble_eq_true rfl) ?_
  intro X hX hC; subst hX
  show gG X d b (zQv X d b t T F Q) F 0 0 0 [some (.ref t), some (.int (zI a0)), some (.int (zI a1)), none, none, none] []
  unfold wr_placeOf at hw
  refine g_aload_n hC dX12_placeOf_0 rfl ?_
  refine zr_geta hC hZ fl_X12_87 zb_25 (by decide) dX12_placeOf_1 ?_
  refine g_iload_n hC dX12_placeOf_4 rfl ?_
  obtain ⟨o1, h2⟩ := hw
  obtain ⟨o3, h4⟩ := h2
  refine zr_bald (v := (za s0 25 (Int.toNat a0))) hC hZ zk_25 zb_25 zn_25 (by decide) o1 o3 rfl dX12_placeOf_5 ?_
  refine g_istore_n (lv' := [some (.ref t), some (.int (zI a0)), some (.int (zI a1)), some (.int (zI (za s0 25 (Int.toNat a0)))), none, none]) hC dX12_placeOf_6 (Nat.le_of_ble_eq_true rfl) rfl rfl ?_
  refine g_iload_n hC dX12_placeOf_7 rfl ?_
  refine g_bipush (v := zI 7) hC dX12_placeOf_8 rfl ?_
  refine zr_icmp_eq (tgt := 45) hC (hZ.ra 25 _) (by decide) dX12_placeOf_10 (by decide) (fun c5 => ?_) (fun c5 => ?_)
  · have h6 := h4.1 c5
    refine g_iconst (v := zI 1) hC dX12_placeOf_45 rfl ?_
    refine g_goto (tgt := 50) hC dX12_placeOf_46 (by decide) ?_
    refine g_lv (lv' := [some (.ref t), some (.int (zI a0)), none, some (.int (zI (za s0 25 (Int.toNat a0)))), none, none]) ⟨rfl, rfl, rfl, trivial⟩ ?_
    exact rj_placeOf_50 hC  Ra0 (hZ.ra 25 _) (by decide) hZ h6
  · have h7 := h4.2 c5
    refine g_iload_n hC dX12_placeOf_13 rfl ?_
    refine g_bipush (v := zI 9) hC dX12_placeOf_14 rfl ?_
    refine zr_icmp_ne (tgt := 49) hC (hZ.ra 25 _) (by decide) dX12_placeOf_16 (by decide) (fun c8 => ?_) (fun c8 => ?_)
    · have h9 := h7.1 c8
      refine g_iconst (v := zI 0) hC dX12_placeOf_49 rfl ?_
      refine g_lv (lv' := [some (.ref t), some (.int (zI a0)), none, some (.int (zI (za s0 25 (Int.toNat a0)))), none, none]) ⟨rfl, rfl, rfl, trivial⟩ ?_
      exact rj_placeOf_50 hC  Ra0 (hZ.ra 25 _) (by decide) hZ h9
    · have h10 := h7.2 c8
      refine g_aload_n hC dX12_placeOf_19 rfl ?_
      refine zr_geta hC hZ fl_X12_99 zb_29 (by decide) dX12_placeOf_20 ?_
      refine g_iload_n hC dX12_placeOf_23 rfl ?_
      obtain ⟨o11, h12⟩ := h10
      obtain ⟨o13, h14⟩ := h12
      refine zr_iald (v := (za s0 29 (Int.toNat a0))) hC hZ zk_29 zb_29 zn_29 (by decide) o11 o13 rfl dX12_placeOf_24 ?_
      refine g_bipush (v := zI 18) hC dX12_placeOf_25 rfl ?_
      refine zr_icmp_eq (tgt := 45) hC (hZ.ra 29 _) (by decide) dX12_placeOf_27 (by decide) (fun c15 => ?_) (fun c15 => ?_)
      · have h16 := h14.1 c15
        refine g_iconst (v := zI 1) hC dX12_placeOf_45 rfl ?_
        refine g_goto (tgt := 50) hC dX12_placeOf_46 (by decide) ?_
        refine g_lv (lv' := [some (.ref t), some (.int (zI a0)), none, some (.int (zI (za s0 25 (Int.toNat a0)))), none, none]) ⟨rfl, rfl, rfl, trivial⟩ ?_
        exact rj_placeOf_50 hC  Ra0 (hZ.ra 25 _) (by decide) hZ h16
      · have h17 := h14.2 c15
        refine g_iload_n hC dX12_placeOf_30 rfl ?_
        refine zr_if_eq (tgt := 49) hC Ra1 dX12_placeOf_31 (by decide) (fun c18 => ?_) (fun c18 => ?_)
        · have h19 := h17.1 c18
          refine g_iconst (v := zI 0) hC dX12_placeOf_49 rfl ?_
          refine g_lv (lv' := [some (.ref t), some (.int (zI a0)), none, some (.int (zI (za s0 25 (Int.toNat a0)))), none, none]) ⟨rfl, rfl, rfl, trivial⟩ ?_
          exact rj_placeOf_50 hC  Ra0 (hZ.ra 25 _) (by decide) hZ h19
        · have h20 := h17.2 c18
          refine g_aload_n hC dX12_placeOf_34 rfl ?_
          refine zr_geta hC hZ fl_X12_99 zb_29 (by decide) dX12_placeOf_35 ?_
          refine g_iload_n hC dX12_placeOf_38 rfl ?_
          obtain ⟨o21, h22⟩ := h20
          obtain ⟨o23, h24⟩ := h22
          refine zr_iald (v := (za s0 29 (Int.toNat a0))) hC hZ zk_29 zb_29 zn_29 (by decide) o21 o23 rfl dX12_placeOf_39 ?_
          refine g_bipush (v := zI 19) hC dX12_placeOf_40 rfl ?_
          refine zr_icmp_ne (tgt := 49) hC (hZ.ra 29 _) (by decide) dX12_placeOf_42 (by decide) (fun c25 => ?_) (fun c25 => ?_)
          · have h26 := h24.1 c25
            refine g_iconst (v := zI 0) hC dX12_placeOf_49 rfl ?_
            refine g_lv (lv' := [some (.ref t), some (.int (zI a0)), none, some (.int (zI (za s0 25 (Int.toNat a0)))), none, none]) ⟨rfl, rfl, rfl, trivial⟩ ?_
            exact rj_placeOf_50 hC  Ra0 (hZ.ra 25 _) (by decide) hZ h26
          · have h27 := h24.2 c25
            refine g_iconst (v := zI 1) hC dX12_placeOf_45 rfl ?_
            refine g_goto (tgt := 50) hC dX12_placeOf_46 (by decide) ?_
            refine g_lv (lv' := [some (.ref t), some (.int (zI a0)), none, some (.int (zI (za s0 25 (Int.toNat a0)))), none, none]) ⟨rfl, rfl, rfl, trivial⟩ ?_
            exact rj_placeOf_50 hC  Ra0 (hZ.ra 25 _) (by decide) hZ h27
theorem dX12_routineOf_0 : decode cX12_routineOf 0 = .ok (.aload_n 0, 1) := by decide +kernel
theorem dX12_routineOf_1 : decode cX12_routineOf 1 = .ok (.getfield 222, 3) := by decide +kernel
theorem dX12_routineOf_4 : decode cX12_routineOf 4 = .ok (.istore_n 3, 1) := by decide +kernel
theorem dX12_routineOf_5 : decode cX12_routineOf 5 = .ok (.aload_n 0, 1) := by decide +kernel
theorem dX12_routineOf_6 : decode cX12_routineOf 6 = .ok (.dup, 1) := by decide +kernel
theorem dX12_routineOf_7 : decode cX12_routineOf 7 = .ok (.getfield 222, 3) := by decide +kernel
theorem dX12_routineOf_10 : decode cX12_routineOf 10 = .ok (.iconst 1, 1) := by decide +kernel
theorem dX12_routineOf_11 : decode cX12_routineOf 11 = .ok (.iadd, 1) := by decide +kernel
theorem dX12_routineOf_12 : decode cX12_routineOf 12 = .ok (.putfield 222, 3) := by decide +kernel
theorem dX12_routineOf_15 : decode cX12_routineOf 15 = .ok (.aload_n 0, 1) := by decide +kernel
theorem dX12_routineOf_16 : decode cX12_routineOf 16 = .ok (.getfield 99, 3) := by decide +kernel
theorem dX12_routineOf_19 : decode cX12_routineOf 19 = .ok (.iload_n 1, 1) := by decide +kernel
theorem dX12_routineOf_20 : decode cX12_routineOf 20 = .ok (.iload_n 3, 1) := by decide +kernel
theorem dX12_routineOf_21 : decode cX12_routineOf 21 = .ok (.iastore, 1) := by decide +kernel
theorem dX12_routineOf_22 : decode cX12_routineOf 22 = .ok (.aload_n 0, 1) := by decide +kernel
theorem dX12_routineOf_23 : decode cX12_routineOf 23 = .ok (.getfield 102, 3) := by decide +kernel
theorem dX12_routineOf_26 : decode cX12_routineOf 26 = .ok (.iload_n 1, 1) := by decide +kernel
theorem dX12_routineOf_27 : decode cX12_routineOf 27 = .ok (.iaload, 1) := by decide +kernel
theorem dX12_routineOf_28 : decode cX12_routineOf 28 = .ok (.ifCond .le 25, 3) := by decide +kernel
theorem dX12_routineOf_31 : decode cX12_routineOf 31 = .ok (.aload_n 0, 1) := by decide +kernel
theorem dX12_routineOf_32 : decode cX12_routineOf 32 = .ok (.getfield 105, 3) := by decide +kernel
theorem dX12_routineOf_35 : decode cX12_routineOf 35 = .ok (.iload_n 1, 1) := by decide +kernel
theorem dX12_routineOf_36 : decode cX12_routineOf 36 = .ok (.aload_n 0, 1) := by decide +kernel
theorem dX12_routineOf_37 : decode cX12_routineOf 37 = .ok (.getfield 169, 3) := by decide +kernel
theorem dX12_routineOf_40 : decode cX12_routineOf 40 = .ok (.aload_n 0, 1) := by decide +kernel
theorem dX12_routineOf_41 : decode cX12_routineOf 41 = .ok (.getfield 102, 3) := by decide +kernel
theorem dX12_routineOf_44 : decode cX12_routineOf 44 = .ok (.iload_n 1, 1) := by decide +kernel
theorem dX12_routineOf_45 : decode cX12_routineOf 45 = .ok (.iaload, 1) := by decide +kernel
theorem dX12_routineOf_46 : decode cX12_routineOf 46 = .ok (.iconst 1, 1) := by decide +kernel
theorem dX12_routineOf_47 : decode cX12_routineOf 47 = .ok (.isub, 1) := by decide +kernel
theorem dX12_routineOf_48 : decode cX12_routineOf 48 = .ok (.iaload, 1) := by decide +kernel
theorem dX12_routineOf_49 : decode cX12_routineOf 49 = .ok (.iastore, 1) := by decide +kernel
theorem dX12_routineOf_50 : decode cX12_routineOf 50 = .ok (.goto 23, 3) := by decide +kernel
theorem dX12_routineOf_53 : decode cX12_routineOf 53 = .ok (.aload_n 0, 1) := by decide +kernel
theorem dX12_routineOf_54 : decode cX12_routineOf 54 = .ok (.getfield 105, 3) := by decide +kernel
theorem dX12_routineOf_57 : decode cX12_routineOf 57 = .ok (.iload_n 1, 1) := by decide +kernel
theorem dX12_routineOf_58 : decode cX12_routineOf 58 = .ok (.aload_n 0, 1) := by decide +kernel
theorem dX12_routineOf_59 : decode cX12_routineOf 59 = .ok (.getfield 258, 3) := by decide +kernel
theorem dX12_routineOf_62 : decode cX12_routineOf 62 = .ok (.iastore, 1) := by decide +kernel
theorem dX12_routineOf_63 : decode cX12_routineOf 63 = .ok (.aload_n 0, 1) := by decide +kernel
theorem dX12_routineOf_64 : decode cX12_routineOf 64 = .ok (.dup, 1) := by decide +kernel
theorem dX12_routineOf_65 : decode cX12_routineOf 65 = .ok (.getfield 258, 3) := by decide +kernel
theorem dX12_routineOf_68 : decode cX12_routineOf 68 = .ok (.iconst 1, 1) := by decide +kernel
theorem dX12_routineOf_69 : decode cX12_routineOf 69 = .ok (.iadd, 1) := by decide +kernel
theorem dX12_routineOf_70 : decode cX12_routineOf 70 = .ok (.putfield 258, 3) := by decide +kernel
theorem dX12_routineOf_73 : decode cX12_routineOf 73 = .ok (.aload_n 0, 1) := by decide +kernel
theorem dX12_routineOf_74 : decode cX12_routineOf 74 = .ok (.aload_n 0, 1) := by decide +kernel
theorem dX12_routineOf_75 : decode cX12_routineOf 75 = .ok (.getfield 105, 3) := by decide +kernel
theorem dX12_routineOf_78 : decode cX12_routineOf 78 = .ok (.iload_n 1, 1) := by decide +kernel
theorem dX12_routineOf_79 : decode cX12_routineOf 79 = .ok (.iaload, 1) := by decide +kernel
theorem dX12_routineOf_80 : decode cX12_routineOf 80 = .ok (.ldc_w 762, 3) := by decide +kernel
theorem dX12_routineOf_83 : decode cX12_routineOf 83 = .ok (.iload_n 3, 1) := by decide +kernel
theorem dX12_routineOf_84 : decode cX12_routineOf 84 = .ok (.iadd, 1) := by decide +kernel
theorem dX12_routineOf_85 : decode cX12_routineOf 85 = .ok (.invokevirtual 759, 3) := by decide +kernel
theorem dX12_routineOf_88 : decode cX12_routineOf 88 = .ok (.aload_n 0, 1) := by decide +kernel
theorem dX12_routineOf_89 : decode cX12_routineOf 89 = .ok (.aload_n 0, 1) := by decide +kernel
theorem dX12_routineOf_90 : decode cX12_routineOf 90 = .ok (.getfield 234, 3) := by decide +kernel
theorem dX12_routineOf_93 : decode cX12_routineOf 93 = .ok (.invokevirtual 763, 3) := by decide +kernel
theorem dX12_routineOf_96 : decode cX12_routineOf 96 = .ok (.aload_n 0, 1) := by decide +kernel
theorem dX12_routineOf_97 : decode cX12_routineOf 97 = .ok (.aload_n 0, 1) := by decide +kernel
theorem dX12_routineOf_98 : decode cX12_routineOf 98 = .ok (.getfield 237, 3) := by decide +kernel
theorem dX12_routineOf_101 : decode cX12_routineOf 101 = .ok (.invokevirtual 763, 3) := by decide +kernel
theorem dX12_routineOf_104 : decode cX12_routineOf 104 = .ok (.aload_n 0, 1) := by decide +kernel
theorem dX12_routineOf_105 : decode cX12_routineOf 105 = .ok (.aload_n 0, 1) := by decide +kernel
theorem dX12_routineOf_106 : decode cX12_routineOf 106 = .ok (.getfield 240, 3) := by decide +kernel
theorem dX12_routineOf_109 : decode cX12_routineOf 109 = .ok (.invokevirtual 763, 3) := by decide +kernel
theorem dX12_routineOf_112 : decode cX12_routineOf 112 = .ok (.aload_n 0, 1) := by decide +kernel
theorem dX12_routineOf_113 : decode cX12_routineOf 113 = .ok (.aload_n 0, 1) := by decide +kernel
theorem dX12_routineOf_114 : decode cX12_routineOf 114 = .ok (.getfield 243, 3) := by decide +kernel
theorem dX12_routineOf_117 : decode cX12_routineOf 117 = .ok (.ifCond .eq 7, 3) := by decide +kernel
theorem dX12_routineOf_120 : decode cX12_routineOf 120 = .ok (.iconst 1, 1) := by decide +kernel
theorem dX12_routineOf_121 : decode cX12_routineOf 121 = .ok (.goto 4, 3) := by decide +kernel
theorem dX12_routineOf_124 : decode cX12_routineOf 124 = .ok (.iconst 0, 1) := by decide +kernel
theorem dX12_routineOf_125 : decode cX12_routineOf 125 = .ok (.invokevirtual 763, 3) := by decide +kernel
theorem dX12_routineOf_128 : decode cX12_routineOf 128 = .ok (.aload_n 0, 1) := by decide +kernel
theorem dX12_routineOf_129 : decode cX12_routineOf 129 = .ok (.aload_n 0, 1) := by decide +kernel
theorem dX12_routineOf_130 : decode cX12_routineOf 130 = .ok (.getfield 246, 3) := by decide +kernel
theorem dX12_routineOf_133 : decode cX12_routineOf 133 = .ok (.invokevirtual 763, 3) := by decide +kernel
theorem dX12_routineOf_136 : decode cX12_routineOf 136 = .ok (.aload_n 0, 1) := by decide +kernel
theorem dX12_routineOf_137 : decode cX12_routineOf 137 = .ok (.aload_n 0, 1) := by decide +kernel
theorem dX12_routineOf_138 : decode cX12_routineOf 138 = .ok (.getfield 252, 3) := by decide +kernel
theorem dX12_routineOf_141 : decode cX12_routineOf 141 = .ok (.invokevirtual 763, 3) := by decide +kernel
theorem dX12_routineOf_144 : decode cX12_routineOf 144 = .ok (.aload_n 0, 1) := by decide +kernel
theorem dX12_routineOf_145 : decode cX12_routineOf 145 = .ok (.aload_n 0, 1) := by decide +kernel
theorem dX12_routineOf_146 : decode cX12_routineOf 146 = .ok (.getfield 255, 3) := by decide +kernel
theorem dX12_routineOf_149 : decode cX12_routineOf 149 = .ok (.invokevirtual 763, 3) := by decide +kernel
theorem dX12_routineOf_152 : decode cX12_routineOf 152 = .ok (.aload_n 0, 1) := by decide +kernel
theorem dX12_routineOf_153 : decode cX12_routineOf 153 = .ok (.aload_n 0, 1) := by decide +kernel
theorem dX12_routineOf_154 : decode cX12_routineOf 154 = .ok (.getfield 178, 3) := by decide +kernel
theorem dX12_routineOf_157 : decode cX12_routineOf 157 = .ok (.invokevirtual 763, 3) := by decide +kernel
theorem dX12_routineOf_160 : decode cX12_routineOf 160 = .ok (.aload_n 0, 1) := by decide +kernel
theorem dX12_routineOf_161 : decode cX12_routineOf 161 = .ok (.aload_n 0, 1) := by decide +kernel
theorem dX12_routineOf_162 : decode cX12_routineOf 162 = .ok (.getfield 160, 3) := by decide +kernel
theorem dX12_routineOf_165 : decode cX12_routineOf 165 = .ok (.invokevirtual 763, 3) := by decide +kernel
theorem dX12_routineOf_168 : decode cX12_routineOf 168 = .ok (.aload_n 0, 1) := by decide +kernel
theorem dX12_routineOf_169 : decode cX12_routineOf 169 = .ok (.iload_n 3, 1) := by decide +kernel
theorem dX12_routineOf_170 : decode cX12_routineOf 170 = .ok (.putfield 234, 3) := by decide +kernel
theorem dX12_routineOf_173 : decode cX12_routineOf 173 = .ok (.aload_n 0, 1) := by decide +kernel
theorem dX12_routineOf_174 : decode cX12_routineOf 174 = .ok (.iconst 2, 1) := by decide +kernel
theorem dX12_routineOf_175 : decode cX12_routineOf 175 = .ok (.putfield 237, 3) := by decide +kernel
theorem dX12_routineOf_178 : decode cX12_routineOf 178 = .ok (.aload_n 0, 1) := by decide +kernel
theorem dX12_routineOf_179 : decode cX12_routineOf 179 = .ok (.iconst 0, 1) := by decide +kernel
theorem dX12_routineOf_180 : decode cX12_routineOf 180 = .ok (.putfield 246, 3) := by decide +kernel
theorem dX12_routineOf_183 : decode cX12_routineOf 183 = .ok (.aload_n 0, 1) := by decide +kernel
theorem dX12_routineOf_184 : decode cX12_routineOf 184 = .ok (.iconst 0, 1) := by decide +kernel
theorem dX12_routineOf_185 : decode cX12_routineOf 185 = .ok (.putfield 252, 3) := by decide +kernel
theorem dX12_routineOf_188 : decode cX12_routineOf 188 = .ok (.aload_n 0, 1) := by decide +kernel
theorem dX12_routineOf_189 : decode cX12_routineOf 189 = .ok (.iconst 0, 1) := by decide +kernel
theorem dX12_routineOf_190 : decode cX12_routineOf 190 = .ok (.putfield 255, 3) := by decide +kernel
theorem dX12_routineOf_193 : decode cX12_routineOf 193 = .ok (.aload_n 0, 1) := by decide +kernel
theorem dX12_routineOf_194 : decode cX12_routineOf 194 = .ok (.aload_n 0, 1) := by decide +kernel
theorem dX12_routineOf_195 : decode cX12_routineOf 195 = .ok (.getfield 160, 3) := by decide +kernel
theorem dX12_routineOf_198 : decode cX12_routineOf 198 = .ok (.putfield 178, 3) := by decide +kernel
theorem dX12_routineOf_201 : decode cX12_routineOf 201 = .ok (.aload_n 0, 1) := by decide +kernel
theorem dX12_routineOf_202 : decode cX12_routineOf 202 = .ok (.getfield 93, 3) := by decide +kernel
theorem dX12_routineOf_205 : decode cX12_routineOf 205 = .ok (.iload_n 1, 1) := by decide +kernel
theorem dX12_routineOf_206 : decode cX12_routineOf 206 = .ok (.iaload, 1) := by decide +kernel
theorem dX12_routineOf_207 : decode cX12_routineOf 207 = .ok (.istore 4, 2) := by decide +kernel
theorem dX12_routineOf_209 : decode cX12_routineOf 209 = .ok (.aload_n 0, 1) := by decide +kernel
theorem dX12_routineOf_210 : decode cX12_routineOf 210 = .ok (.getfield 228, 3) := by decide +kernel
theorem dX12_routineOf_213 : decode cX12_routineOf 213 = .ok (.iload_n 3, 1) := by decide +kernel
theorem dX12_routineOf_214 : decode cX12_routineOf 214 = .ok (.iconst 0, 1) := by decide +kernel
theorem dX12_routineOf_215 : decode cX12_routineOf 215 = .ok (.iastore, 1) := by decide +kernel
theorem dX12_routineOf_216 : decode cX12_routineOf 216 = .ok (.aload_n 0, 1) := by decide +kernel
theorem dX12_routineOf_217 : decode cX12_routineOf 217 = .ok (.getfield 87, 3) := by decide +kernel
theorem dX12_routineOf_220 : decode cX12_routineOf 220 = .ok (.iload 4, 2) := by decide +kernel
theorem dX12_routineOf_222 : decode cX12_routineOf 222 = .ok (.baload, 1) := by decide +kernel
theorem dX12_routineOf_223 : decode cX12_routineOf 223 = .ok (.bipush 57, 2) := by decide +kernel
theorem dX12_routineOf_225 : decode cX12_routineOf 225 = .ok (.if_icmp .ne 61, 3) := by decide +kernel
theorem dX12_routineOf_228 : decode cX12_routineOf 228 = .ok (.aload_n 0, 1) := by decide +kernel
theorem dX12_routineOf_229 : decode cX12_routineOf 229 = .ok (.aload_n 0, 1) := by decide +kernel
theorem dX12_routineOf_230 : decode cX12_routineOf 230 = .ok (.getfield 99, 3) := by decide +kernel
theorem dX12_routineOf_233 : decode cX12_routineOf 233 = .ok (.iload 4, 2) := by decide +kernel
theorem dX12_routineOf_235 : decode cX12_routineOf 235 = .ok (.iaload, 1) := by decide +kernel
theorem dX12_routineOf_236 : decode cX12_routineOf 236 = .ok (.aload_n 0, 1) := by decide +kernel
theorem dX12_routineOf_237 : decode cX12_routineOf 237 = .ok (.getfield 90, 3) := by decide +kernel
theorem dX12_routineOf_240 : decode cX12_routineOf 240 = .ok (.iload 4, 2) := by decide +kernel
theorem dX12_routineOf_242 : decode cX12_routineOf 242 = .ok (.iaload, 1) := by decide +kernel
theorem dX12_routineOf_243 : decode cX12_routineOf 243 = .ok (.iconst 4, 1) := by decide +kernel
theorem dX12_routineOf_244 : decode cX12_routineOf 244 = .ok (.aload_n 0, 1) := by decide +kernel
theorem dX12_routineOf_245 : decode cX12_routineOf 245 = .ok (.getfield 237, 3) := by decide +kernel
theorem dX12_routineOf_248 : decode cX12_routineOf 248 = .ok (.iload_n 3, 1) := by decide +kernel
theorem dX12_routineOf_249 : decode cX12_routineOf 249 = .ok (.iconst 0, 1) := by decide +kernel
theorem dX12_routineOf_250 : decode cX12_routineOf 250 = .ok (.invokevirtual 752, 3) := by decide +kernel
theorem dX12_routineOf_253 : decode cX12_routineOf 253 = .ok (.pop, 1) := by decide +kernel
theorem dX12_routineOf_254 : decode cX12_routineOf 254 = .ok (.aload_n 0, 1) := by decide +kernel
theorem dX12_routineOf_255 : decode cX12_routineOf 255 = .ok (.dup, 1) := by decide +kernel
theorem dX12_routineOf_256 : decode cX12_routineOf 256 = .ok (.getfield 237, 3) := by decide +kernel
theorem dX12_routineOf_259 : decode cX12_routineOf 259 = .ok (.iconst 1, 1) := by decide +kernel
theorem dX12_routineOf_260 : decode cX12_routineOf 260 = .ok (.iadd, 1) := by decide +kernel
theorem dX12_routineOf_261 : decode cX12_routineOf 261 = .ok (.putfield 237, 3) := by decide +kernel
theorem dX12_routineOf_264 : decode cX12_routineOf 264 = .ok (.aload_n 0, 1) := by decide +kernel
theorem dX12_routineOf_265 : decode cX12_routineOf 265 = .ok (.getfield 228, 3) := by decide +kernel
theorem dX12_routineOf_268 : decode cX12_routineOf 268 = .ok (.iload_n 3, 1) := by decide +kernel
theorem dX12_routineOf_269 : decode cX12_routineOf 269 = .ok (.dup2, 1) := by decide +kernel
theorem dX12_routineOf_270 : decode cX12_routineOf 270 = .ok (.iaload, 1) := by decide +kernel
theorem dX12_routineOf_271 : decode cX12_routineOf 271 = .ok (.iconst 1, 1) := by decide +kernel
theorem dX12_routineOf_272 : decode cX12_routineOf 272 = .ok (.iadd, 1) := by decide +kernel
theorem dX12_routineOf_273 : decode cX12_routineOf 273 = .ok (.iastore, 1) := by decide +kernel
theorem dX12_routineOf_274 : decode cX12_routineOf 274 = .ok (.aload_n 0, 1) := by decide +kernel
theorem dX12_routineOf_275 : decode cX12_routineOf 275 = .ok (.getfield 96, 3) := by decide +kernel
theorem dX12_routineOf_278 : decode cX12_routineOf 278 = .ok (.iload 4, 2) := by decide +kernel
theorem dX12_routineOf_280 : decode cX12_routineOf 280 = .ok (.iaload, 1) := by decide +kernel
theorem dX12_routineOf_281 : decode cX12_routineOf 281 = .ok (.istore 4, 2) := by decide +kernel
theorem dX12_routineOf_283 : decode cX12_routineOf 283 = .ok (.goto (-67), 3) := by decide +kernel
theorem dX12_routineOf_286 : decode cX12_routineOf 286 = .ok (.aload_n 0, 1) := by decide +kernel
theorem dX12_routineOf_287 : decode cX12_routineOf 287 = .ok (.aload_n 0, 1) := by decide +kernel
theorem dX12_routineOf_288 : decode cX12_routineOf 288 = .ok (.getfield 237, 3) := by decide +kernel
theorem dX12_routineOf_291 : decode cX12_routineOf 291 = .ok (.putfield 240, 3) := by decide +kernel
theorem dX12_routineOf_294 : decode cX12_routineOf 294 = .ok (.aload_n 0, 1) := by decide +kernel
theorem dX12_routineOf_295 : decode cX12_routineOf 295 = .ok (.aload_n 0, 1) := by decide +kernel
theorem dX12_routineOf_296 : decode cX12_routineOf 296 = .ok (.getfield 87, 3) := by decide +kernel
theorem dX12_routineOf_299 : decode cX12_routineOf 299 = .ok (.iload 4, 2) := by decide +kernel
theorem dX12_routineOf_301 : decode cX12_routineOf 301 = .ok (.baload, 1) := by decide +kernel
theorem dX12_routineOf_302 : decode cX12_routineOf 302 = .ok (.bipush 20, 2) := by decide +kernel
theorem dX12_routineOf_304 : decode cX12_routineOf 304 = .ok (.if_icmp .ge 7, 3) := by decide +kernel
theorem dX12_routineOf_307 : decode cX12_routineOf 307 = .ok (.iconst 1, 1) := by decide +kernel
theorem dX12_routineOf_308 : decode cX12_routineOf 308 = .ok (.goto 4, 3) := by decide +kernel
theorem dX12_routineOf_311 : decode cX12_routineOf 311 = .ok (.iconst 0, 1) := by decide +kernel
theorem dX12_routineOf_312 : decode cX12_routineOf 312 = .ok (.putfield 243, 3) := by decide +kernel
theorem dX12_routineOf_315 : decode cX12_routineOf 315 = .ok (.aload_n 0, 1) := by decide +kernel
theorem dX12_routineOf_316 : decode cX12_routineOf 316 = .ok (.getfield 231, 3) := by decide +kernel
theorem dX12_routineOf_319 : decode cX12_routineOf 319 = .ok (.iload_n 3, 1) := by decide +kernel
theorem dX12_routineOf_320 : decode cX12_routineOf 320 = .ok (.iload 4, 2) := by decide +kernel
theorem dX12_routineOf_322 : decode cX12_routineOf 322 = .ok (.iastore, 1) := by decide +kernel
theorem dX12_routineOf_323 : decode cX12_routineOf 323 = .ok (.aload_n 0, 1) := by decide +kernel
theorem dX12_routineOf_324 : decode cX12_routineOf 324 = .ok (.bipush 7, 2) := by decide +kernel
theorem dX12_routineOf_326 : decode cX12_routineOf 326 = .ok (.iload_n 1, 1) := by decide +kernel
theorem dX12_routineOf_327 : decode cX12_routineOf 327 = .ok (.iconst 0, 1) := by decide +kernel
theorem dX12_routineOf_328 : decode cX12_routineOf 328 = .ok (.invokevirtual 647, 3) := by decide +kernel
theorem dX12_routineOf_331 : decode cX12_routineOf 331 = .ok (.aload_n 0, 1) := by decide +kernel
theorem dX12_routineOf_332 : decode cX12_routineOf 332 = .ok (.aload_n 0, 1) := by decide +kernel
theorem dX12_routineOf_333 : decode cX12_routineOf 333 = .ok (.getfield 243, 3) := by decide +kernel
theorem dX12_routineOf_336 : decode cX12_routineOf 336 = .ok (.ifCond .eq 7, 3) := by decide +kernel
theorem dX12_routineOf_339 : decode cX12_routineOf 339 = .ok (.iconst 3, 1) := by decide +kernel
theorem dX12_routineOf_340 : decode cX12_routineOf 340 = .ok (.goto 4, 3) := by decide +kernel
theorem dX12_routineOf_343 : decode cX12_routineOf 343 = .ok (.iconst 2, 1) := by decide +kernel
theorem dX12_routineOf_344 : decode cX12_routineOf 344 = .ok (.iload 4, 2) := by decide +kernel
theorem dX12_routineOf_346 : decode cX12_routineOf 346 = .ok (.iconst 0, 1) := by decide +kernel
theorem dX12_routineOf_347 : decode cX12_routineOf 347 = .ok (.invokevirtual 647, 3) := by decide +kernel
theorem dX12_routineOf_350 : decode cX12_routineOf 350 = .ok (.return_, 1) := by decide +kernel
def wr_routineOf_312 (Q : zS → Prop)  (s0 : zS) (x1 : Int) (x3 : Int) (x4 : Int) (y0 : Int) : Prop :=
  (y0 = 0 ∨ y0 = 1) ∧ (0 ≤ x3) ∧ (x3 < 3100) ∧ wr_task (zpa (zpv s0 76 y0) 72 (Int.toNat x3) x4) 7 x1 0 (fun s12 => (((zv s12 76) = 0 → wr_task s12 2 x4 0 (fun s20 => Q s20)) ∧ (¬ (zv s12 76) = 0 → wr_task s12 3 x4 0 (fun s27 => Q s27))))
def wr_routineOf_216B (Q : zS → Prop) (k216 : zS → Int → Int → Int → Prop) (s0 : zS) (x1 : Int) (x3 : Int) (x4 : Int) : Prop :=
  (0 ≤ x4) ∧ (x4 < 26000) ∧ ((¬ (za s0 25 (Int.toNat x4)) = 57 → (0 ≤ x4) ∧ (x4 < 26000) ∧ ((20 ≤ (za s0 25 (Int.toNat x4)) → wr_routineOf_312 Q  (zpv s0 75 (zv s0 74)) x1 x3 x4 0) ∧ (¬ 20 ≤ (za s0 25 (Int.toNat x4)) → wr_routineOf_312 Q  (zpv s0 75 (zv s0 74)) x1 x3 x4 1))) ∧ ((za s0 25 (Int.toNat x4)) = 57 → (0 ≤ x4) ∧ (x4 < 26000) ∧ (0 ≤ x4) ∧ (x4 < 26000) ∧ wr_declare s0 (za s0 29 (Int.toNat x4)) (za s0 26 (Int.toNat x4)) 4 (zv s0 74) x3 0 (fun r25 s26 => (zR ((zv s26 74) + 1)) ∧ (0 ≤ x3) ∧ (x3 < 3100) ∧ (0 ≤ x3) ∧ (x3 < 3100) ∧ (zR ((za s26 71 (Int.toNat x3)) + 1)) ∧ (0 ≤ x4) ∧ (x4 < 26000) ∧ k216 (zpa (zpv s26 74 ((zv s26 74) + 1)) 71 (Int.toNat x3) ((za s26 71 (Int.toNat x3)) + 1)) x1 x3 (za s26 28 (Int.toNat x4)))))
def wr_routineOf_216 (Q : zS → Prop)  : Nat → zS → Int → Int → Int → Prop
  | 0 => fun _ _ _ _ => False
  | m + 1 => fun s0 x1 x3 x4 => wr_routineOf_216B Q  (wr_routineOf_216 Q  m) s0 x1 x3 x4
def wr_routineOf_125 (Q : zS → Prop)  (s0 : zS) (x1 : Int) (x3 : Int) (y0 : Int) : Prop :=
  wr_put s0 y0 (fun s2 => wr_put s2 (zv s2 77) (fun s8 => wr_put s8 (zv s8 79) (fun s14 => wr_put s14 (zv s14 80) (fun s20 => wr_put s20 (zv s20 55) (fun s26 => wr_put s26 (zv s26 49) (fun s32 => (0 ≤ x1) ∧ (x1 < 26000) ∧ (0 ≤ x3) ∧ (x3 < 3100) ∧ ∃ n, wr_routineOf_216 Q  n (zpa (zpv (zpv (zpv (zpv (zpv (zpv s32 73 x3) 74 2) 77 0) 79 0) 80 0) 55 (zv s32 49)) 71 (Int.toNat x3) 0) x1 x3 (za s32 27 (Int.toNat x1))))))))
def wr_routineOf_73 (Q : zS → Prop)  (s0 : zS) (x1 : Int) (x3 : Int) : Prop :=
  (0 ≤ x1) ∧ (x1 < 26000) ∧ (zR (1000000 + x3)) ∧ wr_init_ s0 (za s0 31 (Int.toNat x1)) (1000000 + x3) (fun s8 => wr_put s8 (zv s8 73) (fun s14 => wr_put s14 (zv s14 74) (fun s20 => wr_put s20 (zv s20 75) (fun s26 => (((zv s26 76) = 0 → wr_routineOf_125 Q  s26 x1 x3 0) ∧ (¬ (zv s26 76) = 0 → wr_routineOf_125 Q  s26 x1 x3 1))))))
def wr_routineOf (s0 : zS) (a0 : Int) (a1 : Int) (Q : zS → Prop) : Prop :=
  (zR ((zv s0 69) + 1)) ∧ (0 ≤ a0) ∧ (a0 < 26000) ∧ (0 ≤ a0) ∧ (a0 < 26000) ∧ (((za s0 30 (Int.toNat a0)) ≤ 0 → (0 ≤ a0) ∧ (a0 < 26000) ∧ (zR ((zv s0 81) + 1)) ∧ wr_routineOf_73 Q  (zpv (zpa (zpa (zpv s0 69 ((zv s0 69) + 1)) 29 (Int.toNat a0) (zv s0 69)) 31 (Int.toNat a0) (zv s0 81)) 81 ((zv s0 81) + 1)) a0 (zv s0 69)) ∧ (¬ (za s0 30 (Int.toNat a0)) ≤ 0 → (0 ≤ a0) ∧ (a0 < 26000) ∧ (0 ≤ ((za s0 30 (Int.toNat a0)) - 1)) ∧ (((za s0 30 (Int.toNat a0)) - 1) < 9000) ∧ (0 ≤ a0) ∧ (a0 < 26000) ∧ wr_routineOf_73 Q  (zpa (zpa (zpv s0 69 ((zv s0 69) + 1)) 29 (Int.toNat a0) (zv s0 69)) 31 (Int.toNat a0) (za s0 52 (Int.toNat ((za s0 30 (Int.toNat a0)) - 1)))) a0 (zv s0 69)))
set_option maxHeartbeats 4000000 in
set_option maxRecDepth 100000 in
theorem rj_routineOf_312 {X : gX} {d : gD} {b t : Nat} {T : Nat → Nat} {F0 : gM} (hC : gC RX12 cX12_routineOf 5 none "routineOf" (gR 3 0 0) d b X) {Q : zS → Prop}   {F : gM} {s0 : zS} {x1 : Int} {x3 : Int} {x4 : Int} {y0 : Int} (Rx1 : zR x1) (Rx3 : zR x3) (Rx4 : zR x4) (Ry0 : zR y0) (hZ : zZ d t T F0 F s0) (hw : wr_routineOf_312 Q  s0 x1 x3 x4 y0) : gG X d b (zQv X d b t T F0 Q) F 0 0 312 [some (.ref t), some (.int (zI x1)), none, some (.int (zI x3)), some (.int (zI x4))] [.int (zI y0), .ref t] := by
  unfold wr_routineOf_312 at hw
  obtain ⟨o1, h2⟩ := hw
  refine zr_putZ hC hZ fl_X12_243 zb_76 (by decide) o1 dX12_routineOf_312 (fun F3 hZ4 => ?_)
  refine g_aload_n hC dX12_routineOf_315 rfl ?_
  refine zr_geta hC hZ4 fl_X12_231 zb_72 (by decide) dX12_routineOf_316 ?_
  refine g_iload_n hC dX12_routineOf_319 rfl ?_
  refine g_iload hC dX12_routineOf_320 rfl ?_
  obtain ⟨o5, h6⟩ := h2
  obtain ⟨o7, h8⟩ := h6
  refine zr_iast hC hZ4 zk_72 zb_72 zn_72 (by decide) o5 o7 Rx4 dX12_routineOf_322 (fun F9 hZ10 => ?_)
  refine g_aload_n hC dX12_routineOf_323 rfl ?_
  refine g_bipush (v := zI 7) hC dX12_routineOf_324 rfl ?_
  refine g_iload_n hC dX12_routineOf_326 rfl ?_
  refine g_iconst (v := zI 0) hC dX12_routineOf_327 rfl ?_
  refine zr_callVv (As := [.int (zI 7), .int (zI x1), .int (zI 0)]) hC hZ10 rfl (rm_task X.la d b (by decide) Rx1 (by decide) hZ10.rf h8) cl_X12_647 rfl rfl (Nat.le_of_ble_eq_true rfl) ⟨Nat.le_of_ble_eq_true rfl, Nat.le_of_ble_eq_true rfl⟩ dX12_routineOf_328 (fun s12 F13 hZ15 h16 => ?_)
  refine g_aload_n hC dX12_routineOf_331 rfl ?_
  refine g_aload_n hC dX12_routineOf_332 rfl ?_
  refine zr_get (e := (zv s12 76)) hC hZ15 fl_X12_243 zb_76 (by decide) rfl dX12_routineOf_333 ?_
  refine zr_if_eq (tgt := 343) hC (hZ15.rv 76) dX12_routineOf_336 (by decide) (fun c17 => ?_) (fun c17 => ?_)
  · have h18 := h16.1 c17
    refine g_iconst (v := zI 2) hC dX12_routineOf_343 rfl ?_
    refine g_iload hC dX12_routineOf_344 rfl ?_
    refine g_iconst (v := zI 0) hC dX12_routineOf_346 rfl ?_
    refine zr_callVv (As := [.int (zI 2), .int (zI x4), .int (zI 0)]) hC hZ15 rfl (rm_task X.la d b (by decide) Rx4 (by decide) hZ15.rf h18) cl_X12_647 rfl rfl (Nat.le_of_ble_eq_true rfl) ⟨Nat.le_of_ble_eq_true rfl, Nat.le_of_ble_eq_true rfl⟩ dX12_routineOf_347 (fun s20 F21 hZ23 h24 => ?_)
    exact zr_vret hC hZ23 h24 dX12_routineOf_350
  · have h25 := h16.2 c17
    refine g_iconst (v := zI 3) hC dX12_routineOf_339 rfl ?_
    refine g_goto (tgt := 344) hC dX12_routineOf_340 (by decide) ?_
    refine g_iload hC dX12_routineOf_344 rfl ?_
    refine g_iconst (v := zI 0) hC dX12_routineOf_346 rfl ?_
    refine zr_callVv (As := [.int (zI 3), .int (zI x4), .int (zI 0)]) hC hZ15 rfl (rm_task X.la d b (by decide) Rx4 (by decide) hZ15.rf h25) cl_X12_647 rfl rfl (Nat.le_of_ble_eq_true rfl) ⟨Nat.le_of_ble_eq_true rfl, Nat.le_of_ble_eq_true rfl⟩ dX12_routineOf_347 (fun s27 F28 hZ30 h31 => ?_)
    exact zr_vret hC hZ30 h31 dX12_routineOf_350
set_option maxHeartbeats 4000000 in
set_option maxRecDepth 100000 in
theorem rb_routineOf_216 {X : gX} {d : gD} {b t : Nat} {T : Nat → Nat} {F0 : gM} (hC : gC RX12 cX12_routineOf 5 none "routineOf" (gR 3 0 0) d b X) {Q : zS → Prop} {k216 : zS → Int → Int → Int → Prop} (hk216 : ∀ (F : gM) (s0 : zS) (x1 : Int) (x3 : Int) (x4 : Int), zR x1 → zR x3 → zR x4 → zZ d t T F0 F s0 → k216 s0 x1 x3 x4 → gG X d b (zQv X d b t T F0 Q) F 0 0 216 [some (.ref t), some (.int (zI x1)), none, some (.int (zI x3)), some (.int (zI x4))] []) {F : gM} {s0 : zS} {x1 : Int} {x3 : Int} {x4 : Int} (Rx1 : zR x1) (Rx3 : zR x3) (Rx4 : zR x4) (hZ : zZ d t T F0 F s0) (hw : wr_routineOf_216B Q k216 s0 x1 x3 x4) : gG X d b (zQv X d b t T F0 Q) F 0 0 216 [some (.ref t), some (.int (zI x1)), none, some (.int (zI x3)), some (.int (zI x4))] [] := by
  unfold wr_routineOf_216B at hw
  refine g_aload_n hC dX12_routineOf_216 rfl ?_
  refine zr_geta hC hZ fl_X12_87 zb_25 (by decide) dX12_routineOf_217 ?_
  refine g_iload hC dX12_routineOf_220 rfl ?_
  obtain ⟨o1, h2⟩ := hw
  obtain ⟨o3, h4⟩ := h2
  refine zr_bald (v := (za s0 25 (Int.toNat x4))) hC hZ zk_25 zb_25 zn_25 (by decide) o1 o3 rfl dX12_routineOf_222 ?_
  refine g_bipush (v := zI 57) hC dX12_routineOf_223 rfl ?_
  refine zr_icmp_ne (tgt := 286) hC (hZ.ra 25 _) (by decide) dX12_routineOf_225 (by decide) (fun c5 => ?_) (fun c5 => ?_)
  · have h6 := h4.1 c5
    refine g_aload_n hC dX12_routineOf_286 rfl ?_
    refine g_aload_n hC dX12_routineOf_287 rfl ?_
    refine zr_get (e := (zv s0 74)) hC hZ fl_X12_237 zb_74 (by decide) rfl dX12_routineOf_288 ?_
    refine zr_put hC hZ fl_X12_240 zb_75 (by decide) (hZ.rv 74) dX12_routineOf_291 (fun F7 hZ8 => ?_)
    refine g_aload_n hC dX12_routineOf_294 rfl ?_
    refine g_aload_n hC dX12_routineOf_295 rfl ?_
    refine zr_geta hC hZ8 fl_X12_87 zb_25 (by decide) dX12_routineOf_296 ?_
    refine g_iload hC dX12_routineOf_299 rfl ?_
    obtain ⟨o9, h10⟩ := h6
    obtain ⟨o11, h12⟩ := h10
    refine zr_bald (v := (za s0 25 (Int.toNat x4))) hC hZ8 zk_25 zb_25 zn_25 (by decide) o9 o11 rfl dX12_routineOf_301 ?_
    refine g_bipush (v := zI 20) hC dX12_routineOf_302 rfl ?_
    refine zr_icmp_ge (tgt := 311) hC (hZ.ra 25 _) (by decide) dX12_routineOf_304 (by decide) (fun c13 => ?_) (fun c13 => ?_)
    · have h14 := h12.1 c13
      refine g_iconst (v := zI 0) hC dX12_routineOf_311 rfl ?_
      exact rj_routineOf_312 hC  Rx1 Rx3 Rx4 (by decide) hZ8 h14
    · have h15 := h12.2 c13
      refine g_iconst (v := zI 1) hC dX12_routineOf_307 rfl ?_
      refine g_goto (tgt := 312) hC dX12_routineOf_308 (by decide) ?_
      exact rj_routineOf_312 hC  Rx1 Rx3 Rx4 (by decide) hZ8 h15
  · have h16 := h4.2 c5
    refine g_aload_n hC dX12_routineOf_228 rfl ?_
    refine g_aload_n hC dX12_routineOf_229 rfl ?_
    refine zr_geta hC hZ fl_X12_99 zb_29 (by decide) dX12_routineOf_230 ?_
    refine g_iload hC dX12_routineOf_233 rfl ?_
    obtain ⟨o17, h18⟩ := h16
    obtain ⟨o19, h20⟩ := h18
    refine zr_iald (v := (za s0 29 (Int.toNat x4))) hC hZ zk_29 zb_29 zn_29 (by decide) o17 o19 rfl dX12_routineOf_235 ?_
    refine g_aload_n hC dX12_routineOf_236 rfl ?_
    refine zr_geta hC hZ fl_X12_90 zb_26 (by decide) dX12_routineOf_237 ?_
    refine g_iload hC dX12_routineOf_240 rfl ?_
    obtain ⟨o21, h22⟩ := h20
    obtain ⟨o23, h24⟩ := h22
    refine zr_iald (v := (za s0 26 (Int.toNat x4))) hC hZ zk_26 zb_26 zn_26 (by decide) o21 o23 rfl dX12_routineOf_242 ?_
    refine g_iconst (v := zI 4) hC dX12_routineOf_243 rfl ?_
    refine g_aload_n hC dX12_routineOf_244 rfl ?_
    refine zr_get (e := (zv s0 74)) hC hZ fl_X12_237 zb_74 (by decide) rfl dX12_routineOf_245 ?_
    refine g_iload_n hC dX12_routineOf_248 rfl ?_
    refine g_iconst (v := zI 0) hC dX12_routineOf_249 rfl ?_
    refine zr_callVi (As := [.int (zI (za s0 29 (Int.toNat x4))), .int (zI (za s0 26 (Int.toNat x4))), .int (zI 4), .int (zI (zv s0 74)), .int (zI x3), .int (zI 0)]) hC hZ rfl (rm_declare X.la d b (hZ.ra 29 _) (hZ.ra 26 _) (by decide) (hZ.rv 74) Rx3 (by decide) hZ.rf h24) cl_X12_752 rfl rfl (Nat.le_of_ble_eq_true rfl) ⟨Nat.le_of_ble_eq_true rfl, Nat.le_of_ble_eq_true rfl⟩ dX12_routineOf_250 (fun r25 s26 F27 R28 hZ29 h30 => ?_)
    refine g_pop hC dX12_routineOf_253 rfl ?_
    refine g_aload_n hC dX12_routineOf_254 rfl ?_
    refine g_dup hC dX12_routineOf_255 rfl ?_
    refine zr_get (e := (zv s26 74)) hC hZ29 fl_X12_237 zb_74 (by decide) rfl dX12_routineOf_256 ?_
    refine g_iconst (v := zI 1) hC dX12_routineOf_259 rfl ?_
    refine zr_iadd hC dX12_routineOf_260 ?_
    obtain ⟨o31, h32⟩ := h30
    refine zr_put hC hZ29 fl_X12_237 zb_74 (by decide) o31 dX12_routineOf_261 (fun F33 hZ34 => ?_)
    refine g_aload_n hC dX12_routineOf_264 rfl ?_
    refine zr_geta hC hZ34 fl_X12_228 zb_71 (by decide) dX12_routineOf_265 ?_
    refine g_iload_n hC dX12_routineOf_268 rfl ?_
    refine g_dup2 hC dX12_routineOf_269 rfl rfl ?_
    obtain ⟨o35, h36⟩ := h32
    obtain ⟨o37, h38⟩ := h36
    refine zr_iald (v := (za s26 71 (Int.toNat x3))) hC hZ34 zk_71 zb_71 zn_71 (by decide) o35 o37 rfl dX12_routineOf_270 ?_
    refine g_iconst (v := zI 1) hC dX12_routineOf_271 rfl ?_
    refine zr_iadd hC dX12_routineOf_272 ?_
    obtain ⟨o39, h40⟩ := h38
    obtain ⟨o41, h42⟩ := h40
    obtain ⟨o43, h44⟩ := h42
    refine zr_iast hC hZ34 zk_71 zb_71 zn_71 (by decide) o39 o41 o43 dX12_routineOf_273 (fun F45 hZ46 => ?_)
    refine g_aload_n hC dX12_routineOf_274 rfl ?_
    refine zr_geta hC hZ46 fl_X12_96 zb_28 (by decide) dX12_routineOf_275 ?_
    refine g_iload hC dX12_routineOf_278 rfl ?_
    obtain ⟨o47, h48⟩ := h44
    obtain ⟨o49, h50⟩ := h48
    refine zr_iald (v := (za s26 28 (Int.toNat x4))) hC hZ46 zk_28 zb_28 zn_28 (by decide) o47 o49 rfl dX12_routineOf_280 ?_
    refine g_istore (lv' := [some (.ref t), some (.int (zI x1)), none, some (.int (zI x3)), some (.int (zI (za s26 28 (Int.toNat x4))))]) hC dX12_routineOf_281 (Nat.le_of_ble_eq_true rfl) rfl rfl ?_
    refine g_goto (tgt := 216) hC dX12_routineOf_283 (by decide) ?_
    exact hk216 _ _ _ _ _ Rx1 Rx3 (hZ29.ra 28 _) hZ46 h50
theorem rl_routineOf_216 {X : gX} {d : gD} {b t : Nat} {T : Nat → Nat} {F0 : gM} (hC : gC RX12 cX12_routineOf 5 none "routineOf" (gR 3 0 0) d b X) {Q : zS → Prop}   : ∀ (m : Nat) (F : gM) (s0 : zS) (x1 : Int) (x3 : Int) (x4 : Int), zR x1 → zR x3 → zR x4 → zZ d t T F0 F s0 → wr_routineOf_216 Q  m s0 x1 x3 x4 → gG X d b (zQv X d b t T F0 Q) F 0 0 216 [some (.ref t), some (.int (zI x1)), none, some (.int (zI x3)), some (.int (zI x4))] [] := by
  intro m
  induction m with
  | zero => intro F s0 x1 x3 x4 Rx1 Rx3 Rx4 hZ hw; exact False.elim hw
  | succ m ih => intro F s0 x1 x3 x4 Rx1 Rx3 Rx4 hZ hw; exact rb_routineOf_216 hC  ih Rx1 Rx3 Rx4 hZ hw
set_option maxHeartbeats 4000000 in
set_option maxRecDepth 100000 in
theorem rj_routineOf_125 {X : gX} {d : gD} {b t : Nat} {T : Nat → Nat} {F0 : gM} (hC : gC RX12 cX12_routineOf 5 none "routineOf" (gR 3 0 0) d b X) {Q : zS → Prop}   {F : gM} {s0 : zS} {x1 : Int} {x3 : Int} {y0 : Int} (Rx1 : zR x1) (Rx3 : zR x3) (Ry0 : zR y0) (hZ : zZ d t T F0 F s0) (hw : wr_routineOf_125 Q  s0 x1 x3 y0) : gG X d b (zQv X d b t T F0 Q) F 0 0 125 [some (.ref t), some (.int (zI x1)), none, some (.int (zI x3)), none] [.int (zI y0), .ref t] := by
  unfold wr_routineOf_125 at hw
  refine zr_callVv (As := [.int (zI y0)]) hC hZ rfl (rm_put X.la d b Ry0 hZ.rf hw) cl_X12_763 rfl rfl (Nat.le_of_ble_eq_true rfl) ⟨Nat.le_of_ble_eq_true rfl, Nat.le_of_ble_eq_true rfl⟩ dX12_routineOf_125 (fun s2 F3 hZ5 h6 => ?_)
  refine g_aload_n hC dX12_routineOf_128 rfl ?_
  refine g_aload_n hC dX12_routineOf_129 rfl ?_
  refine zr_get (e := (zv s2 77)) hC hZ5 fl_X12_246 zb_77 (by decide) rfl dX12_routineOf_130 ?_
  refine zr_callVv (As := [.int (zI (zv s2 77))]) hC hZ5 rfl (rm_put X.la d b (hZ5.rv 77) hZ5.rf h6) cl_X12_763 rfl rfl (Nat.le_of_ble_eq_true rfl) ⟨Nat.le_of_ble_eq_true rfl, Nat.le_of_ble_eq_true rfl⟩ dX12_routineOf_133 (fun s8 F9 hZ11 h12 => ?_)
  refine g_aload_n hC dX12_routineOf_136 rfl ?_
  refine g_aload_n hC dX12_routineOf_137 rfl ?_
  refine zr_get (e := (zv s8 79)) hC hZ11 fl_X12_252 zb_79 (by decide) rfl dX12_routineOf_138 ?_
  refine zr_callVv (As := [.int (zI (zv s8 79))]) hC hZ11 rfl (rm_put X.la d b (hZ11.rv 79) hZ11.rf h12) cl_X12_763 rfl rfl (Nat.le_of_ble_eq_true rfl) ⟨Nat.le_of_ble_eq_true rfl, Nat.le_of_ble_eq_true rfl⟩ dX12_routineOf_141 (fun s14 F15 hZ17 h18 => ?_)
  refine g_aload_n hC dX12_routineOf_144 rfl ?_
  refine g_aload_n hC dX12_routineOf_145 rfl ?_
  refine zr_get (e := (zv s14 80)) hC hZ17 fl_X12_255 zb_80 (by decide) rfl dX12_routineOf_146 ?_
  refine zr_callVv (As := [.int (zI (zv s14 80))]) hC hZ17 rfl (rm_put X.la d b (hZ17.rv 80) hZ17.rf h18) cl_X12_763 rfl rfl (Nat.le_of_ble_eq_true rfl) ⟨Nat.le_of_ble_eq_true rfl, Nat.le_of_ble_eq_true rfl⟩ dX12_routineOf_149 (fun s20 F21 hZ23 h24 => ?_)
  refine g_aload_n hC dX12_routineOf_152 rfl ?_
  refine g_aload_n hC dX12_routineOf_153 rfl ?_
  refine zr_get (e := (zv s20 55)) hC hZ23 fl_X12_178 zb_55 (by decide) rfl dX12_routineOf_154 ?_
  refine zr_callVv (As := [.int (zI (zv s20 55))]) hC hZ23 rfl (rm_put X.la d b (hZ23.rv 55) hZ23.rf h24) cl_X12_763 rfl rfl (Nat.le_of_ble_eq_true rfl) ⟨Nat.le_of_ble_eq_true rfl, Nat.le_of_ble_eq_true rfl⟩ dX12_routineOf_157 (fun s26 F27 hZ29 h30 => ?_)
  refine g_aload_n hC dX12_routineOf_160 rfl ?_
  refine g_aload_n hC dX12_routineOf_161 rfl ?_
  refine zr_get (e := (zv s26 49)) hC hZ29 fl_X12_160 zb_49 (by decide) rfl dX12_routineOf_162 ?_
  refine zr_callVv (As := [.int (zI (zv s26 49))]) hC hZ29 rfl (rm_put X.la d b (hZ29.rv 49) hZ29.rf h30) cl_X12_763 rfl rfl (Nat.le_of_ble_eq_true rfl) ⟨Nat.le_of_ble_eq_true rfl, Nat.le_of_ble_eq_true rfl⟩ dX12_routineOf_165 (fun s32 F33 hZ35 h36 => ?_)
  refine g_aload_n hC dX12_routineOf_168 rfl ?_
  refine g_iload_n hC dX12_routineOf_169 rfl ?_
  refine zr_put hC hZ35 fl_X12_234 zb_73 (by decide) Rx3 dX12_routineOf_170 (fun F37 hZ38 => ?_)
  refine g_aload_n hC dX12_routineOf_173 rfl ?_
  refine g_iconst (v := zI 2) hC dX12_routineOf_174 rfl ?_
  refine zr_put hC hZ38 fl_X12_237 zb_74 (by decide) (by decide) dX12_routineOf_175 (fun F39 hZ40 => ?_)
  refine g_aload_n hC dX12_routineOf_178 rfl ?_
  refine g_iconst (v := zI 0) hC dX12_routineOf_179 rfl ?_
  refine zr_put hC hZ40 fl_X12_246 zb_77 (by decide) (by decide) dX12_routineOf_180 (fun F41 hZ42 => ?_)
  refine g_aload_n hC dX12_routineOf_183 rfl ?_
  refine g_iconst (v := zI 0) hC dX12_routineOf_184 rfl ?_
  refine zr_put hC hZ42 fl_X12_252 zb_79 (by decide) (by decide) dX12_routineOf_185 (fun F43 hZ44 => ?_)
  refine g_aload_n hC dX12_routineOf_188 rfl ?_
  refine g_iconst (v := zI 0) hC dX12_routineOf_189 rfl ?_
  refine zr_put hC hZ44 fl_X12_255 zb_80 (by decide) (by decide) dX12_routineOf_190 (fun F45 hZ46 => ?_)
  refine g_aload_n hC dX12_routineOf_193 rfl ?_
  refine g_aload_n hC dX12_routineOf_194 rfl ?_
  refine zr_get (e := (zv s32 49)) hC hZ46 fl_X12_160 zb_49 (by decide) rfl dX12_routineOf_195 ?_
  refine zr_put hC hZ46 fl_X12_178 zb_55 (by decide) (hZ35.rv 49) dX12_routineOf_198 (fun F47 hZ48 => ?_)
  refine g_aload_n hC dX12_routineOf_201 rfl ?_
  refine zr_geta hC hZ48 fl_X12_93 zb_27 (by decide) dX12_routineOf_202 ?_
  refine g_iload_n hC dX12_routineOf_205 rfl ?_
  obtain ⟨o49, h50⟩ := h36
  obtain ⟨o51, h52⟩ := h50
  refine zr_iald (v := (za s32 27 (Int.toNat x1))) hC hZ48 zk_27 zb_27 zn_27 (by decide) o49 o51 rfl dX12_routineOf_206 ?_
  refine g_istore (lv' := [some (.ref t), some (.int (zI x1)), none, some (.int (zI x3)), some (.int (zI (za s32 27 (Int.toNat x1))))]) hC dX12_routineOf_207 (Nat.le_of_ble_eq_true rfl) rfl rfl ?_
  refine g_aload_n hC dX12_routineOf_209 rfl ?_
  refine zr_geta hC hZ48 fl_X12_228 zb_71 (by decide) dX12_routineOf_210 ?_
  refine g_iload_n hC dX12_routineOf_213 rfl ?_
  refine g_iconst (v := zI 0) hC dX12_routineOf_214 rfl ?_
  obtain ⟨o53, h54⟩ := h52
  obtain ⟨o55, h56⟩ := h54
  refine zr_iast hC hZ48 zk_71 zb_71 zn_71 (by decide) o53 o55 (by decide) dX12_routineOf_215 (fun F57 hZ58 => ?_)
  obtain ⟨m59, h60⟩ := h56
  exact rl_routineOf_216 hC  m59 _ _ _ _ _ Rx1 Rx3 (hZ35.ra 27 _) hZ58 h60
set_option maxHeartbeats 4000000 in
set_option maxRecDepth 100000 in
theorem rj_routineOf_73 {X : gX} {d : gD} {b t : Nat} {T : Nat → Nat} {F0 : gM} (hC : gC RX12 cX12_routineOf 5 none "routineOf" (gR 3 0 0) d b X) {Q : zS → Prop}   {F : gM} {s0 : zS} {x1 : Int} {x3 : Int} (Rx1 : zR x1) (Rx3 : zR x3) (hZ : zZ d t T F0 F s0) (hw : wr_routineOf_73 Q  s0 x1 x3) : gG X d b (zQv X d b t T F0 Q) F 0 0 73 [some (.ref t), some (.int (zI x1)), none, some (.int (zI x3)), none] [] := by
  unfold wr_routineOf_73 at hw
  refine g_aload_n hC dX12_routineOf_73 rfl ?_
  refine g_aload_n hC dX12_routineOf_74 rfl ?_
  refine zr_geta hC hZ fl_X12_105 zb_31 (by decide) dX12_routineOf_75 ?_
  refine g_iload_n hC dX12_routineOf_78 rfl ?_
  obtain ⟨o1, h2⟩ := hw
  obtain ⟨o3, h4⟩ := h2
  refine zr_iald (v := (za s0 31 (Int.toNat x1))) hC hZ zk_31 zb_31 zn_31 (by decide) o1 o3 rfl dX12_routineOf_79 ?_
  refine zr_ldcw (e := 1000000) hC dX12_routineOf_80 kw_2699 (by decide) ?_
  refine g_iload_n hC dX12_routineOf_83 rfl ?_
  refine zr_iadd hC dX12_routineOf_84 ?_
  obtain ⟨o5, h6⟩ := h4
  refine zr_callVv (As := [.int (zI (za s0 31 (Int.toNat x1))), .int (zI (1000000 + x3))]) hC hZ rfl (rm_init_ X.la d b (hZ.ra 31 _) o5 hZ.rf h6) cl_X12_759 rfl rfl (Nat.le_of_ble_eq_true rfl) ⟨Nat.le_of_ble_eq_true rfl, Nat.le_of_ble_eq_true rfl⟩ dX12_routineOf_85 (fun s8 F9 hZ11 h12 => ?_)
  refine g_aload_n hC dX12_routineOf_88 rfl ?_
  refine g_aload_n hC dX12_routineOf_89 rfl ?_
  refine zr_get (e := (zv s8 73)) hC hZ11 fl_X12_234 zb_73 (by decide) rfl dX12_routineOf_90 ?_
  refine zr_callVv (As := [.int (zI (zv s8 73))]) hC hZ11 rfl (rm_put X.la d b (hZ11.rv 73) hZ11.rf h12) cl_X12_763 rfl rfl (Nat.le_of_ble_eq_true rfl) ⟨Nat.le_of_ble_eq_true rfl, Nat.le_of_ble_eq_true rfl⟩ dX12_routineOf_93 (fun s14 F15 hZ17 h18 => ?_)
  refine g_aload_n hC dX12_routineOf_96 rfl ?_
  refine g_aload_n hC dX12_routineOf_97 rfl ?_
  refine zr_get (e := (zv s14 74)) hC hZ17 fl_X12_237 zb_74 (by decide) rfl dX12_routineOf_98 ?_
  refine zr_callVv (As := [.int (zI (zv s14 74))]) hC hZ17 rfl (rm_put X.la d b (hZ17.rv 74) hZ17.rf h18) cl_X12_763 rfl rfl (Nat.le_of_ble_eq_true rfl) ⟨Nat.le_of_ble_eq_true rfl, Nat.le_of_ble_eq_true rfl⟩ dX12_routineOf_101 (fun s20 F21 hZ23 h24 => ?_)
  refine g_aload_n hC dX12_routineOf_104 rfl ?_
  refine g_aload_n hC dX12_routineOf_105 rfl ?_
  refine zr_get (e := (zv s20 75)) hC hZ23 fl_X12_240 zb_75 (by decide) rfl dX12_routineOf_106 ?_
  refine zr_callVv (As := [.int (zI (zv s20 75))]) hC hZ23 rfl (rm_put X.la d b (hZ23.rv 75) hZ23.rf h24) cl_X12_763 rfl rfl (Nat.le_of_ble_eq_true rfl) ⟨Nat.le_of_ble_eq_true rfl, Nat.le_of_ble_eq_true rfl⟩ dX12_routineOf_109 (fun s26 F27 hZ29 h30 => ?_)
  refine g_aload_n hC dX12_routineOf_112 rfl ?_
  refine g_aload_n hC dX12_routineOf_113 rfl ?_
  refine zr_get (e := (zv s26 76)) hC hZ29 fl_X12_243 zb_76 (by decide) rfl dX12_routineOf_114 ?_
  refine zr_if_eq (tgt := 124) hC (hZ29.rv 76) dX12_routineOf_117 (by decide) (fun c31 => ?_) (fun c31 => ?_)
  · have h32 := h30.1 c31
    refine g_iconst (v := zI 0) hC dX12_routineOf_124 rfl ?_
    exact rj_routineOf_125 hC  Rx1 Rx3 (by decide) hZ29 h32
  · have h33 := h30.2 c31
    refine g_iconst (v := zI 1) hC dX12_routineOf_120 rfl ?_
    refine g_goto (tgt := 125) hC dX12_routineOf_121 (by decide) ?_
    exact rj_routineOf_125 hC  Rx1 Rx3 (by decide) hZ29 h33
set_option maxHeartbeats 4000000 in
set_option maxRecDepth 100000 in
theorem rm_routineOf (l : Launch) (d : gD) (b : Nat) {t : Nat} {T : Nat → Nat} {F : gM} {s0 : zS} {a0 : Int} {a1 : Int} (Ra0 : zR a0) (Ra1 : zR a1) {Q : zS → Prop} (hZ : zZ d t T F F s0) (hw : wr_routineOf s0 a0 a1 Q) : gMv l d b yX12_routineOf cX12_routineOf 5 3 0 0 F [.ref t, .int (zI a0), .int (zI a1)] (zPv d t T F Q) := by
  refine gM_of2 rfl (nL := 5) (Nat.le_of_ble_eq_true rfl) ?_
  intro X hX hC; subst hX
  show gG X d b (zQv X d b t T F Q) F 0 0 0 [some (.ref t), some (.int (zI a0)), some (.int (zI a1)), none, none] []
  unfold wr_routineOf at hw
  refine g_aload_n hC dX12_routineOf_0 rfl ?_
  refine zr_get (e := (zv s0 69)) hC hZ fl_X12_222 zb_69 (by decide) rfl dX12_routineOf_1 ?_
  refine g_istore_n (lv' := [some (.ref t), some (.int (zI a0)), some (.int (zI a1)), some (.int (zI (zv s0 69))), none]) hC dX12_routineOf_4 (Nat.le_of_ble_eq_true rfl) rfl rfl ?_
  refine g_aload_n hC dX12_routineOf_5 rfl ?_
  refine g_dup hC dX12_routineOf_6 rfl ?_
  refine zr_get (e := (zv s0 69)) hC hZ fl_X12_222 zb_69 (by decide) rfl dX12_routineOf_7 ?_
  refine g_iconst (v := zI 1) hC dX12_routineOf_10 rfl ?_
  refine zr_iadd hC dX12_routineOf_11 ?_
  obtain ⟨o1, h2⟩ := hw
  refine zr_put hC hZ fl_X12_222 zb_69 (by decide) o1 dX12_routineOf_12 (fun F3 hZ4 => ?_)
  refine g_aload_n hC dX12_routineOf_15 rfl ?_
  refine zr_geta hC hZ4 fl_X12_99 zb_29 (by decide) dX12_routineOf_16 ?_
  refine g_iload_n hC dX12_routineOf_19 rfl ?_
  refine g_iload_n hC dX12_routineOf_20 rfl ?_
  obtain ⟨o5, h6⟩ := h2
  obtain ⟨o7, h8⟩ := h6
  refine zr_iast hC hZ4 zk_29 zb_29 zn_29 (by decide) o5 o7 (hZ.rv 69) dX12_routineOf_21 (fun F9 hZ10 => ?_)
  refine g_aload_n hC dX12_routineOf_22 rfl ?_
  refine zr_geta hC hZ10 fl_X12_102 zb_30 (by decide) dX12_routineOf_23 ?_
  refine g_iload_n hC dX12_routineOf_26 rfl ?_
  obtain ⟨o11, h12⟩ := h8
  obtain ⟨o13, h14⟩ := h12
  refine zr_iald (v := (za s0 30 (Int.toNat a0))) hC hZ10 zk_30 zb_30 zn_30 (by decide) o11 o13 rfl dX12_routineOf_27 ?_
  refine zr_if_le (tgt := 53) hC (hZ.ra 30 _) dX12_routineOf_28 (by decide) (fun c15 => ?_) (fun c15 => ?_)
  · have h16 := h14.1 c15
    refine g_aload_n hC dX12_routineOf_53 rfl ?_
    refine zr_geta hC hZ10 fl_X12_105 zb_31 (by decide) dX12_routineOf_54 ?_
    refine g_iload_n hC dX12_routineOf_57 rfl ?_
    refine g_aload_n hC dX12_routineOf_58 rfl ?_
    refine zr_get (e := (zv s0 81)) hC hZ10 fl_X12_258 zb_81 (by decide) rfl dX12_routineOf_59 ?_
    obtain ⟨o17, h18⟩ := h16
    obtain ⟨o19, h20⟩ := h18
    refine zr_iast hC hZ10 zk_31 zb_31 zn_31 (by decide) o17 o19 (hZ.rv 81) dX12_routineOf_62 (fun F21 hZ22 => ?_)
    refine g_aload_n hC dX12_routineOf_63 rfl ?_
    refine g_dup hC dX12_routineOf_64 rfl ?_
    refine zr_get (e := (zv s0 81)) hC hZ22 fl_X12_258 zb_81 (by decide) rfl dX12_routineOf_65 ?_
    refine g_iconst (v := zI 1) hC dX12_routineOf_68 rfl ?_
    refine zr_iadd hC dX12_routineOf_69 ?_
    obtain ⟨o23, h24⟩ := h20
    refine zr_put hC hZ22 fl_X12_258 zb_81 (by decide) o23 dX12_routineOf_70 (fun F25 hZ26 => ?_)
    refine g_lv (lv' := [some (.ref t), some (.int (zI a0)), none, some (.int (zI (zv s0 69))), none]) ⟨rfl, rfl, rfl, trivial⟩ ?_
    exact rj_routineOf_73 hC  Ra0 (hZ.rv 69) hZ26 h24
  · have h27 := h14.2 c15
    refine g_aload_n hC dX12_routineOf_31 rfl ?_
    refine zr_geta hC hZ10 fl_X12_105 zb_31 (by decide) dX12_routineOf_32 ?_
    refine g_iload_n hC dX12_routineOf_35 rfl ?_
    refine g_aload_n hC dX12_routineOf_36 rfl ?_
    refine zr_geta hC hZ10 fl_X12_169 zb_52 (by decide) dX12_routineOf_37 ?_
    refine g_aload_n hC dX12_routineOf_40 rfl ?_
    refine zr_geta hC hZ10 fl_X12_102 zb_30 (by decide) dX12_routineOf_41 ?_
    refine g_iload_n hC dX12_routineOf_44 rfl ?_
    obtain ⟨o28, h29⟩ := h27
    obtain ⟨o30, h31⟩ := h29
    refine zr_iald (v := (za s0 30 (Int.toNat a0))) hC hZ10 zk_30 zb_30 zn_30 (by decide) o28 o30 rfl dX12_routineOf_45 ?_
    refine g_iconst (v := zI 1) hC dX12_routineOf_46 rfl ?_
    refine zr_isub hC dX12_routineOf_47 ?_
    obtain ⟨o32, h33⟩ := h31
    obtain ⟨o34, h35⟩ := h33
    refine zr_iald (v := (za s0 52 (Int.toNat ((za s0 30 (Int.toNat a0)) - 1)))) hC hZ10 zk_52 zb_52 zn_52 (by decide) o32 o34 rfl dX12_routineOf_48 ?_
    obtain ⟨o36, h37⟩ := h35
    obtain ⟨o38, h39⟩ := h37
    refine zr_iast hC hZ10 zk_31 zb_31 zn_31 (by decide) o36 o38 (hZ.ra 52 _) dX12_routineOf_49 (fun F40 hZ41 => ?_)
    refine g_goto (tgt := 73) hC dX12_routineOf_50 (by decide) ?_
    refine g_lv (lv' := [some (.ref t), some (.int (zI a0)), none, some (.int (zI (zv s0 69))), none]) ⟨rfl, rfl, rfl, trivial⟩ ?_
    exact rj_routineOf_73 hC  Ra0 (hZ.rv 69) hZ41 h39
theorem dX12_routineEnds_0 : decode cX12_routineEnds 0 = .ok (.aload_n 0, 1) := by decide +kernel
theorem dX12_routineEnds_1 : decode cX12_routineEnds 1 = .ok (.getfield 225, 3) := by decide +kernel
theorem dX12_routineEnds_4 : decode cX12_routineEnds 4 = .ok (.aload_n 0, 1) := by decide +kernel
theorem dX12_routineEnds_5 : decode cX12_routineEnds 5 = .ok (.getfield 99, 3) := by decide +kernel
theorem dX12_routineEnds_8 : decode cX12_routineEnds 8 = .ok (.iload_n 1, 1) := by decide +kernel
theorem dX12_routineEnds_9 : decode cX12_routineEnds 9 = .ok (.iaload, 1) := by decide +kernel
theorem dX12_routineEnds_10 : decode cX12_routineEnds 10 = .ok (.aload_n 0, 1) := by decide +kernel
theorem dX12_routineEnds_11 : decode cX12_routineEnds 11 = .ok (.getfield 240, 3) := by decide +kernel
theorem dX12_routineEnds_14 : decode cX12_routineEnds 14 = .ok (.iastore, 1) := by decide +kernel
theorem dX12_routineEnds_15 : decode cX12_routineEnds 15 = .ok (.aload_n 0, 1) := by decide +kernel
theorem dX12_routineEnds_16 : decode cX12_routineEnds 16 = .ok (.aload_n 0, 1) := by decide +kernel
theorem dX12_routineEnds_17 : decode cX12_routineEnds 17 = .ok (.invokevirtual 743, 3) := by decide +kernel
theorem dX12_routineEnds_20 : decode cX12_routineEnds 20 = .ok (.putfield 160, 3) := by decide +kernel
theorem dX12_routineEnds_23 : decode cX12_routineEnds 23 = .ok (.aload_n 0, 1) := by decide +kernel
theorem dX12_routineEnds_24 : decode cX12_routineEnds 24 = .ok (.aload_n 0, 1) := by decide +kernel
theorem dX12_routineEnds_25 : decode cX12_routineEnds 25 = .ok (.invokevirtual 743, 3) := by decide +kernel
theorem dX12_routineEnds_28 : decode cX12_routineEnds 28 = .ok (.putfield 178, 3) := by decide +kernel
theorem dX12_routineEnds_31 : decode cX12_routineEnds 31 = .ok (.aload_n 0, 1) := by decide +kernel
theorem dX12_routineEnds_32 : decode cX12_routineEnds 32 = .ok (.aload_n 0, 1) := by decide +kernel
theorem dX12_routineEnds_33 : decode cX12_routineEnds 33 = .ok (.invokevirtual 743, 3) := by decide +kernel
theorem dX12_routineEnds_36 : decode cX12_routineEnds 36 = .ok (.putfield 255, 3) := by decide +kernel
theorem dX12_routineEnds_39 : decode cX12_routineEnds 39 = .ok (.aload_n 0, 1) := by decide +kernel
theorem dX12_routineEnds_40 : decode cX12_routineEnds 40 = .ok (.aload_n 0, 1) := by decide +kernel
theorem dX12_routineEnds_41 : decode cX12_routineEnds 41 = .ok (.invokevirtual 743, 3) := by decide +kernel
theorem dX12_routineEnds_44 : decode cX12_routineEnds 44 = .ok (.putfield 252, 3) := by decide +kernel
theorem dX12_routineEnds_47 : decode cX12_routineEnds 47 = .ok (.aload_n 0, 1) := by decide +kernel
theorem dX12_routineEnds_48 : decode cX12_routineEnds 48 = .ok (.aload_n 0, 1) := by decide +kernel
theorem dX12_routineEnds_49 : decode cX12_routineEnds 49 = .ok (.invokevirtual 743, 3) := by decide +kernel
theorem dX12_routineEnds_52 : decode cX12_routineEnds 52 = .ok (.putfield 246, 3) := by decide +kernel
theorem dX12_routineEnds_55 : decode cX12_routineEnds 55 = .ok (.aload_n 0, 1) := by decide +kernel
theorem dX12_routineEnds_56 : decode cX12_routineEnds 56 = .ok (.aload_n 0, 1) := by decide +kernel
theorem dX12_routineEnds_57 : decode cX12_routineEnds 57 = .ok (.invokevirtual 743, 3) := by decide +kernel
theorem dX12_routineEnds_60 : decode cX12_routineEnds 60 = .ok (.iconst 1, 1) := by decide +kernel
theorem dX12_routineEnds_61 : decode cX12_routineEnds 61 = .ok (.if_icmp .ne 7, 3) := by decide +kernel
theorem dX12_routineEnds_64 : decode cX12_routineEnds 64 = .ok (.iconst 1, 1) := by decide +kernel
theorem dX12_routineEnds_65 : decode cX12_routineEnds 65 = .ok (.goto 4, 3) := by decide +kernel
theorem dX12_routineEnds_68 : decode cX12_routineEnds 68 = .ok (.iconst 0, 1) := by decide +kernel
theorem dX12_routineEnds_69 : decode cX12_routineEnds 69 = .ok (.putfield 243, 3) := by decide +kernel
theorem dX12_routineEnds_72 : decode cX12_routineEnds 72 = .ok (.aload_n 0, 1) := by decide +kernel
theorem dX12_routineEnds_73 : decode cX12_routineEnds 73 = .ok (.aload_n 0, 1) := by decide +kernel
theorem dX12_routineEnds_74 : decode cX12_routineEnds 74 = .ok (.invokevirtual 743, 3) := by decide +kernel
theorem dX12_routineEnds_77 : decode cX12_routineEnds 77 = .ok (.putfield 240, 3) := by decide +kernel
theorem dX12_routineEnds_80 : decode cX12_routineEnds 80 = .ok (.aload_n 0, 1) := by decide +kernel
theorem dX12_routineEnds_81 : decode cX12_routineEnds 81 = .ok (.aload_n 0, 1) := by decide +kernel
theorem dX12_routineEnds_82 : decode cX12_routineEnds 82 = .ok (.invokevirtual 743, 3) := by decide +kernel
theorem dX12_routineEnds_85 : decode cX12_routineEnds 85 = .ok (.putfield 237, 3) := by decide +kernel
theorem dX12_routineEnds_88 : decode cX12_routineEnds 88 = .ok (.aload_n 0, 1) := by decide +kernel
theorem dX12_routineEnds_89 : decode cX12_routineEnds 89 = .ok (.aload_n 0, 1) := by decide +kernel
theorem dX12_routineEnds_90 : decode cX12_routineEnds 90 = .ok (.invokevirtual 743, 3) := by decide +kernel
theorem dX12_routineEnds_93 : decode cX12_routineEnds 93 = .ok (.putfield 234, 3) := by decide +kernel
theorem dX12_routineEnds_96 : decode cX12_routineEnds 96 = .ok (.return_, 1) := by decide +kernel
def wr_routineEnds (s0 : zS) (a0 : Int) (Q : zS → Prop) : Prop :=
  (0 ≤ a0) ∧ (a0 < 26000) ∧ (0 ≤ (za s0 29 (Int.toNat a0))) ∧ ((za s0 29 (Int.toNat a0)) < 3100) ∧ wr_pull (zpa s0 70 (Int.toNat (za s0 29 (Int.toNat a0))) (zv s0 75))  (fun r11 s12 => wr_pull (zpv s12 49 r11)  (fun r19 s20 => wr_pull (zpv s20 55 r19)  (fun r27 s28 => wr_pull (zpv s28 80 r27)  (fun r35 s36 => wr_pull (zpv s36 79 r35)  (fun r43 s44 => wr_pull (zpv s44 77 r43)  (fun r51 s52 => ((¬ r51 = 1 → wr_pull (zpv s52 76 0)  (fun r61 s62 => wr_pull (zpv s62 75 r61)  (fun r69 s70 => wr_pull (zpv s70 74 r69)  (fun r77 s78 => Q (zpv s78 73 r77))))) ∧ (r51 = 1 → wr_pull (zpv s52 76 1)  (fun r88 s89 => wr_pull (zpv s89 75 r88)  (fun r96 s97 => wr_pull (zpv s97 74 r96)  (fun r104 s105 => Q (zpv s105 73 r104))))))))))))
set_option maxHeartbeats 4000000 in
set_option maxRecDepth 100000 in
theorem rm_routineEnds (l : Launch) (d : gD) (b : Nat) {t : Nat} {T : Nat → Nat} {F : gM} {s0 : zS} {a0 : Int} (Ra0 : zR a0) {Q : zS → Prop} (hZ : zZ d t T F F s0) (hw : wr_routineEnds s0 a0 Q) : gMv l d b yX12_routineEnds cX12_routineEnds 2 1 0 0 F [.ref t, .int (zI a0)] (zPv d t T F Q) := by
  refine gM_of2 rfl (nL := 2) (Nat.le_of_ble_eq_true rfl) ?_
  intro X hX hC; subst hX
  show gG X d b (zQv X d b t T F Q) F 0 0 0 [some (.ref t), some (.int (zI a0))] []
  unfold wr_routineEnds at hw
  refine g_aload_n hC dX12_routineEnds_0 rfl ?_
  refine zr_geta hC hZ fl_X12_225 zb_70 (by decide) dX12_routineEnds_1 ?_
  refine g_aload_n hC dX12_routineEnds_4 rfl ?_
  refine zr_geta hC hZ fl_X12_99 zb_29 (by decide) dX12_routineEnds_5 ?_
  refine g_iload_n hC dX12_routineEnds_8 rfl ?_
  obtain ⟨o1, h2⟩ := hw
  obtain ⟨o3, h4⟩ := h2
  refine zr_iald (v := (za s0 29 (Int.toNat a0))) hC hZ zk_29 zb_29 zn_29 (by decide) o1 o3 rfl dX12_routineEnds_9 ?_
  refine g_aload_n hC dX12_routineEnds_10 rfl ?_
  refine zr_get (e := (zv s0 75)) hC hZ fl_X12_240 zb_75 (by decide) rfl dX12_routineEnds_11 ?_
  obtain ⟨o5, h6⟩ := h4
  obtain ⟨o7, h8⟩ := h6
  refine zr_iast hC hZ zk_70 zb_70 zn_70 (by decide) o5 o7 (hZ.rv 75) dX12_routineEnds_14 (fun F9 hZ10 => ?_)
  refine g_aload_n hC dX12_routineEnds_15 rfl ?_
  refine g_aload_n hC dX12_routineEnds_16 rfl ?_
  refine zr_callVi (As := []) hC hZ10 rfl (rm_pull X.la d b  hZ10.rf h8) cl_X12_743 rfl rfl (Nat.le_of_ble_eq_true rfl) ⟨Nat.le_of_ble_eq_true rfl, Nat.le_of_ble_eq_true rfl⟩ dX12_routineEnds_17 (fun r11 s12 F13 R14 hZ15 h16 => ?_)
  refine zr_put hC hZ15 fl_X12_160 zb_49 (by decide) R14 dX12_routineEnds_20 (fun F17 hZ18 => ?_)
  refine g_aload_n hC dX12_routineEnds_23 rfl ?_
  refine g_aload_n hC dX12_routineEnds_24 rfl ?_
  refine zr_callVi (As := []) hC hZ18 rfl (rm_pull X.la d b  hZ18.rf h16) cl_X12_743 rfl rfl (Nat.le_of_ble_eq_true rfl) ⟨Nat.le_of_ble_eq_true rfl, Nat.le_of_ble_eq_true rfl⟩ dX12_routineEnds_25 (fun r19 s20 F21 R22 hZ23 h24 => ?_)
  refine zr_put hC hZ23 fl_X12_178 zb_55 (by decide) R22 dX12_routineEnds_28 (fun F25 hZ26 => ?_)
  refine g_aload_n hC dX12_routineEnds_31 rfl ?_
  refine g_aload_n hC dX12_routineEnds_32 rfl ?_
  refine zr_callVi (As := []) hC hZ26 rfl (rm_pull X.la d b  hZ26.rf h24) cl_X12_743 rfl rfl (Nat.le_of_ble_eq_true rfl) ⟨Nat.le_of_ble_eq_true rfl, Nat.le_of_ble_eq_true rfl⟩ dX12_routineEnds_33 (fun r27 s28 F29 R30 hZ31 h32 => ?_)
  refine zr_put hC hZ31 fl_X12_255 zb_80 (by decide) R30 dX12_routineEnds_36 (fun F33 hZ34 => ?_)
  refine g_aload_n hC dX12_routineEnds_39 rfl ?_
  refine g_aload_n hC dX12_routineEnds_40 rfl ?_
  refine zr_callVi (As := []) hC hZ34 rfl (rm_pull X.la d b  hZ34.rf h32) cl_X12_743 rfl rfl (Nat.le_of_ble_eq_true rfl) ⟨Nat.le_of_ble_eq_true rfl, Nat.le_of_ble_eq_true rfl⟩ dX12_routineEnds_41 (fun r35 s36 F37 R38 hZ39 h40 => ?_)
  refine zr_put hC hZ39 fl_X12_252 zb_79 (by decide) R38 dX12_routineEnds_44 (fun F41 hZ42 => ?_)
  refine g_aload_n hC dX12_routineEnds_47 rfl ?_
  refine g_aload_n hC dX12_routineEnds_48 rfl ?_
  refine zr_callVi (As := []) hC hZ42 rfl (rm_pull X.la d b  hZ42.rf h40) cl_X12_743 rfl rfl (Nat.le_of_ble_eq_true rfl) ⟨Nat.le_of_ble_eq_true rfl, Nat.le_of_ble_eq_true rfl⟩ dX12_routineEnds_49 (fun r43 s44 F45 R46 hZ47 h48 => ?_)
  refine zr_put hC hZ47 fl_X12_246 zb_77 (by decide) R46 dX12_routineEnds_52 (fun F49 hZ50 => ?_)
  refine g_aload_n hC dX12_routineEnds_55 rfl ?_
  refine g_aload_n hC dX12_routineEnds_56 rfl ?_
  refine zr_callVi (As := []) hC hZ50 rfl (rm_pull X.la d b  hZ50.rf h48) cl_X12_743 rfl rfl (Nat.le_of_ble_eq_true rfl) ⟨Nat.le_of_ble_eq_true rfl, Nat.le_of_ble_eq_true rfl⟩ dX12_routineEnds_57 (fun r51 s52 F53 R54 hZ55 h56 => ?_)
  refine g_iconst (v := zI 1) hC dX12_routineEnds_60 rfl ?_
  refine zr_icmp_ne (tgt := 68) hC R54 (by decide) dX12_routineEnds_61 (by decide) (fun c57 => ?_) (fun c57 => ?_)
  · have h58 := h56.1 c57
    refine g_iconst (v := zI 0) hC dX12_routineEnds_68 rfl ?_
    refine zr_putZ hC hZ55 fl_X12_243 zb_76 (by decide) (Or.inl rfl) dX12_routineEnds_69 (fun F59 hZ60 => ?_)
    refine g_aload_n hC dX12_routineEnds_72 rfl ?_
    refine g_aload_n hC dX12_routineEnds_73 rfl ?_
    refine zr_callVi (As := []) hC hZ60 rfl (rm_pull X.la d b  hZ60.rf h58) cl_X12_743 rfl rfl (Nat.le_of_ble_eq_true rfl) ⟨Nat.le_of_ble_eq_true rfl, Nat.le_of_ble_eq_true rfl⟩ dX12_routineEnds_74 (fun r61 s62 F63 R64 hZ65 h66 => ?_)
    refine zr_put hC hZ65 fl_X12_240 zb_75 (by decide) R64 dX12_routineEnds_77 (fun F67 hZ68 => ?_)
    refine g_aload_n hC dX12_routineEnds_80 rfl ?_
    refine g_aload_n hC dX12_routineEnds_81 rfl ?_
    refine zr_callVi (As := []) hC hZ68 rfl (rm_pull X.la d b  hZ68.rf h66) cl_X12_743 rfl rfl (Nat.le_of_ble_eq_true rfl) ⟨Nat.le_of_ble_eq_true rfl, Nat.le_of_ble_eq_true rfl⟩ dX12_routineEnds_82 (fun r69 s70 F71 R72 hZ73 h74 => ?_)
    refine zr_put hC hZ73 fl_X12_237 zb_74 (by decide) R72 dX12_routineEnds_85 (fun F75 hZ76 => ?_)
    refine g_aload_n hC dX12_routineEnds_88 rfl ?_
    refine g_aload_n hC dX12_routineEnds_89 rfl ?_
    refine zr_callVi (As := []) hC hZ76 rfl (rm_pull X.la d b  hZ76.rf h74) cl_X12_743 rfl rfl (Nat.le_of_ble_eq_true rfl) ⟨Nat.le_of_ble_eq_true rfl, Nat.le_of_ble_eq_true rfl⟩ dX12_routineEnds_90 (fun r77 s78 F79 R80 hZ81 h82 => ?_)
    refine zr_put hC hZ81 fl_X12_234 zb_73 (by decide) R80 dX12_routineEnds_93 (fun F83 hZ84 => ?_)
    exact zr_vret hC hZ84 h82 dX12_routineEnds_96
  · have h85 := h56.2 c57
    refine g_iconst (v := zI 1) hC dX12_routineEnds_64 rfl ?_
    refine g_goto (tgt := 69) hC dX12_routineEnds_65 (by decide) ?_
    refine zr_putZ hC hZ55 fl_X12_243 zb_76 (by decide) (Or.inr rfl) dX12_routineEnds_69 (fun F86 hZ87 => ?_)
    refine g_aload_n hC dX12_routineEnds_72 rfl ?_
    refine g_aload_n hC dX12_routineEnds_73 rfl ?_
    refine zr_callVi (As := []) hC hZ87 rfl (rm_pull X.la d b  hZ87.rf h85) cl_X12_743 rfl rfl (Nat.le_of_ble_eq_true rfl) ⟨Nat.le_of_ble_eq_true rfl, Nat.le_of_ble_eq_true rfl⟩ dX12_routineEnds_74 (fun r88 s89 F90 R91 hZ92 h93 => ?_)
    refine zr_put hC hZ92 fl_X12_240 zb_75 (by decide) R91 dX12_routineEnds_77 (fun F94 hZ95 => ?_)
    refine g_aload_n hC dX12_routineEnds_80 rfl ?_
    refine g_aload_n hC dX12_routineEnds_81 rfl ?_
    refine zr_callVi (As := []) hC hZ95 rfl (rm_pull X.la d b  hZ95.rf h93) cl_X12_743 rfl rfl (Nat.le_of_ble_eq_true rfl) ⟨Nat.le_of_ble_eq_true rfl, Nat.le_of_ble_eq_true rfl⟩ dX12_routineEnds_82 (fun r96 s97 F98 R99 hZ100 h101 => ?_)
    refine zr_put hC hZ100 fl_X12_237 zb_74 (by decide) R99 dX12_routineEnds_85 (fun F102 hZ103 => ?_)
    refine g_aload_n hC dX12_routineEnds_88 rfl ?_
    refine g_aload_n hC dX12_routineEnds_89 rfl ?_
    refine zr_callVi (As := []) hC hZ103 rfl (rm_pull X.la d b  hZ103.rf h101) cl_X12_743 rfl rfl (Nat.le_of_ble_eq_true rfl) ⟨Nat.le_of_ble_eq_true rfl, Nat.le_of_ble_eq_true rfl⟩ dX12_routineEnds_90 (fun r104 s105 F106 R107 hZ108 h109 => ?_)
    refine zr_put hC hZ108 fl_X12_234 zb_73 (by decide) R107 dX12_routineEnds_93 (fun F110 hZ111 => ?_)
    exact zr_vret hC hZ111 h109 dX12_routineEnds_96
theorem dX12_uses_0 : decode cX12_uses 0 = .ok (.aload_n 0, 1) := by decide +kernel
theorem dX12_uses_1 : decode cX12_uses 1 = .ok (.aload_n 0, 1) := by decide +kernel
theorem dX12_uses_2 : decode cX12_uses 2 = .ok (.getfield 237, 3) := by decide +kernel
theorem dX12_uses_5 : decode cX12_uses 5 = .ok (.ldc_w 766, 3) := by decide +kernel
theorem dX12_uses_8 : decode cX12_uses 8 = .ok (.if_icmp .le 10, 3) := by decide +kernel
theorem dX12_uses_11 : decode cX12_uses 11 = .ok (.aload_n 0, 1) := by decide +kernel
theorem dX12_uses_12 : decode cX12_uses 12 = .ok (.getfield 237, 3) := by decide +kernel
theorem dX12_uses_15 : decode cX12_uses 15 = .ok (.goto 9, 3) := by decide +kernel
theorem dX12_uses_18 : decode cX12_uses 18 = .ok (.aload_n 0, 1) := by decide +kernel
theorem dX12_uses_19 : decode cX12_uses 19 = .ok (.getfield 237, 3) := by decide +kernel
theorem dX12_uses_22 : decode cX12_uses 22 = .ok (.iload_n 1, 1) := by decide +kernel
theorem dX12_uses_23 : decode cX12_uses 23 = .ok (.iadd, 1) := by decide +kernel
theorem dX12_uses_24 : decode cX12_uses 24 = .ok (.putfield 237, 3) := by decide +kernel
theorem dX12_uses_27 : decode cX12_uses 27 = .ok (.aload_n 0, 1) := by decide +kernel
theorem dX12_uses_28 : decode cX12_uses 28 = .ok (.getfield 237, 3) := by decide +kernel
theorem dX12_uses_31 : decode cX12_uses 31 = .ok (.aload_n 0, 1) := by decide +kernel
theorem dX12_uses_32 : decode cX12_uses 32 = .ok (.getfield 240, 3) := by decide +kernel
theorem dX12_uses_35 : decode cX12_uses 35 = .ok (.if_icmp .le 11, 3) := by decide +kernel
theorem dX12_uses_38 : decode cX12_uses 38 = .ok (.aload_n 0, 1) := by decide +kernel
theorem dX12_uses_39 : decode cX12_uses 39 = .ok (.aload_n 0, 1) := by decide +kernel
theorem dX12_uses_40 : decode cX12_uses 40 = .ok (.getfield 237, 3) := by decide +kernel
theorem dX12_uses_43 : decode cX12_uses 43 = .ok (.putfield 240, 3) := by decide +kernel
theorem dX12_uses_46 : decode cX12_uses 46 = .ok (.return_, 1) := by decide +kernel
def wr_uses (s0 : zS) (a0 : Int) (Q : zS → Prop) : Prop :=
  (((zv s0 74) ≤ 40000 → (zR ((zv s0 74) + a0)) ∧ ((((zv s0 74) + a0) ≤ (zv s0 75) → Q (zpv s0 74 ((zv s0 74) + a0))) ∧ (¬ ((zv s0 74) + a0) ≤ (zv s0 75) → Q (zpv (zpv s0 74 ((zv s0 74) + a0)) 75 ((zv s0 74) + a0))))) ∧ (¬ (zv s0 74) ≤ 40000 → (((zv s0 74) ≤ (zv s0 75) → Q (zpv s0 74 (zv s0 74))) ∧ (¬ (zv s0 74) ≤ (zv s0 75) → Q (zpv (zpv s0 74 (zv s0 74)) 75 (zv s0 74))))))
set_option maxHeartbeats 4000000 in
set_option maxRecDepth 100000 in
theorem rm_uses (l : Launch) (d : gD) (b : Nat) {t : Nat} {T : Nat → Nat} {F : gM} {s0 : zS} {a0 : Int} (Ra0 : zR a0) {Q : zS → Prop} (hZ : zZ d t T F F s0) (hw : wr_uses s0 a0 Q) : gMv l d b yX12_uses cX12_uses 2 0 0 0 F [.ref t, .int (zI a0)] (zPv d t T F Q) := by
  refine gM_of2 rfl (nL := 2) (Nat.le_of_ble_eq_true rfl) ?_
  intro X hX hC; subst hX
  show gG X d b (zQv X d b t T F Q) F 0 0 0 [some (.ref t), some (.int (zI a0))] []
  unfold wr_uses at hw
  refine g_aload_n hC dX12_uses_0 rfl ?_
  refine g_aload_n hC dX12_uses_1 rfl ?_
  refine zr_get (e := (zv s0 74)) hC hZ fl_X12_237 zb_74 (by decide) rfl dX12_uses_2 ?_
  refine zr_ldcw (e := 40000) hC dX12_uses_5 kw_2716 (by decide) ?_
  refine zr_icmp_le (tgt := 18) hC (hZ.rv 74) (by decide) dX12_uses_8 (by decide) (fun c1 => ?_) (fun c1 => ?_)
  · have h2 := hw.1 c1
    refine g_aload_n hC dX12_uses_18 rfl ?_
    refine zr_get (e := (zv s0 74)) hC hZ fl_X12_237 zb_74 (by decide) rfl dX12_uses_19 ?_
    refine g_iload_n hC dX12_uses_22 rfl ?_
    refine zr_iadd hC dX12_uses_23 ?_
    obtain ⟨o3, h4⟩ := h2
    refine zr_put hC hZ fl_X12_237 zb_74 (by decide) o3 dX12_uses_24 (fun F5 hZ6 => ?_)
    refine g_aload_n hC dX12_uses_27 rfl ?_
    refine zr_get (e := ((zv s0 74) + a0)) hC hZ6 fl_X12_237 zb_74 (by decide) rfl dX12_uses_28 ?_
    refine g_aload_n hC dX12_uses_31 rfl ?_
    refine zr_get (e := (zv s0 75)) hC hZ6 fl_X12_240 zb_75 (by decide) rfl dX12_uses_32 ?_
    refine zr_icmp_le (tgt := 46) hC o3 (hZ.rv 75) dX12_uses_35 (by decide) (fun c7 => ?_) (fun c7 => ?_)
    · have h8 := h4.1 c7
      exact zr_vret hC hZ6 h8 dX12_uses_46
    · have h9 := h4.2 c7
      refine g_aload_n hC dX12_uses_38 rfl ?_
      refine g_aload_n hC dX12_uses_39 rfl ?_
      refine zr_get (e := ((zv s0 74) + a0)) hC hZ6 fl_X12_237 zb_74 (by decide) rfl dX12_uses_40 ?_
      refine zr_put hC hZ6 fl_X12_240 zb_75 (by decide) o3 dX12_uses_43 (fun F10 hZ11 => ?_)
      exact zr_vret hC hZ11 h9 dX12_uses_46
  · have h12 := hw.2 c1
    refine g_aload_n hC dX12_uses_11 rfl ?_
    refine zr_get (e := (zv s0 74)) hC hZ fl_X12_237 zb_74 (by decide) rfl dX12_uses_12 ?_
    refine g_goto (tgt := 24) hC dX12_uses_15 (by decide) ?_
    refine zr_put hC hZ fl_X12_237 zb_74 (by decide) (hZ.rv 74) dX12_uses_24 (fun F13 hZ14 => ?_)
    refine g_aload_n hC dX12_uses_27 rfl ?_
    refine zr_get (e := (zv s0 74)) hC hZ14 fl_X12_237 zb_74 (by decide) rfl dX12_uses_28 ?_
    refine g_aload_n hC dX12_uses_31 rfl ?_
    refine zr_get (e := (zv s0 75)) hC hZ14 fl_X12_240 zb_75 (by decide) rfl dX12_uses_32 ?_
    refine zr_icmp_le (tgt := 46) hC (hZ.rv 74) (hZ.rv 75) dX12_uses_35 (by decide) (fun c15 => ?_) (fun c15 => ?_)
    · have h16 := h12.1 c15
      exact zr_vret hC hZ14 h16 dX12_uses_46
    · have h17 := h12.2 c15
      refine g_aload_n hC dX12_uses_38 rfl ?_
      refine g_aload_n hC dX12_uses_39 rfl ?_
      refine zr_get (e := (zv s0 74)) hC hZ14 fl_X12_237 zb_74 (by decide) rfl dX12_uses_40 ?_
      refine zr_put hC hZ14 fl_X12_240 zb_75 (by decide) (hZ.rv 74) dX12_uses_43 (fun F18 hZ19 => ?_)
      exact zr_vret hC hZ19 h17 dX12_uses_46
theorem dX12_varsEnd_0 : decode cX12_varsEnd 0 = .ok (.aload_n 0, 1) := by decide +kernel
theorem dX12_varsEnd_1 : decode cX12_varsEnd 1 = .ok (.getfield 102, 3) := by decide +kernel
theorem dX12_varsEnd_4 : decode cX12_varsEnd 4 = .ok (.iload_n 1, 1) := by decide +kernel
theorem dX12_varsEnd_5 : decode cX12_varsEnd 5 = .ok (.aload_n 0, 1) := by decide +kernel
theorem dX12_varsEnd_6 : decode cX12_varsEnd 6 = .ok (.getfield 237, 3) := by decide +kernel
theorem dX12_varsEnd_9 : decode cX12_varsEnd 9 = .ok (.iastore, 1) := by decide +kernel
theorem dX12_varsEnd_10 : decode cX12_varsEnd 10 = .ok (.aload_n 0, 1) := by decide +kernel
theorem dX12_varsEnd_11 : decode cX12_varsEnd 11 = .ok (.getfield 237, 3) := by decide +kernel
theorem dX12_varsEnd_14 : decode cX12_varsEnd 14 = .ok (.istore_n 2, 1) := by decide +kernel
theorem dX12_varsEnd_15 : decode cX12_varsEnd 15 = .ok (.iconst 0, 1) := by decide +kernel
theorem dX12_varsEnd_16 : decode cX12_varsEnd 16 = .ok (.istore_n 3, 1) := by decide +kernel
theorem dX12_varsEnd_17 : decode cX12_varsEnd 17 = .ok (.aload_n 0, 1) := by decide +kernel
theorem dX12_varsEnd_18 : decode cX12_varsEnd 18 = .ok (.getfield 93, 3) := by decide +kernel
theorem dX12_varsEnd_21 : decode cX12_varsEnd 21 = .ok (.iload_n 1, 1) := by decide +kernel
theorem dX12_varsEnd_22 : decode cX12_varsEnd 22 = .ok (.iaload, 1) := by decide +kernel
theorem dX12_varsEnd_23 : decode cX12_varsEnd 23 = .ok (.istore 4, 2) := by decide +kernel
theorem dX12_varsEnd_25 : decode cX12_varsEnd 25 = .ok (.iload 4, 2) := by decide +kernel
theorem dX12_varsEnd_27 : decode cX12_varsEnd 27 = .ok (.ifCond .lt 70, 3) := by decide +kernel
theorem dX12_varsEnd_30 : decode cX12_varsEnd 30 = .ok (.aload_n 0, 1) := by decide +kernel
theorem dX12_varsEnd_31 : decode cX12_varsEnd 31 = .ok (.getfield 87, 3) := by decide +kernel
theorem dX12_varsEnd_34 : decode cX12_varsEnd 34 = .ok (.iload 4, 2) := by decide +kernel
theorem dX12_varsEnd_36 : decode cX12_varsEnd 36 = .ok (.baload, 1) := by decide +kernel
theorem dX12_varsEnd_37 : decode cX12_varsEnd 37 = .ok (.bipush 58, 2) := by decide +kernel
theorem dX12_varsEnd_39 : decode cX12_varsEnd 39 = .ok (.if_icmp .eq 6, 3) := by decide +kernel
theorem dX12_varsEnd_42 : decode cX12_varsEnd 42 = .ok (.goto 43, 3) := by decide +kernel
theorem dX12_varsEnd_45 : decode cX12_varsEnd 45 = .ok (.aload_n 0, 1) := by decide +kernel
theorem dX12_varsEnd_46 : decode cX12_varsEnd 46 = .ok (.getfield 105, 3) := by decide +kernel
theorem dX12_varsEnd_49 : decode cX12_varsEnd 49 = .ok (.iload 4, 2) := by decide +kernel
theorem dX12_varsEnd_51 : decode cX12_varsEnd 51 = .ok (.iload_n 2, 1) := by decide +kernel
theorem dX12_varsEnd_52 : decode cX12_varsEnd 52 = .ok (.iastore, 1) := by decide +kernel
theorem dX12_varsEnd_53 : decode cX12_varsEnd 53 = .ok (.aload_n 0, 1) := by decide +kernel
theorem dX12_varsEnd_54 : decode cX12_varsEnd 54 = .ok (.aload_n 0, 1) := by decide +kernel
theorem dX12_varsEnd_55 : decode cX12_varsEnd 55 = .ok (.getfield 99, 3) := by decide +kernel
theorem dX12_varsEnd_58 : decode cX12_varsEnd 58 = .ok (.iload 4, 2) := by decide +kernel
theorem dX12_varsEnd_60 : decode cX12_varsEnd 60 = .ok (.iaload, 1) := by decide +kernel
theorem dX12_varsEnd_61 : decode cX12_varsEnd 61 = .ok (.aload_n 0, 1) := by decide +kernel
theorem dX12_varsEnd_62 : decode cX12_varsEnd 62 = .ok (.getfield 90, 3) := by decide +kernel
theorem dX12_varsEnd_65 : decode cX12_varsEnd 65 = .ok (.iload 4, 2) := by decide +kernel
theorem dX12_varsEnd_67 : decode cX12_varsEnd 67 = .ok (.iaload, 1) := by decide +kernel
theorem dX12_varsEnd_68 : decode cX12_varsEnd 68 = .ok (.iconst 4, 1) := by decide +kernel
theorem dX12_varsEnd_69 : decode cX12_varsEnd 69 = .ok (.iload_n 2, 1) := by decide +kernel
theorem dX12_varsEnd_70 : decode cX12_varsEnd 70 = .ok (.aload_n 0, 1) := by decide +kernel
theorem dX12_varsEnd_71 : decode cX12_varsEnd 71 = .ok (.getfield 234, 3) := by decide +kernel
theorem dX12_varsEnd_74 : decode cX12_varsEnd 74 = .ok (.iconst 0, 1) := by decide +kernel
theorem dX12_varsEnd_75 : decode cX12_varsEnd 75 = .ok (.invokevirtual 752, 3) := by decide +kernel
theorem dX12_varsEnd_78 : decode cX12_varsEnd 78 = .ok (.pop, 1) := by decide +kernel
theorem dX12_varsEnd_79 : decode cX12_varsEnd 79 = .ok (.iinc 2 1, 3) := by decide +kernel
theorem dX12_varsEnd_82 : decode cX12_varsEnd 82 = .ok (.iinc 3 1, 3) := by decide +kernel
theorem dX12_varsEnd_85 : decode cX12_varsEnd 85 = .ok (.aload_n 0, 1) := by decide +kernel
theorem dX12_varsEnd_86 : decode cX12_varsEnd 86 = .ok (.getfield 96, 3) := by decide +kernel
theorem dX12_varsEnd_89 : decode cX12_varsEnd 89 = .ok (.iload 4, 2) := by decide +kernel
theorem dX12_varsEnd_91 : decode cX12_varsEnd 91 = .ok (.iaload, 1) := by decide +kernel
theorem dX12_varsEnd_92 : decode cX12_varsEnd 92 = .ok (.istore 4, 2) := by decide +kernel
theorem dX12_varsEnd_94 : decode cX12_varsEnd 94 = .ok (.goto (-69), 3) := by decide +kernel
theorem dX12_varsEnd_97 : decode cX12_varsEnd 97 = .ok (.aload_n 0, 1) := by decide +kernel
theorem dX12_varsEnd_98 : decode cX12_varsEnd 98 = .ok (.iload_n 3, 1) := by decide +kernel
theorem dX12_varsEnd_99 : decode cX12_varsEnd 99 = .ok (.invokevirtual 767, 3) := by decide +kernel
theorem dX12_varsEnd_102 : decode cX12_varsEnd 102 = .ok (.aload_n 0, 1) := by decide +kernel
theorem dX12_varsEnd_103 : decode cX12_varsEnd 103 = .ok (.getfield 93, 3) := by decide +kernel
theorem dX12_varsEnd_106 : decode cX12_varsEnd 106 = .ok (.iload_n 1, 1) := by decide +kernel
theorem dX12_varsEnd_107 : decode cX12_varsEnd 107 = .ok (.iaload, 1) := by decide +kernel
theorem dX12_varsEnd_108 : decode cX12_varsEnd 108 = .ok (.istore 4, 2) := by decide +kernel
theorem dX12_varsEnd_110 : decode cX12_varsEnd 110 = .ok (.iload 4, 2) := by decide +kernel
theorem dX12_varsEnd_112 : decode cX12_varsEnd 112 = .ok (.ifCond .lt 54, 3) := by decide +kernel
theorem dX12_varsEnd_115 : decode cX12_varsEnd 115 = .ok (.aload_n 0, 1) := by decide +kernel
theorem dX12_varsEnd_116 : decode cX12_varsEnd 116 = .ok (.getfield 87, 3) := by decide +kernel
theorem dX12_varsEnd_119 : decode cX12_varsEnd 119 = .ok (.iload 4, 2) := by decide +kernel
theorem dX12_varsEnd_121 : decode cX12_varsEnd 121 = .ok (.baload, 1) := by decide +kernel
theorem dX12_varsEnd_122 : decode cX12_varsEnd 122 = .ok (.bipush 59, 2) := by decide +kernel
theorem dX12_varsEnd_124 : decode cX12_varsEnd 124 = .ok (.if_icmp .eq 6, 3) := by decide +kernel
theorem dX12_varsEnd_127 : decode cX12_varsEnd 127 = .ok (.goto 27, 3) := by decide +kernel
theorem dX12_varsEnd_130 : decode cX12_varsEnd 130 = .ok (.aload_n 0, 1) := by decide +kernel
theorem dX12_varsEnd_131 : decode cX12_varsEnd 131 = .ok (.getfield 105, 3) := by decide +kernel
theorem dX12_varsEnd_134 : decode cX12_varsEnd 134 = .ok (.iload 4, 2) := by decide +kernel
theorem dX12_varsEnd_136 : decode cX12_varsEnd 136 = .ok (.aload_n 0, 1) := by decide +kernel
theorem dX12_varsEnd_137 : decode cX12_varsEnd 137 = .ok (.getfield 237, 3) := by decide +kernel
theorem dX12_varsEnd_140 : decode cX12_varsEnd 140 = .ok (.iastore, 1) := by decide +kernel
theorem dX12_varsEnd_141 : decode cX12_varsEnd 141 = .ok (.aload_n 0, 1) := by decide +kernel
theorem dX12_varsEnd_142 : decode cX12_varsEnd 142 = .ok (.aload_n 0, 1) := by decide +kernel
theorem dX12_varsEnd_143 : decode cX12_varsEnd 143 = .ok (.getfield 99, 3) := by decide +kernel
theorem dX12_varsEnd_146 : decode cX12_varsEnd 146 = .ok (.iload 4, 2) := by decide +kernel
theorem dX12_varsEnd_148 : decode cX12_varsEnd 148 = .ok (.iaload, 1) := by decide +kernel
theorem dX12_varsEnd_149 : decode cX12_varsEnd 149 = .ok (.iconst 1, 1) := by decide +kernel
theorem dX12_varsEnd_150 : decode cX12_varsEnd 150 = .ok (.iadd, 1) := by decide +kernel
theorem dX12_varsEnd_151 : decode cX12_varsEnd 151 = .ok (.invokevirtual 767, 3) := by decide +kernel
theorem dX12_varsEnd_154 : decode cX12_varsEnd 154 = .ok (.aload_n 0, 1) := by decide +kernel
theorem dX12_varsEnd_155 : decode cX12_varsEnd 155 = .ok (.getfield 96, 3) := by decide +kernel
theorem dX12_varsEnd_158 : decode cX12_varsEnd 158 = .ok (.iload 4, 2) := by decide +kernel
theorem dX12_varsEnd_160 : decode cX12_varsEnd 160 = .ok (.iaload, 1) := by decide +kernel
theorem dX12_varsEnd_161 : decode cX12_varsEnd 161 = .ok (.istore 4, 2) := by decide +kernel
theorem dX12_varsEnd_163 : decode cX12_varsEnd 163 = .ok (.goto (-53), 3) := by decide +kernel
theorem dX12_varsEnd_166 : decode cX12_varsEnd 166 = .ok (.return_, 1) := by decide +kernel
def wr_varsEnd_110B (Q : zS → Prop) (k110 : zS → Int → Prop) (s0 : zS) (x4 : Int) : Prop :=
  ((x4 < 0 → Q s0) ∧ (¬ x4 < 0 → (0 ≤ x4) ∧ (x4 < 26000) ∧ (((za s0 25 (Int.toNat x4)) = 59 → (0 ≤ x4) ∧ (x4 < 26000) ∧ (0 ≤ x4) ∧ (x4 < 26000) ∧ (zR ((za s0 29 (Int.toNat x4)) + 1)) ∧ wr_uses (zpa s0 31 (Int.toNat x4) (zv s0 74)) ((za s0 29 (Int.toNat x4)) + 1) (fun s23 => (0 ≤ x4) ∧ (x4 < 26000) ∧ k110 s23 (za s23 28 (Int.toNat x4)))) ∧ (¬ (za s0 25 (Int.toNat x4)) = 59 → (0 ≤ x4) ∧ (x4 < 26000) ∧ k110 s0 (za s0 28 (Int.toNat x4))))))
def wr_varsEnd_110 (Q : zS → Prop)  : Nat → zS → Int → Prop
  | 0 => fun _ _ => False
  | m + 1 => fun s0 x4 => wr_varsEnd_110B Q  (wr_varsEnd_110 Q  m) s0 x4
def wr_varsEnd_25B (Q : zS → Prop) (k25 : zS → Int → Int → Int → Int → Prop) (s0 : zS) (x1 : Int) (x2 : Int) (x3 : Int) (x4 : Int) : Prop :=
  ((x4 < 0 → wr_uses s0 x3 (fun s4 => (0 ≤ x1) ∧ (x1 < 26000) ∧ ∃ n, wr_varsEnd_110 Q  n s4 (za s4 27 (Int.toNat x1)))) ∧ (¬ x4 < 0 → (0 ≤ x4) ∧ (x4 < 26000) ∧ (((za s0 25 (Int.toNat x4)) = 58 → (0 ≤ x4) ∧ (x4 < 26000) ∧ (0 ≤ x4) ∧ (x4 < 26000) ∧ (0 ≤ x4) ∧ (x4 < 26000) ∧ wr_declare (zpa s0 31 (Int.toNat x4) x2) (za s0 29 (Int.toNat x4)) (za s0 26 (Int.toNat x4)) 4 x2 (zv s0 73) 0 (fun r36 s37 => (0 ≤ x4) ∧ (x4 < 26000) ∧ (zR (x2 + 1)) ∧ (zR (x3 + 1)) ∧ k25 s37 x1 (x2 + 1) (x3 + 1) (za s37 28 (Int.toNat x4)))) ∧ (¬ (za s0 25 (Int.toNat x4)) = 58 → (0 ≤ x4) ∧ (x4 < 26000) ∧ k25 s0 x1 x2 x3 (za s0 28 (Int.toNat x4))))))
def wr_varsEnd_25 (Q : zS → Prop)  : Nat → zS → Int → Int → Int → Int → Prop
  | 0 => fun _ _ _ _ _ => False
  | m + 1 => fun s0 x1 x2 x3 x4 => wr_varsEnd_25B Q  (wr_varsEnd_25 Q  m) s0 x1 x2 x3 x4
def wr_varsEnd (s0 : zS) (a0 : Int) (Q : zS → Prop) : Prop :=
  (0 ≤ a0) ∧ (a0 < 26000) ∧ (0 ≤ a0) ∧ (a0 < 26000) ∧ ∃ n, wr_varsEnd_25 Q  n (zpa s0 30 (Int.toNat a0) (zv s0 74)) a0 (zv s0 74) 0 (za s0 27 (Int.toNat a0))
set_option maxHeartbeats 4000000 in
set_option maxRecDepth 100000 in
theorem rb_varsEnd_110 {X : gX} {d : gD} {b t : Nat} {T : Nat → Nat} {F0 : gM} (hC : gC RX12 cX12_varsEnd 5 none "varsEnd" (gR 3 0 0) d b X) {Q : zS → Prop} {k110 : zS → Int → Prop} (hk110 : ∀ (F : gM) (s0 : zS) (x4 : Int), zR x4 → zZ d t T F0 F s0 → k110 s0 x4 → gG X d b (zQv X d b t T F0 Q) F 0 0 110 [some (.ref t), none, none, none, some (.int (zI x4))] []) {F : gM} {s0 : zS} {x4 : Int} (Rx4 : zR x4) (hZ : zZ d t T F0 F s0) (hw : wr_varsEnd_110B Q k110 s0 x4) : gG X d b (zQv X d b t T F0 Q) F 0 0 110 [some (.ref t), none, none, none, some (.int (zI x4))] [] := by
  unfold wr_varsEnd_110B at hw
  refine g_iload hC dX12_varsEnd_110 rfl ?_
  refine zr_if_lt (tgt := 166) hC Rx4 dX12_varsEnd_112 (by decide) (fun c1 => ?_) (fun c1 => ?_)
  · have h2 := hw.1 c1
    exact zr_vret hC hZ h2 dX12_varsEnd_166
  · have h3 := hw.2 c1
    refine g_aload_n hC dX12_varsEnd_115 rfl ?_
    refine zr_geta hC hZ fl_X12_87 zb_25 (by decide) dX12_varsEnd_116 ?_
    refine g_iload hC dX12_varsEnd_119 rfl ?_
    obtain ⟨o4, h5⟩ := h3
    obtain ⟨o6, h7⟩ := h5
    refine zr_bald (v := (za s0 25 (Int.toNat x4))) hC hZ zk_25 zb_25 zn_25 (by decide) o4 o6 rfl dX12_varsEnd_121 ?_
    refine g_bipush (v := zI 59) hC dX12_varsEnd_122 rfl ?_
    refine zr_icmp_eq (tgt := 130) hC (hZ.ra 25 _) (by decide) dX12_varsEnd_124 (by decide) (fun c8 => ?_) (fun c8 => ?_)
    · have h9 := h7.1 c8
      refine g_aload_n hC dX12_varsEnd_130 rfl ?_
      refine zr_geta hC hZ fl_X12_105 zb_31 (by decide) dX12_varsEnd_131 ?_
      refine g_iload hC dX12_varsEnd_134 rfl ?_
      refine g_aload_n hC dX12_varsEnd_136 rfl ?_
      refine zr_get (e := (zv s0 74)) hC hZ fl_X12_237 zb_74 (by decide) rfl dX12_varsEnd_137 ?_
      obtain ⟨o10, h11⟩ := h9
      obtain ⟨o12, h13⟩ := h11
      refine zr_iast hC hZ zk_31 zb_31 zn_31 (by decide) o10 o12 (hZ.rv 74) dX12_varsEnd_140 (fun F14 hZ15 => ?_)
      refine g_aload_n hC dX12_varsEnd_141 rfl ?_
      refine g_aload_n hC dX12_varsEnd_142 rfl ?_
      refine zr_geta hC hZ15 fl_X12_99 zb_29 (by decide) dX12_varsEnd_143 ?_
      refine g_iload hC dX12_varsEnd_146 rfl ?_
      obtain ⟨o16, h17⟩ := h13
      obtain ⟨o18, h19⟩ := h17
      refine zr_iald (v := (za s0 29 (Int.toNat x4))) hC hZ15 zk_29 zb_29 zn_29 (by decide) o16 o18 rfl dX12_varsEnd_148 ?_
      refine g_iconst (v := zI 1) hC dX12_varsEnd_149 rfl ?_
      refine zr_iadd hC dX12_varsEnd_150 ?_
      obtain ⟨o20, h21⟩ := h19
      refine zr_callVv (As := [.int (zI ((za s0 29 (Int.toNat x4)) + 1))]) hC hZ15 rfl (rm_uses X.la d b o20 hZ15.rf h21) cl_X12_767 rfl rfl (Nat.le_of_ble_eq_true rfl) ⟨Nat.le_of_ble_eq_true rfl, Nat.le_of_ble_eq_true rfl⟩ dX12_varsEnd_151 (fun s23 F24 hZ26 h27 => ?_)
      refine g_aload_n hC dX12_varsEnd_154 rfl ?_
      refine zr_geta hC hZ26 fl_X12_96 zb_28 (by decide) dX12_varsEnd_155 ?_
      refine g_iload hC dX12_varsEnd_158 rfl ?_
      obtain ⟨o28, h29⟩ := h27
      obtain ⟨o30, h31⟩ := h29
      refine zr_iald (v := (za s23 28 (Int.toNat x4))) hC hZ26 zk_28 zb_28 zn_28 (by decide) o28 o30 rfl dX12_varsEnd_160 ?_
      refine g_istore (lv' := [some (.ref t), none, none, none, some (.int (zI (za s23 28 (Int.toNat x4))))]) hC dX12_varsEnd_161 (Nat.le_of_ble_eq_true rfl) rfl rfl ?_
      refine g_goto (tgt := 110) hC dX12_varsEnd_163 (by decide) ?_
      exact hk110 _ _ _ (hZ26.ra 28 _) hZ26 h31
    · have h32 := h7.2 c8
      refine g_goto (tgt := 154) hC dX12_varsEnd_127 (by decide) ?_
      refine g_aload_n hC dX12_varsEnd_154 rfl ?_
      refine zr_geta hC hZ fl_X12_96 zb_28 (by decide) dX12_varsEnd_155 ?_
      refine g_iload hC dX12_varsEnd_158 rfl ?_
      obtain ⟨o33, h34⟩ := h32
      obtain ⟨o35, h36⟩ := h34
      refine zr_iald (v := (za s0 28 (Int.toNat x4))) hC hZ zk_28 zb_28 zn_28 (by decide) o33 o35 rfl dX12_varsEnd_160 ?_
      refine g_istore (lv' := [some (.ref t), none, none, none, some (.int (zI (za s0 28 (Int.toNat x4))))]) hC dX12_varsEnd_161 (Nat.le_of_ble_eq_true rfl) rfl rfl ?_
      refine g_goto (tgt := 110) hC dX12_varsEnd_163 (by decide) ?_
      exact hk110 _ _ _ (hZ.ra 28 _) hZ h36
theorem rl_varsEnd_110 {X : gX} {d : gD} {b t : Nat} {T : Nat → Nat} {F0 : gM} (hC : gC RX12 cX12_varsEnd 5 none "varsEnd" (gR 3 0 0) d b X) {Q : zS → Prop}   : ∀ (m : Nat) (F : gM) (s0 : zS) (x4 : Int), zR x4 → zZ d t T F0 F s0 → wr_varsEnd_110 Q  m s0 x4 → gG X d b (zQv X d b t T F0 Q) F 0 0 110 [some (.ref t), none, none, none, some (.int (zI x4))] [] := by
  intro m
  induction m with
  | zero => intro F s0 x4 Rx4 hZ hw; exact False.elim hw
  | succ m ih => intro F s0 x4 Rx4 hZ hw; exact rb_varsEnd_110 hC  ih Rx4 hZ hw
set_option maxHeartbeats 4000000 in
set_option maxRecDepth 100000 in
theorem rb_varsEnd_25 {X : gX} {d : gD} {b t : Nat} {T : Nat → Nat} {F0 : gM} (hC : gC RX12 cX12_varsEnd 5 none "varsEnd" (gR 3 0 0) d b X) {Q : zS → Prop} {k25 : zS → Int → Int → Int → Int → Prop} (hk25 : ∀ (F : gM) (s0 : zS) (x1 : Int) (x2 : Int) (x3 : Int) (x4 : Int), zR x1 → zR x2 → zR x3 → zR x4 → zZ d t T F0 F s0 → k25 s0 x1 x2 x3 x4 → gG X d b (zQv X d b t T F0 Q) F 0 0 25 [some (.ref t), some (.int (zI x1)), some (.int (zI x2)), some (.int (zI x3)), some (.int (zI x4))] []) {F : gM} {s0 : zS} {x1 : Int} {x2 : Int} {x3 : Int} {x4 : Int} (Rx1 : zR x1) (Rx2 : zR x2) (Rx3 : zR x3) (Rx4 : zR x4) (hZ : zZ d t T F0 F s0) (hw : wr_varsEnd_25B Q k25 s0 x1 x2 x3 x4) : gG X d b (zQv X d b t T F0 Q) F 0 0 25 [some (.ref t), some (.int (zI x1)), some (.int (zI x2)), some (.int (zI x3)), some (.int (zI x4))] [] := by
  unfold wr_varsEnd_25B at hw
  refine g_iload hC dX12_varsEnd_25 rfl ?_
  refine zr_if_lt (tgt := 97) hC Rx4 dX12_varsEnd_27 (by decide) (fun c1 => ?_) (fun c1 => ?_)
  · have h2 := hw.1 c1
    refine g_aload_n hC dX12_varsEnd_97 rfl ?_
    refine g_iload_n hC dX12_varsEnd_98 rfl ?_
    refine zr_callVv (As := [.int (zI x3)]) hC hZ rfl (rm_uses X.la d b Rx3 hZ.rf h2) cl_X12_767 rfl rfl (Nat.le_of_ble_eq_true rfl) ⟨Nat.le_of_ble_eq_true rfl, Nat.le_of_ble_eq_true rfl⟩ dX12_varsEnd_99 (fun s4 F5 hZ7 h8 => ?_)
    refine g_aload_n hC dX12_varsEnd_102 rfl ?_
    refine zr_geta hC hZ7 fl_X12_93 zb_27 (by decide) dX12_varsEnd_103 ?_
    refine g_iload_n hC dX12_varsEnd_106 rfl ?_
    obtain ⟨o9, h10⟩ := h8
    obtain ⟨o11, h12⟩ := h10
    refine zr_iald (v := (za s4 27 (Int.toNat x1))) hC hZ7 zk_27 zb_27 zn_27 (by decide) o9 o11 rfl dX12_varsEnd_107 ?_
    refine g_istore (lv' := [some (.ref t), some (.int (zI x1)), some (.int (zI x2)), some (.int (zI x3)), some (.int (zI (za s4 27 (Int.toNat x1))))]) hC dX12_varsEnd_108 (Nat.le_of_ble_eq_true rfl) rfl rfl ?_
    refine g_lv (lv' := [some (.ref t), none, none, none, some (.int (zI (za s4 27 (Int.toNat x1))))]) ⟨rfl, rfl, trivial⟩ ?_
    obtain ⟨m13, h14⟩ := h12
    exact rl_varsEnd_110 hC  m13 _ _ _ (hZ7.ra 27 _) hZ7 h14
  · have h15 := hw.2 c1
    refine g_aload_n hC dX12_varsEnd_30 rfl ?_
    refine zr_geta hC hZ fl_X12_87 zb_25 (by decide) dX12_varsEnd_31 ?_
    refine g_iload hC dX12_varsEnd_34 rfl ?_
    obtain ⟨o16, h17⟩ := h15
    obtain ⟨o18, h19⟩ := h17
    refine zr_bald (v := (za s0 25 (Int.toNat x4))) hC hZ zk_25 zb_25 zn_25 (by decide) o16 o18 rfl dX12_varsEnd_36 ?_
    refine g_bipush (v := zI 58) hC dX12_varsEnd_37 rfl ?_
    refine zr_icmp_eq (tgt := 45) hC (hZ.ra 25 _) (by decide) dX12_varsEnd_39 (by decide) (fun c20 => ?_) (fun c20 => ?_)
    · have h21 := h19.1 c20
      refine g_aload_n hC dX12_varsEnd_45 rfl ?_
      refine zr_geta hC hZ fl_X12_105 zb_31 (by decide) dX12_varsEnd_46 ?_
      refine g_iload hC dX12_varsEnd_49 rfl ?_
      refine g_iload_n hC dX12_varsEnd_51 rfl ?_
      obtain ⟨o22, h23⟩ := h21
      obtain ⟨o24, h25⟩ := h23
      refine zr_iast hC hZ zk_31 zb_31 zn_31 (by decide) o22 o24 Rx2 dX12_varsEnd_52 (fun F26 hZ27 => ?_)
      refine g_aload_n hC dX12_varsEnd_53 rfl ?_
      refine g_aload_n hC dX12_varsEnd_54 rfl ?_
      refine zr_geta hC hZ27 fl_X12_99 zb_29 (by decide) dX12_varsEnd_55 ?_
      refine g_iload hC dX12_varsEnd_58 rfl ?_
      obtain ⟨o28, h29⟩ := h25
      obtain ⟨o30, h31⟩ := h29
      refine zr_iald (v := (za s0 29 (Int.toNat x4))) hC hZ27 zk_29 zb_29 zn_29 (by decide) o28 o30 rfl dX12_varsEnd_60 ?_
      refine g_aload_n hC dX12_varsEnd_61 rfl ?_
      refine zr_geta hC hZ27 fl_X12_90 zb_26 (by decide) dX12_varsEnd_62 ?_
      refine g_iload hC dX12_varsEnd_65 rfl ?_
      obtain ⟨o32, h33⟩ := h31
      obtain ⟨o34, h35⟩ := h33
      refine zr_iald (v := (za s0 26 (Int.toNat x4))) hC hZ27 zk_26 zb_26 zn_26 (by decide) o32 o34 rfl dX12_varsEnd_67 ?_
      refine g_iconst (v := zI 4) hC dX12_varsEnd_68 rfl ?_
      refine g_iload_n hC dX12_varsEnd_69 rfl ?_
      refine g_aload_n hC dX12_varsEnd_70 rfl ?_
      refine zr_get (e := (zv s0 73)) hC hZ27 fl_X12_234 zb_73 (by decide) rfl dX12_varsEnd_71 ?_
      refine g_iconst (v := zI 0) hC dX12_varsEnd_74 rfl ?_
      refine zr_callVi (As := [.int (zI (za s0 29 (Int.toNat x4))), .int (zI (za s0 26 (Int.toNat x4))), .int (zI 4), .int (zI x2), .int (zI (zv s0 73)), .int (zI 0)]) hC hZ27 rfl (rm_declare X.la d b (hZ.ra 29 _) (hZ.ra 26 _) (by decide) Rx2 (hZ.rv 73) (by decide) hZ27.rf h35) cl_X12_752 rfl rfl (Nat.le_of_ble_eq_true rfl) ⟨Nat.le_of_ble_eq_true rfl, Nat.le_of_ble_eq_true rfl⟩ dX12_varsEnd_75 (fun r36 s37 F38 R39 hZ40 h41 => ?_)
      refine g_pop hC dX12_varsEnd_78 rfl ?_
      refine zr_iinc (x := x2) (lv' := [some (.ref t), some (.int (zI x1)), some (.int (zI (x2 + 1))), some (.int (zI x3)), some (.int (zI x4))]) hC dX12_varsEnd_79 rfl rfl rfl ?_
      refine zr_iinc (x := x3) (lv' := [some (.ref t), some (.int (zI x1)), some (.int (zI (x2 + 1))), some (.int (zI (x3 + 1))), some (.int (zI x4))]) hC dX12_varsEnd_82 rfl rfl rfl ?_
      refine g_aload_n hC dX12_varsEnd_85 rfl ?_
      refine zr_geta hC hZ40 fl_X12_96 zb_28 (by decide) dX12_varsEnd_86 ?_
      refine g_iload hC dX12_varsEnd_89 rfl ?_
      obtain ⟨o42, h43⟩ := h41
      obtain ⟨o44, h45⟩ := h43
      refine zr_iald (v := (za s37 28 (Int.toNat x4))) hC hZ40 zk_28 zb_28 zn_28 (by decide) o42 o44 rfl dX12_varsEnd_91 ?_
      refine g_istore (lv' := [some (.ref t), some (.int (zI x1)), some (.int (zI (x2 + 1))), some (.int (zI (x3 + 1))), some (.int (zI (za s37 28 (Int.toNat x4))))]) hC dX12_varsEnd_92 (Nat.le_of_ble_eq_true rfl) rfl rfl ?_
      refine g_goto (tgt := 25) hC dX12_varsEnd_94 (by decide) ?_
      obtain ⟨o46, h47⟩ := h45
      obtain ⟨o48, h49⟩ := h47
      exact hk25 _ _ _ _ _ _ Rx1 o46 o48 (hZ40.ra 28 _) hZ40 h49
    · have h50 := h19.2 c20
      refine g_goto (tgt := 85) hC dX12_varsEnd_42 (by decide) ?_
      refine g_aload_n hC dX12_varsEnd_85 rfl ?_
      refine zr_geta hC hZ fl_X12_96 zb_28 (by decide) dX12_varsEnd_86 ?_
      refine g_iload hC dX12_varsEnd_89 rfl ?_
      obtain ⟨o51, h52⟩ := h50
      obtain ⟨o53, h54⟩ := h52
      refine zr_iald (v := (za s0 28 (Int.toNat x4))) hC hZ zk_28 zb_28 zn_28 (by decide) o51 o53 rfl dX12_varsEnd_91 ?_
      refine g_istore (lv' := [some (.ref t), some (.int (zI x1)), some (.int (zI x2)), some (.int (zI x3)), some (.int (zI (za s0 28 (Int.toNat x4))))]) hC dX12_varsEnd_92 (Nat.le_of_ble_eq_true rfl) rfl rfl ?_
      refine g_goto (tgt := 25) hC dX12_varsEnd_94 (by decide) ?_
      exact hk25 _ _ _ _ _ _ Rx1 Rx2 Rx3 (hZ.ra 28 _) hZ h54
theorem rl_varsEnd_25 {X : gX} {d : gD} {b t : Nat} {T : Nat → Nat} {F0 : gM} (hC : gC RX12 cX12_varsEnd 5 none "varsEnd" (gR 3 0 0) d b X) {Q : zS → Prop}   : ∀ (m : Nat) (F : gM) (s0 : zS) (x1 : Int) (x2 : Int) (x3 : Int) (x4 : Int), zR x1 → zR x2 → zR x3 → zR x4 → zZ d t T F0 F s0 → wr_varsEnd_25 Q  m s0 x1 x2 x3 x4 → gG X d b (zQv X d b t T F0 Q) F 0 0 25 [some (.ref t), some (.int (zI x1)), some (.int (zI x2)), some (.int (zI x3)), some (.int (zI x4))] [] := by
  intro m
  induction m with
  | zero => intro F s0 x1 x2 x3 x4 Rx1 Rx2 Rx3 Rx4 hZ hw; exact False.elim hw
  | succ m ih => intro F s0 x1 x2 x3 x4 Rx1 Rx2 Rx3 Rx4 hZ hw; exact rb_varsEnd_25 hC  ih Rx1 Rx2 Rx3 Rx4 hZ hw
set_option maxHeartbeats 4000000 in
set_option maxRecDepth 100000 in
theorem rm_varsEnd (l : Launch) (d : gD) (b : Nat) {t : Nat} {T : Nat → Nat} {F : gM} {s0 : zS} {a0 : Int} (Ra0 : zR a0) {Q : zS → Prop} (hZ : zZ d t T F F s0) (hw : wr_varsEnd s0 a0 Q) : gMv l d b yX12_varsEnd cX12_varsEnd 5 3 0 0 F [.ref t, .int (zI a0)] (zPv d t T F Q) := by
  refine gM_of2 rfl (nL := 5) (Nat.le_of_ble_eq_true rfl) ?_
  intro X hX hC; subst hX
  show gG X d b (zQv X d b t T F Q) F 0 0 0 [some (.ref t), some (.int (zI a0)), none, none, none] []
  unfold wr_varsEnd at hw
  refine g_aload_n hC dX12_varsEnd_0 rfl ?_
  refine zr_geta hC hZ fl_X12_102 zb_30 (by decide) dX12_varsEnd_1 ?_
  refine g_iload_n hC dX12_varsEnd_4 rfl ?_
  refine g_aload_n hC dX12_varsEnd_5 rfl ?_
  refine zr_get (e := (zv s0 74)) hC hZ fl_X12_237 zb_74 (by decide) rfl dX12_varsEnd_6 ?_
  obtain ⟨o1, h2⟩ := hw
  obtain ⟨o3, h4⟩ := h2
  refine zr_iast hC hZ zk_30 zb_30 zn_30 (by decide) o1 o3 (hZ.rv 74) dX12_varsEnd_9 (fun F5 hZ6 => ?_)
  refine g_aload_n hC dX12_varsEnd_10 rfl ?_
  refine zr_get (e := (zv s0 74)) hC hZ6 fl_X12_237 zb_74 (by decide) rfl dX12_varsEnd_11 ?_
  refine g_istore_n (lv' := [some (.ref t), some (.int (zI a0)), some (.int (zI (zv s0 74))), none, none]) hC dX12_varsEnd_14 (Nat.le_of_ble_eq_true rfl) rfl rfl ?_
  refine g_iconst (v := zI 0) hC dX12_varsEnd_15 rfl ?_
  refine g_istore_n (lv' := [some (.ref t), some (.int (zI a0)), some (.int (zI (zv s0 74))), some (.int (zI 0)), none]) hC dX12_varsEnd_16 (Nat.le_of_ble_eq_true rfl) rfl rfl ?_
  refine g_aload_n hC dX12_varsEnd_17 rfl ?_
  refine zr_geta hC hZ6 fl_X12_93 zb_27 (by decide) dX12_varsEnd_18 ?_
  refine g_iload_n hC dX12_varsEnd_21 rfl ?_
  obtain ⟨o7, h8⟩ := h4
  obtain ⟨o9, h10⟩ := h8
  refine zr_iald (v := (za s0 27 (Int.toNat a0))) hC hZ6 zk_27 zb_27 zn_27 (by decide) o7 o9 rfl dX12_varsEnd_22 ?_
  refine g_istore (lv' := [some (.ref t), some (.int (zI a0)), some (.int (zI (zv s0 74))), some (.int (zI 0)), some (.int (zI (za s0 27 (Int.toNat a0))))]) hC dX12_varsEnd_23 (Nat.le_of_ble_eq_true rfl) rfl rfl ?_
  obtain ⟨m11, h12⟩ := h10
  exact rl_varsEnd_25 hC  m11 _ _ _ _ _ _ Ra0 (hZ.rv 74) (by decide) (hZ.ra 27 _) hZ6 h12
theorem dX12_blockEnds_0 : decode cX12_blockEnds 0 = .ok (.aload_n 0, 1) := by decide +kernel
theorem dX12_blockEnds_1 : decode cX12_blockEnds 1 = .ok (.aload_n 0, 1) := by decide +kernel
theorem dX12_blockEnds_2 : decode cX12_blockEnds 2 = .ok (.invokevirtual 743, 3) := by decide +kernel
theorem dX12_blockEnds_5 : decode cX12_blockEnds 5 = .ok (.putfield 160, 3) := by decide +kernel
theorem dX12_blockEnds_8 : decode cX12_blockEnds 8 = .ok (.aload_n 0, 1) := by decide +kernel
theorem dX12_blockEnds_9 : decode cX12_blockEnds 9 = .ok (.aload_n 0, 1) := by decide +kernel
theorem dX12_blockEnds_10 : decode cX12_blockEnds 10 = .ok (.invokevirtual 743, 3) := by decide +kernel
theorem dX12_blockEnds_13 : decode cX12_blockEnds 13 = .ok (.putfield 178, 3) := by decide +kernel
theorem dX12_blockEnds_16 : decode cX12_blockEnds 16 = .ok (.aload_n 0, 1) := by decide +kernel
theorem dX12_blockEnds_17 : decode cX12_blockEnds 17 = .ok (.aload_n 0, 1) := by decide +kernel
theorem dX12_blockEnds_18 : decode cX12_blockEnds 18 = .ok (.invokevirtual 743, 3) := by decide +kernel
theorem dX12_blockEnds_21 : decode cX12_blockEnds 21 = .ok (.putfield 237, 3) := by decide +kernel
theorem dX12_blockEnds_24 : decode cX12_blockEnds 24 = .ok (.aload_n 0, 1) := by decide +kernel
theorem dX12_blockEnds_25 : decode cX12_blockEnds 25 = .ok (.dup, 1) := by decide +kernel
theorem dX12_blockEnds_26 : decode cX12_blockEnds 26 = .ok (.getfield 255, 3) := by decide +kernel
theorem dX12_blockEnds_29 : decode cX12_blockEnds 29 = .ok (.iload_n 1, 1) := by decide +kernel
theorem dX12_blockEnds_30 : decode cX12_blockEnds 30 = .ok (.iadd, 1) := by decide +kernel
theorem dX12_blockEnds_31 : decode cX12_blockEnds 31 = .ok (.putfield 255, 3) := by decide +kernel
theorem dX12_blockEnds_34 : decode cX12_blockEnds 34 = .ok (.return_, 1) := by decide +kernel
def wr_blockEnds (s0 : zS) (a0 : Int) (Q : zS → Prop) : Prop :=
  wr_pull s0  (fun r1 s2 => wr_pull (zpv s2 49 r1)  (fun r9 s10 => wr_pull (zpv s10 55 r9)  (fun r17 s18 => (zR ((zv s18 80) + a0)) ∧ Q (zpv (zpv s18 74 r17) 80 ((zv s18 80) + a0)))))
set_option maxHeartbeats 4000000 in
set_option maxRecDepth 100000 in
theorem rm_blockEnds (l : Launch) (d : gD) (b : Nat) {t : Nat} {T : Nat → Nat} {F : gM} {s0 : zS} {a0 : Int} (Ra0 : zR a0) {Q : zS → Prop} (hZ : zZ d t T F F s0) (hw : wr_blockEnds s0 a0 Q) : gMv l d b yX12_blockEnds cX12_blockEnds 2 1 0 0 F [.ref t, .int (zI a0)] (zPv d t T F Q) := by
  refine gM_of2 rfl (nL := 2) (Nat.le_of_ble_eq_true rfl) ?_
  intro X hX hC; subst hX
  show gG X d b (zQv X d b t T F Q) F 0 0 0 [some (.ref t), some (.int (zI a0))] []
  unfold wr_blockEnds at hw
  refine g_aload_n hC dX12_blockEnds_0 rfl ?_
  refine g_aload_n hC dX12_blockEnds_1 rfl ?_
  refine zr_callVi (As := []) hC hZ rfl (rm_pull X.la d b  hZ.rf hw) cl_X12_743 rfl rfl (Nat.le_of_ble_eq_true rfl) ⟨Nat.le_of_ble_eq_true rfl, Nat.le_of_ble_eq_true rfl⟩ dX12_blockEnds_2 (fun r1 s2 F3 R4 hZ5 h6 => ?_)
  refine zr_put hC hZ5 fl_X12_160 zb_49 (by decide) R4 dX12_blockEnds_5 (fun F7 hZ8 => ?_)
  refine g_aload_n hC dX12_blockEnds_8 rfl ?_
  refine g_aload_n hC dX12_blockEnds_9 rfl ?_
  refine zr_callVi (As := []) hC hZ8 rfl (rm_pull X.la d b  hZ8.rf h6) cl_X12_743 rfl rfl (Nat.le_of_ble_eq_true rfl) ⟨Nat.le_of_ble_eq_true rfl, Nat.le_of_ble_eq_true rfl⟩ dX12_blockEnds_10 (fun r9 s10 F11 R12 hZ13 h14 => ?_)
  refine zr_put hC hZ13 fl_X12_178 zb_55 (by decide) R12 dX12_blockEnds_13 (fun F15 hZ16 => ?_)
  refine g_aload_n hC dX12_blockEnds_16 rfl ?_
  refine g_aload_n hC dX12_blockEnds_17 rfl ?_
  refine zr_callVi (As := []) hC hZ16 rfl (rm_pull X.la d b  hZ16.rf h14) cl_X12_743 rfl rfl (Nat.le_of_ble_eq_true rfl) ⟨Nat.le_of_ble_eq_true rfl, Nat.le_of_ble_eq_true rfl⟩ dX12_blockEnds_18 (fun r17 s18 F19 R20 hZ21 h22 => ?_)
  refine zr_put hC hZ21 fl_X12_237 zb_74 (by decide) R20 dX12_blockEnds_21 (fun F23 hZ24 => ?_)
  refine g_aload_n hC dX12_blockEnds_24 rfl ?_
  refine g_dup hC dX12_blockEnds_25 rfl ?_
  refine zr_get (e := (zv s18 80)) hC hZ24 fl_X12_255 zb_80 (by decide) rfl dX12_blockEnds_26 ?_
  refine g_iload_n hC dX12_blockEnds_29 rfl ?_
  refine zr_iadd hC dX12_blockEnds_30 ?_
  obtain ⟨o25, h26⟩ := h22
  refine zr_put hC hZ24 fl_X12_255 zb_80 (by decide) o25 dX12_blockEnds_31 (fun F27 hZ28 => ?_)
  exact zr_vret hC hZ28 h26 dX12_blockEnds_34
theorem dX12_forName_0 : decode cX12_forName 0 = .ok (.aload_n 0, 1) := by decide +kernel
theorem dX12_forName_1 : decode cX12_forName 1 = .ok (.getfield 87, 3) := by decide +kernel
theorem dX12_forName_4 : decode cX12_forName 4 = .ok (.iload_n 1, 1) := by decide +kernel
theorem dX12_forName_5 : decode cX12_forName 5 = .ok (.baload, 1) := by decide +kernel
theorem dX12_forName_6 : decode cX12_forName 6 = .ok (.bipush 59, 2) := by decide +kernel
theorem dX12_forName_8 : decode cX12_forName 8 = .ok (.if_icmp .ne 94, 3) := by decide +kernel
theorem dX12_forName_11 : decode cX12_forName 11 = .ok (.aload_n 0, 1) := by decide +kernel
theorem dX12_forName_12 : decode cX12_forName 12 = .ok (.getfield 93, 3) := by decide +kernel
theorem dX12_forName_15 : decode cX12_forName 15 = .ok (.iload_n 1, 1) := by decide +kernel
theorem dX12_forName_16 : decode cX12_forName 16 = .ok (.iaload, 1) := by decide +kernel
theorem dX12_forName_17 : decode cX12_forName 17 = .ok (.istore_n 2, 1) := by decide +kernel
theorem dX12_forName_18 : decode cX12_forName 18 = .ok (.aload_n 0, 1) := by decide +kernel
theorem dX12_forName_19 : decode cX12_forName 19 = .ok (.iload_n 2, 1) := by decide +kernel
theorem dX12_forName_20 : decode cX12_forName 20 = .ok (.invokevirtual 756, 3) := by decide +kernel
theorem dX12_forName_23 : decode cX12_forName 23 = .ok (.aload_n 0, 1) := by decide +kernel
theorem dX12_forName_24 : decode cX12_forName 24 = .ok (.getfield 187, 3) := by decide +kernel
theorem dX12_forName_27 : decode cX12_forName 27 = .ok (.ifCond .eq 36, 3) := by decide +kernel
theorem dX12_forName_30 : decode cX12_forName 30 = .ok (.aload_n 0, 1) := by decide +kernel
theorem dX12_forName_31 : decode cX12_forName 31 = .ok (.getfield 191, 3) := by decide +kernel
theorem dX12_forName_34 : decode cX12_forName 34 = .ok (.ifCond .lt 13, 3) := by decide +kernel
theorem dX12_forName_37 : decode cX12_forName 37 = .ok (.aload_n 0, 1) := by decide +kernel
theorem dX12_forName_38 : decode cX12_forName 38 = .ok (.getfield 191, 3) := by decide +kernel
theorem dX12_forName_41 : decode cX12_forName 41 = .ok (.sipush 30000, 3) := by decide +kernel
theorem dX12_forName_44 : decode cX12_forName 44 = .ok (.if_icmp .le 19, 3) := by decide +kernel
theorem dX12_forName_47 : decode cX12_forName 47 = .ok (.aload_n 0, 1) := by decide +kernel
theorem dX12_forName_48 : decode cX12_forName 48 = .ok (.bipush 6, 2) := by decide +kernel
theorem dX12_forName_50 : decode cX12_forName 50 = .ok (.aload_n 0, 1) := by decide +kernel
theorem dX12_forName_51 : decode cX12_forName 51 = .ok (.aload_n 0, 1) := by decide +kernel
theorem dX12_forName_52 : decode cX12_forName 52 = .ok (.getfield 114, 3) := by decide +kernel
theorem dX12_forName_55 : decode cX12_forName 55 = .ok (.iload_n 2, 1) := by decide +kernel
theorem dX12_forName_56 : decode cX12_forName 56 = .ok (.iaload, 1) := by decide +kernel
theorem dX12_forName_57 : decode cX12_forName 57 = .ok (.invokevirtual 613, 3) := by decide +kernel
theorem dX12_forName_60 : decode cX12_forName 60 = .ok (.invokevirtual 605, 3) := by decide +kernel
theorem dX12_forName_63 : decode cX12_forName 63 = .ok (.aload_n 0, 1) := by decide +kernel
theorem dX12_forName_64 : decode cX12_forName 64 = .ok (.getfield 99, 3) := by decide +kernel
theorem dX12_forName_67 : decode cX12_forName 67 = .ok (.iload_n 1, 1) := by decide +kernel
theorem dX12_forName_68 : decode cX12_forName 68 = .ok (.aload_n 0, 1) := by decide +kernel
theorem dX12_forName_69 : decode cX12_forName 69 = .ok (.getfield 187, 3) := by decide +kernel
theorem dX12_forName_72 : decode cX12_forName 72 = .ok (.ifCond .eq 27, 3) := by decide +kernel
theorem dX12_forName_75 : decode cX12_forName 75 = .ok (.aload_n 0, 1) := by decide +kernel
theorem dX12_forName_76 : decode cX12_forName 76 = .ok (.getfield 191, 3) := by decide +kernel
theorem dX12_forName_79 : decode cX12_forName 79 = .ok (.ifCond .lt 20, 3) := by decide +kernel
theorem dX12_forName_82 : decode cX12_forName 82 = .ok (.aload_n 0, 1) := by decide +kernel
theorem dX12_forName_83 : decode cX12_forName 83 = .ok (.getfield 191, 3) := by decide +kernel
theorem dX12_forName_86 : decode cX12_forName 86 = .ok (.sipush 30000, 3) := by decide +kernel
theorem dX12_forName_89 : decode cX12_forName 89 = .ok (.if_icmp .gt 10, 3) := by decide +kernel
theorem dX12_forName_92 : decode cX12_forName 92 = .ok (.aload_n 0, 1) := by decide +kernel
theorem dX12_forName_93 : decode cX12_forName 93 = .ok (.getfield 191, 3) := by decide +kernel
theorem dX12_forName_96 : decode cX12_forName 96 = .ok (.goto 4, 3) := by decide +kernel
theorem dX12_forName_99 : decode cX12_forName 99 = .ok (.iconst 0, 1) := by decide +kernel
theorem dX12_forName_100 : decode cX12_forName 100 = .ok (.iastore, 1) := by decide +kernel
theorem dX12_forName_101 : decode cX12_forName 101 = .ok (.return_, 1) := by decide +kernel
theorem dX12_forName_102 : decode cX12_forName 102 = .ok (.aload_n 0, 1) := by decide +kernel
theorem dX12_forName_103 : decode cX12_forName 103 = .ok (.getfield 93, 3) := by decide +kernel
theorem dX12_forName_106 : decode cX12_forName 106 = .ok (.iload_n 1, 1) := by decide +kernel
theorem dX12_forName_107 : decode cX12_forName 107 = .ok (.iaload, 1) := by decide +kernel
theorem dX12_forName_108 : decode cX12_forName 108 = .ok (.istore_n 2, 1) := by decide +kernel
theorem dX12_forName_109 : decode cX12_forName 109 = .ok (.aload_n 0, 1) := by decide +kernel
theorem dX12_forName_110 : decode cX12_forName 110 = .ok (.getfield 96, 3) := by decide +kernel
theorem dX12_forName_113 : decode cX12_forName 113 = .ok (.iload_n 2, 1) := by decide +kernel
theorem dX12_forName_114 : decode cX12_forName 114 = .ok (.iaload, 1) := by decide +kernel
theorem dX12_forName_115 : decode cX12_forName 115 = .ok (.istore_n 3, 1) := by decide +kernel
theorem dX12_forName_116 : decode cX12_forName 116 = .ok (.aload_n 0, 1) := by decide +kernel
theorem dX12_forName_117 : decode cX12_forName 117 = .ok (.getfield 96, 3) := by decide +kernel
theorem dX12_forName_120 : decode cX12_forName 120 = .ok (.aload_n 0, 1) := by decide +kernel
theorem dX12_forName_121 : decode cX12_forName 121 = .ok (.getfield 96, 3) := by decide +kernel
theorem dX12_forName_124 : decode cX12_forName 124 = .ok (.iload_n 3, 1) := by decide +kernel
theorem dX12_forName_125 : decode cX12_forName 125 = .ok (.iaload, 1) := by decide +kernel
theorem dX12_forName_126 : decode cX12_forName 126 = .ok (.iaload, 1) := by decide +kernel
theorem dX12_forName_127 : decode cX12_forName 127 = .ok (.istore 4, 2) := by decide +kernel
theorem dX12_forName_129 : decode cX12_forName 129 = .ok (.aload_n 0, 1) := by decide +kernel
theorem dX12_forName_130 : decode cX12_forName 130 = .ok (.getfield 102, 3) := by decide +kernel
theorem dX12_forName_133 : decode cX12_forName 133 = .ok (.iload_n 1, 1) := by decide +kernel
theorem dX12_forName_134 : decode cX12_forName 134 = .ok (.iconst 1, 1) := by decide +kernel
theorem dX12_forName_135 : decode cX12_forName 135 = .ok (.iastore, 1) := by decide +kernel
theorem dX12_forName_136 : decode cX12_forName 136 = .ok (.aload_n 0, 1) := by decide +kernel
theorem dX12_forName_137 : decode cX12_forName 137 = .ok (.getfield 96, 3) := by decide +kernel
theorem dX12_forName_140 : decode cX12_forName 140 = .ok (.iload 4, 2) := by decide +kernel
theorem dX12_forName_142 : decode cX12_forName 142 = .ok (.iaload, 1) := by decide +kernel
theorem dX12_forName_143 : decode cX12_forName 143 = .ok (.ifCond .lt 28, 3) := by decide +kernel
theorem dX12_forName_146 : decode cX12_forName 146 = .ok (.aload_n 0, 1) := by decide +kernel
theorem dX12_forName_147 : decode cX12_forName 147 = .ok (.iload 4, 2) := by decide +kernel
theorem dX12_forName_149 : decode cX12_forName 149 = .ok (.invokevirtual 756, 3) := by decide +kernel
theorem dX12_forName_152 : decode cX12_forName 152 = .ok (.aload_n 0, 1) := by decide +kernel
theorem dX12_forName_153 : decode cX12_forName 153 = .ok (.getfield 102, 3) := by decide +kernel
theorem dX12_forName_156 : decode cX12_forName 156 = .ok (.iload_n 1, 1) := by decide +kernel
theorem dX12_forName_157 : decode cX12_forName 157 = .ok (.aload_n 0, 1) := by decide +kernel
theorem dX12_forName_158 : decode cX12_forName 158 = .ok (.getfield 191, 3) := by decide +kernel
theorem dX12_forName_161 : decode cX12_forName 161 = .ok (.iastore, 1) := by decide +kernel
theorem dX12_forName_162 : decode cX12_forName 162 = .ok (.aload_n 0, 1) := by decide +kernel
theorem dX12_forName_163 : decode cX12_forName 163 = .ok (.getfield 96, 3) := by decide +kernel
theorem dX12_forName_166 : decode cX12_forName 166 = .ok (.iload 4, 2) := by decide +kernel
theorem dX12_forName_168 : decode cX12_forName 168 = .ok (.iaload, 1) := by decide +kernel
theorem dX12_forName_169 : decode cX12_forName 169 = .ok (.istore 4, 2) := by decide +kernel
theorem dX12_forName_171 : decode cX12_forName 171 = .ok (.aload_n 0, 1) := by decide +kernel
theorem dX12_forName_172 : decode cX12_forName 172 = .ok (.getfield 99, 3) := by decide +kernel
theorem dX12_forName_175 : decode cX12_forName 175 = .ok (.iload_n 1, 1) := by decide +kernel
theorem dX12_forName_176 : decode cX12_forName 176 = .ok (.iload 4, 2) := by decide +kernel
theorem dX12_forName_178 : decode cX12_forName 178 = .ok (.iastore, 1) := by decide +kernel
theorem dX12_forName_179 : decode cX12_forName 179 = .ok (.aload_n 0, 1) := by decide +kernel
theorem dX12_forName_180 : decode cX12_forName 180 = .ok (.invokevirtual 770, 3) := by decide +kernel
theorem dX12_forName_183 : decode cX12_forName 183 = .ok (.aload_n 0, 1) := by decide +kernel
theorem dX12_forName_184 : decode cX12_forName 184 = .ok (.getfield 105, 3) := by decide +kernel
theorem dX12_forName_187 : decode cX12_forName 187 = .ok (.iload_n 1, 1) := by decide +kernel
theorem dX12_forName_188 : decode cX12_forName 188 = .ok (.aload_n 0, 1) := by decide +kernel
theorem dX12_forName_189 : decode cX12_forName 189 = .ok (.getfield 237, 3) := by decide +kernel
theorem dX12_forName_192 : decode cX12_forName 192 = .ok (.iastore, 1) := by decide +kernel
theorem dX12_forName_193 : decode cX12_forName 193 = .ok (.aload_n 0, 1) := by decide +kernel
theorem dX12_forName_194 : decode cX12_forName 194 = .ok (.aload_n 0, 1) := by decide +kernel
theorem dX12_forName_195 : decode cX12_forName 195 = .ok (.getfield 99, 3) := by decide +kernel
theorem dX12_forName_198 : decode cX12_forName 198 = .ok (.iload_n 2, 1) := by decide +kernel
theorem dX12_forName_199 : decode cX12_forName 199 = .ok (.iaload, 1) := by decide +kernel
theorem dX12_forName_200 : decode cX12_forName 200 = .ok (.aload_n 0, 1) := by decide +kernel
theorem dX12_forName_201 : decode cX12_forName 201 = .ok (.getfield 90, 3) := by decide +kernel
theorem dX12_forName_204 : decode cX12_forName 204 = .ok (.iload_n 2, 1) := by decide +kernel
theorem dX12_forName_205 : decode cX12_forName 205 = .ok (.iaload, 1) := by decide +kernel
theorem dX12_forName_206 : decode cX12_forName 206 = .ok (.iconst 4, 1) := by decide +kernel
theorem dX12_forName_207 : decode cX12_forName 207 = .ok (.aload_n 0, 1) := by decide +kernel
theorem dX12_forName_208 : decode cX12_forName 208 = .ok (.getfield 237, 3) := by decide +kernel
theorem dX12_forName_211 : decode cX12_forName 211 = .ok (.aload_n 0, 1) := by decide +kernel
theorem dX12_forName_212 : decode cX12_forName 212 = .ok (.getfield 234, 3) := by decide +kernel
theorem dX12_forName_215 : decode cX12_forName 215 = .ok (.iconst 0, 1) := by decide +kernel
theorem dX12_forName_216 : decode cX12_forName 216 = .ok (.invokevirtual 752, 3) := by decide +kernel
theorem dX12_forName_219 : decode cX12_forName 219 = .ok (.pop, 1) := by decide +kernel
theorem dX12_forName_220 : decode cX12_forName 220 = .ok (.aload_n 0, 1) := by decide +kernel
theorem dX12_forName_221 : decode cX12_forName 221 = .ok (.iconst 2, 1) := by decide +kernel
theorem dX12_forName_222 : decode cX12_forName 222 = .ok (.invokevirtual 767, 3) := by decide +kernel
theorem dX12_forName_225 : decode cX12_forName 225 = .ok (.aload_n 0, 1) := by decide +kernel
theorem dX12_forName_226 : decode cX12_forName 226 = .ok (.dup, 1) := by decide +kernel
theorem dX12_forName_227 : decode cX12_forName 227 = .ok (.getfield 252, 3) := by decide +kernel
theorem dX12_forName_230 : decode cX12_forName 230 = .ok (.iconst 1, 1) := by decide +kernel
theorem dX12_forName_231 : decode cX12_forName 231 = .ok (.iadd, 1) := by decide +kernel
theorem dX12_forName_232 : decode cX12_forName 232 = .ok (.putfield 252, 3) := by decide +kernel
theorem dX12_forName_235 : decode cX12_forName 235 = .ok (.aload_n 0, 1) := by decide +kernel
theorem dX12_forName_236 : decode cX12_forName 236 = .ok (.bipush 9, 2) := by decide +kernel
theorem dX12_forName_238 : decode cX12_forName 238 = .ok (.iconst 0, 1) := by decide +kernel
theorem dX12_forName_239 : decode cX12_forName 239 = .ok (.iconst 0, 1) := by decide +kernel
theorem dX12_forName_240 : decode cX12_forName 240 = .ok (.invokevirtual 647, 3) := by decide +kernel
theorem dX12_forName_243 : decode cX12_forName 243 = .ok (.aload_n 0, 1) := by decide +kernel
theorem dX12_forName_244 : decode cX12_forName 244 = .ok (.bipush 10, 2) := by decide +kernel
theorem dX12_forName_246 : decode cX12_forName 246 = .ok (.iconst 0, 1) := by decide +kernel
theorem dX12_forName_247 : decode cX12_forName 247 = .ok (.iconst (-1), 1) := by decide +kernel
theorem dX12_forName_248 : decode cX12_forName 248 = .ok (.invokevirtual 647, 3) := by decide +kernel
theorem dX12_forName_251 : decode cX12_forName 251 = .ok (.aload_n 0, 1) := by decide +kernel
theorem dX12_forName_252 : decode cX12_forName 252 = .ok (.iconst 2, 1) := by decide +kernel
theorem dX12_forName_253 : decode cX12_forName 253 = .ok (.iload 4, 2) := by decide +kernel
theorem dX12_forName_255 : decode cX12_forName 255 = .ok (.iconst 0, 1) := by decide +kernel
theorem dX12_forName_256 : decode cX12_forName 256 = .ok (.invokevirtual 647, 3) := by decide +kernel
theorem dX12_forName_259 : decode cX12_forName 259 = .ok (.return_, 1) := by decide +kernel
def wr_forName_171 (Q : zS → Prop)  (s0 : zS) (x1 : Int) (x2 : Int) (x4 : Int) : Prop :=
  (0 ≤ x1) ∧ (x1 < 26000) ∧ wr_beginBlock (zpa s0 29 (Int.toNat x1) x4)  (fun s8 => (0 ≤ x1) ∧ (x1 < 26000) ∧ (0 ≤ x2) ∧ (x2 < 26000) ∧ (0 ≤ x2) ∧ (x2 < 26000) ∧ wr_declare (zpa s8 31 (Int.toNat x1) (zv s8 74)) (za s8 29 (Int.toNat x2)) (za s8 26 (Int.toNat x2)) 4 (zv s8 74) (zv s8 73) 0 (fun r27 s28 => wr_uses s28 2 (fun s34 => (zR ((zv s34 79) + 1)) ∧ wr_task (zpv s34 79 ((zv s34 79) + 1)) 9 0 0 (fun s44 => wr_task s44 10 0 (-1) (fun s50 => wr_task s50 2 x4 0 (fun s56 => Q s56))))))
def wr_forName_63 (Q : zS → Prop)  (s0 : zS) (x1 : Int) : Prop :=
  (((zv s0 58) = 0 → (0 ≤ x1) ∧ (x1 < 26000) ∧ Q (zpa s0 29 (Int.toNat x1) 0)) ∧ (¬ (zv s0 58) = 0 → (((zv s0 59) < 0 → (0 ≤ x1) ∧ (x1 < 26000) ∧ Q (zpa s0 29 (Int.toNat x1) 0)) ∧ (¬ (zv s0 59) < 0 → ((30000 < (zv s0 59) → (0 ≤ x1) ∧ (x1 < 26000) ∧ Q (zpa s0 29 (Int.toNat x1) 0)) ∧ (¬ 30000 < (zv s0 59) → (0 ≤ x1) ∧ (x1 < 26000) ∧ Q (zpa s0 29 (Int.toNat x1) (zv s0 59))))))))
def wr_forName (s0 : zS) (a0 : Int) (Q : zS → Prop) : Prop :=
  (0 ≤ a0) ∧ (a0 < 26000) ∧ ((¬ (za s0 25 (Int.toNat a0)) = 59 → (0 ≤ a0) ∧ (a0 < 26000) ∧ (0 ≤ (za s0 27 (Int.toNat a0))) ∧ ((za s0 27 (Int.toNat a0)) < 26000) ∧ (0 ≤ (za s0 28 (Int.toNat (za s0 27 (Int.toNat a0))))) ∧ ((za s0 28 (Int.toNat (za s0 27 (Int.toNat a0)))) < 26000) ∧ (0 ≤ (za s0 28 (Int.toNat (za s0 28 (Int.toNat (za s0 27 (Int.toNat a0))))))) ∧ ((za s0 28 (Int.toNat (za s0 28 (Int.toNat (za s0 27 (Int.toNat a0)))))) < 26000) ∧ (0 ≤ a0) ∧ (a0 < 26000) ∧ (0 ≤ (za s0 28 (Int.toNat (za s0 28 (Int.toNat (za s0 28 (Int.toNat (za s0 27 (Int.toNat a0))))))))) ∧ ((za s0 28 (Int.toNat (za s0 28 (Int.toNat (za s0 28 (Int.toNat (za s0 27 (Int.toNat a0)))))))) < 26000) ∧ (((za s0 28 (Int.toNat (za s0 28 (Int.toNat (za s0 28 (Int.toNat (za s0 28 (Int.toNat (za s0 27 (Int.toNat a0)))))))))) < 0 → wr_forName_171 Q  (zpa s0 30 (Int.toNat a0) 1) a0 (za s0 27 (Int.toNat a0)) (za s0 28 (Int.toNat (za s0 28 (Int.toNat (za s0 28 (Int.toNat (za s0 27 (Int.toNat a0))))))))) ∧ (¬ (za s0 28 (Int.toNat (za s0 28 (Int.toNat (za s0 28 (Int.toNat (za s0 28 (Int.toNat (za s0 27 (Int.toNat a0)))))))))) < 0 → wr_constant (zpa s0 30 (Int.toNat a0) 1) (za s0 28 (Int.toNat (za s0 28 (Int.toNat (za s0 28 (Int.toNat (za s0 27 (Int.toNat a0)))))))) (fun s37 => (0 ≤ a0) ∧ (a0 < 26000) ∧ (0 ≤ (za s0 28 (Int.toNat (za s0 28 (Int.toNat (za s0 28 (Int.toNat (za s0 27 (Int.toNat a0))))))))) ∧ ((za s0 28 (Int.toNat (za s0 28 (Int.toNat (za s0 28 (Int.toNat (za s0 27 (Int.toNat a0)))))))) < 26000) ∧ wr_forName_171 Q  (zpa s37 30 (Int.toNat a0) (zv s37 59)) a0 (za s0 27 (Int.toNat a0)) (za s37 28 (Int.toNat (za s0 28 (Int.toNat (za s0 28 (Int.toNat (za s0 28 (Int.toNat (za s0 27 (Int.toNat a0)))))))))))))) ∧ ((za s0 25 (Int.toNat a0)) = 59 → (0 ≤ a0) ∧ (a0 < 26000) ∧ wr_constant s0 (za s0 27 (Int.toNat a0)) (fun s58 => (((zv s58 58) = 0 → wr_forName_63 Q  s58 a0) ∧ (¬ (zv s58 58) = 0 → (((zv s58 59) < 0 → (0 ≤ (za s0 27 (Int.toNat a0))) ∧ ((za s0 27 (Int.toNat a0)) < 26000) ∧ wr_place s58 (za s58 34 (Int.toNat (za s0 27 (Int.toNat a0)))) (fun r72 s73 => wr_fault s73 6 r72 (fun s79 => wr_forName_63 Q  s79 a0))) ∧ (¬ (zv s58 59) < 0 → (((zv s58 59) ≤ 30000 → wr_forName_63 Q  s58 a0) ∧ (¬ (zv s58 59) ≤ 30000 → (0 ≤ (za s0 27 (Int.toNat a0))) ∧ ((za s0 27 (Int.toNat a0)) < 26000) ∧ wr_place s58 (za s58 34 (Int.toNat (za s0 27 (Int.toNat a0)))) (fun r92 s93 => wr_fault s93 6 r92 (fun s99 => wr_forName_63 Q  s99 a0)))))))))))
set_option maxHeartbeats 4000000 in
set_option maxRecDepth 100000 in
theorem rj_forName_171 {X : gX} {d : gD} {b t : Nat} {T : Nat → Nat} {F0 : gM} (hC : gC RX12 cX12_forName 5 none "forName" (gR 4 0 0) d b X) {Q : zS → Prop}   {F : gM} {s0 : zS} {x1 : Int} {x2 : Int} {x4 : Int} (Rx1 : zR x1) (Rx2 : zR x2) (Rx4 : zR x4) (hZ : zZ d t T F0 F s0) (hw : wr_forName_171 Q  s0 x1 x2 x4) : gG X d b (zQv X d b t T F0 Q) F 0 0 171 [some (.ref t), some (.int (zI x1)), some (.int (zI x2)), none, some (.int (zI x4))] [] := by
  unfold wr_forName_171 at hw
  refine g_aload_n hC dX12_forName_171 rfl ?_
  refine zr_geta hC hZ fl_X12_99 zb_29 (by decide) dX12_forName_172 ?_
  refine g_iload_n hC dX12_forName_175 rfl ?_
  refine g_iload hC dX12_forName_176 rfl ?_
  obtain ⟨o1, h2⟩ := hw
  obtain ⟨o3, h4⟩ := h2
  refine zr_iast hC hZ zk_29 zb_29 zn_29 (by decide) o1 o3 Rx4 dX12_forName_178 (fun F5 hZ6 => ?_)
  refine g_aload_n hC dX12_forName_179 rfl ?_
  refine zr_callVv (As := []) hC hZ6 rfl (rm_beginBlock X.la d b  hZ6.rf h4) cl_X12_770 rfl rfl (Nat.le_of_ble_eq_true rfl) ⟨Nat.le_of_ble_eq_true rfl, Nat.le_of_ble_eq_true rfl⟩ dX12_forName_180 (fun s8 F9 hZ11 h12 => ?_)
  refine g_aload_n hC dX12_forName_183 rfl ?_
  refine zr_geta hC hZ11 fl_X12_105 zb_31 (by decide) dX12_forName_184 ?_
  refine g_iload_n hC dX12_forName_187 rfl ?_
  refine g_aload_n hC dX12_forName_188 rfl ?_
  refine zr_get (e := (zv s8 74)) hC hZ11 fl_X12_237 zb_74 (by decide) rfl dX12_forName_189 ?_
  obtain ⟨o13, h14⟩ := h12
  obtain ⟨o15, h16⟩ := h14
  refine zr_iast hC hZ11 zk_31 zb_31 zn_31 (by decide) o13 o15 (hZ11.rv 74) dX12_forName_192 (fun F17 hZ18 => ?_)
  refine g_aload_n hC dX12_forName_193 rfl ?_
  refine g_aload_n hC dX12_forName_194 rfl ?_
  refine zr_geta hC hZ18 fl_X12_99 zb_29 (by decide) dX12_forName_195 ?_
  refine g_iload_n hC dX12_forName_198 rfl ?_
  obtain ⟨o19, h20⟩ := h16
  obtain ⟨o21, h22⟩ := h20
  refine zr_iald (v := (za s8 29 (Int.toNat x2))) hC hZ18 zk_29 zb_29 zn_29 (by decide) o19 o21 rfl dX12_forName_199 ?_
  refine g_aload_n hC dX12_forName_200 rfl ?_
  refine zr_geta hC hZ18 fl_X12_90 zb_26 (by decide) dX12_forName_201 ?_
  refine g_iload_n hC dX12_forName_204 rfl ?_
  obtain ⟨o23, h24⟩ := h22
  obtain ⟨o25, h26⟩ := h24
  refine zr_iald (v := (za s8 26 (Int.toNat x2))) hC hZ18 zk_26 zb_26 zn_26 (by decide) o23 o25 rfl dX12_forName_205 ?_
  refine g_iconst (v := zI 4) hC dX12_forName_206 rfl ?_
  refine g_aload_n hC dX12_forName_207 rfl ?_
  refine zr_get (e := (zv s8 74)) hC hZ18 fl_X12_237 zb_74 (by decide) rfl dX12_forName_208 ?_
  refine g_aload_n hC dX12_forName_211 rfl ?_
  refine zr_get (e := (zv s8 73)) hC hZ18 fl_X12_234 zb_73 (by decide) rfl dX12_forName_212 ?_
  refine g_iconst (v := zI 0) hC dX12_forName_215 rfl ?_
  refine zr_callVi (As := [.int (zI (za s8 29 (Int.toNat x2))), .int (zI (za s8 26 (Int.toNat x2))), .int (zI 4), .int (zI (zv s8 74)), .int (zI (zv s8 73)), .int (zI 0)]) hC hZ18 rfl (rm_declare X.la d b (hZ11.ra 29 _) (hZ11.ra 26 _) (by decide) (hZ11.rv 74) (hZ11.rv 73) (by decide) hZ18.rf h26) cl_X12_752 rfl rfl (Nat.le_of_ble_eq_true rfl) ⟨Nat.le_of_ble_eq_true rfl, Nat.le_of_ble_eq_true rfl⟩ dX12_forName_216 (fun r27 s28 F29 R30 hZ31 h32 => ?_)
  refine g_pop hC dX12_forName_219 rfl ?_
  refine g_aload_n hC dX12_forName_220 rfl ?_
  refine g_iconst (v := zI 2) hC dX12_forName_221 rfl ?_
  refine zr_callVv (As := [.int (zI 2)]) hC hZ31 rfl (rm_uses X.la d b (by decide) hZ31.rf h32) cl_X12_767 rfl rfl (Nat.le_of_ble_eq_true rfl) ⟨Nat.le_of_ble_eq_true rfl, Nat.le_of_ble_eq_true rfl⟩ dX12_forName_222 (fun s34 F35 hZ37 h38 => ?_)
  refine g_aload_n hC dX12_forName_225 rfl ?_
  refine g_dup hC dX12_forName_226 rfl ?_
  refine zr_get (e := (zv s34 79)) hC hZ37 fl_X12_252 zb_79 (by decide) rfl dX12_forName_227 ?_
  refine g_iconst (v := zI 1) hC dX12_forName_230 rfl ?_
  refine zr_iadd hC dX12_forName_231 ?_
  obtain ⟨o39, h40⟩ := h38
  refine zr_put hC hZ37 fl_X12_252 zb_79 (by decide) o39 dX12_forName_232 (fun F41 hZ42 => ?_)
  refine g_aload_n hC dX12_forName_235 rfl ?_
  refine g_bipush (v := zI 9) hC dX12_forName_236 rfl ?_
  refine g_iconst (v := zI 0) hC dX12_forName_238 rfl ?_
  refine g_iconst (v := zI 0) hC dX12_forName_239 rfl ?_
  refine zr_callVv (As := [.int (zI 9), .int (zI 0), .int (zI 0)]) hC hZ42 rfl (rm_task X.la d b (by decide) (by decide) (by decide) hZ42.rf h40) cl_X12_647 rfl rfl (Nat.le_of_ble_eq_true rfl) ⟨Nat.le_of_ble_eq_true rfl, Nat.le_of_ble_eq_true rfl⟩ dX12_forName_240 (fun s44 F45 hZ47 h48 => ?_)
  refine g_aload_n hC dX12_forName_243 rfl ?_
  refine g_bipush (v := zI 10) hC dX12_forName_244 rfl ?_
  refine g_iconst (v := zI 0) hC dX12_forName_246 rfl ?_
  refine g_iconst (v := zI (-1)) hC dX12_forName_247 rfl ?_
  refine zr_callVv (As := [.int (zI 10), .int (zI 0), .int (zI (-1))]) hC hZ47 rfl (rm_task X.la d b (by decide) (by decide) (by decide) hZ47.rf h48) cl_X12_647 rfl rfl (Nat.le_of_ble_eq_true rfl) ⟨Nat.le_of_ble_eq_true rfl, Nat.le_of_ble_eq_true rfl⟩ dX12_forName_248 (fun s50 F51 hZ53 h54 => ?_)
  refine g_aload_n hC dX12_forName_251 rfl ?_
  refine g_iconst (v := zI 2) hC dX12_forName_252 rfl ?_
  refine g_iload hC dX12_forName_253 rfl ?_
  refine g_iconst (v := zI 0) hC dX12_forName_255 rfl ?_
  refine zr_callVv (As := [.int (zI 2), .int (zI x4), .int (zI 0)]) hC hZ53 rfl (rm_task X.la d b (by decide) Rx4 (by decide) hZ53.rf h54) cl_X12_647 rfl rfl (Nat.le_of_ble_eq_true rfl) ⟨Nat.le_of_ble_eq_true rfl, Nat.le_of_ble_eq_true rfl⟩ dX12_forName_256 (fun s56 F57 hZ59 h60 => ?_)
  exact zr_vret hC hZ59 h60 dX12_forName_259
set_option maxHeartbeats 4000000 in
set_option maxRecDepth 100000 in
theorem rj_forName_63 {X : gX} {d : gD} {b t : Nat} {T : Nat → Nat} {F0 : gM} (hC : gC RX12 cX12_forName 5 none "forName" (gR 4 0 0) d b X) {Q : zS → Prop}   {F : gM} {s0 : zS} {x1 : Int} (Rx1 : zR x1) (hZ : zZ d t T F0 F s0) (hw : wr_forName_63 Q  s0 x1) : gG X d b (zQv X d b t T F0 Q) F 0 0 63 [some (.ref t), some (.int (zI x1)), none, none, none] [] := by
  unfold wr_forName_63 at hw
  refine g_aload_n hC dX12_forName_63 rfl ?_
  refine zr_geta hC hZ fl_X12_99 zb_29 (by decide) dX12_forName_64 ?_
  refine g_iload_n hC dX12_forName_67 rfl ?_
  refine g_aload_n hC dX12_forName_68 rfl ?_
  refine zr_get (e := (zv s0 58)) hC hZ fl_X12_187 zb_58 (by decide) rfl dX12_forName_69 ?_
  refine zr_if_eq (tgt := 99) hC (hZ.rv 58) dX12_forName_72 (by decide) (fun c1 => ?_) (fun c1 => ?_)
  · have h2 := hw.1 c1
    refine g_iconst (v := zI 0) hC dX12_forName_99 rfl ?_
    obtain ⟨o3, h4⟩ := h2
    obtain ⟨o5, h6⟩ := h4
    refine zr_iast hC hZ zk_29 zb_29 zn_29 (by decide) o3 o5 (by decide) dX12_forName_100 (fun F7 hZ8 => ?_)
    exact zr_vret hC hZ8 h6 dX12_forName_101
  · have h9 := hw.2 c1
    refine g_aload_n hC dX12_forName_75 rfl ?_
    refine zr_get (e := (zv s0 59)) hC hZ fl_X12_191 zb_59 (by decide) rfl dX12_forName_76 ?_
    refine zr_if_lt (tgt := 99) hC (hZ.rv 59) dX12_forName_79 (by decide) (fun c10 => ?_) (fun c10 => ?_)
    · have h11 := h9.1 c10
      refine g_iconst (v := zI 0) hC dX12_forName_99 rfl ?_
      obtain ⟨o12, h13⟩ := h11
      obtain ⟨o14, h15⟩ := h13
      refine zr_iast hC hZ zk_29 zb_29 zn_29 (by decide) o12 o14 (by decide) dX12_forName_100 (fun F16 hZ17 => ?_)
      exact zr_vret hC hZ17 h15 dX12_forName_101
    · have h18 := h9.2 c10
      refine g_aload_n hC dX12_forName_82 rfl ?_
      refine zr_get (e := (zv s0 59)) hC hZ fl_X12_191 zb_59 (by decide) rfl dX12_forName_83 ?_
      refine g_sipush (v := zI 30000) hC dX12_forName_86 rfl ?_
      refine zr_icmp_gt (tgt := 99) hC (hZ.rv 59) (by decide) dX12_forName_89 (by decide) (fun c19 => ?_) (fun c19 => ?_)
      · have h20 := h18.1 c19
        refine g_iconst (v := zI 0) hC dX12_forName_99 rfl ?_
        obtain ⟨o21, h22⟩ := h20
        obtain ⟨o23, h24⟩ := h22
        refine zr_iast hC hZ zk_29 zb_29 zn_29 (by decide) o21 o23 (by decide) dX12_forName_100 (fun F25 hZ26 => ?_)
        exact zr_vret hC hZ26 h24 dX12_forName_101
      · have h27 := h18.2 c19
        refine g_aload_n hC dX12_forName_92 rfl ?_
        refine zr_get (e := (zv s0 59)) hC hZ fl_X12_191 zb_59 (by decide) rfl dX12_forName_93 ?_
        refine g_goto (tgt := 100) hC dX12_forName_96 (by decide) ?_
        obtain ⟨o28, h29⟩ := h27
        obtain ⟨o30, h31⟩ := h29
        refine zr_iast hC hZ zk_29 zb_29 zn_29 (by decide) o28 o30 (hZ.rv 59) dX12_forName_100 (fun F32 hZ33 => ?_)
        exact zr_vret hC hZ33 h31 dX12_forName_101
set_option maxHeartbeats 4000000 in
set_option maxRecDepth 100000 in
theorem rm_forName (l : Launch) (d : gD) (b : Nat) {t : Nat} {T : Nat → Nat} {F : gM} {s0 : zS} {a0 : Int} (Ra0 : zR a0) {Q : zS → Prop} (hZ : zZ d t T F F s0) (hw : wr_forName s0 a0 Q) : gMv l d b yX12_forName cX12_forName 5 4 0 0 F [.ref t, .int (zI a0)] (zPv d t T F Q) := by
  refine gM_of2 rfl (nL := 5) (Nat.le_of_ble_eq_true rfl) ?_
  intro X hX hC; subst hX
  show gG X d b (zQv X d b t T F Q) F 0 0 0 [some (.ref t), some (.int (zI a0)), none, none, none] []
  unfold wr_forName at hw
  refine g_aload_n hC dX12_forName_0 rfl ?_
  refine zr_geta hC hZ fl_X12_87 zb_25 (by decide) dX12_forName_1 ?_
  refine g_iload_n hC dX12_forName_4 rfl ?_
  obtain ⟨o1, h2⟩ := hw
  obtain ⟨o3, h4⟩ := h2
  refine zr_bald (v := (za s0 25 (Int.toNat a0))) hC hZ zk_25 zb_25 zn_25 (by decide) o1 o3 rfl dX12_forName_5 ?_
  refine g_bipush (v := zI 59) hC dX12_forName_6 rfl ?_
  refine zr_icmp_ne (tgt := 102) hC (hZ.ra 25 _) (by decide) dX12_forName_8 (by decide) (fun c5 => ?_) (fun c5 => ?_)
  · have h6 := h4.1 c5
    refine g_aload_n hC dX12_forName_102 rfl ?_
    refine zr_geta hC hZ fl_X12_93 zb_27 (by decide) dX12_forName_103 ?_
    refine g_iload_n hC dX12_forName_106 rfl ?_
    obtain ⟨o7, h8⟩ := h6
    obtain ⟨o9, h10⟩ := h8
    refine zr_iald (v := (za s0 27 (Int.toNat a0))) hC hZ zk_27 zb_27 zn_27 (by decide) o7 o9 rfl dX12_forName_107 ?_
    refine g_istore_n (lv' := [some (.ref t), some (.int (zI a0)), some (.int (zI (za s0 27 (Int.toNat a0)))), none, none]) hC dX12_forName_108 (Nat.le_of_ble_eq_true rfl) rfl rfl ?_
    refine g_aload_n hC dX12_forName_109 rfl ?_
    refine zr_geta hC hZ fl_X12_96 zb_28 (by decide) dX12_forName_110 ?_
    refine g_iload_n hC dX12_forName_113 rfl ?_
    obtain ⟨o11, h12⟩ := h10
    obtain ⟨o13, h14⟩ := h12
    refine zr_iald (v := (za s0 28 (Int.toNat (za s0 27 (Int.toNat a0))))) hC hZ zk_28 zb_28 zn_28 (by decide) o11 o13 rfl dX12_forName_114 ?_
    refine g_istore_n (lv' := [some (.ref t), some (.int (zI a0)), some (.int (zI (za s0 27 (Int.toNat a0)))), some (.int (zI (za s0 28 (Int.toNat (za s0 27 (Int.toNat a0)))))), none]) hC dX12_forName_115 (Nat.le_of_ble_eq_true rfl) rfl rfl ?_
    refine g_aload_n hC dX12_forName_116 rfl ?_
    refine zr_geta hC hZ fl_X12_96 zb_28 (by decide) dX12_forName_117 ?_
    refine g_aload_n hC dX12_forName_120 rfl ?_
    refine zr_geta hC hZ fl_X12_96 zb_28 (by decide) dX12_forName_121 ?_
    refine g_iload_n hC dX12_forName_124 rfl ?_
    obtain ⟨o15, h16⟩ := h14
    obtain ⟨o17, h18⟩ := h16
    refine zr_iald (v := (za s0 28 (Int.toNat (za s0 28 (Int.toNat (za s0 27 (Int.toNat a0))))))) hC hZ zk_28 zb_28 zn_28 (by decide) o15 o17 rfl dX12_forName_125 ?_
    obtain ⟨o19, h20⟩ := h18
    obtain ⟨o21, h22⟩ := h20
    refine zr_iald (v := (za s0 28 (Int.toNat (za s0 28 (Int.toNat (za s0 28 (Int.toNat (za s0 27 (Int.toNat a0))))))))) hC hZ zk_28 zb_28 zn_28 (by decide) o19 o21 rfl dX12_forName_126 ?_
    refine g_istore (lv' := [some (.ref t), some (.int (zI a0)), some (.int (zI (za s0 27 (Int.toNat a0)))), some (.int (zI (za s0 28 (Int.toNat (za s0 27 (Int.toNat a0)))))), some (.int (zI (za s0 28 (Int.toNat (za s0 28 (Int.toNat (za s0 28 (Int.toNat (za s0 27 (Int.toNat a0))))))))))]) hC dX12_forName_127 (Nat.le_of_ble_eq_true rfl) rfl rfl ?_
    refine g_aload_n hC dX12_forName_129 rfl ?_
    refine zr_geta hC hZ fl_X12_102 zb_30 (by decide) dX12_forName_130 ?_
    refine g_iload_n hC dX12_forName_133 rfl ?_
    refine g_iconst (v := zI 1) hC dX12_forName_134 rfl ?_
    obtain ⟨o23, h24⟩ := h22
    obtain ⟨o25, h26⟩ := h24
    refine zr_iast hC hZ zk_30 zb_30 zn_30 (by decide) o23 o25 (by decide) dX12_forName_135 (fun F27 hZ28 => ?_)
    refine g_aload_n hC dX12_forName_136 rfl ?_
    refine zr_geta hC hZ28 fl_X12_96 zb_28 (by decide) dX12_forName_137 ?_
    refine g_iload hC dX12_forName_140 rfl ?_
    obtain ⟨o29, h30⟩ := h26
    obtain ⟨o31, h32⟩ := h30
    refine zr_iald (v := (za s0 28 (Int.toNat (za s0 28 (Int.toNat (za s0 28 (Int.toNat (za s0 28 (Int.toNat (za s0 27 (Int.toNat a0))))))))))) hC hZ28 zk_28 zb_28 zn_28 (by decide) o29 o31 rfl dX12_forName_142 ?_
    refine zr_if_lt (tgt := 171) hC (hZ.ra 28 _) dX12_forName_143 (by decide) (fun c33 => ?_) (fun c33 => ?_)
    · have h34 := h32.1 c33
      refine g_lv (lv' := [some (.ref t), some (.int (zI a0)), some (.int (zI (za s0 27 (Int.toNat a0)))), none, some (.int (zI (za s0 28 (Int.toNat (za s0 28 (Int.toNat (za s0 28 (Int.toNat (za s0 27 (Int.toNat a0))))))))))]) ⟨rfl, rfl, rfl, rfl, trivial⟩ ?_
      exact rj_forName_171 hC  Ra0 (hZ.ra 27 _) (hZ.ra 28 _) hZ28 h34
    · have h35 := h32.2 c33
      refine g_aload_n hC dX12_forName_146 rfl ?_
      refine g_iload hC dX12_forName_147 rfl ?_
      refine zr_callVv (As := [.int (zI (za s0 28 (Int.toNat (za s0 28 (Int.toNat (za s0 28 (Int.toNat (za s0 27 (Int.toNat a0)))))))))]) hC hZ28 rfl (rm_constant X.la d b (hZ.ra 28 _) hZ28.rf h35) cl_X12_756 rfl rfl (Nat.le_of_ble_eq_true rfl) ⟨Nat.le_of_ble_eq_true rfl, Nat.le_of_ble_eq_true rfl⟩ dX12_forName_149 (fun s37 F38 hZ40 h41 => ?_)
      refine g_aload_n hC dX12_forName_152 rfl ?_
      refine zr_geta hC hZ40 fl_X12_102 zb_30 (by decide) dX12_forName_153 ?_
      refine g_iload_n hC dX12_forName_156 rfl ?_
      refine g_aload_n hC dX12_forName_157 rfl ?_
      refine zr_get (e := (zv s37 59)) hC hZ40 fl_X12_191 zb_59 (by decide) rfl dX12_forName_158 ?_
      obtain ⟨o42, h43⟩ := h41
      obtain ⟨o44, h45⟩ := h43
      refine zr_iast hC hZ40 zk_30 zb_30 zn_30 (by decide) o42 o44 (hZ40.rv 59) dX12_forName_161 (fun F46 hZ47 => ?_)
      refine g_aload_n hC dX12_forName_162 rfl ?_
      refine zr_geta hC hZ47 fl_X12_96 zb_28 (by decide) dX12_forName_163 ?_
      refine g_iload hC dX12_forName_166 rfl ?_
      obtain ⟨o48, h49⟩ := h45
      obtain ⟨o50, h51⟩ := h49
      refine zr_iald (v := (za s37 28 (Int.toNat (za s0 28 (Int.toNat (za s0 28 (Int.toNat (za s0 28 (Int.toNat (za s0 27 (Int.toNat a0))))))))))) hC hZ47 zk_28 zb_28 zn_28 (by decide) o48 o50 rfl dX12_forName_168 ?_
      refine g_istore (lv' := [some (.ref t), some (.int (zI a0)), some (.int (zI (za s0 27 (Int.toNat a0)))), some (.int (zI (za s0 28 (Int.toNat (za s0 27 (Int.toNat a0)))))), some (.int (zI (za s37 28 (Int.toNat (za s0 28 (Int.toNat (za s0 28 (Int.toNat (za s0 28 (Int.toNat (za s0 27 (Int.toNat a0))))))))))))]) hC dX12_forName_169 (Nat.le_of_ble_eq_true rfl) rfl rfl ?_
      refine g_lv (lv' := [some (.ref t), some (.int (zI a0)), some (.int (zI (za s0 27 (Int.toNat a0)))), none, some (.int (zI (za s37 28 (Int.toNat (za s0 28 (Int.toNat (za s0 28 (Int.toNat (za s0 28 (Int.toNat (za s0 27 (Int.toNat a0))))))))))))]) ⟨rfl, rfl, rfl, rfl, trivial⟩ ?_
      exact rj_forName_171 hC  Ra0 (hZ.ra 27 _) (hZ40.ra 28 _) hZ47 h51
  · have h52 := h4.2 c5
    refine g_aload_n hC dX12_forName_11 rfl ?_
    refine zr_geta hC hZ fl_X12_93 zb_27 (by decide) dX12_forName_12 ?_
    refine g_iload_n hC dX12_forName_15 rfl ?_
    obtain ⟨o53, h54⟩ := h52
    obtain ⟨o55, h56⟩ := h54
    refine zr_iald (v := (za s0 27 (Int.toNat a0))) hC hZ zk_27 zb_27 zn_27 (by decide) o53 o55 rfl dX12_forName_16 ?_
    refine g_istore_n (lv' := [some (.ref t), some (.int (zI a0)), some (.int (zI (za s0 27 (Int.toNat a0)))), none, none]) hC dX12_forName_17 (Nat.le_of_ble_eq_true rfl) rfl rfl ?_
    refine g_aload_n hC dX12_forName_18 rfl ?_
    refine g_iload_n hC dX12_forName_19 rfl ?_
    refine zr_callVv (As := [.int (zI (za s0 27 (Int.toNat a0)))]) hC hZ rfl (rm_constant X.la d b (hZ.ra 27 _) hZ.rf h56) cl_X12_756 rfl rfl (Nat.le_of_ble_eq_true rfl) ⟨Nat.le_of_ble_eq_true rfl, Nat.le_of_ble_eq_true rfl⟩ dX12_forName_20 (fun s58 F59 hZ61 h62 => ?_)
    refine g_aload_n hC dX12_forName_23 rfl ?_
    refine zr_get (e := (zv s58 58)) hC hZ61 fl_X12_187 zb_58 (by decide) rfl dX12_forName_24 ?_
    refine zr_if_eq (tgt := 63) hC (hZ61.rv 58) dX12_forName_27 (by decide) (fun c63 => ?_) (fun c63 => ?_)
    · have h64 := h62.1 c63
      refine g_lv (lv' := [some (.ref t), some (.int (zI a0)), none, none, none]) ⟨rfl, rfl, trivial⟩ ?_
      exact rj_forName_63 hC  Ra0 hZ61 h64
    · have h65 := h62.2 c63
      refine g_aload_n hC dX12_forName_30 rfl ?_
      refine zr_get (e := (zv s58 59)) hC hZ61 fl_X12_191 zb_59 (by decide) rfl dX12_forName_31 ?_
      refine zr_if_lt (tgt := 47) hC (hZ61.rv 59) dX12_forName_34 (by decide) (fun c66 => ?_) (fun c66 => ?_)
      · have h67 := h65.1 c66
        refine g_aload_n hC dX12_forName_47 rfl ?_
        refine g_bipush (v := zI 6) hC dX12_forName_48 rfl ?_
        refine g_aload_n hC dX12_forName_50 rfl ?_
        refine g_aload_n hC dX12_forName_51 rfl ?_
        refine zr_geta hC hZ61 fl_X12_114 zb_34 (by decide) dX12_forName_52 ?_
        refine g_iload_n hC dX12_forName_55 rfl ?_
        obtain ⟨o68, h69⟩ := h67
        obtain ⟨o70, h71⟩ := h69
        refine zr_iald (v := (za s58 34 (Int.toNat (za s0 27 (Int.toNat a0))))) hC hZ61 zk_34 zb_34 zn_34 (by decide) o68 o70 rfl dX12_forName_56 ?_
        refine zr_callVi (As := [.int (zI (za s58 34 (Int.toNat (za s0 27 (Int.toNat a0)))))]) hC hZ61 rfl (rm_place X.la d b (hZ61.ra 34 _) hZ61.rf h71) cl_X12_613 rfl rfl (Nat.le_of_ble_eq_true rfl) ⟨Nat.le_of_ble_eq_true rfl, Nat.le_of_ble_eq_true rfl⟩ dX12_forName_57 (fun r72 s73 F74 R75 hZ76 h77 => ?_)
        refine zr_callVv (As := [.int (zI 6), .int (zI r72)]) hC hZ76 rfl (rm_fault X.la d b (by decide) R75 hZ76.rf h77) cl_X12_605 rfl rfl (Nat.le_of_ble_eq_true rfl) ⟨Nat.le_of_ble_eq_true rfl, Nat.le_of_ble_eq_true rfl⟩ dX12_forName_60 (fun s79 F80 hZ82 h83 => ?_)
        refine g_lv (lv' := [some (.ref t), some (.int (zI a0)), none, none, none]) ⟨rfl, rfl, trivial⟩ ?_
        exact rj_forName_63 hC  Ra0 hZ82 h83
      · have h84 := h65.2 c66
        refine g_aload_n hC dX12_forName_37 rfl ?_
        refine zr_get (e := (zv s58 59)) hC hZ61 fl_X12_191 zb_59 (by decide) rfl dX12_forName_38 ?_
        refine g_sipush (v := zI 30000) hC dX12_forName_41 rfl ?_
        refine zr_icmp_le (tgt := 63) hC (hZ61.rv 59) (by decide) dX12_forName_44 (by decide) (fun c85 => ?_) (fun c85 => ?_)
        · have h86 := h84.1 c85
          refine g_lv (lv' := [some (.ref t), some (.int (zI a0)), none, none, none]) ⟨rfl, rfl, trivial⟩ ?_
          exact rj_forName_63 hC  Ra0 hZ61 h86
        · have h87 := h84.2 c85
          refine g_aload_n hC dX12_forName_47 rfl ?_
          refine g_bipush (v := zI 6) hC dX12_forName_48 rfl ?_
          refine g_aload_n hC dX12_forName_50 rfl ?_
          refine g_aload_n hC dX12_forName_51 rfl ?_
          refine zr_geta hC hZ61 fl_X12_114 zb_34 (by decide) dX12_forName_52 ?_
          refine g_iload_n hC dX12_forName_55 rfl ?_
          obtain ⟨o88, h89⟩ := h87
          obtain ⟨o90, h91⟩ := h89
          refine zr_iald (v := (za s58 34 (Int.toNat (za s0 27 (Int.toNat a0))))) hC hZ61 zk_34 zb_34 zn_34 (by decide) o88 o90 rfl dX12_forName_56 ?_
          refine zr_callVi (As := [.int (zI (za s58 34 (Int.toNat (za s0 27 (Int.toNat a0)))))]) hC hZ61 rfl (rm_place X.la d b (hZ61.ra 34 _) hZ61.rf h91) cl_X12_613 rfl rfl (Nat.le_of_ble_eq_true rfl) ⟨Nat.le_of_ble_eq_true rfl, Nat.le_of_ble_eq_true rfl⟩ dX12_forName_57 (fun r92 s93 F94 R95 hZ96 h97 => ?_)
          refine zr_callVv (As := [.int (zI 6), .int (zI r92)]) hC hZ96 rfl (rm_fault X.la d b (by decide) R95 hZ96.rf h97) cl_X12_605 rfl rfl (Nat.le_of_ble_eq_true rfl) ⟨Nat.le_of_ble_eq_true rfl, Nat.le_of_ble_eq_true rfl⟩ dX12_forName_60 (fun s99 F100 hZ102 h103 => ?_)
          refine g_lv (lv' := [some (.ref t), some (.int (zI a0)), none, none, none]) ⟨rfl, rfl, trivial⟩ ?_
          exact rj_forName_63 hC  Ra0 hZ102 h103
