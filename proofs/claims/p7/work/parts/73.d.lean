/-! the reference as formulas: one, scan, node, leaf, shut, pairs, goal, tk, tkNext, take, deeper, isD, openSection, shutSection, levelOf, binary, calls, primary -/
theorem dX12_one_0 : decode cX12_one 0 = .ok (.iload_n 1, 1) := by decide +kernel
theorem dX12_one_1 : decode cX12_one 1 = .ok (.istore_n 3, 1) := by decide +kernel
theorem dX12_one_2 : decode cX12_one 2 = .ok (.iload_n 2, 1) := by decide +kernel
theorem dX12_one_3 : decode cX12_one 3 = .ok (.invokestatic 467, 3) := by decide +kernel
theorem dX12_one_6 : decode cX12_one 6 = .ok (.ifCond .eq 77, 3) := by decide +kernel
theorem dX12_one_9 : decode cX12_one 9 = .ok (.aload_n 0, 1) := by decide +kernel
theorem dX12_one_10 : decode cX12_one 10 = .ok (.iload_n 3, 1) := by decide +kernel
theorem dX12_one_11 : decode cX12_one 11 = .ok (.invokevirtual 483, 3) := by decide +kernel
theorem dX12_one_14 : decode cX12_one 14 = .ok (.invokestatic 500, 3) := by decide +kernel
theorem dX12_one_17 : decode cX12_one 17 = .ok (.ifCond .eq 17, 3) := by decide +kernel
theorem dX12_one_20 : decode cX12_one 20 = .ok (.iload_n 3, 1) := by decide +kernel
theorem dX12_one_21 : decode cX12_one 21 = .ok (.aload_n 0, 1) := by decide +kernel
theorem dX12_one_22 : decode cX12_one 22 = .ok (.getfield 23, 3) := by decide +kernel
theorem dX12_one_25 : decode cX12_one 25 = .ok (.if_icmp .ge 9, 3) := by decide +kernel
theorem dX12_one_28 : decode cX12_one 28 = .ok (.iinc 3 1, 3) := by decide +kernel
theorem dX12_one_31 : decode cX12_one 31 = .ok (.goto (-22), 3) := by decide +kernel
theorem dX12_one_34 : decode cX12_one 34 = .ok (.iload_n 3, 1) := by decide +kernel
theorem dX12_one_35 : decode cX12_one 35 = .ok (.iload_n 1, 1) := by decide +kernel
theorem dX12_one_36 : decode cX12_one 36 = .ok (.isub, 1) := by decide +kernel
theorem dX12_one_37 : decode cX12_one 37 = .ok (.bipush 40, 2) := by decide +kernel
theorem dX12_one_39 : decode cX12_one 39 = .ok (.if_icmp .le 7, 3) := by decide +kernel
theorem dX12_one_42 : decode cX12_one 42 = .ok (.iconst (-1), 1) := by decide +kernel
theorem dX12_one_43 : decode cX12_one 43 = .ok (.iload_n 1, 1) := by decide +kernel
theorem dX12_one_44 : decode cX12_one 44 = .ok (.isub, 1) := by decide +kernel
theorem dX12_one_45 : decode cX12_one 45 = .ok (.ireturn, 1) := by decide +kernel
theorem dX12_one_46 : decode cX12_one 46 = .ok (.aload_n 0, 1) := by decide +kernel
theorem dX12_one_47 : decode cX12_one 47 = .ok (.iload_n 1, 1) := by decide +kernel
theorem dX12_one_48 : decode cX12_one 48 = .ok (.iload_n 3, 1) := by decide +kernel
theorem dX12_one_49 : decode cX12_one 49 = .ok (.iload_n 1, 1) := by decide +kernel
theorem dX12_one_50 : decode cX12_one 50 = .ok (.isub, 1) := by decide +kernel
theorem dX12_one_51 : decode cX12_one 51 = .ok (.invokevirtual 503, 3) := by decide +kernel
theorem dX12_one_54 : decode cX12_one 54 = .ok (.istore 4, 2) := by decide +kernel
theorem dX12_one_56 : decode cX12_one 56 = .ok (.aload_n 0, 1) := by decide +kernel
theorem dX12_one_57 : decode cX12_one 57 = .ok (.iload 4, 2) := by decide +kernel
theorem dX12_one_59 : decode cX12_one 59 = .ok (.iload_n 1, 1) := by decide +kernel
theorem dX12_one_60 : decode cX12_one 60 = .ok (.iload 4, 2) := by decide +kernel
theorem dX12_one_62 : decode cX12_one 62 = .ok (.iconst 1, 1) := by decide +kernel
theorem dX12_one_63 : decode cX12_one 63 = .ok (.if_icmp .ne 14, 3) := by decide +kernel
theorem dX12_one_66 : decode cX12_one 66 = .ok (.aload_n 0, 1) := by decide +kernel
theorem dX12_one_67 : decode cX12_one 67 = .ok (.iload_n 1, 1) := by decide +kernel
theorem dX12_one_68 : decode cX12_one 68 = .ok (.iload_n 3, 1) := by decide +kernel
theorem dX12_one_69 : decode cX12_one 69 = .ok (.iload_n 1, 1) := by decide +kernel
theorem dX12_one_70 : decode cX12_one 70 = .ok (.isub, 1) := by decide +kernel
theorem dX12_one_71 : decode cX12_one 71 = .ok (.invokevirtual 506, 3) := by decide +kernel
theorem dX12_one_74 : decode cX12_one 74 = .ok (.goto 4, 3) := by decide +kernel
theorem dX12_one_77 : decode cX12_one 77 = .ok (.iconst 0, 1) := by decide +kernel
theorem dX12_one_78 : decode cX12_one 78 = .ok (.invokevirtual 509, 3) := by decide +kernel
theorem dX12_one_81 : decode cX12_one 81 = .ok (.iload_n 3, 1) := by decide +kernel
theorem dX12_one_82 : decode cX12_one 82 = .ok (.ireturn, 1) := by decide +kernel
theorem dX12_one_83 : decode cX12_one 83 = .ok (.iload_n 2, 1) := by decide +kernel
theorem dX12_one_84 : decode cX12_one 84 = .ok (.invokestatic 471, 3) := by decide +kernel
theorem dX12_one_87 : decode cX12_one 87 = .ok (.ifCond .ne 9, 3) := by decide +kernel
theorem dX12_one_90 : decode cX12_one 90 = .ok (.iload_n 2, 1) := by decide +kernel
theorem dX12_one_91 : decode cX12_one 91 = .ok (.bipush 35, 2) := by decide +kernel
theorem dX12_one_93 : decode cX12_one 93 = .ok (.if_icmp .ne 74, 3) := by decide +kernel
theorem dX12_one_96 : decode cX12_one 96 = .ok (.iload_n 2, 1) := by decide +kernel
theorem dX12_one_97 : decode cX12_one 97 = .ok (.invokestatic 471, 3) := by decide +kernel
theorem dX12_one_100 : decode cX12_one 100 = .ok (.ifCond .eq 13, 3) := by decide +kernel
theorem dX12_one_103 : decode cX12_one 103 = .ok (.aload_n 0, 1) := by decide +kernel
theorem dX12_one_104 : decode cX12_one 104 = .ok (.iload_n 1, 1) := by decide +kernel
theorem dX12_one_105 : decode cX12_one 105 = .ok (.bipush 10, 2) := by decide +kernel
theorem dX12_one_107 : decode cX12_one 107 = .ok (.invokevirtual 513, 3) := by decide +kernel
theorem dX12_one_110 : decode cX12_one 110 = .ok (.goto 36, 3) := by decide +kernel
theorem dX12_one_113 : decode cX12_one 113 = .ok (.aload_n 0, 1) := by decide +kernel
theorem dX12_one_114 : decode cX12_one 114 = .ok (.iload_n 1, 1) := by decide +kernel
theorem dX12_one_115 : decode cX12_one 115 = .ok (.iconst 1, 1) := by decide +kernel
theorem dX12_one_116 : decode cX12_one 116 = .ok (.iadd, 1) := by decide +kernel
theorem dX12_one_117 : decode cX12_one 117 = .ok (.invokevirtual 483, 3) := by decide +kernel
theorem dX12_one_120 : decode cX12_one 120 = .ok (.bipush 88, 2) := by decide +kernel
theorem dX12_one_122 : decode cX12_one 122 = .ok (.if_icmp .ne 15, 3) := by decide +kernel
theorem dX12_one_125 : decode cX12_one 125 = .ok (.aload_n 0, 1) := by decide +kernel
theorem dX12_one_126 : decode cX12_one 126 = .ok (.iload_n 1, 1) := by decide +kernel
theorem dX12_one_127 : decode cX12_one 127 = .ok (.iconst 2, 1) := by decide +kernel
theorem dX12_one_128 : decode cX12_one 128 = .ok (.iadd, 1) := by decide +kernel
theorem dX12_one_129 : decode cX12_one 129 = .ok (.bipush 16, 2) := by decide +kernel
theorem dX12_one_131 : decode cX12_one 131 = .ok (.invokevirtual 513, 3) := by decide +kernel
theorem dX12_one_134 : decode cX12_one 134 = .ok (.goto 12, 3) := by decide +kernel
theorem dX12_one_137 : decode cX12_one 137 = .ok (.aload_n 0, 1) := by decide +kernel
theorem dX12_one_138 : decode cX12_one 138 = .ok (.iload_n 1, 1) := by decide +kernel
theorem dX12_one_139 : decode cX12_one 139 = .ok (.iconst 1, 1) := by decide +kernel
theorem dX12_one_140 : decode cX12_one 140 = .ok (.iadd, 1) := by decide +kernel
theorem dX12_one_141 : decode cX12_one 141 = .ok (.bipush 8, 2) := by decide +kernel
theorem dX12_one_143 : decode cX12_one 143 = .ok (.invokevirtual 513, 3) := by decide +kernel
theorem dX12_one_146 : decode cX12_one 146 = .ok (.istore_n 3, 1) := by decide +kernel
theorem dX12_one_147 : decode cX12_one 147 = .ok (.iload_n 3, 1) := by decide +kernel
theorem dX12_one_148 : decode cX12_one 148 = .ok (.ifCond .ge 7, 3) := by decide +kernel
theorem dX12_one_151 : decode cX12_one 151 = .ok (.iconst (-1), 1) := by decide +kernel
theorem dX12_one_152 : decode cX12_one 152 = .ok (.iload_n 1, 1) := by decide +kernel
theorem dX12_one_153 : decode cX12_one 153 = .ok (.isub, 1) := by decide +kernel
theorem dX12_one_154 : decode cX12_one 154 = .ok (.ireturn, 1) := by decide +kernel
theorem dX12_one_155 : decode cX12_one 155 = .ok (.aload_n 0, 1) := by decide +kernel
theorem dX12_one_156 : decode cX12_one 156 = .ok (.iconst 2, 1) := by decide +kernel
theorem dX12_one_157 : decode cX12_one 157 = .ok (.iload_n 1, 1) := by decide +kernel
theorem dX12_one_158 : decode cX12_one 158 = .ok (.aload_n 0, 1) := by decide +kernel
theorem dX12_one_159 : decode cX12_one 159 = .ok (.getfield 78, 3) := by decide +kernel
theorem dX12_one_162 : decode cX12_one 162 = .ok (.invokevirtual 509, 3) := by decide +kernel
theorem dX12_one_165 : decode cX12_one 165 = .ok (.iload_n 3, 1) := by decide +kernel
theorem dX12_one_166 : decode cX12_one 166 = .ok (.ireturn, 1) := by decide +kernel
theorem dX12_one_167 : decode cX12_one 167 = .ok (.iload_n 2, 1) := by decide +kernel
theorem dX12_one_168 : decode cX12_one 168 = .ok (.bipush 39, 2) := by decide +kernel
theorem dX12_one_170 : decode cX12_one 170 = .ok (.if_icmp .ne 45, 3) := by decide +kernel
theorem dX12_one_173 : decode cX12_one 173 = .ok (.aload_n 0, 1) := by decide +kernel
theorem dX12_one_174 : decode cX12_one 174 = .ok (.iload_n 1, 1) := by decide +kernel
theorem dX12_one_175 : decode cX12_one 175 = .ok (.iconst 1, 1) := by decide +kernel
theorem dX12_one_176 : decode cX12_one 176 = .ok (.iadd, 1) := by decide +kernel
theorem dX12_one_177 : decode cX12_one 177 = .ok (.bipush 39, 2) := by decide +kernel
theorem dX12_one_179 : decode cX12_one 179 = .ok (.invokevirtual 487, 3) := by decide +kernel
theorem dX12_one_182 : decode cX12_one 182 = .ok (.istore_n 3, 1) := by decide +kernel
theorem dX12_one_183 : decode cX12_one 183 = .ok (.iload_n 3, 1) := by decide +kernel
theorem dX12_one_184 : decode cX12_one 184 = .ok (.ifCond .lt 13, 3) := by decide +kernel
theorem dX12_one_187 : decode cX12_one 187 = .ok (.aload_n 0, 1) := by decide +kernel
theorem dX12_one_188 : decode cX12_one 188 = .ok (.iload_n 3, 1) := by decide +kernel
theorem dX12_one_189 : decode cX12_one 189 = .ok (.invokevirtual 483, 3) := by decide +kernel
theorem dX12_one_192 : decode cX12_one 192 = .ok (.bipush 39, 2) := by decide +kernel
theorem dX12_one_194 : decode cX12_one 194 = .ok (.if_icmp .eq 7, 3) := by decide +kernel
theorem dX12_one_197 : decode cX12_one 197 = .ok (.iconst (-1), 1) := by decide +kernel
theorem dX12_one_198 : decode cX12_one 198 = .ok (.iload_n 1, 1) := by decide +kernel
theorem dX12_one_199 : decode cX12_one 199 = .ok (.isub, 1) := by decide +kernel
theorem dX12_one_200 : decode cX12_one 200 = .ok (.ireturn, 1) := by decide +kernel
theorem dX12_one_201 : decode cX12_one 201 = .ok (.aload_n 0, 1) := by decide +kernel
theorem dX12_one_202 : decode cX12_one 202 = .ok (.iconst 2, 1) := by decide +kernel
theorem dX12_one_203 : decode cX12_one 203 = .ok (.iload_n 1, 1) := by decide +kernel
theorem dX12_one_204 : decode cX12_one 204 = .ok (.aload_n 0, 1) := by decide +kernel
theorem dX12_one_205 : decode cX12_one 205 = .ok (.getfield 75, 3) := by decide +kernel
theorem dX12_one_208 : decode cX12_one 208 = .ok (.invokevirtual 509, 3) := by decide +kernel
theorem dX12_one_211 : decode cX12_one 211 = .ok (.iload_n 3, 1) := by decide +kernel
theorem dX12_one_212 : decode cX12_one 212 = .ok (.iconst 1, 1) := by decide +kernel
theorem dX12_one_213 : decode cX12_one 213 = .ok (.iadd, 1) := by decide +kernel
theorem dX12_one_214 : decode cX12_one 214 = .ok (.ireturn, 1) := by decide +kernel
theorem dX12_one_215 : decode cX12_one 215 = .ok (.iload_n 2, 1) := by decide +kernel
theorem dX12_one_216 : decode cX12_one 216 = .ok (.bipush 34, 2) := by decide +kernel
theorem dX12_one_218 : decode cX12_one 218 = .ok (.if_icmp .ne 31, 3) := by decide +kernel
theorem dX12_one_221 : decode cX12_one 221 = .ok (.aload_n 0, 1) := by decide +kernel
theorem dX12_one_222 : decode cX12_one 222 = .ok (.iload_n 1, 1) := by decide +kernel
theorem dX12_one_223 : decode cX12_one 223 = .ok (.invokevirtual 516, 3) := by decide +kernel
theorem dX12_one_226 : decode cX12_one 226 = .ok (.istore_n 3, 1) := by decide +kernel
theorem dX12_one_227 : decode cX12_one 227 = .ok (.iload_n 3, 1) := by decide +kernel
theorem dX12_one_228 : decode cX12_one 228 = .ok (.ifCond .ge 7, 3) := by decide +kernel
theorem dX12_one_231 : decode cX12_one 231 = .ok (.iconst (-1), 1) := by decide +kernel
theorem dX12_one_232 : decode cX12_one 232 = .ok (.iload_n 1, 1) := by decide +kernel
theorem dX12_one_233 : decode cX12_one 233 = .ok (.isub, 1) := by decide +kernel
theorem dX12_one_234 : decode cX12_one 234 = .ok (.ireturn, 1) := by decide +kernel
theorem dX12_one_235 : decode cX12_one 235 = .ok (.aload_n 0, 1) := by decide +kernel
theorem dX12_one_236 : decode cX12_one 236 = .ok (.iconst 4, 1) := by decide +kernel
theorem dX12_one_237 : decode cX12_one 237 = .ok (.iload_n 1, 1) := by decide +kernel
theorem dX12_one_238 : decode cX12_one 238 = .ok (.aload_n 0, 1) := by decide +kernel
theorem dX12_one_239 : decode cX12_one 239 = .ok (.getfield 66, 3) := by decide +kernel
theorem dX12_one_242 : decode cX12_one 242 = .ok (.iconst 1, 1) := by decide +kernel
theorem dX12_one_243 : decode cX12_one 243 = .ok (.isub, 1) := by decide +kernel
theorem dX12_one_244 : decode cX12_one 244 = .ok (.invokevirtual 509, 3) := by decide +kernel
theorem dX12_one_247 : decode cX12_one 247 = .ok (.iload_n 3, 1) := by decide +kernel
theorem dX12_one_248 : decode cX12_one 248 = .ok (.ireturn, 1) := by decide +kernel
theorem dX12_one_249 : decode cX12_one 249 = .ok (.aload_n 0, 1) := by decide +kernel
theorem dX12_one_250 : decode cX12_one 250 = .ok (.iload_n 1, 1) := by decide +kernel
theorem dX12_one_251 : decode cX12_one 251 = .ok (.invokevirtual 519, 3) := by decide +kernel
theorem dX12_one_254 : decode cX12_one 254 = .ok (.istore 4, 2) := by decide +kernel
theorem dX12_one_256 : decode cX12_one 256 = .ok (.iload 4, 2) := by decide +kernel
theorem dX12_one_258 : decode cX12_one 258 = .ok (.ifCond .ge 7, 3) := by decide +kernel
theorem dX12_one_261 : decode cX12_one 261 = .ok (.iconst (-1), 1) := by decide +kernel
theorem dX12_one_262 : decode cX12_one 262 = .ok (.iload_n 1, 1) := by decide +kernel
theorem dX12_one_263 : decode cX12_one 263 = .ok (.isub, 1) := by decide +kernel
theorem dX12_one_264 : decode cX12_one 264 = .ok (.ireturn, 1) := by decide +kernel
theorem dX12_one_265 : decode cX12_one 265 = .ok (.iload_n 1, 1) := by decide +kernel
theorem dX12_one_266 : decode cX12_one 266 = .ok (.aload_n 0, 1) := by decide +kernel
theorem dX12_one_267 : decode cX12_one 267 = .ok (.getfield 81, 3) := by decide +kernel
theorem dX12_one_270 : decode cX12_one 270 = .ok (.iadd, 1) := by decide +kernel
theorem dX12_one_271 : decode cX12_one 271 = .ok (.istore_n 3, 1) := by decide +kernel
theorem dX12_one_272 : decode cX12_one 272 = .ok (.iconst (-1), 1) := by decide +kernel
theorem dX12_one_273 : decode cX12_one 273 = .ok (.istore 5, 2) := by decide +kernel
theorem dX12_one_275 : decode cX12_one 275 = .ok (.iload 4, 2) := by decide +kernel
theorem dX12_one_277 : decode cX12_one 277 = .ok (.bipush 10, 2) := by decide +kernel
theorem dX12_one_279 : decode cX12_one 279 = .ok (.if_icmp .eq 10, 3) := by decide +kernel
theorem dX12_one_282 : decode cX12_one 282 = .ok (.iload 4, 2) := by decide +kernel
theorem dX12_one_284 : decode cX12_one 284 = .ok (.bipush 11, 2) := by decide +kernel
theorem dX12_one_286 : decode cX12_one 286 = .ok (.if_icmp .ne 63, 3) := by decide +kernel
theorem dX12_one_289 : decode cX12_one 289 = .ok (.aload_n 0, 1) := by decide +kernel
theorem dX12_one_290 : decode cX12_one 290 = .ok (.iload_n 3, 1) := by decide +kernel
theorem dX12_one_291 : decode cX12_one 291 = .ok (.invokevirtual 483, 3) := by decide +kernel
theorem dX12_one_294 : decode cX12_one 294 = .ok (.invokestatic 500, 3) := by decide +kernel
theorem dX12_one_297 : decode cX12_one 297 = .ok (.ifCond .eq 17, 3) := by decide +kernel
theorem dX12_one_300 : decode cX12_one 300 = .ok (.iload_n 3, 1) := by decide +kernel
theorem dX12_one_301 : decode cX12_one 301 = .ok (.aload_n 0, 1) := by decide +kernel
theorem dX12_one_302 : decode cX12_one 302 = .ok (.getfield 23, 3) := by decide +kernel
theorem dX12_one_305 : decode cX12_one 305 = .ok (.if_icmp .ge 9, 3) := by decide +kernel
theorem dX12_one_308 : decode cX12_one 308 = .ok (.iinc 3 1, 3) := by decide +kernel
theorem dX12_one_311 : decode cX12_one 311 = .ok (.goto (-22), 3) := by decide +kernel
theorem dX12_one_314 : decode cX12_one 314 = .ok (.iload_n 3, 1) := by decide +kernel
theorem dX12_one_315 : decode cX12_one 315 = .ok (.iload_n 1, 1) := by decide +kernel
theorem dX12_one_316 : decode cX12_one 316 = .ok (.isub, 1) := by decide +kernel
theorem dX12_one_317 : decode cX12_one 317 = .ok (.iconst 2, 1) := by decide +kernel
theorem dX12_one_318 : decode cX12_one 318 = .ok (.isub, 1) := by decide +kernel
theorem dX12_one_319 : decode cX12_one 319 = .ok (.bipush 40, 2) := by decide +kernel
theorem dX12_one_321 : decode cX12_one 321 = .ok (.if_icmp .le 7, 3) := by decide +kernel
theorem dX12_one_324 : decode cX12_one 324 = .ok (.iconst (-1), 1) := by decide +kernel
theorem dX12_one_325 : decode cX12_one 325 = .ok (.iload_n 1, 1) := by decide +kernel
theorem dX12_one_326 : decode cX12_one 326 = .ok (.isub, 1) := by decide +kernel
theorem dX12_one_327 : decode cX12_one 327 = .ok (.ireturn, 1) := by decide +kernel
theorem dX12_one_328 : decode cX12_one 328 = .ok (.iload_n 3, 1) := by decide +kernel
theorem dX12_one_329 : decode cX12_one 329 = .ok (.iload_n 1, 1) := by decide +kernel
theorem dX12_one_330 : decode cX12_one 330 = .ok (.iconst 2, 1) := by decide +kernel
theorem dX12_one_331 : decode cX12_one 331 = .ok (.iadd, 1) := by decide +kernel
theorem dX12_one_332 : decode cX12_one 332 = .ok (.if_icmp .le 17, 3) := by decide +kernel
theorem dX12_one_335 : decode cX12_one 335 = .ok (.aload_n 0, 1) := by decide +kernel
theorem dX12_one_336 : decode cX12_one 336 = .ok (.iload_n 1, 1) := by decide +kernel
theorem dX12_one_337 : decode cX12_one 337 = .ok (.iconst 2, 1) := by decide +kernel
theorem dX12_one_338 : decode cX12_one 338 = .ok (.iadd, 1) := by decide +kernel
theorem dX12_one_339 : decode cX12_one 339 = .ok (.iload_n 3, 1) := by decide +kernel
theorem dX12_one_340 : decode cX12_one 340 = .ok (.iload_n 1, 1) := by decide +kernel
theorem dX12_one_341 : decode cX12_one 341 = .ok (.isub, 1) := by decide +kernel
theorem dX12_one_342 : decode cX12_one 342 = .ok (.iconst 2, 1) := by decide +kernel
theorem dX12_one_343 : decode cX12_one 343 = .ok (.isub, 1) := by decide +kernel
theorem dX12_one_344 : decode cX12_one 344 = .ok (.invokevirtual 506, 3) := by decide +kernel
theorem dX12_one_347 : decode cX12_one 347 = .ok (.istore 5, 2) := by decide +kernel
theorem dX12_one_349 : decode cX12_one 349 = .ok (.aload_n 0, 1) := by decide +kernel
theorem dX12_one_350 : decode cX12_one 350 = .ok (.iload 4, 2) := by decide +kernel
theorem dX12_one_352 : decode cX12_one 352 = .ok (.iload_n 1, 1) := by decide +kernel
theorem dX12_one_353 : decode cX12_one 353 = .ok (.iload 5, 2) := by decide +kernel
theorem dX12_one_355 : decode cX12_one 355 = .ok (.invokevirtual 509, 3) := by decide +kernel
theorem dX12_one_358 : decode cX12_one 358 = .ok (.iload_n 3, 1) := by decide +kernel
theorem dX12_one_359 : decode cX12_one 359 = .ok (.ireturn, 1) := by decide +kernel
def wr_one_146 (Q : Int → zS → Prop)  (s0 : zS) (x1 : Int) (y0 : Int) : Prop :=
  ((0 ≤ y0 → wr_token s0 2 x1 (zv s0 22) (fun s4 => Q y0 s4)) ∧ (¬ 0 ≤ y0 → (zR ((-1) - x1)) ∧ Q ((-1) - x1) s0))
def wr_one_96 (Q : Int → zS → Prop)  (s0 : zS) (x1 : Int) (x2 : Int) : Prop :=
  wr_isDigit s0 x2 (fun r1 s2 => ((r1 = 0 → (zR (x1 + 1)) ∧ wr_look s2 (x1 + 1) (fun r11 s12 => ((¬ r11 = 88 → wr_digits s12 (x1 + 1) 8 (fun r19 s20 => wr_one_146 Q  s20 x1 r19)) ∧ (r11 = 88 → (zR (x1 + 2)) ∧ wr_digits s12 (x1 + 2) 16 (fun r28 s29 => wr_one_146 Q  s29 x1 r28))))) ∧ (¬ r1 = 0 → wr_digits s2 x1 10 (fun r35 s36 => wr_one_146 Q  s36 x1 r35))))
def wr_one_314 (Q : Int → zS → Prop)  (s0 : zS) (x1 : Int) (x3 : Int) (x4 : Int) (x5 : Int) : Prop :=
  (zR ((x3 - x1) - 2)) ∧ ((((x3 - x1) - 2) ≤ 40 → (zR (x1 + 2)) ∧ ((x3 ≤ (x1 + 2) → wr_token s0 x4 x1 x5 (fun s10 => Q x3 s10)) ∧ (¬ x3 ≤ (x1 + 2) → wr_nameOf s0 (x1 + 2) ((x3 - x1) - 2) (fun r16 s17 => wr_token s17 x4 x1 r16 (fun s23 => Q x3 s23))))) ∧ (¬ ((x3 - x1) - 2) ≤ 40 → (zR ((-1) - x1)) ∧ Q ((-1) - x1) s0))
def wr_one_289B (Q : Int → zS → Prop) (k289 : zS → Int → Int → Int → Int → Prop) (s0 : zS) (x1 : Int) (x3 : Int) (x4 : Int) (x5 : Int) : Prop :=
  wr_look s0 x3 (fun r1 s2 => wr_isRest s2 r1 (fun r7 s8 => ((r7 = 0 → wr_one_314 Q  s8 x1 x3 x4 x5) ∧ (¬ r7 = 0 → (((zv s8 4) ≤ x3 → wr_one_314 Q  s8 x1 x3 x4 x5) ∧ (¬ (zv s8 4) ≤ x3 → (zR (x3 + 1)) ∧ k289 s8 x1 (x3 + 1) x4 x5))))))
def wr_one_289 (Q : Int → zS → Prop)  : Nat → zS → Int → Int → Int → Int → Prop
  | 0 => fun _ _ _ _ _ => False
  | m + 1 => fun s0 x1 x3 x4 x5 => wr_one_289B Q  (wr_one_289 Q  m) s0 x1 x3 x4 x5
def wr_one_34 (Q : Int → zS → Prop)  (s0 : zS) (x1 : Int) (x3 : Int) : Prop :=
  (zR (x3 - x1)) ∧ (((x3 - x1) ≤ 40 → wr_keyword s0 x1 (x3 - x1) (fun r5 s6 => ((¬ r5 = 1 → wr_token s6 r5 x1 0 (fun s14 => Q x3 s14)) ∧ (r5 = 1 → wr_nameOf s6 x1 (x3 - x1) (fun r20 s21 => wr_token s21 r5 x1 r20 (fun s27 => Q x3 s27)))))) ∧ (¬ (x3 - x1) ≤ 40 → (zR ((-1) - x1)) ∧ Q ((-1) - x1) s0))
def wr_one_9B (Q : Int → zS → Prop) (k9 : zS → Int → Int → Prop) (s0 : zS) (x1 : Int) (x3 : Int) : Prop :=
  wr_look s0 x3 (fun r1 s2 => wr_isRest s2 r1 (fun r7 s8 => ((r7 = 0 → wr_one_34 Q  s8 x1 x3) ∧ (¬ r7 = 0 → (((zv s8 4) ≤ x3 → wr_one_34 Q  s8 x1 x3) ∧ (¬ (zv s8 4) ≤ x3 → (zR (x3 + 1)) ∧ k9 s8 x1 (x3 + 1)))))))
def wr_one_9 (Q : Int → zS → Prop)  : Nat → zS → Int → Int → Prop
  | 0 => fun _ _ _ => False
  | m + 1 => fun s0 x1 x3 => wr_one_9B Q  (wr_one_9 Q  m) s0 x1 x3
def wr_one (s0 : zS) (a0 : Int) (a1 : Int) (Q : Int → zS → Prop) : Prop :=
  wr_isLetter s0 a1 (fun r1 s2 => ((r1 = 0 → wr_isDigit s2 a1 (fun r9 s10 => ((¬ r9 = 0 → wr_one_96 Q  s10 a0 a1) ∧ (r9 = 0 → ((¬ a1 = 35 → ((¬ a1 = 39 → ((¬ a1 = 34 → wr_signAt s10 a0 (fun r24 s25 => ((0 ≤ r24 → ((r24 = 10 → (zR (a0 + (zv s25 23))) ∧ ∃ n, wr_one_289 Q  n s25 a0 (a0 + (zv s25 23)) r24 (-1)) ∧ (¬ r24 = 10 → ((¬ r24 = 11 → wr_token s25 r24 a0 (-1) (fun s42 => (zR (a0 + (zv s25 23))) ∧ Q (a0 + (zv s25 23)) s42)) ∧ (r24 = 11 → (zR (a0 + (zv s25 23))) ∧ ∃ n, wr_one_289 Q  n s25 a0 (a0 + (zv s25 23)) r24 (-1)))))) ∧ (¬ 0 ≤ r24 → (zR ((-1) - a0)) ∧ Q ((-1) - a0) s25)))) ∧ (a1 = 34 → wr_stringAt s10 a0 (fun r58 s59 => ((0 ≤ r58 → (zR ((zv s59 18) - 1)) ∧ wr_token s59 4 a0 ((zv s59 18) - 1) (fun s69 => Q r58 s69)) ∧ (¬ 0 ≤ r58 → (zR ((-1) - a0)) ∧ Q ((-1) - a0) s59)))))) ∧ (a1 = 39 → (zR (a0 + 1)) ∧ wr_oneC s10 (a0 + 1) 39 (fun r80 s81 => ((r80 < 0 → (zR ((-1) - a0)) ∧ Q ((-1) - a0) s81) ∧ (¬ r80 < 0 → wr_look s81 r80 (fun r91 s92 => ((r91 = 39 → wr_token s92 2 a0 (zv s92 21) (fun s100 => (zR (r80 + 1)) ∧ Q (r80 + 1) s100)) ∧ (¬ r91 = 39 → (zR ((-1) - a0)) ∧ Q ((-1) - a0) s92))))))))) ∧ (a1 = 35 → wr_one_96 Q  s10 a0 a1)))))) ∧ (¬ r1 = 0 → ∃ n, wr_one_9 Q  n s2 a0 a0)))
set_option maxHeartbeats 4000000 in
set_option maxRecDepth 100000 in
theorem rj_one_146 {X : gX} {d : gD} {b t : Nat} {T : Nat → Nat} {F0 : gM} (hC : gC RX12 cX12_one 6 (some .int) "one" (gR 3 0 0) d b X) {Q : Int → zS → Prop}   {F : gM} {s0 : zS} {x1 : Int} {y0 : Int} (Rx1 : zR x1) (Ry0 : zR y0) (hZ : zZ d t T F0 F s0) (hw : wr_one_146 Q  s0 x1 y0) : gG X d b (zQi X d b t T F0 Q) F 0 0 146 [some (.ref t), some (.int (zI x1)), none, none, none, none] [.int (zI y0)] := by
  unfold wr_one_146 at hw
  refine g_istore_n (lv' := [some (.ref t), some (.int (zI x1)), none, some (.int (zI y0)), none, none]) hC dX12_one_146 (Nat.le_of_ble_eq_true rfl) rfl rfl ?_
  refine g_iload_n hC dX12_one_147 rfl ?_
  refine zr_if_ge (tgt := 155) hC Ry0 dX12_one_148 (by decide) (fun c1 => ?_) (fun c1 => ?_)
  · have h2 := hw.1 c1
    refine g_aload_n hC dX12_one_155 rfl ?_
    refine g_iconst (v := zI 2) hC dX12_one_156 rfl ?_
    refine g_iload_n hC dX12_one_157 rfl ?_
    refine g_aload_n hC dX12_one_158 rfl ?_
    refine zr_get (e := (zv s0 22)) hC hZ fl_X12_78 zb_22 (by decide) rfl dX12_one_159 ?_
    refine zr_callVv (As := [.int (zI 2), .int (zI x1), .int (zI (zv s0 22))]) hC hZ rfl (rm_token X.la d b (by decide) Rx1 (hZ.rv 22) hZ.rf h2) cl_X12_509 rfl rfl (Nat.le_of_ble_eq_true rfl) ⟨Nat.le_of_ble_eq_true rfl, Nat.le_of_ble_eq_true rfl⟩ dX12_one_162 (fun s4 F5 hZ7 h8 => ?_)
    refine g_iload_n hC dX12_one_165 rfl ?_
    exact zr_iret hC hZ7 Ry0 h8 dX12_one_166
  · have h9 := hw.2 c1
    refine g_iconst (v := zI (-1)) hC dX12_one_151 rfl ?_
    refine g_iload_n hC dX12_one_152 rfl ?_
    refine zr_isub hC dX12_one_153 ?_
    obtain ⟨o10, h11⟩ := h9
    exact zr_iret hC hZ o10 h11 dX12_one_154
set_option maxHeartbeats 4000000 in
set_option maxRecDepth 100000 in
theorem rj_one_96 {X : gX} {d : gD} {b t : Nat} {T : Nat → Nat} {F0 : gM} (hC : gC RX12 cX12_one 6 (some .int) "one" (gR 3 0 0) d b X) {Q : Int → zS → Prop}   {F : gM} {s0 : zS} {x1 : Int} {x2 : Int} (Rx1 : zR x1) (Rx2 : zR x2) (hZ : zZ d t T F0 F s0) (hw : wr_one_96 Q  s0 x1 x2) : gG X d b (zQi X d b t T F0 Q) F 0 0 96 [some (.ref t), some (.int (zI x1)), some (.int (zI x2)), none, none, none] [] := by
  unfold wr_one_96 at hw
  refine g_iload_n hC dX12_one_96 rfl ?_
  refine zr_callSi (As := [.int (zI x2)]) hC hZ (rm_isDigit X.la d b Rx2 hZ.rf hw) cl_X12_471 rfl rfl (Nat.le_of_ble_eq_true rfl) ⟨Nat.le_of_ble_eq_true rfl, Nat.le_of_ble_eq_true rfl⟩ dX12_one_97 (fun r1 s2 F3 R4 hZ5 h6 => ?_)
  refine zr_if_eq (tgt := 113) hC R4 dX12_one_100 (by decide) (fun c7 => ?_) (fun c7 => ?_)
  · have h8 := h6.1 c7
    refine g_aload_n hC dX12_one_113 rfl ?_
    refine g_iload_n hC dX12_one_114 rfl ?_
    refine g_iconst (v := zI 1) hC dX12_one_115 rfl ?_
    refine zr_iadd hC dX12_one_116 ?_
    obtain ⟨o9, h10⟩ := h8
    refine zr_callVi (As := [.int (zI (x1 + 1))]) hC hZ5 rfl (rm_look X.la d b o9 hZ5.rf h10) cl_X12_483 rfl rfl (Nat.le_of_ble_eq_true rfl) ⟨Nat.le_of_ble_eq_true rfl, Nat.le_of_ble_eq_true rfl⟩ dX12_one_117 (fun r11 s12 F13 R14 hZ15 h16 => ?_)
    refine g_bipush (v := zI 88) hC dX12_one_120 rfl ?_
    refine zr_icmp_ne (tgt := 137) hC R14 (by decide) dX12_one_122 (by decide) (fun c17 => ?_) (fun c17 => ?_)
    · have h18 := h16.1 c17
      refine g_aload_n hC dX12_one_137 rfl ?_
      refine g_iload_n hC dX12_one_138 rfl ?_
      refine g_iconst (v := zI 1) hC dX12_one_139 rfl ?_
      refine zr_iadd hC dX12_one_140 ?_
      refine g_bipush (v := zI 8) hC dX12_one_141 rfl ?_
      refine zr_callVi (As := [.int (zI (x1 + 1)), .int (zI 8)]) hC hZ15 rfl (rm_digits X.la d b o9 (by decide) hZ15.rf h18) cl_X12_513 rfl rfl (Nat.le_of_ble_eq_true rfl) ⟨Nat.le_of_ble_eq_true rfl, Nat.le_of_ble_eq_true rfl⟩ dX12_one_143 (fun r19 s20 F21 R22 hZ23 h24 => ?_)
      refine g_lv (lv' := [some (.ref t), some (.int (zI x1)), none, none, none, none]) ⟨rfl, rfl, trivial⟩ ?_
      exact rj_one_146 hC  Rx1 R22 hZ23 h24
    · have h25 := h16.2 c17
      refine g_aload_n hC dX12_one_125 rfl ?_
      refine g_iload_n hC dX12_one_126 rfl ?_
      refine g_iconst (v := zI 2) hC dX12_one_127 rfl ?_
      refine zr_iadd hC dX12_one_128 ?_
      refine g_bipush (v := zI 16) hC dX12_one_129 rfl ?_
      obtain ⟨o26, h27⟩ := h25
      refine zr_callVi (As := [.int (zI (x1 + 2)), .int (zI 16)]) hC hZ15 rfl (rm_digits X.la d b o26 (by decide) hZ15.rf h27) cl_X12_513 rfl rfl (Nat.le_of_ble_eq_true rfl) ⟨Nat.le_of_ble_eq_true rfl, Nat.le_of_ble_eq_true rfl⟩ dX12_one_131 (fun r28 s29 F30 R31 hZ32 h33 => ?_)
      refine g_goto (tgt := 146) hC dX12_one_134 (by decide) ?_
      refine g_lv (lv' := [some (.ref t), some (.int (zI x1)), none, none, none, none]) ⟨rfl, rfl, trivial⟩ ?_
      exact rj_one_146 hC  Rx1 R31 hZ32 h33
  · have h34 := h6.2 c7
    refine g_aload_n hC dX12_one_103 rfl ?_
    refine g_iload_n hC dX12_one_104 rfl ?_
    refine g_bipush (v := zI 10) hC dX12_one_105 rfl ?_
    refine zr_callVi (As := [.int (zI x1), .int (zI 10)]) hC hZ5 rfl (rm_digits X.la d b Rx1 (by decide) hZ5.rf h34) cl_X12_513 rfl rfl (Nat.le_of_ble_eq_true rfl) ⟨Nat.le_of_ble_eq_true rfl, Nat.le_of_ble_eq_true rfl⟩ dX12_one_107 (fun r35 s36 F37 R38 hZ39 h40 => ?_)
    refine g_goto (tgt := 146) hC dX12_one_110 (by decide) ?_
    refine g_lv (lv' := [some (.ref t), some (.int (zI x1)), none, none, none, none]) ⟨rfl, rfl, trivial⟩ ?_
    exact rj_one_146 hC  Rx1 R38 hZ39 h40
set_option maxHeartbeats 4000000 in
set_option maxRecDepth 100000 in
theorem rj_one_314 {X : gX} {d : gD} {b t : Nat} {T : Nat → Nat} {F0 : gM} (hC : gC RX12 cX12_one 6 (some .int) "one" (gR 3 0 0) d b X) {Q : Int → zS → Prop}   {F : gM} {s0 : zS} {x1 : Int} {x3 : Int} {x4 : Int} {x5 : Int} (Rx1 : zR x1) (Rx3 : zR x3) (Rx4 : zR x4) (Rx5 : zR x5) (hZ : zZ d t T F0 F s0) (hw : wr_one_314 Q  s0 x1 x3 x4 x5) : gG X d b (zQi X d b t T F0 Q) F 0 0 314 [some (.ref t), some (.int (zI x1)), none, some (.int (zI x3)), some (.int (zI x4)), some (.int (zI x5))] [] := by
  unfold wr_one_314 at hw
  refine g_iload_n hC dX12_one_314 rfl ?_
  refine g_iload_n hC dX12_one_315 rfl ?_
  refine zr_isub hC dX12_one_316 ?_
  refine g_iconst (v := zI 2) hC dX12_one_317 rfl ?_
  refine zr_isub hC dX12_one_318 ?_
  refine g_bipush (v := zI 40) hC dX12_one_319 rfl ?_
  obtain ⟨o1, h2⟩ := hw
  refine zr_icmp_le (tgt := 328) hC o1 (by decide) dX12_one_321 (by decide) (fun c3 => ?_) (fun c3 => ?_)
  · have h4 := h2.1 c3
    refine g_iload_n hC dX12_one_328 rfl ?_
    refine g_iload_n hC dX12_one_329 rfl ?_
    refine g_iconst (v := zI 2) hC dX12_one_330 rfl ?_
    refine zr_iadd hC dX12_one_331 ?_
    obtain ⟨o5, h6⟩ := h4
    refine zr_icmp_le (tgt := 349) hC Rx3 o5 dX12_one_332 (by decide) (fun c7 => ?_) (fun c7 => ?_)
    · have h8 := h6.1 c7
      refine g_aload_n hC dX12_one_349 rfl ?_
      refine g_iload hC dX12_one_350 rfl ?_
      refine g_iload_n hC dX12_one_352 rfl ?_
      refine g_iload hC dX12_one_353 rfl ?_
      refine zr_callVv (As := [.int (zI x4), .int (zI x1), .int (zI x5)]) hC hZ rfl (rm_token X.la d b Rx4 Rx1 Rx5 hZ.rf h8) cl_X12_509 rfl rfl (Nat.le_of_ble_eq_true rfl) ⟨Nat.le_of_ble_eq_true rfl, Nat.le_of_ble_eq_true rfl⟩ dX12_one_355 (fun s10 F11 hZ13 h14 => ?_)
      refine g_iload_n hC dX12_one_358 rfl ?_
      exact zr_iret hC hZ13 Rx3 h14 dX12_one_359
    · have h15 := h6.2 c7
      refine g_aload_n hC dX12_one_335 rfl ?_
      refine g_iload_n hC dX12_one_336 rfl ?_
      refine g_iconst (v := zI 2) hC dX12_one_337 rfl ?_
      refine zr_iadd hC dX12_one_338 ?_
      refine g_iload_n hC dX12_one_339 rfl ?_
      refine g_iload_n hC dX12_one_340 rfl ?_
      refine zr_isub hC dX12_one_341 ?_
      refine g_iconst (v := zI 2) hC dX12_one_342 rfl ?_
      refine zr_isub hC dX12_one_343 ?_
      refine zr_callVi (As := [.int (zI (x1 + 2)), .int (zI ((x3 - x1) - 2))]) hC hZ rfl (rm_nameOf X.la d b o5 o1 hZ.rf h15) cl_X12_506 rfl rfl (Nat.le_of_ble_eq_true rfl) ⟨Nat.le_of_ble_eq_true rfl, Nat.le_of_ble_eq_true rfl⟩ dX12_one_344 (fun r16 s17 F18 R19 hZ20 h21 => ?_)
      refine g_istore (lv' := [some (.ref t), some (.int (zI x1)), none, some (.int (zI x3)), some (.int (zI x4)), some (.int (zI r16))]) hC dX12_one_347 (Nat.le_of_ble_eq_true rfl) rfl rfl ?_
      refine g_aload_n hC dX12_one_349 rfl ?_
      refine g_iload hC dX12_one_350 rfl ?_
      refine g_iload_n hC dX12_one_352 rfl ?_
      refine g_iload hC dX12_one_353 rfl ?_
      refine zr_callVv (As := [.int (zI x4), .int (zI x1), .int (zI r16)]) hC hZ20 rfl (rm_token X.la d b Rx4 Rx1 R19 hZ20.rf h21) cl_X12_509 rfl rfl (Nat.le_of_ble_eq_true rfl) ⟨Nat.le_of_ble_eq_true rfl, Nat.le_of_ble_eq_true rfl⟩ dX12_one_355 (fun s23 F24 hZ26 h27 => ?_)
      refine g_iload_n hC dX12_one_358 rfl ?_
      exact zr_iret hC hZ26 Rx3 h27 dX12_one_359
  · have h28 := h2.2 c3
    refine g_iconst (v := zI (-1)) hC dX12_one_324 rfl ?_
    refine g_iload_n hC dX12_one_325 rfl ?_
    refine zr_isub hC dX12_one_326 ?_
    obtain ⟨o29, h30⟩ := h28
    exact zr_iret hC hZ o29 h30 dX12_one_327
set_option maxHeartbeats 4000000 in
set_option maxRecDepth 100000 in
theorem rb_one_289 {X : gX} {d : gD} {b t : Nat} {T : Nat → Nat} {F0 : gM} (hC : gC RX12 cX12_one 6 (some .int) "one" (gR 3 0 0) d b X) {Q : Int → zS → Prop} {k289 : zS → Int → Int → Int → Int → Prop} (hk289 : ∀ (F : gM) (s0 : zS) (x1 : Int) (x3 : Int) (x4 : Int) (x5 : Int), zR x1 → zR x3 → zR x4 → zR x5 → zZ d t T F0 F s0 → k289 s0 x1 x3 x4 x5 → gG X d b (zQi X d b t T F0 Q) F 0 0 289 [some (.ref t), some (.int (zI x1)), none, some (.int (zI x3)), some (.int (zI x4)), some (.int (zI x5))] []) {F : gM} {s0 : zS} {x1 : Int} {x3 : Int} {x4 : Int} {x5 : Int} (Rx1 : zR x1) (Rx3 : zR x3) (Rx4 : zR x4) (Rx5 : zR x5) (hZ : zZ d t T F0 F s0) (hw : wr_one_289B Q k289 s0 x1 x3 x4 x5) : gG X d b (zQi X d b t T F0 Q) F 0 0 289 [some (.ref t), some (.int (zI x1)), none, some (.int (zI x3)), some (.int (zI x4)), some (.int (zI x5))] [] := by
  unfold wr_one_289B at hw
  refine g_aload_n hC dX12_one_289 rfl ?_
  refine g_iload_n hC dX12_one_290 rfl ?_
  refine zr_callVi (As := [.int (zI x3)]) hC hZ rfl (rm_look X.la d b Rx3 hZ.rf hw) cl_X12_483 rfl rfl (Nat.le_of_ble_eq_true rfl) ⟨Nat.le_of_ble_eq_true rfl, Nat.le_of_ble_eq_true rfl⟩ dX12_one_291 (fun r1 s2 F3 R4 hZ5 h6 => ?_)
  refine zr_callSi (As := [.int (zI r1)]) hC hZ5 (rm_isRest X.la d b R4 hZ5.rf h6) cl_X12_500 rfl rfl (Nat.le_of_ble_eq_true rfl) ⟨Nat.le_of_ble_eq_true rfl, Nat.le_of_ble_eq_true rfl⟩ dX12_one_294 (fun r7 s8 F9 R10 hZ11 h12 => ?_)
  refine zr_if_eq (tgt := 314) hC R10 dX12_one_297 (by decide) (fun c13 => ?_) (fun c13 => ?_)
  · have h14 := h12.1 c13
    exact rj_one_314 hC  Rx1 Rx3 Rx4 Rx5 hZ11 h14
  · have h15 := h12.2 c13
    refine g_iload_n hC dX12_one_300 rfl ?_
    refine g_aload_n hC dX12_one_301 rfl ?_
    refine zr_get (e := (zv s8 4)) hC hZ11 fl_X12_23 zb_4 (by decide) rfl dX12_one_302 ?_
    refine zr_icmp_ge (tgt := 314) hC Rx3 (hZ11.rv 4) dX12_one_305 (by decide) (fun c16 => ?_) (fun c16 => ?_)
    · have h17 := h15.1 c16
      exact rj_one_314 hC  Rx1 Rx3 Rx4 Rx5 hZ11 h17
    · have h18 := h15.2 c16
      refine zr_iinc (x := x3) (lv' := [some (.ref t), some (.int (zI x1)), none, some (.int (zI (x3 + 1))), some (.int (zI x4)), some (.int (zI x5))]) hC dX12_one_308 rfl rfl rfl ?_
      refine g_goto (tgt := 289) hC dX12_one_311 (by decide) ?_
      obtain ⟨o19, h20⟩ := h18
      exact hk289 _ _ _ _ _ _ Rx1 o19 Rx4 Rx5 hZ11 h20
theorem rl_one_289 {X : gX} {d : gD} {b t : Nat} {T : Nat → Nat} {F0 : gM} (hC : gC RX12 cX12_one 6 (some .int) "one" (gR 3 0 0) d b X) {Q : Int → zS → Prop}   : ∀ (m : Nat) (F : gM) (s0 : zS) (x1 : Int) (x3 : Int) (x4 : Int) (x5 : Int), zR x1 → zR x3 → zR x4 → zR x5 → zZ d t T F0 F s0 → wr_one_289 Q  m s0 x1 x3 x4 x5 → gG X d b (zQi X d b t T F0 Q) F 0 0 289 [some (.ref t), some (.int (zI x1)), none, some (.int (zI x3)), some (.int (zI x4)), some (.int (zI x5))] [] := by
  intro m
  induction m with
  | zero => intro F s0 x1 x3 x4 x5 Rx1 Rx3 Rx4 Rx5 hZ hw; exact False.elim hw
  | succ m ih => intro F s0 x1 x3 x4 x5 Rx1 Rx3 Rx4 Rx5 hZ hw; exact rb_one_289 hC  ih Rx1 Rx3 Rx4 Rx5 hZ hw
set_option maxHeartbeats 4000000 in
set_option maxRecDepth 100000 in
theorem rj_one_34 {X : gX} {d : gD} {b t : Nat} {T : Nat → Nat} {F0 : gM} (hC : gC RX12 cX12_one 6 (some .int) "one" (gR 3 0 0) d b X) {Q : Int → zS → Prop}   {F : gM} {s0 : zS} {x1 : Int} {x3 : Int} (Rx1 : zR x1) (Rx3 : zR x3) (hZ : zZ d t T F0 F s0) (hw : wr_one_34 Q  s0 x1 x3) : gG X d b (zQi X d b t T F0 Q) F 0 0 34 [some (.ref t), some (.int (zI x1)), none, some (.int (zI x3)), none, none] [] := by
  unfold wr_one_34 at hw
  refine g_iload_n hC dX12_one_34 rfl ?_
  refine g_iload_n hC dX12_one_35 rfl ?_
  refine zr_isub hC dX12_one_36 ?_
  refine g_bipush (v := zI 40) hC dX12_one_37 rfl ?_
  obtain ⟨o1, h2⟩ := hw
  refine zr_icmp_le (tgt := 46) hC o1 (by decide) dX12_one_39 (by decide) (fun c3 => ?_) (fun c3 => ?_)
  · have h4 := h2.1 c3
    refine g_aload_n hC dX12_one_46 rfl ?_
    refine g_iload_n hC dX12_one_47 rfl ?_
    refine g_iload_n hC dX12_one_48 rfl ?_
    refine g_iload_n hC dX12_one_49 rfl ?_
    refine zr_isub hC dX12_one_50 ?_
    refine zr_callVi (As := [.int (zI x1), .int (zI (x3 - x1))]) hC hZ rfl (rm_keyword X.la d b Rx1 o1 hZ.rf h4) cl_X12_503 rfl rfl (Nat.le_of_ble_eq_true rfl) ⟨Nat.le_of_ble_eq_true rfl, Nat.le_of_ble_eq_true rfl⟩ dX12_one_51 (fun r5 s6 F7 R8 hZ9 h10 => ?_)
    refine g_istore (lv' := [some (.ref t), some (.int (zI x1)), none, some (.int (zI x3)), some (.int (zI r5)), none]) hC dX12_one_54 (Nat.le_of_ble_eq_true rfl) rfl rfl ?_
    refine g_aload_n hC dX12_one_56 rfl ?_
    refine g_iload hC dX12_one_57 rfl ?_
    refine g_iload_n hC dX12_one_59 rfl ?_
    refine g_iload hC dX12_one_60 rfl ?_
    refine g_iconst (v := zI 1) hC dX12_one_62 rfl ?_
    refine zr_icmp_ne (tgt := 77) hC R8 (by decide) dX12_one_63 (by decide) (fun c11 => ?_) (fun c11 => ?_)
    · have h12 := h10.1 c11
      refine g_iconst (v := zI 0) hC dX12_one_77 rfl ?_
      refine zr_callVv (As := [.int (zI r5), .int (zI x1), .int (zI 0)]) hC hZ9 rfl (rm_token X.la d b R8 Rx1 (by decide) hZ9.rf h12) cl_X12_509 rfl rfl (Nat.le_of_ble_eq_true rfl) ⟨Nat.le_of_ble_eq_true rfl, Nat.le_of_ble_eq_true rfl⟩ dX12_one_78 (fun s14 F15 hZ17 h18 => ?_)
      refine g_iload_n hC dX12_one_81 rfl ?_
      exact zr_iret hC hZ17 Rx3 h18 dX12_one_82
    · have h19 := h10.2 c11
      refine g_aload_n hC dX12_one_66 rfl ?_
      refine g_iload_n hC dX12_one_67 rfl ?_
      refine g_iload_n hC dX12_one_68 rfl ?_
      refine g_iload_n hC dX12_one_69 rfl ?_
      refine zr_isub hC dX12_one_70 ?_
      refine zr_callVi (As := [.int (zI x1), .int (zI (x3 - x1))]) hC hZ9 rfl (rm_nameOf X.la d b Rx1 o1 hZ9.rf h19) cl_X12_506 rfl rfl (Nat.le_of_ble_eq_true rfl) ⟨Nat.le_of_ble_eq_true rfl, Nat.le_of_ble_eq_true rfl⟩ dX12_one_71 (fun r20 s21 F22 R23 hZ24 h25 => ?_)
      refine g_goto (tgt := 78) hC dX12_one_74 (by decide) ?_
      refine zr_callVv (As := [.int (zI r5), .int (zI x1), .int (zI r20)]) hC hZ24 rfl (rm_token X.la d b R8 Rx1 R23 hZ24.rf h25) cl_X12_509 rfl rfl (Nat.le_of_ble_eq_true rfl) ⟨Nat.le_of_ble_eq_true rfl, Nat.le_of_ble_eq_true rfl⟩ dX12_one_78 (fun s27 F28 hZ30 h31 => ?_)
      refine g_iload_n hC dX12_one_81 rfl ?_
      exact zr_iret hC hZ30 Rx3 h31 dX12_one_82
  · have h32 := h2.2 c3
    refine g_iconst (v := zI (-1)) hC dX12_one_42 rfl ?_
    refine g_iload_n hC dX12_one_43 rfl ?_
    refine zr_isub hC dX12_one_44 ?_
    obtain ⟨o33, h34⟩ := h32
    exact zr_iret hC hZ o33 h34 dX12_one_45
set_option maxHeartbeats 4000000 in
set_option maxRecDepth 100000 in
theorem rb_one_9 {X : gX} {d : gD} {b t : Nat} {T : Nat → Nat} {F0 : gM} (hC : gC RX12 cX12_one 6 (some .int) "one" (gR 3 0 0) d b X) {Q : Int → zS → Prop} {k9 : zS → Int → Int → Prop} (hk9 : ∀ (F : gM) (s0 : zS) (x1 : Int) (x3 : Int), zR x1 → zR x3 → zZ d t T F0 F s0 → k9 s0 x1 x3 → gG X d b (zQi X d b t T F0 Q) F 0 0 9 [some (.ref t), some (.int (zI x1)), none, some (.int (zI x3)), none, none] []) {F : gM} {s0 : zS} {x1 : Int} {x3 : Int} (Rx1 : zR x1) (Rx3 : zR x3) (hZ : zZ d t T F0 F s0) (hw : wr_one_9B Q k9 s0 x1 x3) : gG X d b (zQi X d b t T F0 Q) F 0 0 9 [some (.ref t), some (.int (zI x1)), none, some (.int (zI x3)), none, none] [] := by
  unfold wr_one_9B at hw
  refine g_aload_n hC dX12_one_9 rfl ?_
  refine g_iload_n hC dX12_one_10 rfl ?_
  refine zr_callVi (As := [.int (zI x3)]) hC hZ rfl (rm_look X.la d b Rx3 hZ.rf hw) cl_X12_483 rfl rfl (Nat.le_of_ble_eq_true rfl) ⟨Nat.le_of_ble_eq_true rfl, Nat.le_of_ble_eq_true rfl⟩ dX12_one_11 (fun r1 s2 F3 R4 hZ5 h6 => ?_)
  refine zr_callSi (As := [.int (zI r1)]) hC hZ5 (rm_isRest X.la d b R4 hZ5.rf h6) cl_X12_500 rfl rfl (Nat.le_of_ble_eq_true rfl) ⟨Nat.le_of_ble_eq_true rfl, Nat.le_of_ble_eq_true rfl⟩ dX12_one_14 (fun r7 s8 F9 R10 hZ11 h12 => ?_)
  refine zr_if_eq (tgt := 34) hC R10 dX12_one_17 (by decide) (fun c13 => ?_) (fun c13 => ?_)
  · have h14 := h12.1 c13
    exact rj_one_34 hC  Rx1 Rx3 hZ11 h14
  · have h15 := h12.2 c13
    refine g_iload_n hC dX12_one_20 rfl ?_
    refine g_aload_n hC dX12_one_21 rfl ?_
    refine zr_get (e := (zv s8 4)) hC hZ11 fl_X12_23 zb_4 (by decide) rfl dX12_one_22 ?_
    refine zr_icmp_ge (tgt := 34) hC Rx3 (hZ11.rv 4) dX12_one_25 (by decide) (fun c16 => ?_) (fun c16 => ?_)
    · have h17 := h15.1 c16
      exact rj_one_34 hC  Rx1 Rx3 hZ11 h17
    · have h18 := h15.2 c16
      refine zr_iinc (x := x3) (lv' := [some (.ref t), some (.int (zI x1)), none, some (.int (zI (x3 + 1))), none, none]) hC dX12_one_28 rfl rfl rfl ?_
      refine g_goto (tgt := 9) hC dX12_one_31 (by decide) ?_
      obtain ⟨o19, h20⟩ := h18
      exact hk9 _ _ _ _ Rx1 o19 hZ11 h20
theorem rl_one_9 {X : gX} {d : gD} {b t : Nat} {T : Nat → Nat} {F0 : gM} (hC : gC RX12 cX12_one 6 (some .int) "one" (gR 3 0 0) d b X) {Q : Int → zS → Prop}   : ∀ (m : Nat) (F : gM) (s0 : zS) (x1 : Int) (x3 : Int), zR x1 → zR x3 → zZ d t T F0 F s0 → wr_one_9 Q  m s0 x1 x3 → gG X d b (zQi X d b t T F0 Q) F 0 0 9 [some (.ref t), some (.int (zI x1)), none, some (.int (zI x3)), none, none] [] := by
  intro m
  induction m with
  | zero => intro F s0 x1 x3 Rx1 Rx3 hZ hw; exact False.elim hw
  | succ m ih => intro F s0 x1 x3 Rx1 Rx3 hZ hw; exact rb_one_9 hC  ih Rx1 Rx3 hZ hw
set_option maxHeartbeats 4000000 in
set_option maxRecDepth 100000 in
theorem rm_one (l : Launch) (d : gD) (b : Nat) {t : Nat} {T : Nat → Nat} {F : gM} {s0 : zS} {a0 : Int} {a1 : Int} (Ra0 : zR a0) (Ra1 : zR a1) {Q : Int → zS → Prop} (hZ : zZ d t T F F s0) (hw : wr_one s0 a0 a1 Q) : gMi l d b yX12_one cX12_one 6 .int 3 0 0 F [.ref t, .int (zI a0), .int (zI a1)] (zPi d t T F Q) := by
  refine gM_of2 rfl (nL := 6) (Nat.le_of_ble_eq_true rfl) ?_
  intro X hX hC; subst hX
  show gG X d b (zQi X d b t T F Q) F 0 0 0 [some (.ref t), some (.int (zI a0)), some (.int (zI a1)), none, none, none] []
  unfold wr_one at hw
  refine g_iload_n hC dX12_one_0 rfl ?_
  refine g_istore_n (lv' := [some (.ref t), some (.int (zI a0)), some (.int (zI a1)), some (.int (zI a0)), none, none]) hC dX12_one_1 (Nat.le_of_ble_eq_true rfl) rfl rfl ?_
  refine g_iload_n hC dX12_one_2 rfl ?_
  refine zr_callSi (As := [.int (zI a1)]) hC hZ (rm_isLetter X.la d b Ra1 hZ.rf hw) cl_X12_467 rfl rfl (Nat.le_of_ble_eq_true rfl) ⟨Nat.le_of_ble_eq_true rfl, Nat.le_of_ble_eq_true rfl⟩ dX12_one_3 (fun r1 s2 F3 R4 hZ5 h6 => ?_)
  refine zr_if_eq (tgt := 83) hC R4 dX12_one_6 (by decide) (fun c7 => ?_) (fun c7 => ?_)
  · have h8 := h6.1 c7
    refine g_iload_n hC dX12_one_83 rfl ?_
    refine zr_callSi (As := [.int (zI a1)]) hC hZ5 (rm_isDigit X.la d b Ra1 hZ5.rf h8) cl_X12_471 rfl rfl (Nat.le_of_ble_eq_true rfl) ⟨Nat.le_of_ble_eq_true rfl, Nat.le_of_ble_eq_true rfl⟩ dX12_one_84 (fun r9 s10 F11 R12 hZ13 h14 => ?_)
    refine zr_if_ne (tgt := 96) hC R12 dX12_one_87 (by decide) (fun c15 => ?_) (fun c15 => ?_)
    · have h16 := h14.1 c15
      refine g_lv (lv' := [some (.ref t), some (.int (zI a0)), some (.int (zI a1)), none, none, none]) ⟨rfl, rfl, rfl, trivial⟩ ?_
      exact rj_one_96 hC  Ra0 Ra1 hZ13 h16
    · have h17 := h14.2 c15
      refine g_iload_n hC dX12_one_90 rfl ?_
      refine g_bipush (v := zI 35) hC dX12_one_91 rfl ?_
      refine zr_icmp_ne (tgt := 167) hC Ra1 (by decide) dX12_one_93 (by decide) (fun c18 => ?_) (fun c18 => ?_)
      · have h19 := h17.1 c18
        refine g_iload_n hC dX12_one_167 rfl ?_
        refine g_bipush (v := zI 39) hC dX12_one_168 rfl ?_
        refine zr_icmp_ne (tgt := 215) hC Ra1 (by decide) dX12_one_170 (by decide) (fun c20 => ?_) (fun c20 => ?_)
        · have h21 := h19.1 c20
          refine g_iload_n hC dX12_one_215 rfl ?_
          refine g_bipush (v := zI 34) hC dX12_one_216 rfl ?_
          refine zr_icmp_ne (tgt := 249) hC Ra1 (by decide) dX12_one_218 (by decide) (fun c22 => ?_) (fun c22 => ?_)
          · have h23 := h21.1 c22
            refine g_aload_n hC dX12_one_249 rfl ?_
            refine g_iload_n hC dX12_one_250 rfl ?_
            refine zr_callVi (As := [.int (zI a0)]) hC hZ13 rfl (rm_signAt X.la d b Ra0 hZ13.rf h23) cl_X12_519 rfl rfl (Nat.le_of_ble_eq_true rfl) ⟨Nat.le_of_ble_eq_true rfl, Nat.le_of_ble_eq_true rfl⟩ dX12_one_251 (fun r24 s25 F26 R27 hZ28 h29 => ?_)
            refine g_istore (lv' := [some (.ref t), some (.int (zI a0)), some (.int (zI a1)), some (.int (zI a0)), some (.int (zI r24)), none]) hC dX12_one_254 (Nat.le_of_ble_eq_true rfl) rfl rfl ?_
            refine g_iload hC dX12_one_256 rfl ?_
            refine zr_if_ge (tgt := 265) hC R27 dX12_one_258 (by decide) (fun c30 => ?_) (fun c30 => ?_)
            · have h31 := h29.1 c30
              refine g_iload_n hC dX12_one_265 rfl ?_
              refine g_aload_n hC dX12_one_266 rfl ?_
              refine zr_get (e := (zv s25 23)) hC hZ28 fl_X12_81 zb_23 (by decide) rfl dX12_one_267 ?_
              refine zr_iadd hC dX12_one_270 ?_
              refine g_istore_n (lv' := [some (.ref t), some (.int (zI a0)), some (.int (zI a1)), some (.int (zI (a0 + (zv s25 23)))), some (.int (zI r24)), none]) hC dX12_one_271 (Nat.le_of_ble_eq_true rfl) rfl rfl ?_
              refine g_iconst (v := zI (-1)) hC dX12_one_272 rfl ?_
              refine g_istore (lv' := [some (.ref t), some (.int (zI a0)), some (.int (zI a1)), some (.int (zI (a0 + (zv s25 23)))), some (.int (zI r24)), some (.int (zI (-1)))]) hC dX12_one_273 (Nat.le_of_ble_eq_true rfl) rfl rfl ?_
              refine g_iload hC dX12_one_275 rfl ?_
              refine g_bipush (v := zI 10) hC dX12_one_277 rfl ?_
              refine zr_icmp_eq (tgt := 289) hC R27 (by decide) dX12_one_279 (by decide) (fun c32 => ?_) (fun c32 => ?_)
              · have h33 := h31.1 c32
                obtain ⟨o34, h35⟩ := h33
                refine g_lv (lv' := [some (.ref t), some (.int (zI a0)), none, some (.int (zI (a0 + (zv s25 23)))), some (.int (zI r24)), some (.int (zI (-1)))]) ⟨rfl, rfl, rfl, rfl, rfl, trivial⟩ ?_
                obtain ⟨m36, h37⟩ := h35
                exact rl_one_289 hC  m36 _ _ _ _ _ _ Ra0 o34 R27 (by decide) hZ28 h37
              · have h38 := h31.2 c32
                refine g_iload hC dX12_one_282 rfl ?_
                refine g_bipush (v := zI 11) hC dX12_one_284 rfl ?_
                refine zr_icmp_ne (tgt := 349) hC R27 (by decide) dX12_one_286 (by decide) (fun c39 => ?_) (fun c39 => ?_)
                · have h40 := h38.1 c39
                  refine g_aload_n hC dX12_one_349 rfl ?_
                  refine g_iload hC dX12_one_350 rfl ?_
                  refine g_iload_n hC dX12_one_352 rfl ?_
                  refine g_iload hC dX12_one_353 rfl ?_
                  refine zr_callVv (As := [.int (zI r24), .int (zI a0), .int (zI (-1))]) hC hZ28 rfl (rm_token X.la d b R27 Ra0 (by decide) hZ28.rf h40) cl_X12_509 rfl rfl (Nat.le_of_ble_eq_true rfl) ⟨Nat.le_of_ble_eq_true rfl, Nat.le_of_ble_eq_true rfl⟩ dX12_one_355 (fun s42 F43 hZ45 h46 => ?_)
                  refine g_iload_n hC dX12_one_358 rfl ?_
                  obtain ⟨o47, h48⟩ := h46
                  exact zr_iret hC hZ45 o47 h48 dX12_one_359
                · have h49 := h38.2 c39
                  obtain ⟨o50, h51⟩ := h49
                  refine g_lv (lv' := [some (.ref t), some (.int (zI a0)), none, some (.int (zI (a0 + (zv s25 23)))), some (.int (zI r24)), some (.int (zI (-1)))]) ⟨rfl, rfl, rfl, rfl, rfl, trivial⟩ ?_
                  obtain ⟨m52, h53⟩ := h51
                  exact rl_one_289 hC  m52 _ _ _ _ _ _ Ra0 o50 R27 (by decide) hZ28 h53
            · have h54 := h29.2 c30
              refine g_iconst (v := zI (-1)) hC dX12_one_261 rfl ?_
              refine g_iload_n hC dX12_one_262 rfl ?_
              refine zr_isub hC dX12_one_263 ?_
              obtain ⟨o55, h56⟩ := h54
              exact zr_iret hC hZ28 o55 h56 dX12_one_264
          · have h57 := h21.2 c22
            refine g_aload_n hC dX12_one_221 rfl ?_
            refine g_iload_n hC dX12_one_222 rfl ?_
            refine zr_callVi (As := [.int (zI a0)]) hC hZ13 rfl (rm_stringAt X.la d b Ra0 hZ13.rf h57) cl_X12_516 rfl rfl (Nat.le_of_ble_eq_true rfl) ⟨Nat.le_of_ble_eq_true rfl, Nat.le_of_ble_eq_true rfl⟩ dX12_one_223 (fun r58 s59 F60 R61 hZ62 h63 => ?_)
            refine g_istore_n (lv' := [some (.ref t), some (.int (zI a0)), some (.int (zI a1)), some (.int (zI r58)), none, none]) hC dX12_one_226 (Nat.le_of_ble_eq_true rfl) rfl rfl ?_
            refine g_iload_n hC dX12_one_227 rfl ?_
            refine zr_if_ge (tgt := 235) hC R61 dX12_one_228 (by decide) (fun c64 => ?_) (fun c64 => ?_)
            · have h65 := h63.1 c64
              refine g_aload_n hC dX12_one_235 rfl ?_
              refine g_iconst (v := zI 4) hC dX12_one_236 rfl ?_
              refine g_iload_n hC dX12_one_237 rfl ?_
              refine g_aload_n hC dX12_one_238 rfl ?_
              refine zr_get (e := (zv s59 18)) hC hZ62 fl_X12_66 zb_18 (by decide) rfl dX12_one_239 ?_
              refine g_iconst (v := zI 1) hC dX12_one_242 rfl ?_
              refine zr_isub hC dX12_one_243 ?_
              obtain ⟨o66, h67⟩ := h65
              refine zr_callVv (As := [.int (zI 4), .int (zI a0), .int (zI ((zv s59 18) - 1))]) hC hZ62 rfl (rm_token X.la d b (by decide) Ra0 o66 hZ62.rf h67) cl_X12_509 rfl rfl (Nat.le_of_ble_eq_true rfl) ⟨Nat.le_of_ble_eq_true rfl, Nat.le_of_ble_eq_true rfl⟩ dX12_one_244 (fun s69 F70 hZ72 h73 => ?_)
              refine g_iload_n hC dX12_one_247 rfl ?_
              exact zr_iret hC hZ72 R61 h73 dX12_one_248
            · have h74 := h63.2 c64
              refine g_iconst (v := zI (-1)) hC dX12_one_231 rfl ?_
              refine g_iload_n hC dX12_one_232 rfl ?_
              refine zr_isub hC dX12_one_233 ?_
              obtain ⟨o75, h76⟩ := h74
              exact zr_iret hC hZ62 o75 h76 dX12_one_234
        · have h77 := h19.2 c20
          refine g_aload_n hC dX12_one_173 rfl ?_
          refine g_iload_n hC dX12_one_174 rfl ?_
          refine g_iconst (v := zI 1) hC dX12_one_175 rfl ?_
          refine zr_iadd hC dX12_one_176 ?_
          refine g_bipush (v := zI 39) hC dX12_one_177 rfl ?_
          obtain ⟨o78, h79⟩ := h77
          refine zr_callVi (As := [.int (zI (a0 + 1)), .int (zI 39)]) hC hZ13 rfl (rm_oneC X.la d b o78 (by decide) hZ13.rf h79) cl_X12_487 rfl rfl (Nat.le_of_ble_eq_true rfl) ⟨Nat.le_of_ble_eq_true rfl, Nat.le_of_ble_eq_true rfl⟩ dX12_one_179 (fun r80 s81 F82 R83 hZ84 h85 => ?_)
          refine g_istore_n (lv' := [some (.ref t), some (.int (zI a0)), some (.int (zI a1)), some (.int (zI r80)), none, none]) hC dX12_one_182 (Nat.le_of_ble_eq_true rfl) rfl rfl ?_
          refine g_iload_n hC dX12_one_183 rfl ?_
          refine zr_if_lt (tgt := 197) hC R83 dX12_one_184 (by decide) (fun c86 => ?_) (fun c86 => ?_)
          · have h87 := h85.1 c86
            refine g_iconst (v := zI (-1)) hC dX12_one_197 rfl ?_
            refine g_iload_n hC dX12_one_198 rfl ?_
            refine zr_isub hC dX12_one_199 ?_
            obtain ⟨o88, h89⟩ := h87
            exact zr_iret hC hZ84 o88 h89 dX12_one_200
          · have h90 := h85.2 c86
            refine g_aload_n hC dX12_one_187 rfl ?_
            refine g_iload_n hC dX12_one_188 rfl ?_
            refine zr_callVi (As := [.int (zI r80)]) hC hZ84 rfl (rm_look X.la d b R83 hZ84.rf h90) cl_X12_483 rfl rfl (Nat.le_of_ble_eq_true rfl) ⟨Nat.le_of_ble_eq_true rfl, Nat.le_of_ble_eq_true rfl⟩ dX12_one_189 (fun r91 s92 F93 R94 hZ95 h96 => ?_)
            refine g_bipush (v := zI 39) hC dX12_one_192 rfl ?_
            refine zr_icmp_eq (tgt := 201) hC R94 (by decide) dX12_one_194 (by decide) (fun c97 => ?_) (fun c97 => ?_)
            · have h98 := h96.1 c97
              refine g_aload_n hC dX12_one_201 rfl ?_
              refine g_iconst (v := zI 2) hC dX12_one_202 rfl ?_
              refine g_iload_n hC dX12_one_203 rfl ?_
              refine g_aload_n hC dX12_one_204 rfl ?_
              refine zr_get (e := (zv s92 21)) hC hZ95 fl_X12_75 zb_21 (by decide) rfl dX12_one_205 ?_
              refine zr_callVv (As := [.int (zI 2), .int (zI a0), .int (zI (zv s92 21))]) hC hZ95 rfl (rm_token X.la d b (by decide) Ra0 (hZ95.rv 21) hZ95.rf h98) cl_X12_509 rfl rfl (Nat.le_of_ble_eq_true rfl) ⟨Nat.le_of_ble_eq_true rfl, Nat.le_of_ble_eq_true rfl⟩ dX12_one_208 (fun s100 F101 hZ103 h104 => ?_)
              refine g_iload_n hC dX12_one_211 rfl ?_
              refine g_iconst (v := zI 1) hC dX12_one_212 rfl ?_
              refine zr_iadd hC dX12_one_213 ?_
              obtain ⟨o105, h106⟩ := h104
              exact zr_iret hC hZ103 o105 h106 dX12_one_214
            · have h107 := h96.2 c97
              refine g_iconst (v := zI (-1)) hC dX12_one_197 rfl ?_
              refine g_iload_n hC dX12_one_198 rfl ?_
              refine zr_isub hC dX12_one_199 ?_
              obtain ⟨o108, h109⟩ := h107
              exact zr_iret hC hZ95 o108 h109 dX12_one_200
      · have h110 := h17.2 c18
        refine g_lv (lv' := [some (.ref t), some (.int (zI a0)), some (.int (zI a1)), none, none, none]) ⟨rfl, rfl, rfl, trivial⟩ ?_
        exact rj_one_96 hC  Ra0 Ra1 hZ13 h110
  · have h111 := h6.2 c7
    refine g_lv (lv' := [some (.ref t), some (.int (zI a0)), none, some (.int (zI a0)), none, none]) ⟨rfl, rfl, rfl, trivial⟩ ?_
    obtain ⟨m112, h113⟩ := h111
    exact rl_one_9 hC  m112 _ _ _ _ Ra0 Ra0 hZ5 h113
theorem dX12_scan_0 : decode cX12_scan 0 = .ok (.aload_n 0, 1) := by decide +kernel
theorem dX12_scan_1 : decode cX12_scan 1 = .ok (.iconst 0, 1) := by decide +kernel
theorem dX12_scan_2 : decode cX12_scan 2 = .ok (.putfield 36, 3) := by decide +kernel
theorem dX12_scan_5 : decode cX12_scan 5 = .ok (.aload_n 0, 1) := by decide +kernel
theorem dX12_scan_6 : decode cX12_scan 6 = .ok (.iconst 0, 1) := by decide +kernel
theorem dX12_scan_7 : decode cX12_scan 7 = .ok (.putfield 26, 3) := by decide +kernel
theorem dX12_scan_10 : decode cX12_scan 10 = .ok (.aload_n 0, 1) := by decide +kernel
theorem dX12_scan_11 : decode cX12_scan 11 = .ok (.iconst 0, 1) := by decide +kernel
theorem dX12_scan_12 : decode cX12_scan 12 = .ok (.putfield 66, 3) := by decide +kernel
theorem dX12_scan_15 : decode cX12_scan 15 = .ok (.aload_n 0, 1) := by decide +kernel
theorem dX12_scan_16 : decode cX12_scan 16 = .ok (.iconst 0, 1) := by decide +kernel
theorem dX12_scan_17 : decode cX12_scan 17 = .ok (.putfield 57, 3) := by decide +kernel
theorem dX12_scan_20 : decode cX12_scan 20 = .ok (.aload_n 0, 1) := by decide +kernel
theorem dX12_scan_21 : decode cX12_scan 21 = .ok (.iconst 0, 1) := by decide +kernel
theorem dX12_scan_22 : decode cX12_scan 22 = .ok (.putfield 69, 3) := by decide +kernel
theorem dX12_scan_25 : decode cX12_scan 25 = .ok (.aload_n 0, 1) := by decide +kernel
theorem dX12_scan_26 : decode cX12_scan 26 = .ok (.iconst 0, 1) := by decide +kernel
theorem dX12_scan_27 : decode cX12_scan 27 = .ok (.putfield 72, 3) := by decide +kernel
theorem dX12_scan_30 : decode cX12_scan 30 = .ok (.iconst 0, 1) := by decide +kernel
theorem dX12_scan_31 : decode cX12_scan 31 = .ok (.istore_n 1, 1) := by decide +kernel
theorem dX12_scan_32 : decode cX12_scan 32 = .ok (.iload_n 1, 1) := by decide +kernel
theorem dX12_scan_33 : decode cX12_scan 33 = .ok (.aload_n 0, 1) := by decide +kernel
theorem dX12_scan_34 : decode cX12_scan 34 = .ok (.getfield 23, 3) := by decide +kernel
theorem dX12_scan_37 : decode cX12_scan 37 = .ok (.if_icmp .ge 109, 3) := by decide +kernel
theorem dX12_scan_40 : decode cX12_scan 40 = .ok (.aload_n 0, 1) := by decide +kernel
theorem dX12_scan_41 : decode cX12_scan 41 = .ok (.iload_n 1, 1) := by decide +kernel
theorem dX12_scan_42 : decode cX12_scan 42 = .ok (.invokevirtual 483, 3) := by decide +kernel
theorem dX12_scan_45 : decode cX12_scan 45 = .ok (.istore_n 2, 1) := by decide +kernel
theorem dX12_scan_46 : decode cX12_scan 46 = .ok (.iload_n 2, 1) := by decide +kernel
theorem dX12_scan_47 : decode cX12_scan 47 = .ok (.bipush 10, 2) := by decide +kernel
theorem dX12_scan_49 : decode cX12_scan 49 = .ok (.if_icmp .ne 19, 3) := by decide +kernel
theorem dX12_scan_52 : decode cX12_scan 52 = .ok (.aload_n 0, 1) := by decide +kernel
theorem dX12_scan_53 : decode cX12_scan 53 = .ok (.dup, 1) := by decide +kernel
theorem dX12_scan_54 : decode cX12_scan 54 = .ok (.getfield 69, 3) := by decide +kernel
theorem dX12_scan_57 : decode cX12_scan 57 = .ok (.iconst 1, 1) := by decide +kernel
theorem dX12_scan_58 : decode cX12_scan 58 = .ok (.iadd, 1) := by decide +kernel
theorem dX12_scan_59 : decode cX12_scan 59 = .ok (.putfield 69, 3) := by decide +kernel
theorem dX12_scan_62 : decode cX12_scan 62 = .ok (.iinc 1 1, 3) := by decide +kernel
theorem dX12_scan_65 : decode cX12_scan 65 = .ok (.goto 78, 3) := by decide +kernel
theorem dX12_scan_68 : decode cX12_scan 68 = .ok (.iload_n 2, 1) := by decide +kernel
theorem dX12_scan_69 : decode cX12_scan 69 = .ok (.bipush 9, 2) := by decide +kernel
theorem dX12_scan_71 : decode cX12_scan 71 = .ok (.if_icmp .eq 15, 3) := by decide +kernel
theorem dX12_scan_74 : decode cX12_scan 74 = .ok (.iload_n 2, 1) := by decide +kernel
theorem dX12_scan_75 : decode cX12_scan 75 = .ok (.bipush 13, 2) := by decide +kernel
theorem dX12_scan_77 : decode cX12_scan 77 = .ok (.if_icmp .eq 9, 3) := by decide +kernel
theorem dX12_scan_80 : decode cX12_scan 80 = .ok (.iload_n 2, 1) := by decide +kernel
theorem dX12_scan_81 : decode cX12_scan 81 = .ok (.bipush 32, 2) := by decide +kernel
theorem dX12_scan_83 : decode cX12_scan 83 = .ok (.if_icmp .ne 9, 3) := by decide +kernel
theorem dX12_scan_86 : decode cX12_scan 86 = .ok (.iinc 1 1, 3) := by decide +kernel
theorem dX12_scan_89 : decode cX12_scan 89 = .ok (.goto 54, 3) := by decide +kernel
theorem dX12_scan_92 : decode cX12_scan 92 = .ok (.aload_n 0, 1) := by decide +kernel
theorem dX12_scan_93 : decode cX12_scan 93 = .ok (.iload_n 1, 1) := by decide +kernel
theorem dX12_scan_94 : decode cX12_scan 94 = .ok (.bipush 47, 2) := by decide +kernel
theorem dX12_scan_96 : decode cX12_scan 96 = .ok (.bipush 47, 2) := by decide +kernel
theorem dX12_scan_98 : decode cX12_scan 98 = .ok (.invokevirtual 493, 3) := by decide +kernel
theorem dX12_scan_101 : decode cX12_scan 101 = .ok (.ifCond .eq 27, 3) := by decide +kernel
theorem dX12_scan_104 : decode cX12_scan 104 = .ok (.iload_n 1, 1) := by decide +kernel
theorem dX12_scan_105 : decode cX12_scan 105 = .ok (.aload_n 0, 1) := by decide +kernel
theorem dX12_scan_106 : decode cX12_scan 106 = .ok (.getfield 23, 3) := by decide +kernel
theorem dX12_scan_109 : decode cX12_scan 109 = .ok (.if_icmp .ge 34, 3) := by decide +kernel
theorem dX12_scan_112 : decode cX12_scan 112 = .ok (.aload_n 0, 1) := by decide +kernel
theorem dX12_scan_113 : decode cX12_scan 113 = .ok (.iload_n 1, 1) := by decide +kernel
theorem dX12_scan_114 : decode cX12_scan 114 = .ok (.invokevirtual 483, 3) := by decide +kernel
theorem dX12_scan_117 : decode cX12_scan 117 = .ok (.bipush 10, 2) := by decide +kernel
theorem dX12_scan_119 : decode cX12_scan 119 = .ok (.if_icmp .eq 24, 3) := by decide +kernel
theorem dX12_scan_122 : decode cX12_scan 122 = .ok (.iinc 1 1, 3) := by decide +kernel
theorem dX12_scan_125 : decode cX12_scan 125 = .ok (.goto (-21), 3) := by decide +kernel
theorem dX12_scan_128 : decode cX12_scan 128 = .ok (.aload_n 0, 1) := by decide +kernel
theorem dX12_scan_129 : decode cX12_scan 129 = .ok (.iload_n 1, 1) := by decide +kernel
theorem dX12_scan_130 : decode cX12_scan 130 = .ok (.iload_n 2, 1) := by decide +kernel
theorem dX12_scan_131 : decode cX12_scan 131 = .ok (.invokevirtual 497, 3) := by decide +kernel
theorem dX12_scan_134 : decode cX12_scan 134 = .ok (.istore_n 1, 1) := by decide +kernel
theorem dX12_scan_135 : decode cX12_scan 135 = .ok (.iload_n 1, 1) := by decide +kernel
theorem dX12_scan_136 : decode cX12_scan 136 = .ok (.ifCond .ge 7, 3) := by decide +kernel
theorem dX12_scan_139 : decode cX12_scan 139 = .ok (.iconst (-1), 1) := by decide +kernel
theorem dX12_scan_140 : decode cX12_scan 140 = .ok (.iload_n 1, 1) := by decide +kernel
theorem dX12_scan_141 : decode cX12_scan 141 = .ok (.isub, 1) := by decide +kernel
theorem dX12_scan_142 : decode cX12_scan 142 = .ok (.ireturn, 1) := by decide +kernel
theorem dX12_scan_143 : decode cX12_scan 143 = .ok (.goto (-111), 3) := by decide +kernel
theorem dX12_scan_146 : decode cX12_scan 146 = .ok (.iconst (-1), 1) := by decide +kernel
theorem dX12_scan_147 : decode cX12_scan 147 = .ok (.ireturn, 1) := by decide +kernel
def wr_scan_104B (Q : Int → zS → Prop) (k32 : zS → Int → Prop) (k104 : zS → Int → Prop) (s0 : zS) (x1 : Int) : Prop :=
  (((zv s0 4) ≤ x1 → k32 s0 x1) ∧ (¬ (zv s0 4) ≤ x1 → wr_look s0 x1 (fun r4 s5 => ((r4 = 10 → k32 s5 x1) ∧ (¬ r4 = 10 → (zR (x1 + 1)) ∧ k104 s5 (x1 + 1))))))
def wr_scan_104 (Q : Int → zS → Prop) (k32 : zS → Int → Prop) : Nat → zS → Int → Prop
  | 0 => fun _ _ => False
  | m + 1 => fun s0 x1 => wr_scan_104B Q k32 (wr_scan_104 Q k32 m) s0 x1
def wr_scan_32B (Q : Int → zS → Prop) (k32 : zS → Int → Prop) (s0 : zS) (x1 : Int) : Prop :=
  (((zv s0 4) ≤ x1 → Q (-1) s0) ∧ (¬ (zv s0 4) ≤ x1 → wr_look s0 x1 (fun r4 s5 => ((¬ r4 = 10 → ((r4 = 9 → (zR (x1 + 1)) ∧ k32 s5 (x1 + 1)) ∧ (¬ r4 = 9 → ((r4 = 13 → (zR (x1 + 1)) ∧ k32 s5 (x1 + 1)) ∧ (¬ r4 = 13 → ((¬ r4 = 32 → wr_isPair s5 x1 47 47 (fun r24 s25 => ((r24 = 0 → wr_one s25 x1 r4 (fun r32 s33 => ((0 ≤ r32 → k32 s33 r32) ∧ (¬ 0 ≤ r32 → (zR ((-1) - r32)) ∧ Q ((-1) - r32) s33)))) ∧ (¬ r24 = 0 → ∃ n, wr_scan_104 Q k32 n s25 x1)))) ∧ (r4 = 32 → (zR (x1 + 1)) ∧ k32 s5 (x1 + 1)))))))) ∧ (r4 = 10 → (zR ((zv s5 19) + 1)) ∧ (zR (x1 + 1)) ∧ k32 (zpv s5 19 ((zv s5 19) + 1)) (x1 + 1))))))
def wr_scan_32 (Q : Int → zS → Prop)  : Nat → zS → Int → Prop
  | 0 => fun _ _ => False
  | m + 1 => fun s0 x1 => wr_scan_32B Q  (wr_scan_32 Q  m) s0 x1
def wr_scan (s0 : zS)  (Q : Int → zS → Prop) : Prop :=
  ∃ n, wr_scan_32 Q  n (zpv (zpv (zpv (zpv (zpv (zpv s0 8 0) 5 0) 18 0) 15 0) 19 0) 20 0) 0
set_option maxHeartbeats 4000000 in
set_option maxRecDepth 100000 in
theorem rb_scan_104 {X : gX} {d : gD} {b t : Nat} {T : Nat → Nat} {F0 : gM} (hC : gC RX12 cX12_scan 3 (some .int) "scan" (gR 4 0 0) d b X) {Q : Int → zS → Prop} {k32 : zS → Int → Prop} {k104 : zS → Int → Prop} (hk32 : ∀ (F : gM) (s0 : zS) (x1 : Int), zR x1 → zZ d t T F0 F s0 → k32 s0 x1 → gG X d b (zQi X d b t T F0 Q) F 0 0 32 [some (.ref t), some (.int (zI x1)), none] []) (hk104 : ∀ (F : gM) (s0 : zS) (x1 : Int), zR x1 → zZ d t T F0 F s0 → k104 s0 x1 → gG X d b (zQi X d b t T F0 Q) F 0 0 104 [some (.ref t), some (.int (zI x1)), none] []) {F : gM} {s0 : zS} {x1 : Int} (Rx1 : zR x1) (hZ : zZ d t T F0 F s0) (hw : wr_scan_104B Q k32 k104 s0 x1) : gG X d b (zQi X d b t T F0 Q) F 0 0 104 [some (.ref t), some (.int (zI x1)), none] [] := by
  unfold wr_scan_104B at hw
  refine g_iload_n hC dX12_scan_104 rfl ?_
  refine g_aload_n hC dX12_scan_105 rfl ?_
  refine zr_get (e := (zv s0 4)) hC hZ fl_X12_23 zb_4 (by decide) rfl dX12_scan_106 ?_
  refine zr_icmp_ge (tgt := 143) hC Rx1 (hZ.rv 4) dX12_scan_109 (by decide) (fun c1 => ?_) (fun c1 => ?_)
  · have h2 := hw.1 c1
    refine g_goto (tgt := 32) hC dX12_scan_143 (by decide) ?_
    exact hk32 _ _ _ Rx1 hZ h2
  · have h3 := hw.2 c1
    refine g_aload_n hC dX12_scan_112 rfl ?_
    refine g_iload_n hC dX12_scan_113 rfl ?_
    refine zr_callVi (As := [.int (zI x1)]) hC hZ rfl (rm_look X.la d b Rx1 hZ.rf h3) cl_X12_483 rfl rfl (Nat.le_of_ble_eq_true rfl) ⟨Nat.le_of_ble_eq_true rfl, Nat.le_of_ble_eq_true rfl⟩ dX12_scan_114 (fun r4 s5 F6 R7 hZ8 h9 => ?_)
    refine g_bipush (v := zI 10) hC dX12_scan_117 rfl ?_
    refine zr_icmp_eq (tgt := 143) hC R7 (by decide) dX12_scan_119 (by decide) (fun c10 => ?_) (fun c10 => ?_)
    · have h11 := h9.1 c10
      refine g_goto (tgt := 32) hC dX12_scan_143 (by decide) ?_
      exact hk32 _ _ _ Rx1 hZ8 h11
    · have h12 := h9.2 c10
      refine zr_iinc (x := x1) (lv' := [some (.ref t), some (.int (zI (x1 + 1))), none]) hC dX12_scan_122 rfl rfl rfl ?_
      refine g_goto (tgt := 104) hC dX12_scan_125 (by decide) ?_
      obtain ⟨o13, h14⟩ := h12
      exact hk104 _ _ _ o13 hZ8 h14
theorem rl_scan_104 {X : gX} {d : gD} {b t : Nat} {T : Nat → Nat} {F0 : gM} (hC : gC RX12 cX12_scan 3 (some .int) "scan" (gR 4 0 0) d b X) {Q : Int → zS → Prop} {k32 : zS → Int → Prop} (hk32 : ∀ (F : gM) (s0 : zS) (x1 : Int), zR x1 → zZ d t T F0 F s0 → k32 s0 x1 → gG X d b (zQi X d b t T F0 Q) F 0 0 32 [some (.ref t), some (.int (zI x1)), none] []) : ∀ (m : Nat) (F : gM) (s0 : zS) (x1 : Int), zR x1 → zZ d t T F0 F s0 → wr_scan_104 Q k32 m s0 x1 → gG X d b (zQi X d b t T F0 Q) F 0 0 104 [some (.ref t), some (.int (zI x1)), none] [] := by
  intro m
  induction m with
  | zero => intro F s0 x1 Rx1 hZ hw; exact False.elim hw
  | succ m ih => intro F s0 x1 Rx1 hZ hw; exact rb_scan_104 hC hk32 ih Rx1 hZ hw
set_option maxHeartbeats 4000000 in
set_option maxRecDepth 100000 in
theorem rb_scan_32 {X : gX} {d : gD} {b t : Nat} {T : Nat → Nat} {F0 : gM} (hC : gC RX12 cX12_scan 3 (some .int) "scan" (gR 4 0 0) d b X) {Q : Int → zS → Prop} {k32 : zS → Int → Prop} (hk32 : ∀ (F : gM) (s0 : zS) (x1 : Int), zR x1 → zZ d t T F0 F s0 → k32 s0 x1 → gG X d b (zQi X d b t T F0 Q) F 0 0 32 [some (.ref t), some (.int (zI x1)), none] []) {F : gM} {s0 : zS} {x1 : Int} (Rx1 : zR x1) (hZ : zZ d t T F0 F s0) (hw : wr_scan_32B Q k32 s0 x1) : gG X d b (zQi X d b t T F0 Q) F 0 0 32 [some (.ref t), some (.int (zI x1)), none] [] := by
  unfold wr_scan_32B at hw
  refine g_iload_n hC dX12_scan_32 rfl ?_
  refine g_aload_n hC dX12_scan_33 rfl ?_
  refine zr_get (e := (zv s0 4)) hC hZ fl_X12_23 zb_4 (by decide) rfl dX12_scan_34 ?_
  refine zr_icmp_ge (tgt := 146) hC Rx1 (hZ.rv 4) dX12_scan_37 (by decide) (fun c1 => ?_) (fun c1 => ?_)
  · have h2 := hw.1 c1
    refine g_iconst (v := zI (-1)) hC dX12_scan_146 rfl ?_
    exact zr_iret hC hZ (by decide) h2 dX12_scan_147
  · have h3 := hw.2 c1
    refine g_aload_n hC dX12_scan_40 rfl ?_
    refine g_iload_n hC dX12_scan_41 rfl ?_
    refine zr_callVi (As := [.int (zI x1)]) hC hZ rfl (rm_look X.la d b Rx1 hZ.rf h3) cl_X12_483 rfl rfl (Nat.le_of_ble_eq_true rfl) ⟨Nat.le_of_ble_eq_true rfl, Nat.le_of_ble_eq_true rfl⟩ dX12_scan_42 (fun r4 s5 F6 R7 hZ8 h9 => ?_)
    refine g_istore_n (lv' := [some (.ref t), some (.int (zI x1)), some (.int (zI r4))]) hC dX12_scan_45 (Nat.le_of_ble_eq_true rfl) rfl rfl ?_
    refine g_iload_n hC dX12_scan_46 rfl ?_
    refine g_bipush (v := zI 10) hC dX12_scan_47 rfl ?_
    refine zr_icmp_ne (tgt := 68) hC R7 (by decide) dX12_scan_49 (by decide) (fun c10 => ?_) (fun c10 => ?_)
    · have h11 := h9.1 c10
      refine g_iload_n hC dX12_scan_68 rfl ?_
      refine g_bipush (v := zI 9) hC dX12_scan_69 rfl ?_
      refine zr_icmp_eq (tgt := 86) hC R7 (by decide) dX12_scan_71 (by decide) (fun c12 => ?_) (fun c12 => ?_)
      · have h13 := h11.1 c12
        refine zr_iinc (x := x1) (lv' := [some (.ref t), some (.int (zI (x1 + 1))), some (.int (zI r4))]) hC dX12_scan_86 rfl rfl rfl ?_
        refine g_goto (tgt := 143) hC dX12_scan_89 (by decide) ?_
        refine g_goto (tgt := 32) hC dX12_scan_143 (by decide) ?_
        obtain ⟨o14, h15⟩ := h13
        refine g_lv (lv' := [some (.ref t), some (.int (zI (x1 + 1))), none]) ⟨rfl, rfl, trivial⟩ ?_
        exact hk32 _ _ _ o14 hZ8 h15
      · have h16 := h11.2 c12
        refine g_iload_n hC dX12_scan_74 rfl ?_
        refine g_bipush (v := zI 13) hC dX12_scan_75 rfl ?_
        refine zr_icmp_eq (tgt := 86) hC R7 (by decide) dX12_scan_77 (by decide) (fun c17 => ?_) (fun c17 => ?_)
        · have h18 := h16.1 c17
          refine zr_iinc (x := x1) (lv' := [some (.ref t), some (.int (zI (x1 + 1))), some (.int (zI r4))]) hC dX12_scan_86 rfl rfl rfl ?_
          refine g_goto (tgt := 143) hC dX12_scan_89 (by decide) ?_
          refine g_goto (tgt := 32) hC dX12_scan_143 (by decide) ?_
          obtain ⟨o19, h20⟩ := h18
          refine g_lv (lv' := [some (.ref t), some (.int (zI (x1 + 1))), none]) ⟨rfl, rfl, trivial⟩ ?_
          exact hk32 _ _ _ o19 hZ8 h20
        · have h21 := h16.2 c17
          refine g_iload_n hC dX12_scan_80 rfl ?_
          refine g_bipush (v := zI 32) hC dX12_scan_81 rfl ?_
          refine zr_icmp_ne (tgt := 92) hC R7 (by decide) dX12_scan_83 (by decide) (fun c22 => ?_) (fun c22 => ?_)
          · have h23 := h21.1 c22
            refine g_aload_n hC dX12_scan_92 rfl ?_
            refine g_iload_n hC dX12_scan_93 rfl ?_
            refine g_bipush (v := zI 47) hC dX12_scan_94 rfl ?_
            refine g_bipush (v := zI 47) hC dX12_scan_96 rfl ?_
            refine zr_callVi (As := [.int (zI x1), .int (zI 47), .int (zI 47)]) hC hZ8 rfl (rm_isPair X.la d b Rx1 (by decide) (by decide) hZ8.rf h23) cl_X12_493 rfl rfl (Nat.le_of_ble_eq_true rfl) ⟨Nat.le_of_ble_eq_true rfl, Nat.le_of_ble_eq_true rfl⟩ dX12_scan_98 (fun r24 s25 F26 R27 hZ28 h29 => ?_)
            refine zr_if_eq (tgt := 128) hC R27 dX12_scan_101 (by decide) (fun c30 => ?_) (fun c30 => ?_)
            · have h31 := h29.1 c30
              refine g_aload_n hC dX12_scan_128 rfl ?_
              refine g_iload_n hC dX12_scan_129 rfl ?_
              refine g_iload_n hC dX12_scan_130 rfl ?_
              refine zr_callVi (As := [.int (zI x1), .int (zI r4)]) hC hZ28 rfl (rm_one X.la d b Rx1 R7 hZ28.rf h31) cl_X12_497 rfl rfl (Nat.le_of_ble_eq_true rfl) ⟨Nat.le_of_ble_eq_true rfl, Nat.le_of_ble_eq_true rfl⟩ dX12_scan_131 (fun r32 s33 F34 R35 hZ36 h37 => ?_)
              refine g_istore_n (lv' := [some (.ref t), some (.int (zI r32)), some (.int (zI r4))]) hC dX12_scan_134 (Nat.le_of_ble_eq_true rfl) rfl rfl ?_
              refine g_iload_n hC dX12_scan_135 rfl ?_
              refine zr_if_ge (tgt := 143) hC R35 dX12_scan_136 (by decide) (fun c38 => ?_) (fun c38 => ?_)
              · have h39 := h37.1 c38
                refine g_goto (tgt := 32) hC dX12_scan_143 (by decide) ?_
                refine g_lv (lv' := [some (.ref t), some (.int (zI r32)), none]) ⟨rfl, rfl, trivial⟩ ?_
                exact hk32 _ _ _ R35 hZ36 h39
              · have h40 := h37.2 c38
                refine g_iconst (v := zI (-1)) hC dX12_scan_139 rfl ?_
                refine g_iload_n hC dX12_scan_140 rfl ?_
                refine zr_isub hC dX12_scan_141 ?_
                obtain ⟨o41, h42⟩ := h40
                exact zr_iret hC hZ36 o41 h42 dX12_scan_142
            · have h43 := h29.2 c30
              refine g_lv (lv' := [some (.ref t), some (.int (zI x1)), none]) ⟨rfl, rfl, trivial⟩ ?_
              obtain ⟨m44, h45⟩ := h43
              exact rl_scan_104 hC hk32 m44 _ _ _ Rx1 hZ28 h45
          · have h46 := h21.2 c22
            refine zr_iinc (x := x1) (lv' := [some (.ref t), some (.int (zI (x1 + 1))), some (.int (zI r4))]) hC dX12_scan_86 rfl rfl rfl ?_
            refine g_goto (tgt := 143) hC dX12_scan_89 (by decide) ?_
            refine g_goto (tgt := 32) hC dX12_scan_143 (by decide) ?_
            obtain ⟨o47, h48⟩ := h46
            refine g_lv (lv' := [some (.ref t), some (.int (zI (x1 + 1))), none]) ⟨rfl, rfl, trivial⟩ ?_
            exact hk32 _ _ _ o47 hZ8 h48
    · have h49 := h9.2 c10
      refine g_aload_n hC dX12_scan_52 rfl ?_
      refine g_dup hC dX12_scan_53 rfl ?_
      refine zr_get (e := (zv s5 19)) hC hZ8 fl_X12_69 zb_19 (by decide) rfl dX12_scan_54 ?_
      refine g_iconst (v := zI 1) hC dX12_scan_57 rfl ?_
      refine zr_iadd hC dX12_scan_58 ?_
      obtain ⟨o50, h51⟩ := h49
      refine zr_put hC hZ8 fl_X12_69 zb_19 (by decide) o50 dX12_scan_59 (fun F52 hZ53 => ?_)
      refine zr_iinc (x := x1) (lv' := [some (.ref t), some (.int (zI (x1 + 1))), some (.int (zI r4))]) hC dX12_scan_62 rfl rfl rfl ?_
      refine g_goto (tgt := 143) hC dX12_scan_65 (by decide) ?_
      refine g_goto (tgt := 32) hC dX12_scan_143 (by decide) ?_
      obtain ⟨o54, h55⟩ := h51
      refine g_lv (lv' := [some (.ref t), some (.int (zI (x1 + 1))), none]) ⟨rfl, rfl, trivial⟩ ?_
      exact hk32 _ _ _ o54 hZ53 h55
theorem rl_scan_32 {X : gX} {d : gD} {b t : Nat} {T : Nat → Nat} {F0 : gM} (hC : gC RX12 cX12_scan 3 (some .int) "scan" (gR 4 0 0) d b X) {Q : Int → zS → Prop}   : ∀ (m : Nat) (F : gM) (s0 : zS) (x1 : Int), zR x1 → zZ d t T F0 F s0 → wr_scan_32 Q  m s0 x1 → gG X d b (zQi X d b t T F0 Q) F 0 0 32 [some (.ref t), some (.int (zI x1)), none] [] := by
  intro m
  induction m with
  | zero => intro F s0 x1 Rx1 hZ hw; exact False.elim hw
  | succ m ih => intro F s0 x1 Rx1 hZ hw; exact rb_scan_32 hC  ih Rx1 hZ hw
set_option maxHeartbeats 4000000 in
set_option maxRecDepth 100000 in
theorem rm_scan (l : Launch) (d : gD) (b : Nat) {t : Nat} {T : Nat → Nat} {F : gM} {s0 : zS}   {Q : Int → zS → Prop} (hZ : zZ d t T F F s0) (hw : wr_scan s0  Q) : gMi l d b yX12_scan cX12_scan 3 .int 4 0 0 F [.ref t] (zPi d t T F Q) := by
  refine gM_of2 rfl (nL := 3) (Nat.le_of_ble_eq_true rfl) ?_
  intro X hX hC; subst hX
  show gG X d b (zQi X d b t T F Q) F 0 0 0 [some (.ref t), none, none] []
  unfold wr_scan at hw
  refine g_aload_n hC dX12_scan_0 rfl ?_
  refine g_iconst (v := zI 0) hC dX12_scan_1 rfl ?_
  refine zr_put hC hZ fl_X12_36 zb_8 (by decide) (by decide) dX12_scan_2 (fun F1 hZ2 => ?_)
  refine g_aload_n hC dX12_scan_5 rfl ?_
  refine g_iconst (v := zI 0) hC dX12_scan_6 rfl ?_
  refine zr_put hC hZ2 fl_X12_26 zb_5 (by decide) (by decide) dX12_scan_7 (fun F3 hZ4 => ?_)
  refine g_aload_n hC dX12_scan_10 rfl ?_
  refine g_iconst (v := zI 0) hC dX12_scan_11 rfl ?_
  refine zr_put hC hZ4 fl_X12_66 zb_18 (by decide) (by decide) dX12_scan_12 (fun F5 hZ6 => ?_)
  refine g_aload_n hC dX12_scan_15 rfl ?_
  refine g_iconst (v := zI 0) hC dX12_scan_16 rfl ?_
  refine zr_put hC hZ6 fl_X12_57 zb_15 (by decide) (by decide) dX12_scan_17 (fun F7 hZ8 => ?_)
  refine g_aload_n hC dX12_scan_20 rfl ?_
  refine g_iconst (v := zI 0) hC dX12_scan_21 rfl ?_
  refine zr_put hC hZ8 fl_X12_69 zb_19 (by decide) (by decide) dX12_scan_22 (fun F9 hZ10 => ?_)
  refine g_aload_n hC dX12_scan_25 rfl ?_
  refine g_iconst (v := zI 0) hC dX12_scan_26 rfl ?_
  refine zr_put hC hZ10 fl_X12_72 zb_20 (by decide) (by decide) dX12_scan_27 (fun F11 hZ12 => ?_)
  refine g_iconst (v := zI 0) hC dX12_scan_30 rfl ?_
  refine g_istore_n (lv' := [some (.ref t), some (.int (zI 0)), none]) hC dX12_scan_31 (Nat.le_of_ble_eq_true rfl) rfl rfl ?_
  obtain ⟨m13, h14⟩ := hw
  exact rl_scan_32 hC  m13 _ _ _ (by decide) hZ12 h14
theorem dX12_node_0 : decode cX12_node 0 = .ok (.aload_n 0, 1) := by decide +kernel
theorem dX12_node_1 : decode cX12_node 1 = .ok (.getfield 84, 3) := by decide +kernel
theorem dX12_node_4 : decode cX12_node 4 = .ok (.istore 4, 2) := by decide +kernel
theorem dX12_node_6 : decode cX12_node 6 = .ok (.aload_n 0, 1) := by decide +kernel
theorem dX12_node_7 : decode cX12_node 7 = .ok (.dup, 1) := by decide +kernel
theorem dX12_node_8 : decode cX12_node 8 = .ok (.getfield 84, 3) := by decide +kernel
theorem dX12_node_11 : decode cX12_node 11 = .ok (.iconst 1, 1) := by decide +kernel
theorem dX12_node_12 : decode cX12_node 12 = .ok (.iadd, 1) := by decide +kernel
theorem dX12_node_13 : decode cX12_node 13 = .ok (.putfield 84, 3) := by decide +kernel
theorem dX12_node_16 : decode cX12_node 16 = .ok (.aload_n 0, 1) := by decide +kernel
theorem dX12_node_17 : decode cX12_node 17 = .ok (.getfield 87, 3) := by decide +kernel
theorem dX12_node_20 : decode cX12_node 20 = .ok (.iload 4, 2) := by decide +kernel
theorem dX12_node_22 : decode cX12_node 22 = .ok (.iload_n 1, 1) := by decide +kernel
theorem dX12_node_23 : decode cX12_node 23 = .ok (.i2b, 1) := by decide +kernel
theorem dX12_node_24 : decode cX12_node 24 = .ok (.bastore, 1) := by decide +kernel
theorem dX12_node_25 : decode cX12_node 25 = .ok (.aload_n 0, 1) := by decide +kernel
theorem dX12_node_26 : decode cX12_node 26 = .ok (.getfield 90, 3) := by decide +kernel
theorem dX12_node_29 : decode cX12_node 29 = .ok (.iload 4, 2) := by decide +kernel
theorem dX12_node_31 : decode cX12_node 31 = .ok (.iload_n 2, 1) := by decide +kernel
theorem dX12_node_32 : decode cX12_node 32 = .ok (.iastore, 1) := by decide +kernel
theorem dX12_node_33 : decode cX12_node 33 = .ok (.aload_n 0, 1) := by decide +kernel
theorem dX12_node_34 : decode cX12_node 34 = .ok (.getfield 93, 3) := by decide +kernel
theorem dX12_node_37 : decode cX12_node 37 = .ok (.iload 4, 2) := by decide +kernel
theorem dX12_node_39 : decode cX12_node 39 = .ok (.iconst (-1), 1) := by decide +kernel
theorem dX12_node_40 : decode cX12_node 40 = .ok (.iastore, 1) := by decide +kernel
theorem dX12_node_41 : decode cX12_node 41 = .ok (.aload_n 0, 1) := by decide +kernel
theorem dX12_node_42 : decode cX12_node 42 = .ok (.getfield 96, 3) := by decide +kernel
theorem dX12_node_45 : decode cX12_node 45 = .ok (.iload 4, 2) := by decide +kernel
theorem dX12_node_47 : decode cX12_node 47 = .ok (.iconst (-1), 1) := by decide +kernel
theorem dX12_node_48 : decode cX12_node 48 = .ok (.iastore, 1) := by decide +kernel
theorem dX12_node_49 : decode cX12_node 49 = .ok (.aload_n 0, 1) := by decide +kernel
theorem dX12_node_50 : decode cX12_node 50 = .ok (.getfield 99, 3) := by decide +kernel
theorem dX12_node_53 : decode cX12_node 53 = .ok (.iload 4, 2) := by decide +kernel
theorem dX12_node_55 : decode cX12_node 55 = .ok (.iload_n 3, 1) := by decide +kernel
theorem dX12_node_56 : decode cX12_node 56 = .ok (.iastore, 1) := by decide +kernel
theorem dX12_node_57 : decode cX12_node 57 = .ok (.aload_n 0, 1) := by decide +kernel
theorem dX12_node_58 : decode cX12_node 58 = .ok (.getfield 102, 3) := by decide +kernel
theorem dX12_node_61 : decode cX12_node 61 = .ok (.iload 4, 2) := by decide +kernel
theorem dX12_node_63 : decode cX12_node 63 = .ok (.iconst 0, 1) := by decide +kernel
theorem dX12_node_64 : decode cX12_node 64 = .ok (.iastore, 1) := by decide +kernel
theorem dX12_node_65 : decode cX12_node 65 = .ok (.aload_n 0, 1) := by decide +kernel
theorem dX12_node_66 : decode cX12_node 66 = .ok (.getfield 105, 3) := by decide +kernel
theorem dX12_node_69 : decode cX12_node 69 = .ok (.iload 4, 2) := by decide +kernel
theorem dX12_node_71 : decode cX12_node 71 = .ok (.iconst 0, 1) := by decide +kernel
theorem dX12_node_72 : decode cX12_node 72 = .ok (.iastore, 1) := by decide +kernel
theorem dX12_node_73 : decode cX12_node 73 = .ok (.aload_n 0, 1) := by decide +kernel
theorem dX12_node_74 : decode cX12_node 74 = .ok (.getfield 111, 3) := by decide +kernel
theorem dX12_node_77 : decode cX12_node 77 = .ok (.iload 4, 2) := by decide +kernel
theorem dX12_node_79 : decode cX12_node 79 = .ok (.iconst 0, 1) := by decide +kernel
theorem dX12_node_80 : decode cX12_node 80 = .ok (.iastore, 1) := by decide +kernel
theorem dX12_node_81 : decode cX12_node 81 = .ok (.aload_n 0, 1) := by decide +kernel
theorem dX12_node_82 : decode cX12_node 82 = .ok (.getfield 114, 3) := by decide +kernel
theorem dX12_node_85 : decode cX12_node 85 = .ok (.iload 4, 2) := by decide +kernel
theorem dX12_node_87 : decode cX12_node 87 = .ok (.iload_n 2, 1) := by decide +kernel
theorem dX12_node_88 : decode cX12_node 88 = .ok (.iastore, 1) := by decide +kernel
theorem dX12_node_89 : decode cX12_node 89 = .ok (.aload_n 0, 1) := by decide +kernel
theorem dX12_node_90 : decode cX12_node 90 = .ok (.getfield 117, 3) := by decide +kernel
theorem dX12_node_93 : decode cX12_node 93 = .ok (.iload 4, 2) := by decide +kernel
theorem dX12_node_95 : decode cX12_node 95 = .ok (.iconst 0, 1) := by decide +kernel
theorem dX12_node_96 : decode cX12_node 96 = .ok (.bastore, 1) := by decide +kernel
theorem dX12_node_97 : decode cX12_node 97 = .ok (.iload 4, 2) := by decide +kernel
theorem dX12_node_99 : decode cX12_node 99 = .ok (.ireturn, 1) := by decide +kernel
def wr_node (s0 : zS) (a0 : Int) (a1 : Int) (a2 : Int) (Q : Int → zS → Prop) : Prop :=
  (zR ((zv s0 24) + 1)) ∧ (0 ≤ (zv s0 24)) ∧ ((zv s0 24) < 26000) ∧ (0 ≤ (zv s0 24)) ∧ ((zv s0 24) < 26000) ∧ (0 ≤ (zv s0 24)) ∧ ((zv s0 24) < 26000) ∧ (0 ≤ (zv s0 24)) ∧ ((zv s0 24) < 26000) ∧ (0 ≤ (zv s0 24)) ∧ ((zv s0 24) < 26000) ∧ (0 ≤ (zv s0 24)) ∧ ((zv s0 24) < 26000) ∧ (0 ≤ (zv s0 24)) ∧ ((zv s0 24) < 26000) ∧ (0 ≤ (zv s0 24)) ∧ ((zv s0 24) < 26000) ∧ (0 ≤ (zv s0 24)) ∧ ((zv s0 24) < 26000) ∧ (0 ≤ (zv s0 24)) ∧ ((zv s0 24) < 26000) ∧ Q (zv s0 24) (zpa (zpa (zpa (zpa (zpa (zpa (zpa (zpa (zpa (zpa (zpv s0 24 ((zv s0 24) + 1)) 25 (Int.toNat (zv s0 24)) (znb (zby a0))) 26 (Int.toNat (zv s0 24)) a1) 27 (Int.toNat (zv s0 24)) (-1)) 28 (Int.toNat (zv s0 24)) (-1)) 29 (Int.toNat (zv s0 24)) a2) 30 (Int.toNat (zv s0 24)) 0) 31 (Int.toNat (zv s0 24)) 0) 33 (Int.toNat (zv s0 24)) 0) 34 (Int.toNat (zv s0 24)) a1) 35 (Int.toNat (zv s0 24)) (znz 0))
set_option maxHeartbeats 4000000 in
set_option maxRecDepth 100000 in
theorem rm_node (l : Launch) (d : gD) (b : Nat) {t : Nat} {T : Nat → Nat} {F : gM} {s0 : zS} {a0 : Int} {a1 : Int} {a2 : Int} (Ra0 : zR a0) (Ra1 : zR a1) (Ra2 : zR a2) {Q : Int → zS → Prop} (hZ : zZ d t T F F s0) (hw : wr_node s0 a0 a1 a2 Q) : gMi l d b yX12_node cX12_node 5 .int 0 0 0 F [.ref t, .int (zI a0), .int (zI a1), .int (zI a2)] (zPi d t T F Q) := by
  refine gM_of2 rfl (nL := 5) (Nat.le_of_ble_eq_true rfl) ?_
  intro X hX hC; subst hX
  show gG X d b (zQi X d b t T F Q) F 0 0 0 [some (.ref t), some (.int (zI a0)), some (.int (zI a1)), some (.int (zI a2)), none] []
  unfold wr_node at hw
  refine g_aload_n hC dX12_node_0 rfl ?_
  refine zr_get (e := (zv s0 24)) hC hZ fl_X12_84 zb_24 (by decide) rfl dX12_node_1 ?_
  refine g_istore (lv' := [some (.ref t), some (.int (zI a0)), some (.int (zI a1)), some (.int (zI a2)), some (.int (zI (zv s0 24)))]) hC dX12_node_4 (Nat.le_of_ble_eq_true rfl) rfl rfl ?_
  refine g_aload_n hC dX12_node_6 rfl ?_
  refine g_dup hC dX12_node_7 rfl ?_
  refine zr_get (e := (zv s0 24)) hC hZ fl_X12_84 zb_24 (by decide) rfl dX12_node_8 ?_
  refine g_iconst (v := zI 1) hC dX12_node_11 rfl ?_
  refine zr_iadd hC dX12_node_12 ?_
  obtain ⟨o1, h2⟩ := hw
  refine zr_put hC hZ fl_X12_84 zb_24 (by decide) o1 dX12_node_13 (fun F3 hZ4 => ?_)
  refine g_aload_n hC dX12_node_16 rfl ?_
  refine zr_geta hC hZ4 fl_X12_87 zb_25 (by decide) dX12_node_17 ?_
  refine g_iload hC dX12_node_20 rfl ?_
  refine g_iload_n hC dX12_node_22 rfl ?_
  refine zr_i2b hC dX12_node_23 ?_
  obtain ⟨o5, h6⟩ := h2
  obtain ⟨o7, h8⟩ := h6
  refine zr_bast hC hZ4 zk_25 zb_25 zn_25 (by decide) o5 o7  dX12_node_24 (fun F9 hZ10 => ?_)
  refine g_aload_n hC dX12_node_25 rfl ?_
  refine zr_geta hC hZ10 fl_X12_90 zb_26 (by decide) dX12_node_26 ?_
  refine g_iload hC dX12_node_29 rfl ?_
  refine g_iload_n hC dX12_node_31 rfl ?_
  obtain ⟨o11, h12⟩ := h8
  obtain ⟨o13, h14⟩ := h12
  refine zr_iast hC hZ10 zk_26 zb_26 zn_26 (by decide) o11 o13 Ra1 dX12_node_32 (fun F15 hZ16 => ?_)
  refine g_aload_n hC dX12_node_33 rfl ?_
  refine zr_geta hC hZ16 fl_X12_93 zb_27 (by decide) dX12_node_34 ?_
  refine g_iload hC dX12_node_37 rfl ?_
  refine g_iconst (v := zI (-1)) hC dX12_node_39 rfl ?_
  obtain ⟨o17, h18⟩ := h14
  obtain ⟨o19, h20⟩ := h18
  refine zr_iast hC hZ16 zk_27 zb_27 zn_27 (by decide) o17 o19 (by decide) dX12_node_40 (fun F21 hZ22 => ?_)
  refine g_aload_n hC dX12_node_41 rfl ?_
  refine zr_geta hC hZ22 fl_X12_96 zb_28 (by decide) dX12_node_42 ?_
  refine g_iload hC dX12_node_45 rfl ?_
  refine g_iconst (v := zI (-1)) hC dX12_node_47 rfl ?_
  obtain ⟨o23, h24⟩ := h20
  obtain ⟨o25, h26⟩ := h24
  refine zr_iast hC hZ22 zk_28 zb_28 zn_28 (by decide) o23 o25 (by decide) dX12_node_48 (fun F27 hZ28 => ?_)
  refine g_aload_n hC dX12_node_49 rfl ?_
  refine zr_geta hC hZ28 fl_X12_99 zb_29 (by decide) dX12_node_50 ?_
  refine g_iload hC dX12_node_53 rfl ?_
  refine g_iload_n hC dX12_node_55 rfl ?_
  obtain ⟨o29, h30⟩ := h26
  obtain ⟨o31, h32⟩ := h30
  refine zr_iast hC hZ28 zk_29 zb_29 zn_29 (by decide) o29 o31 Ra2 dX12_node_56 (fun F33 hZ34 => ?_)
  refine g_aload_n hC dX12_node_57 rfl ?_
  refine zr_geta hC hZ34 fl_X12_102 zb_30 (by decide) dX12_node_58 ?_
  refine g_iload hC dX12_node_61 rfl ?_
  refine g_iconst (v := zI 0) hC dX12_node_63 rfl ?_
  obtain ⟨o35, h36⟩ := h32
  obtain ⟨o37, h38⟩ := h36
  refine zr_iast hC hZ34 zk_30 zb_30 zn_30 (by decide) o35 o37 (by decide) dX12_node_64 (fun F39 hZ40 => ?_)
  refine g_aload_n hC dX12_node_65 rfl ?_
  refine zr_geta hC hZ40 fl_X12_105 zb_31 (by decide) dX12_node_66 ?_
  refine g_iload hC dX12_node_69 rfl ?_
  refine g_iconst (v := zI 0) hC dX12_node_71 rfl ?_
  obtain ⟨o41, h42⟩ := h38
  obtain ⟨o43, h44⟩ := h42
  refine zr_iast hC hZ40 zk_31 zb_31 zn_31 (by decide) o41 o43 (by decide) dX12_node_72 (fun F45 hZ46 => ?_)
  refine g_aload_n hC dX12_node_73 rfl ?_
  refine zr_geta hC hZ46 fl_X12_111 zb_33 (by decide) dX12_node_74 ?_
  refine g_iload hC dX12_node_77 rfl ?_
  refine g_iconst (v := zI 0) hC dX12_node_79 rfl ?_
  obtain ⟨o47, h48⟩ := h44
  obtain ⟨o49, h50⟩ := h48
  refine zr_iast hC hZ46 zk_33 zb_33 zn_33 (by decide) o47 o49 (by decide) dX12_node_80 (fun F51 hZ52 => ?_)
  refine g_aload_n hC dX12_node_81 rfl ?_
  refine zr_geta hC hZ52 fl_X12_114 zb_34 (by decide) dX12_node_82 ?_
  refine g_iload hC dX12_node_85 rfl ?_
  refine g_iload_n hC dX12_node_87 rfl ?_
  obtain ⟨o53, h54⟩ := h50
  obtain ⟨o55, h56⟩ := h54
  refine zr_iast hC hZ52 zk_34 zb_34 zn_34 (by decide) o53 o55 Ra1 dX12_node_88 (fun F57 hZ58 => ?_)
  refine g_aload_n hC dX12_node_89 rfl ?_
  refine zr_geta hC hZ58 fl_X12_117 zb_35 (by decide) dX12_node_90 ?_
  refine g_iload hC dX12_node_93 rfl ?_
  refine g_iconst (v := zI 0) hC dX12_node_95 rfl ?_
  obtain ⟨o59, h60⟩ := h56
  obtain ⟨o61, h62⟩ := h60
  refine zr_zast hC hZ58 zk_35 zb_35 zn_35 (by decide) o59 o61  dX12_node_96 (fun F63 hZ64 => ?_)
  refine g_iload hC dX12_node_97 rfl ?_
  exact zr_iret hC hZ64 (hZ.rv 24) h62 dX12_node_99
theorem dX12_leaf_0 : decode cX12_leaf 0 = .ok (.aload_n 0, 1) := by decide +kernel
theorem dX12_leaf_1 : decode cX12_leaf 1 = .ok (.getfield 121, 3) := by decide +kernel
theorem dX12_leaf_4 : decode cX12_leaf 4 = .ok (.aload_n 0, 1) := by decide +kernel
theorem dX12_leaf_5 : decode cX12_leaf 5 = .ok (.getfield 124, 3) := by decide +kernel
theorem dX12_leaf_8 : decode cX12_leaf 8 = .ok (.aload_n 0, 1) := by decide +kernel
theorem dX12_leaf_9 : decode cX12_leaf 9 = .ok (.iload_n 1, 1) := by decide +kernel
theorem dX12_leaf_10 : decode cX12_leaf 10 = .ok (.iload_n 2, 1) := by decide +kernel
theorem dX12_leaf_11 : decode cX12_leaf 11 = .ok (.iload_n 3, 1) := by decide +kernel
theorem dX12_leaf_12 : decode cX12_leaf 12 = .ok (.invokevirtual 522, 3) := by decide +kernel
theorem dX12_leaf_15 : decode cX12_leaf 15 = .ok (.iastore, 1) := by decide +kernel
theorem dX12_leaf_16 : decode cX12_leaf 16 = .ok (.aload_n 0, 1) := by decide +kernel
theorem dX12_leaf_17 : decode cX12_leaf 17 = .ok (.dup, 1) := by decide +kernel
theorem dX12_leaf_18 : decode cX12_leaf 18 = .ok (.getfield 124, 3) := by decide +kernel
theorem dX12_leaf_21 : decode cX12_leaf 21 = .ok (.iconst 1, 1) := by decide +kernel
theorem dX12_leaf_22 : decode cX12_leaf 22 = .ok (.iadd, 1) := by decide +kernel
theorem dX12_leaf_23 : decode cX12_leaf 23 = .ok (.putfield 124, 3) := by decide +kernel
theorem dX12_leaf_26 : decode cX12_leaf 26 = .ok (.return_, 1) := by decide +kernel
def wr_leaf (s0 : zS) (a0 : Int) (a1 : Int) (a2 : Int) (Q : zS → Prop) : Prop :=
  wr_node s0 a0 a1 a2 (fun r1 s2 => (0 ≤ (zv s0 37)) ∧ ((zv s0 37) < 26000) ∧ (zR ((zv s2 37) + 1)) ∧ Q (zpv (zpa s2 36 (Int.toNat (zv s0 37)) r1) 37 ((zv s2 37) + 1)))
set_option maxHeartbeats 4000000 in
set_option maxRecDepth 100000 in
theorem rm_leaf (l : Launch) (d : gD) (b : Nat) {t : Nat} {T : Nat → Nat} {F : gM} {s0 : zS} {a0 : Int} {a1 : Int} {a2 : Int} (Ra0 : zR a0) (Ra1 : zR a1) (Ra2 : zR a2) {Q : zS → Prop} (hZ : zZ d t T F F s0) (hw : wr_leaf s0 a0 a1 a2 Q) : gMv l d b yX12_leaf cX12_leaf 4 1 0 0 F [.ref t, .int (zI a0), .int (zI a1), .int (zI a2)] (zPv d t T F Q) := by
  refine gM_of2 rfl (nL := 4) (Nat.le_of_ble_eq_true rfl) ?_
  intro X hX hC; subst hX
  show gG X d b (zQv X d b t T F Q) F 0 0 0 [some (.ref t), some (.int (zI a0)), some (.int (zI a1)), some (.int (zI a2))] []
  unfold wr_leaf at hw
  refine g_aload_n hC dX12_leaf_0 rfl ?_
  refine zr_geta hC hZ fl_X12_121 zb_36 (by decide) dX12_leaf_1 ?_
  refine g_aload_n hC dX12_leaf_4 rfl ?_
  refine zr_get (e := (zv s0 37)) hC hZ fl_X12_124 zb_37 (by decide) rfl dX12_leaf_5 ?_
  refine g_aload_n hC dX12_leaf_8 rfl ?_
  refine g_iload_n hC dX12_leaf_9 rfl ?_
  refine g_iload_n hC dX12_leaf_10 rfl ?_
  refine g_iload_n hC dX12_leaf_11 rfl ?_
  refine zr_callVi (As := [.int (zI a0), .int (zI a1), .int (zI a2)]) hC hZ rfl (rm_node X.la d b Ra0 Ra1 Ra2 hZ.rf hw) cl_X12_522 rfl rfl (Nat.le_of_ble_eq_true rfl) ⟨Nat.le_of_ble_eq_true rfl, Nat.le_of_ble_eq_true rfl⟩ dX12_leaf_12 (fun r1 s2 F3 R4 hZ5 h6 => ?_)
  obtain ⟨o7, h8⟩ := h6
  obtain ⟨o9, h10⟩ := h8
  refine zr_iast hC hZ5 zk_36 zb_36 zn_36 (by decide) o7 o9 R4 dX12_leaf_15 (fun F11 hZ12 => ?_)
  refine g_aload_n hC dX12_leaf_16 rfl ?_
  refine g_dup hC dX12_leaf_17 rfl ?_
  refine zr_get (e := (zv s2 37)) hC hZ12 fl_X12_124 zb_37 (by decide) rfl dX12_leaf_18 ?_
  refine g_iconst (v := zI 1) hC dX12_leaf_21 rfl ?_
  refine zr_iadd hC dX12_leaf_22 ?_
  obtain ⟨o13, h14⟩ := h10
  refine zr_put hC hZ12 fl_X12_124 zb_37 (by decide) o13 dX12_leaf_23 (fun F15 hZ16 => ?_)
  exact zr_vret hC hZ16 h14 dX12_leaf_26
theorem dX12_shut_0 : decode cX12_shut 0 = .ok (.aload_n 0, 1) := by decide +kernel
theorem dX12_shut_1 : decode cX12_shut 1 = .ok (.iload_n 1, 1) := by decide +kernel
theorem dX12_shut_2 : decode cX12_shut 2 = .ok (.iload_n 2, 1) := by decide +kernel
theorem dX12_shut_3 : decode cX12_shut 3 = .ok (.iload 4, 2) := by decide +kernel
theorem dX12_shut_5 : decode cX12_shut 5 = .ok (.invokevirtual 522, 3) := by decide +kernel
theorem dX12_shut_8 : decode cX12_shut 8 = .ok (.istore 5, 2) := by decide +kernel
theorem dX12_shut_10 : decode cX12_shut 10 = .ok (.iload_n 3, 1) := by decide +kernel
theorem dX12_shut_11 : decode cX12_shut 11 = .ok (.istore 6, 2) := by decide +kernel
theorem dX12_shut_13 : decode cX12_shut 13 = .ok (.iload 6, 2) := by decide +kernel
theorem dX12_shut_15 : decode cX12_shut 15 = .ok (.aload_n 0, 1) := by decide +kernel
theorem dX12_shut_16 : decode cX12_shut 16 = .ok (.getfield 124, 3) := by decide +kernel
theorem dX12_shut_19 : decode cX12_shut 19 = .ok (.if_icmp .ge 94, 3) := by decide +kernel
theorem dX12_shut_22 : decode cX12_shut 22 = .ok (.iload 6, 2) := by decide +kernel
theorem dX12_shut_24 : decode cX12_shut 24 = .ok (.iload_n 3, 1) := by decide +kernel
theorem dX12_shut_25 : decode cX12_shut 25 = .ok (.if_icmp .ne 20, 3) := by decide +kernel
theorem dX12_shut_28 : decode cX12_shut 28 = .ok (.aload_n 0, 1) := by decide +kernel
theorem dX12_shut_29 : decode cX12_shut 29 = .ok (.getfield 93, 3) := by decide +kernel
theorem dX12_shut_32 : decode cX12_shut 32 = .ok (.iload 5, 2) := by decide +kernel
theorem dX12_shut_34 : decode cX12_shut 34 = .ok (.aload_n 0, 1) := by decide +kernel
theorem dX12_shut_35 : decode cX12_shut 35 = .ok (.getfield 121, 3) := by decide +kernel
theorem dX12_shut_38 : decode cX12_shut 38 = .ok (.iload 6, 2) := by decide +kernel
theorem dX12_shut_40 : decode cX12_shut 40 = .ok (.iaload, 1) := by decide +kernel
theorem dX12_shut_41 : decode cX12_shut 41 = .ok (.iastore, 1) := by decide +kernel
theorem dX12_shut_42 : decode cX12_shut 42 = .ok (.goto 24, 3) := by decide +kernel
theorem dX12_shut_45 : decode cX12_shut 45 = .ok (.aload_n 0, 1) := by decide +kernel
theorem dX12_shut_46 : decode cX12_shut 46 = .ok (.getfield 96, 3) := by decide +kernel
theorem dX12_shut_49 : decode cX12_shut 49 = .ok (.aload_n 0, 1) := by decide +kernel
theorem dX12_shut_50 : decode cX12_shut 50 = .ok (.getfield 121, 3) := by decide +kernel
theorem dX12_shut_53 : decode cX12_shut 53 = .ok (.iload 6, 2) := by decide +kernel
theorem dX12_shut_55 : decode cX12_shut 55 = .ok (.iconst 1, 1) := by decide +kernel
theorem dX12_shut_56 : decode cX12_shut 56 = .ok (.isub, 1) := by decide +kernel
theorem dX12_shut_57 : decode cX12_shut 57 = .ok (.iaload, 1) := by decide +kernel
theorem dX12_shut_58 : decode cX12_shut 58 = .ok (.aload_n 0, 1) := by decide +kernel
theorem dX12_shut_59 : decode cX12_shut 59 = .ok (.getfield 121, 3) := by decide +kernel
theorem dX12_shut_62 : decode cX12_shut 62 = .ok (.iload 6, 2) := by decide +kernel
theorem dX12_shut_64 : decode cX12_shut 64 = .ok (.iaload, 1) := by decide +kernel
theorem dX12_shut_65 : decode cX12_shut 65 = .ok (.iastore, 1) := by decide +kernel
theorem dX12_shut_66 : decode cX12_shut 66 = .ok (.aload_n 0, 1) := by decide +kernel
theorem dX12_shut_67 : decode cX12_shut 67 = .ok (.getfield 114, 3) := by decide +kernel
theorem dX12_shut_70 : decode cX12_shut 70 = .ok (.aload_n 0, 1) := by decide +kernel
theorem dX12_shut_71 : decode cX12_shut 71 = .ok (.getfield 121, 3) := by decide +kernel
theorem dX12_shut_74 : decode cX12_shut 74 = .ok (.iload 6, 2) := by decide +kernel
theorem dX12_shut_76 : decode cX12_shut 76 = .ok (.iaload, 1) := by decide +kernel
theorem dX12_shut_77 : decode cX12_shut 77 = .ok (.iaload, 1) := by decide +kernel
theorem dX12_shut_78 : decode cX12_shut 78 = .ok (.aload_n 0, 1) := by decide +kernel
theorem dX12_shut_79 : decode cX12_shut 79 = .ok (.getfield 114, 3) := by decide +kernel
theorem dX12_shut_82 : decode cX12_shut 82 = .ok (.iload 5, 2) := by decide +kernel
theorem dX12_shut_84 : decode cX12_shut 84 = .ok (.iaload, 1) := by decide +kernel
theorem dX12_shut_85 : decode cX12_shut 85 = .ok (.if_icmp .ge 22, 3) := by decide +kernel
theorem dX12_shut_88 : decode cX12_shut 88 = .ok (.aload_n 0, 1) := by decide +kernel
theorem dX12_shut_89 : decode cX12_shut 89 = .ok (.getfield 114, 3) := by decide +kernel
theorem dX12_shut_92 : decode cX12_shut 92 = .ok (.iload 5, 2) := by decide +kernel
theorem dX12_shut_94 : decode cX12_shut 94 = .ok (.aload_n 0, 1) := by decide +kernel
theorem dX12_shut_95 : decode cX12_shut 95 = .ok (.getfield 114, 3) := by decide +kernel
theorem dX12_shut_98 : decode cX12_shut 98 = .ok (.aload_n 0, 1) := by decide +kernel
theorem dX12_shut_99 : decode cX12_shut 99 = .ok (.getfield 121, 3) := by decide +kernel
theorem dX12_shut_102 : decode cX12_shut 102 = .ok (.iload 6, 2) := by decide +kernel
theorem dX12_shut_104 : decode cX12_shut 104 = .ok (.iaload, 1) := by decide +kernel
theorem dX12_shut_105 : decode cX12_shut 105 = .ok (.iaload, 1) := by decide +kernel
theorem dX12_shut_106 : decode cX12_shut 106 = .ok (.iastore, 1) := by decide +kernel
theorem dX12_shut_107 : decode cX12_shut 107 = .ok (.iinc 6 1, 3) := by decide +kernel
theorem dX12_shut_110 : decode cX12_shut 110 = .ok (.goto (-97), 3) := by decide +kernel
theorem dX12_shut_113 : decode cX12_shut 113 = .ok (.aload_n 0, 1) := by decide +kernel
theorem dX12_shut_114 : decode cX12_shut 114 = .ok (.iload_n 3, 1) := by decide +kernel
theorem dX12_shut_115 : decode cX12_shut 115 = .ok (.putfield 124, 3) := by decide +kernel
theorem dX12_shut_118 : decode cX12_shut 118 = .ok (.aload_n 0, 1) := by decide +kernel
theorem dX12_shut_119 : decode cX12_shut 119 = .ok (.getfield 121, 3) := by decide +kernel
theorem dX12_shut_122 : decode cX12_shut 122 = .ok (.aload_n 0, 1) := by decide +kernel
theorem dX12_shut_123 : decode cX12_shut 123 = .ok (.getfield 124, 3) := by decide +kernel
theorem dX12_shut_126 : decode cX12_shut 126 = .ok (.iload 5, 2) := by decide +kernel
theorem dX12_shut_128 : decode cX12_shut 128 = .ok (.iastore, 1) := by decide +kernel
theorem dX12_shut_129 : decode cX12_shut 129 = .ok (.aload_n 0, 1) := by decide +kernel
theorem dX12_shut_130 : decode cX12_shut 130 = .ok (.dup, 1) := by decide +kernel
theorem dX12_shut_131 : decode cX12_shut 131 = .ok (.getfield 124, 3) := by decide +kernel
theorem dX12_shut_134 : decode cX12_shut 134 = .ok (.iconst 1, 1) := by decide +kernel
theorem dX12_shut_135 : decode cX12_shut 135 = .ok (.iadd, 1) := by decide +kernel
theorem dX12_shut_136 : decode cX12_shut 136 = .ok (.putfield 124, 3) := by decide +kernel
theorem dX12_shut_139 : decode cX12_shut 139 = .ok (.iload 5, 2) := by decide +kernel
theorem dX12_shut_141 : decode cX12_shut 141 = .ok (.ireturn, 1) := by decide +kernel
def wr_shut_66 (Q : Int → zS → Prop) (k13 : zS → Int → Int → Int → Prop) (s0 : zS) (x3 : Int) (x5 : Int) (x6 : Int) : Prop :=
  (0 ≤ x6) ∧ (x6 < 26000) ∧ (0 ≤ (za s0 36 (Int.toNat x6))) ∧ ((za s0 36 (Int.toNat x6)) < 26000) ∧ (0 ≤ x5) ∧ (x5 < 26000) ∧ (((za s0 34 (Int.toNat x5)) ≤ (za s0 34 (Int.toNat (za s0 36 (Int.toNat x6)))) → (zR (x6 + 1)) ∧ k13 s0 x3 x5 (x6 + 1)) ∧ (¬ (za s0 34 (Int.toNat x5)) ≤ (za s0 34 (Int.toNat (za s0 36 (Int.toNat x6)))) → (0 ≤ x6) ∧ (x6 < 26000) ∧ (0 ≤ (za s0 36 (Int.toNat x6))) ∧ ((za s0 36 (Int.toNat x6)) < 26000) ∧ (0 ≤ x5) ∧ (x5 < 26000) ∧ (zR (x6 + 1)) ∧ k13 (zpa s0 34 (Int.toNat x5) (za s0 34 (Int.toNat (za s0 36 (Int.toNat x6))))) x3 x5 (x6 + 1)))
def wr_shut_13B (Q : Int → zS → Prop) (k13 : zS → Int → Int → Int → Prop) (s0 : zS) (x3 : Int) (x5 : Int) (x6 : Int) : Prop :=
  (((zv s0 37) ≤ x6 → (0 ≤ x3) ∧ (x3 < 26000) ∧ (zR (x3 + 1)) ∧ Q x5 (zpv (zpa (zpv s0 37 x3) 36 (Int.toNat x3) x5) 37 (x3 + 1))) ∧ (¬ (zv s0 37) ≤ x6 → ((¬ x6 = x3 → (0 ≤ (x6 - 1)) ∧ ((x6 - 1) < 26000) ∧ (0 ≤ x6) ∧ (x6 < 26000) ∧ (0 ≤ (za s0 36 (Int.toNat (x6 - 1)))) ∧ ((za s0 36 (Int.toNat (x6 - 1))) < 26000) ∧ wr_shut_66 Q k13 (zpa s0 28 (Int.toNat (za s0 36 (Int.toNat (x6 - 1)))) (za s0 36 (Int.toNat x6))) x3 x5 x6) ∧ (x6 = x3 → (0 ≤ x6) ∧ (x6 < 26000) ∧ (0 ≤ x5) ∧ (x5 < 26000) ∧ wr_shut_66 Q k13 (zpa s0 27 (Int.toNat x5) (za s0 36 (Int.toNat x6))) x3 x5 x6))))
def wr_shut_13 (Q : Int → zS → Prop)  : Nat → zS → Int → Int → Int → Prop
  | 0 => fun _ _ _ _ => False
  | m + 1 => fun s0 x3 x5 x6 => wr_shut_13B Q  (wr_shut_13 Q  m) s0 x3 x5 x6
def wr_shut (s0 : zS) (a0 : Int) (a1 : Int) (a2 : Int) (a3 : Int) (Q : Int → zS → Prop) : Prop :=
  wr_node s0 a0 a1 a3 (fun r1 s2 => ∃ n, wr_shut_13 Q  n s2 a2 r1 a2)
set_option maxHeartbeats 4000000 in
set_option maxRecDepth 100000 in
theorem rj_shut_66 {X : gX} {d : gD} {b t : Nat} {T : Nat → Nat} {F0 : gM} (hC : gC RX12 cX12_shut 7 (some .int) "shut" (gR 1 0 0) d b X) {Q : Int → zS → Prop} {k13 : zS → Int → Int → Int → Prop} (hk13 : ∀ (F : gM) (s0 : zS) (x3 : Int) (x5 : Int) (x6 : Int), zR x3 → zR x5 → zR x6 → zZ d t T F0 F s0 → k13 s0 x3 x5 x6 → gG X d b (zQi X d b t T F0 Q) F 0 0 13 [some (.ref t), none, none, some (.int (zI x3)), none, some (.int (zI x5)), some (.int (zI x6))] []) {F : gM} {s0 : zS} {x3 : Int} {x5 : Int} {x6 : Int} (Rx3 : zR x3) (Rx5 : zR x5) (Rx6 : zR x6) (hZ : zZ d t T F0 F s0) (hw : wr_shut_66 Q k13 s0 x3 x5 x6) : gG X d b (zQi X d b t T F0 Q) F 0 0 66 [some (.ref t), none, none, some (.int (zI x3)), none, some (.int (zI x5)), some (.int (zI x6))] [] := by
  unfold wr_shut_66 at hw
  refine g_aload_n hC dX12_shut_66 rfl ?_
  refine zr_geta hC hZ fl_X12_114 zb_34 (by decide) dX12_shut_67 ?_
  refine g_aload_n hC dX12_shut_70 rfl ?_
  refine zr_geta hC hZ fl_X12_121 zb_36 (by decide) dX12_shut_71 ?_
  refine g_iload hC dX12_shut_74 rfl ?_
  obtain ⟨o1, h2⟩ := hw
  obtain ⟨o3, h4⟩ := h2
  refine zr_iald (v := (za s0 36 (Int.toNat x6))) hC hZ zk_36 zb_36 zn_36 (by decide) o1 o3 rfl dX12_shut_76 ?_
  obtain ⟨o5, h6⟩ := h4
  obtain ⟨o7, h8⟩ := h6
  refine zr_iald (v := (za s0 34 (Int.toNat (za s0 36 (Int.toNat x6))))) hC hZ zk_34 zb_34 zn_34 (by decide) o5 o7 rfl dX12_shut_77 ?_
  refine g_aload_n hC dX12_shut_78 rfl ?_
  refine zr_geta hC hZ fl_X12_114 zb_34 (by decide) dX12_shut_79 ?_
  refine g_iload hC dX12_shut_82 rfl ?_
  obtain ⟨o9, h10⟩ := h8
  obtain ⟨o11, h12⟩ := h10
  refine zr_iald (v := (za s0 34 (Int.toNat x5))) hC hZ zk_34 zb_34 zn_34 (by decide) o9 o11 rfl dX12_shut_84 ?_
  refine zr_icmp_ge (tgt := 107) hC (hZ.ra 34 _) (hZ.ra 34 _) dX12_shut_85 (by decide) (fun c13 => ?_) (fun c13 => ?_)
  · have h14 := h12.1 c13
    refine zr_iinc (x := x6) (lv' := [some (.ref t), none, none, some (.int (zI x3)), none, some (.int (zI x5)), some (.int (zI (x6 + 1)))]) hC dX12_shut_107 rfl rfl rfl ?_
    refine g_goto (tgt := 13) hC dX12_shut_110 (by decide) ?_
    obtain ⟨o15, h16⟩ := h14
    exact hk13 _ _ _ _ _ Rx3 Rx5 o15 hZ h16
  · have h17 := h12.2 c13
    refine g_aload_n hC dX12_shut_88 rfl ?_
    refine zr_geta hC hZ fl_X12_114 zb_34 (by decide) dX12_shut_89 ?_
    refine g_iload hC dX12_shut_92 rfl ?_
    refine g_aload_n hC dX12_shut_94 rfl ?_
    refine zr_geta hC hZ fl_X12_114 zb_34 (by decide) dX12_shut_95 ?_
    refine g_aload_n hC dX12_shut_98 rfl ?_
    refine zr_geta hC hZ fl_X12_121 zb_36 (by decide) dX12_shut_99 ?_
    refine g_iload hC dX12_shut_102 rfl ?_
    obtain ⟨o18, h19⟩ := h17
    obtain ⟨o20, h21⟩ := h19
    refine zr_iald (v := (za s0 36 (Int.toNat x6))) hC hZ zk_36 zb_36 zn_36 (by decide) o18 o20 rfl dX12_shut_104 ?_
    obtain ⟨o22, h23⟩ := h21
    obtain ⟨o24, h25⟩ := h23
    refine zr_iald (v := (za s0 34 (Int.toNat (za s0 36 (Int.toNat x6))))) hC hZ zk_34 zb_34 zn_34 (by decide) o22 o24 rfl dX12_shut_105 ?_
    obtain ⟨o26, h27⟩ := h25
    obtain ⟨o28, h29⟩ := h27
    refine zr_iast hC hZ zk_34 zb_34 zn_34 (by decide) o26 o28 (hZ.ra 34 _) dX12_shut_106 (fun F30 hZ31 => ?_)
    refine zr_iinc (x := x6) (lv' := [some (.ref t), none, none, some (.int (zI x3)), none, some (.int (zI x5)), some (.int (zI (x6 + 1)))]) hC dX12_shut_107 rfl rfl rfl ?_
    refine g_goto (tgt := 13) hC dX12_shut_110 (by decide) ?_
    obtain ⟨o32, h33⟩ := h29
    exact hk13 _ _ _ _ _ Rx3 Rx5 o32 hZ31 h33
set_option maxHeartbeats 4000000 in
set_option maxRecDepth 100000 in
theorem rb_shut_13 {X : gX} {d : gD} {b t : Nat} {T : Nat → Nat} {F0 : gM} (hC : gC RX12 cX12_shut 7 (some .int) "shut" (gR 1 0 0) d b X) {Q : Int → zS → Prop} {k13 : zS → Int → Int → Int → Prop} (hk13 : ∀ (F : gM) (s0 : zS) (x3 : Int) (x5 : Int) (x6 : Int), zR x3 → zR x5 → zR x6 → zZ d t T F0 F s0 → k13 s0 x3 x5 x6 → gG X d b (zQi X d b t T F0 Q) F 0 0 13 [some (.ref t), none, none, some (.int (zI x3)), none, some (.int (zI x5)), some (.int (zI x6))] []) {F : gM} {s0 : zS} {x3 : Int} {x5 : Int} {x6 : Int} (Rx3 : zR x3) (Rx5 : zR x5) (Rx6 : zR x6) (hZ : zZ d t T F0 F s0) (hw : wr_shut_13B Q k13 s0 x3 x5 x6) : gG X d b (zQi X d b t T F0 Q) F 0 0 13 [some (.ref t), none, none, some (.int (zI x3)), none, some (.int (zI x5)), some (.int (zI x6))] [] := by
  unfold wr_shut_13B at hw
  refine g_iload hC dX12_shut_13 rfl ?_
  refine g_aload_n hC dX12_shut_15 rfl ?_
  refine zr_get (e := (zv s0 37)) hC hZ fl_X12_124 zb_37 (by decide) rfl dX12_shut_16 ?_
  refine zr_icmp_ge (tgt := 113) hC Rx6 (hZ.rv 37) dX12_shut_19 (by decide) (fun c1 => ?_) (fun c1 => ?_)
  · have h2 := hw.1 c1
    refine g_aload_n hC dX12_shut_113 rfl ?_
    refine g_iload_n hC dX12_shut_114 rfl ?_
    refine zr_put hC hZ fl_X12_124 zb_37 (by decide) Rx3 dX12_shut_115 (fun F3 hZ4 => ?_)
    refine g_aload_n hC dX12_shut_118 rfl ?_
    refine zr_geta hC hZ4 fl_X12_121 zb_36 (by decide) dX12_shut_119 ?_
    refine g_aload_n hC dX12_shut_122 rfl ?_
    refine zr_get (e := x3) hC hZ4 fl_X12_124 zb_37 (by decide) rfl dX12_shut_123 ?_
    refine g_iload hC dX12_shut_126 rfl ?_
    obtain ⟨o5, h6⟩ := h2
    obtain ⟨o7, h8⟩ := h6
    refine zr_iast hC hZ4 zk_36 zb_36 zn_36 (by decide) o5 o7 Rx5 dX12_shut_128 (fun F9 hZ10 => ?_)
    refine g_aload_n hC dX12_shut_129 rfl ?_
    refine g_dup hC dX12_shut_130 rfl ?_
    refine zr_get (e := x3) hC hZ10 fl_X12_124 zb_37 (by decide) rfl dX12_shut_131 ?_
    refine g_iconst (v := zI 1) hC dX12_shut_134 rfl ?_
    refine zr_iadd hC dX12_shut_135 ?_
    obtain ⟨o11, h12⟩ := h8
    refine zr_put hC hZ10 fl_X12_124 zb_37 (by decide) o11 dX12_shut_136 (fun F13 hZ14 => ?_)
    refine g_iload hC dX12_shut_139 rfl ?_
    exact zr_iret hC hZ14 Rx5 h12 dX12_shut_141
  · have h15 := hw.2 c1
    refine g_iload hC dX12_shut_22 rfl ?_
    refine g_iload_n hC dX12_shut_24 rfl ?_
    refine zr_icmp_ne (tgt := 45) hC Rx6 Rx3 dX12_shut_25 (by decide) (fun c16 => ?_) (fun c16 => ?_)
    · have h17 := h15.1 c16
      refine g_aload_n hC dX12_shut_45 rfl ?_
      refine zr_geta hC hZ fl_X12_96 zb_28 (by decide) dX12_shut_46 ?_
      refine g_aload_n hC dX12_shut_49 rfl ?_
      refine zr_geta hC hZ fl_X12_121 zb_36 (by decide) dX12_shut_50 ?_
      refine g_iload hC dX12_shut_53 rfl ?_
      refine g_iconst (v := zI 1) hC dX12_shut_55 rfl ?_
      refine zr_isub hC dX12_shut_56 ?_
      obtain ⟨o18, h19⟩ := h17
      obtain ⟨o20, h21⟩ := h19
      refine zr_iald (v := (za s0 36 (Int.toNat (x6 - 1)))) hC hZ zk_36 zb_36 zn_36 (by decide) o18 o20 rfl dX12_shut_57 ?_
      refine g_aload_n hC dX12_shut_58 rfl ?_
      refine zr_geta hC hZ fl_X12_121 zb_36 (by decide) dX12_shut_59 ?_
      refine g_iload hC dX12_shut_62 rfl ?_
      obtain ⟨o22, h23⟩ := h21
      obtain ⟨o24, h25⟩ := h23
      refine zr_iald (v := (za s0 36 (Int.toNat x6))) hC hZ zk_36 zb_36 zn_36 (by decide) o22 o24 rfl dX12_shut_64 ?_
      obtain ⟨o26, h27⟩ := h25
      obtain ⟨o28, h29⟩ := h27
      refine zr_iast hC hZ zk_28 zb_28 zn_28 (by decide) o26 o28 (hZ.ra 36 _) dX12_shut_65 (fun F30 hZ31 => ?_)
      exact rj_shut_66 hC hk13 Rx3 Rx5 Rx6 hZ31 h29
    · have h32 := h15.2 c16
      refine g_aload_n hC dX12_shut_28 rfl ?_
      refine zr_geta hC hZ fl_X12_93 zb_27 (by decide) dX12_shut_29 ?_
      refine g_iload hC dX12_shut_32 rfl ?_
      refine g_aload_n hC dX12_shut_34 rfl ?_
      refine zr_geta hC hZ fl_X12_121 zb_36 (by decide) dX12_shut_35 ?_
      refine g_iload hC dX12_shut_38 rfl ?_
      obtain ⟨o33, h34⟩ := h32
      obtain ⟨o35, h36⟩ := h34
      refine zr_iald (v := (za s0 36 (Int.toNat x6))) hC hZ zk_36 zb_36 zn_36 (by decide) o33 o35 rfl dX12_shut_40 ?_
      obtain ⟨o37, h38⟩ := h36
      obtain ⟨o39, h40⟩ := h38
      refine zr_iast hC hZ zk_27 zb_27 zn_27 (by decide) o37 o39 (hZ.ra 36 _) dX12_shut_41 (fun F41 hZ42 => ?_)
      refine g_goto (tgt := 66) hC dX12_shut_42 (by decide) ?_
      exact rj_shut_66 hC hk13 Rx3 Rx5 Rx6 hZ42 h40
theorem rl_shut_13 {X : gX} {d : gD} {b t : Nat} {T : Nat → Nat} {F0 : gM} (hC : gC RX12 cX12_shut 7 (some .int) "shut" (gR 1 0 0) d b X) {Q : Int → zS → Prop}   : ∀ (m : Nat) (F : gM) (s0 : zS) (x3 : Int) (x5 : Int) (x6 : Int), zR x3 → zR x5 → zR x6 → zZ d t T F0 F s0 → wr_shut_13 Q  m s0 x3 x5 x6 → gG X d b (zQi X d b t T F0 Q) F 0 0 13 [some (.ref t), none, none, some (.int (zI x3)), none, some (.int (zI x5)), some (.int (zI x6))] [] := by
  intro m
  induction m with
  | zero => intro F s0 x3 x5 x6 Rx3 Rx5 Rx6 hZ hw; exact False.elim hw
  | succ m ih => intro F s0 x3 x5 x6 Rx3 Rx5 Rx6 hZ hw; exact rb_shut_13 hC  ih Rx3 Rx5 Rx6 hZ hw
set_option maxHeartbeats 4000000 in
set_option maxRecDepth 100000 in
theorem rm_shut (l : Launch) (d : gD) (b : Nat) {t : Nat} {T : Nat → Nat} {F : gM} {s0 : zS} {a0 : Int} {a1 : Int} {a2 : Int} {a3 : Int} (Ra0 : zR a0) (Ra1 : zR a1) (Ra2 : zR a2) (Ra3 : zR a3) {Q : Int → zS → Prop} (hZ : zZ d t T F F s0) (hw : wr_shut s0 a0 a1 a2 a3 Q) : gMi l d b yX12_shut cX12_shut 7 .int 1 0 0 F [.ref t, .int (zI a0), .int (zI a1), .int (zI a2), .int (zI a3)] (zPi d t T F Q) := by
  refine gM_of2 rfl (nL := 7) (Nat.le_of_ble_eq_true rfl) ?_
  intro X hX hC; subst hX
  show gG X d b (zQi X d b t T F Q) F 0 0 0 [some (.ref t), some (.int (zI a0)), some (.int (zI a1)), some (.int (zI a2)), some (.int (zI a3)), none, none] []
  unfold wr_shut at hw
  refine g_aload_n hC dX12_shut_0 rfl ?_
  refine g_iload_n hC dX12_shut_1 rfl ?_
  refine g_iload_n hC dX12_shut_2 rfl ?_
  refine g_iload hC dX12_shut_3 rfl ?_
  refine zr_callVi (As := [.int (zI a0), .int (zI a1), .int (zI a3)]) hC hZ rfl (rm_node X.la d b Ra0 Ra1 Ra3 hZ.rf hw) cl_X12_522 rfl rfl (Nat.le_of_ble_eq_true rfl) ⟨Nat.le_of_ble_eq_true rfl, Nat.le_of_ble_eq_true rfl⟩ dX12_shut_5 (fun r1 s2 F3 R4 hZ5 h6 => ?_)
  refine g_istore (lv' := [some (.ref t), some (.int (zI a0)), some (.int (zI a1)), some (.int (zI a2)), some (.int (zI a3)), some (.int (zI r1)), none]) hC dX12_shut_8 (Nat.le_of_ble_eq_true rfl) rfl rfl ?_
  refine g_iload_n hC dX12_shut_10 rfl ?_
  refine g_istore (lv' := [some (.ref t), some (.int (zI a0)), some (.int (zI a1)), some (.int (zI a2)), some (.int (zI a3)), some (.int (zI r1)), some (.int (zI a2))]) hC dX12_shut_11 (Nat.le_of_ble_eq_true rfl) rfl rfl ?_
  refine g_lv (lv' := [some (.ref t), none, none, some (.int (zI a2)), none, some (.int (zI r1)), some (.int (zI a2))]) ⟨rfl, rfl, rfl, rfl, trivial⟩ ?_
  obtain ⟨m7, h8⟩ := h6
  exact rl_shut_13 hC  m7 _ _ _ _ _ Ra2 R4 Ra2 hZ5 h8
theorem dX12_pairs_0 : decode cX12_pairs 0 = .ok (.aload_n 0, 1) := by decide +kernel
theorem dX12_pairs_1 : decode cX12_pairs 1 = .ok (.getfield 93, 3) := by decide +kernel
theorem dX12_pairs_4 : decode cX12_pairs 4 = .ok (.iload_n 1, 1) := by decide +kernel
theorem dX12_pairs_5 : decode cX12_pairs 5 = .ok (.iaload, 1) := by decide +kernel
theorem dX12_pairs_6 : decode cX12_pairs 6 = .ok (.istore_n 2, 1) := by decide +kernel
theorem dX12_pairs_7 : decode cX12_pairs 7 = .ok (.iconst 0, 1) := by decide +kernel
theorem dX12_pairs_8 : decode cX12_pairs 8 = .ok (.istore_n 3, 1) := by decide +kernel
theorem dX12_pairs_9 : decode cX12_pairs 9 = .ok (.iload_n 3, 1) := by decide +kernel
theorem dX12_pairs_10 : decode cX12_pairs 10 = .ok (.aload_n 0, 1) := by decide +kernel
theorem dX12_pairs_11 : decode cX12_pairs 11 = .ok (.getfield 99, 3) := by decide +kernel
theorem dX12_pairs_14 : decode cX12_pairs 14 = .ok (.iload_n 1, 1) := by decide +kernel
theorem dX12_pairs_15 : decode cX12_pairs 15 = .ok (.iaload, 1) := by decide +kernel
theorem dX12_pairs_16 : decode cX12_pairs 16 = .ok (.if_icmp .ge 16, 3) := by decide +kernel
theorem dX12_pairs_19 : decode cX12_pairs 19 = .ok (.aload_n 0, 1) := by decide +kernel
theorem dX12_pairs_20 : decode cX12_pairs 20 = .ok (.getfield 96, 3) := by decide +kernel
theorem dX12_pairs_23 : decode cX12_pairs 23 = .ok (.iload_n 2, 1) := by decide +kernel
theorem dX12_pairs_24 : decode cX12_pairs 24 = .ok (.iaload, 1) := by decide +kernel
theorem dX12_pairs_25 : decode cX12_pairs 25 = .ok (.istore_n 2, 1) := by decide +kernel
theorem dX12_pairs_26 : decode cX12_pairs 26 = .ok (.iinc 3 1, 3) := by decide +kernel
theorem dX12_pairs_29 : decode cX12_pairs 29 = .ok (.goto (-20), 3) := by decide +kernel
theorem dX12_pairs_32 : decode cX12_pairs 32 = .ok (.aload_n 0, 1) := by decide +kernel
theorem dX12_pairs_33 : decode cX12_pairs 33 = .ok (.getfield 93, 3) := by decide +kernel
theorem dX12_pairs_36 : decode cX12_pairs 36 = .ok (.iload_n 1, 1) := by decide +kernel
theorem dX12_pairs_37 : decode cX12_pairs 37 = .ok (.iaload, 1) := by decide +kernel
theorem dX12_pairs_38 : decode cX12_pairs 38 = .ok (.istore_n 3, 1) := by decide +kernel
theorem dX12_pairs_39 : decode cX12_pairs 39 = .ok (.iconst 0, 1) := by decide +kernel
theorem dX12_pairs_40 : decode cX12_pairs 40 = .ok (.istore 4, 2) := by decide +kernel
theorem dX12_pairs_42 : decode cX12_pairs 42 = .ok (.iload 4, 2) := by decide +kernel
theorem dX12_pairs_44 : decode cX12_pairs 44 = .ok (.aload_n 0, 1) := by decide +kernel
theorem dX12_pairs_45 : decode cX12_pairs 45 = .ok (.getfield 99, 3) := by decide +kernel
theorem dX12_pairs_48 : decode cX12_pairs 48 = .ok (.iload_n 1, 1) := by decide +kernel
theorem dX12_pairs_49 : decode cX12_pairs 49 = .ok (.iaload, 1) := by decide +kernel
theorem dX12_pairs_50 : decode cX12_pairs 50 = .ok (.if_icmp .ge 30, 3) := by decide +kernel
theorem dX12_pairs_53 : decode cX12_pairs 53 = .ok (.aload_n 0, 1) := by decide +kernel
theorem dX12_pairs_54 : decode cX12_pairs 54 = .ok (.getfield 108, 3) := by decide +kernel
theorem dX12_pairs_57 : decode cX12_pairs 57 = .ok (.iload_n 3, 1) := by decide +kernel
theorem dX12_pairs_58 : decode cX12_pairs 58 = .ok (.iload_n 2, 1) := by decide +kernel
theorem dX12_pairs_59 : decode cX12_pairs 59 = .ok (.iastore, 1) := by decide +kernel
theorem dX12_pairs_60 : decode cX12_pairs 60 = .ok (.aload_n 0, 1) := by decide +kernel
theorem dX12_pairs_61 : decode cX12_pairs 61 = .ok (.getfield 96, 3) := by decide +kernel
theorem dX12_pairs_64 : decode cX12_pairs 64 = .ok (.iload_n 3, 1) := by decide +kernel
theorem dX12_pairs_65 : decode cX12_pairs 65 = .ok (.iaload, 1) := by decide +kernel
theorem dX12_pairs_66 : decode cX12_pairs 66 = .ok (.istore_n 3, 1) := by decide +kernel
theorem dX12_pairs_67 : decode cX12_pairs 67 = .ok (.aload_n 0, 1) := by decide +kernel
theorem dX12_pairs_68 : decode cX12_pairs 68 = .ok (.getfield 96, 3) := by decide +kernel
theorem dX12_pairs_71 : decode cX12_pairs 71 = .ok (.iload_n 2, 1) := by decide +kernel
theorem dX12_pairs_72 : decode cX12_pairs 72 = .ok (.iaload, 1) := by decide +kernel
theorem dX12_pairs_73 : decode cX12_pairs 73 = .ok (.istore_n 2, 1) := by decide +kernel
theorem dX12_pairs_74 : decode cX12_pairs 74 = .ok (.iinc 4 1, 3) := by decide +kernel
theorem dX12_pairs_77 : decode cX12_pairs 77 = .ok (.goto (-35), 3) := by decide +kernel
theorem dX12_pairs_80 : decode cX12_pairs 80 = .ok (.return_, 1) := by decide +kernel
def wr_pairs_42B (Q : zS → Prop) (k42 : zS → Int → Int → Int → Int → Prop) (s0 : zS) (x1 : Int) (x2 : Int) (x3 : Int) (x4 : Int) : Prop :=
  (0 ≤ x1) ∧ (x1 < 26000) ∧ (((za s0 29 (Int.toNat x1)) ≤ x4 → Q s0) ∧ (¬ (za s0 29 (Int.toNat x1)) ≤ x4 → (0 ≤ x3) ∧ (x3 < 26000) ∧ (0 ≤ x3) ∧ (x3 < 26000) ∧ (0 ≤ x2) ∧ (x2 < 26000) ∧ (zR (x4 + 1)) ∧ k42 (zpa s0 32 (Int.toNat x3) x2) x1 (za s0 28 (Int.toNat x2)) (za s0 28 (Int.toNat x3)) (x4 + 1)))
def wr_pairs_42 (Q : zS → Prop)  : Nat → zS → Int → Int → Int → Int → Prop
  | 0 => fun _ _ _ _ _ => False
  | m + 1 => fun s0 x1 x2 x3 x4 => wr_pairs_42B Q  (wr_pairs_42 Q  m) s0 x1 x2 x3 x4
def wr_pairs_9B (Q : zS → Prop) (k9 : zS → Int → Int → Int → Prop) (s0 : zS) (x1 : Int) (x2 : Int) (x3 : Int) : Prop :=
  (0 ≤ x1) ∧ (x1 < 26000) ∧ (((za s0 29 (Int.toNat x1)) ≤ x3 → (0 ≤ x1) ∧ (x1 < 26000) ∧ ∃ n, wr_pairs_42 Q  n s0 x1 x2 (za s0 27 (Int.toNat x1)) 0) ∧ (¬ (za s0 29 (Int.toNat x1)) ≤ x3 → (0 ≤ x2) ∧ (x2 < 26000) ∧ (zR (x3 + 1)) ∧ k9 s0 x1 (za s0 28 (Int.toNat x2)) (x3 + 1)))
def wr_pairs_9 (Q : zS → Prop)  : Nat → zS → Int → Int → Int → Prop
  | 0 => fun _ _ _ _ => False
  | m + 1 => fun s0 x1 x2 x3 => wr_pairs_9B Q  (wr_pairs_9 Q  m) s0 x1 x2 x3
def wr_pairs (s0 : zS) (a0 : Int) (Q : zS → Prop) : Prop :=
  (0 ≤ a0) ∧ (a0 < 26000) ∧ ∃ n, wr_pairs_9 Q  n s0 a0 (za s0 27 (Int.toNat a0)) 0
set_option maxHeartbeats 4000000 in
set_option maxRecDepth 100000 in
theorem rb_pairs_42 {X : gX} {d : gD} {b t : Nat} {T : Nat → Nat} {F0 : gM} (hC : gC RX12 cX12_pairs 5 none "pairs" (gR 0 0 0) d b X) {Q : zS → Prop} {k42 : zS → Int → Int → Int → Int → Prop} (hk42 : ∀ (F : gM) (s0 : zS) (x1 : Int) (x2 : Int) (x3 : Int) (x4 : Int), zR x1 → zR x2 → zR x3 → zR x4 → zZ d t T F0 F s0 → k42 s0 x1 x2 x3 x4 → gG X d b (zQv X d b t T F0 Q) F 0 0 42 [some (.ref t), some (.int (zI x1)), some (.int (zI x2)), some (.int (zI x3)), some (.int (zI x4))] []) {F : gM} {s0 : zS} {x1 : Int} {x2 : Int} {x3 : Int} {x4 : Int} (Rx1 : zR x1) (Rx2 : zR x2) (Rx3 : zR x3) (Rx4 : zR x4) (hZ : zZ d t T F0 F s0) (hw : wr_pairs_42B Q k42 s0 x1 x2 x3 x4) : gG X d b (zQv X d b t T F0 Q) F 0 0 42 [some (.ref t), some (.int (zI x1)), some (.int (zI x2)), some (.int (zI x3)), some (.int (zI x4))] [] := by
  unfold wr_pairs_42B at hw
  refine g_iload hC dX12_pairs_42 rfl ?_
  refine g_aload_n hC dX12_pairs_44 rfl ?_
  refine zr_geta hC hZ fl_X12_99 zb_29 (by decide) dX12_pairs_45 ?_
  refine g_iload_n hC dX12_pairs_48 rfl ?_
  obtain ⟨o1, h2⟩ := hw
  obtain ⟨o3, h4⟩ := h2
  refine zr_iald (v := (za s0 29 (Int.toNat x1))) hC hZ zk_29 zb_29 zn_29 (by decide) o1 o3 rfl dX12_pairs_49 ?_
  refine zr_icmp_ge (tgt := 80) hC Rx4 (hZ.ra 29 _) dX12_pairs_50 (by decide) (fun c5 => ?_) (fun c5 => ?_)
  · have h6 := h4.1 c5
    exact zr_vret hC hZ h6 dX12_pairs_80
  · have h7 := h4.2 c5
    refine g_aload_n hC dX12_pairs_53 rfl ?_
    refine zr_geta hC hZ fl_X12_108 zb_32 (by decide) dX12_pairs_54 ?_
    refine g_iload_n hC dX12_pairs_57 rfl ?_
    refine g_iload_n hC dX12_pairs_58 rfl ?_
    obtain ⟨o8, h9⟩ := h7
    obtain ⟨o10, h11⟩ := h9
    refine zr_iast hC hZ zk_32 zb_32 zn_32 (by decide) o8 o10 Rx2 dX12_pairs_59 (fun F12 hZ13 => ?_)
    refine g_aload_n hC dX12_pairs_60 rfl ?_
    refine zr_geta hC hZ13 fl_X12_96 zb_28 (by decide) dX12_pairs_61 ?_
    refine g_iload_n hC dX12_pairs_64 rfl ?_
    obtain ⟨o14, h15⟩ := h11
    obtain ⟨o16, h17⟩ := h15
    refine zr_iald (v := (za s0 28 (Int.toNat x3))) hC hZ13 zk_28 zb_28 zn_28 (by decide) o14 o16 rfl dX12_pairs_65 ?_
    refine g_istore_n (lv' := [some (.ref t), some (.int (zI x1)), some (.int (zI x2)), some (.int (zI (za s0 28 (Int.toNat x3)))), some (.int (zI x4))]) hC dX12_pairs_66 (Nat.le_of_ble_eq_true rfl) rfl rfl ?_
    refine g_aload_n hC dX12_pairs_67 rfl ?_
    refine zr_geta hC hZ13 fl_X12_96 zb_28 (by decide) dX12_pairs_68 ?_
    refine g_iload_n hC dX12_pairs_71 rfl ?_
    obtain ⟨o18, h19⟩ := h17
    obtain ⟨o20, h21⟩ := h19
    refine zr_iald (v := (za s0 28 (Int.toNat x2))) hC hZ13 zk_28 zb_28 zn_28 (by decide) o18 o20 rfl dX12_pairs_72 ?_
    refine g_istore_n (lv' := [some (.ref t), some (.int (zI x1)), some (.int (zI (za s0 28 (Int.toNat x2)))), some (.int (zI (za s0 28 (Int.toNat x3)))), some (.int (zI x4))]) hC dX12_pairs_73 (Nat.le_of_ble_eq_true rfl) rfl rfl ?_
    refine zr_iinc (x := x4) (lv' := [some (.ref t), some (.int (zI x1)), some (.int (zI (za s0 28 (Int.toNat x2)))), some (.int (zI (za s0 28 (Int.toNat x3)))), some (.int (zI (x4 + 1)))]) hC dX12_pairs_74 rfl rfl rfl ?_
    refine g_goto (tgt := 42) hC dX12_pairs_77 (by decide) ?_
    obtain ⟨o22, h23⟩ := h21
    exact hk42 _ _ _ _ _ _ Rx1 (hZ.ra 28 _) (hZ.ra 28 _) o22 hZ13 h23
theorem rl_pairs_42 {X : gX} {d : gD} {b t : Nat} {T : Nat → Nat} {F0 : gM} (hC : gC RX12 cX12_pairs 5 none "pairs" (gR 0 0 0) d b X) {Q : zS → Prop}   : ∀ (m : Nat) (F : gM) (s0 : zS) (x1 : Int) (x2 : Int) (x3 : Int) (x4 : Int), zR x1 → zR x2 → zR x3 → zR x4 → zZ d t T F0 F s0 → wr_pairs_42 Q  m s0 x1 x2 x3 x4 → gG X d b (zQv X d b t T F0 Q) F 0 0 42 [some (.ref t), some (.int (zI x1)), some (.int (zI x2)), some (.int (zI x3)), some (.int (zI x4))] [] := by
  intro m
  induction m with
  | zero => intro F s0 x1 x2 x3 x4 Rx1 Rx2 Rx3 Rx4 hZ hw; exact False.elim hw
  | succ m ih => intro F s0 x1 x2 x3 x4 Rx1 Rx2 Rx3 Rx4 hZ hw; exact rb_pairs_42 hC  ih Rx1 Rx2 Rx3 Rx4 hZ hw
set_option maxHeartbeats 4000000 in
set_option maxRecDepth 100000 in
theorem rb_pairs_9 {X : gX} {d : gD} {b t : Nat} {T : Nat → Nat} {F0 : gM} (hC : gC RX12 cX12_pairs 5 none "pairs" (gR 0 0 0) d b X) {Q : zS → Prop} {k9 : zS → Int → Int → Int → Prop} (hk9 : ∀ (F : gM) (s0 : zS) (x1 : Int) (x2 : Int) (x3 : Int), zR x1 → zR x2 → zR x3 → zZ d t T F0 F s0 → k9 s0 x1 x2 x3 → gG X d b (zQv X d b t T F0 Q) F 0 0 9 [some (.ref t), some (.int (zI x1)), some (.int (zI x2)), some (.int (zI x3)), none] []) {F : gM} {s0 : zS} {x1 : Int} {x2 : Int} {x3 : Int} (Rx1 : zR x1) (Rx2 : zR x2) (Rx3 : zR x3) (hZ : zZ d t T F0 F s0) (hw : wr_pairs_9B Q k9 s0 x1 x2 x3) : gG X d b (zQv X d b t T F0 Q) F 0 0 9 [some (.ref t), some (.int (zI x1)), some (.int (zI x2)), some (.int (zI x3)), none] [] := by
  unfold wr_pairs_9B at hw
  refine g_iload_n hC dX12_pairs_9 rfl ?_
  refine g_aload_n hC dX12_pairs_10 rfl ?_
  refine zr_geta hC hZ fl_X12_99 zb_29 (by decide) dX12_pairs_11 ?_
  refine g_iload_n hC dX12_pairs_14 rfl ?_
  obtain ⟨o1, h2⟩ := hw
  obtain ⟨o3, h4⟩ := h2
  refine zr_iald (v := (za s0 29 (Int.toNat x1))) hC hZ zk_29 zb_29 zn_29 (by decide) o1 o3 rfl dX12_pairs_15 ?_
  refine zr_icmp_ge (tgt := 32) hC Rx3 (hZ.ra 29 _) dX12_pairs_16 (by decide) (fun c5 => ?_) (fun c5 => ?_)
  · have h6 := h4.1 c5
    refine g_aload_n hC dX12_pairs_32 rfl ?_
    refine zr_geta hC hZ fl_X12_93 zb_27 (by decide) dX12_pairs_33 ?_
    refine g_iload_n hC dX12_pairs_36 rfl ?_
    obtain ⟨o7, h8⟩ := h6
    obtain ⟨o9, h10⟩ := h8
    refine zr_iald (v := (za s0 27 (Int.toNat x1))) hC hZ zk_27 zb_27 zn_27 (by decide) o7 o9 rfl dX12_pairs_37 ?_
    refine g_istore_n (lv' := [some (.ref t), some (.int (zI x1)), some (.int (zI x2)), some (.int (zI (za s0 27 (Int.toNat x1)))), none]) hC dX12_pairs_38 (Nat.le_of_ble_eq_true rfl) rfl rfl ?_
    refine g_iconst (v := zI 0) hC dX12_pairs_39 rfl ?_
    refine g_istore (lv' := [some (.ref t), some (.int (zI x1)), some (.int (zI x2)), some (.int (zI (za s0 27 (Int.toNat x1)))), some (.int (zI 0))]) hC dX12_pairs_40 (Nat.le_of_ble_eq_true rfl) rfl rfl ?_
    obtain ⟨m11, h12⟩ := h10
    exact rl_pairs_42 hC  m11 _ _ _ _ _ _ Rx1 Rx2 (hZ.ra 27 _) (by decide) hZ h12
  · have h13 := h4.2 c5
    refine g_aload_n hC dX12_pairs_19 rfl ?_
    refine zr_geta hC hZ fl_X12_96 zb_28 (by decide) dX12_pairs_20 ?_
    refine g_iload_n hC dX12_pairs_23 rfl ?_
    obtain ⟨o14, h15⟩ := h13
    obtain ⟨o16, h17⟩ := h15
    refine zr_iald (v := (za s0 28 (Int.toNat x2))) hC hZ zk_28 zb_28 zn_28 (by decide) o14 o16 rfl dX12_pairs_24 ?_
    refine g_istore_n (lv' := [some (.ref t), some (.int (zI x1)), some (.int (zI (za s0 28 (Int.toNat x2)))), some (.int (zI x3)), none]) hC dX12_pairs_25 (Nat.le_of_ble_eq_true rfl) rfl rfl ?_
    refine zr_iinc (x := x3) (lv' := [some (.ref t), some (.int (zI x1)), some (.int (zI (za s0 28 (Int.toNat x2)))), some (.int (zI (x3 + 1))), none]) hC dX12_pairs_26 rfl rfl rfl ?_
    refine g_goto (tgt := 9) hC dX12_pairs_29 (by decide) ?_
    obtain ⟨o18, h19⟩ := h17
    exact hk9 _ _ _ _ _ Rx1 (hZ.ra 28 _) o18 hZ h19
theorem rl_pairs_9 {X : gX} {d : gD} {b t : Nat} {T : Nat → Nat} {F0 : gM} (hC : gC RX12 cX12_pairs 5 none "pairs" (gR 0 0 0) d b X) {Q : zS → Prop}   : ∀ (m : Nat) (F : gM) (s0 : zS) (x1 : Int) (x2 : Int) (x3 : Int), zR x1 → zR x2 → zR x3 → zZ d t T F0 F s0 → wr_pairs_9 Q  m s0 x1 x2 x3 → gG X d b (zQv X d b t T F0 Q) F 0 0 9 [some (.ref t), some (.int (zI x1)), some (.int (zI x2)), some (.int (zI x3)), none] [] := by
  intro m
  induction m with
  | zero => intro F s0 x1 x2 x3 Rx1 Rx2 Rx3 hZ hw; exact False.elim hw
  | succ m ih => intro F s0 x1 x2 x3 Rx1 Rx2 Rx3 hZ hw; exact rb_pairs_9 hC  ih Rx1 Rx2 Rx3 hZ hw
set_option maxHeartbeats 4000000 in
set_option maxRecDepth 100000 in
theorem rm_pairs (l : Launch) (d : gD) (b : Nat) {t : Nat} {T : Nat → Nat} {F : gM} {s0 : zS} {a0 : Int} (Ra0 : zR a0) {Q : zS → Prop} (hZ : zZ d t T F F s0) (hw : wr_pairs s0 a0 Q) : gMv l d b yX12_pairs cX12_pairs 5 0 0 0 F [.ref t, .int (zI a0)] (zPv d t T F Q) := by
  refine gM_of2 rfl (nL := 5) (Nat.le_of_ble_eq_true rfl) ?_
  intro X hX hC; subst hX
  show gG X d b (zQv X d b t T F Q) F 0 0 0 [some (.ref t), some (.int (zI a0)), none, none, none] []
  unfold wr_pairs at hw
  refine g_aload_n hC dX12_pairs_0 rfl ?_
  refine zr_geta hC hZ fl_X12_93 zb_27 (by decide) dX12_pairs_1 ?_
  refine g_iload_n hC dX12_pairs_4 rfl ?_
  obtain ⟨o1, h2⟩ := hw
  obtain ⟨o3, h4⟩ := h2
  refine zr_iald (v := (za s0 27 (Int.toNat a0))) hC hZ zk_27 zb_27 zn_27 (by decide) o1 o3 rfl dX12_pairs_5 ?_
  refine g_istore_n (lv' := [some (.ref t), some (.int (zI a0)), some (.int (zI (za s0 27 (Int.toNat a0)))), none, none]) hC dX12_pairs_6 (Nat.le_of_ble_eq_true rfl) rfl rfl ?_
  refine g_iconst (v := zI 0) hC dX12_pairs_7 rfl ?_
  refine g_istore_n (lv' := [some (.ref t), some (.int (zI a0)), some (.int (zI (za s0 27 (Int.toNat a0)))), some (.int (zI 0)), none]) hC dX12_pairs_8 (Nat.le_of_ble_eq_true rfl) rfl rfl ?_
  obtain ⟨m5, h6⟩ := h4
  exact rl_pairs_9 hC  m5 _ _ _ _ _ Ra0 (hZ.ra 27 _) (by decide) hZ h6
theorem dX12_goal_0 : decode cX12_goal 0 = .ok (.aload_n 0, 1) := by decide +kernel
theorem dX12_goal_1 : decode cX12_goal 1 = .ok (.getfield 130, 3) := by decide +kernel
theorem dX12_goal_4 : decode cX12_goal 4 = .ok (.aload_n 0, 1) := by decide +kernel
theorem dX12_goal_5 : decode cX12_goal 5 = .ok (.getfield 127, 3) := by decide +kernel
theorem dX12_goal_8 : decode cX12_goal 8 = .ok (.iload_n 1, 1) := by decide +kernel
theorem dX12_goal_9 : decode cX12_goal 9 = .ok (.iastore, 1) := by decide +kernel
theorem dX12_goal_10 : decode cX12_goal 10 = .ok (.aload_n 0, 1) := by decide +kernel
theorem dX12_goal_11 : decode cX12_goal 11 = .ok (.getfield 133, 3) := by decide +kernel
theorem dX12_goal_14 : decode cX12_goal 14 = .ok (.aload_n 0, 1) := by decide +kernel
theorem dX12_goal_15 : decode cX12_goal 15 = .ok (.getfield 127, 3) := by decide +kernel
theorem dX12_goal_18 : decode cX12_goal 18 = .ok (.iload_n 2, 1) := by decide +kernel
theorem dX12_goal_19 : decode cX12_goal 19 = .ok (.iastore, 1) := by decide +kernel
theorem dX12_goal_20 : decode cX12_goal 20 = .ok (.aload_n 0, 1) := by decide +kernel
theorem dX12_goal_21 : decode cX12_goal 21 = .ok (.getfield 136, 3) := by decide +kernel
theorem dX12_goal_24 : decode cX12_goal 24 = .ok (.aload_n 0, 1) := by decide +kernel
theorem dX12_goal_25 : decode cX12_goal 25 = .ok (.getfield 127, 3) := by decide +kernel
theorem dX12_goal_28 : decode cX12_goal 28 = .ok (.iload_n 3, 1) := by decide +kernel
theorem dX12_goal_29 : decode cX12_goal 29 = .ok (.iastore, 1) := by decide +kernel
theorem dX12_goal_30 : decode cX12_goal 30 = .ok (.aload_n 0, 1) := by decide +kernel
theorem dX12_goal_31 : decode cX12_goal 31 = .ok (.getfield 139, 3) := by decide +kernel
theorem dX12_goal_34 : decode cX12_goal 34 = .ok (.aload_n 0, 1) := by decide +kernel
theorem dX12_goal_35 : decode cX12_goal 35 = .ok (.getfield 127, 3) := by decide +kernel
theorem dX12_goal_38 : decode cX12_goal 38 = .ok (.iload 4, 2) := by decide +kernel
theorem dX12_goal_40 : decode cX12_goal 40 = .ok (.iastore, 1) := by decide +kernel
theorem dX12_goal_41 : decode cX12_goal 41 = .ok (.aload_n 0, 1) := by decide +kernel
theorem dX12_goal_42 : decode cX12_goal 42 = .ok (.dup, 1) := by decide +kernel
theorem dX12_goal_43 : decode cX12_goal 43 = .ok (.getfield 127, 3) := by decide +kernel
theorem dX12_goal_46 : decode cX12_goal 46 = .ok (.iconst 1, 1) := by decide +kernel
theorem dX12_goal_47 : decode cX12_goal 47 = .ok (.iadd, 1) := by decide +kernel
theorem dX12_goal_48 : decode cX12_goal 48 = .ok (.putfield 127, 3) := by decide +kernel
theorem dX12_goal_51 : decode cX12_goal 51 = .ok (.return_, 1) := by decide +kernel
def wr_goal (s0 : zS) (a0 : Int) (a1 : Int) (a2 : Int) (a3 : Int) (Q : zS → Prop) : Prop :=
  (0 ≤ (zv s0 38)) ∧ ((zv s0 38) < 9000) ∧ (0 ≤ (zv s0 38)) ∧ ((zv s0 38) < 9000) ∧ (0 ≤ (zv s0 38)) ∧ ((zv s0 38) < 9000) ∧ (0 ≤ (zv s0 38)) ∧ ((zv s0 38) < 9000) ∧ (zR ((zv s0 38) + 1)) ∧ Q (zpv (zpa (zpa (zpa (zpa s0 39 (Int.toNat (zv s0 38)) a0) 40 (Int.toNat (zv s0 38)) a1) 41 (Int.toNat (zv s0 38)) a2) 42 (Int.toNat (zv s0 38)) a3) 38 ((zv s0 38) + 1))
set_option maxHeartbeats 4000000 in
set_option maxRecDepth 100000 in
theorem rm_goal (l : Launch) (d : gD) (b : Nat) {t : Nat} {T : Nat → Nat} {F : gM} {s0 : zS} {a0 : Int} {a1 : Int} {a2 : Int} {a3 : Int} (Ra0 : zR a0) (Ra1 : zR a1) (Ra2 : zR a2) (Ra3 : zR a3) {Q : zS → Prop} (hZ : zZ d t T F F s0) (hw : wr_goal s0 a0 a1 a2 a3 Q) : gMv l d b yX12_goal cX12_goal 5 0 0 0 F [.ref t, .int (zI a0), .int (zI a1), .int (zI a2), .int (zI a3)] (zPv d t T F Q) := by
  refine gM_of2 rfl (nL := 5) (Nat.le_of_ble_eq_true rfl) ?_
  intro X hX hC; subst hX
  show gG X d b (zQv X d b t T F Q) F 0 0 0 [some (.ref t), some (.int (zI a0)), some (.int (zI a1)), some (.int (zI a2)), some (.int (zI a3))] []
  unfold wr_goal at hw
  refine g_aload_n hC dX12_goal_0 rfl ?_
  refine zr_geta hC hZ fl_X12_130 zb_39 (by decide) dX12_goal_1 ?_
  refine g_aload_n hC dX12_goal_4 rfl ?_
  refine zr_get (e := (zv s0 38)) hC hZ fl_X12_127 zb_38 (by decide) rfl dX12_goal_5 ?_
  refine g_iload_n hC dX12_goal_8 rfl ?_
  obtain ⟨o1, h2⟩ := hw
  obtain ⟨o3, h4⟩ := h2
  refine zr_iast hC hZ zk_39 zb_39 zn_39 (by decide) o1 o3 Ra0 dX12_goal_9 (fun F5 hZ6 => ?_)
  refine g_aload_n hC dX12_goal_10 rfl ?_
  refine zr_geta hC hZ6 fl_X12_133 zb_40 (by decide) dX12_goal_11 ?_
  refine g_aload_n hC dX12_goal_14 rfl ?_
  refine zr_get (e := (zv s0 38)) hC hZ6 fl_X12_127 zb_38 (by decide) rfl dX12_goal_15 ?_
  refine g_iload_n hC dX12_goal_18 rfl ?_
  obtain ⟨o7, h8⟩ := h4
  obtain ⟨o9, h10⟩ := h8
  refine zr_iast hC hZ6 zk_40 zb_40 zn_40 (by decide) o7 o9 Ra1 dX12_goal_19 (fun F11 hZ12 => ?_)
  refine g_aload_n hC dX12_goal_20 rfl ?_
  refine zr_geta hC hZ12 fl_X12_136 zb_41 (by decide) dX12_goal_21 ?_
  refine g_aload_n hC dX12_goal_24 rfl ?_
  refine zr_get (e := (zv s0 38)) hC hZ12 fl_X12_127 zb_38 (by decide) rfl dX12_goal_25 ?_
  refine g_iload_n hC dX12_goal_28 rfl ?_
  obtain ⟨o13, h14⟩ := h10
  obtain ⟨o15, h16⟩ := h14
  refine zr_iast hC hZ12 zk_41 zb_41 zn_41 (by decide) o13 o15 Ra2 dX12_goal_29 (fun F17 hZ18 => ?_)
  refine g_aload_n hC dX12_goal_30 rfl ?_
  refine zr_geta hC hZ18 fl_X12_139 zb_42 (by decide) dX12_goal_31 ?_
  refine g_aload_n hC dX12_goal_34 rfl ?_
  refine zr_get (e := (zv s0 38)) hC hZ18 fl_X12_127 zb_38 (by decide) rfl dX12_goal_35 ?_
  refine g_iload hC dX12_goal_38 rfl ?_
  obtain ⟨o19, h20⟩ := h16
  obtain ⟨o21, h22⟩ := h20
  refine zr_iast hC hZ18 zk_42 zb_42 zn_42 (by decide) o19 o21 Ra3 dX12_goal_40 (fun F23 hZ24 => ?_)
  refine g_aload_n hC dX12_goal_41 rfl ?_
  refine g_dup hC dX12_goal_42 rfl ?_
  refine zr_get (e := (zv s0 38)) hC hZ24 fl_X12_127 zb_38 (by decide) rfl dX12_goal_43 ?_
  refine g_iconst (v := zI 1) hC dX12_goal_46 rfl ?_
  refine zr_iadd hC dX12_goal_47 ?_
  obtain ⟨o25, h26⟩ := h22
  refine zr_put hC hZ24 fl_X12_127 zb_38 (by decide) o25 dX12_goal_48 (fun F27 hZ28 => ?_)
  exact zr_vret hC hZ28 h26 dX12_goal_51
theorem dX12_tk_0 : decode cX12_tk 0 = .ok (.aload_n 0, 1) := by decide +kernel
theorem dX12_tk_1 : decode cX12_tk 1 = .ok (.getfield 142, 3) := by decide +kernel
theorem dX12_tk_4 : decode cX12_tk 4 = .ok (.aload_n 0, 1) := by decide +kernel
theorem dX12_tk_5 : decode cX12_tk 5 = .ok (.getfield 36, 3) := by decide +kernel
theorem dX12_tk_8 : decode cX12_tk 8 = .ok (.if_icmp .ge 15, 3) := by decide +kernel
theorem dX12_tk_11 : decode cX12_tk 11 = .ok (.aload_n 0, 1) := by decide +kernel
theorem dX12_tk_12 : decode cX12_tk 12 = .ok (.getfield 39, 3) := by decide +kernel
theorem dX12_tk_15 : decode cX12_tk 15 = .ok (.aload_n 0, 1) := by decide +kernel
theorem dX12_tk_16 : decode cX12_tk 16 = .ok (.getfield 142, 3) := by decide +kernel
theorem dX12_tk_19 : decode cX12_tk 19 = .ok (.iaload, 1) := by decide +kernel
theorem dX12_tk_20 : decode cX12_tk 20 = .ok (.goto 4, 3) := by decide +kernel
theorem dX12_tk_23 : decode cX12_tk 23 = .ok (.iconst 0, 1) := by decide +kernel
theorem dX12_tk_24 : decode cX12_tk 24 = .ok (.ireturn, 1) := by decide +kernel
def wr_tk (s0 : zS)  (Q : Int → zS → Prop) : Prop :=
  (((zv s0 8) ≤ (zv s0 43) → Q 0 s0) ∧ (¬ (zv s0 8) ≤ (zv s0 43) → (0 ≤ (zv s0 43)) ∧ ((zv s0 43) < 12100) ∧ Q (za s0 9 (Int.toNat (zv s0 43))) s0))
set_option maxHeartbeats 4000000 in
set_option maxRecDepth 100000 in
theorem rm_tk (l : Launch) (d : gD) (b : Nat) {t : Nat} {T : Nat → Nat} {F : gM} {s0 : zS}   {Q : Int → zS → Prop} (hZ : zZ d t T F F s0) (hw : wr_tk s0  Q) : gMi l d b yX12_tk cX12_tk 1 .int 0 0 0 F [.ref t] (zPi d t T F Q) := by
  refine gM_of2 rfl (nL := 1) (Nat.le_of_ble_eq_true rfl) ?_
  intro X hX hC; subst hX
  show gG X d b (zQi X d b t T F Q) F 0 0 0 [some (.ref t)] []
  unfold wr_tk at hw
  refine g_aload_n hC dX12_tk_0 rfl ?_
  refine zr_get (e := (zv s0 43)) hC hZ fl_X12_142 zb_43 (by decide) rfl dX12_tk_1 ?_
  refine g_aload_n hC dX12_tk_4 rfl ?_
  refine zr_get (e := (zv s0 8)) hC hZ fl_X12_36 zb_8 (by decide) rfl dX12_tk_5 ?_
  refine zr_icmp_ge (tgt := 23) hC (hZ.rv 43) (hZ.rv 8) dX12_tk_8 (by decide) (fun c1 => ?_) (fun c1 => ?_)
  · have h2 := hw.1 c1
    refine g_iconst (v := zI 0) hC dX12_tk_23 rfl ?_
    exact zr_iret hC hZ (by decide) h2 dX12_tk_24
  · have h3 := hw.2 c1
    refine g_aload_n hC dX12_tk_11 rfl ?_
    refine zr_geta hC hZ fl_X12_39 zb_9 (by decide) dX12_tk_12 ?_
    refine g_aload_n hC dX12_tk_15 rfl ?_
    refine zr_get (e := (zv s0 43)) hC hZ fl_X12_142 zb_43 (by decide) rfl dX12_tk_16 ?_
    obtain ⟨o4, h5⟩ := h3
    obtain ⟨o6, h7⟩ := h5
    refine zr_iald (v := (za s0 9 (Int.toNat (zv s0 43)))) hC hZ zk_9 zb_9 zn_9 (by decide) o4 o6 rfl dX12_tk_19 ?_
    refine g_goto (tgt := 24) hC dX12_tk_20 (by decide) ?_
    exact zr_iret hC hZ (hZ.ra 9 _) h7 dX12_tk_24
theorem dX12_tkNext_0 : decode cX12_tkNext 0 = .ok (.aload_n 0, 1) := by decide +kernel
theorem dX12_tkNext_1 : decode cX12_tkNext 1 = .ok (.getfield 142, 3) := by decide +kernel
theorem dX12_tkNext_4 : decode cX12_tkNext 4 = .ok (.iconst 1, 1) := by decide +kernel
theorem dX12_tkNext_5 : decode cX12_tkNext 5 = .ok (.iadd, 1) := by decide +kernel
theorem dX12_tkNext_6 : decode cX12_tkNext 6 = .ok (.aload_n 0, 1) := by decide +kernel
theorem dX12_tkNext_7 : decode cX12_tkNext 7 = .ok (.getfield 36, 3) := by decide +kernel
theorem dX12_tkNext_10 : decode cX12_tkNext 10 = .ok (.if_icmp .ge 17, 3) := by decide +kernel
theorem dX12_tkNext_13 : decode cX12_tkNext 13 = .ok (.aload_n 0, 1) := by decide +kernel
theorem dX12_tkNext_14 : decode cX12_tkNext 14 = .ok (.getfield 39, 3) := by decide +kernel
theorem dX12_tkNext_17 : decode cX12_tkNext 17 = .ok (.aload_n 0, 1) := by decide +kernel
theorem dX12_tkNext_18 : decode cX12_tkNext 18 = .ok (.getfield 142, 3) := by decide +kernel
theorem dX12_tkNext_21 : decode cX12_tkNext 21 = .ok (.iconst 1, 1) := by decide +kernel
theorem dX12_tkNext_22 : decode cX12_tkNext 22 = .ok (.iadd, 1) := by decide +kernel
theorem dX12_tkNext_23 : decode cX12_tkNext 23 = .ok (.iaload, 1) := by decide +kernel
theorem dX12_tkNext_24 : decode cX12_tkNext 24 = .ok (.goto 4, 3) := by decide +kernel
theorem dX12_tkNext_27 : decode cX12_tkNext 27 = .ok (.iconst 0, 1) := by decide +kernel
theorem dX12_tkNext_28 : decode cX12_tkNext 28 = .ok (.ireturn, 1) := by decide +kernel
def wr_tkNext (s0 : zS)  (Q : Int → zS → Prop) : Prop :=
  (zR ((zv s0 43) + 1)) ∧ (((zv s0 8) ≤ ((zv s0 43) + 1) → Q 0 s0) ∧ (¬ (zv s0 8) ≤ ((zv s0 43) + 1) → (0 ≤ ((zv s0 43) + 1)) ∧ (((zv s0 43) + 1) < 12100) ∧ Q (za s0 9 (Int.toNat ((zv s0 43) + 1))) s0))
set_option maxHeartbeats 4000000 in
set_option maxRecDepth 100000 in
theorem rm_tkNext (l : Launch) (d : gD) (b : Nat) {t : Nat} {T : Nat → Nat} {F : gM} {s0 : zS}   {Q : Int → zS → Prop} (hZ : zZ d t T F F s0) (hw : wr_tkNext s0  Q) : gMi l d b yX12_tkNext cX12_tkNext 1 .int 0 0 0 F [.ref t] (zPi d t T F Q) := by
  refine gM_of2 rfl (nL := 1) (Nat.le_of_ble_eq_true rfl) ?_
  intro X hX hC; subst hX
  show gG X d b (zQi X d b t T F Q) F 0 0 0 [some (.ref t)] []
  unfold wr_tkNext at hw
  refine g_aload_n hC dX12_tkNext_0 rfl ?_
  refine zr_get (e := (zv s0 43)) hC hZ fl_X12_142 zb_43 (by decide) rfl dX12_tkNext_1 ?_
  refine g_iconst (v := zI 1) hC dX12_tkNext_4 rfl ?_
  refine zr_iadd hC dX12_tkNext_5 ?_
  refine g_aload_n hC dX12_tkNext_6 rfl ?_
  refine zr_get (e := (zv s0 8)) hC hZ fl_X12_36 zb_8 (by decide) rfl dX12_tkNext_7 ?_
  obtain ⟨o1, h2⟩ := hw
  refine zr_icmp_ge (tgt := 27) hC o1 (hZ.rv 8) dX12_tkNext_10 (by decide) (fun c3 => ?_) (fun c3 => ?_)
  · have h4 := h2.1 c3
    refine g_iconst (v := zI 0) hC dX12_tkNext_27 rfl ?_
    exact zr_iret hC hZ (by decide) h4 dX12_tkNext_28
  · have h5 := h2.2 c3
    refine g_aload_n hC dX12_tkNext_13 rfl ?_
    refine zr_geta hC hZ fl_X12_39 zb_9 (by decide) dX12_tkNext_14 ?_
    refine g_aload_n hC dX12_tkNext_17 rfl ?_
    refine zr_get (e := (zv s0 43)) hC hZ fl_X12_142 zb_43 (by decide) rfl dX12_tkNext_18 ?_
    refine g_iconst (v := zI 1) hC dX12_tkNext_21 rfl ?_
    refine zr_iadd hC dX12_tkNext_22 ?_
    obtain ⟨o6, h7⟩ := h5
    obtain ⟨o8, h9⟩ := h7
    refine zr_iald (v := (za s0 9 (Int.toNat ((zv s0 43) + 1)))) hC hZ zk_9 zb_9 zn_9 (by decide) o6 o8 rfl dX12_tkNext_23 ?_
    refine g_goto (tgt := 28) hC dX12_tkNext_24 (by decide) ?_
    exact zr_iret hC hZ (hZ.ra 9 _) h9 dX12_tkNext_28
theorem dX12_take_0 : decode cX12_take 0 = .ok (.aload_n 0, 1) := by decide +kernel
theorem dX12_take_1 : decode cX12_take 1 = .ok (.invokevirtual 526, 3) := by decide +kernel
theorem dX12_take_4 : decode cX12_take 4 = .ok (.iload_n 1, 1) := by decide +kernel
theorem dX12_take_5 : decode cX12_take 5 = .ok (.if_icmp .eq 5, 3) := by decide +kernel
theorem dX12_take_8 : decode cX12_take 8 = .ok (.iconst 0, 1) := by decide +kernel
theorem dX12_take_9 : decode cX12_take 9 = .ok (.ireturn, 1) := by decide +kernel
theorem dX12_take_10 : decode cX12_take 10 = .ok (.aload_n 0, 1) := by decide +kernel
theorem dX12_take_11 : decode cX12_take 11 = .ok (.dup, 1) := by decide +kernel
theorem dX12_take_12 : decode cX12_take 12 = .ok (.getfield 142, 3) := by decide +kernel
theorem dX12_take_15 : decode cX12_take 15 = .ok (.iconst 1, 1) := by decide +kernel
theorem dX12_take_16 : decode cX12_take 16 = .ok (.iadd, 1) := by decide +kernel
theorem dX12_take_17 : decode cX12_take 17 = .ok (.putfield 142, 3) := by decide +kernel
theorem dX12_take_20 : decode cX12_take 20 = .ok (.iconst 1, 1) := by decide +kernel
theorem dX12_take_21 : decode cX12_take 21 = .ok (.ireturn, 1) := by decide +kernel
def wr_take (s0 : zS) (a0 : Int) (Q : Int → zS → Prop) : Prop :=
  wr_tk s0  (fun r1 s2 => ((r1 = a0 → (zR ((zv s2 43) + 1)) ∧ Q 1 (zpv s2 43 ((zv s2 43) + 1))) ∧ (¬ r1 = a0 → Q 0 s2)))
set_option maxHeartbeats 4000000 in
set_option maxRecDepth 100000 in
theorem rm_take (l : Launch) (d : gD) (b : Nat) {t : Nat} {T : Nat → Nat} {F : gM} {s0 : zS} {a0 : Int} (Ra0 : zR a0) {Q : Int → zS → Prop} (hZ : zZ d t T F F s0) (hw : wr_take s0 a0 Q) : gMi l d b yX12_take cX12_take 2 .boolean 1 0 0 F [.ref t, .int (zI a0)] (zPi d t T F Q) := by
  refine gM_of2 rfl (nL := 2) (Nat.le_of_ble_eq_true rfl) ?_
  intro X hX hC; subst hX
  show gG X d b (zQi X d b t T F Q) F 0 0 0 [some (.ref t), some (.int (zI a0))] []
  unfold wr_take at hw
  refine g_aload_n hC dX12_take_0 rfl ?_
  refine zr_callVi (As := []) hC hZ rfl (rm_tk X.la d b  hZ.rf hw) cl_X12_526 rfl rfl (Nat.le_of_ble_eq_true rfl) ⟨Nat.le_of_ble_eq_true rfl, Nat.le_of_ble_eq_true rfl⟩ dX12_take_1 (fun r1 s2 F3 R4 hZ5 h6 => ?_)
  refine g_iload_n hC dX12_take_4 rfl ?_
  refine zr_icmp_eq (tgt := 10) hC R4 Ra0 dX12_take_5 (by decide) (fun c7 => ?_) (fun c7 => ?_)
  · have h8 := h6.1 c7
    refine g_aload_n hC dX12_take_10 rfl ?_
    refine g_dup hC dX12_take_11 rfl ?_
    refine zr_get (e := (zv s2 43)) hC hZ5 fl_X12_142 zb_43 (by decide) rfl dX12_take_12 ?_
    refine g_iconst (v := zI 1) hC dX12_take_15 rfl ?_
    refine zr_iadd hC dX12_take_16 ?_
    obtain ⟨o9, h10⟩ := h8
    refine zr_put hC hZ5 fl_X12_142 zb_43 (by decide) o9 dX12_take_17 (fun F11 hZ12 => ?_)
    refine g_iconst (v := zI 1) hC dX12_take_20 rfl ?_
    exact zr_zret hC hZ12 (Or.inr rfl) h10 dX12_take_21
  · have h13 := h6.2 c7
    refine g_iconst (v := zI 0) hC dX12_take_8 rfl ?_
    exact zr_zret hC hZ5 (Or.inl rfl) h13 dX12_take_9
theorem dX12_deeper_0 : decode cX12_deeper 0 = .ok (.aload_n 0, 1) := by decide +kernel
theorem dX12_deeper_1 : decode cX12_deeper 1 = .ok (.getfield 145, 3) := by decide +kernel
theorem dX12_deeper_4 : decode cX12_deeper 4 = .ok (.bipush 60, 2) := by decide +kernel
theorem dX12_deeper_6 : decode cX12_deeper 6 = .ok (.if_icmp .ne 5, 3) := by decide +kernel
theorem dX12_deeper_9 : decode cX12_deeper 9 = .ok (.iconst 0, 1) := by decide +kernel
theorem dX12_deeper_10 : decode cX12_deeper 10 = .ok (.ireturn, 1) := by decide +kernel
theorem dX12_deeper_11 : decode cX12_deeper 11 = .ok (.aload_n 0, 1) := by decide +kernel
theorem dX12_deeper_12 : decode cX12_deeper 12 = .ok (.dup, 1) := by decide +kernel
theorem dX12_deeper_13 : decode cX12_deeper 13 = .ok (.getfield 145, 3) := by decide +kernel
theorem dX12_deeper_16 : decode cX12_deeper 16 = .ok (.iconst 1, 1) := by decide +kernel
theorem dX12_deeper_17 : decode cX12_deeper 17 = .ok (.iadd, 1) := by decide +kernel
theorem dX12_deeper_18 : decode cX12_deeper 18 = .ok (.putfield 145, 3) := by decide +kernel
theorem dX12_deeper_21 : decode cX12_deeper 21 = .ok (.iconst 1, 1) := by decide +kernel
theorem dX12_deeper_22 : decode cX12_deeper 22 = .ok (.ireturn, 1) := by decide +kernel
def wr_deeper (s0 : zS)  (Q : Int → zS → Prop) : Prop :=
  ((¬ (zv s0 44) = 60 → (zR ((zv s0 44) + 1)) ∧ Q 1 (zpv s0 44 ((zv s0 44) + 1))) ∧ ((zv s0 44) = 60 → Q 0 s0))
set_option maxHeartbeats 4000000 in
set_option maxRecDepth 100000 in
theorem rm_deeper (l : Launch) (d : gD) (b : Nat) {t : Nat} {T : Nat → Nat} {F : gM} {s0 : zS}   {Q : Int → zS → Prop} (hZ : zZ d t T F F s0) (hw : wr_deeper s0  Q) : gMi l d b yX12_deeper cX12_deeper 1 .boolean 0 0 0 F [.ref t] (zPi d t T F Q) := by
  refine gM_of2 rfl (nL := 1) (Nat.le_of_ble_eq_true rfl) ?_
  intro X hX hC; subst hX
  show gG X d b (zQi X d b t T F Q) F 0 0 0 [some (.ref t)] []
  unfold wr_deeper at hw
  refine g_aload_n hC dX12_deeper_0 rfl ?_
  refine zr_get (e := (zv s0 44)) hC hZ fl_X12_145 zb_44 (by decide) rfl dX12_deeper_1 ?_
  refine g_bipush (v := zI 60) hC dX12_deeper_4 rfl ?_
  refine zr_icmp_ne (tgt := 11) hC (hZ.rv 44) (by decide) dX12_deeper_6 (by decide) (fun c1 => ?_) (fun c1 => ?_)
  · have h2 := hw.1 c1
    refine g_aload_n hC dX12_deeper_11 rfl ?_
    refine g_dup hC dX12_deeper_12 rfl ?_
    refine zr_get (e := (zv s0 44)) hC hZ fl_X12_145 zb_44 (by decide) rfl dX12_deeper_13 ?_
    refine g_iconst (v := zI 1) hC dX12_deeper_16 rfl ?_
    refine zr_iadd hC dX12_deeper_17 ?_
    obtain ⟨o3, h4⟩ := h2
    refine zr_put hC hZ fl_X12_145 zb_44 (by decide) o3 dX12_deeper_18 (fun F5 hZ6 => ?_)
    refine g_iconst (v := zI 1) hC dX12_deeper_21 rfl ?_
    exact zr_zret hC hZ6 (Or.inr rfl) h4 dX12_deeper_22
  · have h7 := hw.2 c1
    refine g_iconst (v := zI 0) hC dX12_deeper_9 rfl ?_
    exact zr_zret hC hZ (Or.inl rfl) h7 dX12_deeper_10
theorem dX12_isD_0 : decode cX12_isD 0 = .ok (.iload_n 0, 1) := by decide +kernel
theorem dX12_isD_1 : decode cX12_isD 1 = .ok (.bipush 40, 2) := by decide +kernel
theorem dX12_isD_3 : decode cX12_isD 3 = .ok (.if_icmp .eq 21, 3) := by decide +kernel
theorem dX12_isD_6 : decode cX12_isD 6 = .ok (.iload_n 0, 1) := by decide +kernel
theorem dX12_isD_7 : decode cX12_isD 7 = .ok (.bipush 41, 2) := by decide +kernel
theorem dX12_isD_9 : decode cX12_isD 9 = .ok (.if_icmp .eq 15, 3) := by decide +kernel
theorem dX12_isD_12 : decode cX12_isD 12 = .ok (.iload_n 0, 1) := by decide +kernel
theorem dX12_isD_13 : decode cX12_isD 13 = .ok (.bipush 42, 2) := by decide +kernel
theorem dX12_isD_15 : decode cX12_isD 15 = .ok (.if_icmp .eq 9, 3) := by decide +kernel
theorem dX12_isD_18 : decode cX12_isD 18 = .ok (.iload_n 0, 1) := by decide +kernel
theorem dX12_isD_19 : decode cX12_isD 19 = .ok (.bipush 43, 2) := by decide +kernel
theorem dX12_isD_21 : decode cX12_isD 21 = .ok (.if_icmp .ne 7, 3) := by decide +kernel
theorem dX12_isD_24 : decode cX12_isD 24 = .ok (.iconst 1, 1) := by decide +kernel
theorem dX12_isD_25 : decode cX12_isD 25 = .ok (.goto 4, 3) := by decide +kernel
theorem dX12_isD_28 : decode cX12_isD 28 = .ok (.iconst 0, 1) := by decide +kernel
theorem dX12_isD_29 : decode cX12_isD 29 = .ok (.ireturn, 1) := by decide +kernel
def wr_isD (s0 : zS) (a0 : Int) (Q : Int → zS → Prop) : Prop :=
  ((a0 = 40 → Q 1 s0) ∧ (¬ a0 = 40 → ((a0 = 41 → Q 1 s0) ∧ (¬ a0 = 41 → ((a0 = 42 → Q 1 s0) ∧ (¬ a0 = 42 → ((¬ a0 = 43 → Q 0 s0) ∧ (a0 = 43 → Q 1 s0))))))))
set_option maxHeartbeats 4000000 in
set_option maxRecDepth 100000 in
theorem rm_isD (l : Launch) (d : gD) (b : Nat) {t : Nat} {T : Nat → Nat} {F : gM} {s0 : zS} {a0 : Int} (Ra0 : zR a0) {Q : Int → zS → Prop} (hZ : zZ d t T F F s0) (hw : wr_isD s0 a0 Q) : gMi l d b yX12_isD cX12_isD 1 .boolean 0 0 0 F [.int (zI a0)] (zPi d t T F Q) := by
  refine gM_of2 rfl (nL := 1) (Nat.le_of_ble_eq_true rfl) ?_
  intro X hX hC; subst hX
  show gG X d b (zQi X d b t T F Q) F 0 0 0 [some (.int (zI a0))] []
  unfold wr_isD at hw
  refine g_iload_n hC dX12_isD_0 rfl ?_
  refine g_bipush (v := zI 40) hC dX12_isD_1 rfl ?_
  refine zr_icmp_eq (tgt := 24) hC Ra0 (by decide) dX12_isD_3 (by decide) (fun c1 => ?_) (fun c1 => ?_)
  · have h2 := hw.1 c1
    refine g_iconst (v := zI 1) hC dX12_isD_24 rfl ?_
    refine g_goto (tgt := 29) hC dX12_isD_25 (by decide) ?_
    exact zr_zret hC hZ (Or.inr rfl) h2 dX12_isD_29
  · have h3 := hw.2 c1
    refine g_iload_n hC dX12_isD_6 rfl ?_
    refine g_bipush (v := zI 41) hC dX12_isD_7 rfl ?_
    refine zr_icmp_eq (tgt := 24) hC Ra0 (by decide) dX12_isD_9 (by decide) (fun c4 => ?_) (fun c4 => ?_)
    · have h5 := h3.1 c4
      refine g_iconst (v := zI 1) hC dX12_isD_24 rfl ?_
      refine g_goto (tgt := 29) hC dX12_isD_25 (by decide) ?_
      exact zr_zret hC hZ (Or.inr rfl) h5 dX12_isD_29
    · have h6 := h3.2 c4
      refine g_iload_n hC dX12_isD_12 rfl ?_
      refine g_bipush (v := zI 42) hC dX12_isD_13 rfl ?_
      refine zr_icmp_eq (tgt := 24) hC Ra0 (by decide) dX12_isD_15 (by decide) (fun c7 => ?_) (fun c7 => ?_)
      · have h8 := h6.1 c7
        refine g_iconst (v := zI 1) hC dX12_isD_24 rfl ?_
        refine g_goto (tgt := 29) hC dX12_isD_25 (by decide) ?_
        exact zr_zret hC hZ (Or.inr rfl) h8 dX12_isD_29
      · have h9 := h6.2 c7
        refine g_iload_n hC dX12_isD_18 rfl ?_
        refine g_bipush (v := zI 43) hC dX12_isD_19 rfl ?_
        refine zr_icmp_ne (tgt := 28) hC Ra0 (by decide) dX12_isD_21 (by decide) (fun c10 => ?_) (fun c10 => ?_)
        · have h11 := h9.1 c10
          refine g_iconst (v := zI 0) hC dX12_isD_28 rfl ?_
          exact zr_zret hC hZ (Or.inl rfl) h11 dX12_isD_29
        · have h12 := h9.2 c10
          refine g_iconst (v := zI 1) hC dX12_isD_24 rfl ?_
          refine g_goto (tgt := 29) hC dX12_isD_25 (by decide) ?_
          exact zr_zret hC hZ (Or.inr rfl) h12 dX12_isD_29
theorem dX12_openSection_0 : decode cX12_openSection 0 = .ok (.aload_n 0, 1) := by decide +kernel
theorem dX12_openSection_1 : decode cX12_openSection 1 = .ok (.invokevirtual 526, 3) := by decide +kernel
theorem dX12_openSection_4 : decode cX12_openSection 4 = .ok (.bipush 10, 2) := by decide +kernel
theorem dX12_openSection_6 : decode cX12_openSection 6 = .ok (.if_icmp .eq 5, 3) := by decide +kernel
theorem dX12_openSection_9 : decode cX12_openSection 9 = .ok (.iconst 0, 1) := by decide +kernel
theorem dX12_openSection_10 : decode cX12_openSection 10 = .ok (.ireturn, 1) := by decide +kernel
theorem dX12_openSection_11 : decode cX12_openSection 11 = .ok (.aload_n 0, 1) := by decide +kernel
theorem dX12_openSection_12 : decode cX12_openSection 12 = .ok (.getfield 145, 3) := by decide +kernel
theorem dX12_openSection_15 : decode cX12_openSection 15 = .ok (.istore_n 1, 1) := by decide +kernel
theorem dX12_openSection_16 : decode cX12_openSection 16 = .ok (.aload_n 0, 1) := by decide +kernel
theorem dX12_openSection_17 : decode cX12_openSection 17 = .ok (.invokevirtual 530, 3) := by decide +kernel
theorem dX12_openSection_20 : decode cX12_openSection 20 = .ok (.ifCond .ne 5, 3) := by decide +kernel
theorem dX12_openSection_23 : decode cX12_openSection 23 = .ok (.iconst 0, 1) := by decide +kernel
theorem dX12_openSection_24 : decode cX12_openSection 24 = .ok (.ireturn, 1) := by decide +kernel
theorem dX12_openSection_25 : decode cX12_openSection 25 = .ok (.aload_n 0, 1) := by decide +kernel
theorem dX12_openSection_26 : decode cX12_openSection 26 = .ok (.getfield 151, 3) := by decide +kernel
theorem dX12_openSection_29 : decode cX12_openSection 29 = .ok (.aload_n 0, 1) := by decide +kernel
theorem dX12_openSection_30 : decode cX12_openSection 30 = .ok (.getfield 148, 3) := by decide +kernel
theorem dX12_openSection_33 : decode cX12_openSection 33 = .ok (.aload_n 0, 1) := by decide +kernel
theorem dX12_openSection_34 : decode cX12_openSection 34 = .ok (.getfield 45, 3) := by decide +kernel
theorem dX12_openSection_37 : decode cX12_openSection 37 = .ok (.aload_n 0, 1) := by decide +kernel
theorem dX12_openSection_38 : decode cX12_openSection 38 = .ok (.getfield 142, 3) := by decide +kernel
theorem dX12_openSection_41 : decode cX12_openSection 41 = .ok (.iaload, 1) := by decide +kernel
theorem dX12_openSection_42 : decode cX12_openSection 42 = .ok (.iastore, 1) := by decide +kernel
theorem dX12_openSection_43 : decode cX12_openSection 43 = .ok (.aload_n 0, 1) := by decide +kernel
theorem dX12_openSection_44 : decode cX12_openSection 44 = .ok (.getfield 154, 3) := by decide +kernel
theorem dX12_openSection_47 : decode cX12_openSection 47 = .ok (.aload_n 0, 1) := by decide +kernel
theorem dX12_openSection_48 : decode cX12_openSection 48 = .ok (.getfield 148, 3) := by decide +kernel
theorem dX12_openSection_51 : decode cX12_openSection 51 = .ok (.iload_n 1, 1) := by decide +kernel
theorem dX12_openSection_52 : decode cX12_openSection 52 = .ok (.iastore, 1) := by decide +kernel
theorem dX12_openSection_53 : decode cX12_openSection 53 = .ok (.aload_n 0, 1) := by decide +kernel
theorem dX12_openSection_54 : decode cX12_openSection 54 = .ok (.dup, 1) := by decide +kernel
theorem dX12_openSection_55 : decode cX12_openSection 55 = .ok (.getfield 148, 3) := by decide +kernel
theorem dX12_openSection_58 : decode cX12_openSection 58 = .ok (.iconst 1, 1) := by decide +kernel
theorem dX12_openSection_59 : decode cX12_openSection 59 = .ok (.iadd, 1) := by decide +kernel
theorem dX12_openSection_60 : decode cX12_openSection 60 = .ok (.putfield 148, 3) := by decide +kernel
theorem dX12_openSection_63 : decode cX12_openSection 63 = .ok (.aload_n 0, 1) := by decide +kernel
theorem dX12_openSection_64 : decode cX12_openSection 64 = .ok (.dup, 1) := by decide +kernel
theorem dX12_openSection_65 : decode cX12_openSection 65 = .ok (.getfield 142, 3) := by decide +kernel
theorem dX12_openSection_68 : decode cX12_openSection 68 = .ok (.iconst 1, 1) := by decide +kernel
theorem dX12_openSection_69 : decode cX12_openSection 69 = .ok (.iadd, 1) := by decide +kernel
theorem dX12_openSection_70 : decode cX12_openSection 70 = .ok (.putfield 142, 3) := by decide +kernel
theorem dX12_openSection_73 : decode cX12_openSection 73 = .ok (.iconst 1, 1) := by decide +kernel
theorem dX12_openSection_74 : decode cX12_openSection 74 = .ok (.ireturn, 1) := by decide +kernel
def wr_openSection (s0 : zS)  (Q : Int → zS → Prop) : Prop :=
  wr_tk s0  (fun r1 s2 => ((r1 = 10 → wr_deeper s2  (fun r9 s10 => ((¬ r9 = 0 → (0 ≤ (zv s10 43)) ∧ ((zv s10 43) < 12100) ∧ (0 ≤ (zv s10 45)) ∧ ((zv s10 45) < 70) ∧ (0 ≤ (zv s10 45)) ∧ ((zv s10 45) < 70) ∧ (zR ((zv s10 45) + 1)) ∧ (zR ((zv s10 43) + 1)) ∧ Q 1 (zpv (zpv (zpa (zpa s10 46 (Int.toNat (zv s10 45)) (za s10 11 (Int.toNat (zv s10 43)))) 47 (Int.toNat (zv s10 45)) (zv s2 44)) 45 ((zv s10 45) + 1)) 43 ((zv s10 43) + 1))) ∧ (r9 = 0 → Q 0 s10)))) ∧ (¬ r1 = 10 → Q 0 s2)))
set_option maxHeartbeats 4000000 in
set_option maxRecDepth 100000 in
theorem rm_openSection (l : Launch) (d : gD) (b : Nat) {t : Nat} {T : Nat → Nat} {F : gM} {s0 : zS}   {Q : Int → zS → Prop} (hZ : zZ d t T F F s0) (hw : wr_openSection s0  Q) : gMi l d b yX12_openSection cX12_openSection 2 .boolean 1 0 0 F [.ref t] (zPi d t T F Q) := by
  refine gM_of2 rfl (nL := 2) (Nat.le_of_ble_eq_true rfl) ?_
  intro X hX hC; subst hX
  show gG X d b (zQi X d b t T F Q) F 0 0 0 [some (.ref t), none] []
  unfold wr_openSection at hw
  refine g_aload_n hC dX12_openSection_0 rfl ?_
  refine zr_callVi (As := []) hC hZ rfl (rm_tk X.la d b  hZ.rf hw) cl_X12_526 rfl rfl (Nat.le_of_ble_eq_true rfl) ⟨Nat.le_of_ble_eq_true rfl, Nat.le_of_ble_eq_true rfl⟩ dX12_openSection_1 (fun r1 s2 F3 R4 hZ5 h6 => ?_)
  refine g_bipush (v := zI 10) hC dX12_openSection_4 rfl ?_
  refine zr_icmp_eq (tgt := 11) hC R4 (by decide) dX12_openSection_6 (by decide) (fun c7 => ?_) (fun c7 => ?_)
  · have h8 := h6.1 c7
    refine g_aload_n hC dX12_openSection_11 rfl ?_
    refine zr_get (e := (zv s2 44)) hC hZ5 fl_X12_145 zb_44 (by decide) rfl dX12_openSection_12 ?_
    refine g_istore_n (lv' := [some (.ref t), some (.int (zI (zv s2 44)))]) hC dX12_openSection_15 (Nat.le_of_ble_eq_true rfl) rfl rfl ?_
    refine g_aload_n hC dX12_openSection_16 rfl ?_
    refine zr_callVi (As := []) hC hZ5 rfl (rm_deeper X.la d b  hZ5.rf h8) cl_X12_530 rfl rfl (Nat.le_of_ble_eq_true rfl) ⟨Nat.le_of_ble_eq_true rfl, Nat.le_of_ble_eq_true rfl⟩ dX12_openSection_17 (fun r9 s10 F11 R12 hZ13 h14 => ?_)
    refine zr_if_ne (tgt := 25) hC R12 dX12_openSection_20 (by decide) (fun c15 => ?_) (fun c15 => ?_)
    · have h16 := h14.1 c15
      refine g_aload_n hC dX12_openSection_25 rfl ?_
      refine zr_geta hC hZ13 fl_X12_151 zb_46 (by decide) dX12_openSection_26 ?_
      refine g_aload_n hC dX12_openSection_29 rfl ?_
      refine zr_get (e := (zv s10 45)) hC hZ13 fl_X12_148 zb_45 (by decide) rfl dX12_openSection_30 ?_
      refine g_aload_n hC dX12_openSection_33 rfl ?_
      refine zr_geta hC hZ13 fl_X12_45 zb_11 (by decide) dX12_openSection_34 ?_
      refine g_aload_n hC dX12_openSection_37 rfl ?_
      refine zr_get (e := (zv s10 43)) hC hZ13 fl_X12_142 zb_43 (by decide) rfl dX12_openSection_38 ?_
      obtain ⟨o17, h18⟩ := h16
      obtain ⟨o19, h20⟩ := h18
      refine zr_iald (v := (za s10 11 (Int.toNat (zv s10 43)))) hC hZ13 zk_11 zb_11 zn_11 (by decide) o17 o19 rfl dX12_openSection_41 ?_
      obtain ⟨o21, h22⟩ := h20
      obtain ⟨o23, h24⟩ := h22
      refine zr_iast hC hZ13 zk_46 zb_46 zn_46 (by decide) o21 o23 (hZ13.ra 11 _) dX12_openSection_42 (fun F25 hZ26 => ?_)
      refine g_aload_n hC dX12_openSection_43 rfl ?_
      refine zr_geta hC hZ26 fl_X12_154 zb_47 (by decide) dX12_openSection_44 ?_
      refine g_aload_n hC dX12_openSection_47 rfl ?_
      refine zr_get (e := (zv s10 45)) hC hZ26 fl_X12_148 zb_45 (by decide) rfl dX12_openSection_48 ?_
      refine g_iload_n hC dX12_openSection_51 rfl ?_
      obtain ⟨o27, h28⟩ := h24
      obtain ⟨o29, h30⟩ := h28
      refine zr_iast hC hZ26 zk_47 zb_47 zn_47 (by decide) o27 o29 (hZ5.rv 44) dX12_openSection_52 (fun F31 hZ32 => ?_)
      refine g_aload_n hC dX12_openSection_53 rfl ?_
      refine g_dup hC dX12_openSection_54 rfl ?_
      refine zr_get (e := (zv s10 45)) hC hZ32 fl_X12_148 zb_45 (by decide) rfl dX12_openSection_55 ?_
      refine g_iconst (v := zI 1) hC dX12_openSection_58 rfl ?_
      refine zr_iadd hC dX12_openSection_59 ?_
      obtain ⟨o33, h34⟩ := h30
      refine zr_put hC hZ32 fl_X12_148 zb_45 (by decide) o33 dX12_openSection_60 (fun F35 hZ36 => ?_)
      refine g_aload_n hC dX12_openSection_63 rfl ?_
      refine g_dup hC dX12_openSection_64 rfl ?_
      refine zr_get (e := (zv s10 43)) hC hZ36 fl_X12_142 zb_43 (by decide) rfl dX12_openSection_65 ?_
      refine g_iconst (v := zI 1) hC dX12_openSection_68 rfl ?_
      refine zr_iadd hC dX12_openSection_69 ?_
      obtain ⟨o37, h38⟩ := h34
      refine zr_put hC hZ36 fl_X12_142 zb_43 (by decide) o37 dX12_openSection_70 (fun F39 hZ40 => ?_)
      refine g_iconst (v := zI 1) hC dX12_openSection_73 rfl ?_
      exact zr_zret hC hZ40 (Or.inr rfl) h38 dX12_openSection_74
    · have h41 := h14.2 c15
      refine g_iconst (v := zI 0) hC dX12_openSection_23 rfl ?_
      exact zr_zret hC hZ13 (Or.inl rfl) h41 dX12_openSection_24
  · have h42 := h6.2 c7
    refine g_iconst (v := zI 0) hC dX12_openSection_9 rfl ?_
    exact zr_zret hC hZ5 (Or.inl rfl) h42 dX12_openSection_10
theorem dX12_shutSection_0 : decode cX12_shutSection 0 = .ok (.aload_n 0, 1) := by decide +kernel
theorem dX12_shutSection_1 : decode cX12_shutSection 1 = .ok (.invokevirtual 526, 3) := by decide +kernel
theorem dX12_shutSection_4 : decode cX12_shutSection 4 = .ok (.bipush 11, 2) := by decide +kernel
theorem dX12_shutSection_6 : decode cX12_shutSection 6 = .ok (.if_icmp .eq 5, 3) := by decide +kernel
theorem dX12_shutSection_9 : decode cX12_shutSection 9 = .ok (.iconst 0, 1) := by decide +kernel
theorem dX12_shutSection_10 : decode cX12_shutSection 10 = .ok (.ireturn, 1) := by decide +kernel
theorem dX12_shutSection_11 : decode cX12_shutSection 11 = .ok (.aload_n 0, 1) := by decide +kernel
theorem dX12_shutSection_12 : decode cX12_shutSection 12 = .ok (.getfield 45, 3) := by decide +kernel
theorem dX12_shutSection_15 : decode cX12_shutSection 15 = .ok (.aload_n 0, 1) := by decide +kernel
theorem dX12_shutSection_16 : decode cX12_shutSection 16 = .ok (.getfield 142, 3) := by decide +kernel
theorem dX12_shutSection_19 : decode cX12_shutSection 19 = .ok (.iaload, 1) := by decide +kernel
theorem dX12_shutSection_20 : decode cX12_shutSection 20 = .ok (.istore_n 1, 1) := by decide +kernel
theorem dX12_shutSection_21 : decode cX12_shutSection 21 = .ok (.iload_n 1, 1) := by decide +kernel
theorem dX12_shutSection_22 : decode cX12_shutSection 22 = .ok (.ifCond .lt 18, 3) := by decide +kernel
theorem dX12_shutSection_25 : decode cX12_shutSection 25 = .ok (.aload_n 0, 1) := by decide +kernel
theorem dX12_shutSection_26 : decode cX12_shutSection 26 = .ok (.getfield 151, 3) := by decide +kernel
theorem dX12_shutSection_29 : decode cX12_shutSection 29 = .ok (.aload_n 0, 1) := by decide +kernel
theorem dX12_shutSection_30 : decode cX12_shutSection 30 = .ok (.getfield 148, 3) := by decide +kernel
theorem dX12_shutSection_33 : decode cX12_shutSection 33 = .ok (.iconst 1, 1) := by decide +kernel
theorem dX12_shutSection_34 : decode cX12_shutSection 34 = .ok (.isub, 1) := by decide +kernel
theorem dX12_shutSection_35 : decode cX12_shutSection 35 = .ok (.iaload, 1) := by decide +kernel
theorem dX12_shutSection_36 : decode cX12_shutSection 36 = .ok (.iload_n 1, 1) := by decide +kernel
theorem dX12_shutSection_37 : decode cX12_shutSection 37 = .ok (.if_icmp .ne 7, 3) := by decide +kernel
theorem dX12_shutSection_40 : decode cX12_shutSection 40 = .ok (.iconst 1, 1) := by decide +kernel
theorem dX12_shutSection_41 : decode cX12_shutSection 41 = .ok (.goto 4, 3) := by decide +kernel
theorem dX12_shutSection_44 : decode cX12_shutSection 44 = .ok (.iconst 0, 1) := by decide +kernel
theorem dX12_shutSection_45 : decode cX12_shutSection 45 = .ok (.istore_n 2, 1) := by decide +kernel
theorem dX12_shutSection_46 : decode cX12_shutSection 46 = .ok (.iconst 0, 1) := by decide +kernel
theorem dX12_shutSection_47 : decode cX12_shutSection 47 = .ok (.istore_n 3, 1) := by decide +kernel
theorem dX12_shutSection_48 : decode cX12_shutSection 48 = .ok (.iconst 0, 1) := by decide +kernel
theorem dX12_shutSection_49 : decode cX12_shutSection 49 = .ok (.istore 4, 2) := by decide +kernel
theorem dX12_shutSection_51 : decode cX12_shutSection 51 = .ok (.iload 4, 2) := by decide +kernel
theorem dX12_shutSection_53 : decode cX12_shutSection 53 = .ok (.aload_n 0, 1) := by decide +kernel
theorem dX12_shutSection_54 : decode cX12_shutSection 54 = .ok (.getfield 148, 3) := by decide +kernel
theorem dX12_shutSection_57 : decode cX12_shutSection 57 = .ok (.if_icmp .ge 30, 3) := by decide +kernel
theorem dX12_shutSection_60 : decode cX12_shutSection 60 = .ok (.iload_n 3, 1) := by decide +kernel
theorem dX12_shutSection_61 : decode cX12_shutSection 61 = .ok (.ifCond .ne 14, 3) := by decide +kernel
theorem dX12_shutSection_64 : decode cX12_shutSection 64 = .ok (.aload_n 0, 1) := by decide +kernel
theorem dX12_shutSection_65 : decode cX12_shutSection 65 = .ok (.getfield 151, 3) := by decide +kernel
theorem dX12_shutSection_68 : decode cX12_shutSection 68 = .ok (.iload 4, 2) := by decide +kernel
theorem dX12_shutSection_70 : decode cX12_shutSection 70 = .ok (.iaload, 1) := by decide +kernel
theorem dX12_shutSection_71 : decode cX12_shutSection 71 = .ok (.iload_n 1, 1) := by decide +kernel
theorem dX12_shutSection_72 : decode cX12_shutSection 72 = .ok (.if_icmp .ne 7, 3) := by decide +kernel
theorem dX12_shutSection_75 : decode cX12_shutSection 75 = .ok (.iconst 1, 1) := by decide +kernel
theorem dX12_shutSection_76 : decode cX12_shutSection 76 = .ok (.goto 4, 3) := by decide +kernel
theorem dX12_shutSection_79 : decode cX12_shutSection 79 = .ok (.iconst 0, 1) := by decide +kernel
theorem dX12_shutSection_80 : decode cX12_shutSection 80 = .ok (.istore_n 3, 1) := by decide +kernel
theorem dX12_shutSection_81 : decode cX12_shutSection 81 = .ok (.iinc 4 1, 3) := by decide +kernel
theorem dX12_shutSection_84 : decode cX12_shutSection 84 = .ok (.goto (-33), 3) := by decide +kernel
theorem dX12_shutSection_87 : decode cX12_shutSection 87 = .ok (.iload_n 2, 1) := by decide +kernel
theorem dX12_shutSection_88 : decode cX12_shutSection 88 = .ok (.ifCond .ne 9, 3) := by decide +kernel
theorem dX12_shutSection_91 : decode cX12_shutSection 91 = .ok (.iload_n 3, 1) := by decide +kernel
theorem dX12_shutSection_92 : decode cX12_shutSection 92 = .ok (.ifCond .ne 5, 3) := by decide +kernel
theorem dX12_shutSection_95 : decode cX12_shutSection 95 = .ok (.iconst 0, 1) := by decide +kernel
theorem dX12_shutSection_96 : decode cX12_shutSection 96 = .ok (.ireturn, 1) := by decide +kernel
theorem dX12_shutSection_97 : decode cX12_shutSection 97 = .ok (.iload_n 2, 1) := by decide +kernel
theorem dX12_shutSection_98 : decode cX12_shutSection 98 = .ok (.ifCond .eq 13, 3) := by decide +kernel
theorem dX12_shutSection_101 : decode cX12_shutSection 101 = .ok (.aload_n 0, 1) := by decide +kernel
theorem dX12_shutSection_102 : decode cX12_shutSection 102 = .ok (.dup, 1) := by decide +kernel
theorem dX12_shutSection_103 : decode cX12_shutSection 103 = .ok (.getfield 142, 3) := by decide +kernel
theorem dX12_shutSection_106 : decode cX12_shutSection 106 = .ok (.iconst 1, 1) := by decide +kernel
theorem dX12_shutSection_107 : decode cX12_shutSection 107 = .ok (.iadd, 1) := by decide +kernel
theorem dX12_shutSection_108 : decode cX12_shutSection 108 = .ok (.putfield 142, 3) := by decide +kernel
theorem dX12_shutSection_111 : decode cX12_shutSection 111 = .ok (.aload_n 0, 1) := by decide +kernel
theorem dX12_shutSection_112 : decode cX12_shutSection 112 = .ok (.dup, 1) := by decide +kernel
theorem dX12_shutSection_113 : decode cX12_shutSection 113 = .ok (.getfield 148, 3) := by decide +kernel
theorem dX12_shutSection_116 : decode cX12_shutSection 116 = .ok (.iconst 1, 1) := by decide +kernel
theorem dX12_shutSection_117 : decode cX12_shutSection 117 = .ok (.isub, 1) := by decide +kernel
theorem dX12_shutSection_118 : decode cX12_shutSection 118 = .ok (.putfield 148, 3) := by decide +kernel
theorem dX12_shutSection_121 : decode cX12_shutSection 121 = .ok (.aload_n 0, 1) := by decide +kernel
theorem dX12_shutSection_122 : decode cX12_shutSection 122 = .ok (.aload_n 0, 1) := by decide +kernel
theorem dX12_shutSection_123 : decode cX12_shutSection 123 = .ok (.getfield 154, 3) := by decide +kernel
theorem dX12_shutSection_126 : decode cX12_shutSection 126 = .ok (.aload_n 0, 1) := by decide +kernel
theorem dX12_shutSection_127 : decode cX12_shutSection 127 = .ok (.getfield 148, 3) := by decide +kernel
theorem dX12_shutSection_130 : decode cX12_shutSection 130 = .ok (.iaload, 1) := by decide +kernel
theorem dX12_shutSection_131 : decode cX12_shutSection 131 = .ok (.putfield 145, 3) := by decide +kernel
theorem dX12_shutSection_134 : decode cX12_shutSection 134 = .ok (.iconst 1, 1) := by decide +kernel
theorem dX12_shutSection_135 : decode cX12_shutSection 135 = .ok (.ireturn, 1) := by decide +kernel
def wr_shutSection_97 (Q : Int → zS → Prop)  (s0 : zS) (x2 : Int) : Prop :=
  ((x2 = 0 → (zR ((zv s0 45) - 1)) ∧ (0 ≤ ((zv s0 45) - 1)) ∧ (((zv s0 45) - 1) < 70) ∧ Q 1 (zpv (zpv s0 45 ((zv s0 45) - 1)) 44 (za s0 47 (Int.toNat ((zv s0 45) - 1))))) ∧ (¬ x2 = 0 → (zR ((zv s0 43) + 1)) ∧ (zR ((zv s0 45) - 1)) ∧ (0 ≤ ((zv s0 45) - 1)) ∧ (((zv s0 45) - 1) < 70) ∧ Q 1 (zpv (zpv (zpv s0 43 ((zv s0 43) + 1)) 45 ((zv s0 45) - 1)) 44 (za s0 47 (Int.toNat ((zv s0 45) - 1))))))
def wr_shutSection_51B (Q : Int → zS → Prop) (k51 : zS → Int → Int → Int → Int → Prop) (s0 : zS) (x1 : Int) (x2 : Int) (x3 : Int) (x4 : Int) : Prop :=
  (((zv s0 45) ≤ x4 → ((¬ x2 = 0 → wr_shutSection_97 Q  s0 x2) ∧ (x2 = 0 → ((¬ x3 = 0 → wr_shutSection_97 Q  s0 x2) ∧ (x3 = 0 → Q 0 s0))))) ∧ (¬ (zv s0 45) ≤ x4 → ((¬ x3 = 0 → (zR (x4 + 1)) ∧ k51 s0 x1 x2 1 (x4 + 1)) ∧ (x3 = 0 → (0 ≤ x4) ∧ (x4 < 70) ∧ ((¬ (za s0 46 (Int.toNat x4)) = x1 → (zR (x4 + 1)) ∧ k51 s0 x1 x2 0 (x4 + 1)) ∧ ((za s0 46 (Int.toNat x4)) = x1 → (zR (x4 + 1)) ∧ k51 s0 x1 x2 1 (x4 + 1)))))))
def wr_shutSection_51 (Q : Int → zS → Prop)  : Nat → zS → Int → Int → Int → Int → Prop
  | 0 => fun _ _ _ _ _ => False
  | m + 1 => fun s0 x1 x2 x3 x4 => wr_shutSection_51B Q  (wr_shutSection_51 Q  m) s0 x1 x2 x3 x4
def wr_shutSection (s0 : zS)  (Q : Int → zS → Prop) : Prop :=
  wr_tk s0  (fun r1 s2 => ((r1 = 11 → (0 ≤ (zv s2 43)) ∧ ((zv s2 43) < 12100) ∧ (((za s2 11 (Int.toNat (zv s2 43))) < 0 → ∃ n, wr_shutSection_51 Q  n s2 (za s2 11 (Int.toNat (zv s2 43))) 1 0 0) ∧ (¬ (za s2 11 (Int.toNat (zv s2 43))) < 0 → (0 ≤ ((zv s2 45) - 1)) ∧ (((zv s2 45) - 1) < 70) ∧ ((¬ (za s2 46 (Int.toNat ((zv s2 45) - 1))) = (za s2 11 (Int.toNat (zv s2 43))) → ∃ n, wr_shutSection_51 Q  n s2 (za s2 11 (Int.toNat (zv s2 43))) 0 0 0) ∧ ((za s2 46 (Int.toNat ((zv s2 45) - 1))) = (za s2 11 (Int.toNat (zv s2 43))) → ∃ n, wr_shutSection_51 Q  n s2 (za s2 11 (Int.toNat (zv s2 43))) 1 0 0))))) ∧ (¬ r1 = 11 → Q 0 s2)))
set_option maxHeartbeats 4000000 in
set_option maxRecDepth 100000 in
theorem rj_shutSection_97 {X : gX} {d : gD} {b t : Nat} {T : Nat → Nat} {F0 : gM} (hC : gC RX12 cX12_shutSection 5 (some .boolean) "shutSection" (gR 1 0 0) d b X) {Q : Int → zS → Prop}   {F : gM} {s0 : zS} {x2 : Int} (Rx2 : zR x2) (hZ : zZ d t T F0 F s0) (hw : wr_shutSection_97 Q  s0 x2) : gG X d b (zQi X d b t T F0 Q) F 0 0 97 [some (.ref t), none, some (.int (zI x2)), none, none] [] := by
  unfold wr_shutSection_97 at hw
  refine g_iload_n hC dX12_shutSection_97 rfl ?_
  refine zr_if_eq (tgt := 111) hC Rx2 dX12_shutSection_98 (by decide) (fun c1 => ?_) (fun c1 => ?_)
  · have h2 := hw.1 c1
    refine g_aload_n hC dX12_shutSection_111 rfl ?_
    refine g_dup hC dX12_shutSection_112 rfl ?_
    refine zr_get (e := (zv s0 45)) hC hZ fl_X12_148 zb_45 (by decide) rfl dX12_shutSection_113 ?_
    refine g_iconst (v := zI 1) hC dX12_shutSection_116 rfl ?_
    refine zr_isub hC dX12_shutSection_117 ?_
    obtain ⟨o3, h4⟩ := h2
    refine zr_put hC hZ fl_X12_148 zb_45 (by decide) o3 dX12_shutSection_118 (fun F5 hZ6 => ?_)
    refine g_aload_n hC dX12_shutSection_121 rfl ?_
    refine g_aload_n hC dX12_shutSection_122 rfl ?_
    refine zr_geta hC hZ6 fl_X12_154 zb_47 (by decide) dX12_shutSection_123 ?_
    refine g_aload_n hC dX12_shutSection_126 rfl ?_
    refine zr_get (e := ((zv s0 45) - 1)) hC hZ6 fl_X12_148 zb_45 (by decide) rfl dX12_shutSection_127 ?_
    obtain ⟨o7, h8⟩ := h4
    obtain ⟨o9, h10⟩ := h8
    refine zr_iald (v := (za s0 47 (Int.toNat ((zv s0 45) - 1)))) hC hZ6 zk_47 zb_47 zn_47 (by decide) o7 o9 rfl dX12_shutSection_130 ?_
    refine zr_put hC hZ6 fl_X12_145 zb_44 (by decide) (hZ.ra 47 _) dX12_shutSection_131 (fun F11 hZ12 => ?_)
    refine g_iconst (v := zI 1) hC dX12_shutSection_134 rfl ?_
    exact zr_zret hC hZ12 (Or.inr rfl) h10 dX12_shutSection_135
  · have h13 := hw.2 c1
    refine g_aload_n hC dX12_shutSection_101 rfl ?_
    refine g_dup hC dX12_shutSection_102 rfl ?_
    refine zr_get (e := (zv s0 43)) hC hZ fl_X12_142 zb_43 (by decide) rfl dX12_shutSection_103 ?_
    refine g_iconst (v := zI 1) hC dX12_shutSection_106 rfl ?_
    refine zr_iadd hC dX12_shutSection_107 ?_
    obtain ⟨o14, h15⟩ := h13
    refine zr_put hC hZ fl_X12_142 zb_43 (by decide) o14 dX12_shutSection_108 (fun F16 hZ17 => ?_)
    refine g_aload_n hC dX12_shutSection_111 rfl ?_
    refine g_dup hC dX12_shutSection_112 rfl ?_
    refine zr_get (e := (zv s0 45)) hC hZ17 fl_X12_148 zb_45 (by decide) rfl dX12_shutSection_113 ?_
    refine g_iconst (v := zI 1) hC dX12_shutSection_116 rfl ?_
    refine zr_isub hC dX12_shutSection_117 ?_
    obtain ⟨o18, h19⟩ := h15
    refine zr_put hC hZ17 fl_X12_148 zb_45 (by decide) o18 dX12_shutSection_118 (fun F20 hZ21 => ?_)
    refine g_aload_n hC dX12_shutSection_121 rfl ?_
    refine g_aload_n hC dX12_shutSection_122 rfl ?_
    refine zr_geta hC hZ21 fl_X12_154 zb_47 (by decide) dX12_shutSection_123 ?_
    refine g_aload_n hC dX12_shutSection_126 rfl ?_
    refine zr_get (e := ((zv s0 45) - 1)) hC hZ21 fl_X12_148 zb_45 (by decide) rfl dX12_shutSection_127 ?_
    obtain ⟨o22, h23⟩ := h19
    obtain ⟨o24, h25⟩ := h23
    refine zr_iald (v := (za s0 47 (Int.toNat ((zv s0 45) - 1)))) hC hZ21 zk_47 zb_47 zn_47 (by decide) o22 o24 rfl dX12_shutSection_130 ?_
    refine zr_put hC hZ21 fl_X12_145 zb_44 (by decide) (hZ.ra 47 _) dX12_shutSection_131 (fun F26 hZ27 => ?_)
    refine g_iconst (v := zI 1) hC dX12_shutSection_134 rfl ?_
    exact zr_zret hC hZ27 (Or.inr rfl) h25 dX12_shutSection_135
set_option maxHeartbeats 4000000 in
set_option maxRecDepth 100000 in
theorem rb_shutSection_51 {X : gX} {d : gD} {b t : Nat} {T : Nat → Nat} {F0 : gM} (hC : gC RX12 cX12_shutSection 5 (some .boolean) "shutSection" (gR 1 0 0) d b X) {Q : Int → zS → Prop} {k51 : zS → Int → Int → Int → Int → Prop} (hk51 : ∀ (F : gM) (s0 : zS) (x1 : Int) (x2 : Int) (x3 : Int) (x4 : Int), zR x1 → zR x2 → zR x3 → zR x4 → zZ d t T F0 F s0 → k51 s0 x1 x2 x3 x4 → gG X d b (zQi X d b t T F0 Q) F 0 0 51 [some (.ref t), some (.int (zI x1)), some (.int (zI x2)), some (.int (zI x3)), some (.int (zI x4))] []) {F : gM} {s0 : zS} {x1 : Int} {x2 : Int} {x3 : Int} {x4 : Int} (Rx1 : zR x1) (Rx2 : zR x2) (Rx3 : zR x3) (Rx4 : zR x4) (hZ : zZ d t T F0 F s0) (hw : wr_shutSection_51B Q k51 s0 x1 x2 x3 x4) : gG X d b (zQi X d b t T F0 Q) F 0 0 51 [some (.ref t), some (.int (zI x1)), some (.int (zI x2)), some (.int (zI x3)), some (.int (zI x4))] [] := by
  unfold wr_shutSection_51B at hw
  refine g_iload hC dX12_shutSection_51 rfl ?_
  refine g_aload_n hC dX12_shutSection_53 rfl ?_
  refine zr_get (e := (zv s0 45)) hC hZ fl_X12_148 zb_45 (by decide) rfl dX12_shutSection_54 ?_
  refine zr_icmp_ge (tgt := 87) hC Rx4 (hZ.rv 45) dX12_shutSection_57 (by decide) (fun c1 => ?_) (fun c1 => ?_)
  · have h2 := hw.1 c1
    refine g_iload_n hC dX12_shutSection_87 rfl ?_
    refine zr_if_ne (tgt := 97) hC Rx2 dX12_shutSection_88 (by decide) (fun c3 => ?_) (fun c3 => ?_)
    · have h4 := h2.1 c3
      refine g_lv (lv' := [some (.ref t), none, some (.int (zI x2)), none, none]) ⟨rfl, rfl, trivial⟩ ?_
      exact rj_shutSection_97 hC  Rx2 hZ h4
    · have h5 := h2.2 c3
      refine g_iload_n hC dX12_shutSection_91 rfl ?_
      refine zr_if_ne (tgt := 97) hC Rx3 dX12_shutSection_92 (by decide) (fun c6 => ?_) (fun c6 => ?_)
      · have h7 := h5.1 c6
        refine g_lv (lv' := [some (.ref t), none, some (.int (zI x2)), none, none]) ⟨rfl, rfl, trivial⟩ ?_
        exact rj_shutSection_97 hC  Rx2 hZ h7
      · have h8 := h5.2 c6
        refine g_iconst (v := zI 0) hC dX12_shutSection_95 rfl ?_
        exact zr_zret hC hZ (Or.inl rfl) h8 dX12_shutSection_96
  · have h9 := hw.2 c1
    refine g_iload_n hC dX12_shutSection_60 rfl ?_
    refine zr_if_ne (tgt := 75) hC Rx3 dX12_shutSection_61 (by decide) (fun c10 => ?_) (fun c10 => ?_)
    · have h11 := h9.1 c10
      refine g_iconst (v := zI 1) hC dX12_shutSection_75 rfl ?_
      refine g_goto (tgt := 80) hC dX12_shutSection_76 (by decide) ?_
      refine g_istore_n (lv' := [some (.ref t), some (.int (zI x1)), some (.int (zI x2)), some (.int (zI 1)), some (.int (zI x4))]) hC dX12_shutSection_80 (Nat.le_of_ble_eq_true rfl) rfl rfl ?_
      refine zr_iinc (x := x4) (lv' := [some (.ref t), some (.int (zI x1)), some (.int (zI x2)), some (.int (zI 1)), some (.int (zI (x4 + 1)))]) hC dX12_shutSection_81 rfl rfl rfl ?_
      refine g_goto (tgt := 51) hC dX12_shutSection_84 (by decide) ?_
      obtain ⟨o12, h13⟩ := h11
      exact hk51 _ _ _ _ _ _ Rx1 Rx2 (by decide) o12 hZ h13
    · have h14 := h9.2 c10
      refine g_aload_n hC dX12_shutSection_64 rfl ?_
      refine zr_geta hC hZ fl_X12_151 zb_46 (by decide) dX12_shutSection_65 ?_
      refine g_iload hC dX12_shutSection_68 rfl ?_
      obtain ⟨o15, h16⟩ := h14
      obtain ⟨o17, h18⟩ := h16
      refine zr_iald (v := (za s0 46 (Int.toNat x4))) hC hZ zk_46 zb_46 zn_46 (by decide) o15 o17 rfl dX12_shutSection_70 ?_
      refine g_iload_n hC dX12_shutSection_71 rfl ?_
      refine zr_icmp_ne (tgt := 79) hC (hZ.ra 46 _) Rx1 dX12_shutSection_72 (by decide) (fun c19 => ?_) (fun c19 => ?_)
      · have h20 := h18.1 c19
        refine g_iconst (v := zI 0) hC dX12_shutSection_79 rfl ?_
        refine g_istore_n (lv' := [some (.ref t), some (.int (zI x1)), some (.int (zI x2)), some (.int (zI 0)), some (.int (zI x4))]) hC dX12_shutSection_80 (Nat.le_of_ble_eq_true rfl) rfl rfl ?_
        refine zr_iinc (x := x4) (lv' := [some (.ref t), some (.int (zI x1)), some (.int (zI x2)), some (.int (zI 0)), some (.int (zI (x4 + 1)))]) hC dX12_shutSection_81 rfl rfl rfl ?_
        refine g_goto (tgt := 51) hC dX12_shutSection_84 (by decide) ?_
        obtain ⟨o21, h22⟩ := h20
        exact hk51 _ _ _ _ _ _ Rx1 Rx2 (by decide) o21 hZ h22
      · have h23 := h18.2 c19
        refine g_iconst (v := zI 1) hC dX12_shutSection_75 rfl ?_
        refine g_goto (tgt := 80) hC dX12_shutSection_76 (by decide) ?_
        refine g_istore_n (lv' := [some (.ref t), some (.int (zI x1)), some (.int (zI x2)), some (.int (zI 1)), some (.int (zI x4))]) hC dX12_shutSection_80 (Nat.le_of_ble_eq_true rfl) rfl rfl ?_
        refine zr_iinc (x := x4) (lv' := [some (.ref t), some (.int (zI x1)), some (.int (zI x2)), some (.int (zI 1)), some (.int (zI (x4 + 1)))]) hC dX12_shutSection_81 rfl rfl rfl ?_
        refine g_goto (tgt := 51) hC dX12_shutSection_84 (by decide) ?_
        obtain ⟨o24, h25⟩ := h23
        exact hk51 _ _ _ _ _ _ Rx1 Rx2 (by decide) o24 hZ h25
theorem rl_shutSection_51 {X : gX} {d : gD} {b t : Nat} {T : Nat → Nat} {F0 : gM} (hC : gC RX12 cX12_shutSection 5 (some .boolean) "shutSection" (gR 1 0 0) d b X) {Q : Int → zS → Prop}   : ∀ (m : Nat) (F : gM) (s0 : zS) (x1 : Int) (x2 : Int) (x3 : Int) (x4 : Int), zR x1 → zR x2 → zR x3 → zR x4 → zZ d t T F0 F s0 → wr_shutSection_51 Q  m s0 x1 x2 x3 x4 → gG X d b (zQi X d b t T F0 Q) F 0 0 51 [some (.ref t), some (.int (zI x1)), some (.int (zI x2)), some (.int (zI x3)), some (.int (zI x4))] [] := by
  intro m
  induction m with
  | zero => intro F s0 x1 x2 x3 x4 Rx1 Rx2 Rx3 Rx4 hZ hw; exact False.elim hw
  | succ m ih => intro F s0 x1 x2 x3 x4 Rx1 Rx2 Rx3 Rx4 hZ hw; exact rb_shutSection_51 hC  ih Rx1 Rx2 Rx3 Rx4 hZ hw
set_option maxHeartbeats 4000000 in
set_option maxRecDepth 100000 in
theorem rm_shutSection (l : Launch) (d : gD) (b : Nat) {t : Nat} {T : Nat → Nat} {F : gM} {s0 : zS}   {Q : Int → zS → Prop} (hZ : zZ d t T F F s0) (hw : wr_shutSection s0  Q) : gMi l d b yX12_shutSection cX12_shutSection 5 .boolean 1 0 0 F [.ref t] (zPi d t T F Q) := by
  refine gM_of2 rfl (nL := 5) (Nat.le_of_ble_eq_true rfl) ?_
  intro X hX hC; subst hX
  show gG X d b (zQi X d b t T F Q) F 0 0 0 [some (.ref t), none, none, none, none] []
  unfold wr_shutSection at hw
  refine g_aload_n hC dX12_shutSection_0 rfl ?_
  refine zr_callVi (As := []) hC hZ rfl (rm_tk X.la d b  hZ.rf hw) cl_X12_526 rfl rfl (Nat.le_of_ble_eq_true rfl) ⟨Nat.le_of_ble_eq_true rfl, Nat.le_of_ble_eq_true rfl⟩ dX12_shutSection_1 (fun r1 s2 F3 R4 hZ5 h6 => ?_)
  refine g_bipush (v := zI 11) hC dX12_shutSection_4 rfl ?_
  refine zr_icmp_eq (tgt := 11) hC R4 (by decide) dX12_shutSection_6 (by decide) (fun c7 => ?_) (fun c7 => ?_)
  · have h8 := h6.1 c7
    refine g_aload_n hC dX12_shutSection_11 rfl ?_
    refine zr_geta hC hZ5 fl_X12_45 zb_11 (by decide) dX12_shutSection_12 ?_
    refine g_aload_n hC dX12_shutSection_15 rfl ?_
    refine zr_get (e := (zv s2 43)) hC hZ5 fl_X12_142 zb_43 (by decide) rfl dX12_shutSection_16 ?_
    obtain ⟨o9, h10⟩ := h8
    obtain ⟨o11, h12⟩ := h10
    refine zr_iald (v := (za s2 11 (Int.toNat (zv s2 43)))) hC hZ5 zk_11 zb_11 zn_11 (by decide) o9 o11 rfl dX12_shutSection_19 ?_
    refine g_istore_n (lv' := [some (.ref t), some (.int (zI (za s2 11 (Int.toNat (zv s2 43))))), none, none, none]) hC dX12_shutSection_20 (Nat.le_of_ble_eq_true rfl) rfl rfl ?_
    refine g_iload_n hC dX12_shutSection_21 rfl ?_
    refine zr_if_lt (tgt := 40) hC (hZ5.ra 11 _) dX12_shutSection_22 (by decide) (fun c13 => ?_) (fun c13 => ?_)
    · have h14 := h12.1 c13
      refine g_iconst (v := zI 1) hC dX12_shutSection_40 rfl ?_
      refine g_goto (tgt := 45) hC dX12_shutSection_41 (by decide) ?_
      refine g_istore_n (lv' := [some (.ref t), some (.int (zI (za s2 11 (Int.toNat (zv s2 43))))), some (.int (zI 1)), none, none]) hC dX12_shutSection_45 (Nat.le_of_ble_eq_true rfl) rfl rfl ?_
      refine g_iconst (v := zI 0) hC dX12_shutSection_46 rfl ?_
      refine g_istore_n (lv' := [some (.ref t), some (.int (zI (za s2 11 (Int.toNat (zv s2 43))))), some (.int (zI 1)), some (.int (zI 0)), none]) hC dX12_shutSection_47 (Nat.le_of_ble_eq_true rfl) rfl rfl ?_
      refine g_iconst (v := zI 0) hC dX12_shutSection_48 rfl ?_
      refine g_istore (lv' := [some (.ref t), some (.int (zI (za s2 11 (Int.toNat (zv s2 43))))), some (.int (zI 1)), some (.int (zI 0)), some (.int (zI 0))]) hC dX12_shutSection_49 (Nat.le_of_ble_eq_true rfl) rfl rfl ?_
      obtain ⟨m15, h16⟩ := h14
      exact rl_shutSection_51 hC  m15 _ _ _ _ _ _ (hZ5.ra 11 _) (by decide) (by decide) (by decide) hZ5 h16
    · have h17 := h12.2 c13
      refine g_aload_n hC dX12_shutSection_25 rfl ?_
      refine zr_geta hC hZ5 fl_X12_151 zb_46 (by decide) dX12_shutSection_26 ?_
      refine g_aload_n hC dX12_shutSection_29 rfl ?_
      refine zr_get (e := (zv s2 45)) hC hZ5 fl_X12_148 zb_45 (by decide) rfl dX12_shutSection_30 ?_
      refine g_iconst (v := zI 1) hC dX12_shutSection_33 rfl ?_
      refine zr_isub hC dX12_shutSection_34 ?_
      obtain ⟨o18, h19⟩ := h17
      obtain ⟨o20, h21⟩ := h19
      refine zr_iald (v := (za s2 46 (Int.toNat ((zv s2 45) - 1)))) hC hZ5 zk_46 zb_46 zn_46 (by decide) o18 o20 rfl dX12_shutSection_35 ?_
      refine g_iload_n hC dX12_shutSection_36 rfl ?_
      refine zr_icmp_ne (tgt := 44) hC (hZ5.ra 46 _) (hZ5.ra 11 _) dX12_shutSection_37 (by decide) (fun c22 => ?_) (fun c22 => ?_)
      · have h23 := h21.1 c22
        refine g_iconst (v := zI 0) hC dX12_shutSection_44 rfl ?_
        refine g_istore_n (lv' := [some (.ref t), some (.int (zI (za s2 11 (Int.toNat (zv s2 43))))), some (.int (zI 0)), none, none]) hC dX12_shutSection_45 (Nat.le_of_ble_eq_true rfl) rfl rfl ?_
        refine g_iconst (v := zI 0) hC dX12_shutSection_46 rfl ?_
        refine g_istore_n (lv' := [some (.ref t), some (.int (zI (za s2 11 (Int.toNat (zv s2 43))))), some (.int (zI 0)), some (.int (zI 0)), none]) hC dX12_shutSection_47 (Nat.le_of_ble_eq_true rfl) rfl rfl ?_
        refine g_iconst (v := zI 0) hC dX12_shutSection_48 rfl ?_
        refine g_istore (lv' := [some (.ref t), some (.int (zI (za s2 11 (Int.toNat (zv s2 43))))), some (.int (zI 0)), some (.int (zI 0)), some (.int (zI 0))]) hC dX12_shutSection_49 (Nat.le_of_ble_eq_true rfl) rfl rfl ?_
        obtain ⟨m24, h25⟩ := h23
        exact rl_shutSection_51 hC  m24 _ _ _ _ _ _ (hZ5.ra 11 _) (by decide) (by decide) (by decide) hZ5 h25
      · have h26 := h21.2 c22
        refine g_iconst (v := zI 1) hC dX12_shutSection_40 rfl ?_
        refine g_goto (tgt := 45) hC dX12_shutSection_41 (by decide) ?_
        refine g_istore_n (lv' := [some (.ref t), some (.int (zI (za s2 11 (Int.toNat (zv s2 43))))), some (.int (zI 1)), none, none]) hC dX12_shutSection_45 (Nat.le_of_ble_eq_true rfl) rfl rfl ?_
        refine g_iconst (v := zI 0) hC dX12_shutSection_46 rfl ?_
        refine g_istore_n (lv' := [some (.ref t), some (.int (zI (za s2 11 (Int.toNat (zv s2 43))))), some (.int (zI 1)), some (.int (zI 0)), none]) hC dX12_shutSection_47 (Nat.le_of_ble_eq_true rfl) rfl rfl ?_
        refine g_iconst (v := zI 0) hC dX12_shutSection_48 rfl ?_
        refine g_istore (lv' := [some (.ref t), some (.int (zI (za s2 11 (Int.toNat (zv s2 43))))), some (.int (zI 1)), some (.int (zI 0)), some (.int (zI 0))]) hC dX12_shutSection_49 (Nat.le_of_ble_eq_true rfl) rfl rfl ?_
        obtain ⟨m27, h28⟩ := h26
        exact rl_shutSection_51 hC  m27 _ _ _ _ _ _ (hZ5.ra 11 _) (by decide) (by decide) (by decide) hZ5 h28
  · have h29 := h6.2 c7
    refine g_iconst (v := zI 0) hC dX12_shutSection_9 rfl ?_
    exact zr_zret hC hZ5 (Or.inl rfl) h29 dX12_shutSection_10
theorem dX12_levelOf_0 : decode cX12_levelOf 0 = .ok (.iload_n 0, 1) := by decide +kernel
theorem dX12_levelOf_1 : decode cX12_levelOf 1 = .ok (.bipush 71, 2) := by decide +kernel
theorem dX12_levelOf_3 : decode cX12_levelOf 3 = .ok (.if_icmp .eq 9, 3) := by decide +kernel
theorem dX12_levelOf_6 : decode cX12_levelOf 6 = .ok (.iload_n 0, 1) := by decide +kernel
theorem dX12_levelOf_7 : decode cX12_levelOf 7 = .ok (.bipush 72, 2) := by decide +kernel
theorem dX12_levelOf_9 : decode cX12_levelOf 9 = .ok (.if_icmp .ne 5, 3) := by decide +kernel
theorem dX12_levelOf_12 : decode cX12_levelOf 12 = .ok (.iconst 1, 1) := by decide +kernel
theorem dX12_levelOf_13 : decode cX12_levelOf 13 = .ok (.ireturn, 1) := by decide +kernel
theorem dX12_levelOf_14 : decode cX12_levelOf 14 = .ok (.iload_n 0, 1) := by decide +kernel
theorem dX12_levelOf_15 : decode cX12_levelOf 15 = .ok (.bipush 35, 2) := by decide +kernel
theorem dX12_levelOf_17 : decode cX12_levelOf 17 = .ok (.if_icmp .ne 5, 3) := by decide +kernel
theorem dX12_levelOf_20 : decode cX12_levelOf 20 = .ok (.iconst 2, 1) := by decide +kernel
theorem dX12_levelOf_21 : decode cX12_levelOf 21 = .ok (.ireturn, 1) := by decide +kernel
theorem dX12_levelOf_22 : decode cX12_levelOf 22 = .ok (.iload_n 0, 1) := by decide +kernel
theorem dX12_levelOf_23 : decode cX12_levelOf 23 = .ok (.bipush 34, 2) := by decide +kernel
theorem dX12_levelOf_25 : decode cX12_levelOf 25 = .ok (.if_icmp .ne 5, 3) := by decide +kernel
theorem dX12_levelOf_28 : decode cX12_levelOf 28 = .ok (.iconst 3, 1) := by decide +kernel
theorem dX12_levelOf_29 : decode cX12_levelOf 29 = .ok (.ireturn, 1) := by decide +kernel
theorem dX12_levelOf_30 : decode cX12_levelOf 30 = .ok (.iload_n 0, 1) := by decide +kernel
theorem dX12_levelOf_31 : decode cX12_levelOf 31 = .ok (.bipush 31, 2) := by decide +kernel
theorem dX12_levelOf_33 : decode cX12_levelOf 33 = .ok (.if_icmp .eq 9, 3) := by decide +kernel
theorem dX12_levelOf_36 : decode cX12_levelOf 36 = .ok (.iload_n 0, 1) := by decide +kernel
theorem dX12_levelOf_37 : decode cX12_levelOf 37 = .ok (.bipush 32, 2) := by decide +kernel
theorem dX12_levelOf_39 : decode cX12_levelOf 39 = .ok (.if_icmp .ne 5, 3) := by decide +kernel
theorem dX12_levelOf_42 : decode cX12_levelOf 42 = .ok (.iconst 4, 1) := by decide +kernel
theorem dX12_levelOf_43 : decode cX12_levelOf 43 = .ok (.ireturn, 1) := by decide +kernel
theorem dX12_levelOf_44 : decode cX12_levelOf 44 = .ok (.iload_n 0, 1) := by decide +kernel
theorem dX12_levelOf_45 : decode cX12_levelOf 45 = .ok (.bipush 25, 2) := by decide +kernel
theorem dX12_levelOf_47 : decode cX12_levelOf 47 = .ok (.if_icmp .lt 11, 3) := by decide +kernel
theorem dX12_levelOf_50 : decode cX12_levelOf 50 = .ok (.iload_n 0, 1) := by decide +kernel
theorem dX12_levelOf_51 : decode cX12_levelOf 51 = .ok (.bipush 30, 2) := by decide +kernel
theorem dX12_levelOf_53 : decode cX12_levelOf 53 = .ok (.if_icmp .gt 5, 3) := by decide +kernel
theorem dX12_levelOf_56 : decode cX12_levelOf 56 = .ok (.iconst 5, 1) := by decide +kernel
theorem dX12_levelOf_57 : decode cX12_levelOf 57 = .ok (.ireturn, 1) := by decide +kernel
theorem dX12_levelOf_58 : decode cX12_levelOf 58 = .ok (.iload_n 0, 1) := by decide +kernel
theorem dX12_levelOf_59 : decode cX12_levelOf 59 = .ok (.bipush 21, 2) := by decide +kernel
theorem dX12_levelOf_61 : decode cX12_levelOf 61 = .ok (.if_icmp .eq 9, 3) := by decide +kernel
theorem dX12_levelOf_64 : decode cX12_levelOf 64 = .ok (.iload_n 0, 1) := by decide +kernel
theorem dX12_levelOf_65 : decode cX12_levelOf 65 = .ok (.bipush 22, 2) := by decide +kernel
theorem dX12_levelOf_67 : decode cX12_levelOf 67 = .ok (.if_icmp .ne 6, 3) := by decide +kernel
theorem dX12_levelOf_70 : decode cX12_levelOf 70 = .ok (.bipush 6, 2) := by decide +kernel
theorem dX12_levelOf_72 : decode cX12_levelOf 72 = .ok (.ireturn, 1) := by decide +kernel
theorem dX12_levelOf_73 : decode cX12_levelOf 73 = .ok (.iload_n 0, 1) := by decide +kernel
theorem dX12_levelOf_74 : decode cX12_levelOf 74 = .ok (.bipush 23, 2) := by decide +kernel
theorem dX12_levelOf_76 : decode cX12_levelOf 76 = .ok (.if_icmp .eq 15, 3) := by decide +kernel
theorem dX12_levelOf_79 : decode cX12_levelOf 79 = .ok (.iload_n 0, 1) := by decide +kernel
theorem dX12_levelOf_80 : decode cX12_levelOf 80 = .ok (.bipush 24, 2) := by decide +kernel
theorem dX12_levelOf_82 : decode cX12_levelOf 82 = .ok (.if_icmp .eq 9, 3) := by decide +kernel
theorem dX12_levelOf_85 : decode cX12_levelOf 85 = .ok (.iload_n 0, 1) := by decide +kernel
theorem dX12_levelOf_86 : decode cX12_levelOf 86 = .ok (.bipush 73, 2) := by decide +kernel
theorem dX12_levelOf_88 : decode cX12_levelOf 88 = .ok (.if_icmp .ne 6, 3) := by decide +kernel
theorem dX12_levelOf_91 : decode cX12_levelOf 91 = .ok (.bipush 7, 2) := by decide +kernel
theorem dX12_levelOf_93 : decode cX12_levelOf 93 = .ok (.ireturn, 1) := by decide +kernel
theorem dX12_levelOf_94 : decode cX12_levelOf 94 = .ok (.iconst 0, 1) := by decide +kernel
theorem dX12_levelOf_95 : decode cX12_levelOf 95 = .ok (.ireturn, 1) := by decide +kernel
def wr_levelOf_58 (Q : Int → zS → Prop)  (s0 : zS) (x0 : Int) : Prop :=
  ((x0 = 21 → Q 6 s0) ∧ (¬ x0 = 21 → ((¬ x0 = 22 → ((x0 = 23 → Q 7 s0) ∧ (¬ x0 = 23 → ((x0 = 24 → Q 7 s0) ∧ (¬ x0 = 24 → ((¬ x0 = 73 → Q 0 s0) ∧ (x0 = 73 → Q 7 s0))))))) ∧ (x0 = 22 → Q 6 s0))))
def wr_levelOf (s0 : zS) (a0 : Int) (Q : Int → zS → Prop) : Prop :=
  ((a0 = 71 → Q 1 s0) ∧ (¬ a0 = 71 → ((¬ a0 = 72 → ((¬ a0 = 35 → ((¬ a0 = 34 → ((a0 = 31 → Q 4 s0) ∧ (¬ a0 = 31 → ((¬ a0 = 32 → ((a0 < 25 → wr_levelOf_58 Q  s0 a0) ∧ (¬ a0 < 25 → ((30 < a0 → wr_levelOf_58 Q  s0 a0) ∧ (¬ 30 < a0 → Q 5 s0))))) ∧ (a0 = 32 → Q 4 s0))))) ∧ (a0 = 34 → Q 3 s0))) ∧ (a0 = 35 → Q 2 s0))) ∧ (a0 = 72 → Q 1 s0))))
set_option maxHeartbeats 4000000 in
set_option maxRecDepth 100000 in
theorem rj_levelOf_58 {X : gX} {d : gD} {b t : Nat} {T : Nat → Nat} {F0 : gM} (hC : gC RX12 cX12_levelOf 1 (some .int) "levelOf" (gR 0 0 0) d b X) {Q : Int → zS → Prop}   {F : gM} {s0 : zS} {x0 : Int} (Rx0 : zR x0) (hZ : zZ d t T F0 F s0) (hw : wr_levelOf_58 Q  s0 x0) : gG X d b (zQi X d b t T F0 Q) F 0 0 58 [some (.int (zI x0))] [] := by
  unfold wr_levelOf_58 at hw
  refine g_iload_n hC dX12_levelOf_58 rfl ?_
  refine g_bipush (v := zI 21) hC dX12_levelOf_59 rfl ?_
  refine zr_icmp_eq (tgt := 70) hC Rx0 (by decide) dX12_levelOf_61 (by decide) (fun c1 => ?_) (fun c1 => ?_)
  · have h2 := hw.1 c1
    refine g_bipush (v := zI 6) hC dX12_levelOf_70 rfl ?_
    exact zr_iret hC hZ (by decide) h2 dX12_levelOf_72
  · have h3 := hw.2 c1
    refine g_iload_n hC dX12_levelOf_64 rfl ?_
    refine g_bipush (v := zI 22) hC dX12_levelOf_65 rfl ?_
    refine zr_icmp_ne (tgt := 73) hC Rx0 (by decide) dX12_levelOf_67 (by decide) (fun c4 => ?_) (fun c4 => ?_)
    · have h5 := h3.1 c4
      refine g_iload_n hC dX12_levelOf_73 rfl ?_
      refine g_bipush (v := zI 23) hC dX12_levelOf_74 rfl ?_
      refine zr_icmp_eq (tgt := 91) hC Rx0 (by decide) dX12_levelOf_76 (by decide) (fun c6 => ?_) (fun c6 => ?_)
      · have h7 := h5.1 c6
        refine g_bipush (v := zI 7) hC dX12_levelOf_91 rfl ?_
        exact zr_iret hC hZ (by decide) h7 dX12_levelOf_93
      · have h8 := h5.2 c6
        refine g_iload_n hC dX12_levelOf_79 rfl ?_
        refine g_bipush (v := zI 24) hC dX12_levelOf_80 rfl ?_
        refine zr_icmp_eq (tgt := 91) hC Rx0 (by decide) dX12_levelOf_82 (by decide) (fun c9 => ?_) (fun c9 => ?_)
        · have h10 := h8.1 c9
          refine g_bipush (v := zI 7) hC dX12_levelOf_91 rfl ?_
          exact zr_iret hC hZ (by decide) h10 dX12_levelOf_93
        · have h11 := h8.2 c9
          refine g_iload_n hC dX12_levelOf_85 rfl ?_
          refine g_bipush (v := zI 73) hC dX12_levelOf_86 rfl ?_
          refine zr_icmp_ne (tgt := 94) hC Rx0 (by decide) dX12_levelOf_88 (by decide) (fun c12 => ?_) (fun c12 => ?_)
          · have h13 := h11.1 c12
            refine g_iconst (v := zI 0) hC dX12_levelOf_94 rfl ?_
            exact zr_iret hC hZ (by decide) h13 dX12_levelOf_95
          · have h14 := h11.2 c12
            refine g_bipush (v := zI 7) hC dX12_levelOf_91 rfl ?_
            exact zr_iret hC hZ (by decide) h14 dX12_levelOf_93
    · have h15 := h3.2 c4
      refine g_bipush (v := zI 6) hC dX12_levelOf_70 rfl ?_
      exact zr_iret hC hZ (by decide) h15 dX12_levelOf_72
set_option maxHeartbeats 4000000 in
set_option maxRecDepth 100000 in
theorem rm_levelOf (l : Launch) (d : gD) (b : Nat) {t : Nat} {T : Nat → Nat} {F : gM} {s0 : zS} {a0 : Int} (Ra0 : zR a0) {Q : Int → zS → Prop} (hZ : zZ d t T F F s0) (hw : wr_levelOf s0 a0 Q) : gMi l d b yX12_levelOf cX12_levelOf 1 .int 0 0 0 F [.int (zI a0)] (zPi d t T F Q) := by
  refine gM_of2 rfl (nL := 1) (Nat.le_of_ble_eq_true rfl) ?_
  intro X hX hC; subst hX
  show gG X d b (zQi X d b t T F Q) F 0 0 0 [some (.int (zI a0))] []
  unfold wr_levelOf at hw
  refine g_iload_n hC dX12_levelOf_0 rfl ?_
  refine g_bipush (v := zI 71) hC dX12_levelOf_1 rfl ?_
  refine zr_icmp_eq (tgt := 12) hC Ra0 (by decide) dX12_levelOf_3 (by decide) (fun c1 => ?_) (fun c1 => ?_)
  · have h2 := hw.1 c1
    refine g_iconst (v := zI 1) hC dX12_levelOf_12 rfl ?_
    exact zr_iret hC hZ (by decide) h2 dX12_levelOf_13
  · have h3 := hw.2 c1
    refine g_iload_n hC dX12_levelOf_6 rfl ?_
    refine g_bipush (v := zI 72) hC dX12_levelOf_7 rfl ?_
    refine zr_icmp_ne (tgt := 14) hC Ra0 (by decide) dX12_levelOf_9 (by decide) (fun c4 => ?_) (fun c4 => ?_)
    · have h5 := h3.1 c4
      refine g_iload_n hC dX12_levelOf_14 rfl ?_
      refine g_bipush (v := zI 35) hC dX12_levelOf_15 rfl ?_
      refine zr_icmp_ne (tgt := 22) hC Ra0 (by decide) dX12_levelOf_17 (by decide) (fun c6 => ?_) (fun c6 => ?_)
      · have h7 := h5.1 c6
        refine g_iload_n hC dX12_levelOf_22 rfl ?_
        refine g_bipush (v := zI 34) hC dX12_levelOf_23 rfl ?_
        refine zr_icmp_ne (tgt := 30) hC Ra0 (by decide) dX12_levelOf_25 (by decide) (fun c8 => ?_) (fun c8 => ?_)
        · have h9 := h7.1 c8
          refine g_iload_n hC dX12_levelOf_30 rfl ?_
          refine g_bipush (v := zI 31) hC dX12_levelOf_31 rfl ?_
          refine zr_icmp_eq (tgt := 42) hC Ra0 (by decide) dX12_levelOf_33 (by decide) (fun c10 => ?_) (fun c10 => ?_)
          · have h11 := h9.1 c10
            refine g_iconst (v := zI 4) hC dX12_levelOf_42 rfl ?_
            exact zr_iret hC hZ (by decide) h11 dX12_levelOf_43
          · have h12 := h9.2 c10
            refine g_iload_n hC dX12_levelOf_36 rfl ?_
            refine g_bipush (v := zI 32) hC dX12_levelOf_37 rfl ?_
            refine zr_icmp_ne (tgt := 44) hC Ra0 (by decide) dX12_levelOf_39 (by decide) (fun c13 => ?_) (fun c13 => ?_)
            · have h14 := h12.1 c13
              refine g_iload_n hC dX12_levelOf_44 rfl ?_
              refine g_bipush (v := zI 25) hC dX12_levelOf_45 rfl ?_
              refine zr_icmp_lt (tgt := 58) hC Ra0 (by decide) dX12_levelOf_47 (by decide) (fun c15 => ?_) (fun c15 => ?_)
              · have h16 := h14.1 c15
                exact rj_levelOf_58 hC  Ra0 hZ h16
              · have h17 := h14.2 c15
                refine g_iload_n hC dX12_levelOf_50 rfl ?_
                refine g_bipush (v := zI 30) hC dX12_levelOf_51 rfl ?_
                refine zr_icmp_gt (tgt := 58) hC Ra0 (by decide) dX12_levelOf_53 (by decide) (fun c18 => ?_) (fun c18 => ?_)
                · have h19 := h17.1 c18
                  exact rj_levelOf_58 hC  Ra0 hZ h19
                · have h20 := h17.2 c18
                  refine g_iconst (v := zI 5) hC dX12_levelOf_56 rfl ?_
                  exact zr_iret hC hZ (by decide) h20 dX12_levelOf_57
            · have h21 := h12.2 c13
              refine g_iconst (v := zI 4) hC dX12_levelOf_42 rfl ?_
              exact zr_iret hC hZ (by decide) h21 dX12_levelOf_43
        · have h22 := h7.2 c8
          refine g_iconst (v := zI 3) hC dX12_levelOf_28 rfl ?_
          exact zr_iret hC hZ (by decide) h22 dX12_levelOf_29
      · have h23 := h5.2 c6
        refine g_iconst (v := zI 2) hC dX12_levelOf_20 rfl ?_
        exact zr_iret hC hZ (by decide) h23 dX12_levelOf_21
    · have h24 := h3.2 c4
      refine g_iconst (v := zI 1) hC dX12_levelOf_12 rfl ?_
      exact zr_iret hC hZ (by decide) h24 dX12_levelOf_13
theorem dX12_binary_0 : decode cX12_binary 0 = .ok (.aload_n 0, 1) := by decide +kernel
theorem dX12_binary_1 : decode cX12_binary 1 = .ok (.getfield 121, 3) := by decide +kernel
theorem dX12_binary_4 : decode cX12_binary 4 = .ok (.iload_n 3, 1) := by decide +kernel
theorem dX12_binary_5 : decode cX12_binary 5 = .ok (.iaload, 1) := by decide +kernel
theorem dX12_binary_6 : decode cX12_binary 6 = .ok (.istore 4, 2) := by decide +kernel
theorem dX12_binary_8 : decode cX12_binary 8 = .ok (.iload_n 1, 1) := by decide +kernel
theorem dX12_binary_9 : decode cX12_binary 9 = .ok (.iconst 5, 1) := by decide +kernel
theorem dX12_binary_10 : decode cX12_binary 10 = .ok (.if_icmp .ne 110, 3) := by decide +kernel
theorem dX12_binary_13 : decode cX12_binary 13 = .ok (.aload_n 0, 1) := by decide +kernel
theorem dX12_binary_14 : decode cX12_binary 14 = .ok (.getfield 121, 3) := by decide +kernel
theorem dX12_binary_17 : decode cX12_binary 17 = .ok (.aload_n 0, 1) := by decide +kernel
theorem dX12_binary_18 : decode cX12_binary 18 = .ok (.getfield 124, 3) := by decide +kernel
theorem dX12_binary_21 : decode cX12_binary 21 = .ok (.iconst 1, 1) := by decide +kernel
theorem dX12_binary_22 : decode cX12_binary 22 = .ok (.isub, 1) := by decide +kernel
theorem dX12_binary_23 : decode cX12_binary 23 = .ok (.iaload, 1) := by decide +kernel
theorem dX12_binary_24 : decode cX12_binary 24 = .ok (.istore 5, 2) := by decide +kernel
theorem dX12_binary_26 : decode cX12_binary 26 = .ok (.aload_n 0, 1) := by decide +kernel
theorem dX12_binary_27 : decode cX12_binary 27 = .ok (.getfield 111, 3) := by decide +kernel
theorem dX12_binary_30 : decode cX12_binary 30 = .ok (.iload 5, 2) := by decide +kernel
theorem dX12_binary_32 : decode cX12_binary 32 = .ok (.aload_n 0, 1) := by decide +kernel
theorem dX12_binary_33 : decode cX12_binary 33 = .ok (.getfield 39, 3) := by decide +kernel
theorem dX12_binary_36 : decode cX12_binary 36 = .ok (.iload_n 2, 1) := by decide +kernel
theorem dX12_binary_37 : decode cX12_binary 37 = .ok (.iaload, 1) := by decide +kernel
theorem dX12_binary_38 : decode cX12_binary 38 = .ok (.iastore, 1) := by decide +kernel
theorem dX12_binary_39 : decode cX12_binary 39 = .ok (.aload_n 0, 1) := by decide +kernel
theorem dX12_binary_40 : decode cX12_binary 40 = .ok (.getfield 87, 3) := by decide +kernel
theorem dX12_binary_43 : decode cX12_binary 43 = .ok (.iload 4, 2) := by decide +kernel
theorem dX12_binary_45 : decode cX12_binary 45 = .ok (.baload, 1) := by decide +kernel
theorem dX12_binary_46 : decode cX12_binary 46 = .ok (.bipush 11, 2) := by decide +kernel
theorem dX12_binary_48 : decode cX12_binary 48 = .ok (.if_icmp .ne 61, 3) := by decide +kernel
theorem dX12_binary_51 : decode cX12_binary 51 = .ok (.aload_n 0, 1) := by decide +kernel
theorem dX12_binary_52 : decode cX12_binary 52 = .ok (.getfield 117, 3) := by decide +kernel
theorem dX12_binary_55 : decode cX12_binary 55 = .ok (.iload 4, 2) := by decide +kernel
theorem dX12_binary_57 : decode cX12_binary 57 = .ok (.baload, 1) := by decide +kernel
theorem dX12_binary_58 : decode cX12_binary 58 = .ok (.ifCond .ne 51, 3) := by decide +kernel
theorem dX12_binary_61 : decode cX12_binary 61 = .ok (.aload_n 0, 1) := by decide +kernel
theorem dX12_binary_62 : decode cX12_binary 62 = .ok (.getfield 93, 3) := by decide +kernel
theorem dX12_binary_65 : decode cX12_binary 65 = .ok (.iload 4, 2) := by decide +kernel
theorem dX12_binary_67 : decode cX12_binary 67 = .ok (.iaload, 1) := by decide +kernel
theorem dX12_binary_68 : decode cX12_binary 68 = .ok (.istore 6, 2) := by decide +kernel
theorem dX12_binary_70 : decode cX12_binary 70 = .ok (.aload_n 0, 1) := by decide +kernel
theorem dX12_binary_71 : decode cX12_binary 71 = .ok (.getfield 96, 3) := by decide +kernel
theorem dX12_binary_74 : decode cX12_binary 74 = .ok (.iload 6, 2) := by decide +kernel
theorem dX12_binary_76 : decode cX12_binary 76 = .ok (.iaload, 1) := by decide +kernel
theorem dX12_binary_77 : decode cX12_binary 77 = .ok (.ifCond .lt 15, 3) := by decide +kernel
theorem dX12_binary_80 : decode cX12_binary 80 = .ok (.aload_n 0, 1) := by decide +kernel
theorem dX12_binary_81 : decode cX12_binary 81 = .ok (.getfield 96, 3) := by decide +kernel
theorem dX12_binary_84 : decode cX12_binary 84 = .ok (.iload 6, 2) := by decide +kernel
theorem dX12_binary_86 : decode cX12_binary 86 = .ok (.iaload, 1) := by decide +kernel
theorem dX12_binary_87 : decode cX12_binary 87 = .ok (.istore 6, 2) := by decide +kernel
theorem dX12_binary_89 : decode cX12_binary 89 = .ok (.goto (-19), 3) := by decide +kernel
theorem dX12_binary_92 : decode cX12_binary 92 = .ok (.aload_n 0, 1) := by decide +kernel
theorem dX12_binary_93 : decode cX12_binary 93 = .ok (.getfield 96, 3) := by decide +kernel
theorem dX12_binary_96 : decode cX12_binary 96 = .ok (.iload 6, 2) := by decide +kernel
theorem dX12_binary_98 : decode cX12_binary 98 = .ok (.iload 5, 2) := by decide +kernel
theorem dX12_binary_100 : decode cX12_binary 100 = .ok (.iastore, 1) := by decide +kernel
theorem dX12_binary_101 : decode cX12_binary 101 = .ok (.aload_n 0, 1) := by decide +kernel
theorem dX12_binary_102 : decode cX12_binary 102 = .ok (.iload_n 3, 1) := by decide +kernel
theorem dX12_binary_103 : decode cX12_binary 103 = .ok (.iconst 1, 1) := by decide +kernel
theorem dX12_binary_104 : decode cX12_binary 104 = .ok (.iadd, 1) := by decide +kernel
theorem dX12_binary_105 : decode cX12_binary 105 = .ok (.putfield 124, 3) := by decide +kernel
theorem dX12_binary_108 : decode cX12_binary 108 = .ok (.return_, 1) := by decide +kernel
theorem dX12_binary_109 : decode cX12_binary 109 = .ok (.aload_n 0, 1) := by decide +kernel
theorem dX12_binary_110 : decode cX12_binary 110 = .ok (.bipush 11, 2) := by decide +kernel
theorem dX12_binary_112 : decode cX12_binary 112 = .ok (.iload_n 2, 1) := by decide +kernel
theorem dX12_binary_113 : decode cX12_binary 113 = .ok (.iload_n 3, 1) := by decide +kernel
theorem dX12_binary_114 : decode cX12_binary 114 = .ok (.iconst 0, 1) := by decide +kernel
theorem dX12_binary_115 : decode cX12_binary 115 = .ok (.invokevirtual 542, 3) := by decide +kernel
theorem dX12_binary_118 : decode cX12_binary 118 = .ok (.pop, 1) := by decide +kernel
theorem dX12_binary_119 : decode cX12_binary 119 = .ok (.return_, 1) := by decide +kernel
theorem dX12_binary_120 : decode cX12_binary 120 = .ok (.aload_n 0, 1) := by decide +kernel
theorem dX12_binary_121 : decode cX12_binary 121 = .ok (.bipush 9, 2) := by decide +kernel
theorem dX12_binary_123 : decode cX12_binary 123 = .ok (.iload_n 2, 1) := by decide +kernel
theorem dX12_binary_124 : decode cX12_binary 124 = .ok (.iload_n 3, 1) := by decide +kernel
theorem dX12_binary_125 : decode cX12_binary 125 = .ok (.iconst 0, 1) := by decide +kernel
theorem dX12_binary_126 : decode cX12_binary 126 = .ok (.invokevirtual 542, 3) := by decide +kernel
theorem dX12_binary_129 : decode cX12_binary 129 = .ok (.istore 5, 2) := by decide +kernel
theorem dX12_binary_131 : decode cX12_binary 131 = .ok (.aload_n 0, 1) := by decide +kernel
theorem dX12_binary_132 : decode cX12_binary 132 = .ok (.getfield 99, 3) := by decide +kernel
theorem dX12_binary_135 : decode cX12_binary 135 = .ok (.iload 5, 2) := by decide +kernel
theorem dX12_binary_137 : decode cX12_binary 137 = .ok (.aload_n 0, 1) := by decide +kernel
theorem dX12_binary_138 : decode cX12_binary 138 = .ok (.getfield 39, 3) := by decide +kernel
theorem dX12_binary_141 : decode cX12_binary 141 = .ok (.iload_n 2, 1) := by decide +kernel
theorem dX12_binary_142 : decode cX12_binary 142 = .ok (.iaload, 1) := by decide +kernel
theorem dX12_binary_143 : decode cX12_binary 143 = .ok (.iastore, 1) := by decide +kernel
theorem dX12_binary_144 : decode cX12_binary 144 = .ok (.return_, 1) := by decide +kernel
def wr_binary_70B (Q : zS → Prop) (k70 : zS → Int → Int → Int → Prop) (s0 : zS) (x3 : Int) (x5 : Int) (x6 : Int) : Prop :=
  (0 ≤ x6) ∧ (x6 < 26000) ∧ (((za s0 28 (Int.toNat x6)) < 0 → (0 ≤ x6) ∧ (x6 < 26000) ∧ (zR (x3 + 1)) ∧ Q (zpv (zpa s0 28 (Int.toNat x6) x5) 37 (x3 + 1))) ∧ (¬ (za s0 28 (Int.toNat x6)) < 0 → (0 ≤ x6) ∧ (x6 < 26000) ∧ k70 s0 x3 x5 (za s0 28 (Int.toNat x6))))
def wr_binary_70 (Q : zS → Prop)  : Nat → zS → Int → Int → Int → Prop
  | 0 => fun _ _ _ _ => False
  | m + 1 => fun s0 x3 x5 x6 => wr_binary_70B Q  (wr_binary_70 Q  m) s0 x3 x5 x6
def wr_binary (s0 : zS) (a0 : Int) (a1 : Int) (a2 : Int) (Q : zS → Prop) : Prop :=
  (0 ≤ a2) ∧ (a2 < 26000) ∧ ((¬ a0 = 5 → wr_shut s0 9 a1 a2 0 (fun r7 s8 => (0 ≤ a1) ∧ (a1 < 12100) ∧ (0 ≤ r7) ∧ (r7 < 26000) ∧ Q (zpa s8 29 (Int.toNat r7) (za s8 9 (Int.toNat a1))))) ∧ (a0 = 5 → (0 ≤ ((zv s0 37) - 1)) ∧ (((zv s0 37) - 1) < 26000) ∧ (0 ≤ a1) ∧ (a1 < 12100) ∧ (0 ≤ (za s0 36 (Int.toNat ((zv s0 37) - 1)))) ∧ ((za s0 36 (Int.toNat ((zv s0 37) - 1))) < 26000) ∧ (0 ≤ (za s0 36 (Int.toNat a2))) ∧ ((za s0 36 (Int.toNat a2)) < 26000) ∧ ((¬ (za s0 25 (Int.toNat (za s0 36 (Int.toNat a2)))) = 11 → wr_shut (zpa s0 33 (Int.toNat (za s0 36 (Int.toNat ((zv s0 37) - 1)))) (za s0 9 (Int.toNat a1))) 11 a1 a2 0 (fun r44 s45 => Q s45)) ∧ ((za s0 25 (Int.toNat (za s0 36 (Int.toNat a2)))) = 11 → (0 ≤ (za s0 36 (Int.toNat a2))) ∧ ((za s0 36 (Int.toNat a2)) < 26000) ∧ ((¬ (za s0 35 (Int.toNat (za s0 36 (Int.toNat a2)))) = 0 → wr_shut (zpa s0 33 (Int.toNat (za s0 36 (Int.toNat ((zv s0 37) - 1)))) (za s0 9 (Int.toNat a1))) 11 a1 a2 0 (fun r57 s58 => Q s58)) ∧ ((za s0 35 (Int.toNat (za s0 36 (Int.toNat a2)))) = 0 → (0 ≤ (za s0 36 (Int.toNat a2))) ∧ ((za s0 36 (Int.toNat a2)) < 26000) ∧ ∃ n, wr_binary_70 Q  n (zpa s0 33 (Int.toNat (za s0 36 (Int.toNat ((zv s0 37) - 1)))) (za s0 9 (Int.toNat a1))) a2 (za s0 36 (Int.toNat ((zv s0 37) - 1))) (za s0 27 (Int.toNat (za s0 36 (Int.toNat a2))))))))))
set_option maxHeartbeats 4000000 in
set_option maxRecDepth 100000 in
theorem rb_binary_70 {X : gX} {d : gD} {b t : Nat} {T : Nat → Nat} {F0 : gM} (hC : gC RX12 cX12_binary 7 none "binary" (gR 2 0 0) d b X) {Q : zS → Prop} {k70 : zS → Int → Int → Int → Prop} (hk70 : ∀ (F : gM) (s0 : zS) (x3 : Int) (x5 : Int) (x6 : Int), zR x3 → zR x5 → zR x6 → zZ d t T F0 F s0 → k70 s0 x3 x5 x6 → gG X d b (zQv X d b t T F0 Q) F 0 0 70 [some (.ref t), none, none, some (.int (zI x3)), none, some (.int (zI x5)), some (.int (zI x6))] []) {F : gM} {s0 : zS} {x3 : Int} {x5 : Int} {x6 : Int} (Rx3 : zR x3) (Rx5 : zR x5) (Rx6 : zR x6) (hZ : zZ d t T F0 F s0) (hw : wr_binary_70B Q k70 s0 x3 x5 x6) : gG X d b (zQv X d b t T F0 Q) F 0 0 70 [some (.ref t), none, none, some (.int (zI x3)), none, some (.int (zI x5)), some (.int (zI x6))] [] := by
  unfold wr_binary_70B at hw
  refine g_aload_n hC dX12_binary_70 rfl ?_
  refine zr_geta hC hZ fl_X12_96 zb_28 (by decide) dX12_binary_71 ?_
  refine g_iload hC dX12_binary_74 rfl ?_
  obtain ⟨o1, h2⟩ := hw
  obtain ⟨o3, h4⟩ := h2
  refine zr_iald (v := (za s0 28 (Int.toNat x6))) hC hZ zk_28 zb_28 zn_28 (by decide) o1 o3 rfl dX12_binary_76 ?_
  refine zr_if_lt (tgt := 92) hC (hZ.ra 28 _) dX12_binary_77 (by decide) (fun c5 => ?_) (fun c5 => ?_)
  · have h6 := h4.1 c5
    refine g_aload_n hC dX12_binary_92 rfl ?_
    refine zr_geta hC hZ fl_X12_96 zb_28 (by decide) dX12_binary_93 ?_
    refine g_iload hC dX12_binary_96 rfl ?_
    refine g_iload hC dX12_binary_98 rfl ?_
    obtain ⟨o7, h8⟩ := h6
    obtain ⟨o9, h10⟩ := h8
    refine zr_iast hC hZ zk_28 zb_28 zn_28 (by decide) o7 o9 Rx5 dX12_binary_100 (fun F11 hZ12 => ?_)
    refine g_aload_n hC dX12_binary_101 rfl ?_
    refine g_iload_n hC dX12_binary_102 rfl ?_
    refine g_iconst (v := zI 1) hC dX12_binary_103 rfl ?_
    refine zr_iadd hC dX12_binary_104 ?_
    obtain ⟨o13, h14⟩ := h10
    refine zr_put hC hZ12 fl_X12_124 zb_37 (by decide) o13 dX12_binary_105 (fun F15 hZ16 => ?_)
    exact zr_vret hC hZ16 h14 dX12_binary_108
  · have h17 := h4.2 c5
    refine g_aload_n hC dX12_binary_80 rfl ?_
    refine zr_geta hC hZ fl_X12_96 zb_28 (by decide) dX12_binary_81 ?_
    refine g_iload hC dX12_binary_84 rfl ?_
    obtain ⟨o18, h19⟩ := h17
    obtain ⟨o20, h21⟩ := h19
    refine zr_iald (v := (za s0 28 (Int.toNat x6))) hC hZ zk_28 zb_28 zn_28 (by decide) o18 o20 rfl dX12_binary_86 ?_
    refine g_istore (lv' := [some (.ref t), none, none, some (.int (zI x3)), none, some (.int (zI x5)), some (.int (zI (za s0 28 (Int.toNat x6))))]) hC dX12_binary_87 (Nat.le_of_ble_eq_true rfl) rfl rfl ?_
    refine g_goto (tgt := 70) hC dX12_binary_89 (by decide) ?_
    exact hk70 _ _ _ _ _ Rx3 Rx5 (hZ.ra 28 _) hZ h21
theorem rl_binary_70 {X : gX} {d : gD} {b t : Nat} {T : Nat → Nat} {F0 : gM} (hC : gC RX12 cX12_binary 7 none "binary" (gR 2 0 0) d b X) {Q : zS → Prop}   : ∀ (m : Nat) (F : gM) (s0 : zS) (x3 : Int) (x5 : Int) (x6 : Int), zR x3 → zR x5 → zR x6 → zZ d t T F0 F s0 → wr_binary_70 Q  m s0 x3 x5 x6 → gG X d b (zQv X d b t T F0 Q) F 0 0 70 [some (.ref t), none, none, some (.int (zI x3)), none, some (.int (zI x5)), some (.int (zI x6))] [] := by
  intro m
  induction m with
  | zero => intro F s0 x3 x5 x6 Rx3 Rx5 Rx6 hZ hw; exact False.elim hw
  | succ m ih => intro F s0 x3 x5 x6 Rx3 Rx5 Rx6 hZ hw; exact rb_binary_70 hC  ih Rx3 Rx5 Rx6 hZ hw
set_option maxHeartbeats 4000000 in
set_option maxRecDepth 100000 in
theorem rm_binary (l : Launch) (d : gD) (b : Nat) {t : Nat} {T : Nat → Nat} {F : gM} {s0 : zS} {a0 : Int} {a1 : Int} {a2 : Int} (Ra0 : zR a0) (Ra1 : zR a1) (Ra2 : zR a2) {Q : zS → Prop} (hZ : zZ d t T F F s0) (hw : wr_binary s0 a0 a1 a2 Q) : gMv l d b yX12_binary cX12_binary 7 2 0 0 F [.ref t, .int (zI a0), .int (zI a1), .int (zI a2)] (zPv d t T F Q) := by
  refine gM_of2 rfl (nL := 7) (Nat.le_of_ble_eq_true rfl) ?_
  intro X hX hC; subst hX
  show gG X d b (zQv X d b t T F Q) F 0 0 0 [some (.ref t), some (.int (zI a0)), some (.int (zI a1)), some (.int (zI a2)), none, none, none] []
  unfold wr_binary at hw
  refine g_aload_n hC dX12_binary_0 rfl ?_
  refine zr_geta hC hZ fl_X12_121 zb_36 (by decide) dX12_binary_1 ?_
  refine g_iload_n hC dX12_binary_4 rfl ?_
  obtain ⟨o1, h2⟩ := hw
  obtain ⟨o3, h4⟩ := h2
  refine zr_iald (v := (za s0 36 (Int.toNat a2))) hC hZ zk_36 zb_36 zn_36 (by decide) o1 o3 rfl dX12_binary_5 ?_
  refine g_istore (lv' := [some (.ref t), some (.int (zI a0)), some (.int (zI a1)), some (.int (zI a2)), some (.int (zI (za s0 36 (Int.toNat a2)))), none, none]) hC dX12_binary_6 (Nat.le_of_ble_eq_true rfl) rfl rfl ?_
  refine g_iload_n hC dX12_binary_8 rfl ?_
  refine g_iconst (v := zI 5) hC dX12_binary_9 rfl ?_
  refine zr_icmp_ne (tgt := 120) hC Ra0 (by decide) dX12_binary_10 (by decide) (fun c5 => ?_) (fun c5 => ?_)
  · have h6 := h4.1 c5
    refine g_aload_n hC dX12_binary_120 rfl ?_
    refine g_bipush (v := zI 9) hC dX12_binary_121 rfl ?_
    refine g_iload_n hC dX12_binary_123 rfl ?_
    refine g_iload_n hC dX12_binary_124 rfl ?_
    refine g_iconst (v := zI 0) hC dX12_binary_125 rfl ?_
    refine zr_callVi (As := [.int (zI 9), .int (zI a1), .int (zI a2), .int (zI 0)]) hC hZ rfl (rm_shut X.la d b (by decide) Ra1 Ra2 (by decide) hZ.rf h6) cl_X12_542 rfl rfl (Nat.le_of_ble_eq_true rfl) ⟨Nat.le_of_ble_eq_true rfl, Nat.le_of_ble_eq_true rfl⟩ dX12_binary_126 (fun r7 s8 F9 R10 hZ11 h12 => ?_)
    refine g_istore (lv' := [some (.ref t), some (.int (zI a0)), some (.int (zI a1)), some (.int (zI a2)), some (.int (zI (za s0 36 (Int.toNat a2)))), some (.int (zI r7)), none]) hC dX12_binary_129 (Nat.le_of_ble_eq_true rfl) rfl rfl ?_
    refine g_aload_n hC dX12_binary_131 rfl ?_
    refine zr_geta hC hZ11 fl_X12_99 zb_29 (by decide) dX12_binary_132 ?_
    refine g_iload hC dX12_binary_135 rfl ?_
    refine g_aload_n hC dX12_binary_137 rfl ?_
    refine zr_geta hC hZ11 fl_X12_39 zb_9 (by decide) dX12_binary_138 ?_
    refine g_iload_n hC dX12_binary_141 rfl ?_
    obtain ⟨o13, h14⟩ := h12
    obtain ⟨o15, h16⟩ := h14
    refine zr_iald (v := (za s8 9 (Int.toNat a1))) hC hZ11 zk_9 zb_9 zn_9 (by decide) o13 o15 rfl dX12_binary_142 ?_
    obtain ⟨o17, h18⟩ := h16
    obtain ⟨o19, h20⟩ := h18
    refine zr_iast hC hZ11 zk_29 zb_29 zn_29 (by decide) o17 o19 (hZ11.ra 9 _) dX12_binary_143 (fun F21 hZ22 => ?_)
    exact zr_vret hC hZ22 h20 dX12_binary_144
  · have h23 := h4.2 c5
    refine g_aload_n hC dX12_binary_13 rfl ?_
    refine zr_geta hC hZ fl_X12_121 zb_36 (by decide) dX12_binary_14 ?_
    refine g_aload_n hC dX12_binary_17 rfl ?_
    refine zr_get (e := (zv s0 37)) hC hZ fl_X12_124 zb_37 (by decide) rfl dX12_binary_18 ?_
    refine g_iconst (v := zI 1) hC dX12_binary_21 rfl ?_
    refine zr_isub hC dX12_binary_22 ?_
    obtain ⟨o24, h25⟩ := h23
    obtain ⟨o26, h27⟩ := h25
    refine zr_iald (v := (za s0 36 (Int.toNat ((zv s0 37) - 1)))) hC hZ zk_36 zb_36 zn_36 (by decide) o24 o26 rfl dX12_binary_23 ?_
    refine g_istore (lv' := [some (.ref t), some (.int (zI a0)), some (.int (zI a1)), some (.int (zI a2)), some (.int (zI (za s0 36 (Int.toNat a2)))), some (.int (zI (za s0 36 (Int.toNat ((zv s0 37) - 1))))), none]) hC dX12_binary_24 (Nat.le_of_ble_eq_true rfl) rfl rfl ?_
    refine g_aload_n hC dX12_binary_26 rfl ?_
    refine zr_geta hC hZ fl_X12_111 zb_33 (by decide) dX12_binary_27 ?_
    refine g_iload hC dX12_binary_30 rfl ?_
    refine g_aload_n hC dX12_binary_32 rfl ?_
    refine zr_geta hC hZ fl_X12_39 zb_9 (by decide) dX12_binary_33 ?_
    refine g_iload_n hC dX12_binary_36 rfl ?_
    obtain ⟨o28, h29⟩ := h27
    obtain ⟨o30, h31⟩ := h29
    refine zr_iald (v := (za s0 9 (Int.toNat a1))) hC hZ zk_9 zb_9 zn_9 (by decide) o28 o30 rfl dX12_binary_37 ?_
    obtain ⟨o32, h33⟩ := h31
    obtain ⟨o34, h35⟩ := h33
    refine zr_iast hC hZ zk_33 zb_33 zn_33 (by decide) o32 o34 (hZ.ra 9 _) dX12_binary_38 (fun F36 hZ37 => ?_)
    refine g_aload_n hC dX12_binary_39 rfl ?_
    refine zr_geta hC hZ37 fl_X12_87 zb_25 (by decide) dX12_binary_40 ?_
    refine g_iload hC dX12_binary_43 rfl ?_
    obtain ⟨o38, h39⟩ := h35
    obtain ⟨o40, h41⟩ := h39
    refine zr_bald (v := (za s0 25 (Int.toNat (za s0 36 (Int.toNat a2))))) hC hZ37 zk_25 zb_25 zn_25 (by decide) o38 o40 rfl dX12_binary_45 ?_
    refine g_bipush (v := zI 11) hC dX12_binary_46 rfl ?_
    refine zr_icmp_ne (tgt := 109) hC (hZ.ra 25 _) (by decide) dX12_binary_48 (by decide) (fun c42 => ?_) (fun c42 => ?_)
    · have h43 := h41.1 c42
      refine g_aload_n hC dX12_binary_109 rfl ?_
      refine g_bipush (v := zI 11) hC dX12_binary_110 rfl ?_
      refine g_iload_n hC dX12_binary_112 rfl ?_
      refine g_iload_n hC dX12_binary_113 rfl ?_
      refine g_iconst (v := zI 0) hC dX12_binary_114 rfl ?_
      refine zr_callVi (As := [.int (zI 11), .int (zI a1), .int (zI a2), .int (zI 0)]) hC hZ37 rfl (rm_shut X.la d b (by decide) Ra1 Ra2 (by decide) hZ37.rf h43) cl_X12_542 rfl rfl (Nat.le_of_ble_eq_true rfl) ⟨Nat.le_of_ble_eq_true rfl, Nat.le_of_ble_eq_true rfl⟩ dX12_binary_115 (fun r44 s45 F46 R47 hZ48 h49 => ?_)
      refine g_pop hC dX12_binary_118 rfl ?_
      exact zr_vret hC hZ48 h49 dX12_binary_119
    · have h50 := h41.2 c42
      refine g_aload_n hC dX12_binary_51 rfl ?_
      refine zr_geta hC hZ37 fl_X12_117 zb_35 (by decide) dX12_binary_52 ?_
      refine g_iload hC dX12_binary_55 rfl ?_
      obtain ⟨o51, h52⟩ := h50
      obtain ⟨o53, h54⟩ := h52
      refine zr_zald (v := (za s0 35 (Int.toNat (za s0 36 (Int.toNat a2))))) hC hZ37 zk_35 zb_35 zn_35 (by decide) o51 o53 rfl dX12_binary_57 ?_
      refine zr_if_ne (tgt := 109) hC (hZ.ra 35 _) dX12_binary_58 (by decide) (fun c55 => ?_) (fun c55 => ?_)
      · have h56 := h54.1 c55
        refine g_aload_n hC dX12_binary_109 rfl ?_
        refine g_bipush (v := zI 11) hC dX12_binary_110 rfl ?_
        refine g_iload_n hC dX12_binary_112 rfl ?_
        refine g_iload_n hC dX12_binary_113 rfl ?_
        refine g_iconst (v := zI 0) hC dX12_binary_114 rfl ?_
        refine zr_callVi (As := [.int (zI 11), .int (zI a1), .int (zI a2), .int (zI 0)]) hC hZ37 rfl (rm_shut X.la d b (by decide) Ra1 Ra2 (by decide) hZ37.rf h56) cl_X12_542 rfl rfl (Nat.le_of_ble_eq_true rfl) ⟨Nat.le_of_ble_eq_true rfl, Nat.le_of_ble_eq_true rfl⟩ dX12_binary_115 (fun r57 s58 F59 R60 hZ61 h62 => ?_)
        refine g_pop hC dX12_binary_118 rfl ?_
        exact zr_vret hC hZ61 h62 dX12_binary_119
      · have h63 := h54.2 c55
        refine g_aload_n hC dX12_binary_61 rfl ?_
        refine zr_geta hC hZ37 fl_X12_93 zb_27 (by decide) dX12_binary_62 ?_
        refine g_iload hC dX12_binary_65 rfl ?_
        obtain ⟨o64, h65⟩ := h63
        obtain ⟨o66, h67⟩ := h65
        refine zr_iald (v := (za s0 27 (Int.toNat (za s0 36 (Int.toNat a2))))) hC hZ37 zk_27 zb_27 zn_27 (by decide) o64 o66 rfl dX12_binary_67 ?_
        refine g_istore (lv' := [some (.ref t), some (.int (zI a0)), some (.int (zI a1)), some (.int (zI a2)), some (.int (zI (za s0 36 (Int.toNat a2)))), some (.int (zI (za s0 36 (Int.toNat ((zv s0 37) - 1))))), some (.int (zI (za s0 27 (Int.toNat (za s0 36 (Int.toNat a2))))))]) hC dX12_binary_68 (Nat.le_of_ble_eq_true rfl) rfl rfl ?_
        refine g_lv (lv' := [some (.ref t), none, none, some (.int (zI a2)), none, some (.int (zI (za s0 36 (Int.toNat ((zv s0 37) - 1))))), some (.int (zI (za s0 27 (Int.toNat (za s0 36 (Int.toNat a2))))))]) ⟨rfl, rfl, rfl, rfl, trivial⟩ ?_
        obtain ⟨m68, h69⟩ := h67
        exact rl_binary_70 hC  m68 _ _ _ _ _ Ra2 (hZ.ra 36 _) (hZ.ra 27 _) hZ37 h69
theorem dX12_calls_0 : decode cX12_calls 0 = .ok (.iload_n 1, 1) := by decide +kernel
theorem dX12_calls_1 : decode cX12_calls 1 = .ok (.iconst 1, 1) := by decide +kernel
theorem dX12_calls_2 : decode cX12_calls 2 = .ok (.if_icmp .ne 34, 3) := by decide +kernel
theorem dX12_calls_5 : decode cX12_calls 5 = .ok (.aload_n 0, 1) := by decide +kernel
theorem dX12_calls_6 : decode cX12_calls 6 = .ok (.getfield 39, 3) := by decide +kernel
theorem dX12_calls_9 : decode cX12_calls 9 = .ok (.iload_n 2, 1) := by decide +kernel
theorem dX12_calls_10 : decode cX12_calls 10 = .ok (.iaload, 1) := by decide +kernel
theorem dX12_calls_11 : decode cX12_calls 11 = .ok (.istore 4, 2) := by decide +kernel
theorem dX12_calls_13 : decode cX12_calls 13 = .ok (.aload_n 0, 1) := by decide +kernel
theorem dX12_calls_14 : decode cX12_calls 14 = .ok (.bipush 10, 2) := by decide +kernel
theorem dX12_calls_16 : decode cX12_calls 16 = .ok (.iload_n 2, 1) := by decide +kernel
theorem dX12_calls_17 : decode cX12_calls 17 = .ok (.iload_n 3, 1) := by decide +kernel
theorem dX12_calls_18 : decode cX12_calls 18 = .ok (.iload 4, 2) := by decide +kernel
theorem dX12_calls_20 : decode cX12_calls 20 = .ok (.invokevirtual 542, 3) := by decide +kernel
theorem dX12_calls_23 : decode cX12_calls 23 = .ok (.istore 5, 2) := by decide +kernel
theorem dX12_calls_25 : decode cX12_calls 25 = .ok (.aload_n 0, 1) := by decide +kernel
theorem dX12_calls_26 : decode cX12_calls 26 = .ok (.getfield 99, 3) := by decide +kernel
theorem dX12_calls_29 : decode cX12_calls 29 = .ok (.iload 5, 2) := by decide +kernel
theorem dX12_calls_31 : decode cX12_calls 31 = .ok (.iload 4, 2) := by decide +kernel
theorem dX12_calls_33 : decode cX12_calls 33 = .ok (.iastore, 1) := by decide +kernel
theorem dX12_calls_34 : decode cX12_calls 34 = .ok (.iconst 1, 1) := by decide +kernel
theorem dX12_calls_35 : decode cX12_calls 35 = .ok (.ireturn, 1) := by decide +kernel
theorem dX12_calls_36 : decode cX12_calls 36 = .ok (.aload_n 0, 1) := by decide +kernel
theorem dX12_calls_37 : decode cX12_calls 37 = .ok (.invokevirtual 526, 3) := by decide +kernel
theorem dX12_calls_40 : decode cX12_calls 40 = .ok (.bipush 12, 2) := by decide +kernel
theorem dX12_calls_42 : decode cX12_calls 42 = .ok (.if_icmp .eq 5, 3) := by decide +kernel
theorem dX12_calls_45 : decode cX12_calls 45 = .ok (.iconst 1, 1) := by decide +kernel
theorem dX12_calls_46 : decode cX12_calls 46 = .ok (.ireturn, 1) := by decide +kernel
theorem dX12_calls_47 : decode cX12_calls 47 = .ok (.aload_n 0, 1) := by decide +kernel
theorem dX12_calls_48 : decode cX12_calls 48 = .ok (.getfield 142, 3) := by decide +kernel
theorem dX12_calls_51 : decode cX12_calls 51 = .ok (.istore 4, 2) := by decide +kernel
theorem dX12_calls_53 : decode cX12_calls 53 = .ok (.aload_n 0, 1) := by decide +kernel
theorem dX12_calls_54 : decode cX12_calls 54 = .ok (.invokevirtual 530, 3) := by decide +kernel
theorem dX12_calls_57 : decode cX12_calls 57 = .ok (.ifCond .ne 5, 3) := by decide +kernel
theorem dX12_calls_60 : decode cX12_calls 60 = .ok (.iconst 0, 1) := by decide +kernel
theorem dX12_calls_61 : decode cX12_calls 61 = .ok (.ireturn, 1) := by decide +kernel
theorem dX12_calls_62 : decode cX12_calls 62 = .ok (.aload_n 0, 1) := by decide +kernel
theorem dX12_calls_63 : decode cX12_calls 63 = .ok (.dup, 1) := by decide +kernel
theorem dX12_calls_64 : decode cX12_calls 64 = .ok (.getfield 142, 3) := by decide +kernel
theorem dX12_calls_67 : decode cX12_calls 67 = .ok (.iconst 1, 1) := by decide +kernel
theorem dX12_calls_68 : decode cX12_calls 68 = .ok (.iadd, 1) := by decide +kernel
theorem dX12_calls_69 : decode cX12_calls 69 = .ok (.putfield 142, 3) := by decide +kernel
theorem dX12_calls_72 : decode cX12_calls 72 = .ok (.aload_n 0, 1) := by decide +kernel
theorem dX12_calls_73 : decode cX12_calls 73 = .ok (.bipush 13, 2) := by decide +kernel
theorem dX12_calls_75 : decode cX12_calls 75 = .ok (.invokevirtual 549, 3) := by decide +kernel
theorem dX12_calls_78 : decode cX12_calls 78 = .ok (.ifCond .eq 25, 3) := by decide +kernel
theorem dX12_calls_81 : decode cX12_calls 81 = .ok (.aload_n 0, 1) := by decide +kernel
theorem dX12_calls_82 : decode cX12_calls 82 = .ok (.bipush 6, 2) := by decide +kernel
theorem dX12_calls_84 : decode cX12_calls 84 = .ok (.iload 4, 2) := by decide +kernel
theorem dX12_calls_86 : decode cX12_calls 86 = .ok (.iload_n 3, 1) := by decide +kernel
theorem dX12_calls_87 : decode cX12_calls 87 = .ok (.iconst 0, 1) := by decide +kernel
theorem dX12_calls_88 : decode cX12_calls 88 = .ok (.invokevirtual 542, 3) := by decide +kernel
theorem dX12_calls_91 : decode cX12_calls 91 = .ok (.pop, 1) := by decide +kernel
theorem dX12_calls_92 : decode cX12_calls 92 = .ok (.aload_n 0, 1) := by decide +kernel
theorem dX12_calls_93 : decode cX12_calls 93 = .ok (.bipush 37, 2) := by decide +kernel
theorem dX12_calls_95 : decode cX12_calls 95 = .ok (.iconst 0, 1) := by decide +kernel
theorem dX12_calls_96 : decode cX12_calls 96 = .ok (.iconst 0, 1) := by decide +kernel
theorem dX12_calls_97 : decode cX12_calls 97 = .ok (.iload_n 3, 1) := by decide +kernel
theorem dX12_calls_98 : decode cX12_calls 98 = .ok (.invokevirtual 534, 3) := by decide +kernel
theorem dX12_calls_101 : decode cX12_calls 101 = .ok (.iconst 1, 1) := by decide +kernel
theorem dX12_calls_102 : decode cX12_calls 102 = .ok (.ireturn, 1) := by decide +kernel
theorem dX12_calls_103 : decode cX12_calls 103 = .ok (.aload_n 0, 1) := by decide +kernel
theorem dX12_calls_104 : decode cX12_calls 104 = .ok (.bipush 38, 2) := by decide +kernel
theorem dX12_calls_106 : decode cX12_calls 106 = .ok (.iconst 1, 1) := by decide +kernel
theorem dX12_calls_107 : decode cX12_calls 107 = .ok (.iload 4, 2) := by decide +kernel
theorem dX12_calls_109 : decode cX12_calls 109 = .ok (.iload_n 3, 1) := by decide +kernel
theorem dX12_calls_110 : decode cX12_calls 110 = .ok (.invokevirtual 534, 3) := by decide +kernel
theorem dX12_calls_113 : decode cX12_calls 113 = .ok (.aload_n 0, 1) := by decide +kernel
theorem dX12_calls_114 : decode cX12_calls 114 = .ok (.bipush 28, 2) := by decide +kernel
theorem dX12_calls_116 : decode cX12_calls 116 = .ok (.iconst 0, 1) := by decide +kernel
theorem dX12_calls_117 : decode cX12_calls 117 = .ok (.iconst 0, 1) := by decide +kernel
theorem dX12_calls_118 : decode cX12_calls 118 = .ok (.iconst 0, 1) := by decide +kernel
theorem dX12_calls_119 : decode cX12_calls 119 = .ok (.invokevirtual 534, 3) := by decide +kernel
theorem dX12_calls_122 : decode cX12_calls 122 = .ok (.iconst 1, 1) := by decide +kernel
theorem dX12_calls_123 : decode cX12_calls 123 = .ok (.ireturn, 1) := by decide +kernel
def wr_calls (s0 : zS) (a0 : Int) (a1 : Int) (a2 : Int) (Q : Int → zS → Prop) : Prop :=
  ((¬ a0 = 1 → wr_tk s0  (fun r3 s4 => ((r3 = 12 → wr_deeper s4  (fun r11 s12 => ((¬ r11 = 0 → (zR ((zv s12 43) + 1)) ∧ wr_take (zpv s12 43 ((zv s12 43) + 1)) 13 (fun r23 s24 => ((r23 = 0 → wr_goal s24 38 1 (zv s4 43) a2 (fun s32 => wr_goal s32 28 0 0 0 (fun s38 => Q 1 s38))) ∧ (¬ r23 = 0 → wr_shut s24 6 (zv s4 43) a2 0 (fun r44 s45 => wr_goal s45 37 0 0 a2 (fun s51 => Q 1 s51)))))) ∧ (r11 = 0 → Q 0 s12)))) ∧ (¬ r3 = 12 → Q 1 s4)))) ∧ (a0 = 1 → (0 ≤ a1) ∧ (a1 < 12100) ∧ wr_shut s0 10 a1 a2 (za s0 9 (Int.toNat a1)) (fun r63 s64 => (0 ≤ r63) ∧ (r63 < 26000) ∧ Q 1 (zpa s64 29 (Int.toNat r63) (za s0 9 (Int.toNat a1))))))
set_option maxHeartbeats 4000000 in
set_option maxRecDepth 100000 in
theorem rm_calls (l : Launch) (d : gD) (b : Nat) {t : Nat} {T : Nat → Nat} {F : gM} {s0 : zS} {a0 : Int} {a1 : Int} {a2 : Int} (Ra0 : zR a0) (Ra1 : zR a1) (Ra2 : zR a2) {Q : Int → zS → Prop} (hZ : zZ d t T F F s0) (hw : wr_calls s0 a0 a1 a2 Q) : gMi l d b yX12_calls cX12_calls 6 .boolean 2 0 0 F [.ref t, .int (zI a0), .int (zI a1), .int (zI a2)] (zPi d t T F Q) := by
  refine gM_of2 rfl (nL := 6) (Nat.le_of_ble_eq_true rfl) ?_
  intro X hX hC; subst hX
  show gG X d b (zQi X d b t T F Q) F 0 0 0 [some (.ref t), some (.int (zI a0)), some (.int (zI a1)), some (.int (zI a2)), none, none] []
  unfold wr_calls at hw
  refine g_iload_n hC dX12_calls_0 rfl ?_
  refine g_iconst (v := zI 1) hC dX12_calls_1 rfl ?_
  refine zr_icmp_ne (tgt := 36) hC Ra0 (by decide) dX12_calls_2 (by decide) (fun c1 => ?_) (fun c1 => ?_)
  · have h2 := hw.1 c1
    refine g_aload_n hC dX12_calls_36 rfl ?_
    refine zr_callVi (As := []) hC hZ rfl (rm_tk X.la d b  hZ.rf h2) cl_X12_526 rfl rfl (Nat.le_of_ble_eq_true rfl) ⟨Nat.le_of_ble_eq_true rfl, Nat.le_of_ble_eq_true rfl⟩ dX12_calls_37 (fun r3 s4 F5 R6 hZ7 h8 => ?_)
    refine g_bipush (v := zI 12) hC dX12_calls_40 rfl ?_
    refine zr_icmp_eq (tgt := 47) hC R6 (by decide) dX12_calls_42 (by decide) (fun c9 => ?_) (fun c9 => ?_)
    · have h10 := h8.1 c9
      refine g_aload_n hC dX12_calls_47 rfl ?_
      refine zr_get (e := (zv s4 43)) hC hZ7 fl_X12_142 zb_43 (by decide) rfl dX12_calls_48 ?_
      refine g_istore (lv' := [some (.ref t), some (.int (zI a0)), some (.int (zI a1)), some (.int (zI a2)), some (.int (zI (zv s4 43))), none]) hC dX12_calls_51 (Nat.le_of_ble_eq_true rfl) rfl rfl ?_
      refine g_aload_n hC dX12_calls_53 rfl ?_
      refine zr_callVi (As := []) hC hZ7 rfl (rm_deeper X.la d b  hZ7.rf h10) cl_X12_530 rfl rfl (Nat.le_of_ble_eq_true rfl) ⟨Nat.le_of_ble_eq_true rfl, Nat.le_of_ble_eq_true rfl⟩ dX12_calls_54 (fun r11 s12 F13 R14 hZ15 h16 => ?_)
      refine zr_if_ne (tgt := 62) hC R14 dX12_calls_57 (by decide) (fun c17 => ?_) (fun c17 => ?_)
      · have h18 := h16.1 c17
        refine g_aload_n hC dX12_calls_62 rfl ?_
        refine g_dup hC dX12_calls_63 rfl ?_
        refine zr_get (e := (zv s12 43)) hC hZ15 fl_X12_142 zb_43 (by decide) rfl dX12_calls_64 ?_
        refine g_iconst (v := zI 1) hC dX12_calls_67 rfl ?_
        refine zr_iadd hC dX12_calls_68 ?_
        obtain ⟨o19, h20⟩ := h18
        refine zr_put hC hZ15 fl_X12_142 zb_43 (by decide) o19 dX12_calls_69 (fun F21 hZ22 => ?_)
        refine g_aload_n hC dX12_calls_72 rfl ?_
        refine g_bipush (v := zI 13) hC dX12_calls_73 rfl ?_
        refine zr_callVi (As := [.int (zI 13)]) hC hZ22 rfl (rm_take X.la d b (by decide) hZ22.rf h20) cl_X12_549 rfl rfl (Nat.le_of_ble_eq_true rfl) ⟨Nat.le_of_ble_eq_true rfl, Nat.le_of_ble_eq_true rfl⟩ dX12_calls_75 (fun r23 s24 F25 R26 hZ27 h28 => ?_)
        refine zr_if_eq (tgt := 103) hC R26 dX12_calls_78 (by decide) (fun c29 => ?_) (fun c29 => ?_)
        · have h30 := h28.1 c29
          refine g_aload_n hC dX12_calls_103 rfl ?_
          refine g_bipush (v := zI 38) hC dX12_calls_104 rfl ?_
          refine g_iconst (v := zI 1) hC dX12_calls_106 rfl ?_
          refine g_iload hC dX12_calls_107 rfl ?_
          refine g_iload_n hC dX12_calls_109 rfl ?_
          refine zr_callVv (As := [.int (zI 38), .int (zI 1), .int (zI (zv s4 43)), .int (zI a2)]) hC hZ27 rfl (rm_goal X.la d b (by decide) (by decide) (hZ7.rv 43) Ra2 hZ27.rf h30) cl_X12_534 rfl rfl (Nat.le_of_ble_eq_true rfl) ⟨Nat.le_of_ble_eq_true rfl, Nat.le_of_ble_eq_true rfl⟩ dX12_calls_110 (fun s32 F33 hZ35 h36 => ?_)
          refine g_aload_n hC dX12_calls_113 rfl ?_
          refine g_bipush (v := zI 28) hC dX12_calls_114 rfl ?_
          refine g_iconst (v := zI 0) hC dX12_calls_116 rfl ?_
          refine g_iconst (v := zI 0) hC dX12_calls_117 rfl ?_
          refine g_iconst (v := zI 0) hC dX12_calls_118 rfl ?_
          refine zr_callVv (As := [.int (zI 28), .int (zI 0), .int (zI 0), .int (zI 0)]) hC hZ35 rfl (rm_goal X.la d b (by decide) (by decide) (by decide) (by decide) hZ35.rf h36) cl_X12_534 rfl rfl (Nat.le_of_ble_eq_true rfl) ⟨Nat.le_of_ble_eq_true rfl, Nat.le_of_ble_eq_true rfl⟩ dX12_calls_119 (fun s38 F39 hZ41 h42 => ?_)
          refine g_iconst (v := zI 1) hC dX12_calls_122 rfl ?_
          exact zr_zret hC hZ41 (Or.inr rfl) h42 dX12_calls_123
        · have h43 := h28.2 c29
          refine g_aload_n hC dX12_calls_81 rfl ?_
          refine g_bipush (v := zI 6) hC dX12_calls_82 rfl ?_
          refine g_iload hC dX12_calls_84 rfl ?_
          refine g_iload_n hC dX12_calls_86 rfl ?_
          refine g_iconst (v := zI 0) hC dX12_calls_87 rfl ?_
          refine zr_callVi (As := [.int (zI 6), .int (zI (zv s4 43)), .int (zI a2), .int (zI 0)]) hC hZ27 rfl (rm_shut X.la d b (by decide) (hZ7.rv 43) Ra2 (by decide) hZ27.rf h43) cl_X12_542 rfl rfl (Nat.le_of_ble_eq_true rfl) ⟨Nat.le_of_ble_eq_true rfl, Nat.le_of_ble_eq_true rfl⟩ dX12_calls_88 (fun r44 s45 F46 R47 hZ48 h49 => ?_)
          refine g_pop hC dX12_calls_91 rfl ?_
          refine g_aload_n hC dX12_calls_92 rfl ?_
          refine g_bipush (v := zI 37) hC dX12_calls_93 rfl ?_
          refine g_iconst (v := zI 0) hC dX12_calls_95 rfl ?_
          refine g_iconst (v := zI 0) hC dX12_calls_96 rfl ?_
          refine g_iload_n hC dX12_calls_97 rfl ?_
          refine zr_callVv (As := [.int (zI 37), .int (zI 0), .int (zI 0), .int (zI a2)]) hC hZ48 rfl (rm_goal X.la d b (by decide) (by decide) (by decide) Ra2 hZ48.rf h49) cl_X12_534 rfl rfl (Nat.le_of_ble_eq_true rfl) ⟨Nat.le_of_ble_eq_true rfl, Nat.le_of_ble_eq_true rfl⟩ dX12_calls_98 (fun s51 F52 hZ54 h55 => ?_)
          refine g_iconst (v := zI 1) hC dX12_calls_101 rfl ?_
          exact zr_zret hC hZ54 (Or.inr rfl) h55 dX12_calls_102
      · have h56 := h16.2 c17
        refine g_iconst (v := zI 0) hC dX12_calls_60 rfl ?_
        exact zr_zret hC hZ15 (Or.inl rfl) h56 dX12_calls_61
    · have h57 := h8.2 c9
      refine g_iconst (v := zI 1) hC dX12_calls_45 rfl ?_
      exact zr_zret hC hZ7 (Or.inr rfl) h57 dX12_calls_46
  · have h58 := hw.2 c1
    refine g_aload_n hC dX12_calls_5 rfl ?_
    refine zr_geta hC hZ fl_X12_39 zb_9 (by decide) dX12_calls_6 ?_
    refine g_iload_n hC dX12_calls_9 rfl ?_
    obtain ⟨o59, h60⟩ := h58
    obtain ⟨o61, h62⟩ := h60
    refine zr_iald (v := (za s0 9 (Int.toNat a1))) hC hZ zk_9 zb_9 zn_9 (by decide) o59 o61 rfl dX12_calls_10 ?_
    refine g_istore (lv' := [some (.ref t), some (.int (zI a0)), some (.int (zI a1)), some (.int (zI a2)), some (.int (zI (za s0 9 (Int.toNat a1)))), none]) hC dX12_calls_11 (Nat.le_of_ble_eq_true rfl) rfl rfl ?_
    refine g_aload_n hC dX12_calls_13 rfl ?_
    refine g_bipush (v := zI 10) hC dX12_calls_14 rfl ?_
    refine g_iload_n hC dX12_calls_16 rfl ?_
    refine g_iload_n hC dX12_calls_17 rfl ?_
    refine g_iload hC dX12_calls_18 rfl ?_
    refine zr_callVi (As := [.int (zI 10), .int (zI a1), .int (zI a2), .int (zI (za s0 9 (Int.toNat a1)))]) hC hZ rfl (rm_shut X.la d b (by decide) Ra1 Ra2 (hZ.ra 9 _) hZ.rf h62) cl_X12_542 rfl rfl (Nat.le_of_ble_eq_true rfl) ⟨Nat.le_of_ble_eq_true rfl, Nat.le_of_ble_eq_true rfl⟩ dX12_calls_20 (fun r63 s64 F65 R66 hZ67 h68 => ?_)
    refine g_istore (lv' := [some (.ref t), some (.int (zI a0)), some (.int (zI a1)), some (.int (zI a2)), some (.int (zI (za s0 9 (Int.toNat a1)))), some (.int (zI r63))]) hC dX12_calls_23 (Nat.le_of_ble_eq_true rfl) rfl rfl ?_
    refine g_aload_n hC dX12_calls_25 rfl ?_
    refine zr_geta hC hZ67 fl_X12_99 zb_29 (by decide) dX12_calls_26 ?_
    refine g_iload hC dX12_calls_29 rfl ?_
    refine g_iload hC dX12_calls_31 rfl ?_
    obtain ⟨o69, h70⟩ := h68
    obtain ⟨o71, h72⟩ := h70
    refine zr_iast hC hZ67 zk_29 zb_29 zn_29 (by decide) o69 o71 (hZ.ra 9 _) dX12_calls_33 (fun F73 hZ74 => ?_)
    refine g_iconst (v := zI 1) hC dX12_calls_34 rfl ?_
    exact zr_zret hC hZ74 (Or.inr rfl) h72 dX12_calls_35
theorem dX12_primary_0 : decode cX12_primary 0 = .ok (.iload_n 1, 1) := by decide +kernel
theorem dX12_primary_1 : decode cX12_primary 1 = .ok (.iconst 1, 1) := by decide +kernel
theorem dX12_primary_2 : decode cX12_primary 2 = .ok (.if_icmp .ne 18, 3) := by decide +kernel
theorem dX12_primary_5 : decode cX12_primary 5 = .ok (.aload_n 0, 1) := by decide +kernel
theorem dX12_primary_6 : decode cX12_primary 6 = .ok (.iconst 1, 1) := by decide +kernel
theorem dX12_primary_7 : decode cX12_primary 7 = .ok (.iload_n 2, 1) := by decide +kernel
theorem dX12_primary_8 : decode cX12_primary 8 = .ok (.aload_n 0, 1) := by decide +kernel
theorem dX12_primary_9 : decode cX12_primary 9 = .ok (.getfield 45, 3) := by decide +kernel
theorem dX12_primary_12 : decode cX12_primary 12 = .ok (.iload_n 2, 1) := by decide +kernel
theorem dX12_primary_13 : decode cX12_primary 13 = .ok (.iaload, 1) := by decide +kernel
theorem dX12_primary_14 : decode cX12_primary 14 = .ok (.invokevirtual 570, 3) := by decide +kernel
theorem dX12_primary_17 : decode cX12_primary 17 = .ok (.goto 224, 3) := by decide +kernel
theorem dX12_primary_20 : decode cX12_primary 20 = .ok (.iload_n 1, 1) := by decide +kernel
theorem dX12_primary_21 : decode cX12_primary 21 = .ok (.iconst 2, 1) := by decide +kernel
theorem dX12_primary_22 : decode cX12_primary 22 = .ok (.if_icmp .ne 18, 3) := by decide +kernel
theorem dX12_primary_25 : decode cX12_primary 25 = .ok (.aload_n 0, 1) := by decide +kernel
theorem dX12_primary_26 : decode cX12_primary 26 = .ok (.iconst 2, 1) := by decide +kernel
theorem dX12_primary_27 : decode cX12_primary 27 = .ok (.iload_n 2, 1) := by decide +kernel
theorem dX12_primary_28 : decode cX12_primary 28 = .ok (.aload_n 0, 1) := by decide +kernel
theorem dX12_primary_29 : decode cX12_primary 29 = .ok (.getfield 45, 3) := by decide +kernel
theorem dX12_primary_32 : decode cX12_primary 32 = .ok (.iload_n 2, 1) := by decide +kernel
theorem dX12_primary_33 : decode cX12_primary 33 = .ok (.iaload, 1) := by decide +kernel
theorem dX12_primary_34 : decode cX12_primary 34 = .ok (.invokevirtual 570, 3) := by decide +kernel
theorem dX12_primary_37 : decode cX12_primary 37 = .ok (.goto 204, 3) := by decide +kernel
theorem dX12_primary_40 : decode cX12_primary 40 = .ok (.iload_n 1, 1) := by decide +kernel
theorem dX12_primary_41 : decode cX12_primary 41 = .ok (.iconst 4, 1) := by decide +kernel
theorem dX12_primary_42 : decode cX12_primary 42 = .ok (.if_icmp .ne 18, 3) := by decide +kernel
theorem dX12_primary_45 : decode cX12_primary 45 = .ok (.aload_n 0, 1) := by decide +kernel
theorem dX12_primary_46 : decode cX12_primary 46 = .ok (.iconst 3, 1) := by decide +kernel
theorem dX12_primary_47 : decode cX12_primary 47 = .ok (.iload_n 2, 1) := by decide +kernel
theorem dX12_primary_48 : decode cX12_primary 48 = .ok (.aload_n 0, 1) := by decide +kernel
theorem dX12_primary_49 : decode cX12_primary 49 = .ok (.getfield 45, 3) := by decide +kernel
theorem dX12_primary_52 : decode cX12_primary 52 = .ok (.iload_n 2, 1) := by decide +kernel
theorem dX12_primary_53 : decode cX12_primary 53 = .ok (.iaload, 1) := by decide +kernel
theorem dX12_primary_54 : decode cX12_primary 54 = .ok (.invokevirtual 570, 3) := by decide +kernel
theorem dX12_primary_57 : decode cX12_primary 57 = .ok (.goto 184, 3) := by decide +kernel
theorem dX12_primary_60 : decode cX12_primary 60 = .ok (.iload_n 1, 1) := by decide +kernel
theorem dX12_primary_61 : decode cX12_primary 61 = .ok (.bipush 74, 2) := by decide +kernel
theorem dX12_primary_63 : decode cX12_primary 63 = .ok (.if_icmp .ne 13, 3) := by decide +kernel
theorem dX12_primary_66 : decode cX12_primary 66 = .ok (.aload_n 0, 1) := by decide +kernel
theorem dX12_primary_67 : decode cX12_primary 67 = .ok (.iconst 2, 1) := by decide +kernel
theorem dX12_primary_68 : decode cX12_primary 68 = .ok (.iload_n 2, 1) := by decide +kernel
theorem dX12_primary_69 : decode cX12_primary 69 = .ok (.iconst (-1), 1) := by decide +kernel
theorem dX12_primary_70 : decode cX12_primary 70 = .ok (.invokevirtual 570, 3) := by decide +kernel
theorem dX12_primary_73 : decode cX12_primary 73 = .ok (.goto 168, 3) := by decide +kernel
theorem dX12_primary_76 : decode cX12_primary 76 = .ok (.iload_n 1, 1) := by decide +kernel
theorem dX12_primary_77 : decode cX12_primary 77 = .ok (.bipush 75, 2) := by decide +kernel
theorem dX12_primary_79 : decode cX12_primary 79 = .ok (.if_icmp .ne 13, 3) := by decide +kernel
theorem dX12_primary_82 : decode cX12_primary 82 = .ok (.aload_n 0, 1) := by decide +kernel
theorem dX12_primary_83 : decode cX12_primary 83 = .ok (.iconst 2, 1) := by decide +kernel
theorem dX12_primary_84 : decode cX12_primary 84 = .ok (.iload_n 2, 1) := by decide +kernel
theorem dX12_primary_85 : decode cX12_primary 85 = .ok (.iconst 0, 1) := by decide +kernel
theorem dX12_primary_86 : decode cX12_primary 86 = .ok (.invokevirtual 570, 3) := by decide +kernel
theorem dX12_primary_89 : decode cX12_primary 89 = .ok (.goto 152, 3) := by decide +kernel
theorem dX12_primary_92 : decode cX12_primary 92 = .ok (.iload_n 1, 1) := by decide +kernel
theorem dX12_primary_93 : decode cX12_primary 93 = .ok (.bipush 12, 2) := by decide +kernel
theorem dX12_primary_95 : decode cX12_primary 95 = .ok (.if_icmp .ne 38, 3) := by decide +kernel
theorem dX12_primary_98 : decode cX12_primary 98 = .ok (.aload_n 0, 1) := by decide +kernel
theorem dX12_primary_99 : decode cX12_primary 99 = .ok (.getfield 145, 3) := by decide +kernel
theorem dX12_primary_102 : decode cX12_primary 102 = .ok (.istore_n 3, 1) := by decide +kernel
theorem dX12_primary_103 : decode cX12_primary 103 = .ok (.aload_n 0, 1) := by decide +kernel
theorem dX12_primary_104 : decode cX12_primary 104 = .ok (.invokevirtual 530, 3) := by decide +kernel
theorem dX12_primary_107 : decode cX12_primary 107 = .ok (.ifCond .ne 5, 3) := by decide +kernel
theorem dX12_primary_110 : decode cX12_primary 110 = .ok (.iconst 0, 1) := by decide +kernel
theorem dX12_primary_111 : decode cX12_primary 111 = .ok (.ireturn, 1) := by decide +kernel
theorem dX12_primary_112 : decode cX12_primary 112 = .ok (.aload_n 0, 1) := by decide +kernel
theorem dX12_primary_113 : decode cX12_primary 113 = .ok (.bipush 39, 2) := by decide +kernel
theorem dX12_primary_115 : decode cX12_primary 115 = .ok (.iconst 1, 1) := by decide +kernel
theorem dX12_primary_116 : decode cX12_primary 116 = .ok (.iload_n 2, 1) := by decide +kernel
theorem dX12_primary_117 : decode cX12_primary 117 = .ok (.iload_n 3, 1) := by decide +kernel
theorem dX12_primary_118 : decode cX12_primary 118 = .ok (.invokevirtual 534, 3) := by decide +kernel
theorem dX12_primary_121 : decode cX12_primary 121 = .ok (.aload_n 0, 1) := by decide +kernel
theorem dX12_primary_122 : decode cX12_primary 122 = .ok (.bipush 28, 2) := by decide +kernel
theorem dX12_primary_124 : decode cX12_primary 124 = .ok (.iconst 0, 1) := by decide +kernel
theorem dX12_primary_125 : decode cX12_primary 125 = .ok (.iconst 0, 1) := by decide +kernel
theorem dX12_primary_126 : decode cX12_primary 126 = .ok (.iconst 0, 1) := by decide +kernel
theorem dX12_primary_127 : decode cX12_primary 127 = .ok (.invokevirtual 534, 3) := by decide +kernel
theorem dX12_primary_130 : decode cX12_primary 130 = .ok (.goto 111, 3) := by decide +kernel
theorem dX12_primary_133 : decode cX12_primary 133 = .ok (.iload_n 1, 1) := by decide +kernel
theorem dX12_primary_134 : decode cX12_primary 134 = .ok (.bipush 76, 2) := by decide +kernel
theorem dX12_primary_136 : decode cX12_primary 136 = .ok (.if_icmp .ne 50, 3) := by decide +kernel
theorem dX12_primary_139 : decode cX12_primary 139 = .ok (.aload_n 0, 1) := by decide +kernel
theorem dX12_primary_140 : decode cX12_primary 140 = .ok (.getfield 145, 3) := by decide +kernel
theorem dX12_primary_143 : decode cX12_primary 143 = .ok (.istore_n 3, 1) := by decide +kernel
theorem dX12_primary_144 : decode cX12_primary 144 = .ok (.aload_n 0, 1) := by decide +kernel
theorem dX12_primary_145 : decode cX12_primary 145 = .ok (.invokevirtual 530, 3) := by decide +kernel
theorem dX12_primary_148 : decode cX12_primary 148 = .ok (.ifCond .ne 5, 3) := by decide +kernel
theorem dX12_primary_151 : decode cX12_primary 151 = .ok (.iconst 0, 1) := by decide +kernel
theorem dX12_primary_152 : decode cX12_primary 152 = .ok (.ireturn, 1) := by decide +kernel
theorem dX12_primary_153 : decode cX12_primary 153 = .ok (.aload_n 0, 1) := by decide +kernel
theorem dX12_primary_154 : decode cX12_primary 154 = .ok (.bipush 15, 2) := by decide +kernel
theorem dX12_primary_156 : decode cX12_primary 156 = .ok (.iload_n 3, 1) := by decide +kernel
theorem dX12_primary_157 : decode cX12_primary 157 = .ok (.iconst 0, 1) := by decide +kernel
theorem dX12_primary_158 : decode cX12_primary 158 = .ok (.iconst 0, 1) := by decide +kernel
theorem dX12_primary_159 : decode cX12_primary 159 = .ok (.invokevirtual 534, 3) := by decide +kernel
theorem dX12_primary_162 : decode cX12_primary 162 = .ok (.aload_n 0, 1) := by decide +kernel
theorem dX12_primary_163 : decode cX12_primary 163 = .ok (.bipush 6, 2) := by decide +kernel
theorem dX12_primary_165 : decode cX12_primary 165 = .ok (.iconst 4, 1) := by decide +kernel
theorem dX12_primary_166 : decode cX12_primary 166 = .ok (.iload_n 2, 1) := by decide +kernel
theorem dX12_primary_167 : decode cX12_primary 167 = .ok (.aload_n 0, 1) := by decide +kernel
theorem dX12_primary_168 : decode cX12_primary 168 = .ok (.getfield 124, 3) := by decide +kernel
theorem dX12_primary_171 : decode cX12_primary 171 = .ok (.invokevirtual 534, 3) := by decide +kernel
theorem dX12_primary_174 : decode cX12_primary 174 = .ok (.aload_n 0, 1) := by decide +kernel
theorem dX12_primary_175 : decode cX12_primary 175 = .ok (.bipush 11, 2) := by decide +kernel
theorem dX12_primary_177 : decode cX12_primary 177 = .ok (.iconst 0, 1) := by decide +kernel
theorem dX12_primary_178 : decode cX12_primary 178 = .ok (.iconst 0, 1) := by decide +kernel
theorem dX12_primary_179 : decode cX12_primary 179 = .ok (.iconst 0, 1) := by decide +kernel
theorem dX12_primary_180 : decode cX12_primary 180 = .ok (.invokevirtual 534, 3) := by decide +kernel
theorem dX12_primary_183 : decode cX12_primary 183 = .ok (.goto 58, 3) := by decide +kernel
theorem dX12_primary_186 : decode cX12_primary 186 = .ok (.iload_n 1, 1) := by decide +kernel
theorem dX12_primary_187 : decode cX12_primary 187 = .ok (.bipush 77, 2) := by decide +kernel
theorem dX12_primary_189 : decode cX12_primary 189 = .ok (.if_icmp .ne 50, 3) := by decide +kernel
theorem dX12_primary_192 : decode cX12_primary 192 = .ok (.aload_n 0, 1) := by decide +kernel
theorem dX12_primary_193 : decode cX12_primary 193 = .ok (.getfield 145, 3) := by decide +kernel
theorem dX12_primary_196 : decode cX12_primary 196 = .ok (.istore_n 3, 1) := by decide +kernel
theorem dX12_primary_197 : decode cX12_primary 197 = .ok (.aload_n 0, 1) := by decide +kernel
theorem dX12_primary_198 : decode cX12_primary 198 = .ok (.invokevirtual 530, 3) := by decide +kernel
theorem dX12_primary_201 : decode cX12_primary 201 = .ok (.ifCond .ne 5, 3) := by decide +kernel
theorem dX12_primary_204 : decode cX12_primary 204 = .ok (.iconst 0, 1) := by decide +kernel
theorem dX12_primary_205 : decode cX12_primary 205 = .ok (.ireturn, 1) := by decide +kernel
theorem dX12_primary_206 : decode cX12_primary 206 = .ok (.aload_n 0, 1) := by decide +kernel
theorem dX12_primary_207 : decode cX12_primary 207 = .ok (.bipush 15, 2) := by decide +kernel
theorem dX12_primary_209 : decode cX12_primary 209 = .ok (.iload_n 3, 1) := by decide +kernel
theorem dX12_primary_210 : decode cX12_primary 210 = .ok (.iconst 0, 1) := by decide +kernel
theorem dX12_primary_211 : decode cX12_primary 211 = .ok (.iconst 0, 1) := by decide +kernel
theorem dX12_primary_212 : decode cX12_primary 212 = .ok (.invokevirtual 534, 3) := by decide +kernel
theorem dX12_primary_215 : decode cX12_primary 215 = .ok (.aload_n 0, 1) := by decide +kernel
theorem dX12_primary_216 : decode cX12_primary 216 = .ok (.bipush 40, 2) := by decide +kernel
theorem dX12_primary_218 : decode cX12_primary 218 = .ok (.iconst 0, 1) := by decide +kernel
theorem dX12_primary_219 : decode cX12_primary 219 = .ok (.iload_n 2, 1) := by decide +kernel
theorem dX12_primary_220 : decode cX12_primary 220 = .ok (.aload_n 0, 1) := by decide +kernel
theorem dX12_primary_221 : decode cX12_primary 221 = .ok (.getfield 124, 3) := by decide +kernel
theorem dX12_primary_224 : decode cX12_primary 224 = .ok (.invokevirtual 534, 3) := by decide +kernel
theorem dX12_primary_227 : decode cX12_primary 227 = .ok (.aload_n 0, 1) := by decide +kernel
theorem dX12_primary_228 : decode cX12_primary 228 = .ok (.bipush 28, 2) := by decide +kernel
theorem dX12_primary_230 : decode cX12_primary 230 = .ok (.iconst 0, 1) := by decide +kernel
theorem dX12_primary_231 : decode cX12_primary 231 = .ok (.iconst 0, 1) := by decide +kernel
theorem dX12_primary_232 : decode cX12_primary 232 = .ok (.iconst 0, 1) := by decide +kernel
theorem dX12_primary_233 : decode cX12_primary 233 = .ok (.invokevirtual 534, 3) := by decide +kernel
theorem dX12_primary_236 : decode cX12_primary 236 = .ok (.goto 5, 3) := by decide +kernel
theorem dX12_primary_239 : decode cX12_primary 239 = .ok (.iconst 0, 1) := by decide +kernel
theorem dX12_primary_240 : decode cX12_primary 240 = .ok (.ireturn, 1) := by decide +kernel
theorem dX12_primary_241 : decode cX12_primary 241 = .ok (.aload_n 0, 1) := by decide +kernel
theorem dX12_primary_242 : decode cX12_primary 242 = .ok (.dup, 1) := by decide +kernel
theorem dX12_primary_243 : decode cX12_primary 243 = .ok (.getfield 142, 3) := by decide +kernel
theorem dX12_primary_246 : decode cX12_primary 246 = .ok (.iconst 1, 1) := by decide +kernel
theorem dX12_primary_247 : decode cX12_primary 247 = .ok (.iadd, 1) := by decide +kernel
theorem dX12_primary_248 : decode cX12_primary 248 = .ok (.putfield 142, 3) := by decide +kernel
theorem dX12_primary_251 : decode cX12_primary 251 = .ok (.iconst 1, 1) := by decide +kernel
theorem dX12_primary_252 : decode cX12_primary 252 = .ok (.ireturn, 1) := by decide +kernel
def wr_primary_241 (Q : Int → zS → Prop)  (s0 : zS)  : Prop :=
  (zR ((zv s0 43) + 1)) ∧ Q 1 (zpv s0 43 ((zv s0 43) + 1))
def wr_primary (s0 : zS) (a0 : Int) (a1 : Int) (Q : Int → zS → Prop) : Prop :=
  ((¬ a0 = 1 → ((¬ a0 = 2 → ((¬ a0 = 4 → ((¬ a0 = 74 → ((¬ a0 = 75 → ((¬ a0 = 12 → ((¬ a0 = 76 → ((¬ a0 = 77 → Q 0 s0) ∧ (a0 = 77 → wr_deeper s0  (fun r18 s19 => ((¬ r18 = 0 → wr_goal s19 15 (zv s0 44) 0 0 (fun s27 => wr_goal s27 40 0 a1 (zv s27 37) (fun s33 => wr_goal s33 28 0 0 0 (fun s39 => wr_primary_241 Q  s39 )))) ∧ (r18 = 0 → Q 0 s19)))))) ∧ (a0 = 76 → wr_deeper s0  (fun r46 s47 => ((¬ r46 = 0 → wr_goal s47 15 (zv s0 44) 0 0 (fun s55 => wr_goal s55 6 4 a1 (zv s55 37) (fun s61 => wr_goal s61 11 0 0 0 (fun s67 => wr_primary_241 Q  s67 )))) ∧ (r46 = 0 → Q 0 s47)))))) ∧ (a0 = 12 → wr_deeper s0  (fun r74 s75 => ((¬ r74 = 0 → wr_goal s75 39 1 a1 (zv s0 44) (fun s83 => wr_goal s83 28 0 0 0 (fun s89 => wr_primary_241 Q  s89 ))) ∧ (r74 = 0 → Q 0 s75)))))) ∧ (a0 = 75 → wr_leaf s0 2 a1 0 (fun s97 => wr_primary_241 Q  s97 )))) ∧ (a0 = 74 → wr_leaf s0 2 a1 (-1) (fun s104 => wr_primary_241 Q  s104 )))) ∧ (a0 = 4 → (0 ≤ a1) ∧ (a1 < 12100) ∧ wr_leaf s0 3 a1 (za s0 11 (Int.toNat a1)) (fun s115 => wr_primary_241 Q  s115 )))) ∧ (a0 = 2 → (0 ≤ a1) ∧ (a1 < 12100) ∧ wr_leaf s0 2 a1 (za s0 11 (Int.toNat a1)) (fun s126 => wr_primary_241 Q  s126 )))) ∧ (a0 = 1 → (0 ≤ a1) ∧ (a1 < 12100) ∧ wr_leaf s0 1 a1 (za s0 11 (Int.toNat a1)) (fun s137 => wr_primary_241 Q  s137 )))
set_option maxHeartbeats 4000000 in
set_option maxRecDepth 100000 in
theorem rj_primary_241 {X : gX} {d : gD} {b t : Nat} {T : Nat → Nat} {F0 : gM} (hC : gC RX12 cX12_primary 4 (some .boolean) "primary" (gR 2 0 0) d b X) {Q : Int → zS → Prop}   {F : gM} {s0 : zS}   (hZ : zZ d t T F0 F s0) (hw : wr_primary_241 Q  s0 ) : gG X d b (zQi X d b t T F0 Q) F 0 0 241 [some (.ref t), none, none, none] [] := by
  unfold wr_primary_241 at hw
  refine g_aload_n hC dX12_primary_241 rfl ?_
  refine g_dup hC dX12_primary_242 rfl ?_
  refine zr_get (e := (zv s0 43)) hC hZ fl_X12_142 zb_43 (by decide) rfl dX12_primary_243 ?_
  refine g_iconst (v := zI 1) hC dX12_primary_246 rfl ?_
  refine zr_iadd hC dX12_primary_247 ?_
  obtain ⟨o1, h2⟩ := hw
  refine zr_put hC hZ fl_X12_142 zb_43 (by decide) o1 dX12_primary_248 (fun F3 hZ4 => ?_)
  refine g_iconst (v := zI 1) hC dX12_primary_251 rfl ?_
  exact zr_zret hC hZ4 (Or.inr rfl) h2 dX12_primary_252
set_option maxHeartbeats 4000000 in
set_option maxRecDepth 100000 in
theorem rm_primary (l : Launch) (d : gD) (b : Nat) {t : Nat} {T : Nat → Nat} {F : gM} {s0 : zS} {a0 : Int} {a1 : Int} (Ra0 : zR a0) (Ra1 : zR a1) {Q : Int → zS → Prop} (hZ : zZ d t T F F s0) (hw : wr_primary s0 a0 a1 Q) : gMi l d b yX12_primary cX12_primary 4 .boolean 2 0 0 F [.ref t, .int (zI a0), .int (zI a1)] (zPi d t T F Q) := by
  refine gM_of2 rfl (nL := 4) (Nat.le_of_ble_eq_true rfl) ?_
  intro X hX hC; subst hX
  show gG X d b (zQi X d b t T F Q) F 0 0 0 [some (.ref t), some (.int (zI a0)), some (.int (zI a1)), none] []
  unfold wr_primary at hw
  refine g_iload_n hC dX12_primary_0 rfl ?_
  refine g_iconst (v := zI 1) hC dX12_primary_1 rfl ?_
  refine zr_icmp_ne (tgt := 20) hC Ra0 (by decide) dX12_primary_2 (by decide) (fun c1 => ?_) (fun c1 => ?_)
  · have h2 := hw.1 c1
    refine g_iload_n hC dX12_primary_20 rfl ?_
    refine g_iconst (v := zI 2) hC dX12_primary_21 rfl ?_
    refine zr_icmp_ne (tgt := 40) hC Ra0 (by decide) dX12_primary_22 (by decide) (fun c3 => ?_) (fun c3 => ?_)
    · have h4 := h2.1 c3
      refine g_iload_n hC dX12_primary_40 rfl ?_
      refine g_iconst (v := zI 4) hC dX12_primary_41 rfl ?_
      refine zr_icmp_ne (tgt := 60) hC Ra0 (by decide) dX12_primary_42 (by decide) (fun c5 => ?_) (fun c5 => ?_)
      · have h6 := h4.1 c5
        refine g_iload_n hC dX12_primary_60 rfl ?_
        refine g_bipush (v := zI 74) hC dX12_primary_61 rfl ?_
        refine zr_icmp_ne (tgt := 76) hC Ra0 (by decide) dX12_primary_63 (by decide) (fun c7 => ?_) (fun c7 => ?_)
        · have h8 := h6.1 c7
          refine g_iload_n hC dX12_primary_76 rfl ?_
          refine g_bipush (v := zI 75) hC dX12_primary_77 rfl ?_
          refine zr_icmp_ne (tgt := 92) hC Ra0 (by decide) dX12_primary_79 (by decide) (fun c9 => ?_) (fun c9 => ?_)
          · have h10 := h8.1 c9
            refine g_iload_n hC dX12_primary_92 rfl ?_
            refine g_bipush (v := zI 12) hC dX12_primary_93 rfl ?_
            refine zr_icmp_ne (tgt := 133) hC Ra0 (by decide) dX12_primary_95 (by decide) (fun c11 => ?_) (fun c11 => ?_)
            · have h12 := h10.1 c11
              refine g_iload_n hC dX12_primary_133 rfl ?_
              refine g_bipush (v := zI 76) hC dX12_primary_134 rfl ?_
              refine zr_icmp_ne (tgt := 186) hC Ra0 (by decide) dX12_primary_136 (by decide) (fun c13 => ?_) (fun c13 => ?_)
              · have h14 := h12.1 c13
                refine g_iload_n hC dX12_primary_186 rfl ?_
                refine g_bipush (v := zI 77) hC dX12_primary_187 rfl ?_
                refine zr_icmp_ne (tgt := 239) hC Ra0 (by decide) dX12_primary_189 (by decide) (fun c15 => ?_) (fun c15 => ?_)
                · have h16 := h14.1 c15
                  refine g_iconst (v := zI 0) hC dX12_primary_239 rfl ?_
                  exact zr_zret hC hZ (Or.inl rfl) h16 dX12_primary_240
                · have h17 := h14.2 c15
                  refine g_aload_n hC dX12_primary_192 rfl ?_
                  refine zr_get (e := (zv s0 44)) hC hZ fl_X12_145 zb_44 (by decide) rfl dX12_primary_193 ?_
                  refine g_istore_n (lv' := [some (.ref t), some (.int (zI a0)), some (.int (zI a1)), some (.int (zI (zv s0 44)))]) hC dX12_primary_196 (Nat.le_of_ble_eq_true rfl) rfl rfl ?_
                  refine g_aload_n hC dX12_primary_197 rfl ?_
                  refine zr_callVi (As := []) hC hZ rfl (rm_deeper X.la d b  hZ.rf h17) cl_X12_530 rfl rfl (Nat.le_of_ble_eq_true rfl) ⟨Nat.le_of_ble_eq_true rfl, Nat.le_of_ble_eq_true rfl⟩ dX12_primary_198 (fun r18 s19 F20 R21 hZ22 h23 => ?_)
                  refine zr_if_ne (tgt := 206) hC R21 dX12_primary_201 (by decide) (fun c24 => ?_) (fun c24 => ?_)
                  · have h25 := h23.1 c24
                    refine g_aload_n hC dX12_primary_206 rfl ?_
                    refine g_bipush (v := zI 15) hC dX12_primary_207 rfl ?_
                    refine g_iload_n hC dX12_primary_209 rfl ?_
                    refine g_iconst (v := zI 0) hC dX12_primary_210 rfl ?_
                    refine g_iconst (v := zI 0) hC dX12_primary_211 rfl ?_
                    refine zr_callVv (As := [.int (zI 15), .int (zI (zv s0 44)), .int (zI 0), .int (zI 0)]) hC hZ22 rfl (rm_goal X.la d b (by decide) (hZ.rv 44) (by decide) (by decide) hZ22.rf h25) cl_X12_534 rfl rfl (Nat.le_of_ble_eq_true rfl) ⟨Nat.le_of_ble_eq_true rfl, Nat.le_of_ble_eq_true rfl⟩ dX12_primary_212 (fun s27 F28 hZ30 h31 => ?_)
                    refine g_aload_n hC dX12_primary_215 rfl ?_
                    refine g_bipush (v := zI 40) hC dX12_primary_216 rfl ?_
                    refine g_iconst (v := zI 0) hC dX12_primary_218 rfl ?_
                    refine g_iload_n hC dX12_primary_219 rfl ?_
                    refine g_aload_n hC dX12_primary_220 rfl ?_
                    refine zr_get (e := (zv s27 37)) hC hZ30 fl_X12_124 zb_37 (by decide) rfl dX12_primary_221 ?_
                    refine zr_callVv (As := [.int (zI 40), .int (zI 0), .int (zI a1), .int (zI (zv s27 37))]) hC hZ30 rfl (rm_goal X.la d b (by decide) (by decide) Ra1 (hZ30.rv 37) hZ30.rf h31) cl_X12_534 rfl rfl (Nat.le_of_ble_eq_true rfl) ⟨Nat.le_of_ble_eq_true rfl, Nat.le_of_ble_eq_true rfl⟩ dX12_primary_224 (fun s33 F34 hZ36 h37 => ?_)
                    refine g_aload_n hC dX12_primary_227 rfl ?_
                    refine g_bipush (v := zI 28) hC dX12_primary_228 rfl ?_
                    refine g_iconst (v := zI 0) hC dX12_primary_230 rfl ?_
                    refine g_iconst (v := zI 0) hC dX12_primary_231 rfl ?_
                    refine g_iconst (v := zI 0) hC dX12_primary_232 rfl ?_
                    refine zr_callVv (As := [.int (zI 28), .int (zI 0), .int (zI 0), .int (zI 0)]) hC hZ36 rfl (rm_goal X.la d b (by decide) (by decide) (by decide) (by decide) hZ36.rf h37) cl_X12_534 rfl rfl (Nat.le_of_ble_eq_true rfl) ⟨Nat.le_of_ble_eq_true rfl, Nat.le_of_ble_eq_true rfl⟩ dX12_primary_233 (fun s39 F40 hZ42 h43 => ?_)
                    refine g_goto (tgt := 241) hC dX12_primary_236 (by decide) ?_
                    refine g_lv (lv' := [some (.ref t), none, none, none]) ⟨rfl, trivial⟩ ?_
                    exact rj_primary_241 hC   hZ42 h43
                  · have h44 := h23.2 c24
                    refine g_iconst (v := zI 0) hC dX12_primary_204 rfl ?_
                    exact zr_zret hC hZ22 (Or.inl rfl) h44 dX12_primary_205
              · have h45 := h12.2 c13
                refine g_aload_n hC dX12_primary_139 rfl ?_
                refine zr_get (e := (zv s0 44)) hC hZ fl_X12_145 zb_44 (by decide) rfl dX12_primary_140 ?_
                refine g_istore_n (lv' := [some (.ref t), some (.int (zI a0)), some (.int (zI a1)), some (.int (zI (zv s0 44)))]) hC dX12_primary_143 (Nat.le_of_ble_eq_true rfl) rfl rfl ?_
                refine g_aload_n hC dX12_primary_144 rfl ?_
                refine zr_callVi (As := []) hC hZ rfl (rm_deeper X.la d b  hZ.rf h45) cl_X12_530 rfl rfl (Nat.le_of_ble_eq_true rfl) ⟨Nat.le_of_ble_eq_true rfl, Nat.le_of_ble_eq_true rfl⟩ dX12_primary_145 (fun r46 s47 F48 R49 hZ50 h51 => ?_)
                refine zr_if_ne (tgt := 153) hC R49 dX12_primary_148 (by decide) (fun c52 => ?_) (fun c52 => ?_)
                · have h53 := h51.1 c52
                  refine g_aload_n hC dX12_primary_153 rfl ?_
                  refine g_bipush (v := zI 15) hC dX12_primary_154 rfl ?_
                  refine g_iload_n hC dX12_primary_156 rfl ?_
                  refine g_iconst (v := zI 0) hC dX12_primary_157 rfl ?_
                  refine g_iconst (v := zI 0) hC dX12_primary_158 rfl ?_
                  refine zr_callVv (As := [.int (zI 15), .int (zI (zv s0 44)), .int (zI 0), .int (zI 0)]) hC hZ50 rfl (rm_goal X.la d b (by decide) (hZ.rv 44) (by decide) (by decide) hZ50.rf h53) cl_X12_534 rfl rfl (Nat.le_of_ble_eq_true rfl) ⟨Nat.le_of_ble_eq_true rfl, Nat.le_of_ble_eq_true rfl⟩ dX12_primary_159 (fun s55 F56 hZ58 h59 => ?_)
                  refine g_aload_n hC dX12_primary_162 rfl ?_
                  refine g_bipush (v := zI 6) hC dX12_primary_163 rfl ?_
                  refine g_iconst (v := zI 4) hC dX12_primary_165 rfl ?_
                  refine g_iload_n hC dX12_primary_166 rfl ?_
                  refine g_aload_n hC dX12_primary_167 rfl ?_
                  refine zr_get (e := (zv s55 37)) hC hZ58 fl_X12_124 zb_37 (by decide) rfl dX12_primary_168 ?_
                  refine zr_callVv (As := [.int (zI 6), .int (zI 4), .int (zI a1), .int (zI (zv s55 37))]) hC hZ58 rfl (rm_goal X.la d b (by decide) (by decide) Ra1 (hZ58.rv 37) hZ58.rf h59) cl_X12_534 rfl rfl (Nat.le_of_ble_eq_true rfl) ⟨Nat.le_of_ble_eq_true rfl, Nat.le_of_ble_eq_true rfl⟩ dX12_primary_171 (fun s61 F62 hZ64 h65 => ?_)
                  refine g_aload_n hC dX12_primary_174 rfl ?_
                  refine g_bipush (v := zI 11) hC dX12_primary_175 rfl ?_
                  refine g_iconst (v := zI 0) hC dX12_primary_177 rfl ?_
                  refine g_iconst (v := zI 0) hC dX12_primary_178 rfl ?_
                  refine g_iconst (v := zI 0) hC dX12_primary_179 rfl ?_
                  refine zr_callVv (As := [.int (zI 11), .int (zI 0), .int (zI 0), .int (zI 0)]) hC hZ64 rfl (rm_goal X.la d b (by decide) (by decide) (by decide) (by decide) hZ64.rf h65) cl_X12_534 rfl rfl (Nat.le_of_ble_eq_true rfl) ⟨Nat.le_of_ble_eq_true rfl, Nat.le_of_ble_eq_true rfl⟩ dX12_primary_180 (fun s67 F68 hZ70 h71 => ?_)
                  refine g_goto (tgt := 241) hC dX12_primary_183 (by decide) ?_
                  refine g_lv (lv' := [some (.ref t), none, none, none]) ⟨rfl, trivial⟩ ?_
                  exact rj_primary_241 hC   hZ70 h71
                · have h72 := h51.2 c52
                  refine g_iconst (v := zI 0) hC dX12_primary_151 rfl ?_
                  exact zr_zret hC hZ50 (Or.inl rfl) h72 dX12_primary_152
            · have h73 := h10.2 c11
              refine g_aload_n hC dX12_primary_98 rfl ?_
              refine zr_get (e := (zv s0 44)) hC hZ fl_X12_145 zb_44 (by decide) rfl dX12_primary_99 ?_
              refine g_istore_n (lv' := [some (.ref t), some (.int (zI a0)), some (.int (zI a1)), some (.int (zI (zv s0 44)))]) hC dX12_primary_102 (Nat.le_of_ble_eq_true rfl) rfl rfl ?_
              refine g_aload_n hC dX12_primary_103 rfl ?_
              refine zr_callVi (As := []) hC hZ rfl (rm_deeper X.la d b  hZ.rf h73) cl_X12_530 rfl rfl (Nat.le_of_ble_eq_true rfl) ⟨Nat.le_of_ble_eq_true rfl, Nat.le_of_ble_eq_true rfl⟩ dX12_primary_104 (fun r74 s75 F76 R77 hZ78 h79 => ?_)
              refine zr_if_ne (tgt := 112) hC R77 dX12_primary_107 (by decide) (fun c80 => ?_) (fun c80 => ?_)
              · have h81 := h79.1 c80
                refine g_aload_n hC dX12_primary_112 rfl ?_
                refine g_bipush (v := zI 39) hC dX12_primary_113 rfl ?_
                refine g_iconst (v := zI 1) hC dX12_primary_115 rfl ?_
                refine g_iload_n hC dX12_primary_116 rfl ?_
                refine g_iload_n hC dX12_primary_117 rfl ?_
                refine zr_callVv (As := [.int (zI 39), .int (zI 1), .int (zI a1), .int (zI (zv s0 44))]) hC hZ78 rfl (rm_goal X.la d b (by decide) (by decide) Ra1 (hZ.rv 44) hZ78.rf h81) cl_X12_534 rfl rfl (Nat.le_of_ble_eq_true rfl) ⟨Nat.le_of_ble_eq_true rfl, Nat.le_of_ble_eq_true rfl⟩ dX12_primary_118 (fun s83 F84 hZ86 h87 => ?_)
                refine g_aload_n hC dX12_primary_121 rfl ?_
                refine g_bipush (v := zI 28) hC dX12_primary_122 rfl ?_
                refine g_iconst (v := zI 0) hC dX12_primary_124 rfl ?_
                refine g_iconst (v := zI 0) hC dX12_primary_125 rfl ?_
                refine g_iconst (v := zI 0) hC dX12_primary_126 rfl ?_
                refine zr_callVv (As := [.int (zI 28), .int (zI 0), .int (zI 0), .int (zI 0)]) hC hZ86 rfl (rm_goal X.la d b (by decide) (by decide) (by decide) (by decide) hZ86.rf h87) cl_X12_534 rfl rfl (Nat.le_of_ble_eq_true rfl) ⟨Nat.le_of_ble_eq_true rfl, Nat.le_of_ble_eq_true rfl⟩ dX12_primary_127 (fun s89 F90 hZ92 h93 => ?_)
                refine g_goto (tgt := 241) hC dX12_primary_130 (by decide) ?_
                refine g_lv (lv' := [some (.ref t), none, none, none]) ⟨rfl, trivial⟩ ?_
                exact rj_primary_241 hC   hZ92 h93
              · have h94 := h79.2 c80
                refine g_iconst (v := zI 0) hC dX12_primary_110 rfl ?_
                exact zr_zret hC hZ78 (Or.inl rfl) h94 dX12_primary_111
          · have h95 := h8.2 c9
            refine g_aload_n hC dX12_primary_82 rfl ?_
            refine g_iconst (v := zI 2) hC dX12_primary_83 rfl ?_
            refine g_iload_n hC dX12_primary_84 rfl ?_
            refine g_iconst (v := zI 0) hC dX12_primary_85 rfl ?_
            refine zr_callVv (As := [.int (zI 2), .int (zI a1), .int (zI 0)]) hC hZ rfl (rm_leaf X.la d b (by decide) Ra1 (by decide) hZ.rf h95) cl_X12_570 rfl rfl (Nat.le_of_ble_eq_true rfl) ⟨Nat.le_of_ble_eq_true rfl, Nat.le_of_ble_eq_true rfl⟩ dX12_primary_86 (fun s97 F98 hZ100 h101 => ?_)
            refine g_goto (tgt := 241) hC dX12_primary_89 (by decide) ?_
            refine g_lv (lv' := [some (.ref t), none, none, none]) ⟨rfl, trivial⟩ ?_
            exact rj_primary_241 hC   hZ100 h101
        · have h102 := h6.2 c7
          refine g_aload_n hC dX12_primary_66 rfl ?_
          refine g_iconst (v := zI 2) hC dX12_primary_67 rfl ?_
          refine g_iload_n hC dX12_primary_68 rfl ?_
          refine g_iconst (v := zI (-1)) hC dX12_primary_69 rfl ?_
          refine zr_callVv (As := [.int (zI 2), .int (zI a1), .int (zI (-1))]) hC hZ rfl (rm_leaf X.la d b (by decide) Ra1 (by decide) hZ.rf h102) cl_X12_570 rfl rfl (Nat.le_of_ble_eq_true rfl) ⟨Nat.le_of_ble_eq_true rfl, Nat.le_of_ble_eq_true rfl⟩ dX12_primary_70 (fun s104 F105 hZ107 h108 => ?_)
          refine g_goto (tgt := 241) hC dX12_primary_73 (by decide) ?_
          refine g_lv (lv' := [some (.ref t), none, none, none]) ⟨rfl, trivial⟩ ?_
          exact rj_primary_241 hC   hZ107 h108
      · have h109 := h4.2 c5
        refine g_aload_n hC dX12_primary_45 rfl ?_
        refine g_iconst (v := zI 3) hC dX12_primary_46 rfl ?_
        refine g_iload_n hC dX12_primary_47 rfl ?_
        refine g_aload_n hC dX12_primary_48 rfl ?_
        refine zr_geta hC hZ fl_X12_45 zb_11 (by decide) dX12_primary_49 ?_
        refine g_iload_n hC dX12_primary_52 rfl ?_
        obtain ⟨o110, h111⟩ := h109
        obtain ⟨o112, h113⟩ := h111
        refine zr_iald (v := (za s0 11 (Int.toNat a1))) hC hZ zk_11 zb_11 zn_11 (by decide) o110 o112 rfl dX12_primary_53 ?_
        refine zr_callVv (As := [.int (zI 3), .int (zI a1), .int (zI (za s0 11 (Int.toNat a1)))]) hC hZ rfl (rm_leaf X.la d b (by decide) Ra1 (hZ.ra 11 _) hZ.rf h113) cl_X12_570 rfl rfl (Nat.le_of_ble_eq_true rfl) ⟨Nat.le_of_ble_eq_true rfl, Nat.le_of_ble_eq_true rfl⟩ dX12_primary_54 (fun s115 F116 hZ118 h119 => ?_)
        refine g_goto (tgt := 241) hC dX12_primary_57 (by decide) ?_
        refine g_lv (lv' := [some (.ref t), none, none, none]) ⟨rfl, trivial⟩ ?_
        exact rj_primary_241 hC   hZ118 h119
    · have h120 := h2.2 c3
      refine g_aload_n hC dX12_primary_25 rfl ?_
      refine g_iconst (v := zI 2) hC dX12_primary_26 rfl ?_
      refine g_iload_n hC dX12_primary_27 rfl ?_
      refine g_aload_n hC dX12_primary_28 rfl ?_
      refine zr_geta hC hZ fl_X12_45 zb_11 (by decide) dX12_primary_29 ?_
      refine g_iload_n hC dX12_primary_32 rfl ?_
      obtain ⟨o121, h122⟩ := h120
      obtain ⟨o123, h124⟩ := h122
      refine zr_iald (v := (za s0 11 (Int.toNat a1))) hC hZ zk_11 zb_11 zn_11 (by decide) o121 o123 rfl dX12_primary_33 ?_
      refine zr_callVv (As := [.int (zI 2), .int (zI a1), .int (zI (za s0 11 (Int.toNat a1)))]) hC hZ rfl (rm_leaf X.la d b (by decide) Ra1 (hZ.ra 11 _) hZ.rf h124) cl_X12_570 rfl rfl (Nat.le_of_ble_eq_true rfl) ⟨Nat.le_of_ble_eq_true rfl, Nat.le_of_ble_eq_true rfl⟩ dX12_primary_34 (fun s126 F127 hZ129 h130 => ?_)
      refine g_goto (tgt := 241) hC dX12_primary_37 (by decide) ?_
      refine g_lv (lv' := [some (.ref t), none, none, none]) ⟨rfl, trivial⟩ ?_
      exact rj_primary_241 hC   hZ129 h130
  · have h131 := hw.2 c1
    refine g_aload_n hC dX12_primary_5 rfl ?_
    refine g_iconst (v := zI 1) hC dX12_primary_6 rfl ?_
    refine g_iload_n hC dX12_primary_7 rfl ?_
    refine g_aload_n hC dX12_primary_8 rfl ?_
    refine zr_geta hC hZ fl_X12_45 zb_11 (by decide) dX12_primary_9 ?_
    refine g_iload_n hC dX12_primary_12 rfl ?_
    obtain ⟨o132, h133⟩ := h131
    obtain ⟨o134, h135⟩ := h133
    refine zr_iald (v := (za s0 11 (Int.toNat a1))) hC hZ zk_11 zb_11 zn_11 (by decide) o132 o134 rfl dX12_primary_13 ?_
    refine zr_callVv (As := [.int (zI 1), .int (zI a1), .int (zI (za s0 11 (Int.toNat a1)))]) hC hZ rfl (rm_leaf X.la d b (by decide) Ra1 (hZ.ra 11 _) hZ.rf h135) cl_X12_570 rfl rfl (Nat.le_of_ble_eq_true rfl) ⟨Nat.le_of_ble_eq_true rfl, Nat.le_of_ble_eq_true rfl⟩ dX12_primary_14 (fun s137 F138 hZ140 h141 => ?_)
    refine g_goto (tgt := 241) hC dX12_primary_17 (by decide) ?_
    refine g_lv (lv' := [some (.ref t), none, none, none]) ⟨rfl, trivial⟩ ?_
    exact rj_primary_241 hC   hZ140 h141
